/-! part 80.b: the law: cases (gen/gen80.py) -/
set_option maxRecDepth 100000 in
theorem jx_i441 : jx_I jv_T2 441 3 (some .int) 7 111 jv_c441 := ⟨rfl, rfl, rfl, rfl, rfl⟩
set_option maxRecDepth 100000 in
theorem jv_i419 : jv_I 419 2 none 6 90 jv_c419 := ⟨rfl, rfl, rfl, rfl, rfl⟩
set_option maxRecDepth 100000 in
/-- ProgramBox.end: it throws -/
theorem jx_e20 (hTb : jv_TOk jv_Tb) (p0 : Int32) (p1 : Int32) (p2 : Int32) (p3 : Int32) (p4 : Int32) (p5 : Int32) (g1 : p1 < (0 : Int32)) : jx_Th 419 [.ref 0, .int p1] (jv_H (jx_K 227) jx_If jx_L0 (jx_R 227)) 227 1572950 1 (jv_H (jx_K 227) jx_If jx_L0 (jx_R 227)) 228 1572956 := by
  refine jx_Th.of hTb (y := 419) rfl (Nat.le_of_ble_eq_true rfl) ?_
  intro p l e R s m args below meth c E hl F hZ h0 ht hRc hRs
  show jw p l e R s m args below meth c E 2 227 1572950 _ 0 [(0, .ref 0), (1, .int p1)] [] (jv_H (jx_K 227) jx_If jx_L0 (jx_R 227)) 227 1572950
  refine jw.steps F jv_i419 1 (pc' := 1) (l' := [(0, .ref 0), (1, .int p1)]) (st' := [.int p1]) rfl ?_
  refine jw.br F jv_i419 (pc' := 12) (st' := []) rfl (jv_bi_lt.trans (jx_got g1)) ?_
  exact jw.throw hl F hZ h0 rfl jv_i419 ht 1 62 "the tape has not so many bytes" (List.mem_of_getElem? (i := 1) rfl) (by decide +kernel) (by decide +kernel) (by decide +kernel) (by decide +kernel) (by decide +kernel) rfl (by decide) (by decide) (by decide) (by omega) (by omega)

set_option maxRecDepth 100000 in
/-- the law's end -/
theorem jx_w21 (hTb : jv_TOk jv_Tb) (hT2 : jx_T2Ok) (p0 : Int32) (p1 : Int32) (p2 : Int32) (p3 : Int32) (p4 : Int32) (p5 : Int32) (g1 : p1 < (0 : Int32)) : jx_Wr 441 [(0, 5, 8, 19)] [.ref 0, .int p1] (jv_H (jx_K 227) jx_If jx_L0 (jx_R 227)) 227 1572950 (some (.int (1 : Int32)), (jv_H (jx_K 227) jx_If jx_L0 (jx_R 227)), 228, 1572956) := by
  refine jx_Wr.of hT2 (by decide) rfl (Nat.le_of_ble_eq_true rfl) ?_
  intro p l e R s m args below meth c E hl F hZ htb hRc hRs
  show jw p l e R s m args below meth c E 3 227 1572950 _ 0 [(0, .ref 0), (1, .int p1)] [] (jv_H (jx_K 227) jx_If jx_L0 (jx_R 227)) 227 1572950
  have hRc : R.cells = 228 - 227 := hRc
  have hRs : R.slots = 1572956 - 1572950 := hRs
  refine jw.steps F jx_i441 2 (pc' := 2) (l' := [(0, .ref 0), (1, .int p1)]) (st' := [.int p1, .ref 0]) rfl ?_
  refine jw.cat hTb hl F hZ rfl jx_i441 htb rfl jv_i419 [.ref 0, .int p1] rfl rfl rfl rfl rfl (jx_cal2 rfl (jv_H_at rfl) rfl rfl) rfl (jx_e20 hTb p0 p1 p2 p3 p4 p5 g1) (by omega) (by omega) (by omega) (by omega) [] (0, 5, 8, 19) [] rfl (fun z h => absurd h List.not_mem_nil) (by decide) rfl rfl (Or.inr ⟨2, rfl, rfl, rfl⟩) (by decide) ?_
  refine jw.steps F jx_i441 1 (pc' := 10) (l' := []) (st' := [.int (1 : Int32)]) rfl ?_
  exact jw.ret F jx_i441 rfl rfl

set_option maxRecDepth 100000 in
theorem jv_i352 : jv_I 352 2 none 0 0 jv_c352 := ⟨rfl, rfl, rfl, rfl, rfl⟩
set_option maxRecDepth 100000 in
/-- ProgramBoxModel.end -/
theorem jx_e22 (p0 : Int32) (p1 : Int32) (p2 : Int32) (p3 : Int32) (p4 : Int32) (p5 : Int32) (g1 : p1 < (0 : Int32)) : jv_Ms 352 [.ref 178, .int p1] (jv_H (jx_K 227) jx_If jx_L0 (jx_R 227)) 228 1572956 (none, (jv_H (jx_K 227) (jv_u (jv_u jx_If 178 0 (1 : Int32)) 178 2 (0 : Int32)) jx_L0 (jx_R 227)), 228, 1572956) := by
  show jv_Ev 352 0 [(0, .ref 178), (1, .int p1)] [] (jv_H (jx_K 227) jx_If jx_L0 (jx_R 227)) 228 1572956 _
  refine jv_Ev.steps jv_i352 2 (pc' := 2) (l' := [(0, .ref 178), (1, .int p1)]) (st' := [.int p1, .ref 178]) rfl ?_
  refine jv_Ev.br jv_i352 (pc' := 13) (st' := [.ref 178]) rfl (jv_bi_lt.trans (jx_got g1)) ?_
  refine jv_Ev.steps jv_i352 2 (pc' := 18) (l' := [(0, .ref 178), (1, .int p1)]) (st' := [.int (1 : Int32), .ref 178]) rfl ?_
  refine jv_Ev.m jv_i352 (pc' := 21) (st' := []) rfl rfl (jv_m_putI rfl rfl rfl rfl rfl) ?_
  refine jv_Ev.steps jv_i352 2 (pc' := 23) (l' := [(0, .ref 178), (1, .int p1)]) (st' := [.ref 178, .ref 178]) rfl ?_
  refine jv_Ev.m jv_i352 (pc' := 26) (st' := [.int (1 : Int32), .ref 178]) rfl rfl (jv_m_getI rfl rfl rfl rfl) ?_
  refine jv_Ev.br jv_i352 (pc' := 29) (st' := [.ref 178]) rfl (jv_bi_le.trans (jx_gof (by decide))) ?_
  refine jv_Ev.steps jv_i352 1 (pc' := 30) (l' := [(0, .ref 178), (1, .int p1)]) (st' := [.ref 178, .ref 178]) rfl ?_
  refine jv_Ev.m jv_i352 (pc' := 33) (st' := [.int (0 : Int32), .ref 178]) rfl rfl (jv_m_getI rfl rfl rfl rfl) ?_
  refine jv_Ev.steps jv_i352 1 (pc' := 37) (l' := [(0, .ref 178), (1, .int p1)]) (st' := [.int (0 : Int32), .ref 178]) rfl ?_
  refine jv_Ev.m jv_i352 (pc' := 40) (st' := []) rfl rfl (jv_m_putI rfl rfl rfl rfl rfl) ?_
  exact jv_Ev.ret jv_i352 rfl rfl

set_option maxRecDepth 100000 in
/-- ProgramBoxModel.thrown -/
theorem jx_e23 (p0 : Int32) (p1 : Int32) (p2 : Int32) (p3 : Int32) (p4 : Int32) (p5 : Int32) (g1 : p1 < (0 : Int32)) : jv_Ms 350 [.ref 178] (jv_H (jx_K 227) (jv_u (jv_u jx_If 178 0 (1 : Int32)) 178 2 (0 : Int32)) jx_L0 (jx_R 227)) 228 1572956 (some (.int (1 : Int32)), (jv_H (jx_K 227) (jv_u (jv_u jx_If 178 0 (1 : Int32)) 178 2 (0 : Int32)) jx_L0 (jx_R 227)), 228, 1572956) := by
  show jv_Ev 350 0 [(0, .ref 178)] [] (jv_H (jx_K 227) (jv_u (jv_u jx_If 178 0 (1 : Int32)) 178 2 (0 : Int32)) jx_L0 (jx_R 227)) 228 1572956 _
  refine jv_Ev.steps jv_i350 1 (pc' := 1) (l' := [(0, .ref 178)]) (st' := [.ref 178]) rfl ?_
  refine jv_Ev.m jv_i350 (pc' := 4) (st' := [.int (1 : Int32)]) rfl rfl (jv_m_getI rfl rfl rfl rfl) ?_
  exact jv_Ev.ret jv_i350 rfl rfl

set_option maxRecDepth 100000 in
/-- the law: case 1, one way -/
theorem jx_l7 (p0 : Int32) (p1 : Int32) (p2 : Int32) (p3 : Int32) (p4 : Int32) (p5 : Int32) (g1 : p1 < (0 : Int32)) (hsw : p0 &&& (31 : Int32) = (1 : Int32)) {p : Program} {l : Launch} {e : Env} {R : Room} {s : State} {m : MethodId} {args : Array Value} {below : List Frame} {meth : Method} {c : Code} {E : jv_Env} {Q : State → Prop} (hTb : jv_TOk jv_Tb) (hT2 : jx_T2Ok) (hl : l.stackTraces = false) (F : jx_F jv_T2 439 E p R s m args meth c) (hZ : jx_Z E s) (hRc : R.cells = 600002) (hRs : R.slots = 7302232) {bb : Nat} {xs : Nat → Int32} (hX : va_X bb 6 xs s E.2.2.2.2) (hbB : bb < E.2.2.2.1) (hE2 : E.1 1000002 = bb) (hQ : ∀ (l0 : jv_L) (G : jv_G) (n sl : Nat), n ≤ 600002 → sl ≤ 7302232 → jw p l e R s m args below meth c E 8 0 0 Q 1532 l0 [.int (1 : Int32)] G n sl) (q0 : xs 0 = p0) (q1 : xs 1 = p1) (q2 : xs 2 = p2) (q3 : xs 3 = p3) (q4 : xs 4 = p4) (q5 : xs 5 = p5) : jw p l e R s m args below meth c E 8 0 0 Q 33 [(0, .ref 1000002), (1, .ref 0), (2, .ref 178), (3, .ref 226), (4, .int (0 : Int32))] [] (jv_H (jx_K 227) jx_If jx_L0 (jx_R 227)) 227 1572950 := by
  refine jw.steps F jx_i439 2 (pc' := 36) (l' := [(0, .ref 1000002), (1, .ref 0), (2, .ref 178), (3, .ref 226), (4, .int (0 : Int32))]) (st' := [.int (0 : Int32), .ref 1000002]) rfl ?_
  refine jw.sld F jx_i439 hX hbB hE2 (pc' := 37) rfl rfl (show vp_in (nI 0) 6 from vp_in_nI (by decide) (by decide)) q0 rfl ?_
  refine jw.steps F jx_i439 2 (pc' := 40) (l' := [(0, .ref 1000002), (1, .ref 0), (2, .ref 178), (3, .ref 226), (4, .int (0 : Int32))]) (st' := [.int (p0 &&& (31 : Int32))]) rfl ?_
  refine jw.br F jx_i439 (pc' := 268) (st' := []) rfl (by rw [hsw]; rfl) ?_
  refine jw.steps F jx_i439 5 (pc' := 274) (l' := [(0, .ref 1000002), (1, .ref 0), (2, .ref 178), (3, .ref 226), (4, .int (0 : Int32))]) (st' := [.int (1 : Int32), .ref 1000002, .ref 0]) rfl ?_
  refine jw.sld F jx_i439 hX hbB hE2 (pc' := 275) rfl rfl (show vp_in (nI 1) 6 from vp_in_nI (by decide) (by decide)) q1 rfl ?_
  refine jw.wr F hl hZ rfl jx_i439 jx_i441 [.ref 0, .int p1] (pc' := 278) (S' := [.int (1 : Int32)]) rfl (List.mem_of_getElem? (i := 1) rfl) (List.mem_of_getElem? (i := 1) rfl) rfl rfl rfl (jx_w21 hTb hT2 p0 p1 p2 p3 p4 p5 g1) (by omega) (by omega) (by omega) (by omega) rfl rfl ?_
  refine jw.steps F jx_i439 6 (pc' := 286) (l' := [(5, .int (1 : Int32)), (0, .ref 1000002), (1, .ref 0), (2, .ref 178), (3, .ref 226), (4, .int (0 : Int32))]) (st' := [.int (1 : Int32), .ref 1000002, .ref 178]) rfl ?_
  refine jw.sld F jx_i439 hX hbB hE2 (pc' := 287) rfl rfl (show vp_in (nI 1) 6 from vp_in_nI (by decide) (by decide)) q1 rfl ?_
  refine jw.ca hTb F jx_i439 (pc' := 290) (S' := []) rfl jv_i352 [.ref 178, .int p1] rfl rfl rfl rfl (jx_cal2 rfl (jv_H_at rfl) rfl rfl) rfl (jx_e22 p0 p1 p2 p3 p4 p5 g1) (by omega) (by omega) rfl rfl ?_
  refine jw.steps F jx_i439 1 (pc' := 291) (l' := [(5, .int (1 : Int32)), (0, .ref 1000002), (1, .ref 0), (2, .ref 178), (3, .ref 226), (4, .int (0 : Int32))]) (st' := [.ref 178]) rfl ?_
  refine jw.ca hTb F jx_i439 (pc' := 294) (S' := [.int (1 : Int32)]) rfl jv_i350 [.ref 178] rfl rfl rfl rfl (jx_cal2 rfl (jv_H_at rfl) rfl rfl) rfl (jx_e23 p0 p1 p2 p3 p4 p5 g1) (by omega) (by omega) rfl rfl ?_
  refine jw.steps F jx_i439 1 (pc' := 296) (l' := [(5, .int (1 : Int32)), (0, .ref 1000002), (1, .ref 0), (2, .ref 178), (3, .ref 226), (4, .int (0 : Int32))]) (st' := [.int (1 : Int32), .int (1 : Int32)]) rfl ?_
  refine jw.br F jx_i439 (pc' := 301) (st' := []) rfl (jv_bc_eq.trans (jx_got (by decide))) ?_
  refine jw.steps F jx_i439 5 (pc' := 26) (l' := [(4, .int (6 : Int32)), (5, .int (1 : Int32)), (0, .ref 1000002), (1, .ref 0), (2, .ref 178), (3, .ref 226)]) (st' := [.ref 1000002, .int (6 : Int32)]) rfl ?_
  refine jw.slen F jx_i439 hX hbB hE2 (pc' := 27) rfl rfl rfl ?_
  refine jw.steps F jx_i439 2 (pc' := 30) (l' := [(4, .int (6 : Int32)), (5, .int (1 : Int32)), (0, .ref 1000002), (1, .ref 0), (2, .ref 178), (3, .ref 226)]) (st' := [.int (0 : Int32), .int (6 : Int32)]) rfl ?_
  refine jw.br F jx_i439 (pc' := 1531) (st' := []) rfl (jv_bc_gt.trans (jx_got (by decide))) ?_
  refine jw.steps F jx_i439 1 (pc' := 1532) (l' := [(4, .int (6 : Int32)), (5, .int (1 : Int32)), (0, .ref 1000002), (1, .ref 0), (2, .ref 178), (3, .ref 226)]) (st' := [.int (1 : Int32)]) rfl ?_
  exact hQ _ _ _ _ (by omega) (by omega)

set_option maxRecDepth 100000 in
/-- ProgramBox.end: it throws -/
theorem jx_e24 (hTb : jv_TOk jv_Tb) (p0 : Int32) (p1 : Int32) (p2 : Int32) (p3 : Int32) (p4 : Int32) (p5 : Int32) (g1 : ¬ p1 < (0 : Int32)) (g2 : (0 : Int32) < p1) : jx_Th 419 [.ref 0, .int p1] (jv_H (jx_K 227) jx_If jx_L0 (jx_R 227)) 227 1572950 1 (jv_H (jx_K 227) jx_If jx_L0 (jx_R 227)) 228 1572956 := by
  refine jx_Th.of hTb (y := 419) rfl (Nat.le_of_ble_eq_true rfl) ?_
  intro p l e R s m args below meth c E hl F hZ h0 ht hRc hRs
  show jw p l e R s m args below meth c E 2 227 1572950 _ 0 [(0, .ref 0), (1, .int p1)] [] (jv_H (jx_K 227) jx_If jx_L0 (jx_R 227)) 227 1572950
  refine jw.steps F jv_i419 1 (pc' := 1) (l' := [(0, .ref 0), (1, .int p1)]) (st' := [.int p1]) rfl ?_
  refine jw.br F jv_i419 (pc' := 4) (st' := []) rfl (jv_bi_lt.trans (jx_gof g1)) ?_
  refine jw.steps F jv_i419 2 (pc' := 6) (l' := [(0, .ref 0), (1, .int p1)]) (st' := [.ref 0, .int p1]) rfl ?_
  refine jw.me F jv_i419 (pc' := 9) (st' := [.int (0 : Int32), .int p1]) rfl rfl (jv_m_getI rfl rfl rfl rfl) ?_
  refine jw.br F jv_i419 (pc' := 12) (st' := []) rfl (jv_bc_le.trans (jx_gof (Int32.not_le.mpr g2))) ?_
  exact jw.throw hl F hZ h0 rfl jv_i419 ht 1 62 "the tape has not so many bytes" (List.mem_of_getElem? (i := 1) rfl) (by decide +kernel) (by decide +kernel) (by decide +kernel) (by decide +kernel) (by decide +kernel) rfl (by decide) (by decide) (by decide) (by omega) (by omega)

set_option maxRecDepth 100000 in
/-- the law's end -/
theorem jx_w25 (hTb : jv_TOk jv_Tb) (hT2 : jx_T2Ok) (p0 : Int32) (p1 : Int32) (p2 : Int32) (p3 : Int32) (p4 : Int32) (p5 : Int32) (g1 : ¬ p1 < (0 : Int32)) (g2 : (0 : Int32) < p1) : jx_Wr 441 [(0, 5, 8, 19)] [.ref 0, .int p1] (jv_H (jx_K 227) jx_If jx_L0 (jx_R 227)) 227 1572950 (some (.int (1 : Int32)), (jv_H (jx_K 227) jx_If jx_L0 (jx_R 227)), 228, 1572956) := by
  refine jx_Wr.of hT2 (by decide) rfl (Nat.le_of_ble_eq_true rfl) ?_
  intro p l e R s m args below meth c E hl F hZ htb hRc hRs
  show jw p l e R s m args below meth c E 3 227 1572950 _ 0 [(0, .ref 0), (1, .int p1)] [] (jv_H (jx_K 227) jx_If jx_L0 (jx_R 227)) 227 1572950
  have hRc : R.cells = 228 - 227 := hRc
  have hRs : R.slots = 1572956 - 1572950 := hRs
  refine jw.steps F jx_i441 2 (pc' := 2) (l' := [(0, .ref 0), (1, .int p1)]) (st' := [.int p1, .ref 0]) rfl ?_
  refine jw.cat hTb hl F hZ rfl jx_i441 htb rfl jv_i419 [.ref 0, .int p1] rfl rfl rfl rfl rfl (jx_cal2 rfl (jv_H_at rfl) rfl rfl) rfl (jx_e24 hTb p0 p1 p2 p3 p4 p5 g1 g2) (by omega) (by omega) (by omega) (by omega) [] (0, 5, 8, 19) [] rfl (fun z h => absurd h List.not_mem_nil) (by decide) rfl rfl (Or.inr ⟨2, rfl, rfl, rfl⟩) (by decide) ?_
  refine jw.steps F jx_i441 1 (pc' := 10) (l' := []) (st' := [.int (1 : Int32)]) rfl ?_
  exact jw.ret F jx_i441 rfl rfl

set_option maxRecDepth 100000 in
/-- ProgramBoxModel.end -/
theorem jx_e26 (p0 : Int32) (p1 : Int32) (p2 : Int32) (p3 : Int32) (p4 : Int32) (p5 : Int32) (g1 : ¬ p1 < (0 : Int32)) (g2 : (0 : Int32) < p1) : jv_Ms 352 [.ref 178, .int p1] (jv_H (jx_K 227) jx_If jx_L0 (jx_R 227)) 228 1572956 (none, (jv_H (jx_K 227) (jv_u (jv_u jx_If 178 0 (1 : Int32)) 178 2 (0 : Int32)) jx_L0 (jx_R 227)), 228, 1572956) := by
  show jv_Ev 352 0 [(0, .ref 178), (1, .int p1)] [] (jv_H (jx_K 227) jx_If jx_L0 (jx_R 227)) 228 1572956 _
  refine jv_Ev.steps jv_i352 2 (pc' := 2) (l' := [(0, .ref 178), (1, .int p1)]) (st' := [.int p1, .ref 178]) rfl ?_
  refine jv_Ev.br jv_i352 (pc' := 5) (st' := [.ref 178]) rfl (jv_bi_lt.trans (jx_gof g1)) ?_
  refine jv_Ev.steps jv_i352 2 (pc' := 7) (l' := [(0, .ref 178), (1, .int p1)]) (st' := [.ref 178, .int p1, .ref 178]) rfl ?_
  refine jv_Ev.m jv_i352 (pc' := 10) (st' := [.int (0 : Int32), .int p1, .ref 178]) rfl rfl (jv_m_getI rfl rfl rfl rfl) ?_
  refine jv_Ev.br jv_i352 (pc' := 13) (st' := [.ref 178]) rfl (jv_bc_le.trans (jx_gof (Int32.not_le.mpr g2))) ?_
  refine jv_Ev.steps jv_i352 2 (pc' := 18) (l' := [(0, .ref 178), (1, .int p1)]) (st' := [.int (1 : Int32), .ref 178]) rfl ?_
  refine jv_Ev.m jv_i352 (pc' := 21) (st' := []) rfl rfl (jv_m_putI rfl rfl rfl rfl rfl) ?_
  refine jv_Ev.steps jv_i352 2 (pc' := 23) (l' := [(0, .ref 178), (1, .int p1)]) (st' := [.ref 178, .ref 178]) rfl ?_
  refine jv_Ev.m jv_i352 (pc' := 26) (st' := [.int (1 : Int32), .ref 178]) rfl rfl (jv_m_getI rfl rfl rfl rfl) ?_
  refine jv_Ev.br jv_i352 (pc' := 29) (st' := [.ref 178]) rfl (jv_bi_le.trans (jx_gof (by decide))) ?_
  refine jv_Ev.steps jv_i352 1 (pc' := 30) (l' := [(0, .ref 178), (1, .int p1)]) (st' := [.ref 178, .ref 178]) rfl ?_
  refine jv_Ev.m jv_i352 (pc' := 33) (st' := [.int (0 : Int32), .ref 178]) rfl rfl (jv_m_getI rfl rfl rfl rfl) ?_
  refine jv_Ev.steps jv_i352 1 (pc' := 37) (l' := [(0, .ref 178), (1, .int p1)]) (st' := [.int (0 : Int32), .ref 178]) rfl ?_
  refine jv_Ev.m jv_i352 (pc' := 40) (st' := []) rfl rfl (jv_m_putI rfl rfl rfl rfl rfl) ?_
  exact jv_Ev.ret jv_i352 rfl rfl

set_option maxRecDepth 100000 in
/-- ProgramBoxModel.thrown -/
theorem jx_e27 (p0 : Int32) (p1 : Int32) (p2 : Int32) (p3 : Int32) (p4 : Int32) (p5 : Int32) (g1 : ¬ p1 < (0 : Int32)) (g2 : (0 : Int32) < p1) : jv_Ms 350 [.ref 178] (jv_H (jx_K 227) (jv_u (jv_u jx_If 178 0 (1 : Int32)) 178 2 (0 : Int32)) jx_L0 (jx_R 227)) 228 1572956 (some (.int (1 : Int32)), (jv_H (jx_K 227) (jv_u (jv_u jx_If 178 0 (1 : Int32)) 178 2 (0 : Int32)) jx_L0 (jx_R 227)), 228, 1572956) := by
  show jv_Ev 350 0 [(0, .ref 178)] [] (jv_H (jx_K 227) (jv_u (jv_u jx_If 178 0 (1 : Int32)) 178 2 (0 : Int32)) jx_L0 (jx_R 227)) 228 1572956 _
  refine jv_Ev.steps jv_i350 1 (pc' := 1) (l' := [(0, .ref 178)]) (st' := [.ref 178]) rfl ?_
  refine jv_Ev.m jv_i350 (pc' := 4) (st' := [.int (1 : Int32)]) rfl rfl (jv_m_getI rfl rfl rfl rfl) ?_
  exact jv_Ev.ret jv_i350 rfl rfl

set_option maxRecDepth 100000 in
/-- the law: case 1, one way -/
theorem jx_l8 (p0 : Int32) (p1 : Int32) (p2 : Int32) (p3 : Int32) (p4 : Int32) (p5 : Int32) (g1 : ¬ p1 < (0 : Int32)) (g2 : (0 : Int32) < p1) (hsw : p0 &&& (31 : Int32) = (1 : Int32)) {p : Program} {l : Launch} {e : Env} {R : Room} {s : State} {m : MethodId} {args : Array Value} {below : List Frame} {meth : Method} {c : Code} {E : jv_Env} {Q : State → Prop} (hTb : jv_TOk jv_Tb) (hT2 : jx_T2Ok) (hl : l.stackTraces = false) (F : jx_F jv_T2 439 E p R s m args meth c) (hZ : jx_Z E s) (hRc : R.cells = 600002) (hRs : R.slots = 7302232) {bb : Nat} {xs : Nat → Int32} (hX : va_X bb 6 xs s E.2.2.2.2) (hbB : bb < E.2.2.2.1) (hE2 : E.1 1000002 = bb) (hQ : ∀ (l0 : jv_L) (G : jv_G) (n sl : Nat), n ≤ 600002 → sl ≤ 7302232 → jw p l e R s m args below meth c E 8 0 0 Q 1532 l0 [.int (1 : Int32)] G n sl) (q0 : xs 0 = p0) (q1 : xs 1 = p1) (q2 : xs 2 = p2) (q3 : xs 3 = p3) (q4 : xs 4 = p4) (q5 : xs 5 = p5) : jw p l e R s m args below meth c E 8 0 0 Q 33 [(0, .ref 1000002), (1, .ref 0), (2, .ref 178), (3, .ref 226), (4, .int (0 : Int32))] [] (jv_H (jx_K 227) jx_If jx_L0 (jx_R 227)) 227 1572950 := by
  refine jw.steps F jx_i439 2 (pc' := 36) (l' := [(0, .ref 1000002), (1, .ref 0), (2, .ref 178), (3, .ref 226), (4, .int (0 : Int32))]) (st' := [.int (0 : Int32), .ref 1000002]) rfl ?_
  refine jw.sld F jx_i439 hX hbB hE2 (pc' := 37) rfl rfl (show vp_in (nI 0) 6 from vp_in_nI (by decide) (by decide)) q0 rfl ?_
  refine jw.steps F jx_i439 2 (pc' := 40) (l' := [(0, .ref 1000002), (1, .ref 0), (2, .ref 178), (3, .ref 226), (4, .int (0 : Int32))]) (st' := [.int (p0 &&& (31 : Int32))]) rfl ?_
  refine jw.br F jx_i439 (pc' := 268) (st' := []) rfl (by rw [hsw]; rfl) ?_
  refine jw.steps F jx_i439 5 (pc' := 274) (l' := [(0, .ref 1000002), (1, .ref 0), (2, .ref 178), (3, .ref 226), (4, .int (0 : Int32))]) (st' := [.int (1 : Int32), .ref 1000002, .ref 0]) rfl ?_
  refine jw.sld F jx_i439 hX hbB hE2 (pc' := 275) rfl rfl (show vp_in (nI 1) 6 from vp_in_nI (by decide) (by decide)) q1 rfl ?_
  refine jw.wr F hl hZ rfl jx_i439 jx_i441 [.ref 0, .int p1] (pc' := 278) (S' := [.int (1 : Int32)]) rfl (List.mem_of_getElem? (i := 1) rfl) (List.mem_of_getElem? (i := 1) rfl) rfl rfl rfl (jx_w25 hTb hT2 p0 p1 p2 p3 p4 p5 g1 g2) (by omega) (by omega) (by omega) (by omega) rfl rfl ?_
  refine jw.steps F jx_i439 6 (pc' := 286) (l' := [(5, .int (1 : Int32)), (0, .ref 1000002), (1, .ref 0), (2, .ref 178), (3, .ref 226), (4, .int (0 : Int32))]) (st' := [.int (1 : Int32), .ref 1000002, .ref 178]) rfl ?_
  refine jw.sld F jx_i439 hX hbB hE2 (pc' := 287) rfl rfl (show vp_in (nI 1) 6 from vp_in_nI (by decide) (by decide)) q1 rfl ?_
  refine jw.ca hTb F jx_i439 (pc' := 290) (S' := []) rfl jv_i352 [.ref 178, .int p1] rfl rfl rfl rfl (jx_cal2 rfl (jv_H_at rfl) rfl rfl) rfl (jx_e26 p0 p1 p2 p3 p4 p5 g1 g2) (by omega) (by omega) rfl rfl ?_
  refine jw.steps F jx_i439 1 (pc' := 291) (l' := [(5, .int (1 : Int32)), (0, .ref 1000002), (1, .ref 0), (2, .ref 178), (3, .ref 226), (4, .int (0 : Int32))]) (st' := [.ref 178]) rfl ?_
  refine jw.ca hTb F jx_i439 (pc' := 294) (S' := [.int (1 : Int32)]) rfl jv_i350 [.ref 178] rfl rfl rfl rfl (jx_cal2 rfl (jv_H_at rfl) rfl rfl) rfl (jx_e27 p0 p1 p2 p3 p4 p5 g1 g2) (by omega) (by omega) rfl rfl ?_
  refine jw.steps F jx_i439 1 (pc' := 296) (l' := [(5, .int (1 : Int32)), (0, .ref 1000002), (1, .ref 0), (2, .ref 178), (3, .ref 226), (4, .int (0 : Int32))]) (st' := [.int (1 : Int32), .int (1 : Int32)]) rfl ?_
  refine jw.br F jx_i439 (pc' := 301) (st' := []) rfl (jv_bc_eq.trans (jx_got (by decide))) ?_
  refine jw.steps F jx_i439 5 (pc' := 26) (l' := [(4, .int (6 : Int32)), (5, .int (1 : Int32)), (0, .ref 1000002), (1, .ref 0), (2, .ref 178), (3, .ref 226)]) (st' := [.ref 1000002, .int (6 : Int32)]) rfl ?_
  refine jw.slen F jx_i439 hX hbB hE2 (pc' := 27) rfl rfl rfl ?_
  refine jw.steps F jx_i439 2 (pc' := 30) (l' := [(4, .int (6 : Int32)), (5, .int (1 : Int32)), (0, .ref 1000002), (1, .ref 0), (2, .ref 178), (3, .ref 226)]) (st' := [.int (0 : Int32), .int (6 : Int32)]) rfl ?_
  refine jw.br F jx_i439 (pc' := 1531) (st' := []) rfl (jv_bc_gt.trans (jx_got (by decide))) ?_
  refine jw.steps F jx_i439 1 (pc' := 1532) (l' := [(4, .int (6 : Int32)), (5, .int (1 : Int32)), (0, .ref 1000002), (1, .ref 0), (2, .ref 178), (3, .ref 226)]) (st' := [.int (1 : Int32)]) rfl ?_
  exact hQ _ _ _ _ (by omega) (by omega)

set_option maxRecDepth 100000 in
/-- ProgramBox.end -/
theorem jx_e28 (p0 : Int32) (p1 : Int32) (p2 : Int32) (p3 : Int32) (p4 : Int32) (p5 : Int32) (g1 : ¬ p1 < (0 : Int32)) (g2 : ¬ (0 : Int32) < p1) : jv_Ms 419 [.ref 0, .int p1] (jv_H (jx_K 227) jx_If jx_L0 (jx_R 227)) 227 1572950 (none, (jv_H (jx_K 227) (jv_u jx_If 0 1 p1) jx_L0 (jx_R 227)), 227, 1572950) := by
  show jv_Ev 419 0 [(0, .ref 0), (1, .int p1)] [] (jv_H (jx_K 227) jx_If jx_L0 (jx_R 227)) 227 1572950 _
  refine jv_Ev.steps jv_i419 1 (pc' := 1) (l' := [(0, .ref 0), (1, .int p1)]) (st' := [.int p1]) rfl ?_
  refine jv_Ev.br jv_i419 (pc' := 4) (st' := []) rfl (jv_bi_lt.trans (jx_gof g1)) ?_
  refine jv_Ev.steps jv_i419 2 (pc' := 6) (l' := [(0, .ref 0), (1, .int p1)]) (st' := [.ref 0, .int p1]) rfl ?_
  refine jv_Ev.m jv_i419 (pc' := 9) (st' := [.int (0 : Int32), .int p1]) rfl rfl (jv_m_getI rfl rfl rfl rfl) ?_
  refine jv_Ev.br jv_i419 (pc' := 22) (st' := []) rfl (jv_bc_le.trans (jx_got (Int32.not_lt.mp g2))) ?_
  refine jv_Ev.steps jv_i419 2 (pc' := 24) (l' := [(0, .ref 0), (1, .int p1)]) (st' := [.int p1, .ref 0]) rfl ?_
  refine jv_Ev.m jv_i419 (pc' := 27) (st' := []) rfl rfl (jv_m_putI rfl rfl rfl rfl rfl) ?_
  exact jv_Ev.ret jv_i419 rfl rfl

set_option maxRecDepth 100000 in
/-- the law's end -/
theorem jx_w29 (hTb : jv_TOk jv_Tb) (hT2 : jx_T2Ok) (p0 : Int32) (p1 : Int32) (p2 : Int32) (p3 : Int32) (p4 : Int32) (p5 : Int32) (g1 : ¬ p1 < (0 : Int32)) (g2 : ¬ (0 : Int32) < p1) : jx_Wr 441 [(0, 5, 8, 19)] [.ref 0, .int p1] (jv_H (jx_K 227) jx_If jx_L0 (jx_R 227)) 227 1572950 (some (.int (0 : Int32)), (jv_H (jx_K 227) (jv_u jx_If 0 1 p1) jx_L0 (jx_R 227)), 227, 1572950) := by
  refine jx_Wr.of hT2 (by decide) rfl (Nat.le_of_ble_eq_true rfl) ?_
  intro p l e R s m args below meth c E hl F hZ htb hRc hRs
  show jw p l e R s m args below meth c E 3 227 1572950 _ 0 [(0, .ref 0), (1, .int p1)] [] (jv_H (jx_K 227) jx_If jx_L0 (jx_R 227)) 227 1572950
  have hRc : R.cells = 227 - 227 := hRc
  have hRs : R.slots = 1572950 - 1572950 := hRs
  refine jw.steps F jx_i441 2 (pc' := 2) (l' := [(0, .ref 0), (1, .int p1)]) (st' := [.int p1, .ref 0]) rfl ?_
  refine jw.ca hTb F jx_i441 (pc' := 5) (S' := []) rfl jv_i419 [.ref 0, .int p1] rfl rfl rfl rfl (jx_cal2 rfl (jv_H_at rfl) rfl rfl) rfl (jx_e28 p0 p1 p2 p3 p4 p5 g1 g2) (by omega) (by omega) rfl rfl ?_
  refine jw.steps F jx_i441 2 (pc' := 12) (l' := [(0, .ref 0), (1, .int p1)]) (st' := [.int (0 : Int32)]) rfl ?_
  exact jw.ret F jx_i441 rfl rfl

set_option maxRecDepth 100000 in
/-- ProgramBoxModel.end -/
theorem jx_e30 (p0 : Int32) (p1 : Int32) (p2 : Int32) (p3 : Int32) (p4 : Int32) (p5 : Int32) (g1 : ¬ p1 < (0 : Int32)) (g2 : ¬ (0 : Int32) < p1) : jv_Ms 352 [.ref 178, .int p1] (jv_H (jx_K 227) (jv_u jx_If 0 1 p1) jx_L0 (jx_R 227)) 227 1572950 (none, (jv_H (jx_K 227) (jv_u (jv_u (jv_u jx_If 0 1 p1) 178 0 (0 : Int32)) 178 2 p1) jx_L0 (jx_R 227)), 227, 1572950) := by
  show jv_Ev 352 0 [(0, .ref 178), (1, .int p1)] [] (jv_H (jx_K 227) (jv_u jx_If 0 1 p1) jx_L0 (jx_R 227)) 227 1572950 _
  refine jv_Ev.steps jv_i352 2 (pc' := 2) (l' := [(0, .ref 178), (1, .int p1)]) (st' := [.int p1, .ref 178]) rfl ?_
  refine jv_Ev.br jv_i352 (pc' := 5) (st' := [.ref 178]) rfl (jv_bi_lt.trans (jx_gof g1)) ?_
  refine jv_Ev.steps jv_i352 2 (pc' := 7) (l' := [(0, .ref 178), (1, .int p1)]) (st' := [.ref 178, .int p1, .ref 178]) rfl ?_
  refine jv_Ev.m jv_i352 (pc' := 10) (st' := [.int (0 : Int32), .int p1, .ref 178]) rfl rfl (jv_m_getI rfl rfl rfl rfl) ?_
  refine jv_Ev.br jv_i352 (pc' := 17) (st' := [.ref 178]) rfl (jv_bc_le.trans (jx_got (Int32.not_lt.mp g2))) ?_
  refine jv_Ev.steps jv_i352 1 (pc' := 18) (l' := [(0, .ref 178), (1, .int p1)]) (st' := [.int (0 : Int32), .ref 178]) rfl ?_
  refine jv_Ev.m jv_i352 (pc' := 21) (st' := []) rfl rfl (jv_m_putI rfl rfl rfl rfl rfl) ?_
  refine jv_Ev.steps jv_i352 2 (pc' := 23) (l' := [(0, .ref 178), (1, .int p1)]) (st' := [.ref 178, .ref 178]) rfl ?_
  refine jv_Ev.m jv_i352 (pc' := 26) (st' := [.int (0 : Int32), .ref 178]) rfl rfl (jv_m_getI rfl rfl rfl rfl) ?_
  refine jv_Ev.br jv_i352 (pc' := 36) (st' := [.ref 178]) rfl (jv_bi_le.trans (jx_got (by decide))) ?_
  refine jv_Ev.steps jv_i352 1 (pc' := 37) (l' := [(0, .ref 178), (1, .int p1)]) (st' := [.int p1, .ref 178]) rfl ?_
  refine jv_Ev.m jv_i352 (pc' := 40) (st' := []) rfl rfl (jv_m_putI rfl rfl rfl rfl rfl) ?_
  exact jv_Ev.ret jv_i352 rfl rfl

set_option maxRecDepth 100000 in
/-- ProgramBoxModel.thrown -/
theorem jx_e31 (p0 : Int32) (p1 : Int32) (p2 : Int32) (p3 : Int32) (p4 : Int32) (p5 : Int32) (g1 : ¬ p1 < (0 : Int32)) (g2 : ¬ (0 : Int32) < p1) : jv_Ms 350 [.ref 178] (jv_H (jx_K 227) (jv_u (jv_u (jv_u jx_If 0 1 p1) 178 0 (0 : Int32)) 178 2 p1) jx_L0 (jx_R 227)) 227 1572950 (some (.int (0 : Int32)), (jv_H (jx_K 227) (jv_u (jv_u (jv_u jx_If 0 1 p1) 178 0 (0 : Int32)) 178 2 p1) jx_L0 (jx_R 227)), 227, 1572950) := by
  show jv_Ev 350 0 [(0, .ref 178)] [] (jv_H (jx_K 227) (jv_u (jv_u (jv_u jx_If 0 1 p1) 178 0 (0 : Int32)) 178 2 p1) jx_L0 (jx_R 227)) 227 1572950 _
  refine jv_Ev.steps jv_i350 1 (pc' := 1) (l' := [(0, .ref 178)]) (st' := [.ref 178]) rfl ?_
  refine jv_Ev.m jv_i350 (pc' := 4) (st' := [.int (0 : Int32)]) rfl rfl (jv_m_getI rfl rfl rfl rfl) ?_
  exact jv_Ev.ret jv_i350 rfl rfl

set_option maxRecDepth 100000 in
/-- the law: case 1, one way -/
theorem jx_l9 (p0 : Int32) (p1 : Int32) (p2 : Int32) (p3 : Int32) (p4 : Int32) (p5 : Int32) (g1 : ¬ p1 < (0 : Int32)) (g2 : ¬ (0 : Int32) < p1) (hsw : p0 &&& (31 : Int32) = (1 : Int32)) {p : Program} {l : Launch} {e : Env} {R : Room} {s : State} {m : MethodId} {args : Array Value} {below : List Frame} {meth : Method} {c : Code} {E : jv_Env} {Q : State → Prop} (hTb : jv_TOk jv_Tb) (hT2 : jx_T2Ok) (hl : l.stackTraces = false) (F : jx_F jv_T2 439 E p R s m args meth c) (hZ : jx_Z E s) (hRc : R.cells = 600002) (hRs : R.slots = 7302232) {bb : Nat} {xs : Nat → Int32} (hX : va_X bb 6 xs s E.2.2.2.2) (hbB : bb < E.2.2.2.1) (hE2 : E.1 1000002 = bb) (hQ : ∀ (l0 : jv_L) (G : jv_G) (n sl : Nat), n ≤ 600002 → sl ≤ 7302232 → jw p l e R s m args below meth c E 8 0 0 Q 1532 l0 [.int (1 : Int32)] G n sl) (q0 : xs 0 = p0) (q1 : xs 1 = p1) (q2 : xs 2 = p2) (q3 : xs 3 = p3) (q4 : xs 4 = p4) (q5 : xs 5 = p5) : jw p l e R s m args below meth c E 8 0 0 Q 33 [(0, .ref 1000002), (1, .ref 0), (2, .ref 178), (3, .ref 226), (4, .int (0 : Int32))] [] (jv_H (jx_K 227) jx_If jx_L0 (jx_R 227)) 227 1572950 := by
  refine jw.steps F jx_i439 2 (pc' := 36) (l' := [(0, .ref 1000002), (1, .ref 0), (2, .ref 178), (3, .ref 226), (4, .int (0 : Int32))]) (st' := [.int (0 : Int32), .ref 1000002]) rfl ?_
  refine jw.sld F jx_i439 hX hbB hE2 (pc' := 37) rfl rfl (show vp_in (nI 0) 6 from vp_in_nI (by decide) (by decide)) q0 rfl ?_
  refine jw.steps F jx_i439 2 (pc' := 40) (l' := [(0, .ref 1000002), (1, .ref 0), (2, .ref 178), (3, .ref 226), (4, .int (0 : Int32))]) (st' := [.int (p0 &&& (31 : Int32))]) rfl ?_
  refine jw.br F jx_i439 (pc' := 268) (st' := []) rfl (by rw [hsw]; rfl) ?_
  refine jw.steps F jx_i439 5 (pc' := 274) (l' := [(0, .ref 1000002), (1, .ref 0), (2, .ref 178), (3, .ref 226), (4, .int (0 : Int32))]) (st' := [.int (1 : Int32), .ref 1000002, .ref 0]) rfl ?_
  refine jw.sld F jx_i439 hX hbB hE2 (pc' := 275) rfl rfl (show vp_in (nI 1) 6 from vp_in_nI (by decide) (by decide)) q1 rfl ?_
  refine jw.wr F hl hZ rfl jx_i439 jx_i441 [.ref 0, .int p1] (pc' := 278) (S' := [.int (0 : Int32)]) rfl (List.mem_of_getElem? (i := 1) rfl) (List.mem_of_getElem? (i := 1) rfl) rfl rfl rfl (jx_w29 hTb hT2 p0 p1 p2 p3 p4 p5 g1 g2) (by omega) (by omega) (by omega) (by omega) rfl rfl ?_
  refine jw.steps F jx_i439 6 (pc' := 286) (l' := [(5, .int (0 : Int32)), (0, .ref 1000002), (1, .ref 0), (2, .ref 178), (3, .ref 226), (4, .int (0 : Int32))]) (st' := [.int (1 : Int32), .ref 1000002, .ref 178]) rfl ?_
  refine jw.sld F jx_i439 hX hbB hE2 (pc' := 287) rfl rfl (show vp_in (nI 1) 6 from vp_in_nI (by decide) (by decide)) q1 rfl ?_
  refine jw.ca hTb F jx_i439 (pc' := 290) (S' := []) rfl jv_i352 [.ref 178, .int p1] rfl rfl rfl rfl (jx_cal2 rfl (jv_H_at rfl) rfl rfl) rfl (jx_e30 p0 p1 p2 p3 p4 p5 g1 g2) (by omega) (by omega) rfl rfl ?_
  refine jw.steps F jx_i439 1 (pc' := 291) (l' := [(5, .int (0 : Int32)), (0, .ref 1000002), (1, .ref 0), (2, .ref 178), (3, .ref 226), (4, .int (0 : Int32))]) (st' := [.ref 178]) rfl ?_
  refine jw.ca hTb F jx_i439 (pc' := 294) (S' := [.int (0 : Int32)]) rfl jv_i350 [.ref 178] rfl rfl rfl rfl (jx_cal2 rfl (jv_H_at rfl) rfl rfl) rfl (jx_e31 p0 p1 p2 p3 p4 p5 g1 g2) (by omega) (by omega) rfl rfl ?_
  refine jw.steps F jx_i439 1 (pc' := 296) (l' := [(5, .int (0 : Int32)), (0, .ref 1000002), (1, .ref 0), (2, .ref 178), (3, .ref 226), (4, .int (0 : Int32))]) (st' := [.int (0 : Int32), .int (0 : Int32)]) rfl ?_
  refine jw.br F jx_i439 (pc' := 301) (st' := []) rfl (jv_bc_eq.trans (jx_got (by decide))) ?_
  refine jw.steps F jx_i439 5 (pc' := 26) (l' := [(4, .int (6 : Int32)), (5, .int (0 : Int32)), (0, .ref 1000002), (1, .ref 0), (2, .ref 178), (3, .ref 226)]) (st' := [.ref 1000002, .int (6 : Int32)]) rfl ?_
  refine jw.slen F jx_i439 hX hbB hE2 (pc' := 27) rfl rfl rfl ?_
  refine jw.steps F jx_i439 2 (pc' := 30) (l' := [(4, .int (6 : Int32)), (5, .int (0 : Int32)), (0, .ref 1000002), (1, .ref 0), (2, .ref 178), (3, .ref 226)]) (st' := [.int (0 : Int32), .int (6 : Int32)]) rfl ?_
  refine jw.br F jx_i439 (pc' := 1531) (st' := []) rfl (jv_bc_gt.trans (jx_got (by decide))) ?_
  refine jw.steps F jx_i439 1 (pc' := 1532) (l' := [(4, .int (6 : Int32)), (5, .int (0 : Int32)), (0, .ref 1000002), (1, .ref 0), (2, .ref 178), (3, .ref 226)]) (st' := [.int (1 : Int32)]) rfl ?_
  exact hQ _ _ _ _ (by omega) (by omega)

set_option maxRecDepth 100000 in
/-- the law: case 1 -/
theorem jx_case1 (p0 : Int32) (p1 : Int32) (p2 : Int32) (p3 : Int32) (p4 : Int32) (p5 : Int32) (hsw : p0 &&& (31 : Int32) = (1 : Int32)) {p : Program} {l : Launch} {e : Env} {R : Room} {s : State} {m : MethodId} {args : Array Value} {below : List Frame} {meth : Method} {c : Code} {E : jv_Env} {Q : State → Prop} (hTb : jv_TOk jv_Tb) (hT2 : jx_T2Ok) (hl : l.stackTraces = false) (F : jx_F jv_T2 439 E p R s m args meth c) (hZ : jx_Z E s) (hRc : R.cells = 600002) (hRs : R.slots = 7302232) {bb : Nat} {xs : Nat → Int32} (hX : va_X bb 6 xs s E.2.2.2.2) (hbB : bb < E.2.2.2.1) (hE2 : E.1 1000002 = bb) (hQ : ∀ (l0 : jv_L) (G : jv_G) (n sl : Nat), n ≤ 600002 → sl ≤ 7302232 → jw p l e R s m args below meth c E 8 0 0 Q 1532 l0 [.int (1 : Int32)] G n sl) (q0 : xs 0 = p0) (q1 : xs 1 = p1) (q2 : xs 2 = p2) (q3 : xs 3 = p3) (q4 : xs 4 = p4) (q5 : xs 5 = p5) : jw p l e R s m args below meth c E 8 0 0 Q 33 [(0, .ref 1000002), (1, .ref 0), (2, .ref 178), (3, .ref 226), (4, .int (0 : Int32))] [] (jv_H (jx_K 227) jx_If jx_L0 (jx_R 227)) 227 1572950 := by
  by_cases g1 : p1 < (0 : Int32)
  · exact jx_l7 p0 p1 p2 p3 p4 p5 g1 hsw hTb hT2 hl F hZ hRc hRs hX hbB hE2 hQ q0 q1 q2 q3 q4 q5
  · by_cases g2 : (0 : Int32) < p1
    · exact jx_l8 p0 p1 p2 p3 p4 p5 g1 g2 hsw hTb hT2 hl F hZ hRc hRs hX hbB hE2 hQ q0 q1 q2 q3 q4 q5
    · exact jx_l9 p0 p1 p2 p3 p4 p5 g1 g2 hsw hTb hT2 hl F hZ hRc hRs hX hbB hE2 hQ q0 q1 q2 q3 q4 q5

set_option maxRecDepth 100000 in
theorem jx_i444 : jx_I jv_T2 444 3 (some .int) 7 110 jv_c444 := ⟨rfl, rfl, rfl, rfl, rfl⟩
set_option maxRecDepth 100000 in
theorem jv_i422 : jv_I 422 1 (some .int) 6 90 jv_c422 := ⟨rfl, rfl, rfl, rfl, rfl⟩
set_option maxRecDepth 100000 in
/-- ProgramBox.packet -/
theorem jx_e32 (p0 : Int32) (p1 : Int32) (p2 : Int32) (p3 : Int32) (p4 : Int32) (p5 : Int32)  : jv_Ms 422 [.ref 0] (jv_H (jx_K 227) jx_If jx_L0 (jx_R 227)) 227 1572950 (some (.int (0 : Int32)), (jv_H (jx_K 227) (jv_u (jv_u jx_If 2 1 (0 : Int32)) 0 1 (0 : Int32)) jx_L0 (jx_R 227)), 227, 1572950) := by
  show jv_Ev 422 0 [(0, .ref 0)] [] (jv_H (jx_K 227) jx_If jx_L0 (jx_R 227)) 227 1572950 _
  refine jv_Ev.steps jv_i422 1 (pc' := 1) (l' := [(0, .ref 0)]) (st' := [.ref 0]) rfl ?_
  refine jv_Ev.m jv_i422 (pc' := 4) (st' := [.int (0 : Int32)]) rfl rfl (jv_m_getI rfl rfl rfl rfl) ?_
  refine jv_Ev.steps jv_i422 1 (pc' := 7) (l' := [(0, .ref 0)]) (st' := [.int (2048 : Int32), .int (0 : Int32)]) rfl ?_
  refine jv_Ev.br jv_i422 (pc' := 20) (st' := []) rfl (jv_bc_le.trans (jx_got (by decide))) ?_
  refine jv_Ev.steps jv_i422 1 (pc' := 21) (l' := [(0, .ref 0)]) (st' := [.ref 0]) rfl ?_
  refine jv_Ev.m jv_i422 (pc' := 24) (st' := [.ref 1]) rfl rfl (jv_m_getR rfl rfl rfl rfl) ?_
  refine jv_Ev.steps jv_i422 2 (pc' := 26) (l' := [(0, .ref 0)]) (st' := [.ref 0, .int (0 : Int32), .ref 1]) rfl ?_
  refine jv_Ev.m jv_i422 (pc' := 29) (st' := [.ref 2, .int (0 : Int32), .ref 1]) rfl rfl (jv_m_getR rfl rfl rfl rfl) ?_
  refine jv_Ev.m jv_i422 (pc' := 32) (st' := [.ref 3, .int (0 : Int32), .ref 1]) rfl rfl (jv_m_getR rfl rfl rfl rfl) ?_
  refine jv_Ev.steps jv_i422 2 (pc' := 34) (l' := [(0, .ref 0)]) (st' := [.ref 0, .int (0 : Int32), .ref 3, .int (0 : Int32), .ref 1]) rfl ?_
  refine jv_Ev.m jv_i422 (pc' := 37) (st' := [.int (0 : Int32), .int (0 : Int32), .ref 3, .int (0 : Int32), .ref 1]) rfl rfl (jv_m_getI rfl rfl rfl rfl) ?_
  refine jv_Ev.op jv_i422 (pc' := 40) (l' := [(0, .ref 0)]) (st' := []) (G' := (jv_H (jx_K 227) jx_If jx_L0 (jx_R 227))) rfl (jx_cp0 rfl rfl rfl) ?_
  refine jv_Ev.steps jv_i422 1 (pc' := 41) (l' := [(0, .ref 0)]) (st' := [.ref 0]) rfl ?_
  refine jv_Ev.m jv_i422 (pc' := 44) (st' := [.ref 2]) rfl rfl (jv_m_getR rfl rfl rfl rfl) ?_
  refine jv_Ev.steps jv_i422 1 (pc' := 45) (l' := [(0, .ref 0)]) (st' := [.ref 0, .ref 2]) rfl ?_
  refine jv_Ev.m jv_i422 (pc' := 48) (st' := [.int (0 : Int32), .ref 2]) rfl rfl (jv_m_getI rfl rfl rfl rfl) ?_
  refine jv_Ev.m jv_i422 (pc' := 51) (st' := []) rfl rfl (jv_m_putI rfl rfl rfl rfl rfl) ?_
  refine jv_Ev.steps jv_i422 2 (pc' := 53) (l' := [(0, .ref 0)]) (st' := [.int (0 : Int32), .ref 0]) rfl ?_
  refine jv_Ev.m jv_i422 (pc' := 56) (st' := []) rfl rfl (jv_m_putI rfl rfl rfl rfl rfl) ?_
  refine jv_Ev.steps jv_i422 1 (pc' := 57) (l' := [(0, .ref 0)]) (st' := [.ref 0]) rfl ?_
  refine jv_Ev.m jv_i422 (pc' := 60) (st' := [.ref 2]) rfl rfl (jv_m_getR rfl rfl rfl rfl) ?_
  refine jv_Ev.m jv_i422 (pc' := 63) (st' := [.int (0 : Int32)]) rfl rfl (jv_m_getI rfl rfl rfl rfl) ?_
  exact jv_Ev.ret jv_i422 rfl rfl

set_option maxRecDepth 100000 in
/-- the law's packet -/
theorem jx_w33 (hTb : jv_TOk jv_Tb) (hT2 : jx_T2Ok) (p0 : Int32) (p1 : Int32) (p2 : Int32) (p3 : Int32) (p4 : Int32) (p5 : Int32)  : jx_Wr 444 [(0, 8, 11, 13)] [.ref 0, .ref 226] (jv_H (jx_K 227) jx_If jx_L0 (jx_R 227)) 227 1572950 (some (.int (0 : Int32)), (jv_H (jx_K 227) (jv_u (jv_u jx_If 2 1 (0 : Int32)) 0 1 (0 : Int32)) (jv_u jx_L0 226 (0 : Int32).toNatClampNeg (0 : Int64)) (jx_R 227)), 227, 1572950) := by
  refine jx_Wr.of hT2 (by decide) rfl (Nat.le_of_ble_eq_true rfl) ?_
  intro p l e R s m args below meth c E hl F hZ htb hRc hRs
  show jw p l e R s m args below meth c E 3 227 1572950 _ 0 [(0, .ref 0), (1, .ref 226)] [] (jv_H (jx_K 227) jx_If jx_L0 (jx_R 227)) 227 1572950
  have hRc : R.cells = 227 - 227 := hRc
  have hRs : R.slots = 1572950 - 1572950 := hRs
  refine jw.steps F jx_i444 3 (pc' := 3) (l' := [(0, .ref 0), (1, .ref 226)]) (st' := [.ref 0, .int (0 : Int32), .ref 226]) rfl ?_
  refine jw.ca hTb F jx_i444 (pc' := 6) (S' := [.int (0 : Int32), .int (0 : Int32), .ref 226]) rfl jv_i422 [.ref 0] rfl rfl rfl rfl (jx_cal2 rfl (jv_H_at rfl) rfl rfl) rfl (jx_e32 p0 p1 p2 p3 p4 p5 ) (by omega) (by omega) rfl rfl ?_
  refine jw.steps F jx_i444 1 (pc' := 7) (l' := [(0, .ref 0), (1, .ref 226)]) (st' := [.long (0 : Int64), .int (0 : Int32), .ref 226]) rfl ?_
  refine jw.me F jx_i444 (pc' := 8) (st' := []) rfl rfl (jv_m_last rfl (by decide)) ?_
  refine jw.steps F jx_i444 2 (pc' := 15) (l' := [(0, .ref 0), (1, .ref 226)]) (st' := [.int (0 : Int32)]) rfl ?_
  exact jw.ret F jx_i444 rfl rfl

set_option maxRecDepth 100000 in
theorem jv_i358 : jv_I 358 2 (some .int) 0 0 jv_c358 := ⟨rfl, rfl, rfl, rfl, rfl⟩
set_option maxRecDepth 100000 in
/-- ProgramBoxModel.packet -/
theorem jx_e34 (p0 : Int32) (p1 : Int32) (p2 : Int32) (p3 : Int32) (p4 : Int32) (p5 : Int32)  : jv_Ms 358 [.ref 178] (jv_H (jx_K 227) (jv_u (jv_u jx_If 2 1 (0 : Int32)) 0 1 (0 : Int32)) (jv_u jx_L0 226 (0 : Int32).toNatClampNeg (0 : Int64)) (jx_R 227)) 227 1572950 (some (.int (0 : Int32)), (jv_H (jx_K 227) (jv_u (jv_u (jv_u (jv_u (jv_u jx_If 2 1 (0 : Int32)) 0 1 (0 : Int32)) 178 0 (0 : Int32)) 178 11 (0 : Int32)) 178 2 (0 : Int32)) (jv_u jx_L0 226 (0 : Int32).toNatClampNeg (0 : Int64)) (jx_R 227)), 227, 1572950) := by
  show jv_Ev 358 0 [(0, .ref 178)] [] (jv_H (jx_K 227) (jv_u (jv_u jx_If 2 1 (0 : Int32)) 0 1 (0 : Int32)) (jv_u jx_L0 226 (0 : Int32).toNatClampNeg (0 : Int64)) (jx_R 227)) 227 1572950 _
  refine jv_Ev.steps jv_i358 2 (pc' := 2) (l' := [(0, .ref 178)]) (st' := [.ref 178, .ref 178]) rfl ?_
  refine jv_Ev.m jv_i358 (pc' := 5) (st' := [.int (0 : Int32), .ref 178]) rfl rfl (jv_m_getI rfl rfl rfl rfl) ?_
  refine jv_Ev.steps jv_i358 1 (pc' := 8) (l' := [(0, .ref 178)]) (st' := [.int (2048 : Int32), .int (0 : Int32), .ref 178]) rfl ?_
  refine jv_Ev.br jv_i358 (pc' := 15) (st' := [.ref 178]) rfl (jv_bc_le.trans (jx_got (by decide))) ?_
  refine jv_Ev.steps jv_i358 1 (pc' := 16) (l' := [(0, .ref 178)]) (st' := [.int (0 : Int32), .ref 178]) rfl ?_
  refine jv_Ev.m jv_i358 (pc' := 19) (st' := []) rfl rfl (jv_m_putI rfl rfl rfl rfl rfl) ?_
  refine jv_Ev.steps jv_i358 1 (pc' := 20) (l' := [(0, .ref 178)]) (st' := [.ref 178]) rfl ?_
  refine jv_Ev.m jv_i358 (pc' := 23) (st' := [.int (0 : Int32)]) rfl rfl (jv_m_getI rfl rfl rfl rfl) ?_
  refine jv_Ev.br jv_i358 (pc' := 28) (st' := []) rfl (jv_bi_le.trans (jx_got (by decide))) ?_
  refine jv_Ev.steps jv_i358 4 (pc' := 32) (l' := [(1, .int (0 : Int32)), (0, .ref 178)]) (st' := [.ref 178, .int (0 : Int32)]) rfl ?_
  refine jv_Ev.m jv_i358 (pc' := 35) (st' := [.int (0 : Int32), .int (0 : Int32)]) rfl rfl (jv_m_getI rfl rfl rfl rfl) ?_
  refine jv_Ev.br jv_i358 (pc' := 56) (st' := []) rfl (jv_bc_ge.trans (jx_got (by decide))) ?_
  refine jv_Ev.steps jv_i358 2 (pc' := 58) (l' := [(1, .int (0 : Int32)), (0, .ref 178)]) (st' := [.ref 178, .ref 178]) rfl ?_
  refine jv_Ev.m jv_i358 (pc' := 61) (st' := [.int (0 : Int32), .ref 178]) rfl rfl (jv_m_getI rfl rfl rfl rfl) ?_
  refine jv_Ev.m jv_i358 (pc' := 64) (st' := []) rfl rfl (jv_m_putI rfl rfl rfl rfl rfl) ?_
  refine jv_Ev.steps jv_i358 2 (pc' := 66) (l' := [(1, .int (0 : Int32)), (0, .ref 178)]) (st' := [.int (0 : Int32), .ref 178]) rfl ?_
  refine jv_Ev.m jv_i358 (pc' := 69) (st' := []) rfl rfl (jv_m_putI rfl rfl rfl rfl rfl) ?_
  refine jv_Ev.steps jv_i358 1 (pc' := 70) (l' := [(1, .int (0 : Int32)), (0, .ref 178)]) (st' := [.ref 178]) rfl ?_
  refine jv_Ev.m jv_i358 (pc' := 73) (st' := [.int (0 : Int32)]) rfl rfl (jv_m_getI rfl rfl rfl rfl) ?_
  exact jv_Ev.ret jv_i358 rfl rfl

set_option maxRecDepth 100000 in
/-- ProgramBoxModel.thrown -/
theorem jx_e35 (p0 : Int32) (p1 : Int32) (p2 : Int32) (p3 : Int32) (p4 : Int32) (p5 : Int32)  : jv_Ms 350 [.ref 178] (jv_H (jx_K 227) (jv_u (jv_u (jv_u (jv_u (jv_u jx_If 2 1 (0 : Int32)) 0 1 (0 : Int32)) 178 0 (0 : Int32)) 178 11 (0 : Int32)) 178 2 (0 : Int32)) (jv_u jx_L0 226 (0 : Int32).toNatClampNeg (0 : Int64)) (jx_R 227)) 227 1572950 (some (.int (0 : Int32)), (jv_H (jx_K 227) (jv_u (jv_u (jv_u (jv_u (jv_u jx_If 2 1 (0 : Int32)) 0 1 (0 : Int32)) 178 0 (0 : Int32)) 178 11 (0 : Int32)) 178 2 (0 : Int32)) (jv_u jx_L0 226 (0 : Int32).toNatClampNeg (0 : Int64)) (jx_R 227)), 227, 1572950) := by
  show jv_Ev 350 0 [(0, .ref 178)] [] (jv_H (jx_K 227) (jv_u (jv_u (jv_u (jv_u (jv_u jx_If 2 1 (0 : Int32)) 0 1 (0 : Int32)) 178 0 (0 : Int32)) 178 11 (0 : Int32)) 178 2 (0 : Int32)) (jv_u jx_L0 226 (0 : Int32).toNatClampNeg (0 : Int64)) (jx_R 227)) 227 1572950 _
  refine jv_Ev.steps jv_i350 1 (pc' := 1) (l' := [(0, .ref 178)]) (st' := [.ref 178]) rfl ?_
  refine jv_Ev.m jv_i350 (pc' := 4) (st' := [.int (0 : Int32)]) rfl rfl (jv_m_getI rfl rfl rfl rfl) ?_
  exact jv_Ev.ret jv_i350 rfl rfl

set_option maxRecDepth 100000 in
/-- the law: case 7, one way -/
theorem jx_l10 (p0 : Int32) (p1 : Int32) (p2 : Int32) (p3 : Int32) (p4 : Int32) (p5 : Int32)  (hsw : p0 &&& (31 : Int32) = (7 : Int32)) {p : Program} {l : Launch} {e : Env} {R : Room} {s : State} {m : MethodId} {args : Array Value} {below : List Frame} {meth : Method} {c : Code} {E : jv_Env} {Q : State → Prop} (hTb : jv_TOk jv_Tb) (hT2 : jx_T2Ok) (hl : l.stackTraces = false) (F : jx_F jv_T2 439 E p R s m args meth c) (hZ : jx_Z E s) (hRc : R.cells = 600002) (hRs : R.slots = 7302232) {bb : Nat} {xs : Nat → Int32} (hX : va_X bb 6 xs s E.2.2.2.2) (hbB : bb < E.2.2.2.1) (hE2 : E.1 1000002 = bb) (hQ : ∀ (l0 : jv_L) (G : jv_G) (n sl : Nat), n ≤ 600002 → sl ≤ 7302232 → jw p l e R s m args below meth c E 8 0 0 Q 1532 l0 [.int (1 : Int32)] G n sl) (q0 : xs 0 = p0) (q1 : xs 1 = p1) (q2 : xs 2 = p2) (q3 : xs 3 = p3) (q4 : xs 4 = p4) (q5 : xs 5 = p5) : jw p l e R s m args below meth c E 8 0 0 Q 33 [(0, .ref 1000002), (1, .ref 0), (2, .ref 178), (3, .ref 226), (4, .int (0 : Int32))] [] (jv_H (jx_K 227) jx_If jx_L0 (jx_R 227)) 227 1572950 := by
  refine jw.steps F jx_i439 2 (pc' := 36) (l' := [(0, .ref 1000002), (1, .ref 0), (2, .ref 178), (3, .ref 226), (4, .int (0 : Int32))]) (st' := [.int (0 : Int32), .ref 1000002]) rfl ?_
  refine jw.sld F jx_i439 hX hbB hE2 (pc' := 37) rfl rfl (show vp_in (nI 0) 6 from vp_in_nI (by decide) (by decide)) q0 rfl ?_
  refine jw.steps F jx_i439 2 (pc' := 40) (l' := [(0, .ref 1000002), (1, .ref 0), (2, .ref 178), (3, .ref 226), (4, .int (0 : Int32))]) (st' := [.int (p0 &&& (31 : Int32))]) rfl ?_
  refine jw.br F jx_i439 (pc' := 479) (st' := []) rfl (by rw [hsw]; rfl) ?_
  refine jw.steps F jx_i439 2 (pc' := 481) (l' := [(0, .ref 1000002), (1, .ref 0), (2, .ref 178), (3, .ref 226), (4, .int (0 : Int32))]) (st' := [.ref 226, .ref 0]) rfl ?_
  refine jw.wr F hl hZ rfl jx_i439 jx_i444 [.ref 0, .ref 226] (pc' := 484) (S' := [.int (0 : Int32)]) rfl (List.mem_of_getElem? (i := 4) rfl) (List.mem_of_getElem? (i := 4) rfl) rfl rfl rfl (jx_w33 hTb hT2 p0 p1 p2 p3 p4 p5 ) (by omega) (by omega) (by omega) (by omega) rfl rfl ?_
  refine jw.steps F jx_i439 2 (pc' := 487) (l' := [(5, .int (0 : Int32)), (0, .ref 1000002), (1, .ref 0), (2, .ref 178), (3, .ref 226), (4, .int (0 : Int32))]) (st' := [.ref 178]) rfl ?_
  refine jw.ca hTb F jx_i439 (pc' := 490) (S' := [.int (0 : Int32)]) rfl jv_i358 [.ref 178] rfl rfl rfl rfl (jx_cal2 rfl (jv_H_at rfl) rfl rfl) rfl (jx_e34 p0 p1 p2 p3 p4 p5 ) (by omega) (by omega) rfl rfl ?_
  refine jw.steps F jx_i439 2 (pc' := 493) (l' := [(6, .int (0 : Int32)), (5, .int (0 : Int32)), (0, .ref 1000002), (1, .ref 0), (2, .ref 178), (3, .ref 226), (4, .int (0 : Int32))]) (st' := [.ref 178]) rfl ?_
  refine jw.ca hTb F jx_i439 (pc' := 496) (S' := [.int (0 : Int32)]) rfl jv_i350 [.ref 178] rfl rfl rfl rfl (jx_cal2 rfl (jv_H_at rfl) rfl rfl) rfl (jx_e35 p0 p1 p2 p3 p4 p5 ) (by omega) (by omega) rfl rfl ?_
  refine jw.steps F jx_i439 1 (pc' := 498) (l' := [(6, .int (0 : Int32)), (5, .int (0 : Int32)), (0, .ref 1000002), (1, .ref 0), (2, .ref 178), (3, .ref 226), (4, .int (0 : Int32))]) (st' := [.int (0 : Int32), .int (0 : Int32)]) rfl ?_
  refine jw.br F jx_i439 (pc' := 503) (st' := []) rfl (jv_bc_eq.trans (jx_got (by decide))) ?_
  refine jw.steps F jx_i439 1 (pc' := 505) (l' := [(6, .int (0 : Int32)), (5, .int (0 : Int32)), (0, .ref 1000002), (1, .ref 0), (2, .ref 178), (3, .ref 226), (4, .int (0 : Int32))]) (st' := [.int (0 : Int32)]) rfl ?_
  refine jw.br F jx_i439 (pc' := 508) (st' := []) rfl (jv_bi_ne.trans (jx_gof (by decide))) ?_
  refine jw.steps F jx_i439 2 (pc' := 510) (l' := [(6, .int (0 : Int32)), (5, .int (0 : Int32)), (0, .ref 1000002), (1, .ref 0), (2, .ref 178), (3, .ref 226), (4, .int (0 : Int32))]) (st' := [.int (0 : Int32), .ref 226]) rfl ?_
  refine jw.me F jx_i439 (pc' := 511) (st' := [.long (0 : Int64)]) rfl rfl (jv_m_laldv rfl rfl (by decide) rfl rfl) ?_
  refine jw.steps F jx_i439 3 (pc' := 515) (l' := [(6, .int (0 : Int32)), (5, .int (0 : Int32)), (0, .ref 1000002), (1, .ref 0), (2, .ref 178), (3, .ref 226), (4, .int (0 : Int32))]) (st' := [.int (0 : Int32)]) rfl ?_
  refine jw.br F jx_i439 (pc' := 520) (st' := []) rfl (jv_bi_eq.trans (jx_got (by decide))) ?_
  refine jw.steps F jx_i439 5 (pc' := 26) (l' := [(4, .int (6 : Int32)), (6, .int (0 : Int32)), (5, .int (0 : Int32)), (0, .ref 1000002), (1, .ref 0), (2, .ref 178), (3, .ref 226)]) (st' := [.ref 1000002, .int (6 : Int32)]) rfl ?_
  refine jw.slen F jx_i439 hX hbB hE2 (pc' := 27) rfl rfl rfl ?_
  refine jw.steps F jx_i439 2 (pc' := 30) (l' := [(4, .int (6 : Int32)), (6, .int (0 : Int32)), (5, .int (0 : Int32)), (0, .ref 1000002), (1, .ref 0), (2, .ref 178), (3, .ref 226)]) (st' := [.int (0 : Int32), .int (6 : Int32)]) rfl ?_
  refine jw.br F jx_i439 (pc' := 1531) (st' := []) rfl (jv_bc_gt.trans (jx_got (by decide))) ?_
  refine jw.steps F jx_i439 1 (pc' := 1532) (l' := [(4, .int (6 : Int32)), (6, .int (0 : Int32)), (5, .int (0 : Int32)), (0, .ref 1000002), (1, .ref 0), (2, .ref 178), (3, .ref 226)]) (st' := [.int (1 : Int32)]) rfl ?_
  exact hQ _ _ _ _ (by omega) (by omega)

set_option maxRecDepth 100000 in
/-- the law: case 7 -/
theorem jx_case7 (p0 : Int32) (p1 : Int32) (p2 : Int32) (p3 : Int32) (p4 : Int32) (p5 : Int32) (hsw : p0 &&& (31 : Int32) = (7 : Int32)) {p : Program} {l : Launch} {e : Env} {R : Room} {s : State} {m : MethodId} {args : Array Value} {below : List Frame} {meth : Method} {c : Code} {E : jv_Env} {Q : State → Prop} (hTb : jv_TOk jv_Tb) (hT2 : jx_T2Ok) (hl : l.stackTraces = false) (F : jx_F jv_T2 439 E p R s m args meth c) (hZ : jx_Z E s) (hRc : R.cells = 600002) (hRs : R.slots = 7302232) {bb : Nat} {xs : Nat → Int32} (hX : va_X bb 6 xs s E.2.2.2.2) (hbB : bb < E.2.2.2.1) (hE2 : E.1 1000002 = bb) (hQ : ∀ (l0 : jv_L) (G : jv_G) (n sl : Nat), n ≤ 600002 → sl ≤ 7302232 → jw p l e R s m args below meth c E 8 0 0 Q 1532 l0 [.int (1 : Int32)] G n sl) (q0 : xs 0 = p0) (q1 : xs 1 = p1) (q2 : xs 2 = p2) (q3 : xs 3 = p3) (q4 : xs 4 = p4) (q5 : xs 5 = p5) : jw p l e R s m args below meth c E 8 0 0 Q 33 [(0, .ref 1000002), (1, .ref 0), (2, .ref 178), (3, .ref 226), (4, .int (0 : Int32))] [] (jv_H (jx_K 227) jx_If jx_L0 (jx_R 227)) 227 1572950 := by
  exact jx_l10 p0 p1 p2 p3 p4 p5  hsw hTb hT2 hl F hZ hRc hRs hX hbB hE2 hQ q0 q1 q2 q3 q4 q5

set_option maxRecDepth 100000 in
theorem jx_i445 : jx_I jv_T2 445 4 (some .int) 7 111 jv_c445 := ⟨rfl, rfl, rfl, rfl, rfl⟩
set_option maxRecDepth 100000 in
theorem jv_i423 : jv_I 423 2 (some .int) 6 90 jv_c423 := ⟨rfl, rfl, rfl, rfl, rfl⟩
set_option maxRecDepth 100000 in
/-- ProgramBox.at: it throws -/
theorem jx_e36 (hTb : jv_TOk jv_Tb) (p0 : Int32) (p1 : Int32) (p2 : Int32) (p3 : Int32) (p4 : Int32) (p5 : Int32) (g1 : p1 < (0 : Int32)) : jx_Th 423 [.ref 0, .int p1] (jv_H (jx_K 227) jx_If jx_L0 (jx_R 227)) 227 1572950 2 (jv_H (jx_K 227) jx_If jx_L0 (jx_R 227)) 228 1572956 := by
  refine jx_Th.of hTb (y := 423) rfl (Nat.le_of_ble_eq_true rfl) ?_
  intro p l e R s m args below meth c E hl F hZ h0 ht hRc hRs
  show jw p l e R s m args below meth c E 2 227 1572950 _ 0 [(0, .ref 0), (1, .int p1)] [] (jv_H (jx_K 227) jx_If jx_L0 (jx_R 227)) 227 1572950
  refine jw.steps F jv_i423 1 (pc' := 1) (l' := [(0, .ref 0), (1, .int p1)]) (st' := [.int p1]) rfl ?_
  refine jw.br F jv_i423 (pc' := 15) (st' := []) rfl (jv_bi_lt.trans (jx_got g1)) ?_
  exact jw.throw hl F hZ h0 rfl jv_i423 ht 2 126 "the packet has no such byte" (List.mem_of_getElem? (i := 6) rfl) (by decide +kernel) (by decide +kernel) (by decide +kernel) (by decide +kernel) (by decide +kernel) rfl (by decide) (by decide) (by decide) (by omega) (by omega)

set_option maxRecDepth 100000 in
/-- the law's at -/
theorem jx_w37 (hTb : jv_TOk jv_Tb) (hT2 : jx_T2Ok) (p0 : Int32) (p1 : Int32) (p2 : Int32) (p3 : Int32) (p4 : Int32) (p5 : Int32) (g1 : p1 < (0 : Int32)) : jx_Wr 445 [(0, 9, 12, 36)] [.ref 0, .int p1, .ref 226] (jv_H (jx_K 227) jx_If jx_L0 (jx_R 227)) 227 1572950 (some (.int (1 : Int32)), (jv_H (jx_K 227) jx_If jx_L0 (jx_R 227)), 228, 1572956) := by
  refine jx_Wr.of hT2 (by decide) rfl (Nat.le_of_ble_eq_true rfl) ?_
  intro p l e R s m args below meth c E hl F hZ htb hRc hRs
  show jw p l e R s m args below meth c E 4 227 1572950 _ 0 [(0, .ref 0), (1, .int p1), (2, .ref 226)] [] (jv_H (jx_K 227) jx_If jx_L0 (jx_R 227)) 227 1572950
  have hRc : R.cells = 228 - 227 := hRc
  have hRs : R.slots = 1572956 - 1572950 := hRs
  refine jw.steps F jx_i445 4 (pc' := 4) (l' := [(0, .ref 0), (1, .int p1), (2, .ref 226)]) (st' := [.int p1, .ref 0, .int (0 : Int32), .ref 226]) rfl ?_
  refine jw.cat hTb hl F hZ rfl jx_i445 htb rfl jv_i423 [.ref 0, .int p1] rfl rfl rfl rfl rfl (jx_cal2 rfl (jv_H_at rfl) rfl rfl) rfl (jx_e36 hTb p0 p1 p2 p3 p4 p5 g1) (by omega) (by omega) (by omega) (by omega) [] (0, 9, 12, 36) [] rfl (fun z h => absurd h List.not_mem_nil) (by decide) rfl rfl (Or.inr ⟨3, rfl, rfl, rfl⟩) (by decide) ?_
  refine jw.steps F jx_i445 1 (pc' := 14) (l' := []) (st' := [.int (1 : Int32)]) rfl ?_
  exact jw.ret F jx_i445 rfl rfl

set_option maxRecDepth 100000 in
theorem jv_i360 : jv_I 360 2 (some .int) 0 0 jv_c360 := ⟨rfl, rfl, rfl, rfl, rfl⟩
set_option maxRecDepth 100000 in
/-- ProgramBoxModel.at -/
theorem jx_e38 (p0 : Int32) (p1 : Int32) (p2 : Int32) (p3 : Int32) (p4 : Int32) (p5 : Int32) (g1 : p1 < (0 : Int32)) : jv_Ms 360 [.ref 178, .int p1] (jv_H (jx_K 227) jx_If jx_L0 (jx_R 227)) 228 1572956 (some (.int (0 : Int32)), (jv_H (jx_K 227) (jv_u jx_If 178 0 (1 : Int32)) jx_L0 (jx_R 227)), 228, 1572956) := by
  show jv_Ev 360 0 [(0, .ref 178), (1, .int p1)] [] (jv_H (jx_K 227) jx_If jx_L0 (jx_R 227)) 228 1572956 _
  refine jv_Ev.steps jv_i360 2 (pc' := 2) (l' := [(0, .ref 178), (1, .int p1)]) (st' := [.int p1, .ref 178]) rfl ?_
  refine jv_Ev.br jv_i360 (pc' := 13) (st' := [.ref 178]) rfl (jv_bi_lt.trans (jx_got g1)) ?_
  refine jv_Ev.steps jv_i360 2 (pc' := 18) (l' := [(0, .ref 178), (1, .int p1)]) (st' := [.int (1 : Int32), .ref 178]) rfl ?_
  refine jv_Ev.m jv_i360 (pc' := 21) (st' := []) rfl rfl (jv_m_putI rfl rfl rfl rfl rfl) ?_
  refine jv_Ev.steps jv_i360 1 (pc' := 22) (l' := [(0, .ref 178), (1, .int p1)]) (st' := [.ref 178]) rfl ?_
  refine jv_Ev.m jv_i360 (pc' := 25) (st' := [.int (1 : Int32)]) rfl rfl (jv_m_getI rfl rfl rfl rfl) ?_
  refine jv_Ev.br jv_i360 (pc' := 28) (st' := []) rfl (jv_bi_le.trans (jx_gof (by decide))) ?_
  refine jv_Ev.steps jv_i360 2 (pc' := 38) (l' := [(0, .ref 178), (1, .int p1)]) (st' := [.int (0 : Int32)]) rfl ?_
  exact jv_Ev.ret jv_i360 rfl rfl

set_option maxRecDepth 100000 in
/-- ProgramBoxModel.thrown -/
theorem jx_e39 (p0 : Int32) (p1 : Int32) (p2 : Int32) (p3 : Int32) (p4 : Int32) (p5 : Int32) (g1 : p1 < (0 : Int32)) : jv_Ms 350 [.ref 178] (jv_H (jx_K 227) (jv_u jx_If 178 0 (1 : Int32)) jx_L0 (jx_R 227)) 228 1572956 (some (.int (1 : Int32)), (jv_H (jx_K 227) (jv_u jx_If 178 0 (1 : Int32)) jx_L0 (jx_R 227)), 228, 1572956) := by
  show jv_Ev 350 0 [(0, .ref 178)] [] (jv_H (jx_K 227) (jv_u jx_If 178 0 (1 : Int32)) jx_L0 (jx_R 227)) 228 1572956 _
  refine jv_Ev.steps jv_i350 1 (pc' := 1) (l' := [(0, .ref 178)]) (st' := [.ref 178]) rfl ?_
  refine jv_Ev.m jv_i350 (pc' := 4) (st' := [.int (1 : Int32)]) rfl rfl (jv_m_getI rfl rfl rfl rfl) ?_
  exact jv_Ev.ret jv_i350 rfl rfl

set_option maxRecDepth 100000 in
/-- the law: case 9, one way -/
theorem jx_l11 (p0 : Int32) (p1 : Int32) (p2 : Int32) (p3 : Int32) (p4 : Int32) (p5 : Int32) (g1 : p1 < (0 : Int32)) (hsw : p0 &&& (31 : Int32) = (9 : Int32)) {p : Program} {l : Launch} {e : Env} {R : Room} {s : State} {m : MethodId} {args : Array Value} {below : List Frame} {meth : Method} {c : Code} {E : jv_Env} {Q : State → Prop} (hTb : jv_TOk jv_Tb) (hT2 : jx_T2Ok) (hl : l.stackTraces = false) (F : jx_F jv_T2 439 E p R s m args meth c) (hZ : jx_Z E s) (hRc : R.cells = 600002) (hRs : R.slots = 7302232) {bb : Nat} {xs : Nat → Int32} (hX : va_X bb 6 xs s E.2.2.2.2) (hbB : bb < E.2.2.2.1) (hE2 : E.1 1000002 = bb) (hQ : ∀ (l0 : jv_L) (G : jv_G) (n sl : Nat), n ≤ 600002 → sl ≤ 7302232 → jw p l e R s m args below meth c E 8 0 0 Q 1532 l0 [.int (1 : Int32)] G n sl) (q0 : xs 0 = p0) (q1 : xs 1 = p1) (q2 : xs 2 = p2) (q3 : xs 3 = p3) (q4 : xs 4 = p4) (q5 : xs 5 = p5) : jw p l e R s m args below meth c E 8 0 0 Q 33 [(0, .ref 1000002), (1, .ref 0), (2, .ref 178), (3, .ref 226), (4, .int (0 : Int32))] [] (jv_H (jx_K 227) jx_If jx_L0 (jx_R 227)) 227 1572950 := by
  refine jw.steps F jx_i439 2 (pc' := 36) (l' := [(0, .ref 1000002), (1, .ref 0), (2, .ref 178), (3, .ref 226), (4, .int (0 : Int32))]) (st' := [.int (0 : Int32), .ref 1000002]) rfl ?_
  refine jw.sld F jx_i439 hX hbB hE2 (pc' := 37) rfl rfl (show vp_in (nI 0) 6 from vp_in_nI (by decide) (by decide)) q0 rfl ?_
  refine jw.steps F jx_i439 2 (pc' := 40) (l' := [(0, .ref 1000002), (1, .ref 0), (2, .ref 178), (3, .ref 226), (4, .int (0 : Int32))]) (st' := [.int (p0 &&& (31 : Int32))]) rfl ?_
  refine jw.br F jx_i439 (pc' := 536) (st' := []) rfl (by rw [hsw]; rfl) ?_
  refine jw.steps F jx_i439 5 (pc' := 542) (l' := [(0, .ref 1000002), (1, .ref 0), (2, .ref 178), (3, .ref 226), (4, .int (0 : Int32))]) (st' := [.int (1 : Int32), .ref 1000002, .ref 0]) rfl ?_
  refine jw.sld F jx_i439 hX hbB hE2 (pc' := 543) rfl rfl (show vp_in (nI 1) 6 from vp_in_nI (by decide) (by decide)) q1 rfl ?_
  refine jw.steps F jx_i439 1 (pc' := 544) (l' := [(0, .ref 1000002), (1, .ref 0), (2, .ref 178), (3, .ref 226), (4, .int (0 : Int32))]) (st' := [.ref 226, .int p1, .ref 0]) rfl ?_
  refine jw.wr F hl hZ rfl jx_i439 jx_i445 [.ref 0, .int p1, .ref 226] (pc' := 547) (S' := [.int (1 : Int32)]) rfl (List.mem_of_getElem? (i := 5) rfl) (List.mem_of_getElem? (i := 5) rfl) rfl rfl rfl (jx_w37 hTb hT2 p0 p1 p2 p3 p4 p5 g1) (by omega) (by omega) (by omega) (by omega) rfl rfl ?_
  refine jw.steps F jx_i439 6 (pc' := 555) (l' := [(5, .int (1 : Int32)), (0, .ref 1000002), (1, .ref 0), (2, .ref 178), (3, .ref 226), (4, .int (0 : Int32))]) (st' := [.int (1 : Int32), .ref 1000002, .ref 178]) rfl ?_
  refine jw.sld F jx_i439 hX hbB hE2 (pc' := 556) rfl rfl (show vp_in (nI 1) 6 from vp_in_nI (by decide) (by decide)) q1 rfl ?_
  refine jw.ca hTb F jx_i439 (pc' := 559) (S' := [.int (0 : Int32)]) rfl jv_i360 [.ref 178, .int p1] rfl rfl rfl rfl (jx_cal2 rfl (jv_H_at rfl) rfl rfl) rfl (jx_e38 p0 p1 p2 p3 p4 p5 g1) (by omega) (by omega) rfl rfl ?_
  refine jw.steps F jx_i439 2 (pc' := 562) (l' := [(6, .int (0 : Int32)), (5, .int (1 : Int32)), (0, .ref 1000002), (1, .ref 0), (2, .ref 178), (3, .ref 226), (4, .int (0 : Int32))]) (st' := [.ref 178]) rfl ?_
  refine jw.ca hTb F jx_i439 (pc' := 565) (S' := [.int (1 : Int32)]) rfl jv_i350 [.ref 178] rfl rfl rfl rfl (jx_cal2 rfl (jv_H_at rfl) rfl rfl) rfl (jx_e39 p0 p1 p2 p3 p4 p5 g1) (by omega) (by omega) rfl rfl ?_
  refine jw.steps F jx_i439 1 (pc' := 567) (l' := [(6, .int (0 : Int32)), (5, .int (1 : Int32)), (0, .ref 1000002), (1, .ref 0), (2, .ref 178), (3, .ref 226), (4, .int (0 : Int32))]) (st' := [.int (1 : Int32), .int (1 : Int32)]) rfl ?_
  refine jw.br F jx_i439 (pc' := 572) (st' := []) rfl (jv_bc_eq.trans (jx_got (by decide))) ?_
  refine jw.steps F jx_i439 1 (pc' := 574) (l' := [(6, .int (0 : Int32)), (5, .int (1 : Int32)), (0, .ref 1000002), (1, .ref 0), (2, .ref 178), (3, .ref 226), (4, .int (0 : Int32))]) (st' := [.int (1 : Int32)]) rfl ?_
  refine jw.br F jx_i439 (pc' := 589) (st' := []) rfl (jv_bi_ne.trans (jx_got (by decide))) ?_
  refine jw.steps F jx_i439 5 (pc' := 26) (l' := [(4, .int (6 : Int32)), (6, .int (0 : Int32)), (5, .int (1 : Int32)), (0, .ref 1000002), (1, .ref 0), (2, .ref 178), (3, .ref 226)]) (st' := [.ref 1000002, .int (6 : Int32)]) rfl ?_
  refine jw.slen F jx_i439 hX hbB hE2 (pc' := 27) rfl rfl rfl ?_
  refine jw.steps F jx_i439 2 (pc' := 30) (l' := [(4, .int (6 : Int32)), (6, .int (0 : Int32)), (5, .int (1 : Int32)), (0, .ref 1000002), (1, .ref 0), (2, .ref 178), (3, .ref 226)]) (st' := [.int (0 : Int32), .int (6 : Int32)]) rfl ?_
  refine jw.br F jx_i439 (pc' := 1531) (st' := []) rfl (jv_bc_gt.trans (jx_got (by decide))) ?_
  refine jw.steps F jx_i439 1 (pc' := 1532) (l' := [(4, .int (6 : Int32)), (6, .int (0 : Int32)), (5, .int (1 : Int32)), (0, .ref 1000002), (1, .ref 0), (2, .ref 178), (3, .ref 226)]) (st' := [.int (1 : Int32)]) rfl ?_
  exact hQ _ _ _ _ (by omega) (by omega)

set_option maxRecDepth 100000 in
/-- ProgramBox.at: it throws -/
theorem jx_e40 (hTb : jv_TOk jv_Tb) (p0 : Int32) (p1 : Int32) (p2 : Int32) (p3 : Int32) (p4 : Int32) (p5 : Int32) (g1 : ¬ p1 < (0 : Int32)) : jx_Th 423 [.ref 0, .int p1] (jv_H (jx_K 227) jx_If jx_L0 (jx_R 227)) 227 1572950 2 (jv_H (jx_K 227) jx_If jx_L0 (jx_R 227)) 228 1572956 := by
  refine jx_Th.of hTb (y := 423) rfl (Nat.le_of_ble_eq_true rfl) ?_
  intro p l e R s m args below meth c E hl F hZ h0 ht hRc hRs
  show jw p l e R s m args below meth c E 2 227 1572950 _ 0 [(0, .ref 0), (1, .int p1)] [] (jv_H (jx_K 227) jx_If jx_L0 (jx_R 227)) 227 1572950
  refine jw.steps F jv_i423 1 (pc' := 1) (l' := [(0, .ref 0), (1, .int p1)]) (st' := [.int p1]) rfl ?_
  refine jw.br F jv_i423 (pc' := 4) (st' := []) rfl (jv_bi_lt.trans (jx_gof g1)) ?_
  refine jw.steps F jv_i423 2 (pc' := 6) (l' := [(0, .ref 0), (1, .int p1)]) (st' := [.ref 0, .int p1]) rfl ?_
  refine jw.me F jv_i423 (pc' := 9) (st' := [.ref 2, .int p1]) rfl rfl (jv_m_getR rfl rfl rfl rfl) ?_
  refine jw.me F jv_i423 (pc' := 12) (st' := [.int (0 : Int32), .int p1]) rfl rfl (jv_m_getI rfl rfl rfl rfl) ?_
  refine jw.br F jv_i423 (pc' := 15) (st' := []) rfl (jv_bc_lt.trans (jx_gof g1)) ?_
  exact jw.throw hl F hZ h0 rfl jv_i423 ht 2 126 "the packet has no such byte" (List.mem_of_getElem? (i := 6) rfl) (by decide +kernel) (by decide +kernel) (by decide +kernel) (by decide +kernel) (by decide +kernel) rfl (by decide) (by decide) (by decide) (by omega) (by omega)

set_option maxRecDepth 100000 in
/-- the law's at -/
theorem jx_w41 (hTb : jv_TOk jv_Tb) (hT2 : jx_T2Ok) (p0 : Int32) (p1 : Int32) (p2 : Int32) (p3 : Int32) (p4 : Int32) (p5 : Int32) (g1 : ¬ p1 < (0 : Int32)) : jx_Wr 445 [(0, 9, 12, 36)] [.ref 0, .int p1, .ref 226] (jv_H (jx_K 227) jx_If jx_L0 (jx_R 227)) 227 1572950 (some (.int (1 : Int32)), (jv_H (jx_K 227) jx_If jx_L0 (jx_R 227)), 228, 1572956) := by
  refine jx_Wr.of hT2 (by decide) rfl (Nat.le_of_ble_eq_true rfl) ?_
  intro p l e R s m args below meth c E hl F hZ htb hRc hRs
  show jw p l e R s m args below meth c E 4 227 1572950 _ 0 [(0, .ref 0), (1, .int p1), (2, .ref 226)] [] (jv_H (jx_K 227) jx_If jx_L0 (jx_R 227)) 227 1572950
  have hRc : R.cells = 228 - 227 := hRc
  have hRs : R.slots = 1572956 - 1572950 := hRs
  refine jw.steps F jx_i445 4 (pc' := 4) (l' := [(0, .ref 0), (1, .int p1), (2, .ref 226)]) (st' := [.int p1, .ref 0, .int (0 : Int32), .ref 226]) rfl ?_
  refine jw.cat hTb hl F hZ rfl jx_i445 htb rfl jv_i423 [.ref 0, .int p1] rfl rfl rfl rfl rfl (jx_cal2 rfl (jv_H_at rfl) rfl rfl) rfl (jx_e40 hTb p0 p1 p2 p3 p4 p5 g1) (by omega) (by omega) (by omega) (by omega) [] (0, 9, 12, 36) [] rfl (fun z h => absurd h List.not_mem_nil) (by decide) rfl rfl (Or.inr ⟨3, rfl, rfl, rfl⟩) (by decide) ?_
  refine jw.steps F jx_i445 1 (pc' := 14) (l' := []) (st' := [.int (1 : Int32)]) rfl ?_
  exact jw.ret F jx_i445 rfl rfl

set_option maxRecDepth 100000 in
/-- ProgramBoxModel.at -/
theorem jx_e42 (p0 : Int32) (p1 : Int32) (p2 : Int32) (p3 : Int32) (p4 : Int32) (p5 : Int32) (g1 : ¬ p1 < (0 : Int32)) : jv_Ms 360 [.ref 178, .int p1] (jv_H (jx_K 227) jx_If jx_L0 (jx_R 227)) 228 1572956 (some (.int (0 : Int32)), (jv_H (jx_K 227) (jv_u jx_If 178 0 (1 : Int32)) jx_L0 (jx_R 227)), 228, 1572956) := by
  show jv_Ev 360 0 [(0, .ref 178), (1, .int p1)] [] (jv_H (jx_K 227) jx_If jx_L0 (jx_R 227)) 228 1572956 _
  refine jv_Ev.steps jv_i360 2 (pc' := 2) (l' := [(0, .ref 178), (1, .int p1)]) (st' := [.int p1, .ref 178]) rfl ?_
  refine jv_Ev.br jv_i360 (pc' := 5) (st' := [.ref 178]) rfl (jv_bi_lt.trans (jx_gof g1)) ?_
  refine jv_Ev.steps jv_i360 2 (pc' := 7) (l' := [(0, .ref 178), (1, .int p1)]) (st' := [.ref 178, .int p1, .ref 178]) rfl ?_
  refine jv_Ev.m jv_i360 (pc' := 10) (st' := [.int (0 : Int32), .int p1, .ref 178]) rfl rfl (jv_m_getI rfl rfl rfl rfl) ?_
  refine jv_Ev.br jv_i360 (pc' := 13) (st' := [.ref 178]) rfl (jv_bc_lt.trans (jx_gof g1)) ?_
  refine jv_Ev.steps jv_i360 2 (pc' := 18) (l' := [(0, .ref 178), (1, .int p1)]) (st' := [.int (1 : Int32), .ref 178]) rfl ?_
  refine jv_Ev.m jv_i360 (pc' := 21) (st' := []) rfl rfl (jv_m_putI rfl rfl rfl rfl rfl) ?_
  refine jv_Ev.steps jv_i360 1 (pc' := 22) (l' := [(0, .ref 178), (1, .int p1)]) (st' := [.ref 178]) rfl ?_
  refine jv_Ev.m jv_i360 (pc' := 25) (st' := [.int (1 : Int32)]) rfl rfl (jv_m_getI rfl rfl rfl rfl) ?_
  refine jv_Ev.br jv_i360 (pc' := 28) (st' := []) rfl (jv_bi_le.trans (jx_gof (by decide))) ?_
  refine jv_Ev.steps jv_i360 2 (pc' := 38) (l' := [(0, .ref 178), (1, .int p1)]) (st' := [.int (0 : Int32)]) rfl ?_
  exact jv_Ev.ret jv_i360 rfl rfl

set_option maxRecDepth 100000 in
/-- ProgramBoxModel.thrown -/
theorem jx_e43 (p0 : Int32) (p1 : Int32) (p2 : Int32) (p3 : Int32) (p4 : Int32) (p5 : Int32) (g1 : ¬ p1 < (0 : Int32)) : jv_Ms 350 [.ref 178] (jv_H (jx_K 227) (jv_u jx_If 178 0 (1 : Int32)) jx_L0 (jx_R 227)) 228 1572956 (some (.int (1 : Int32)), (jv_H (jx_K 227) (jv_u jx_If 178 0 (1 : Int32)) jx_L0 (jx_R 227)), 228, 1572956) := by
  show jv_Ev 350 0 [(0, .ref 178)] [] (jv_H (jx_K 227) (jv_u jx_If 178 0 (1 : Int32)) jx_L0 (jx_R 227)) 228 1572956 _
  refine jv_Ev.steps jv_i350 1 (pc' := 1) (l' := [(0, .ref 178)]) (st' := [.ref 178]) rfl ?_
  refine jv_Ev.m jv_i350 (pc' := 4) (st' := [.int (1 : Int32)]) rfl rfl (jv_m_getI rfl rfl rfl rfl) ?_
  exact jv_Ev.ret jv_i350 rfl rfl

set_option maxRecDepth 100000 in
/-- the law: case 9, one way -/
theorem jx_l12 (p0 : Int32) (p1 : Int32) (p2 : Int32) (p3 : Int32) (p4 : Int32) (p5 : Int32) (g1 : ¬ p1 < (0 : Int32)) (hsw : p0 &&& (31 : Int32) = (9 : Int32)) {p : Program} {l : Launch} {e : Env} {R : Room} {s : State} {m : MethodId} {args : Array Value} {below : List Frame} {meth : Method} {c : Code} {E : jv_Env} {Q : State → Prop} (hTb : jv_TOk jv_Tb) (hT2 : jx_T2Ok) (hl : l.stackTraces = false) (F : jx_F jv_T2 439 E p R s m args meth c) (hZ : jx_Z E s) (hRc : R.cells = 600002) (hRs : R.slots = 7302232) {bb : Nat} {xs : Nat → Int32} (hX : va_X bb 6 xs s E.2.2.2.2) (hbB : bb < E.2.2.2.1) (hE2 : E.1 1000002 = bb) (hQ : ∀ (l0 : jv_L) (G : jv_G) (n sl : Nat), n ≤ 600002 → sl ≤ 7302232 → jw p l e R s m args below meth c E 8 0 0 Q 1532 l0 [.int (1 : Int32)] G n sl) (q0 : xs 0 = p0) (q1 : xs 1 = p1) (q2 : xs 2 = p2) (q3 : xs 3 = p3) (q4 : xs 4 = p4) (q5 : xs 5 = p5) : jw p l e R s m args below meth c E 8 0 0 Q 33 [(0, .ref 1000002), (1, .ref 0), (2, .ref 178), (3, .ref 226), (4, .int (0 : Int32))] [] (jv_H (jx_K 227) jx_If jx_L0 (jx_R 227)) 227 1572950 := by
  refine jw.steps F jx_i439 2 (pc' := 36) (l' := [(0, .ref 1000002), (1, .ref 0), (2, .ref 178), (3, .ref 226), (4, .int (0 : Int32))]) (st' := [.int (0 : Int32), .ref 1000002]) rfl ?_
  refine jw.sld F jx_i439 hX hbB hE2 (pc' := 37) rfl rfl (show vp_in (nI 0) 6 from vp_in_nI (by decide) (by decide)) q0 rfl ?_
  refine jw.steps F jx_i439 2 (pc' := 40) (l' := [(0, .ref 1000002), (1, .ref 0), (2, .ref 178), (3, .ref 226), (4, .int (0 : Int32))]) (st' := [.int (p0 &&& (31 : Int32))]) rfl ?_
  refine jw.br F jx_i439 (pc' := 536) (st' := []) rfl (by rw [hsw]; rfl) ?_
  refine jw.steps F jx_i439 5 (pc' := 542) (l' := [(0, .ref 1000002), (1, .ref 0), (2, .ref 178), (3, .ref 226), (4, .int (0 : Int32))]) (st' := [.int (1 : Int32), .ref 1000002, .ref 0]) rfl ?_
  refine jw.sld F jx_i439 hX hbB hE2 (pc' := 543) rfl rfl (show vp_in (nI 1) 6 from vp_in_nI (by decide) (by decide)) q1 rfl ?_
  refine jw.steps F jx_i439 1 (pc' := 544) (l' := [(0, .ref 1000002), (1, .ref 0), (2, .ref 178), (3, .ref 226), (4, .int (0 : Int32))]) (st' := [.ref 226, .int p1, .ref 0]) rfl ?_
  refine jw.wr F hl hZ rfl jx_i439 jx_i445 [.ref 0, .int p1, .ref 226] (pc' := 547) (S' := [.int (1 : Int32)]) rfl (List.mem_of_getElem? (i := 5) rfl) (List.mem_of_getElem? (i := 5) rfl) rfl rfl rfl (jx_w41 hTb hT2 p0 p1 p2 p3 p4 p5 g1) (by omega) (by omega) (by omega) (by omega) rfl rfl ?_
  refine jw.steps F jx_i439 6 (pc' := 555) (l' := [(5, .int (1 : Int32)), (0, .ref 1000002), (1, .ref 0), (2, .ref 178), (3, .ref 226), (4, .int (0 : Int32))]) (st' := [.int (1 : Int32), .ref 1000002, .ref 178]) rfl ?_
  refine jw.sld F jx_i439 hX hbB hE2 (pc' := 556) rfl rfl (show vp_in (nI 1) 6 from vp_in_nI (by decide) (by decide)) q1 rfl ?_
  refine jw.ca hTb F jx_i439 (pc' := 559) (S' := [.int (0 : Int32)]) rfl jv_i360 [.ref 178, .int p1] rfl rfl rfl rfl (jx_cal2 rfl (jv_H_at rfl) rfl rfl) rfl (jx_e42 p0 p1 p2 p3 p4 p5 g1) (by omega) (by omega) rfl rfl ?_
  refine jw.steps F jx_i439 2 (pc' := 562) (l' := [(6, .int (0 : Int32)), (5, .int (1 : Int32)), (0, .ref 1000002), (1, .ref 0), (2, .ref 178), (3, .ref 226), (4, .int (0 : Int32))]) (st' := [.ref 178]) rfl ?_
  refine jw.ca hTb F jx_i439 (pc' := 565) (S' := [.int (1 : Int32)]) rfl jv_i350 [.ref 178] rfl rfl rfl rfl (jx_cal2 rfl (jv_H_at rfl) rfl rfl) rfl (jx_e43 p0 p1 p2 p3 p4 p5 g1) (by omega) (by omega) rfl rfl ?_
  refine jw.steps F jx_i439 1 (pc' := 567) (l' := [(6, .int (0 : Int32)), (5, .int (1 : Int32)), (0, .ref 1000002), (1, .ref 0), (2, .ref 178), (3, .ref 226), (4, .int (0 : Int32))]) (st' := [.int (1 : Int32), .int (1 : Int32)]) rfl ?_
  refine jw.br F jx_i439 (pc' := 572) (st' := []) rfl (jv_bc_eq.trans (jx_got (by decide))) ?_
  refine jw.steps F jx_i439 1 (pc' := 574) (l' := [(6, .int (0 : Int32)), (5, .int (1 : Int32)), (0, .ref 1000002), (1, .ref 0), (2, .ref 178), (3, .ref 226), (4, .int (0 : Int32))]) (st' := [.int (1 : Int32)]) rfl ?_
  refine jw.br F jx_i439 (pc' := 589) (st' := []) rfl (jv_bi_ne.trans (jx_got (by decide))) ?_
  refine jw.steps F jx_i439 5 (pc' := 26) (l' := [(4, .int (6 : Int32)), (6, .int (0 : Int32)), (5, .int (1 : Int32)), (0, .ref 1000002), (1, .ref 0), (2, .ref 178), (3, .ref 226)]) (st' := [.ref 1000002, .int (6 : Int32)]) rfl ?_
  refine jw.slen F jx_i439 hX hbB hE2 (pc' := 27) rfl rfl rfl ?_
  refine jw.steps F jx_i439 2 (pc' := 30) (l' := [(4, .int (6 : Int32)), (6, .int (0 : Int32)), (5, .int (1 : Int32)), (0, .ref 1000002), (1, .ref 0), (2, .ref 178), (3, .ref 226)]) (st' := [.int (0 : Int32), .int (6 : Int32)]) rfl ?_
  refine jw.br F jx_i439 (pc' := 1531) (st' := []) rfl (jv_bc_gt.trans (jx_got (by decide))) ?_
  refine jw.steps F jx_i439 1 (pc' := 1532) (l' := [(4, .int (6 : Int32)), (6, .int (0 : Int32)), (5, .int (1 : Int32)), (0, .ref 1000002), (1, .ref 0), (2, .ref 178), (3, .ref 226)]) (st' := [.int (1 : Int32)]) rfl ?_
  exact hQ _ _ _ _ (by omega) (by omega)

set_option maxRecDepth 100000 in
/-- the law: case 9 -/
theorem jx_case9 (p0 : Int32) (p1 : Int32) (p2 : Int32) (p3 : Int32) (p4 : Int32) (p5 : Int32) (hsw : p0 &&& (31 : Int32) = (9 : Int32)) {p : Program} {l : Launch} {e : Env} {R : Room} {s : State} {m : MethodId} {args : Array Value} {below : List Frame} {meth : Method} {c : Code} {E : jv_Env} {Q : State → Prop} (hTb : jv_TOk jv_Tb) (hT2 : jx_T2Ok) (hl : l.stackTraces = false) (F : jx_F jv_T2 439 E p R s m args meth c) (hZ : jx_Z E s) (hRc : R.cells = 600002) (hRs : R.slots = 7302232) {bb : Nat} {xs : Nat → Int32} (hX : va_X bb 6 xs s E.2.2.2.2) (hbB : bb < E.2.2.2.1) (hE2 : E.1 1000002 = bb) (hQ : ∀ (l0 : jv_L) (G : jv_G) (n sl : Nat), n ≤ 600002 → sl ≤ 7302232 → jw p l e R s m args below meth c E 8 0 0 Q 1532 l0 [.int (1 : Int32)] G n sl) (q0 : xs 0 = p0) (q1 : xs 1 = p1) (q2 : xs 2 = p2) (q3 : xs 3 = p3) (q4 : xs 4 = p4) (q5 : xs 5 = p5) : jw p l e R s m args below meth c E 8 0 0 Q 33 [(0, .ref 1000002), (1, .ref 0), (2, .ref 178), (3, .ref 226), (4, .int (0 : Int32))] [] (jv_H (jx_K 227) jx_If jx_L0 (jx_R 227)) 227 1572950 := by
  by_cases g1 : p1 < (0 : Int32)
  · exact jx_l11 p0 p1 p2 p3 p4 p5 g1 hsw hTb hT2 hl F hZ hRc hRs hX hbB hE2 hQ q0 q1 q2 q3 q4 q5
  · exact jx_l12 p0 p1 p2 p3 p4 p5 g1 hsw hTb hT2 hl F hZ hRc hRs hX hbB hE2 hQ q0 q1 q2 q3 q4 q5

set_option maxRecDepth 100000 in
theorem jx_i446 : jx_I jv_T2 446 5 (some .int) 8 133 jv_c446 := ⟨rfl, rfl, rfl, rfl, rfl⟩
set_option maxRecDepth 100000 in
theorem jv_i424 : jv_I 424 4 none 7 110 jv_c424 := ⟨rfl, rfl, rfl, rfl, rfl⟩
set_option maxRecDepth 100000 in
theorem jv_i426 : jv_I 426 1 none 6 90 jv_c426 := ⟨rfl, rfl, rfl, rfl, rfl⟩
set_option maxRecDepth 100000 in
/-- ProgramBox.testContext: it throws -/
theorem jx_e44 (hTb : jv_TOk jv_Tb) (p0 : Int32) (p1 : Int32) (p2 : Int32) (p3 : Int32) (p4 : Int32) (p5 : Int32) (g1 : (p1 - p1 / (8 : Int32) * (8 : Int32)) = (0 : Int32)) (g2 : p1 < (16 : Int32)) : jx_Th 426 [.int p1] (jv_H (jx_K 227) jx_If jx_L0 (jx_R 227)) 227 1572950 2 (jv_H (jx_K 227) jx_If jx_L0 (jx_R 227)) 228 1572956 := by
  refine jx_Th.of hTb (y := 426) rfl (Nat.le_of_ble_eq_true rfl) ?_
  intro p l e R s m args below meth c E hl F hZ h0 ht hRc hRs
  show jw p l e R s m args below meth c E 1 227 1572950 _ 0 [(0, .int p1)] [] (jv_H (jx_K 227) jx_If jx_L0 (jx_R 227)) 227 1572950
  refine jw.steps F jv_i426 2 (pc' := 3) (l' := [(0, .int p1)]) (st' := [.int (8 : Int32), .int p1]) rfl ?_
  refine jw.op F jv_i426 (pc' := 4) (l' := [(0, .int p1)]) (st' := [.int (p1 - p1 / (8 : Int32) * (8 : Int32))]) rfl (jv_op_irem (by decide)) ?_
  refine jw.br F jv_i426 (pc' := 17) (st' := []) rfl (jv_bi_eq.trans (jx_got (by rw [g1] <;> decide))) ?_
  refine jw.steps F jv_i426 2 (pc' := 20) (l' := [(0, .int p1)]) (st' := [.int (16 : Int32), .int p1]) rfl ?_
  refine jw.br F jv_i426 (pc' := 29) (st' := []) rfl (jv_bc_lt.trans (jx_got g2)) ?_
  exact jw.throw hl F hZ h0 rfl jv_i426 ht 2 145 "the context has no such number" (List.mem_of_getElem? (i := 8) rfl) (by decide +kernel) (by decide +kernel) (by decide +kernel) (by decide +kernel) (by decide +kernel) rfl (by decide) (by decide) (by decide) (by omega) (by omega)

set_option maxRecDepth 100000 in
/-- ProgramBox.context: it throws -/
theorem jx_e45 (hTb : jv_TOk jv_Tb) (p0 : Int32) (p1 : Int32) (p2 : Int32) (p3 : Int32) (p4 : Int32) (p5 : Int32) (g1 : (p1 - p1 / (8 : Int32) * (8 : Int32)) = (0 : Int32)) (g2 : p1 < (16 : Int32)) : jx_Th 424 [.ref 0, .int p1, .long ((p2.toInt64 <<< ((32 : Int32).toInt64 &&& 63)) ||| (p3.toInt64 &&& (4294967295 : Int64)))] (jv_H (jx_K 227) jx_If jx_L0 (jx_R 227)) 227 1572950 2 (jv_H (jx_K 227) jx_If jx_L0 (jx_R 227)) 228 1572956 := by
  refine jx_Th.of hTb (y := 424) rfl (Nat.le_of_ble_eq_true rfl) ?_
  intro p l e R s m args below meth c E hl F hZ h0 ht hRc hRs
  show jw p l e R s m args below meth c E 4 227 1572950 _ 0 [(0, .ref 0), (1, .int p1), (2, .long ((p2.toInt64 <<< ((32 : Int32).toInt64 &&& 63)) ||| (p3.toInt64 &&& (4294967295 : Int64))))] [] (jv_H (jx_K 227) jx_If jx_L0 (jx_R 227)) 227 1572950
  refine jw.steps F jv_i424 1 (pc' := 1) (l' := [(0, .ref 0), (1, .int p1), (2, .long ((p2.toInt64 <<< ((32 : Int32).toInt64 &&& 63)) ||| (p3.toInt64 &&& (4294967295 : Int64))))]) (st' := [.int p1]) rfl ?_
  exact jw.prop hTb hl F hZ jv_i424 ht rfl jv_i426 [.int p1] rfl rfl rfl rfl rfl rfl rfl (jx_e44 hTb p0 p1 p2 p3 p4 p5 g1 g2) (by omega) (by omega) (by omega) (by omega)

set_option maxRecDepth 100000 in
/-- the law's context -/
theorem jx_w46 (hTb : jv_TOk jv_Tb) (hT2 : jx_T2Ok) (p0 : Int32) (p1 : Int32) (p2 : Int32) (p3 : Int32) (p4 : Int32) (p5 : Int32) (g1 : (p1 - p1 / (8 : Int32) * (8 : Int32)) = (0 : Int32)) (g2 : p1 < (16 : Int32)) : jx_Wr 446 [(0, 6, 9, 36), (0, 6, 13, 19)] [.ref 0, .int p1, .long ((p2.toInt64 <<< ((32 : Int32).toInt64 &&& 63)) ||| (p3.toInt64 &&& (4294967295 : Int64)))] (jv_H (jx_K 227) jx_If jx_L0 (jx_R 227)) 227 1572950 (some (.int (1 : Int32)), (jv_H (jx_K 227) jx_If jx_L0 (jx_R 227)), 228, 1572956) := by
  refine jx_Wr.of hT2 (by decide) rfl (Nat.le_of_ble_eq_true rfl) ?_
  intro p l e R s m args below meth c E hl F hZ htb hRc hRs
  show jw p l e R s m args below meth c E 5 227 1572950 _ 0 [(0, .ref 0), (1, .int p1), (2, .long ((p2.toInt64 <<< ((32 : Int32).toInt64 &&& 63)) ||| (p3.toInt64 &&& (4294967295 : Int64))))] [] (jv_H (jx_K 227) jx_If jx_L0 (jx_R 227)) 227 1572950
  have hRc : R.cells = 228 - 227 := hRc
  have hRs : R.slots = 1572956 - 1572950 := hRs
  refine jw.steps F jx_i446 3 (pc' := 3) (l' := [(0, .ref 0), (1, .int p1), (2, .long ((p2.toInt64 <<< ((32 : Int32).toInt64 &&& 63)) ||| (p3.toInt64 &&& (4294967295 : Int64))))]) (st' := [.long ((p2.toInt64 <<< ((32 : Int32).toInt64 &&& 63)) ||| (p3.toInt64 &&& (4294967295 : Int64))), .int p1, .ref 0]) rfl ?_
  refine jw.cat hTb hl F hZ rfl jx_i446 htb rfl jv_i424 [.ref 0, .int p1, .long ((p2.toInt64 <<< ((32 : Int32).toInt64 &&& 63)) ||| (p3.toInt64 &&& (4294967295 : Int64)))] rfl rfl rfl rfl rfl (jx_cal2 rfl (jv_H_at rfl) rfl rfl) rfl (jx_e45 hTb p0 p1 p2 p3 p4 p5 g1 g2) (by omega) (by omega) (by omega) (by omega) [] (0, 6, 9, 36) [(0, 6, 13, 19)] rfl (fun z h => absurd h List.not_mem_nil) (by decide) rfl rfl (Or.inl ⟨rfl, rfl⟩) (by decide) ?_
  refine jw.steps F jx_i446 1 (pc' := 12) (l' := []) (st' := [.int (1 : Int32)]) rfl ?_
  exact jw.ret F jx_i446 rfl rfl

set_option maxRecDepth 100000 in
theorem jv_i362 : jv_I 362 5 none 1 21 jv_c362 := ⟨rfl, rfl, rfl, rfl, rfl⟩
set_option maxRecDepth 100000 in
theorem jv_i361 : jv_I 361 2 (some .boolean) 0 0 jv_c361 := ⟨rfl, rfl, rfl, rfl, rfl⟩
set_option maxRecDepth 100000 in
/-- ProgramBoxModel.noField -/
theorem jx_e47 (p0 : Int32) (p1 : Int32) (p2 : Int32) (p3 : Int32) (p4 : Int32) (p5 : Int32) (g1 : (p1 - p1 / (8 : Int32) * (8 : Int32)) = (0 : Int32)) (g2 : p1 < (16 : Int32)) : jv_Ms 361 [.ref 178, .int p1] (jv_H (jx_K 227) jx_If jx_L0 (jx_R 227)) 228 1572956 (some (.int (1 : Int32)), (jv_H (jx_K 227) (jv_u jx_If 178 0 (1 : Int32)) jx_L0 (jx_R 227)), 228, 1572956) := by
  show jv_Ev 361 0 [(0, .ref 178), (1, .int p1)] [] (jv_H (jx_K 227) jx_If jx_L0 (jx_R 227)) 228 1572956 _
  refine jv_Ev.steps jv_i361 3 (pc' := 4) (l' := [(0, .ref 178), (1, .int p1)]) (st' := [.int (8 : Int32), .int p1, .ref 178]) rfl ?_
  refine jv_Ev.op jv_i361 (pc' := 5) (l' := [(0, .ref 178), (1, .int p1)]) (st' := [.int (p1 - p1 / (8 : Int32) * (8 : Int32)), .ref 178]) rfl (jv_op_irem (by decide)) ?_
  refine jv_Ev.br jv_i361 (pc' := 12) (st' := [.ref 178]) rfl (jv_bi_eq.trans (jx_got (by rw [g1] <;> decide))) ?_
  refine jv_Ev.steps jv_i361 2 (pc' := 15) (l' := [(0, .ref 178), (1, .int p1)]) (st' := [.int (16 : Int32), .int p1, .ref 178]) rfl ?_
  refine jv_Ev.br jv_i361 (pc' := 24) (st' := [.ref 178]) rfl (jv_bc_lt.trans (jx_got g2)) ?_
  refine jv_Ev.steps jv_i361 2 (pc' := 29) (l' := [(0, .ref 178), (1, .int p1)]) (st' := [.int (1 : Int32), .ref 178]) rfl ?_
  refine jv_Ev.m jv_i361 (pc' := 32) (st' := []) rfl rfl (jv_m_putI rfl rfl rfl rfl rfl) ?_
  refine jv_Ev.steps jv_i361 1 (pc' := 33) (l' := [(0, .ref 178), (1, .int p1)]) (st' := [.ref 178]) rfl ?_
  refine jv_Ev.m jv_i361 (pc' := 36) (st' := [.int (1 : Int32)]) rfl rfl (jv_m_getI rfl rfl rfl rfl) ?_
  refine jv_Ev.br jv_i361 (pc' := 39) (st' := []) rfl (jv_bi_le.trans (jx_gof (by decide))) ?_
  refine jv_Ev.steps jv_i361 2 (pc' := 44) (l' := [(0, .ref 178), (1, .int p1)]) (st' := [.int (1 : Int32)]) rfl ?_
  exact jv_Ev.ret jv_i361 rfl (jv_ret_b (by decide))

set_option maxRecDepth 100000 in
/-- ProgramBoxModel.context -/
theorem jx_e48 (p0 : Int32) (p1 : Int32) (p2 : Int32) (p3 : Int32) (p4 : Int32) (p5 : Int32) (g1 : (p1 - p1 / (8 : Int32) * (8 : Int32)) = (0 : Int32)) (g2 : p1 < (16 : Int32)) : jv_Ms 362 [.ref 178, .int p1, .long ((p2.toInt64 <<< ((32 : Int32).toInt64 &&& 63)) ||| (p3.toInt64 &&& (4294967295 : Int64)))] (jv_H (jx_K 227) jx_If jx_L0 (jx_R 227)) 228 1572956 (none, (jv_H (jx_K 227) (jv_u jx_If 178 0 (1 : Int32)) jx_L0 (jx_R 227)), 228, 1572956) := by
  show jv_Ev 362 0 [(0, .ref 178), (1, .int p1), (2, .long ((p2.toInt64 <<< ((32 : Int32).toInt64 &&& 63)) ||| (p3.toInt64 &&& (4294967295 : Int64))))] [] (jv_H (jx_K 227) jx_If jx_L0 (jx_R 227)) 228 1572956 _
  refine jv_Ev.steps jv_i362 2 (pc' := 2) (l' := [(0, .ref 178), (1, .int p1), (2, .long ((p2.toInt64 <<< ((32 : Int32).toInt64 &&& 63)) ||| (p3.toInt64 &&& (4294967295 : Int64))))]) (st' := [.int p1, .ref 178]) rfl ?_
  refine jv_Ev.c jv_i362 (pc' := 5) (S' := [.int (1 : Int32)]) jv_i361 [.ref 178, .int p1] rfl rfl rfl rfl (jv_cal rfl (jv_H_at rfl) rfl rfl) rfl (jx_e47 p0 p1 p2 p3 p4 p5 g1 g2) rfl rfl ?_
  refine jv_Ev.br jv_i362 (pc' := 45) (st' := []) rfl (jv_bi_ne.trans (jx_got (by decide))) ?_
  exact jv_Ev.ret jv_i362 rfl rfl

set_option maxRecDepth 100000 in
/-- ProgramBoxModel.thrown -/
theorem jx_e49 (p0 : Int32) (p1 : Int32) (p2 : Int32) (p3 : Int32) (p4 : Int32) (p5 : Int32) (g1 : (p1 - p1 / (8 : Int32) * (8 : Int32)) = (0 : Int32)) (g2 : p1 < (16 : Int32)) : jv_Ms 350 [.ref 178] (jv_H (jx_K 227) (jv_u jx_If 178 0 (1 : Int32)) jx_L0 (jx_R 227)) 228 1572956 (some (.int (1 : Int32)), (jv_H (jx_K 227) (jv_u jx_If 178 0 (1 : Int32)) jx_L0 (jx_R 227)), 228, 1572956) := by
  show jv_Ev 350 0 [(0, .ref 178)] [] (jv_H (jx_K 227) (jv_u jx_If 178 0 (1 : Int32)) jx_L0 (jx_R 227)) 228 1572956 _
  refine jv_Ev.steps jv_i350 1 (pc' := 1) (l' := [(0, .ref 178)]) (st' := [.ref 178]) rfl ?_
  refine jv_Ev.m jv_i350 (pc' := 4) (st' := [.int (1 : Int32)]) rfl rfl (jv_m_getI rfl rfl rfl rfl) ?_
  exact jv_Ev.ret jv_i350 rfl rfl

set_option maxRecDepth 100000 in
/-- the law: case 10, one way -/
theorem jx_l13 (p0 : Int32) (p1 : Int32) (p2 : Int32) (p3 : Int32) (p4 : Int32) (p5 : Int32) (g1 : (p1 - p1 / (8 : Int32) * (8 : Int32)) = (0 : Int32)) (g2 : p1 < (16 : Int32)) (hsw : p0 &&& (31 : Int32) = (10 : Int32)) {p : Program} {l : Launch} {e : Env} {R : Room} {s : State} {m : MethodId} {args : Array Value} {below : List Frame} {meth : Method} {c : Code} {E : jv_Env} {Q : State → Prop} (hTb : jv_TOk jv_Tb) (hT2 : jx_T2Ok) (hl : l.stackTraces = false) (F : jx_F jv_T2 439 E p R s m args meth c) (hZ : jx_Z E s) (hRc : R.cells = 600002) (hRs : R.slots = 7302232) {bb : Nat} {xs : Nat → Int32} (hX : va_X bb 6 xs s E.2.2.2.2) (hbB : bb < E.2.2.2.1) (hE2 : E.1 1000002 = bb) (hQ : ∀ (l0 : jv_L) (G : jv_G) (n sl : Nat), n ≤ 600002 → sl ≤ 7302232 → jw p l e R s m args below meth c E 8 0 0 Q 1532 l0 [.int (1 : Int32)] G n sl) (q0 : xs 0 = p0) (q1 : xs 1 = p1) (q2 : xs 2 = p2) (q3 : xs 3 = p3) (q4 : xs 4 = p4) (q5 : xs 5 = p5) : jw p l e R s m args below meth c E 8 0 0 Q 33 [(0, .ref 1000002), (1, .ref 0), (2, .ref 178), (3, .ref 226), (4, .int (0 : Int32))] [] (jv_H (jx_K 227) jx_If jx_L0 (jx_R 227)) 227 1572950 := by
  refine jw.steps F jx_i439 2 (pc' := 36) (l' := [(0, .ref 1000002), (1, .ref 0), (2, .ref 178), (3, .ref 226), (4, .int (0 : Int32))]) (st' := [.int (0 : Int32), .ref 1000002]) rfl ?_
  refine jw.sld F jx_i439 hX hbB hE2 (pc' := 37) rfl rfl (show vp_in (nI 0) 6 from vp_in_nI (by decide) (by decide)) q0 rfl ?_
  refine jw.steps F jx_i439 2 (pc' := 40) (l' := [(0, .ref 1000002), (1, .ref 0), (2, .ref 178), (3, .ref 226), (4, .int (0 : Int32))]) (st' := [.int (p0 &&& (31 : Int32))]) rfl ?_
  refine jw.br F jx_i439 (pc' := 592) (st' := []) rfl (by rw [hsw]; rfl) ?_
  refine jw.steps F jx_i439 5 (pc' := 598) (l' := [(0, .ref 1000002), (1, .ref 0), (2, .ref 178), (3, .ref 226), (4, .int (0 : Int32))]) (st' := [.int (1 : Int32), .ref 1000002, .ref 0]) rfl ?_
  refine jw.sld F jx_i439 hX hbB hE2 (pc' := 599) rfl rfl (show vp_in (nI 1) 6 from vp_in_nI (by decide) (by decide)) q1 rfl ?_
  refine jw.steps F jx_i439 4 (pc' := 604) (l' := [(0, .ref 1000002), (1, .ref 0), (2, .ref 178), (3, .ref 226), (4, .int (0 : Int32))]) (st' := [.int (2 : Int32), .ref 1000002, .int p1, .ref 0]) rfl ?_
  refine jw.sld F jx_i439 hX hbB hE2 (pc' := 605) rfl rfl (show vp_in (nI 2) 6 from vp_in_nI (by decide) (by decide)) q2 rfl ?_
  refine jw.steps F jx_i439 7 (pc' := 614) (l' := [(0, .ref 1000002), (1, .ref 0), (2, .ref 178), (3, .ref 226), (4, .int (0 : Int32))]) (st' := [.int (3 : Int32), .ref 1000002, .long (p2.toInt64 <<< ((32 : Int32).toInt64 &&& 63)), .int p1, .ref 0]) rfl ?_
  refine jw.sld F jx_i439 hX hbB hE2 (pc' := 615) rfl rfl (show vp_in (nI 3) 6 from vp_in_nI (by decide) (by decide)) q3 rfl ?_
  refine jw.steps F jx_i439 4 (pc' := 621) (l' := [(0, .ref 1000002), (1, .ref 0), (2, .ref 178), (3, .ref 226), (4, .int (0 : Int32))]) (st' := [.long ((p2.toInt64 <<< ((32 : Int32).toInt64 &&& 63)) ||| (p3.toInt64 &&& (4294967295 : Int64))), .int p1, .ref 0]) rfl ?_
  refine jw.wr F hl hZ rfl jx_i439 jx_i446 [.ref 0, .int p1, .long ((p2.toInt64 <<< ((32 : Int32).toInt64 &&& 63)) ||| (p3.toInt64 &&& (4294967295 : Int64)))] (pc' := 624) (S' := [.int (1 : Int32)]) rfl (List.mem_of_getElem? (i := 6) rfl) (List.mem_of_getElem? (i := 6) rfl) rfl rfl rfl (jx_w46 hTb hT2 p0 p1 p2 p3 p4 p5 g1 g2) (by omega) (by omega) (by omega) (by omega) rfl rfl ?_
  refine jw.steps F jx_i439 6 (pc' := 632) (l' := [(5, .int (1 : Int32)), (0, .ref 1000002), (1, .ref 0), (2, .ref 178), (3, .ref 226), (4, .int (0 : Int32))]) (st' := [.int (1 : Int32), .ref 1000002, .ref 178]) rfl ?_
  refine jw.sld F jx_i439 hX hbB hE2 (pc' := 633) rfl rfl (show vp_in (nI 1) 6 from vp_in_nI (by decide) (by decide)) q1 rfl ?_
  refine jw.steps F jx_i439 4 (pc' := 638) (l' := [(5, .int (1 : Int32)), (0, .ref 1000002), (1, .ref 0), (2, .ref 178), (3, .ref 226), (4, .int (0 : Int32))]) (st' := [.int (2 : Int32), .ref 1000002, .int p1, .ref 178]) rfl ?_
  refine jw.sld F jx_i439 hX hbB hE2 (pc' := 639) rfl rfl (show vp_in (nI 2) 6 from vp_in_nI (by decide) (by decide)) q2 rfl ?_
  refine jw.steps F jx_i439 7 (pc' := 648) (l' := [(5, .int (1 : Int32)), (0, .ref 1000002), (1, .ref 0), (2, .ref 178), (3, .ref 226), (4, .int (0 : Int32))]) (st' := [.int (3 : Int32), .ref 1000002, .long (p2.toInt64 <<< ((32 : Int32).toInt64 &&& 63)), .int p1, .ref 178]) rfl ?_
  refine jw.sld F jx_i439 hX hbB hE2 (pc' := 649) rfl rfl (show vp_in (nI 3) 6 from vp_in_nI (by decide) (by decide)) q3 rfl ?_
  refine jw.steps F jx_i439 4 (pc' := 655) (l' := [(5, .int (1 : Int32)), (0, .ref 1000002), (1, .ref 0), (2, .ref 178), (3, .ref 226), (4, .int (0 : Int32))]) (st' := [.long ((p2.toInt64 <<< ((32 : Int32).toInt64 &&& 63)) ||| (p3.toInt64 &&& (4294967295 : Int64))), .int p1, .ref 178]) rfl ?_
  refine jw.ca hTb F jx_i439 (pc' := 658) (S' := []) rfl jv_i362 [.ref 178, .int p1, .long ((p2.toInt64 <<< ((32 : Int32).toInt64 &&& 63)) ||| (p3.toInt64 &&& (4294967295 : Int64)))] rfl rfl rfl rfl (jx_cal2 rfl (jv_H_at rfl) rfl rfl) rfl (jx_e48 p0 p1 p2 p3 p4 p5 g1 g2) (by omega) (by omega) rfl rfl ?_
  refine jw.steps F jx_i439 1 (pc' := 659) (l' := [(5, .int (1 : Int32)), (0, .ref 1000002), (1, .ref 0), (2, .ref 178), (3, .ref 226), (4, .int (0 : Int32))]) (st' := [.ref 178]) rfl ?_
  refine jw.ca hTb F jx_i439 (pc' := 662) (S' := [.int (1 : Int32)]) rfl jv_i350 [.ref 178] rfl rfl rfl rfl (jx_cal2 rfl (jv_H_at rfl) rfl rfl) rfl (jx_e49 p0 p1 p2 p3 p4 p5 g1 g2) (by omega) (by omega) rfl rfl ?_
  refine jw.steps F jx_i439 1 (pc' := 664) (l' := [(5, .int (1 : Int32)), (0, .ref 1000002), (1, .ref 0), (2, .ref 178), (3, .ref 226), (4, .int (0 : Int32))]) (st' := [.int (1 : Int32), .int (1 : Int32)]) rfl ?_
  refine jw.br F jx_i439 (pc' := 669) (st' := []) rfl (jv_bc_eq.trans (jx_got (by decide))) ?_
  refine jw.steps F jx_i439 5 (pc' := 26) (l' := [(4, .int (6 : Int32)), (5, .int (1 : Int32)), (0, .ref 1000002), (1, .ref 0), (2, .ref 178), (3, .ref 226)]) (st' := [.ref 1000002, .int (6 : Int32)]) rfl ?_
  refine jw.slen F jx_i439 hX hbB hE2 (pc' := 27) rfl rfl rfl ?_
  refine jw.steps F jx_i439 2 (pc' := 30) (l' := [(4, .int (6 : Int32)), (5, .int (1 : Int32)), (0, .ref 1000002), (1, .ref 0), (2, .ref 178), (3, .ref 226)]) (st' := [.int (0 : Int32), .int (6 : Int32)]) rfl ?_
  refine jw.br F jx_i439 (pc' := 1531) (st' := []) rfl (jv_bc_gt.trans (jx_got (by decide))) ?_
  refine jw.steps F jx_i439 1 (pc' := 1532) (l' := [(4, .int (6 : Int32)), (5, .int (1 : Int32)), (0, .ref 1000002), (1, .ref 0), (2, .ref 178), (3, .ref 226)]) (st' := [.int (1 : Int32)]) rfl ?_
  exact hQ _ _ _ _ (by omega) (by omega)

set_option maxRecDepth 100000 in
/-- ProgramBox.testContext: it throws -/
theorem jx_e50 (hTb : jv_TOk jv_Tb) (p0 : Int32) (p1 : Int32) (p2 : Int32) (p3 : Int32) (p4 : Int32) (p5 : Int32) (g1 : (p1 - p1 / (8 : Int32) * (8 : Int32)) = (0 : Int32)) (g2 : ¬ p1 < (16 : Int32)) (g3 : (56 : Int32) < p1) : jx_Th 426 [.int p1] (jv_H (jx_K 227) jx_If jx_L0 (jx_R 227)) 227 1572950 2 (jv_H (jx_K 227) jx_If jx_L0 (jx_R 227)) 228 1572956 := by
  refine jx_Th.of hTb (y := 426) rfl (Nat.le_of_ble_eq_true rfl) ?_
  intro p l e R s m args below meth c E hl F hZ h0 ht hRc hRs
  show jw p l e R s m args below meth c E 1 227 1572950 _ 0 [(0, .int p1)] [] (jv_H (jx_K 227) jx_If jx_L0 (jx_R 227)) 227 1572950
  refine jw.steps F jv_i426 2 (pc' := 3) (l' := [(0, .int p1)]) (st' := [.int (8 : Int32), .int p1]) rfl ?_
  refine jw.op F jv_i426 (pc' := 4) (l' := [(0, .int p1)]) (st' := [.int (p1 - p1 / (8 : Int32) * (8 : Int32))]) rfl (jv_op_irem (by decide)) ?_
  refine jw.br F jv_i426 (pc' := 17) (st' := []) rfl (jv_bi_eq.trans (jx_got (by rw [g1] <;> decide))) ?_
  refine jw.steps F jv_i426 2 (pc' := 20) (l' := [(0, .int p1)]) (st' := [.int (16 : Int32), .int p1]) rfl ?_
  refine jw.br F jv_i426 (pc' := 23) (st' := []) rfl (jv_bc_lt.trans (jx_gof g2)) ?_
  refine jw.steps F jv_i426 2 (pc' := 26) (l' := [(0, .int p1)]) (st' := [.int (56 : Int32), .int p1]) rfl ?_
  refine jw.br F jv_i426 (pc' := 29) (st' := []) rfl (jv_bc_le.trans (jx_gof (Int32.not_le.mpr g3))) ?_
  exact jw.throw hl F hZ h0 rfl jv_i426 ht 2 145 "the context has no such number" (List.mem_of_getElem? (i := 8) rfl) (by decide +kernel) (by decide +kernel) (by decide +kernel) (by decide +kernel) (by decide +kernel) rfl (by decide) (by decide) (by decide) (by omega) (by omega)

set_option maxRecDepth 100000 in
/-- ProgramBox.context: it throws -/
theorem jx_e51 (hTb : jv_TOk jv_Tb) (p0 : Int32) (p1 : Int32) (p2 : Int32) (p3 : Int32) (p4 : Int32) (p5 : Int32) (g1 : (p1 - p1 / (8 : Int32) * (8 : Int32)) = (0 : Int32)) (g2 : ¬ p1 < (16 : Int32)) (g3 : (56 : Int32) < p1) : jx_Th 424 [.ref 0, .int p1, .long ((p2.toInt64 <<< ((32 : Int32).toInt64 &&& 63)) ||| (p3.toInt64 &&& (4294967295 : Int64)))] (jv_H (jx_K 227) jx_If jx_L0 (jx_R 227)) 227 1572950 2 (jv_H (jx_K 227) jx_If jx_L0 (jx_R 227)) 228 1572956 := by
  refine jx_Th.of hTb (y := 424) rfl (Nat.le_of_ble_eq_true rfl) ?_
  intro p l e R s m args below meth c E hl F hZ h0 ht hRc hRs
  show jw p l e R s m args below meth c E 4 227 1572950 _ 0 [(0, .ref 0), (1, .int p1), (2, .long ((p2.toInt64 <<< ((32 : Int32).toInt64 &&& 63)) ||| (p3.toInt64 &&& (4294967295 : Int64))))] [] (jv_H (jx_K 227) jx_If jx_L0 (jx_R 227)) 227 1572950
  refine jw.steps F jv_i424 1 (pc' := 1) (l' := [(0, .ref 0), (1, .int p1), (2, .long ((p2.toInt64 <<< ((32 : Int32).toInt64 &&& 63)) ||| (p3.toInt64 &&& (4294967295 : Int64))))]) (st' := [.int p1]) rfl ?_
  exact jw.prop hTb hl F hZ jv_i424 ht rfl jv_i426 [.int p1] rfl rfl rfl rfl rfl rfl rfl (jx_e50 hTb p0 p1 p2 p3 p4 p5 g1 g2 g3) (by omega) (by omega) (by omega) (by omega)

set_option maxRecDepth 100000 in
/-- the law's context -/
theorem jx_w52 (hTb : jv_TOk jv_Tb) (hT2 : jx_T2Ok) (p0 : Int32) (p1 : Int32) (p2 : Int32) (p3 : Int32) (p4 : Int32) (p5 : Int32) (g1 : (p1 - p1 / (8 : Int32) * (8 : Int32)) = (0 : Int32)) (g2 : ¬ p1 < (16 : Int32)) (g3 : (56 : Int32) < p1) : jx_Wr 446 [(0, 6, 9, 36), (0, 6, 13, 19)] [.ref 0, .int p1, .long ((p2.toInt64 <<< ((32 : Int32).toInt64 &&& 63)) ||| (p3.toInt64 &&& (4294967295 : Int64)))] (jv_H (jx_K 227) jx_If jx_L0 (jx_R 227)) 227 1572950 (some (.int (1 : Int32)), (jv_H (jx_K 227) jx_If jx_L0 (jx_R 227)), 228, 1572956) := by
  refine jx_Wr.of hT2 (by decide) rfl (Nat.le_of_ble_eq_true rfl) ?_
  intro p l e R s m args below meth c E hl F hZ htb hRc hRs
  show jw p l e R s m args below meth c E 5 227 1572950 _ 0 [(0, .ref 0), (1, .int p1), (2, .long ((p2.toInt64 <<< ((32 : Int32).toInt64 &&& 63)) ||| (p3.toInt64 &&& (4294967295 : Int64))))] [] (jv_H (jx_K 227) jx_If jx_L0 (jx_R 227)) 227 1572950
  have hRc : R.cells = 228 - 227 := hRc
  have hRs : R.slots = 1572956 - 1572950 := hRs
  refine jw.steps F jx_i446 3 (pc' := 3) (l' := [(0, .ref 0), (1, .int p1), (2, .long ((p2.toInt64 <<< ((32 : Int32).toInt64 &&& 63)) ||| (p3.toInt64 &&& (4294967295 : Int64))))]) (st' := [.long ((p2.toInt64 <<< ((32 : Int32).toInt64 &&& 63)) ||| (p3.toInt64 &&& (4294967295 : Int64))), .int p1, .ref 0]) rfl ?_
  refine jw.cat hTb hl F hZ rfl jx_i446 htb rfl jv_i424 [.ref 0, .int p1, .long ((p2.toInt64 <<< ((32 : Int32).toInt64 &&& 63)) ||| (p3.toInt64 &&& (4294967295 : Int64)))] rfl rfl rfl rfl rfl (jx_cal2 rfl (jv_H_at rfl) rfl rfl) rfl (jx_e51 hTb p0 p1 p2 p3 p4 p5 g1 g2 g3) (by omega) (by omega) (by omega) (by omega) [] (0, 6, 9, 36) [(0, 6, 13, 19)] rfl (fun z h => absurd h List.not_mem_nil) (by decide) rfl rfl (Or.inl ⟨rfl, rfl⟩) (by decide) ?_
  refine jw.steps F jx_i446 1 (pc' := 12) (l' := []) (st' := [.int (1 : Int32)]) rfl ?_
  exact jw.ret F jx_i446 rfl rfl

set_option maxRecDepth 100000 in
/-- ProgramBoxModel.noField -/
theorem jx_e53 (p0 : Int32) (p1 : Int32) (p2 : Int32) (p3 : Int32) (p4 : Int32) (p5 : Int32) (g1 : (p1 - p1 / (8 : Int32) * (8 : Int32)) = (0 : Int32)) (g2 : ¬ p1 < (16 : Int32)) (g3 : (56 : Int32) < p1) : jv_Ms 361 [.ref 178, .int p1] (jv_H (jx_K 227) jx_If jx_L0 (jx_R 227)) 228 1572956 (some (.int (1 : Int32)), (jv_H (jx_K 227) (jv_u jx_If 178 0 (1 : Int32)) jx_L0 (jx_R 227)), 228, 1572956) := by
  show jv_Ev 361 0 [(0, .ref 178), (1, .int p1)] [] (jv_H (jx_K 227) jx_If jx_L0 (jx_R 227)) 228 1572956 _
  refine jv_Ev.steps jv_i361 3 (pc' := 4) (l' := [(0, .ref 178), (1, .int p1)]) (st' := [.int (8 : Int32), .int p1, .ref 178]) rfl ?_
  refine jv_Ev.op jv_i361 (pc' := 5) (l' := [(0, .ref 178), (1, .int p1)]) (st' := [.int (p1 - p1 / (8 : Int32) * (8 : Int32)), .ref 178]) rfl (jv_op_irem (by decide)) ?_
  refine jv_Ev.br jv_i361 (pc' := 12) (st' := [.ref 178]) rfl (jv_bi_eq.trans (jx_got (by rw [g1] <;> decide))) ?_
  refine jv_Ev.steps jv_i361 2 (pc' := 15) (l' := [(0, .ref 178), (1, .int p1)]) (st' := [.int (16 : Int32), .int p1, .ref 178]) rfl ?_
  refine jv_Ev.br jv_i361 (pc' := 18) (st' := [.ref 178]) rfl (jv_bc_lt.trans (jx_gof g2)) ?_
  refine jv_Ev.steps jv_i361 2 (pc' := 21) (l' := [(0, .ref 178), (1, .int p1)]) (st' := [.int (56 : Int32), .int p1, .ref 178]) rfl ?_
  refine jv_Ev.br jv_i361 (pc' := 24) (st' := [.ref 178]) rfl (jv_bc_le.trans (jx_gof (Int32.not_le.mpr g3))) ?_
  refine jv_Ev.steps jv_i361 2 (pc' := 29) (l' := [(0, .ref 178), (1, .int p1)]) (st' := [.int (1 : Int32), .ref 178]) rfl ?_
  refine jv_Ev.m jv_i361 (pc' := 32) (st' := []) rfl rfl (jv_m_putI rfl rfl rfl rfl rfl) ?_
  refine jv_Ev.steps jv_i361 1 (pc' := 33) (l' := [(0, .ref 178), (1, .int p1)]) (st' := [.ref 178]) rfl ?_
  refine jv_Ev.m jv_i361 (pc' := 36) (st' := [.int (1 : Int32)]) rfl rfl (jv_m_getI rfl rfl rfl rfl) ?_
  refine jv_Ev.br jv_i361 (pc' := 39) (st' := []) rfl (jv_bi_le.trans (jx_gof (by decide))) ?_
  refine jv_Ev.steps jv_i361 2 (pc' := 44) (l' := [(0, .ref 178), (1, .int p1)]) (st' := [.int (1 : Int32)]) rfl ?_
  exact jv_Ev.ret jv_i361 rfl (jv_ret_b (by decide))

set_option maxRecDepth 100000 in
/-- ProgramBoxModel.context -/
theorem jx_e54 (p0 : Int32) (p1 : Int32) (p2 : Int32) (p3 : Int32) (p4 : Int32) (p5 : Int32) (g1 : (p1 - p1 / (8 : Int32) * (8 : Int32)) = (0 : Int32)) (g2 : ¬ p1 < (16 : Int32)) (g3 : (56 : Int32) < p1) : jv_Ms 362 [.ref 178, .int p1, .long ((p2.toInt64 <<< ((32 : Int32).toInt64 &&& 63)) ||| (p3.toInt64 &&& (4294967295 : Int64)))] (jv_H (jx_K 227) jx_If jx_L0 (jx_R 227)) 228 1572956 (none, (jv_H (jx_K 227) (jv_u jx_If 178 0 (1 : Int32)) jx_L0 (jx_R 227)), 228, 1572956) := by
  show jv_Ev 362 0 [(0, .ref 178), (1, .int p1), (2, .long ((p2.toInt64 <<< ((32 : Int32).toInt64 &&& 63)) ||| (p3.toInt64 &&& (4294967295 : Int64))))] [] (jv_H (jx_K 227) jx_If jx_L0 (jx_R 227)) 228 1572956 _
  refine jv_Ev.steps jv_i362 2 (pc' := 2) (l' := [(0, .ref 178), (1, .int p1), (2, .long ((p2.toInt64 <<< ((32 : Int32).toInt64 &&& 63)) ||| (p3.toInt64 &&& (4294967295 : Int64))))]) (st' := [.int p1, .ref 178]) rfl ?_
  refine jv_Ev.c jv_i362 (pc' := 5) (S' := [.int (1 : Int32)]) jv_i361 [.ref 178, .int p1] rfl rfl rfl rfl (jv_cal rfl (jv_H_at rfl) rfl rfl) rfl (jx_e53 p0 p1 p2 p3 p4 p5 g1 g2 g3) rfl rfl ?_
  refine jv_Ev.br jv_i362 (pc' := 45) (st' := []) rfl (jv_bi_ne.trans (jx_got (by decide))) ?_
  exact jv_Ev.ret jv_i362 rfl rfl

set_option maxRecDepth 100000 in
/-- ProgramBoxModel.thrown -/
theorem jx_e55 (p0 : Int32) (p1 : Int32) (p2 : Int32) (p3 : Int32) (p4 : Int32) (p5 : Int32) (g1 : (p1 - p1 / (8 : Int32) * (8 : Int32)) = (0 : Int32)) (g2 : ¬ p1 < (16 : Int32)) (g3 : (56 : Int32) < p1) : jv_Ms 350 [.ref 178] (jv_H (jx_K 227) (jv_u jx_If 178 0 (1 : Int32)) jx_L0 (jx_R 227)) 228 1572956 (some (.int (1 : Int32)), (jv_H (jx_K 227) (jv_u jx_If 178 0 (1 : Int32)) jx_L0 (jx_R 227)), 228, 1572956) := by
  show jv_Ev 350 0 [(0, .ref 178)] [] (jv_H (jx_K 227) (jv_u jx_If 178 0 (1 : Int32)) jx_L0 (jx_R 227)) 228 1572956 _
  refine jv_Ev.steps jv_i350 1 (pc' := 1) (l' := [(0, .ref 178)]) (st' := [.ref 178]) rfl ?_
  refine jv_Ev.m jv_i350 (pc' := 4) (st' := [.int (1 : Int32)]) rfl rfl (jv_m_getI rfl rfl rfl rfl) ?_
  exact jv_Ev.ret jv_i350 rfl rfl

set_option maxRecDepth 100000 in
/-- the law: case 10, one way -/
theorem jx_l14 (p0 : Int32) (p1 : Int32) (p2 : Int32) (p3 : Int32) (p4 : Int32) (p5 : Int32) (g1 : (p1 - p1 / (8 : Int32) * (8 : Int32)) = (0 : Int32)) (g2 : ¬ p1 < (16 : Int32)) (g3 : (56 : Int32) < p1) (hsw : p0 &&& (31 : Int32) = (10 : Int32)) {p : Program} {l : Launch} {e : Env} {R : Room} {s : State} {m : MethodId} {args : Array Value} {below : List Frame} {meth : Method} {c : Code} {E : jv_Env} {Q : State → Prop} (hTb : jv_TOk jv_Tb) (hT2 : jx_T2Ok) (hl : l.stackTraces = false) (F : jx_F jv_T2 439 E p R s m args meth c) (hZ : jx_Z E s) (hRc : R.cells = 600002) (hRs : R.slots = 7302232) {bb : Nat} {xs : Nat → Int32} (hX : va_X bb 6 xs s E.2.2.2.2) (hbB : bb < E.2.2.2.1) (hE2 : E.1 1000002 = bb) (hQ : ∀ (l0 : jv_L) (G : jv_G) (n sl : Nat), n ≤ 600002 → sl ≤ 7302232 → jw p l e R s m args below meth c E 8 0 0 Q 1532 l0 [.int (1 : Int32)] G n sl) (q0 : xs 0 = p0) (q1 : xs 1 = p1) (q2 : xs 2 = p2) (q3 : xs 3 = p3) (q4 : xs 4 = p4) (q5 : xs 5 = p5) : jw p l e R s m args below meth c E 8 0 0 Q 33 [(0, .ref 1000002), (1, .ref 0), (2, .ref 178), (3, .ref 226), (4, .int (0 : Int32))] [] (jv_H (jx_K 227) jx_If jx_L0 (jx_R 227)) 227 1572950 := by
  refine jw.steps F jx_i439 2 (pc' := 36) (l' := [(0, .ref 1000002), (1, .ref 0), (2, .ref 178), (3, .ref 226), (4, .int (0 : Int32))]) (st' := [.int (0 : Int32), .ref 1000002]) rfl ?_
  refine jw.sld F jx_i439 hX hbB hE2 (pc' := 37) rfl rfl (show vp_in (nI 0) 6 from vp_in_nI (by decide) (by decide)) q0 rfl ?_
  refine jw.steps F jx_i439 2 (pc' := 40) (l' := [(0, .ref 1000002), (1, .ref 0), (2, .ref 178), (3, .ref 226), (4, .int (0 : Int32))]) (st' := [.int (p0 &&& (31 : Int32))]) rfl ?_
  refine jw.br F jx_i439 (pc' := 592) (st' := []) rfl (by rw [hsw]; rfl) ?_
  refine jw.steps F jx_i439 5 (pc' := 598) (l' := [(0, .ref 1000002), (1, .ref 0), (2, .ref 178), (3, .ref 226), (4, .int (0 : Int32))]) (st' := [.int (1 : Int32), .ref 1000002, .ref 0]) rfl ?_
  refine jw.sld F jx_i439 hX hbB hE2 (pc' := 599) rfl rfl (show vp_in (nI 1) 6 from vp_in_nI (by decide) (by decide)) q1 rfl ?_
  refine jw.steps F jx_i439 4 (pc' := 604) (l' := [(0, .ref 1000002), (1, .ref 0), (2, .ref 178), (3, .ref 226), (4, .int (0 : Int32))]) (st' := [.int (2 : Int32), .ref 1000002, .int p1, .ref 0]) rfl ?_
  refine jw.sld F jx_i439 hX hbB hE2 (pc' := 605) rfl rfl (show vp_in (nI 2) 6 from vp_in_nI (by decide) (by decide)) q2 rfl ?_
  refine jw.steps F jx_i439 7 (pc' := 614) (l' := [(0, .ref 1000002), (1, .ref 0), (2, .ref 178), (3, .ref 226), (4, .int (0 : Int32))]) (st' := [.int (3 : Int32), .ref 1000002, .long (p2.toInt64 <<< ((32 : Int32).toInt64 &&& 63)), .int p1, .ref 0]) rfl ?_
  refine jw.sld F jx_i439 hX hbB hE2 (pc' := 615) rfl rfl (show vp_in (nI 3) 6 from vp_in_nI (by decide) (by decide)) q3 rfl ?_
  refine jw.steps F jx_i439 4 (pc' := 621) (l' := [(0, .ref 1000002), (1, .ref 0), (2, .ref 178), (3, .ref 226), (4, .int (0 : Int32))]) (st' := [.long ((p2.toInt64 <<< ((32 : Int32).toInt64 &&& 63)) ||| (p3.toInt64 &&& (4294967295 : Int64))), .int p1, .ref 0]) rfl ?_
  refine jw.wr F hl hZ rfl jx_i439 jx_i446 [.ref 0, .int p1, .long ((p2.toInt64 <<< ((32 : Int32).toInt64 &&& 63)) ||| (p3.toInt64 &&& (4294967295 : Int64)))] (pc' := 624) (S' := [.int (1 : Int32)]) rfl (List.mem_of_getElem? (i := 6) rfl) (List.mem_of_getElem? (i := 6) rfl) rfl rfl rfl (jx_w52 hTb hT2 p0 p1 p2 p3 p4 p5 g1 g2 g3) (by omega) (by omega) (by omega) (by omega) rfl rfl ?_
  refine jw.steps F jx_i439 6 (pc' := 632) (l' := [(5, .int (1 : Int32)), (0, .ref 1000002), (1, .ref 0), (2, .ref 178), (3, .ref 226), (4, .int (0 : Int32))]) (st' := [.int (1 : Int32), .ref 1000002, .ref 178]) rfl ?_
  refine jw.sld F jx_i439 hX hbB hE2 (pc' := 633) rfl rfl (show vp_in (nI 1) 6 from vp_in_nI (by decide) (by decide)) q1 rfl ?_
  refine jw.steps F jx_i439 4 (pc' := 638) (l' := [(5, .int (1 : Int32)), (0, .ref 1000002), (1, .ref 0), (2, .ref 178), (3, .ref 226), (4, .int (0 : Int32))]) (st' := [.int (2 : Int32), .ref 1000002, .int p1, .ref 178]) rfl ?_
  refine jw.sld F jx_i439 hX hbB hE2 (pc' := 639) rfl rfl (show vp_in (nI 2) 6 from vp_in_nI (by decide) (by decide)) q2 rfl ?_
  refine jw.steps F jx_i439 7 (pc' := 648) (l' := [(5, .int (1 : Int32)), (0, .ref 1000002), (1, .ref 0), (2, .ref 178), (3, .ref 226), (4, .int (0 : Int32))]) (st' := [.int (3 : Int32), .ref 1000002, .long (p2.toInt64 <<< ((32 : Int32).toInt64 &&& 63)), .int p1, .ref 178]) rfl ?_
  refine jw.sld F jx_i439 hX hbB hE2 (pc' := 649) rfl rfl (show vp_in (nI 3) 6 from vp_in_nI (by decide) (by decide)) q3 rfl ?_
  refine jw.steps F jx_i439 4 (pc' := 655) (l' := [(5, .int (1 : Int32)), (0, .ref 1000002), (1, .ref 0), (2, .ref 178), (3, .ref 226), (4, .int (0 : Int32))]) (st' := [.long ((p2.toInt64 <<< ((32 : Int32).toInt64 &&& 63)) ||| (p3.toInt64 &&& (4294967295 : Int64))), .int p1, .ref 178]) rfl ?_
  refine jw.ca hTb F jx_i439 (pc' := 658) (S' := []) rfl jv_i362 [.ref 178, .int p1, .long ((p2.toInt64 <<< ((32 : Int32).toInt64 &&& 63)) ||| (p3.toInt64 &&& (4294967295 : Int64)))] rfl rfl rfl rfl (jx_cal2 rfl (jv_H_at rfl) rfl rfl) rfl (jx_e54 p0 p1 p2 p3 p4 p5 g1 g2 g3) (by omega) (by omega) rfl rfl ?_
  refine jw.steps F jx_i439 1 (pc' := 659) (l' := [(5, .int (1 : Int32)), (0, .ref 1000002), (1, .ref 0), (2, .ref 178), (3, .ref 226), (4, .int (0 : Int32))]) (st' := [.ref 178]) rfl ?_
  refine jw.ca hTb F jx_i439 (pc' := 662) (S' := [.int (1 : Int32)]) rfl jv_i350 [.ref 178] rfl rfl rfl rfl (jx_cal2 rfl (jv_H_at rfl) rfl rfl) rfl (jx_e55 p0 p1 p2 p3 p4 p5 g1 g2 g3) (by omega) (by omega) rfl rfl ?_
  refine jw.steps F jx_i439 1 (pc' := 664) (l' := [(5, .int (1 : Int32)), (0, .ref 1000002), (1, .ref 0), (2, .ref 178), (3, .ref 226), (4, .int (0 : Int32))]) (st' := [.int (1 : Int32), .int (1 : Int32)]) rfl ?_
  refine jw.br F jx_i439 (pc' := 669) (st' := []) rfl (jv_bc_eq.trans (jx_got (by decide))) ?_
  refine jw.steps F jx_i439 5 (pc' := 26) (l' := [(4, .int (6 : Int32)), (5, .int (1 : Int32)), (0, .ref 1000002), (1, .ref 0), (2, .ref 178), (3, .ref 226)]) (st' := [.ref 1000002, .int (6 : Int32)]) rfl ?_
  refine jw.slen F jx_i439 hX hbB hE2 (pc' := 27) rfl rfl rfl ?_
  refine jw.steps F jx_i439 2 (pc' := 30) (l' := [(4, .int (6 : Int32)), (5, .int (1 : Int32)), (0, .ref 1000002), (1, .ref 0), (2, .ref 178), (3, .ref 226)]) (st' := [.int (0 : Int32), .int (6 : Int32)]) rfl ?_
  refine jw.br F jx_i439 (pc' := 1531) (st' := []) rfl (jv_bc_gt.trans (jx_got (by decide))) ?_
  refine jw.steps F jx_i439 1 (pc' := 1532) (l' := [(4, .int (6 : Int32)), (5, .int (1 : Int32)), (0, .ref 1000002), (1, .ref 0), (2, .ref 178), (3, .ref 226)]) (st' := [.int (1 : Int32)]) rfl ?_
  exact hQ _ _ _ _ (by omega) (by omega)

set_option maxRecDepth 100000 in
/-- ProgramBox.testContext -/
theorem jx_e56 (p0 : Int32) (p1 : Int32) (p2 : Int32) (p3 : Int32) (p4 : Int32) (p5 : Int32) (g1 : (p1 - p1 / (8 : Int32) * (8 : Int32)) = (0 : Int32)) (g2 : ¬ p1 < (16 : Int32)) (g3 : ¬ (56 : Int32) < p1) : jv_Ms 426 [.int p1] (jv_H (jx_K 227) jx_If jx_L0 (jx_R 227)) 227 1572950 (none, (jv_H (jx_K 227) jx_If jx_L0 (jx_R 227)), 227, 1572950) := by
  show jv_Ev 426 0 [(0, .int p1)] [] (jv_H (jx_K 227) jx_If jx_L0 (jx_R 227)) 227 1572950 _
  refine jv_Ev.steps jv_i426 2 (pc' := 3) (l' := [(0, .int p1)]) (st' := [.int (8 : Int32), .int p1]) rfl ?_
  refine jv_Ev.op jv_i426 (pc' := 4) (l' := [(0, .int p1)]) (st' := [.int (p1 - p1 / (8 : Int32) * (8 : Int32))]) rfl (jv_op_irem (by decide)) ?_
  refine jv_Ev.br jv_i426 (pc' := 17) (st' := []) rfl (jv_bi_eq.trans (jx_got (by rw [g1] <;> decide))) ?_
  refine jv_Ev.steps jv_i426 2 (pc' := 20) (l' := [(0, .int p1)]) (st' := [.int (16 : Int32), .int p1]) rfl ?_
  refine jv_Ev.br jv_i426 (pc' := 23) (st' := []) rfl (jv_bc_lt.trans (jx_gof g2)) ?_
  refine jv_Ev.steps jv_i426 2 (pc' := 26) (l' := [(0, .int p1)]) (st' := [.int (56 : Int32), .int p1]) rfl ?_
  refine jv_Ev.br jv_i426 (pc' := 39) (st' := []) rfl (jv_bc_le.trans (jx_got (Int32.not_lt.mp g3))) ?_
  exact jv_Ev.ret jv_i426 rfl rfl

set_option maxRecDepth 100000 in
theorem jv_i122 : jv_I 122 6 none 0 0 jv_c122 := ⟨rfl, rfl, rfl, rfl, rfl⟩
set_option maxRecDepth 100000 in
/-- ProgramBox$Store.write -/
theorem jx_e57 (p0 : Int32) (p1 : Int32) (p2 : Int32) (p3 : Int32) (p4 : Int32) (p5 : Int32) (g1 : (p1 - p1 / (8 : Int32) * (8 : Int32)) = (0 : Int32)) (g2 : ¬ p1 < (16 : Int32)) (g3 : ¬ (56 : Int32) < p1) : jv_Ms 122 [.ref 4, .int p1, .int (8 : Int32), .long ((p2.toInt64 <<< ((32 : Int32).toInt64 &&& 63)) ||| (p3.toInt64 &&& (4294967295 : Int64)))] (jv_H (jx_K 227) jx_If jx_L0 (jx_R 227)) 227 1572950 (none, (jv_H (jx_K 227) (jv_u (jv_u (jv_u (jv_u (jv_u (jv_u (jv_u (jv_u jx_If 4 (p1 + (0 : Int32)).toNatClampNeg (((p2.toInt64 <<< ((32 : Int32).toInt64 &&& 63)) ||| (p3.toInt64 &&& (4294967295 : Int64))) >>> ((0 : Int32).toInt64 &&& 63)).toInt32.toInt8.toInt32.toInt8.toInt32) 4 (p1 + (1 : Int32)).toNatClampNeg (((p2.toInt64 <<< ((32 : Int32).toInt64 &&& 63)) ||| (p3.toInt64 &&& (4294967295 : Int64))) >>> ((8 : Int32).toInt64 &&& 63)).toInt32.toInt8.toInt32.toInt8.toInt32) 4 (p1 + (2 : Int32)).toNatClampNeg (((p2.toInt64 <<< ((32 : Int32).toInt64 &&& 63)) ||| (p3.toInt64 &&& (4294967295 : Int64))) >>> ((16 : Int32).toInt64 &&& 63)).toInt32.toInt8.toInt32.toInt8.toInt32) 4 (p1 + (3 : Int32)).toNatClampNeg (((p2.toInt64 <<< ((32 : Int32).toInt64 &&& 63)) ||| (p3.toInt64 &&& (4294967295 : Int64))) >>> ((24 : Int32).toInt64 &&& 63)).toInt32.toInt8.toInt32.toInt8.toInt32) 4 (p1 + (4 : Int32)).toNatClampNeg (((p2.toInt64 <<< ((32 : Int32).toInt64 &&& 63)) ||| (p3.toInt64 &&& (4294967295 : Int64))) >>> ((32 : Int32).toInt64 &&& 63)).toInt32.toInt8.toInt32.toInt8.toInt32) 4 (p1 + (5 : Int32)).toNatClampNeg (((p2.toInt64 <<< ((32 : Int32).toInt64 &&& 63)) ||| (p3.toInt64 &&& (4294967295 : Int64))) >>> ((40 : Int32).toInt64 &&& 63)).toInt32.toInt8.toInt32.toInt8.toInt32) 4 (p1 + (6 : Int32)).toNatClampNeg (((p2.toInt64 <<< ((32 : Int32).toInt64 &&& 63)) ||| (p3.toInt64 &&& (4294967295 : Int64))) >>> ((48 : Int32).toInt64 &&& 63)).toInt32.toInt8.toInt32.toInt8.toInt32) 4 (p1 + (7 : Int32)).toNatClampNeg (((p2.toInt64 <<< ((32 : Int32).toInt64 &&& 63)) ||| (p3.toInt64 &&& (4294967295 : Int64))) >>> ((56 : Int32).toInt64 &&& 63)).toInt32.toInt8.toInt32.toInt8.toInt32) jx_L0 (jx_R 227)), 227, 1572950) := by
  show jv_Ev 122 0 [(0, .ref 4), (1, .int p1), (2, .int (8 : Int32)), (3, .long ((p2.toInt64 <<< ((32 : Int32).toInt64 &&& 63)) ||| (p3.toInt64 &&& (4294967295 : Int64))))] [] (jv_H (jx_K 227) jx_If jx_L0 (jx_R 227)) 227 1572950 _
  refine jv_Ev.steps jv_i122 4 (pc' := 6) (l' := [(5, .int (0 : Int32)), (0, .ref 4), (1, .int p1), (2, .int (8 : Int32)), (3, .long ((p2.toInt64 <<< ((32 : Int32).toInt64 &&& 63)) ||| (p3.toInt64 &&& (4294967295 : Int64))))]) (st' := [.int (8 : Int32), .int (0 : Int32)]) rfl ?_
  refine jv_Ev.br jv_i122 (pc' := 9) (st' := []) rfl (jv_bc_ge.trans (jx_gof (by decide))) ?_
  refine jv_Ev.steps jv_i122 11 (pc' := 23) (l' := [(5, .int (0 : Int32)), (0, .ref 4), (1, .int p1), (2, .int (8 : Int32)), (3, .long ((p2.toInt64 <<< ((32 : Int32).toInt64 &&& 63)) ||| (p3.toInt64 &&& (4294967295 : Int64))))]) (st' := [.int (((p2.toInt64 <<< ((32 : Int32).toInt64 &&& 63)) ||| (p3.toInt64 &&& (4294967295 : Int64))) >>> ((0 : Int32).toInt64 &&& 63)).toInt32.toInt8.toInt32, .int (p1 + (0 : Int32)), .ref 4]) rfl ?_
  refine jv_Ev.m jv_i122 (pc' := 24) (st' := []) rfl rfl (jv_m_bast rfl (jx_ixa (k := 0) (fun q => g2 (Int32.lt_of_lt_of_le q (by decide))) g3 (by decide))) ?_
  refine jv_Ev.steps jv_i122 4 (pc' := 6) (l' := [(5, .int (1 : Int32)), (0, .ref 4), (1, .int p1), (2, .int (8 : Int32)), (3, .long ((p2.toInt64 <<< ((32 : Int32).toInt64 &&& 63)) ||| (p3.toInt64 &&& (4294967295 : Int64))))]) (st' := [.int (8 : Int32), .int (1 : Int32)]) rfl ?_
  refine jv_Ev.br jv_i122 (pc' := 9) (st' := []) rfl (jv_bc_ge.trans (jx_gof (by decide))) ?_
  refine jv_Ev.steps jv_i122 11 (pc' := 23) (l' := [(5, .int (1 : Int32)), (0, .ref 4), (1, .int p1), (2, .int (8 : Int32)), (3, .long ((p2.toInt64 <<< ((32 : Int32).toInt64 &&& 63)) ||| (p3.toInt64 &&& (4294967295 : Int64))))]) (st' := [.int (((p2.toInt64 <<< ((32 : Int32).toInt64 &&& 63)) ||| (p3.toInt64 &&& (4294967295 : Int64))) >>> ((8 : Int32).toInt64 &&& 63)).toInt32.toInt8.toInt32, .int (p1 + (1 : Int32)), .ref 4]) rfl ?_
  refine jv_Ev.m jv_i122 (pc' := 24) (st' := []) rfl rfl (jv_m_bast rfl (jx_ixa (k := 1) (fun q => g2 (Int32.lt_of_lt_of_le q (by decide))) g3 (by decide))) ?_
  refine jv_Ev.steps jv_i122 4 (pc' := 6) (l' := [(5, .int (2 : Int32)), (0, .ref 4), (1, .int p1), (2, .int (8 : Int32)), (3, .long ((p2.toInt64 <<< ((32 : Int32).toInt64 &&& 63)) ||| (p3.toInt64 &&& (4294967295 : Int64))))]) (st' := [.int (8 : Int32), .int (2 : Int32)]) rfl ?_
  refine jv_Ev.br jv_i122 (pc' := 9) (st' := []) rfl (jv_bc_ge.trans (jx_gof (by decide))) ?_
  refine jv_Ev.steps jv_i122 11 (pc' := 23) (l' := [(5, .int (2 : Int32)), (0, .ref 4), (1, .int p1), (2, .int (8 : Int32)), (3, .long ((p2.toInt64 <<< ((32 : Int32).toInt64 &&& 63)) ||| (p3.toInt64 &&& (4294967295 : Int64))))]) (st' := [.int (((p2.toInt64 <<< ((32 : Int32).toInt64 &&& 63)) ||| (p3.toInt64 &&& (4294967295 : Int64))) >>> ((16 : Int32).toInt64 &&& 63)).toInt32.toInt8.toInt32, .int (p1 + (2 : Int32)), .ref 4]) rfl ?_
  refine jv_Ev.m jv_i122 (pc' := 24) (st' := []) rfl rfl (jv_m_bast rfl (jx_ixa (k := 2) (fun q => g2 (Int32.lt_of_lt_of_le q (by decide))) g3 (by decide))) ?_
  refine jv_Ev.steps jv_i122 4 (pc' := 6) (l' := [(5, .int (3 : Int32)), (0, .ref 4), (1, .int p1), (2, .int (8 : Int32)), (3, .long ((p2.toInt64 <<< ((32 : Int32).toInt64 &&& 63)) ||| (p3.toInt64 &&& (4294967295 : Int64))))]) (st' := [.int (8 : Int32), .int (3 : Int32)]) rfl ?_
  refine jv_Ev.br jv_i122 (pc' := 9) (st' := []) rfl (jv_bc_ge.trans (jx_gof (by decide))) ?_
  refine jv_Ev.steps jv_i122 11 (pc' := 23) (l' := [(5, .int (3 : Int32)), (0, .ref 4), (1, .int p1), (2, .int (8 : Int32)), (3, .long ((p2.toInt64 <<< ((32 : Int32).toInt64 &&& 63)) ||| (p3.toInt64 &&& (4294967295 : Int64))))]) (st' := [.int (((p2.toInt64 <<< ((32 : Int32).toInt64 &&& 63)) ||| (p3.toInt64 &&& (4294967295 : Int64))) >>> ((24 : Int32).toInt64 &&& 63)).toInt32.toInt8.toInt32, .int (p1 + (3 : Int32)), .ref 4]) rfl ?_
  refine jv_Ev.m jv_i122 (pc' := 24) (st' := []) rfl rfl (jv_m_bast rfl (jx_ixa (k := 3) (fun q => g2 (Int32.lt_of_lt_of_le q (by decide))) g3 (by decide))) ?_
  refine jv_Ev.steps jv_i122 4 (pc' := 6) (l' := [(5, .int (4 : Int32)), (0, .ref 4), (1, .int p1), (2, .int (8 : Int32)), (3, .long ((p2.toInt64 <<< ((32 : Int32).toInt64 &&& 63)) ||| (p3.toInt64 &&& (4294967295 : Int64))))]) (st' := [.int (8 : Int32), .int (4 : Int32)]) rfl ?_
  refine jv_Ev.br jv_i122 (pc' := 9) (st' := []) rfl (jv_bc_ge.trans (jx_gof (by decide))) ?_
  refine jv_Ev.steps jv_i122 11 (pc' := 23) (l' := [(5, .int (4 : Int32)), (0, .ref 4), (1, .int p1), (2, .int (8 : Int32)), (3, .long ((p2.toInt64 <<< ((32 : Int32).toInt64 &&& 63)) ||| (p3.toInt64 &&& (4294967295 : Int64))))]) (st' := [.int (((p2.toInt64 <<< ((32 : Int32).toInt64 &&& 63)) ||| (p3.toInt64 &&& (4294967295 : Int64))) >>> ((32 : Int32).toInt64 &&& 63)).toInt32.toInt8.toInt32, .int (p1 + (4 : Int32)), .ref 4]) rfl ?_
  refine jv_Ev.m jv_i122 (pc' := 24) (st' := []) rfl rfl (jv_m_bast rfl (jx_ixa (k := 4) (fun q => g2 (Int32.lt_of_lt_of_le q (by decide))) g3 (by decide))) ?_
  refine jv_Ev.steps jv_i122 4 (pc' := 6) (l' := [(5, .int (5 : Int32)), (0, .ref 4), (1, .int p1), (2, .int (8 : Int32)), (3, .long ((p2.toInt64 <<< ((32 : Int32).toInt64 &&& 63)) ||| (p3.toInt64 &&& (4294967295 : Int64))))]) (st' := [.int (8 : Int32), .int (5 : Int32)]) rfl ?_
  refine jv_Ev.br jv_i122 (pc' := 9) (st' := []) rfl (jv_bc_ge.trans (jx_gof (by decide))) ?_
  refine jv_Ev.steps jv_i122 11 (pc' := 23) (l' := [(5, .int (5 : Int32)), (0, .ref 4), (1, .int p1), (2, .int (8 : Int32)), (3, .long ((p2.toInt64 <<< ((32 : Int32).toInt64 &&& 63)) ||| (p3.toInt64 &&& (4294967295 : Int64))))]) (st' := [.int (((p2.toInt64 <<< ((32 : Int32).toInt64 &&& 63)) ||| (p3.toInt64 &&& (4294967295 : Int64))) >>> ((40 : Int32).toInt64 &&& 63)).toInt32.toInt8.toInt32, .int (p1 + (5 : Int32)), .ref 4]) rfl ?_
  refine jv_Ev.m jv_i122 (pc' := 24) (st' := []) rfl rfl (jv_m_bast rfl (jx_ixa (k := 5) (fun q => g2 (Int32.lt_of_lt_of_le q (by decide))) g3 (by decide))) ?_
  refine jv_Ev.steps jv_i122 4 (pc' := 6) (l' := [(5, .int (6 : Int32)), (0, .ref 4), (1, .int p1), (2, .int (8 : Int32)), (3, .long ((p2.toInt64 <<< ((32 : Int32).toInt64 &&& 63)) ||| (p3.toInt64 &&& (4294967295 : Int64))))]) (st' := [.int (8 : Int32), .int (6 : Int32)]) rfl ?_
  refine jv_Ev.br jv_i122 (pc' := 9) (st' := []) rfl (jv_bc_ge.trans (jx_gof (by decide))) ?_
  refine jv_Ev.steps jv_i122 11 (pc' := 23) (l' := [(5, .int (6 : Int32)), (0, .ref 4), (1, .int p1), (2, .int (8 : Int32)), (3, .long ((p2.toInt64 <<< ((32 : Int32).toInt64 &&& 63)) ||| (p3.toInt64 &&& (4294967295 : Int64))))]) (st' := [.int (((p2.toInt64 <<< ((32 : Int32).toInt64 &&& 63)) ||| (p3.toInt64 &&& (4294967295 : Int64))) >>> ((48 : Int32).toInt64 &&& 63)).toInt32.toInt8.toInt32, .int (p1 + (6 : Int32)), .ref 4]) rfl ?_
  refine jv_Ev.m jv_i122 (pc' := 24) (st' := []) rfl rfl (jv_m_bast rfl (jx_ixa (k := 6) (fun q => g2 (Int32.lt_of_lt_of_le q (by decide))) g3 (by decide))) ?_
  refine jv_Ev.steps jv_i122 4 (pc' := 6) (l' := [(5, .int (7 : Int32)), (0, .ref 4), (1, .int p1), (2, .int (8 : Int32)), (3, .long ((p2.toInt64 <<< ((32 : Int32).toInt64 &&& 63)) ||| (p3.toInt64 &&& (4294967295 : Int64))))]) (st' := [.int (8 : Int32), .int (7 : Int32)]) rfl ?_
  refine jv_Ev.br jv_i122 (pc' := 9) (st' := []) rfl (jv_bc_ge.trans (jx_gof (by decide))) ?_
  refine jv_Ev.steps jv_i122 11 (pc' := 23) (l' := [(5, .int (7 : Int32)), (0, .ref 4), (1, .int p1), (2, .int (8 : Int32)), (3, .long ((p2.toInt64 <<< ((32 : Int32).toInt64 &&& 63)) ||| (p3.toInt64 &&& (4294967295 : Int64))))]) (st' := [.int (((p2.toInt64 <<< ((32 : Int32).toInt64 &&& 63)) ||| (p3.toInt64 &&& (4294967295 : Int64))) >>> ((56 : Int32).toInt64 &&& 63)).toInt32.toInt8.toInt32, .int (p1 + (7 : Int32)), .ref 4]) rfl ?_
  refine jv_Ev.m jv_i122 (pc' := 24) (st' := []) rfl rfl (jv_m_bast rfl (jx_ixa (k := 7) (fun q => g2 (Int32.lt_of_lt_of_le q (by decide))) g3 (by decide))) ?_
  refine jv_Ev.steps jv_i122 4 (pc' := 6) (l' := [(5, .int (8 : Int32)), (0, .ref 4), (1, .int p1), (2, .int (8 : Int32)), (3, .long ((p2.toInt64 <<< ((32 : Int32).toInt64 &&& 63)) ||| (p3.toInt64 &&& (4294967295 : Int64))))]) (st' := [.int (8 : Int32), .int (8 : Int32)]) rfl ?_
  refine jv_Ev.br jv_i122 (pc' := 30) (st' := []) rfl (jv_bc_ge.trans (jx_got (by decide))) ?_
  exact jv_Ev.ret jv_i122 rfl rfl

set_option maxRecDepth 100000 in
/-- ProgramBox.context -/
theorem jx_e58 (p0 : Int32) (p1 : Int32) (p2 : Int32) (p3 : Int32) (p4 : Int32) (p5 : Int32) (g1 : (p1 - p1 / (8 : Int32) * (8 : Int32)) = (0 : Int32)) (g2 : ¬ p1 < (16 : Int32)) (g3 : ¬ (56 : Int32) < p1) : jv_Ms 424 [.ref 0, .int p1, .long ((p2.toInt64 <<< ((32 : Int32).toInt64 &&& 63)) ||| (p3.toInt64 &&& (4294967295 : Int64)))] (jv_H (jx_K 227) jx_If jx_L0 (jx_R 227)) 227 1572950 (none, (jv_H (jx_K 227) (jv_u (jv_u (jv_u (jv_u (jv_u (jv_u (jv_u (jv_u jx_If 4 (p1 + (0 : Int32)).toNatClampNeg (((p2.toInt64 <<< ((32 : Int32).toInt64 &&& 63)) ||| (p3.toInt64 &&& (4294967295 : Int64))) >>> ((0 : Int32).toInt64 &&& 63)).toInt32.toInt8.toInt32.toInt8.toInt32) 4 (p1 + (1 : Int32)).toNatClampNeg (((p2.toInt64 <<< ((32 : Int32).toInt64 &&& 63)) ||| (p3.toInt64 &&& (4294967295 : Int64))) >>> ((8 : Int32).toInt64 &&& 63)).toInt32.toInt8.toInt32.toInt8.toInt32) 4 (p1 + (2 : Int32)).toNatClampNeg (((p2.toInt64 <<< ((32 : Int32).toInt64 &&& 63)) ||| (p3.toInt64 &&& (4294967295 : Int64))) >>> ((16 : Int32).toInt64 &&& 63)).toInt32.toInt8.toInt32.toInt8.toInt32) 4 (p1 + (3 : Int32)).toNatClampNeg (((p2.toInt64 <<< ((32 : Int32).toInt64 &&& 63)) ||| (p3.toInt64 &&& (4294967295 : Int64))) >>> ((24 : Int32).toInt64 &&& 63)).toInt32.toInt8.toInt32.toInt8.toInt32) 4 (p1 + (4 : Int32)).toNatClampNeg (((p2.toInt64 <<< ((32 : Int32).toInt64 &&& 63)) ||| (p3.toInt64 &&& (4294967295 : Int64))) >>> ((32 : Int32).toInt64 &&& 63)).toInt32.toInt8.toInt32.toInt8.toInt32) 4 (p1 + (5 : Int32)).toNatClampNeg (((p2.toInt64 <<< ((32 : Int32).toInt64 &&& 63)) ||| (p3.toInt64 &&& (4294967295 : Int64))) >>> ((40 : Int32).toInt64 &&& 63)).toInt32.toInt8.toInt32.toInt8.toInt32) 4 (p1 + (6 : Int32)).toNatClampNeg (((p2.toInt64 <<< ((32 : Int32).toInt64 &&& 63)) ||| (p3.toInt64 &&& (4294967295 : Int64))) >>> ((48 : Int32).toInt64 &&& 63)).toInt32.toInt8.toInt32.toInt8.toInt32) 4 (p1 + (7 : Int32)).toNatClampNeg (((p2.toInt64 <<< ((32 : Int32).toInt64 &&& 63)) ||| (p3.toInt64 &&& (4294967295 : Int64))) >>> ((56 : Int32).toInt64 &&& 63)).toInt32.toInt8.toInt32.toInt8.toInt32) jx_L0 (jx_R 227)), 227, 1572950) := by
  show jv_Ev 424 0 [(0, .ref 0), (1, .int p1), (2, .long ((p2.toInt64 <<< ((32 : Int32).toInt64 &&& 63)) ||| (p3.toInt64 &&& (4294967295 : Int64))))] [] (jv_H (jx_K 227) jx_If jx_L0 (jx_R 227)) 227 1572950 _
  refine jv_Ev.steps jv_i424 1 (pc' := 1) (l' := [(0, .ref 0), (1, .int p1), (2, .long ((p2.toInt64 <<< ((32 : Int32).toInt64 &&& 63)) ||| (p3.toInt64 &&& (4294967295 : Int64))))]) (st' := [.int p1]) rfl ?_
  refine jv_Ev.c jv_i424 (pc' := 4) (S' := []) jv_i426 [.int p1] rfl rfl rfl rfl rfl rfl (jx_e56 p0 p1 p2 p3 p4 p5 g1 g2 g3) rfl rfl ?_
  refine jv_Ev.steps jv_i424 1 (pc' := 5) (l' := [(0, .ref 0), (1, .int p1), (2, .long ((p2.toInt64 <<< ((32 : Int32).toInt64 &&& 63)) ||| (p3.toInt64 &&& (4294967295 : Int64))))]) (st' := [.ref 0]) rfl ?_
  refine jv_Ev.m jv_i424 (pc' := 8) (st' := [.ref 2]) rfl rfl (jv_m_getR rfl rfl rfl rfl) ?_
  refine jv_Ev.m jv_i424 (pc' := 11) (st' := [.ref 4]) rfl rfl (jv_m_getR rfl rfl rfl rfl) ?_
  refine jv_Ev.steps jv_i424 3 (pc' := 15) (l' := [(0, .ref 0), (1, .int p1), (2, .long ((p2.toInt64 <<< ((32 : Int32).toInt64 &&& 63)) ||| (p3.toInt64 &&& (4294967295 : Int64))))]) (st' := [.long ((p2.toInt64 <<< ((32 : Int32).toInt64 &&& 63)) ||| (p3.toInt64 &&& (4294967295 : Int64))), .int (8 : Int32), .int p1, .ref 4]) rfl ?_
  refine jv_Ev.c jv_i424 (pc' := 18) (S' := []) jv_i122 [.ref 4, .int p1, .int (8 : Int32), .long ((p2.toInt64 <<< ((32 : Int32).toInt64 &&& 63)) ||| (p3.toInt64 &&& (4294967295 : Int64)))] rfl rfl rfl rfl rfl rfl (jx_e57 p0 p1 p2 p3 p4 p5 g1 g2 g3) rfl rfl ?_
  exact jv_Ev.ret jv_i424 rfl rfl

set_option maxRecDepth 100000 in
/-- the law's context -/
theorem jx_w59 (hTb : jv_TOk jv_Tb) (hT2 : jx_T2Ok) (p0 : Int32) (p1 : Int32) (p2 : Int32) (p3 : Int32) (p4 : Int32) (p5 : Int32) (g1 : (p1 - p1 / (8 : Int32) * (8 : Int32)) = (0 : Int32)) (g2 : ¬ p1 < (16 : Int32)) (g3 : ¬ (56 : Int32) < p1) : jx_Wr 446 [(0, 6, 9, 36), (0, 6, 13, 19)] [.ref 0, .int p1, .long ((p2.toInt64 <<< ((32 : Int32).toInt64 &&& 63)) ||| (p3.toInt64 &&& (4294967295 : Int64)))] (jv_H (jx_K 227) jx_If jx_L0 (jx_R 227)) 227 1572950 (some (.int (0 : Int32)), (jv_H (jx_K 227) (jv_u (jv_u (jv_u (jv_u (jv_u (jv_u (jv_u (jv_u jx_If 4 (p1 + (0 : Int32)).toNatClampNeg (((p2.toInt64 <<< ((32 : Int32).toInt64 &&& 63)) ||| (p3.toInt64 &&& (4294967295 : Int64))) >>> ((0 : Int32).toInt64 &&& 63)).toInt32.toInt8.toInt32.toInt8.toInt32) 4 (p1 + (1 : Int32)).toNatClampNeg (((p2.toInt64 <<< ((32 : Int32).toInt64 &&& 63)) ||| (p3.toInt64 &&& (4294967295 : Int64))) >>> ((8 : Int32).toInt64 &&& 63)).toInt32.toInt8.toInt32.toInt8.toInt32) 4 (p1 + (2 : Int32)).toNatClampNeg (((p2.toInt64 <<< ((32 : Int32).toInt64 &&& 63)) ||| (p3.toInt64 &&& (4294967295 : Int64))) >>> ((16 : Int32).toInt64 &&& 63)).toInt32.toInt8.toInt32.toInt8.toInt32) 4 (p1 + (3 : Int32)).toNatClampNeg (((p2.toInt64 <<< ((32 : Int32).toInt64 &&& 63)) ||| (p3.toInt64 &&& (4294967295 : Int64))) >>> ((24 : Int32).toInt64 &&& 63)).toInt32.toInt8.toInt32.toInt8.toInt32) 4 (p1 + (4 : Int32)).toNatClampNeg (((p2.toInt64 <<< ((32 : Int32).toInt64 &&& 63)) ||| (p3.toInt64 &&& (4294967295 : Int64))) >>> ((32 : Int32).toInt64 &&& 63)).toInt32.toInt8.toInt32.toInt8.toInt32) 4 (p1 + (5 : Int32)).toNatClampNeg (((p2.toInt64 <<< ((32 : Int32).toInt64 &&& 63)) ||| (p3.toInt64 &&& (4294967295 : Int64))) >>> ((40 : Int32).toInt64 &&& 63)).toInt32.toInt8.toInt32.toInt8.toInt32) 4 (p1 + (6 : Int32)).toNatClampNeg (((p2.toInt64 <<< ((32 : Int32).toInt64 &&& 63)) ||| (p3.toInt64 &&& (4294967295 : Int64))) >>> ((48 : Int32).toInt64 &&& 63)).toInt32.toInt8.toInt32.toInt8.toInt32) 4 (p1 + (7 : Int32)).toNatClampNeg (((p2.toInt64 <<< ((32 : Int32).toInt64 &&& 63)) ||| (p3.toInt64 &&& (4294967295 : Int64))) >>> ((56 : Int32).toInt64 &&& 63)).toInt32.toInt8.toInt32.toInt8.toInt32) jx_L0 (jx_R 227)), 227, 1572950) := by
  refine jx_Wr.of hT2 (by decide) rfl (Nat.le_of_ble_eq_true rfl) ?_
  intro p l e R s m args below meth c E hl F hZ htb hRc hRs
  show jw p l e R s m args below meth c E 5 227 1572950 _ 0 [(0, .ref 0), (1, .int p1), (2, .long ((p2.toInt64 <<< ((32 : Int32).toInt64 &&& 63)) ||| (p3.toInt64 &&& (4294967295 : Int64))))] [] (jv_H (jx_K 227) jx_If jx_L0 (jx_R 227)) 227 1572950
  have hRc : R.cells = 227 - 227 := hRc
  have hRs : R.slots = 1572950 - 1572950 := hRs
  refine jw.steps F jx_i446 3 (pc' := 3) (l' := [(0, .ref 0), (1, .int p1), (2, .long ((p2.toInt64 <<< ((32 : Int32).toInt64 &&& 63)) ||| (p3.toInt64 &&& (4294967295 : Int64))))]) (st' := [.long ((p2.toInt64 <<< ((32 : Int32).toInt64 &&& 63)) ||| (p3.toInt64 &&& (4294967295 : Int64))), .int p1, .ref 0]) rfl ?_
  refine jw.ca hTb F jx_i446 (pc' := 6) (S' := []) rfl jv_i424 [.ref 0, .int p1, .long ((p2.toInt64 <<< ((32 : Int32).toInt64 &&& 63)) ||| (p3.toInt64 &&& (4294967295 : Int64)))] rfl rfl rfl rfl (jx_cal2 rfl (jv_H_at rfl) rfl rfl) rfl (jx_e58 p0 p1 p2 p3 p4 p5 g1 g2 g3) (by omega) (by omega) rfl rfl ?_
  refine jw.steps F jx_i446 2 (pc' := 18) (l' := [(0, .ref 0), (1, .int p1), (2, .long ((p2.toInt64 <<< ((32 : Int32).toInt64 &&& 63)) ||| (p3.toInt64 &&& (4294967295 : Int64))))]) (st' := [.int (0 : Int32)]) rfl ?_
  exact jw.ret F jx_i446 rfl rfl

set_option maxRecDepth 100000 in
/-- ProgramBoxModel.noField -/
theorem jx_e60 (p0 : Int32) (p1 : Int32) (p2 : Int32) (p3 : Int32) (p4 : Int32) (p5 : Int32) (g1 : (p1 - p1 / (8 : Int32) * (8 : Int32)) = (0 : Int32)) (g2 : ¬ p1 < (16 : Int32)) (g3 : ¬ (56 : Int32) < p1) : jv_Ms 361 [.ref 178, .int p1] (jv_H (jx_K 227) (jv_u (jv_u (jv_u (jv_u (jv_u (jv_u (jv_u (jv_u jx_If 4 (p1 + (0 : Int32)).toNatClampNeg (((p2.toInt64 <<< ((32 : Int32).toInt64 &&& 63)) ||| (p3.toInt64 &&& (4294967295 : Int64))) >>> ((0 : Int32).toInt64 &&& 63)).toInt32.toInt8.toInt32.toInt8.toInt32) 4 (p1 + (1 : Int32)).toNatClampNeg (((p2.toInt64 <<< ((32 : Int32).toInt64 &&& 63)) ||| (p3.toInt64 &&& (4294967295 : Int64))) >>> ((8 : Int32).toInt64 &&& 63)).toInt32.toInt8.toInt32.toInt8.toInt32) 4 (p1 + (2 : Int32)).toNatClampNeg (((p2.toInt64 <<< ((32 : Int32).toInt64 &&& 63)) ||| (p3.toInt64 &&& (4294967295 : Int64))) >>> ((16 : Int32).toInt64 &&& 63)).toInt32.toInt8.toInt32.toInt8.toInt32) 4 (p1 + (3 : Int32)).toNatClampNeg (((p2.toInt64 <<< ((32 : Int32).toInt64 &&& 63)) ||| (p3.toInt64 &&& (4294967295 : Int64))) >>> ((24 : Int32).toInt64 &&& 63)).toInt32.toInt8.toInt32.toInt8.toInt32) 4 (p1 + (4 : Int32)).toNatClampNeg (((p2.toInt64 <<< ((32 : Int32).toInt64 &&& 63)) ||| (p3.toInt64 &&& (4294967295 : Int64))) >>> ((32 : Int32).toInt64 &&& 63)).toInt32.toInt8.toInt32.toInt8.toInt32) 4 (p1 + (5 : Int32)).toNatClampNeg (((p2.toInt64 <<< ((32 : Int32).toInt64 &&& 63)) ||| (p3.toInt64 &&& (4294967295 : Int64))) >>> ((40 : Int32).toInt64 &&& 63)).toInt32.toInt8.toInt32.toInt8.toInt32) 4 (p1 + (6 : Int32)).toNatClampNeg (((p2.toInt64 <<< ((32 : Int32).toInt64 &&& 63)) ||| (p3.toInt64 &&& (4294967295 : Int64))) >>> ((48 : Int32).toInt64 &&& 63)).toInt32.toInt8.toInt32.toInt8.toInt32) 4 (p1 + (7 : Int32)).toNatClampNeg (((p2.toInt64 <<< ((32 : Int32).toInt64 &&& 63)) ||| (p3.toInt64 &&& (4294967295 : Int64))) >>> ((56 : Int32).toInt64 &&& 63)).toInt32.toInt8.toInt32.toInt8.toInt32) jx_L0 (jx_R 227)) 227 1572950 (some (.int (0 : Int32)), (jv_H (jx_K 227) (jv_u (jv_u (jv_u (jv_u (jv_u (jv_u (jv_u (jv_u (jv_u jx_If 4 (p1 + (0 : Int32)).toNatClampNeg (((p2.toInt64 <<< ((32 : Int32).toInt64 &&& 63)) ||| (p3.toInt64 &&& (4294967295 : Int64))) >>> ((0 : Int32).toInt64 &&& 63)).toInt32.toInt8.toInt32.toInt8.toInt32) 4 (p1 + (1 : Int32)).toNatClampNeg (((p2.toInt64 <<< ((32 : Int32).toInt64 &&& 63)) ||| (p3.toInt64 &&& (4294967295 : Int64))) >>> ((8 : Int32).toInt64 &&& 63)).toInt32.toInt8.toInt32.toInt8.toInt32) 4 (p1 + (2 : Int32)).toNatClampNeg (((p2.toInt64 <<< ((32 : Int32).toInt64 &&& 63)) ||| (p3.toInt64 &&& (4294967295 : Int64))) >>> ((16 : Int32).toInt64 &&& 63)).toInt32.toInt8.toInt32.toInt8.toInt32) 4 (p1 + (3 : Int32)).toNatClampNeg (((p2.toInt64 <<< ((32 : Int32).toInt64 &&& 63)) ||| (p3.toInt64 &&& (4294967295 : Int64))) >>> ((24 : Int32).toInt64 &&& 63)).toInt32.toInt8.toInt32.toInt8.toInt32) 4 (p1 + (4 : Int32)).toNatClampNeg (((p2.toInt64 <<< ((32 : Int32).toInt64 &&& 63)) ||| (p3.toInt64 &&& (4294967295 : Int64))) >>> ((32 : Int32).toInt64 &&& 63)).toInt32.toInt8.toInt32.toInt8.toInt32) 4 (p1 + (5 : Int32)).toNatClampNeg (((p2.toInt64 <<< ((32 : Int32).toInt64 &&& 63)) ||| (p3.toInt64 &&& (4294967295 : Int64))) >>> ((40 : Int32).toInt64 &&& 63)).toInt32.toInt8.toInt32.toInt8.toInt32) 4 (p1 + (6 : Int32)).toNatClampNeg (((p2.toInt64 <<< ((32 : Int32).toInt64 &&& 63)) ||| (p3.toInt64 &&& (4294967295 : Int64))) >>> ((48 : Int32).toInt64 &&& 63)).toInt32.toInt8.toInt32.toInt8.toInt32) 4 (p1 + (7 : Int32)).toNatClampNeg (((p2.toInt64 <<< ((32 : Int32).toInt64 &&& 63)) ||| (p3.toInt64 &&& (4294967295 : Int64))) >>> ((56 : Int32).toInt64 &&& 63)).toInt32.toInt8.toInt32.toInt8.toInt32) 178 0 (0 : Int32)) jx_L0 (jx_R 227)), 227, 1572950) := by
  show jv_Ev 361 0 [(0, .ref 178), (1, .int p1)] [] (jv_H (jx_K 227) (jv_u (jv_u (jv_u (jv_u (jv_u (jv_u (jv_u (jv_u jx_If 4 (p1 + (0 : Int32)).toNatClampNeg (((p2.toInt64 <<< ((32 : Int32).toInt64 &&& 63)) ||| (p3.toInt64 &&& (4294967295 : Int64))) >>> ((0 : Int32).toInt64 &&& 63)).toInt32.toInt8.toInt32.toInt8.toInt32) 4 (p1 + (1 : Int32)).toNatClampNeg (((p2.toInt64 <<< ((32 : Int32).toInt64 &&& 63)) ||| (p3.toInt64 &&& (4294967295 : Int64))) >>> ((8 : Int32).toInt64 &&& 63)).toInt32.toInt8.toInt32.toInt8.toInt32) 4 (p1 + (2 : Int32)).toNatClampNeg (((p2.toInt64 <<< ((32 : Int32).toInt64 &&& 63)) ||| (p3.toInt64 &&& (4294967295 : Int64))) >>> ((16 : Int32).toInt64 &&& 63)).toInt32.toInt8.toInt32.toInt8.toInt32) 4 (p1 + (3 : Int32)).toNatClampNeg (((p2.toInt64 <<< ((32 : Int32).toInt64 &&& 63)) ||| (p3.toInt64 &&& (4294967295 : Int64))) >>> ((24 : Int32).toInt64 &&& 63)).toInt32.toInt8.toInt32.toInt8.toInt32) 4 (p1 + (4 : Int32)).toNatClampNeg (((p2.toInt64 <<< ((32 : Int32).toInt64 &&& 63)) ||| (p3.toInt64 &&& (4294967295 : Int64))) >>> ((32 : Int32).toInt64 &&& 63)).toInt32.toInt8.toInt32.toInt8.toInt32) 4 (p1 + (5 : Int32)).toNatClampNeg (((p2.toInt64 <<< ((32 : Int32).toInt64 &&& 63)) ||| (p3.toInt64 &&& (4294967295 : Int64))) >>> ((40 : Int32).toInt64 &&& 63)).toInt32.toInt8.toInt32.toInt8.toInt32) 4 (p1 + (6 : Int32)).toNatClampNeg (((p2.toInt64 <<< ((32 : Int32).toInt64 &&& 63)) ||| (p3.toInt64 &&& (4294967295 : Int64))) >>> ((48 : Int32).toInt64 &&& 63)).toInt32.toInt8.toInt32.toInt8.toInt32) 4 (p1 + (7 : Int32)).toNatClampNeg (((p2.toInt64 <<< ((32 : Int32).toInt64 &&& 63)) ||| (p3.toInt64 &&& (4294967295 : Int64))) >>> ((56 : Int32).toInt64 &&& 63)).toInt32.toInt8.toInt32.toInt8.toInt32) jx_L0 (jx_R 227)) 227 1572950 _
  refine jv_Ev.steps jv_i361 3 (pc' := 4) (l' := [(0, .ref 178), (1, .int p1)]) (st' := [.int (8 : Int32), .int p1, .ref 178]) rfl ?_
  refine jv_Ev.op jv_i361 (pc' := 5) (l' := [(0, .ref 178), (1, .int p1)]) (st' := [.int (p1 - p1 / (8 : Int32) * (8 : Int32)), .ref 178]) rfl (jv_op_irem (by decide)) ?_
  refine jv_Ev.br jv_i361 (pc' := 12) (st' := [.ref 178]) rfl (jv_bi_eq.trans (jx_got (by rw [g1] <;> decide))) ?_
  refine jv_Ev.steps jv_i361 2 (pc' := 15) (l' := [(0, .ref 178), (1, .int p1)]) (st' := [.int (16 : Int32), .int p1, .ref 178]) rfl ?_
  refine jv_Ev.br jv_i361 (pc' := 18) (st' := [.ref 178]) rfl (jv_bc_lt.trans (jx_gof g2)) ?_
  refine jv_Ev.steps jv_i361 2 (pc' := 21) (l' := [(0, .ref 178), (1, .int p1)]) (st' := [.int (56 : Int32), .int p1, .ref 178]) rfl ?_
  refine jv_Ev.br jv_i361 (pc' := 28) (st' := [.ref 178]) rfl (jv_bc_le.trans (jx_got (Int32.not_lt.mp g3))) ?_
  refine jv_Ev.steps jv_i361 1 (pc' := 29) (l' := [(0, .ref 178), (1, .int p1)]) (st' := [.int (0 : Int32), .ref 178]) rfl ?_
  refine jv_Ev.m jv_i361 (pc' := 32) (st' := []) rfl rfl (jv_m_putI rfl rfl rfl rfl rfl) ?_
  refine jv_Ev.steps jv_i361 1 (pc' := 33) (l' := [(0, .ref 178), (1, .int p1)]) (st' := [.ref 178]) rfl ?_
  refine jv_Ev.m jv_i361 (pc' := 36) (st' := [.int (0 : Int32)]) rfl rfl (jv_m_getI rfl rfl rfl rfl) ?_
  refine jv_Ev.br jv_i361 (pc' := 43) (st' := []) rfl (jv_bi_le.trans (jx_got (by decide))) ?_
  refine jv_Ev.steps jv_i361 1 (pc' := 44) (l' := [(0, .ref 178), (1, .int p1)]) (st' := [.int (0 : Int32)]) rfl ?_
  exact jv_Ev.ret jv_i361 rfl (jv_ret_b (by decide))

set_option maxRecDepth 100000 in
/-- ProgramBoxModel.context -/
theorem jx_e61 (p0 : Int32) (p1 : Int32) (p2 : Int32) (p3 : Int32) (p4 : Int32) (p5 : Int32) (g1 : (p1 - p1 / (8 : Int32) * (8 : Int32)) = (0 : Int32)) (g2 : ¬ p1 < (16 : Int32)) (g3 : ¬ (56 : Int32) < p1) : jv_Ms 362 [.ref 178, .int p1, .long ((p2.toInt64 <<< ((32 : Int32).toInt64 &&& 63)) ||| (p3.toInt64 &&& (4294967295 : Int64)))] (jv_H (jx_K 227) (jv_u (jv_u (jv_u (jv_u (jv_u (jv_u (jv_u (jv_u jx_If 4 (p1 + (0 : Int32)).toNatClampNeg (((p2.toInt64 <<< ((32 : Int32).toInt64 &&& 63)) ||| (p3.toInt64 &&& (4294967295 : Int64))) >>> ((0 : Int32).toInt64 &&& 63)).toInt32.toInt8.toInt32.toInt8.toInt32) 4 (p1 + (1 : Int32)).toNatClampNeg (((p2.toInt64 <<< ((32 : Int32).toInt64 &&& 63)) ||| (p3.toInt64 &&& (4294967295 : Int64))) >>> ((8 : Int32).toInt64 &&& 63)).toInt32.toInt8.toInt32.toInt8.toInt32) 4 (p1 + (2 : Int32)).toNatClampNeg (((p2.toInt64 <<< ((32 : Int32).toInt64 &&& 63)) ||| (p3.toInt64 &&& (4294967295 : Int64))) >>> ((16 : Int32).toInt64 &&& 63)).toInt32.toInt8.toInt32.toInt8.toInt32) 4 (p1 + (3 : Int32)).toNatClampNeg (((p2.toInt64 <<< ((32 : Int32).toInt64 &&& 63)) ||| (p3.toInt64 &&& (4294967295 : Int64))) >>> ((24 : Int32).toInt64 &&& 63)).toInt32.toInt8.toInt32.toInt8.toInt32) 4 (p1 + (4 : Int32)).toNatClampNeg (((p2.toInt64 <<< ((32 : Int32).toInt64 &&& 63)) ||| (p3.toInt64 &&& (4294967295 : Int64))) >>> ((32 : Int32).toInt64 &&& 63)).toInt32.toInt8.toInt32.toInt8.toInt32) 4 (p1 + (5 : Int32)).toNatClampNeg (((p2.toInt64 <<< ((32 : Int32).toInt64 &&& 63)) ||| (p3.toInt64 &&& (4294967295 : Int64))) >>> ((40 : Int32).toInt64 &&& 63)).toInt32.toInt8.toInt32.toInt8.toInt32) 4 (p1 + (6 : Int32)).toNatClampNeg (((p2.toInt64 <<< ((32 : Int32).toInt64 &&& 63)) ||| (p3.toInt64 &&& (4294967295 : Int64))) >>> ((48 : Int32).toInt64 &&& 63)).toInt32.toInt8.toInt32.toInt8.toInt32) 4 (p1 + (7 : Int32)).toNatClampNeg (((p2.toInt64 <<< ((32 : Int32).toInt64 &&& 63)) ||| (p3.toInt64 &&& (4294967295 : Int64))) >>> ((56 : Int32).toInt64 &&& 63)).toInt32.toInt8.toInt32.toInt8.toInt32) jx_L0 (jx_R 227)) 227 1572950 (none, (jv_H (jx_K 227) (jv_u (jv_u (jv_u (jv_u (jv_u (jv_u (jv_u (jv_u (jv_u (jv_u (jv_u (jv_u (jv_u (jv_u (jv_u (jv_u (jv_u jx_If 4 (p1 + (0 : Int32)).toNatClampNeg (((p2.toInt64 <<< ((32 : Int32).toInt64 &&& 63)) ||| (p3.toInt64 &&& (4294967295 : Int64))) >>> ((0 : Int32).toInt64 &&& 63)).toInt32.toInt8.toInt32.toInt8.toInt32) 4 (p1 + (1 : Int32)).toNatClampNeg (((p2.toInt64 <<< ((32 : Int32).toInt64 &&& 63)) ||| (p3.toInt64 &&& (4294967295 : Int64))) >>> ((8 : Int32).toInt64 &&& 63)).toInt32.toInt8.toInt32.toInt8.toInt32) 4 (p1 + (2 : Int32)).toNatClampNeg (((p2.toInt64 <<< ((32 : Int32).toInt64 &&& 63)) ||| (p3.toInt64 &&& (4294967295 : Int64))) >>> ((16 : Int32).toInt64 &&& 63)).toInt32.toInt8.toInt32.toInt8.toInt32) 4 (p1 + (3 : Int32)).toNatClampNeg (((p2.toInt64 <<< ((32 : Int32).toInt64 &&& 63)) ||| (p3.toInt64 &&& (4294967295 : Int64))) >>> ((24 : Int32).toInt64 &&& 63)).toInt32.toInt8.toInt32.toInt8.toInt32) 4 (p1 + (4 : Int32)).toNatClampNeg (((p2.toInt64 <<< ((32 : Int32).toInt64 &&& 63)) ||| (p3.toInt64 &&& (4294967295 : Int64))) >>> ((32 : Int32).toInt64 &&& 63)).toInt32.toInt8.toInt32.toInt8.toInt32) 4 (p1 + (5 : Int32)).toNatClampNeg (((p2.toInt64 <<< ((32 : Int32).toInt64 &&& 63)) ||| (p3.toInt64 &&& (4294967295 : Int64))) >>> ((40 : Int32).toInt64 &&& 63)).toInt32.toInt8.toInt32.toInt8.toInt32) 4 (p1 + (6 : Int32)).toNatClampNeg (((p2.toInt64 <<< ((32 : Int32).toInt64 &&& 63)) ||| (p3.toInt64 &&& (4294967295 : Int64))) >>> ((48 : Int32).toInt64 &&& 63)).toInt32.toInt8.toInt32.toInt8.toInt32) 4 (p1 + (7 : Int32)).toNatClampNeg (((p2.toInt64 <<< ((32 : Int32).toInt64 &&& 63)) ||| (p3.toInt64 &&& (4294967295 : Int64))) >>> ((56 : Int32).toInt64 &&& 63)).toInt32.toInt8.toInt32.toInt8.toInt32) 178 0 (0 : Int32)) 219 (p1 + (0 : Int32)).toNatClampNeg (((((p2.toInt64 <<< ((32 : Int32).toInt64 &&& 63)) ||| (p3.toInt64 &&& (4294967295 : Int64))).toUInt64 >>> ((0 : Int32).toInt64.toUInt64 &&& Int64.toUInt64 63)).toInt64).toInt32 &&& (255 : Int32))) 219 (p1 + (1 : Int32)).toNatClampNeg (((((p2.toInt64 <<< ((32 : Int32).toInt64 &&& 63)) ||| (p3.toInt64 &&& (4294967295 : Int64))).toUInt64 >>> ((8 : Int32).toInt64.toUInt64 &&& Int64.toUInt64 63)).toInt64).toInt32 &&& (255 : Int32))) 219 (p1 + (2 : Int32)).toNatClampNeg (((((p2.toInt64 <<< ((32 : Int32).toInt64 &&& 63)) ||| (p3.toInt64 &&& (4294967295 : Int64))).toUInt64 >>> ((16 : Int32).toInt64.toUInt64 &&& Int64.toUInt64 63)).toInt64).toInt32 &&& (255 : Int32))) 219 (p1 + (3 : Int32)).toNatClampNeg (((((p2.toInt64 <<< ((32 : Int32).toInt64 &&& 63)) ||| (p3.toInt64 &&& (4294967295 : Int64))).toUInt64 >>> ((24 : Int32).toInt64.toUInt64 &&& Int64.toUInt64 63)).toInt64).toInt32 &&& (255 : Int32))) 219 (p1 + (4 : Int32)).toNatClampNeg (((((p2.toInt64 <<< ((32 : Int32).toInt64 &&& 63)) ||| (p3.toInt64 &&& (4294967295 : Int64))).toUInt64 >>> ((32 : Int32).toInt64.toUInt64 &&& Int64.toUInt64 63)).toInt64).toInt32 &&& (255 : Int32))) 219 (p1 + (5 : Int32)).toNatClampNeg (((((p2.toInt64 <<< ((32 : Int32).toInt64 &&& 63)) ||| (p3.toInt64 &&& (4294967295 : Int64))).toUInt64 >>> ((40 : Int32).toInt64.toUInt64 &&& Int64.toUInt64 63)).toInt64).toInt32 &&& (255 : Int32))) 219 (p1 + (6 : Int32)).toNatClampNeg (((((p2.toInt64 <<< ((32 : Int32).toInt64 &&& 63)) ||| (p3.toInt64 &&& (4294967295 : Int64))).toUInt64 >>> ((48 : Int32).toInt64.toUInt64 &&& Int64.toUInt64 63)).toInt64).toInt32 &&& (255 : Int32))) 219 (p1 + (7 : Int32)).toNatClampNeg (((((p2.toInt64 <<< ((32 : Int32).toInt64 &&& 63)) ||| (p3.toInt64 &&& (4294967295 : Int64))).toUInt64 >>> ((56 : Int32).toInt64.toUInt64 &&& Int64.toUInt64 63)).toInt64).toInt32 &&& (255 : Int32))) jx_L0 (jx_R 227)), 227, 1572950) := by
  show jv_Ev 362 0 [(0, .ref 178), (1, .int p1), (2, .long ((p2.toInt64 <<< ((32 : Int32).toInt64 &&& 63)) ||| (p3.toInt64 &&& (4294967295 : Int64))))] [] (jv_H (jx_K 227) (jv_u (jv_u (jv_u (jv_u (jv_u (jv_u (jv_u (jv_u jx_If 4 (p1 + (0 : Int32)).toNatClampNeg (((p2.toInt64 <<< ((32 : Int32).toInt64 &&& 63)) ||| (p3.toInt64 &&& (4294967295 : Int64))) >>> ((0 : Int32).toInt64 &&& 63)).toInt32.toInt8.toInt32.toInt8.toInt32) 4 (p1 + (1 : Int32)).toNatClampNeg (((p2.toInt64 <<< ((32 : Int32).toInt64 &&& 63)) ||| (p3.toInt64 &&& (4294967295 : Int64))) >>> ((8 : Int32).toInt64 &&& 63)).toInt32.toInt8.toInt32.toInt8.toInt32) 4 (p1 + (2 : Int32)).toNatClampNeg (((p2.toInt64 <<< ((32 : Int32).toInt64 &&& 63)) ||| (p3.toInt64 &&& (4294967295 : Int64))) >>> ((16 : Int32).toInt64 &&& 63)).toInt32.toInt8.toInt32.toInt8.toInt32) 4 (p1 + (3 : Int32)).toNatClampNeg (((p2.toInt64 <<< ((32 : Int32).toInt64 &&& 63)) ||| (p3.toInt64 &&& (4294967295 : Int64))) >>> ((24 : Int32).toInt64 &&& 63)).toInt32.toInt8.toInt32.toInt8.toInt32) 4 (p1 + (4 : Int32)).toNatClampNeg (((p2.toInt64 <<< ((32 : Int32).toInt64 &&& 63)) ||| (p3.toInt64 &&& (4294967295 : Int64))) >>> ((32 : Int32).toInt64 &&& 63)).toInt32.toInt8.toInt32.toInt8.toInt32) 4 (p1 + (5 : Int32)).toNatClampNeg (((p2.toInt64 <<< ((32 : Int32).toInt64 &&& 63)) ||| (p3.toInt64 &&& (4294967295 : Int64))) >>> ((40 : Int32).toInt64 &&& 63)).toInt32.toInt8.toInt32.toInt8.toInt32) 4 (p1 + (6 : Int32)).toNatClampNeg (((p2.toInt64 <<< ((32 : Int32).toInt64 &&& 63)) ||| (p3.toInt64 &&& (4294967295 : Int64))) >>> ((48 : Int32).toInt64 &&& 63)).toInt32.toInt8.toInt32.toInt8.toInt32) 4 (p1 + (7 : Int32)).toNatClampNeg (((p2.toInt64 <<< ((32 : Int32).toInt64 &&& 63)) ||| (p3.toInt64 &&& (4294967295 : Int64))) >>> ((56 : Int32).toInt64 &&& 63)).toInt32.toInt8.toInt32.toInt8.toInt32) jx_L0 (jx_R 227)) 227 1572950 _
  refine jv_Ev.steps jv_i362 2 (pc' := 2) (l' := [(0, .ref 178), (1, .int p1), (2, .long ((p2.toInt64 <<< ((32 : Int32).toInt64 &&& 63)) ||| (p3.toInt64 &&& (4294967295 : Int64))))]) (st' := [.int p1, .ref 178]) rfl ?_
  refine jv_Ev.c jv_i362 (pc' := 5) (S' := [.int (0 : Int32)]) jv_i361 [.ref 178, .int p1] rfl rfl rfl rfl (jv_cal rfl (jv_H_at rfl) rfl rfl) rfl (jx_e60 p0 p1 p2 p3 p4 p5 g1 g2 g3) rfl rfl ?_
  refine jv_Ev.br jv_i362 (pc' := 8) (st' := []) rfl (jv_bi_ne.trans (jx_gof (by decide))) ?_
  refine jv_Ev.steps jv_i362 4 (pc' := 15) (l' := [(4, .int (0 : Int32)), (0, .ref 178), (1, .int p1), (2, .long ((p2.toInt64 <<< ((32 : Int32).toInt64 &&& 63)) ||| (p3.toInt64 &&& (4294967295 : Int64))))]) (st' := [.int (8 : Int32), .int (0 : Int32)]) rfl ?_
  refine jv_Ev.br jv_i362 (pc' := 18) (st' := []) rfl (jv_bc_ge.trans (jx_gof (by decide))) ?_
  refine jv_Ev.steps jv_i362 1 (pc' := 19) (l' := [(4, .int (0 : Int32)), (0, .ref 178), (1, .int p1), (2, .long ((p2.toInt64 <<< ((32 : Int32).toInt64 &&& 63)) ||| (p3.toInt64 &&& (4294967295 : Int64))))]) (st' := [.ref 178]) rfl ?_
  refine jv_Ev.m jv_i362 (pc' := 22) (st' := [.ref 219]) rfl rfl (jv_m_getR rfl rfl rfl rfl) ?_
  refine jv_Ev.steps jv_i362 11 (pc' := 38) (l' := [(4, .int (0 : Int32)), (0, .ref 178), (1, .int p1), (2, .long ((p2.toInt64 <<< ((32 : Int32).toInt64 &&& 63)) ||| (p3.toInt64 &&& (4294967295 : Int64))))]) (st' := [.int (((((p2.toInt64 <<< ((32 : Int32).toInt64 &&& 63)) ||| (p3.toInt64 &&& (4294967295 : Int64))).toUInt64 >>> ((0 : Int32).toInt64.toUInt64 &&& Int64.toUInt64 63)).toInt64).toInt32 &&& (255 : Int32)), .int (p1 + (0 : Int32)), .ref 219]) rfl ?_
  refine jv_Ev.m jv_i362 (pc' := 39) (st' := []) rfl rfl (jv_m_iast rfl (jx_ixa (k := 0) (fun q => g2 (Int32.lt_of_lt_of_le q (by decide))) g3 (by decide))) ?_
  refine jv_Ev.steps jv_i362 4 (pc' := 15) (l' := [(4, .int (1 : Int32)), (0, .ref 178), (1, .int p1), (2, .long ((p2.toInt64 <<< ((32 : Int32).toInt64 &&& 63)) ||| (p3.toInt64 &&& (4294967295 : Int64))))]) (st' := [.int (8 : Int32), .int (1 : Int32)]) rfl ?_
  refine jv_Ev.br jv_i362 (pc' := 18) (st' := []) rfl (jv_bc_ge.trans (jx_gof (by decide))) ?_
  refine jv_Ev.steps jv_i362 1 (pc' := 19) (l' := [(4, .int (1 : Int32)), (0, .ref 178), (1, .int p1), (2, .long ((p2.toInt64 <<< ((32 : Int32).toInt64 &&& 63)) ||| (p3.toInt64 &&& (4294967295 : Int64))))]) (st' := [.ref 178]) rfl ?_
  refine jv_Ev.m jv_i362 (pc' := 22) (st' := [.ref 219]) rfl rfl (jv_m_getR rfl rfl rfl rfl) ?_
  refine jv_Ev.steps jv_i362 11 (pc' := 38) (l' := [(4, .int (1 : Int32)), (0, .ref 178), (1, .int p1), (2, .long ((p2.toInt64 <<< ((32 : Int32).toInt64 &&& 63)) ||| (p3.toInt64 &&& (4294967295 : Int64))))]) (st' := [.int (((((p2.toInt64 <<< ((32 : Int32).toInt64 &&& 63)) ||| (p3.toInt64 &&& (4294967295 : Int64))).toUInt64 >>> ((8 : Int32).toInt64.toUInt64 &&& Int64.toUInt64 63)).toInt64).toInt32 &&& (255 : Int32)), .int (p1 + (1 : Int32)), .ref 219]) rfl ?_
  refine jv_Ev.m jv_i362 (pc' := 39) (st' := []) rfl rfl (jv_m_iast rfl (jx_ixa (k := 1) (fun q => g2 (Int32.lt_of_lt_of_le q (by decide))) g3 (by decide))) ?_
  refine jv_Ev.steps jv_i362 4 (pc' := 15) (l' := [(4, .int (2 : Int32)), (0, .ref 178), (1, .int p1), (2, .long ((p2.toInt64 <<< ((32 : Int32).toInt64 &&& 63)) ||| (p3.toInt64 &&& (4294967295 : Int64))))]) (st' := [.int (8 : Int32), .int (2 : Int32)]) rfl ?_
  refine jv_Ev.br jv_i362 (pc' := 18) (st' := []) rfl (jv_bc_ge.trans (jx_gof (by decide))) ?_
  refine jv_Ev.steps jv_i362 1 (pc' := 19) (l' := [(4, .int (2 : Int32)), (0, .ref 178), (1, .int p1), (2, .long ((p2.toInt64 <<< ((32 : Int32).toInt64 &&& 63)) ||| (p3.toInt64 &&& (4294967295 : Int64))))]) (st' := [.ref 178]) rfl ?_
  refine jv_Ev.m jv_i362 (pc' := 22) (st' := [.ref 219]) rfl rfl (jv_m_getR rfl rfl rfl rfl) ?_
  refine jv_Ev.steps jv_i362 11 (pc' := 38) (l' := [(4, .int (2 : Int32)), (0, .ref 178), (1, .int p1), (2, .long ((p2.toInt64 <<< ((32 : Int32).toInt64 &&& 63)) ||| (p3.toInt64 &&& (4294967295 : Int64))))]) (st' := [.int (((((p2.toInt64 <<< ((32 : Int32).toInt64 &&& 63)) ||| (p3.toInt64 &&& (4294967295 : Int64))).toUInt64 >>> ((16 : Int32).toInt64.toUInt64 &&& Int64.toUInt64 63)).toInt64).toInt32 &&& (255 : Int32)), .int (p1 + (2 : Int32)), .ref 219]) rfl ?_
  refine jv_Ev.m jv_i362 (pc' := 39) (st' := []) rfl rfl (jv_m_iast rfl (jx_ixa (k := 2) (fun q => g2 (Int32.lt_of_lt_of_le q (by decide))) g3 (by decide))) ?_
  refine jv_Ev.steps jv_i362 4 (pc' := 15) (l' := [(4, .int (3 : Int32)), (0, .ref 178), (1, .int p1), (2, .long ((p2.toInt64 <<< ((32 : Int32).toInt64 &&& 63)) ||| (p3.toInt64 &&& (4294967295 : Int64))))]) (st' := [.int (8 : Int32), .int (3 : Int32)]) rfl ?_
  refine jv_Ev.br jv_i362 (pc' := 18) (st' := []) rfl (jv_bc_ge.trans (jx_gof (by decide))) ?_
  refine jv_Ev.steps jv_i362 1 (pc' := 19) (l' := [(4, .int (3 : Int32)), (0, .ref 178), (1, .int p1), (2, .long ((p2.toInt64 <<< ((32 : Int32).toInt64 &&& 63)) ||| (p3.toInt64 &&& (4294967295 : Int64))))]) (st' := [.ref 178]) rfl ?_
  refine jv_Ev.m jv_i362 (pc' := 22) (st' := [.ref 219]) rfl rfl (jv_m_getR rfl rfl rfl rfl) ?_
  refine jv_Ev.steps jv_i362 11 (pc' := 38) (l' := [(4, .int (3 : Int32)), (0, .ref 178), (1, .int p1), (2, .long ((p2.toInt64 <<< ((32 : Int32).toInt64 &&& 63)) ||| (p3.toInt64 &&& (4294967295 : Int64))))]) (st' := [.int (((((p2.toInt64 <<< ((32 : Int32).toInt64 &&& 63)) ||| (p3.toInt64 &&& (4294967295 : Int64))).toUInt64 >>> ((24 : Int32).toInt64.toUInt64 &&& Int64.toUInt64 63)).toInt64).toInt32 &&& (255 : Int32)), .int (p1 + (3 : Int32)), .ref 219]) rfl ?_
  refine jv_Ev.m jv_i362 (pc' := 39) (st' := []) rfl rfl (jv_m_iast rfl (jx_ixa (k := 3) (fun q => g2 (Int32.lt_of_lt_of_le q (by decide))) g3 (by decide))) ?_
  refine jv_Ev.steps jv_i362 4 (pc' := 15) (l' := [(4, .int (4 : Int32)), (0, .ref 178), (1, .int p1), (2, .long ((p2.toInt64 <<< ((32 : Int32).toInt64 &&& 63)) ||| (p3.toInt64 &&& (4294967295 : Int64))))]) (st' := [.int (8 : Int32), .int (4 : Int32)]) rfl ?_
  refine jv_Ev.br jv_i362 (pc' := 18) (st' := []) rfl (jv_bc_ge.trans (jx_gof (by decide))) ?_
  refine jv_Ev.steps jv_i362 1 (pc' := 19) (l' := [(4, .int (4 : Int32)), (0, .ref 178), (1, .int p1), (2, .long ((p2.toInt64 <<< ((32 : Int32).toInt64 &&& 63)) ||| (p3.toInt64 &&& (4294967295 : Int64))))]) (st' := [.ref 178]) rfl ?_
  refine jv_Ev.m jv_i362 (pc' := 22) (st' := [.ref 219]) rfl rfl (jv_m_getR rfl rfl rfl rfl) ?_
  refine jv_Ev.steps jv_i362 11 (pc' := 38) (l' := [(4, .int (4 : Int32)), (0, .ref 178), (1, .int p1), (2, .long ((p2.toInt64 <<< ((32 : Int32).toInt64 &&& 63)) ||| (p3.toInt64 &&& (4294967295 : Int64))))]) (st' := [.int (((((p2.toInt64 <<< ((32 : Int32).toInt64 &&& 63)) ||| (p3.toInt64 &&& (4294967295 : Int64))).toUInt64 >>> ((32 : Int32).toInt64.toUInt64 &&& Int64.toUInt64 63)).toInt64).toInt32 &&& (255 : Int32)), .int (p1 + (4 : Int32)), .ref 219]) rfl ?_
  refine jv_Ev.m jv_i362 (pc' := 39) (st' := []) rfl rfl (jv_m_iast rfl (jx_ixa (k := 4) (fun q => g2 (Int32.lt_of_lt_of_le q (by decide))) g3 (by decide))) ?_
  refine jv_Ev.steps jv_i362 4 (pc' := 15) (l' := [(4, .int (5 : Int32)), (0, .ref 178), (1, .int p1), (2, .long ((p2.toInt64 <<< ((32 : Int32).toInt64 &&& 63)) ||| (p3.toInt64 &&& (4294967295 : Int64))))]) (st' := [.int (8 : Int32), .int (5 : Int32)]) rfl ?_
  refine jv_Ev.br jv_i362 (pc' := 18) (st' := []) rfl (jv_bc_ge.trans (jx_gof (by decide))) ?_
  refine jv_Ev.steps jv_i362 1 (pc' := 19) (l' := [(4, .int (5 : Int32)), (0, .ref 178), (1, .int p1), (2, .long ((p2.toInt64 <<< ((32 : Int32).toInt64 &&& 63)) ||| (p3.toInt64 &&& (4294967295 : Int64))))]) (st' := [.ref 178]) rfl ?_
  refine jv_Ev.m jv_i362 (pc' := 22) (st' := [.ref 219]) rfl rfl (jv_m_getR rfl rfl rfl rfl) ?_
  refine jv_Ev.steps jv_i362 11 (pc' := 38) (l' := [(4, .int (5 : Int32)), (0, .ref 178), (1, .int p1), (2, .long ((p2.toInt64 <<< ((32 : Int32).toInt64 &&& 63)) ||| (p3.toInt64 &&& (4294967295 : Int64))))]) (st' := [.int (((((p2.toInt64 <<< ((32 : Int32).toInt64 &&& 63)) ||| (p3.toInt64 &&& (4294967295 : Int64))).toUInt64 >>> ((40 : Int32).toInt64.toUInt64 &&& Int64.toUInt64 63)).toInt64).toInt32 &&& (255 : Int32)), .int (p1 + (5 : Int32)), .ref 219]) rfl ?_
  refine jv_Ev.m jv_i362 (pc' := 39) (st' := []) rfl rfl (jv_m_iast rfl (jx_ixa (k := 5) (fun q => g2 (Int32.lt_of_lt_of_le q (by decide))) g3 (by decide))) ?_
  refine jv_Ev.steps jv_i362 4 (pc' := 15) (l' := [(4, .int (6 : Int32)), (0, .ref 178), (1, .int p1), (2, .long ((p2.toInt64 <<< ((32 : Int32).toInt64 &&& 63)) ||| (p3.toInt64 &&& (4294967295 : Int64))))]) (st' := [.int (8 : Int32), .int (6 : Int32)]) rfl ?_
  refine jv_Ev.br jv_i362 (pc' := 18) (st' := []) rfl (jv_bc_ge.trans (jx_gof (by decide))) ?_
  refine jv_Ev.steps jv_i362 1 (pc' := 19) (l' := [(4, .int (6 : Int32)), (0, .ref 178), (1, .int p1), (2, .long ((p2.toInt64 <<< ((32 : Int32).toInt64 &&& 63)) ||| (p3.toInt64 &&& (4294967295 : Int64))))]) (st' := [.ref 178]) rfl ?_
  refine jv_Ev.m jv_i362 (pc' := 22) (st' := [.ref 219]) rfl rfl (jv_m_getR rfl rfl rfl rfl) ?_
  refine jv_Ev.steps jv_i362 11 (pc' := 38) (l' := [(4, .int (6 : Int32)), (0, .ref 178), (1, .int p1), (2, .long ((p2.toInt64 <<< ((32 : Int32).toInt64 &&& 63)) ||| (p3.toInt64 &&& (4294967295 : Int64))))]) (st' := [.int (((((p2.toInt64 <<< ((32 : Int32).toInt64 &&& 63)) ||| (p3.toInt64 &&& (4294967295 : Int64))).toUInt64 >>> ((48 : Int32).toInt64.toUInt64 &&& Int64.toUInt64 63)).toInt64).toInt32 &&& (255 : Int32)), .int (p1 + (6 : Int32)), .ref 219]) rfl ?_
  refine jv_Ev.m jv_i362 (pc' := 39) (st' := []) rfl rfl (jv_m_iast rfl (jx_ixa (k := 6) (fun q => g2 (Int32.lt_of_lt_of_le q (by decide))) g3 (by decide))) ?_
  refine jv_Ev.steps jv_i362 4 (pc' := 15) (l' := [(4, .int (7 : Int32)), (0, .ref 178), (1, .int p1), (2, .long ((p2.toInt64 <<< ((32 : Int32).toInt64 &&& 63)) ||| (p3.toInt64 &&& (4294967295 : Int64))))]) (st' := [.int (8 : Int32), .int (7 : Int32)]) rfl ?_
  refine jv_Ev.br jv_i362 (pc' := 18) (st' := []) rfl (jv_bc_ge.trans (jx_gof (by decide))) ?_
  refine jv_Ev.steps jv_i362 1 (pc' := 19) (l' := [(4, .int (7 : Int32)), (0, .ref 178), (1, .int p1), (2, .long ((p2.toInt64 <<< ((32 : Int32).toInt64 &&& 63)) ||| (p3.toInt64 &&& (4294967295 : Int64))))]) (st' := [.ref 178]) rfl ?_
  refine jv_Ev.m jv_i362 (pc' := 22) (st' := [.ref 219]) rfl rfl (jv_m_getR rfl rfl rfl rfl) ?_
  refine jv_Ev.steps jv_i362 11 (pc' := 38) (l' := [(4, .int (7 : Int32)), (0, .ref 178), (1, .int p1), (2, .long ((p2.toInt64 <<< ((32 : Int32).toInt64 &&& 63)) ||| (p3.toInt64 &&& (4294967295 : Int64))))]) (st' := [.int (((((p2.toInt64 <<< ((32 : Int32).toInt64 &&& 63)) ||| (p3.toInt64 &&& (4294967295 : Int64))).toUInt64 >>> ((56 : Int32).toInt64.toUInt64 &&& Int64.toUInt64 63)).toInt64).toInt32 &&& (255 : Int32)), .int (p1 + (7 : Int32)), .ref 219]) rfl ?_
  refine jv_Ev.m jv_i362 (pc' := 39) (st' := []) rfl rfl (jv_m_iast rfl (jx_ixa (k := 7) (fun q => g2 (Int32.lt_of_lt_of_le q (by decide))) g3 (by decide))) ?_
  refine jv_Ev.steps jv_i362 4 (pc' := 15) (l' := [(4, .int (8 : Int32)), (0, .ref 178), (1, .int p1), (2, .long ((p2.toInt64 <<< ((32 : Int32).toInt64 &&& 63)) ||| (p3.toInt64 &&& (4294967295 : Int64))))]) (st' := [.int (8 : Int32), .int (8 : Int32)]) rfl ?_
  refine jv_Ev.br jv_i362 (pc' := 45) (st' := []) rfl (jv_bc_ge.trans (jx_got (by decide))) ?_
  exact jv_Ev.ret jv_i362 rfl rfl

set_option maxRecDepth 100000 in
/-- ProgramBoxModel.thrown -/
theorem jx_e62 (p0 : Int32) (p1 : Int32) (p2 : Int32) (p3 : Int32) (p4 : Int32) (p5 : Int32) (g1 : (p1 - p1 / (8 : Int32) * (8 : Int32)) = (0 : Int32)) (g2 : ¬ p1 < (16 : Int32)) (g3 : ¬ (56 : Int32) < p1) : jv_Ms 350 [.ref 178] (jv_H (jx_K 227) (jv_u (jv_u (jv_u (jv_u (jv_u (jv_u (jv_u (jv_u (jv_u (jv_u (jv_u (jv_u (jv_u (jv_u (jv_u (jv_u (jv_u jx_If 4 (p1 + (0 : Int32)).toNatClampNeg (((p2.toInt64 <<< ((32 : Int32).toInt64 &&& 63)) ||| (p3.toInt64 &&& (4294967295 : Int64))) >>> ((0 : Int32).toInt64 &&& 63)).toInt32.toInt8.toInt32.toInt8.toInt32) 4 (p1 + (1 : Int32)).toNatClampNeg (((p2.toInt64 <<< ((32 : Int32).toInt64 &&& 63)) ||| (p3.toInt64 &&& (4294967295 : Int64))) >>> ((8 : Int32).toInt64 &&& 63)).toInt32.toInt8.toInt32.toInt8.toInt32) 4 (p1 + (2 : Int32)).toNatClampNeg (((p2.toInt64 <<< ((32 : Int32).toInt64 &&& 63)) ||| (p3.toInt64 &&& (4294967295 : Int64))) >>> ((16 : Int32).toInt64 &&& 63)).toInt32.toInt8.toInt32.toInt8.toInt32) 4 (p1 + (3 : Int32)).toNatClampNeg (((p2.toInt64 <<< ((32 : Int32).toInt64 &&& 63)) ||| (p3.toInt64 &&& (4294967295 : Int64))) >>> ((24 : Int32).toInt64 &&& 63)).toInt32.toInt8.toInt32.toInt8.toInt32) 4 (p1 + (4 : Int32)).toNatClampNeg (((p2.toInt64 <<< ((32 : Int32).toInt64 &&& 63)) ||| (p3.toInt64 &&& (4294967295 : Int64))) >>> ((32 : Int32).toInt64 &&& 63)).toInt32.toInt8.toInt32.toInt8.toInt32) 4 (p1 + (5 : Int32)).toNatClampNeg (((p2.toInt64 <<< ((32 : Int32).toInt64 &&& 63)) ||| (p3.toInt64 &&& (4294967295 : Int64))) >>> ((40 : Int32).toInt64 &&& 63)).toInt32.toInt8.toInt32.toInt8.toInt32) 4 (p1 + (6 : Int32)).toNatClampNeg (((p2.toInt64 <<< ((32 : Int32).toInt64 &&& 63)) ||| (p3.toInt64 &&& (4294967295 : Int64))) >>> ((48 : Int32).toInt64 &&& 63)).toInt32.toInt8.toInt32.toInt8.toInt32) 4 (p1 + (7 : Int32)).toNatClampNeg (((p2.toInt64 <<< ((32 : Int32).toInt64 &&& 63)) ||| (p3.toInt64 &&& (4294967295 : Int64))) >>> ((56 : Int32).toInt64 &&& 63)).toInt32.toInt8.toInt32.toInt8.toInt32) 178 0 (0 : Int32)) 219 (p1 + (0 : Int32)).toNatClampNeg (((((p2.toInt64 <<< ((32 : Int32).toInt64 &&& 63)) ||| (p3.toInt64 &&& (4294967295 : Int64))).toUInt64 >>> ((0 : Int32).toInt64.toUInt64 &&& Int64.toUInt64 63)).toInt64).toInt32 &&& (255 : Int32))) 219 (p1 + (1 : Int32)).toNatClampNeg (((((p2.toInt64 <<< ((32 : Int32).toInt64 &&& 63)) ||| (p3.toInt64 &&& (4294967295 : Int64))).toUInt64 >>> ((8 : Int32).toInt64.toUInt64 &&& Int64.toUInt64 63)).toInt64).toInt32 &&& (255 : Int32))) 219 (p1 + (2 : Int32)).toNatClampNeg (((((p2.toInt64 <<< ((32 : Int32).toInt64 &&& 63)) ||| (p3.toInt64 &&& (4294967295 : Int64))).toUInt64 >>> ((16 : Int32).toInt64.toUInt64 &&& Int64.toUInt64 63)).toInt64).toInt32 &&& (255 : Int32))) 219 (p1 + (3 : Int32)).toNatClampNeg (((((p2.toInt64 <<< ((32 : Int32).toInt64 &&& 63)) ||| (p3.toInt64 &&& (4294967295 : Int64))).toUInt64 >>> ((24 : Int32).toInt64.toUInt64 &&& Int64.toUInt64 63)).toInt64).toInt32 &&& (255 : Int32))) 219 (p1 + (4 : Int32)).toNatClampNeg (((((p2.toInt64 <<< ((32 : Int32).toInt64 &&& 63)) ||| (p3.toInt64 &&& (4294967295 : Int64))).toUInt64 >>> ((32 : Int32).toInt64.toUInt64 &&& Int64.toUInt64 63)).toInt64).toInt32 &&& (255 : Int32))) 219 (p1 + (5 : Int32)).toNatClampNeg (((((p2.toInt64 <<< ((32 : Int32).toInt64 &&& 63)) ||| (p3.toInt64 &&& (4294967295 : Int64))).toUInt64 >>> ((40 : Int32).toInt64.toUInt64 &&& Int64.toUInt64 63)).toInt64).toInt32 &&& (255 : Int32))) 219 (p1 + (6 : Int32)).toNatClampNeg (((((p2.toInt64 <<< ((32 : Int32).toInt64 &&& 63)) ||| (p3.toInt64 &&& (4294967295 : Int64))).toUInt64 >>> ((48 : Int32).toInt64.toUInt64 &&& Int64.toUInt64 63)).toInt64).toInt32 &&& (255 : Int32))) 219 (p1 + (7 : Int32)).toNatClampNeg (((((p2.toInt64 <<< ((32 : Int32).toInt64 &&& 63)) ||| (p3.toInt64 &&& (4294967295 : Int64))).toUInt64 >>> ((56 : Int32).toInt64.toUInt64 &&& Int64.toUInt64 63)).toInt64).toInt32 &&& (255 : Int32))) jx_L0 (jx_R 227)) 227 1572950 (some (.int (0 : Int32)), (jv_H (jx_K 227) (jv_u (jv_u (jv_u (jv_u (jv_u (jv_u (jv_u (jv_u (jv_u (jv_u (jv_u (jv_u (jv_u (jv_u (jv_u (jv_u (jv_u jx_If 4 (p1 + (0 : Int32)).toNatClampNeg (((p2.toInt64 <<< ((32 : Int32).toInt64 &&& 63)) ||| (p3.toInt64 &&& (4294967295 : Int64))) >>> ((0 : Int32).toInt64 &&& 63)).toInt32.toInt8.toInt32.toInt8.toInt32) 4 (p1 + (1 : Int32)).toNatClampNeg (((p2.toInt64 <<< ((32 : Int32).toInt64 &&& 63)) ||| (p3.toInt64 &&& (4294967295 : Int64))) >>> ((8 : Int32).toInt64 &&& 63)).toInt32.toInt8.toInt32.toInt8.toInt32) 4 (p1 + (2 : Int32)).toNatClampNeg (((p2.toInt64 <<< ((32 : Int32).toInt64 &&& 63)) ||| (p3.toInt64 &&& (4294967295 : Int64))) >>> ((16 : Int32).toInt64 &&& 63)).toInt32.toInt8.toInt32.toInt8.toInt32) 4 (p1 + (3 : Int32)).toNatClampNeg (((p2.toInt64 <<< ((32 : Int32).toInt64 &&& 63)) ||| (p3.toInt64 &&& (4294967295 : Int64))) >>> ((24 : Int32).toInt64 &&& 63)).toInt32.toInt8.toInt32.toInt8.toInt32) 4 (p1 + (4 : Int32)).toNatClampNeg (((p2.toInt64 <<< ((32 : Int32).toInt64 &&& 63)) ||| (p3.toInt64 &&& (4294967295 : Int64))) >>> ((32 : Int32).toInt64 &&& 63)).toInt32.toInt8.toInt32.toInt8.toInt32) 4 (p1 + (5 : Int32)).toNatClampNeg (((p2.toInt64 <<< ((32 : Int32).toInt64 &&& 63)) ||| (p3.toInt64 &&& (4294967295 : Int64))) >>> ((40 : Int32).toInt64 &&& 63)).toInt32.toInt8.toInt32.toInt8.toInt32) 4 (p1 + (6 : Int32)).toNatClampNeg (((p2.toInt64 <<< ((32 : Int32).toInt64 &&& 63)) ||| (p3.toInt64 &&& (4294967295 : Int64))) >>> ((48 : Int32).toInt64 &&& 63)).toInt32.toInt8.toInt32.toInt8.toInt32) 4 (p1 + (7 : Int32)).toNatClampNeg (((p2.toInt64 <<< ((32 : Int32).toInt64 &&& 63)) ||| (p3.toInt64 &&& (4294967295 : Int64))) >>> ((56 : Int32).toInt64 &&& 63)).toInt32.toInt8.toInt32.toInt8.toInt32) 178 0 (0 : Int32)) 219 (p1 + (0 : Int32)).toNatClampNeg (((((p2.toInt64 <<< ((32 : Int32).toInt64 &&& 63)) ||| (p3.toInt64 &&& (4294967295 : Int64))).toUInt64 >>> ((0 : Int32).toInt64.toUInt64 &&& Int64.toUInt64 63)).toInt64).toInt32 &&& (255 : Int32))) 219 (p1 + (1 : Int32)).toNatClampNeg (((((p2.toInt64 <<< ((32 : Int32).toInt64 &&& 63)) ||| (p3.toInt64 &&& (4294967295 : Int64))).toUInt64 >>> ((8 : Int32).toInt64.toUInt64 &&& Int64.toUInt64 63)).toInt64).toInt32 &&& (255 : Int32))) 219 (p1 + (2 : Int32)).toNatClampNeg (((((p2.toInt64 <<< ((32 : Int32).toInt64 &&& 63)) ||| (p3.toInt64 &&& (4294967295 : Int64))).toUInt64 >>> ((16 : Int32).toInt64.toUInt64 &&& Int64.toUInt64 63)).toInt64).toInt32 &&& (255 : Int32))) 219 (p1 + (3 : Int32)).toNatClampNeg (((((p2.toInt64 <<< ((32 : Int32).toInt64 &&& 63)) ||| (p3.toInt64 &&& (4294967295 : Int64))).toUInt64 >>> ((24 : Int32).toInt64.toUInt64 &&& Int64.toUInt64 63)).toInt64).toInt32 &&& (255 : Int32))) 219 (p1 + (4 : Int32)).toNatClampNeg (((((p2.toInt64 <<< ((32 : Int32).toInt64 &&& 63)) ||| (p3.toInt64 &&& (4294967295 : Int64))).toUInt64 >>> ((32 : Int32).toInt64.toUInt64 &&& Int64.toUInt64 63)).toInt64).toInt32 &&& (255 : Int32))) 219 (p1 + (5 : Int32)).toNatClampNeg (((((p2.toInt64 <<< ((32 : Int32).toInt64 &&& 63)) ||| (p3.toInt64 &&& (4294967295 : Int64))).toUInt64 >>> ((40 : Int32).toInt64.toUInt64 &&& Int64.toUInt64 63)).toInt64).toInt32 &&& (255 : Int32))) 219 (p1 + (6 : Int32)).toNatClampNeg (((((p2.toInt64 <<< ((32 : Int32).toInt64 &&& 63)) ||| (p3.toInt64 &&& (4294967295 : Int64))).toUInt64 >>> ((48 : Int32).toInt64.toUInt64 &&& Int64.toUInt64 63)).toInt64).toInt32 &&& (255 : Int32))) 219 (p1 + (7 : Int32)).toNatClampNeg (((((p2.toInt64 <<< ((32 : Int32).toInt64 &&& 63)) ||| (p3.toInt64 &&& (4294967295 : Int64))).toUInt64 >>> ((56 : Int32).toInt64.toUInt64 &&& Int64.toUInt64 63)).toInt64).toInt32 &&& (255 : Int32))) jx_L0 (jx_R 227)), 227, 1572950) := by
  show jv_Ev 350 0 [(0, .ref 178)] [] (jv_H (jx_K 227) (jv_u (jv_u (jv_u (jv_u (jv_u (jv_u (jv_u (jv_u (jv_u (jv_u (jv_u (jv_u (jv_u (jv_u (jv_u (jv_u (jv_u jx_If 4 (p1 + (0 : Int32)).toNatClampNeg (((p2.toInt64 <<< ((32 : Int32).toInt64 &&& 63)) ||| (p3.toInt64 &&& (4294967295 : Int64))) >>> ((0 : Int32).toInt64 &&& 63)).toInt32.toInt8.toInt32.toInt8.toInt32) 4 (p1 + (1 : Int32)).toNatClampNeg (((p2.toInt64 <<< ((32 : Int32).toInt64 &&& 63)) ||| (p3.toInt64 &&& (4294967295 : Int64))) >>> ((8 : Int32).toInt64 &&& 63)).toInt32.toInt8.toInt32.toInt8.toInt32) 4 (p1 + (2 : Int32)).toNatClampNeg (((p2.toInt64 <<< ((32 : Int32).toInt64 &&& 63)) ||| (p3.toInt64 &&& (4294967295 : Int64))) >>> ((16 : Int32).toInt64 &&& 63)).toInt32.toInt8.toInt32.toInt8.toInt32) 4 (p1 + (3 : Int32)).toNatClampNeg (((p2.toInt64 <<< ((32 : Int32).toInt64 &&& 63)) ||| (p3.toInt64 &&& (4294967295 : Int64))) >>> ((24 : Int32).toInt64 &&& 63)).toInt32.toInt8.toInt32.toInt8.toInt32) 4 (p1 + (4 : Int32)).toNatClampNeg (((p2.toInt64 <<< ((32 : Int32).toInt64 &&& 63)) ||| (p3.toInt64 &&& (4294967295 : Int64))) >>> ((32 : Int32).toInt64 &&& 63)).toInt32.toInt8.toInt32.toInt8.toInt32) 4 (p1 + (5 : Int32)).toNatClampNeg (((p2.toInt64 <<< ((32 : Int32).toInt64 &&& 63)) ||| (p3.toInt64 &&& (4294967295 : Int64))) >>> ((40 : Int32).toInt64 &&& 63)).toInt32.toInt8.toInt32.toInt8.toInt32) 4 (p1 + (6 : Int32)).toNatClampNeg (((p2.toInt64 <<< ((32 : Int32).toInt64 &&& 63)) ||| (p3.toInt64 &&& (4294967295 : Int64))) >>> ((48 : Int32).toInt64 &&& 63)).toInt32.toInt8.toInt32.toInt8.toInt32) 4 (p1 + (7 : Int32)).toNatClampNeg (((p2.toInt64 <<< ((32 : Int32).toInt64 &&& 63)) ||| (p3.toInt64 &&& (4294967295 : Int64))) >>> ((56 : Int32).toInt64 &&& 63)).toInt32.toInt8.toInt32.toInt8.toInt32) 178 0 (0 : Int32)) 219 (p1 + (0 : Int32)).toNatClampNeg (((((p2.toInt64 <<< ((32 : Int32).toInt64 &&& 63)) ||| (p3.toInt64 &&& (4294967295 : Int64))).toUInt64 >>> ((0 : Int32).toInt64.toUInt64 &&& Int64.toUInt64 63)).toInt64).toInt32 &&& (255 : Int32))) 219 (p1 + (1 : Int32)).toNatClampNeg (((((p2.toInt64 <<< ((32 : Int32).toInt64 &&& 63)) ||| (p3.toInt64 &&& (4294967295 : Int64))).toUInt64 >>> ((8 : Int32).toInt64.toUInt64 &&& Int64.toUInt64 63)).toInt64).toInt32 &&& (255 : Int32))) 219 (p1 + (2 : Int32)).toNatClampNeg (((((p2.toInt64 <<< ((32 : Int32).toInt64 &&& 63)) ||| (p3.toInt64 &&& (4294967295 : Int64))).toUInt64 >>> ((16 : Int32).toInt64.toUInt64 &&& Int64.toUInt64 63)).toInt64).toInt32 &&& (255 : Int32))) 219 (p1 + (3 : Int32)).toNatClampNeg (((((p2.toInt64 <<< ((32 : Int32).toInt64 &&& 63)) ||| (p3.toInt64 &&& (4294967295 : Int64))).toUInt64 >>> ((24 : Int32).toInt64.toUInt64 &&& Int64.toUInt64 63)).toInt64).toInt32 &&& (255 : Int32))) 219 (p1 + (4 : Int32)).toNatClampNeg (((((p2.toInt64 <<< ((32 : Int32).toInt64 &&& 63)) ||| (p3.toInt64 &&& (4294967295 : Int64))).toUInt64 >>> ((32 : Int32).toInt64.toUInt64 &&& Int64.toUInt64 63)).toInt64).toInt32 &&& (255 : Int32))) 219 (p1 + (5 : Int32)).toNatClampNeg (((((p2.toInt64 <<< ((32 : Int32).toInt64 &&& 63)) ||| (p3.toInt64 &&& (4294967295 : Int64))).toUInt64 >>> ((40 : Int32).toInt64.toUInt64 &&& Int64.toUInt64 63)).toInt64).toInt32 &&& (255 : Int32))) 219 (p1 + (6 : Int32)).toNatClampNeg (((((p2.toInt64 <<< ((32 : Int32).toInt64 &&& 63)) ||| (p3.toInt64 &&& (4294967295 : Int64))).toUInt64 >>> ((48 : Int32).toInt64.toUInt64 &&& Int64.toUInt64 63)).toInt64).toInt32 &&& (255 : Int32))) 219 (p1 + (7 : Int32)).toNatClampNeg (((((p2.toInt64 <<< ((32 : Int32).toInt64 &&& 63)) ||| (p3.toInt64 &&& (4294967295 : Int64))).toUInt64 >>> ((56 : Int32).toInt64.toUInt64 &&& Int64.toUInt64 63)).toInt64).toInt32 &&& (255 : Int32))) jx_L0 (jx_R 227)) 227 1572950 _
  refine jv_Ev.steps jv_i350 1 (pc' := 1) (l' := [(0, .ref 178)]) (st' := [.ref 178]) rfl ?_
  refine jv_Ev.m jv_i350 (pc' := 4) (st' := [.int (0 : Int32)]) rfl rfl (jv_m_getI rfl rfl rfl rfl) ?_
  exact jv_Ev.ret jv_i350 rfl rfl

set_option maxRecDepth 100000 in
/-- the law: case 10, one way -/
theorem jx_l15 (p0 : Int32) (p1 : Int32) (p2 : Int32) (p3 : Int32) (p4 : Int32) (p5 : Int32) (g1 : (p1 - p1 / (8 : Int32) * (8 : Int32)) = (0 : Int32)) (g2 : ¬ p1 < (16 : Int32)) (g3 : ¬ (56 : Int32) < p1) (hsw : p0 &&& (31 : Int32) = (10 : Int32)) {p : Program} {l : Launch} {e : Env} {R : Room} {s : State} {m : MethodId} {args : Array Value} {below : List Frame} {meth : Method} {c : Code} {E : jv_Env} {Q : State → Prop} (hTb : jv_TOk jv_Tb) (hT2 : jx_T2Ok) (hl : l.stackTraces = false) (F : jx_F jv_T2 439 E p R s m args meth c) (hZ : jx_Z E s) (hRc : R.cells = 600002) (hRs : R.slots = 7302232) {bb : Nat} {xs : Nat → Int32} (hX : va_X bb 6 xs s E.2.2.2.2) (hbB : bb < E.2.2.2.1) (hE2 : E.1 1000002 = bb) (hQ : ∀ (l0 : jv_L) (G : jv_G) (n sl : Nat), n ≤ 600002 → sl ≤ 7302232 → jw p l e R s m args below meth c E 8 0 0 Q 1532 l0 [.int (1 : Int32)] G n sl) (q0 : xs 0 = p0) (q1 : xs 1 = p1) (q2 : xs 2 = p2) (q3 : xs 3 = p3) (q4 : xs 4 = p4) (q5 : xs 5 = p5) : jw p l e R s m args below meth c E 8 0 0 Q 33 [(0, .ref 1000002), (1, .ref 0), (2, .ref 178), (3, .ref 226), (4, .int (0 : Int32))] [] (jv_H (jx_K 227) jx_If jx_L0 (jx_R 227)) 227 1572950 := by
  refine jw.steps F jx_i439 2 (pc' := 36) (l' := [(0, .ref 1000002), (1, .ref 0), (2, .ref 178), (3, .ref 226), (4, .int (0 : Int32))]) (st' := [.int (0 : Int32), .ref 1000002]) rfl ?_
  refine jw.sld F jx_i439 hX hbB hE2 (pc' := 37) rfl rfl (show vp_in (nI 0) 6 from vp_in_nI (by decide) (by decide)) q0 rfl ?_
  refine jw.steps F jx_i439 2 (pc' := 40) (l' := [(0, .ref 1000002), (1, .ref 0), (2, .ref 178), (3, .ref 226), (4, .int (0 : Int32))]) (st' := [.int (p0 &&& (31 : Int32))]) rfl ?_
  refine jw.br F jx_i439 (pc' := 592) (st' := []) rfl (by rw [hsw]; rfl) ?_
  refine jw.steps F jx_i439 5 (pc' := 598) (l' := [(0, .ref 1000002), (1, .ref 0), (2, .ref 178), (3, .ref 226), (4, .int (0 : Int32))]) (st' := [.int (1 : Int32), .ref 1000002, .ref 0]) rfl ?_
  refine jw.sld F jx_i439 hX hbB hE2 (pc' := 599) rfl rfl (show vp_in (nI 1) 6 from vp_in_nI (by decide) (by decide)) q1 rfl ?_
  refine jw.steps F jx_i439 4 (pc' := 604) (l' := [(0, .ref 1000002), (1, .ref 0), (2, .ref 178), (3, .ref 226), (4, .int (0 : Int32))]) (st' := [.int (2 : Int32), .ref 1000002, .int p1, .ref 0]) rfl ?_
  refine jw.sld F jx_i439 hX hbB hE2 (pc' := 605) rfl rfl (show vp_in (nI 2) 6 from vp_in_nI (by decide) (by decide)) q2 rfl ?_
  refine jw.steps F jx_i439 7 (pc' := 614) (l' := [(0, .ref 1000002), (1, .ref 0), (2, .ref 178), (3, .ref 226), (4, .int (0 : Int32))]) (st' := [.int (3 : Int32), .ref 1000002, .long (p2.toInt64 <<< ((32 : Int32).toInt64 &&& 63)), .int p1, .ref 0]) rfl ?_
  refine jw.sld F jx_i439 hX hbB hE2 (pc' := 615) rfl rfl (show vp_in (nI 3) 6 from vp_in_nI (by decide) (by decide)) q3 rfl ?_
  refine jw.steps F jx_i439 4 (pc' := 621) (l' := [(0, .ref 1000002), (1, .ref 0), (2, .ref 178), (3, .ref 226), (4, .int (0 : Int32))]) (st' := [.long ((p2.toInt64 <<< ((32 : Int32).toInt64 &&& 63)) ||| (p3.toInt64 &&& (4294967295 : Int64))), .int p1, .ref 0]) rfl ?_
  refine jw.wr F hl hZ rfl jx_i439 jx_i446 [.ref 0, .int p1, .long ((p2.toInt64 <<< ((32 : Int32).toInt64 &&& 63)) ||| (p3.toInt64 &&& (4294967295 : Int64)))] (pc' := 624) (S' := [.int (0 : Int32)]) rfl (List.mem_of_getElem? (i := 6) rfl) (List.mem_of_getElem? (i := 6) rfl) rfl rfl rfl (jx_w59 hTb hT2 p0 p1 p2 p3 p4 p5 g1 g2 g3) (by omega) (by omega) (by omega) (by omega) rfl rfl ?_
  refine jw.steps F jx_i439 6 (pc' := 632) (l' := [(5, .int (0 : Int32)), (0, .ref 1000002), (1, .ref 0), (2, .ref 178), (3, .ref 226), (4, .int (0 : Int32))]) (st' := [.int (1 : Int32), .ref 1000002, .ref 178]) rfl ?_
  refine jw.sld F jx_i439 hX hbB hE2 (pc' := 633) rfl rfl (show vp_in (nI 1) 6 from vp_in_nI (by decide) (by decide)) q1 rfl ?_
  refine jw.steps F jx_i439 4 (pc' := 638) (l' := [(5, .int (0 : Int32)), (0, .ref 1000002), (1, .ref 0), (2, .ref 178), (3, .ref 226), (4, .int (0 : Int32))]) (st' := [.int (2 : Int32), .ref 1000002, .int p1, .ref 178]) rfl ?_
  refine jw.sld F jx_i439 hX hbB hE2 (pc' := 639) rfl rfl (show vp_in (nI 2) 6 from vp_in_nI (by decide) (by decide)) q2 rfl ?_
  refine jw.steps F jx_i439 7 (pc' := 648) (l' := [(5, .int (0 : Int32)), (0, .ref 1000002), (1, .ref 0), (2, .ref 178), (3, .ref 226), (4, .int (0 : Int32))]) (st' := [.int (3 : Int32), .ref 1000002, .long (p2.toInt64 <<< ((32 : Int32).toInt64 &&& 63)), .int p1, .ref 178]) rfl ?_
  refine jw.sld F jx_i439 hX hbB hE2 (pc' := 649) rfl rfl (show vp_in (nI 3) 6 from vp_in_nI (by decide) (by decide)) q3 rfl ?_
  refine jw.steps F jx_i439 4 (pc' := 655) (l' := [(5, .int (0 : Int32)), (0, .ref 1000002), (1, .ref 0), (2, .ref 178), (3, .ref 226), (4, .int (0 : Int32))]) (st' := [.long ((p2.toInt64 <<< ((32 : Int32).toInt64 &&& 63)) ||| (p3.toInt64 &&& (4294967295 : Int64))), .int p1, .ref 178]) rfl ?_
  refine jw.ca hTb F jx_i439 (pc' := 658) (S' := []) rfl jv_i362 [.ref 178, .int p1, .long ((p2.toInt64 <<< ((32 : Int32).toInt64 &&& 63)) ||| (p3.toInt64 &&& (4294967295 : Int64)))] rfl rfl rfl rfl (jx_cal2 rfl (jv_H_at rfl) rfl rfl) rfl (jx_e61 p0 p1 p2 p3 p4 p5 g1 g2 g3) (by omega) (by omega) rfl rfl ?_
  refine jw.steps F jx_i439 1 (pc' := 659) (l' := [(5, .int (0 : Int32)), (0, .ref 1000002), (1, .ref 0), (2, .ref 178), (3, .ref 226), (4, .int (0 : Int32))]) (st' := [.ref 178]) rfl ?_
  refine jw.ca hTb F jx_i439 (pc' := 662) (S' := [.int (0 : Int32)]) rfl jv_i350 [.ref 178] rfl rfl rfl rfl (jx_cal2 rfl (jv_H_at rfl) rfl rfl) rfl (jx_e62 p0 p1 p2 p3 p4 p5 g1 g2 g3) (by omega) (by omega) rfl rfl ?_
  refine jw.steps F jx_i439 1 (pc' := 664) (l' := [(5, .int (0 : Int32)), (0, .ref 1000002), (1, .ref 0), (2, .ref 178), (3, .ref 226), (4, .int (0 : Int32))]) (st' := [.int (0 : Int32), .int (0 : Int32)]) rfl ?_
  refine jw.br F jx_i439 (pc' := 669) (st' := []) rfl (jv_bc_eq.trans (jx_got (by decide))) ?_
  refine jw.steps F jx_i439 5 (pc' := 26) (l' := [(4, .int (6 : Int32)), (5, .int (0 : Int32)), (0, .ref 1000002), (1, .ref 0), (2, .ref 178), (3, .ref 226)]) (st' := [.ref 1000002, .int (6 : Int32)]) rfl ?_
  refine jw.slen F jx_i439 hX hbB hE2 (pc' := 27) rfl rfl rfl ?_
  refine jw.steps F jx_i439 2 (pc' := 30) (l' := [(4, .int (6 : Int32)), (5, .int (0 : Int32)), (0, .ref 1000002), (1, .ref 0), (2, .ref 178), (3, .ref 226)]) (st' := [.int (0 : Int32), .int (6 : Int32)]) rfl ?_
  refine jw.br F jx_i439 (pc' := 1531) (st' := []) rfl (jv_bc_gt.trans (jx_got (by decide))) ?_
  refine jw.steps F jx_i439 1 (pc' := 1532) (l' := [(4, .int (6 : Int32)), (5, .int (0 : Int32)), (0, .ref 1000002), (1, .ref 0), (2, .ref 178), (3, .ref 226)]) (st' := [.int (1 : Int32)]) rfl ?_
  exact hQ _ _ _ _ (by omega) (by omega)

set_option maxRecDepth 100000 in
/-- ProgramBox.testContext: it throws -/
theorem jx_e63 (hTb : jv_TOk jv_Tb) (p0 : Int32) (p1 : Int32) (p2 : Int32) (p3 : Int32) (p4 : Int32) (p5 : Int32) (g1 : ¬ (p1 - p1 / (8 : Int32) * (8 : Int32)) = (0 : Int32)) : jx_Th 426 [.int p1] (jv_H (jx_K 227) jx_If jx_L0 (jx_R 227)) 227 1572950 1 (jv_H (jx_K 227) jx_If jx_L0 (jx_R 227)) 228 1572956 := by
  refine jx_Th.of hTb (y := 426) rfl (Nat.le_of_ble_eq_true rfl) ?_
  intro p l e R s m args below meth c E hl F hZ h0 ht hRc hRs
  show jw p l e R s m args below meth c E 1 227 1572950 _ 0 [(0, .int p1)] [] (jv_H (jx_K 227) jx_If jx_L0 (jx_R 227)) 227 1572950
  refine jw.steps F jv_i426 2 (pc' := 3) (l' := [(0, .int p1)]) (st' := [.int (8 : Int32), .int p1]) rfl ?_
  refine jw.op F jv_i426 (pc' := 4) (l' := [(0, .int p1)]) (st' := [.int (p1 - p1 / (8 : Int32) * (8 : Int32))]) rfl (jv_op_irem (by decide)) ?_
  refine jw.br F jv_i426 (pc' := 7) (st' := []) rfl (jv_bi_eq.trans (jx_gof g1)) ?_
  exact jw.throw hl F hZ h0 rfl jv_i426 ht 1 143 "eight does not divide it" (List.mem_of_getElem? (i := 7) rfl) (by decide +kernel) (by decide +kernel) (by decide +kernel) (by decide +kernel) (by decide +kernel) rfl (by decide) (by decide) (by decide) (by omega) (by omega)

set_option maxRecDepth 100000 in
/-- ProgramBox.context: it throws -/
theorem jx_e64 (hTb : jv_TOk jv_Tb) (p0 : Int32) (p1 : Int32) (p2 : Int32) (p3 : Int32) (p4 : Int32) (p5 : Int32) (g1 : ¬ (p1 - p1 / (8 : Int32) * (8 : Int32)) = (0 : Int32)) : jx_Th 424 [.ref 0, .int p1, .long ((p2.toInt64 <<< ((32 : Int32).toInt64 &&& 63)) ||| (p3.toInt64 &&& (4294967295 : Int64)))] (jv_H (jx_K 227) jx_If jx_L0 (jx_R 227)) 227 1572950 1 (jv_H (jx_K 227) jx_If jx_L0 (jx_R 227)) 228 1572956 := by
  refine jx_Th.of hTb (y := 424) rfl (Nat.le_of_ble_eq_true rfl) ?_
  intro p l e R s m args below meth c E hl F hZ h0 ht hRc hRs
  show jw p l e R s m args below meth c E 4 227 1572950 _ 0 [(0, .ref 0), (1, .int p1), (2, .long ((p2.toInt64 <<< ((32 : Int32).toInt64 &&& 63)) ||| (p3.toInt64 &&& (4294967295 : Int64))))] [] (jv_H (jx_K 227) jx_If jx_L0 (jx_R 227)) 227 1572950
  refine jw.steps F jv_i424 1 (pc' := 1) (l' := [(0, .ref 0), (1, .int p1), (2, .long ((p2.toInt64 <<< ((32 : Int32).toInt64 &&& 63)) ||| (p3.toInt64 &&& (4294967295 : Int64))))]) (st' := [.int p1]) rfl ?_
  exact jw.prop hTb hl F hZ jv_i424 ht rfl jv_i426 [.int p1] rfl rfl rfl rfl rfl rfl rfl (jx_e63 hTb p0 p1 p2 p3 p4 p5 g1) (by omega) (by omega) (by omega) (by omega)

set_option maxRecDepth 100000 in
/-- the law's context -/
theorem jx_w65 (hTb : jv_TOk jv_Tb) (hT2 : jx_T2Ok) (p0 : Int32) (p1 : Int32) (p2 : Int32) (p3 : Int32) (p4 : Int32) (p5 : Int32) (g1 : ¬ (p1 - p1 / (8 : Int32) * (8 : Int32)) = (0 : Int32)) : jx_Wr 446 [(0, 6, 9, 36), (0, 6, 13, 19)] [.ref 0, .int p1, .long ((p2.toInt64 <<< ((32 : Int32).toInt64 &&& 63)) ||| (p3.toInt64 &&& (4294967295 : Int64)))] (jv_H (jx_K 227) jx_If jx_L0 (jx_R 227)) 227 1572950 (some (.int (2 : Int32)), (jv_H (jx_K 227) jx_If jx_L0 (jx_R 227)), 228, 1572956) := by
  refine jx_Wr.of hT2 (by decide) rfl (Nat.le_of_ble_eq_true rfl) ?_
  intro p l e R s m args below meth c E hl F hZ htb hRc hRs
  show jw p l e R s m args below meth c E 5 227 1572950 _ 0 [(0, .ref 0), (1, .int p1), (2, .long ((p2.toInt64 <<< ((32 : Int32).toInt64 &&& 63)) ||| (p3.toInt64 &&& (4294967295 : Int64))))] [] (jv_H (jx_K 227) jx_If jx_L0 (jx_R 227)) 227 1572950
  have hRc : R.cells = 228 - 227 := hRc
  have hRs : R.slots = 1572956 - 1572950 := hRs
  refine jw.steps F jx_i446 3 (pc' := 3) (l' := [(0, .ref 0), (1, .int p1), (2, .long ((p2.toInt64 <<< ((32 : Int32).toInt64 &&& 63)) ||| (p3.toInt64 &&& (4294967295 : Int64))))]) (st' := [.long ((p2.toInt64 <<< ((32 : Int32).toInt64 &&& 63)) ||| (p3.toInt64 &&& (4294967295 : Int64))), .int p1, .ref 0]) rfl ?_
  refine jw.cat hTb hl F hZ rfl jx_i446 htb rfl jv_i424 [.ref 0, .int p1, .long ((p2.toInt64 <<< ((32 : Int32).toInt64 &&& 63)) ||| (p3.toInt64 &&& (4294967295 : Int64)))] rfl rfl rfl rfl rfl (jx_cal2 rfl (jv_H_at rfl) rfl rfl) rfl (jx_e64 hTb p0 p1 p2 p3 p4 p5 g1) (by omega) (by omega) (by omega) (by omega) [(0, 6, 9, 36)] (0, 6, 13, 19) [] rfl (List.forall_mem_cons.mpr ⟨⟨2, rfl, by decide⟩, fun z h => absurd h List.not_mem_nil⟩) (by decide) rfl rfl (Or.inl ⟨rfl, rfl⟩) (by decide) ?_
  refine jw.steps F jx_i446 1 (pc' := 16) (l' := []) (st' := [.int (2 : Int32)]) rfl ?_
  exact jw.ret F jx_i446 rfl rfl

set_option maxRecDepth 100000 in
/-- ProgramBoxModel.noField -/
theorem jx_e66 (p0 : Int32) (p1 : Int32) (p2 : Int32) (p3 : Int32) (p4 : Int32) (p5 : Int32) (g1 : ¬ (p1 - p1 / (8 : Int32) * (8 : Int32)) = (0 : Int32)) : jv_Ms 361 [.ref 178, .int p1] (jv_H (jx_K 227) jx_If jx_L0 (jx_R 227)) 228 1572956 (some (.int (1 : Int32)), (jv_H (jx_K 227) (jv_u jx_If 178 0 (2 : Int32)) jx_L0 (jx_R 227)), 228, 1572956) := by
  show jv_Ev 361 0 [(0, .ref 178), (1, .int p1)] [] (jv_H (jx_K 227) jx_If jx_L0 (jx_R 227)) 228 1572956 _
  refine jv_Ev.steps jv_i361 3 (pc' := 4) (l' := [(0, .ref 178), (1, .int p1)]) (st' := [.int (8 : Int32), .int p1, .ref 178]) rfl ?_
  refine jv_Ev.op jv_i361 (pc' := 5) (l' := [(0, .ref 178), (1, .int p1)]) (st' := [.int (p1 - p1 / (8 : Int32) * (8 : Int32)), .ref 178]) rfl (jv_op_irem (by decide)) ?_
  refine jv_Ev.br jv_i361 (pc' := 8) (st' := [.ref 178]) rfl (jv_bi_eq.trans (jx_gof g1)) ?_
  refine jv_Ev.steps jv_i361 2 (pc' := 29) (l' := [(0, .ref 178), (1, .int p1)]) (st' := [.int (2 : Int32), .ref 178]) rfl ?_
  refine jv_Ev.m jv_i361 (pc' := 32) (st' := []) rfl rfl (jv_m_putI rfl rfl rfl rfl rfl) ?_
  refine jv_Ev.steps jv_i361 1 (pc' := 33) (l' := [(0, .ref 178), (1, .int p1)]) (st' := [.ref 178]) rfl ?_
  refine jv_Ev.m jv_i361 (pc' := 36) (st' := [.int (2 : Int32)]) rfl rfl (jv_m_getI rfl rfl rfl rfl) ?_
  refine jv_Ev.br jv_i361 (pc' := 39) (st' := []) rfl (jv_bi_le.trans (jx_gof (by decide))) ?_
  refine jv_Ev.steps jv_i361 2 (pc' := 44) (l' := [(0, .ref 178), (1, .int p1)]) (st' := [.int (1 : Int32)]) rfl ?_
  exact jv_Ev.ret jv_i361 rfl (jv_ret_b (by decide))

set_option maxRecDepth 100000 in
/-- ProgramBoxModel.context -/
theorem jx_e67 (p0 : Int32) (p1 : Int32) (p2 : Int32) (p3 : Int32) (p4 : Int32) (p5 : Int32) (g1 : ¬ (p1 - p1 / (8 : Int32) * (8 : Int32)) = (0 : Int32)) : jv_Ms 362 [.ref 178, .int p1, .long ((p2.toInt64 <<< ((32 : Int32).toInt64 &&& 63)) ||| (p3.toInt64 &&& (4294967295 : Int64)))] (jv_H (jx_K 227) jx_If jx_L0 (jx_R 227)) 228 1572956 (none, (jv_H (jx_K 227) (jv_u jx_If 178 0 (2 : Int32)) jx_L0 (jx_R 227)), 228, 1572956) := by
  show jv_Ev 362 0 [(0, .ref 178), (1, .int p1), (2, .long ((p2.toInt64 <<< ((32 : Int32).toInt64 &&& 63)) ||| (p3.toInt64 &&& (4294967295 : Int64))))] [] (jv_H (jx_K 227) jx_If jx_L0 (jx_R 227)) 228 1572956 _
  refine jv_Ev.steps jv_i362 2 (pc' := 2) (l' := [(0, .ref 178), (1, .int p1), (2, .long ((p2.toInt64 <<< ((32 : Int32).toInt64 &&& 63)) ||| (p3.toInt64 &&& (4294967295 : Int64))))]) (st' := [.int p1, .ref 178]) rfl ?_
  refine jv_Ev.c jv_i362 (pc' := 5) (S' := [.int (1 : Int32)]) jv_i361 [.ref 178, .int p1] rfl rfl rfl rfl (jv_cal rfl (jv_H_at rfl) rfl rfl) rfl (jx_e66 p0 p1 p2 p3 p4 p5 g1) rfl rfl ?_
  refine jv_Ev.br jv_i362 (pc' := 45) (st' := []) rfl (jv_bi_ne.trans (jx_got (by decide))) ?_
  exact jv_Ev.ret jv_i362 rfl rfl

set_option maxRecDepth 100000 in
/-- ProgramBoxModel.thrown -/
theorem jx_e68 (p0 : Int32) (p1 : Int32) (p2 : Int32) (p3 : Int32) (p4 : Int32) (p5 : Int32) (g1 : ¬ (p1 - p1 / (8 : Int32) * (8 : Int32)) = (0 : Int32)) : jv_Ms 350 [.ref 178] (jv_H (jx_K 227) (jv_u jx_If 178 0 (2 : Int32)) jx_L0 (jx_R 227)) 228 1572956 (some (.int (2 : Int32)), (jv_H (jx_K 227) (jv_u jx_If 178 0 (2 : Int32)) jx_L0 (jx_R 227)), 228, 1572956) := by
  show jv_Ev 350 0 [(0, .ref 178)] [] (jv_H (jx_K 227) (jv_u jx_If 178 0 (2 : Int32)) jx_L0 (jx_R 227)) 228 1572956 _
  refine jv_Ev.steps jv_i350 1 (pc' := 1) (l' := [(0, .ref 178)]) (st' := [.ref 178]) rfl ?_
  refine jv_Ev.m jv_i350 (pc' := 4) (st' := [.int (2 : Int32)]) rfl rfl (jv_m_getI rfl rfl rfl rfl) ?_
  exact jv_Ev.ret jv_i350 rfl rfl

set_option maxRecDepth 100000 in
/-- the law: case 10, one way -/
theorem jx_l16 (p0 : Int32) (p1 : Int32) (p2 : Int32) (p3 : Int32) (p4 : Int32) (p5 : Int32) (g1 : ¬ (p1 - p1 / (8 : Int32) * (8 : Int32)) = (0 : Int32)) (hsw : p0 &&& (31 : Int32) = (10 : Int32)) {p : Program} {l : Launch} {e : Env} {R : Room} {s : State} {m : MethodId} {args : Array Value} {below : List Frame} {meth : Method} {c : Code} {E : jv_Env} {Q : State → Prop} (hTb : jv_TOk jv_Tb) (hT2 : jx_T2Ok) (hl : l.stackTraces = false) (F : jx_F jv_T2 439 E p R s m args meth c) (hZ : jx_Z E s) (hRc : R.cells = 600002) (hRs : R.slots = 7302232) {bb : Nat} {xs : Nat → Int32} (hX : va_X bb 6 xs s E.2.2.2.2) (hbB : bb < E.2.2.2.1) (hE2 : E.1 1000002 = bb) (hQ : ∀ (l0 : jv_L) (G : jv_G) (n sl : Nat), n ≤ 600002 → sl ≤ 7302232 → jw p l e R s m args below meth c E 8 0 0 Q 1532 l0 [.int (1 : Int32)] G n sl) (q0 : xs 0 = p0) (q1 : xs 1 = p1) (q2 : xs 2 = p2) (q3 : xs 3 = p3) (q4 : xs 4 = p4) (q5 : xs 5 = p5) : jw p l e R s m args below meth c E 8 0 0 Q 33 [(0, .ref 1000002), (1, .ref 0), (2, .ref 178), (3, .ref 226), (4, .int (0 : Int32))] [] (jv_H (jx_K 227) jx_If jx_L0 (jx_R 227)) 227 1572950 := by
  refine jw.steps F jx_i439 2 (pc' := 36) (l' := [(0, .ref 1000002), (1, .ref 0), (2, .ref 178), (3, .ref 226), (4, .int (0 : Int32))]) (st' := [.int (0 : Int32), .ref 1000002]) rfl ?_
  refine jw.sld F jx_i439 hX hbB hE2 (pc' := 37) rfl rfl (show vp_in (nI 0) 6 from vp_in_nI (by decide) (by decide)) q0 rfl ?_
  refine jw.steps F jx_i439 2 (pc' := 40) (l' := [(0, .ref 1000002), (1, .ref 0), (2, .ref 178), (3, .ref 226), (4, .int (0 : Int32))]) (st' := [.int (p0 &&& (31 : Int32))]) rfl ?_
  refine jw.br F jx_i439 (pc' := 592) (st' := []) rfl (by rw [hsw]; rfl) ?_
  refine jw.steps F jx_i439 5 (pc' := 598) (l' := [(0, .ref 1000002), (1, .ref 0), (2, .ref 178), (3, .ref 226), (4, .int (0 : Int32))]) (st' := [.int (1 : Int32), .ref 1000002, .ref 0]) rfl ?_
  refine jw.sld F jx_i439 hX hbB hE2 (pc' := 599) rfl rfl (show vp_in (nI 1) 6 from vp_in_nI (by decide) (by decide)) q1 rfl ?_
  refine jw.steps F jx_i439 4 (pc' := 604) (l' := [(0, .ref 1000002), (1, .ref 0), (2, .ref 178), (3, .ref 226), (4, .int (0 : Int32))]) (st' := [.int (2 : Int32), .ref 1000002, .int p1, .ref 0]) rfl ?_
  refine jw.sld F jx_i439 hX hbB hE2 (pc' := 605) rfl rfl (show vp_in (nI 2) 6 from vp_in_nI (by decide) (by decide)) q2 rfl ?_
  refine jw.steps F jx_i439 7 (pc' := 614) (l' := [(0, .ref 1000002), (1, .ref 0), (2, .ref 178), (3, .ref 226), (4, .int (0 : Int32))]) (st' := [.int (3 : Int32), .ref 1000002, .long (p2.toInt64 <<< ((32 : Int32).toInt64 &&& 63)), .int p1, .ref 0]) rfl ?_
  refine jw.sld F jx_i439 hX hbB hE2 (pc' := 615) rfl rfl (show vp_in (nI 3) 6 from vp_in_nI (by decide) (by decide)) q3 rfl ?_
  refine jw.steps F jx_i439 4 (pc' := 621) (l' := [(0, .ref 1000002), (1, .ref 0), (2, .ref 178), (3, .ref 226), (4, .int (0 : Int32))]) (st' := [.long ((p2.toInt64 <<< ((32 : Int32).toInt64 &&& 63)) ||| (p3.toInt64 &&& (4294967295 : Int64))), .int p1, .ref 0]) rfl ?_
  refine jw.wr F hl hZ rfl jx_i439 jx_i446 [.ref 0, .int p1, .long ((p2.toInt64 <<< ((32 : Int32).toInt64 &&& 63)) ||| (p3.toInt64 &&& (4294967295 : Int64)))] (pc' := 624) (S' := [.int (2 : Int32)]) rfl (List.mem_of_getElem? (i := 6) rfl) (List.mem_of_getElem? (i := 6) rfl) rfl rfl rfl (jx_w65 hTb hT2 p0 p1 p2 p3 p4 p5 g1) (by omega) (by omega) (by omega) (by omega) rfl rfl ?_
  refine jw.steps F jx_i439 6 (pc' := 632) (l' := [(5, .int (2 : Int32)), (0, .ref 1000002), (1, .ref 0), (2, .ref 178), (3, .ref 226), (4, .int (0 : Int32))]) (st' := [.int (1 : Int32), .ref 1000002, .ref 178]) rfl ?_
  refine jw.sld F jx_i439 hX hbB hE2 (pc' := 633) rfl rfl (show vp_in (nI 1) 6 from vp_in_nI (by decide) (by decide)) q1 rfl ?_
  refine jw.steps F jx_i439 4 (pc' := 638) (l' := [(5, .int (2 : Int32)), (0, .ref 1000002), (1, .ref 0), (2, .ref 178), (3, .ref 226), (4, .int (0 : Int32))]) (st' := [.int (2 : Int32), .ref 1000002, .int p1, .ref 178]) rfl ?_
  refine jw.sld F jx_i439 hX hbB hE2 (pc' := 639) rfl rfl (show vp_in (nI 2) 6 from vp_in_nI (by decide) (by decide)) q2 rfl ?_
  refine jw.steps F jx_i439 7 (pc' := 648) (l' := [(5, .int (2 : Int32)), (0, .ref 1000002), (1, .ref 0), (2, .ref 178), (3, .ref 226), (4, .int (0 : Int32))]) (st' := [.int (3 : Int32), .ref 1000002, .long (p2.toInt64 <<< ((32 : Int32).toInt64 &&& 63)), .int p1, .ref 178]) rfl ?_
  refine jw.sld F jx_i439 hX hbB hE2 (pc' := 649) rfl rfl (show vp_in (nI 3) 6 from vp_in_nI (by decide) (by decide)) q3 rfl ?_
  refine jw.steps F jx_i439 4 (pc' := 655) (l' := [(5, .int (2 : Int32)), (0, .ref 1000002), (1, .ref 0), (2, .ref 178), (3, .ref 226), (4, .int (0 : Int32))]) (st' := [.long ((p2.toInt64 <<< ((32 : Int32).toInt64 &&& 63)) ||| (p3.toInt64 &&& (4294967295 : Int64))), .int p1, .ref 178]) rfl ?_
  refine jw.ca hTb F jx_i439 (pc' := 658) (S' := []) rfl jv_i362 [.ref 178, .int p1, .long ((p2.toInt64 <<< ((32 : Int32).toInt64 &&& 63)) ||| (p3.toInt64 &&& (4294967295 : Int64)))] rfl rfl rfl rfl (jx_cal2 rfl (jv_H_at rfl) rfl rfl) rfl (jx_e67 p0 p1 p2 p3 p4 p5 g1) (by omega) (by omega) rfl rfl ?_
  refine jw.steps F jx_i439 1 (pc' := 659) (l' := [(5, .int (2 : Int32)), (0, .ref 1000002), (1, .ref 0), (2, .ref 178), (3, .ref 226), (4, .int (0 : Int32))]) (st' := [.ref 178]) rfl ?_
  refine jw.ca hTb F jx_i439 (pc' := 662) (S' := [.int (2 : Int32)]) rfl jv_i350 [.ref 178] rfl rfl rfl rfl (jx_cal2 rfl (jv_H_at rfl) rfl rfl) rfl (jx_e68 p0 p1 p2 p3 p4 p5 g1) (by omega) (by omega) rfl rfl ?_
  refine jw.steps F jx_i439 1 (pc' := 664) (l' := [(5, .int (2 : Int32)), (0, .ref 1000002), (1, .ref 0), (2, .ref 178), (3, .ref 226), (4, .int (0 : Int32))]) (st' := [.int (2 : Int32), .int (2 : Int32)]) rfl ?_
  refine jw.br F jx_i439 (pc' := 669) (st' := []) rfl (jv_bc_eq.trans (jx_got (by decide))) ?_
  refine jw.steps F jx_i439 5 (pc' := 26) (l' := [(4, .int (6 : Int32)), (5, .int (2 : Int32)), (0, .ref 1000002), (1, .ref 0), (2, .ref 178), (3, .ref 226)]) (st' := [.ref 1000002, .int (6 : Int32)]) rfl ?_
  refine jw.slen F jx_i439 hX hbB hE2 (pc' := 27) rfl rfl rfl ?_
  refine jw.steps F jx_i439 2 (pc' := 30) (l' := [(4, .int (6 : Int32)), (5, .int (2 : Int32)), (0, .ref 1000002), (1, .ref 0), (2, .ref 178), (3, .ref 226)]) (st' := [.int (0 : Int32), .int (6 : Int32)]) rfl ?_
  refine jw.br F jx_i439 (pc' := 1531) (st' := []) rfl (jv_bc_gt.trans (jx_got (by decide))) ?_
  refine jw.steps F jx_i439 1 (pc' := 1532) (l' := [(4, .int (6 : Int32)), (5, .int (2 : Int32)), (0, .ref 1000002), (1, .ref 0), (2, .ref 178), (3, .ref 226)]) (st' := [.int (1 : Int32)]) rfl ?_
  exact hQ _ _ _ _ (by omega) (by omega)

set_option maxRecDepth 100000 in
/-- the law: case 10 -/
theorem jx_case10 (p0 : Int32) (p1 : Int32) (p2 : Int32) (p3 : Int32) (p4 : Int32) (p5 : Int32) (hsw : p0 &&& (31 : Int32) = (10 : Int32)) {p : Program} {l : Launch} {e : Env} {R : Room} {s : State} {m : MethodId} {args : Array Value} {below : List Frame} {meth : Method} {c : Code} {E : jv_Env} {Q : State → Prop} (hTb : jv_TOk jv_Tb) (hT2 : jx_T2Ok) (hl : l.stackTraces = false) (F : jx_F jv_T2 439 E p R s m args meth c) (hZ : jx_Z E s) (hRc : R.cells = 600002) (hRs : R.slots = 7302232) {bb : Nat} {xs : Nat → Int32} (hX : va_X bb 6 xs s E.2.2.2.2) (hbB : bb < E.2.2.2.1) (hE2 : E.1 1000002 = bb) (hQ : ∀ (l0 : jv_L) (G : jv_G) (n sl : Nat), n ≤ 600002 → sl ≤ 7302232 → jw p l e R s m args below meth c E 8 0 0 Q 1532 l0 [.int (1 : Int32)] G n sl) (q0 : xs 0 = p0) (q1 : xs 1 = p1) (q2 : xs 2 = p2) (q3 : xs 3 = p3) (q4 : xs 4 = p4) (q5 : xs 5 = p5) : jw p l e R s m args below meth c E 8 0 0 Q 33 [(0, .ref 1000002), (1, .ref 0), (2, .ref 178), (3, .ref 226), (4, .int (0 : Int32))] [] (jv_H (jx_K 227) jx_If jx_L0 (jx_R 227)) 227 1572950 := by
  by_cases g1 : (p1 - p1 / (8 : Int32) * (8 : Int32)) = (0 : Int32)
  · by_cases g2 : p1 < (16 : Int32)
    · exact jx_l13 p0 p1 p2 p3 p4 p5 g1 g2 hsw hTb hT2 hl F hZ hRc hRs hX hbB hE2 hQ q0 q1 q2 q3 q4 q5
    · by_cases g3 : (56 : Int32) < p1
      · exact jx_l14 p0 p1 p2 p3 p4 p5 g1 g2 g3 hsw hTb hT2 hl F hZ hRc hRs hX hbB hE2 hQ q0 q1 q2 q3 q4 q5
      · exact jx_l15 p0 p1 p2 p3 p4 p5 g1 g2 g3 hsw hTb hT2 hl F hZ hRc hRs hX hbB hE2 hQ q0 q1 q2 q3 q4 q5
  · exact jx_l16 p0 p1 p2 p3 p4 p5 g1 hsw hTb hT2 hl F hZ hRc hRs hX hbB hE2 hQ q0 q1 q2 q3 q4 q5

set_option maxRecDepth 100000 in
theorem jx_i447 : jx_I jv_T2 447 4 (some .int) 8 131 jv_c447 := ⟨rfl, rfl, rfl, rfl, rfl⟩
set_option maxRecDepth 100000 in
theorem jv_i425 : jv_I 425 2 (some .long) 7 110 jv_c425 := ⟨rfl, rfl, rfl, rfl, rfl⟩
set_option maxRecDepth 100000 in
/-- ProgramBox.testContext: it throws -/
theorem jx_e69 (hTb : jv_TOk jv_Tb) (p0 : Int32) (p1 : Int32) (p2 : Int32) (p3 : Int32) (p4 : Int32) (p5 : Int32) (g1 : (p1 - p1 / (8 : Int32) * (8 : Int32)) = (0 : Int32)) (g2 : p1 < (16 : Int32)) : jx_Th 426 [.int p1] (jv_H (jx_K 227) jx_If jx_L0 (jx_R 227)) 227 1572950 2 (jv_H (jx_K 227) jx_If jx_L0 (jx_R 227)) 228 1572956 := by
  refine jx_Th.of hTb (y := 426) rfl (Nat.le_of_ble_eq_true rfl) ?_
  intro p l e R s m args below meth c E hl F hZ h0 ht hRc hRs
  show jw p l e R s m args below meth c E 1 227 1572950 _ 0 [(0, .int p1)] [] (jv_H (jx_K 227) jx_If jx_L0 (jx_R 227)) 227 1572950
  refine jw.steps F jv_i426 2 (pc' := 3) (l' := [(0, .int p1)]) (st' := [.int (8 : Int32), .int p1]) rfl ?_
  refine jw.op F jv_i426 (pc' := 4) (l' := [(0, .int p1)]) (st' := [.int (p1 - p1 / (8 : Int32) * (8 : Int32))]) rfl (jv_op_irem (by decide)) ?_
  refine jw.br F jv_i426 (pc' := 17) (st' := []) rfl (jv_bi_eq.trans (jx_got (by rw [g1] <;> decide))) ?_
  refine jw.steps F jv_i426 2 (pc' := 20) (l' := [(0, .int p1)]) (st' := [.int (16 : Int32), .int p1]) rfl ?_
  refine jw.br F jv_i426 (pc' := 29) (st' := []) rfl (jv_bc_lt.trans (jx_got g2)) ?_
  exact jw.throw hl F hZ h0 rfl jv_i426 ht 2 145 "the context has no such number" (List.mem_of_getElem? (i := 8) rfl) (by decide +kernel) (by decide +kernel) (by decide +kernel) (by decide +kernel) (by decide +kernel) rfl (by decide) (by decide) (by decide) (by omega) (by omega)

set_option maxRecDepth 100000 in
/-- ProgramBox.field: it throws -/
theorem jx_e70 (hTb : jv_TOk jv_Tb) (p0 : Int32) (p1 : Int32) (p2 : Int32) (p3 : Int32) (p4 : Int32) (p5 : Int32) (g1 : (p1 - p1 / (8 : Int32) * (8 : Int32)) = (0 : Int32)) (g2 : p1 < (16 : Int32)) : jx_Th 425 [.ref 0, .int p1] (jv_H (jx_K 227) jx_If jx_L0 (jx_R 227)) 227 1572950 2 (jv_H (jx_K 227) jx_If jx_L0 (jx_R 227)) 228 1572956 := by
  refine jx_Th.of hTb (y := 425) rfl (Nat.le_of_ble_eq_true rfl) ?_
  intro p l e R s m args below meth c E hl F hZ h0 ht hRc hRs
  show jw p l e R s m args below meth c E 2 227 1572950 _ 0 [(0, .ref 0), (1, .int p1)] [] (jv_H (jx_K 227) jx_If jx_L0 (jx_R 227)) 227 1572950
  refine jw.steps F jv_i425 1 (pc' := 1) (l' := [(0, .ref 0), (1, .int p1)]) (st' := [.int p1]) rfl ?_
  exact jw.prop hTb hl F hZ jv_i425 ht rfl jv_i426 [.int p1] rfl rfl rfl rfl rfl rfl rfl (jx_e69 hTb p0 p1 p2 p3 p4 p5 g1 g2) (by omega) (by omega) (by omega) (by omega)

set_option maxRecDepth 100000 in
/-- the law's field -/
theorem jx_w71 (hTb : jv_TOk jv_Tb) (hT2 : jx_T2Ok) (p0 : Int32) (p1 : Int32) (p2 : Int32) (p3 : Int32) (p4 : Int32) (p5 : Int32) (g1 : (p1 - p1 / (8 : Int32) * (8 : Int32)) = (0 : Int32)) (g2 : p1 < (16 : Int32)) : jx_Wr 447 [(0, 8, 11, 36), (0, 8, 14, 19)] [.ref 0, .int p1, .ref 226] (jv_H (jx_K 227) jx_If jx_L0 (jx_R 227)) 227 1572950 (some (.int (1 : Int32)), (jv_H (jx_K 227) jx_If jx_L0 (jx_R 227)), 228, 1572956) := by
  refine jx_Wr.of hT2 (by decide) rfl (Nat.le_of_ble_eq_true rfl) ?_
  intro p l e R s m args below meth c E hl F hZ htb hRc hRs
  show jw p l e R s m args below meth c E 4 227 1572950 _ 0 [(0, .ref 0), (1, .int p1), (2, .ref 226)] [] (jv_H (jx_K 227) jx_If jx_L0 (jx_R 227)) 227 1572950
  have hRc : R.cells = 228 - 227 := hRc
  have hRs : R.slots = 1572956 - 1572950 := hRs
  refine jw.steps F jx_i447 4 (pc' := 4) (l' := [(0, .ref 0), (1, .int p1), (2, .ref 226)]) (st' := [.int p1, .ref 0, .int (0 : Int32), .ref 226]) rfl ?_
  refine jw.cat hTb hl F hZ rfl jx_i447 htb rfl jv_i425 [.ref 0, .int p1] rfl rfl rfl rfl rfl (jx_cal2 rfl (jv_H_at rfl) rfl rfl) rfl (jx_e70 hTb p0 p1 p2 p3 p4 p5 g1 g2) (by omega) (by omega) (by omega) (by omega) [] (0, 8, 11, 36) [(0, 8, 14, 19)] rfl (fun z h => absurd h List.not_mem_nil) (by decide) rfl rfl (Or.inr ⟨3, rfl, rfl, rfl⟩) (by decide) ?_
  refine jw.steps F jx_i447 1 (pc' := 13) (l' := []) (st' := [.int (1 : Int32)]) rfl ?_
  exact jw.ret F jx_i447 rfl rfl

set_option maxRecDepth 100000 in
theorem jv_i363 : jv_I 363 5 (some .long) 1 21 jv_c363 := ⟨rfl, rfl, rfl, rfl, rfl⟩
set_option maxRecDepth 100000 in
/-- ProgramBoxModel.noField -/
theorem jx_e72 (p0 : Int32) (p1 : Int32) (p2 : Int32) (p3 : Int32) (p4 : Int32) (p5 : Int32) (g1 : (p1 - p1 / (8 : Int32) * (8 : Int32)) = (0 : Int32)) (g2 : p1 < (16 : Int32)) : jv_Ms 361 [.ref 178, .int p1] (jv_H (jx_K 227) jx_If jx_L0 (jx_R 227)) 228 1572956 (some (.int (1 : Int32)), (jv_H (jx_K 227) (jv_u jx_If 178 0 (1 : Int32)) jx_L0 (jx_R 227)), 228, 1572956) := by
  show jv_Ev 361 0 [(0, .ref 178), (1, .int p1)] [] (jv_H (jx_K 227) jx_If jx_L0 (jx_R 227)) 228 1572956 _
  refine jv_Ev.steps jv_i361 3 (pc' := 4) (l' := [(0, .ref 178), (1, .int p1)]) (st' := [.int (8 : Int32), .int p1, .ref 178]) rfl ?_
  refine jv_Ev.op jv_i361 (pc' := 5) (l' := [(0, .ref 178), (1, .int p1)]) (st' := [.int (p1 - p1 / (8 : Int32) * (8 : Int32)), .ref 178]) rfl (jv_op_irem (by decide)) ?_
  refine jv_Ev.br jv_i361 (pc' := 12) (st' := [.ref 178]) rfl (jv_bi_eq.trans (jx_got (by rw [g1] <;> decide))) ?_
  refine jv_Ev.steps jv_i361 2 (pc' := 15) (l' := [(0, .ref 178), (1, .int p1)]) (st' := [.int (16 : Int32), .int p1, .ref 178]) rfl ?_
  refine jv_Ev.br jv_i361 (pc' := 24) (st' := [.ref 178]) rfl (jv_bc_lt.trans (jx_got g2)) ?_
  refine jv_Ev.steps jv_i361 2 (pc' := 29) (l' := [(0, .ref 178), (1, .int p1)]) (st' := [.int (1 : Int32), .ref 178]) rfl ?_
  refine jv_Ev.m jv_i361 (pc' := 32) (st' := []) rfl rfl (jv_m_putI rfl rfl rfl rfl rfl) ?_
  refine jv_Ev.steps jv_i361 1 (pc' := 33) (l' := [(0, .ref 178), (1, .int p1)]) (st' := [.ref 178]) rfl ?_
  refine jv_Ev.m jv_i361 (pc' := 36) (st' := [.int (1 : Int32)]) rfl rfl (jv_m_getI rfl rfl rfl rfl) ?_
  refine jv_Ev.br jv_i361 (pc' := 39) (st' := []) rfl (jv_bi_le.trans (jx_gof (by decide))) ?_
  refine jv_Ev.steps jv_i361 2 (pc' := 44) (l' := [(0, .ref 178), (1, .int p1)]) (st' := [.int (1 : Int32)]) rfl ?_
  exact jv_Ev.ret jv_i361 rfl (jv_ret_b (by decide))

set_option maxRecDepth 100000 in
/-- ProgramBoxModel.field -/
theorem jx_e73 (p0 : Int32) (p1 : Int32) (p2 : Int32) (p3 : Int32) (p4 : Int32) (p5 : Int32) (g1 : (p1 - p1 / (8 : Int32) * (8 : Int32)) = (0 : Int32)) (g2 : p1 < (16 : Int32)) : jv_Ms 363 [.ref 178, .int p1] (jv_H (jx_K 227) jx_If jx_L0 (jx_R 227)) 228 1572956 (some (.long (0 : Int64)), (jv_H (jx_K 227) (jv_u jx_If 178 0 (1 : Int32)) jx_L0 (jx_R 227)), 228, 1572956) := by
  show jv_Ev 363 0 [(0, .ref 178), (1, .int p1)] [] (jv_H (jx_K 227) jx_If jx_L0 (jx_R 227)) 228 1572956 _
  refine jv_Ev.steps jv_i363 5 (pc' := 8) (l' := [(4, .int (7 : Int32)), (2, .long (0 : Int64)), (0, .ref 178), (1, .int p1)]) (st' := [.int (7 : Int32)]) rfl ?_
  refine jv_Ev.br jv_i363 (pc' := 11) (st' := []) rfl (jv_bi_lt.trans (jx_gof (by decide))) ?_
  refine jv_Ev.steps jv_i363 2 (pc' := 13) (l' := [(4, .int (7 : Int32)), (2, .long (0 : Int64)), (0, .ref 178), (1, .int p1)]) (st' := [.int p1, .ref 178]) rfl ?_
  refine jv_Ev.c jv_i363 (pc' := 16) (S' := [.int (1 : Int32)]) jv_i361 [.ref 178, .int p1] rfl rfl rfl rfl (jv_cal rfl (jv_H_at rfl) rfl rfl) rfl (jx_e72 p0 p1 p2 p3 p4 p5 g1 g2) rfl rfl ?_
  refine jv_Ev.br jv_i363 (pc' := 42) (st' := []) rfl (jv_bi_ne.trans (jx_got (by decide))) ?_
  refine jv_Ev.steps jv_i363 1 (pc' := 43) (l' := [(4, .int (7 : Int32)), (2, .long (0 : Int64)), (0, .ref 178), (1, .int p1)]) (st' := [.long (0 : Int64)]) rfl ?_
  exact jv_Ev.ret jv_i363 rfl rfl

set_option maxRecDepth 100000 in
/-- ProgramBoxModel.thrown -/
theorem jx_e74 (p0 : Int32) (p1 : Int32) (p2 : Int32) (p3 : Int32) (p4 : Int32) (p5 : Int32) (g1 : (p1 - p1 / (8 : Int32) * (8 : Int32)) = (0 : Int32)) (g2 : p1 < (16 : Int32)) : jv_Ms 350 [.ref 178] (jv_H (jx_K 227) (jv_u jx_If 178 0 (1 : Int32)) jx_L0 (jx_R 227)) 228 1572956 (some (.int (1 : Int32)), (jv_H (jx_K 227) (jv_u jx_If 178 0 (1 : Int32)) jx_L0 (jx_R 227)), 228, 1572956) := by
  show jv_Ev 350 0 [(0, .ref 178)] [] (jv_H (jx_K 227) (jv_u jx_If 178 0 (1 : Int32)) jx_L0 (jx_R 227)) 228 1572956 _
  refine jv_Ev.steps jv_i350 1 (pc' := 1) (l' := [(0, .ref 178)]) (st' := [.ref 178]) rfl ?_
  refine jv_Ev.m jv_i350 (pc' := 4) (st' := [.int (1 : Int32)]) rfl rfl (jv_m_getI rfl rfl rfl rfl) ?_
  exact jv_Ev.ret jv_i350 rfl rfl

set_option maxRecDepth 100000 in
/-- the law: case 11, one way -/
theorem jx_l17 (p0 : Int32) (p1 : Int32) (p2 : Int32) (p3 : Int32) (p4 : Int32) (p5 : Int32) (g1 : (p1 - p1 / (8 : Int32) * (8 : Int32)) = (0 : Int32)) (g2 : p1 < (16 : Int32)) (hsw : p0 &&& (31 : Int32) = (11 : Int32)) {p : Program} {l : Launch} {e : Env} {R : Room} {s : State} {m : MethodId} {args : Array Value} {below : List Frame} {meth : Method} {c : Code} {E : jv_Env} {Q : State → Prop} (hTb : jv_TOk jv_Tb) (hT2 : jx_T2Ok) (hl : l.stackTraces = false) (F : jx_F jv_T2 439 E p R s m args meth c) (hZ : jx_Z E s) (hRc : R.cells = 600002) (hRs : R.slots = 7302232) {bb : Nat} {xs : Nat → Int32} (hX : va_X bb 6 xs s E.2.2.2.2) (hbB : bb < E.2.2.2.1) (hE2 : E.1 1000002 = bb) (hQ : ∀ (l0 : jv_L) (G : jv_G) (n sl : Nat), n ≤ 600002 → sl ≤ 7302232 → jw p l e R s m args below meth c E 8 0 0 Q 1532 l0 [.int (1 : Int32)] G n sl) (q0 : xs 0 = p0) (q1 : xs 1 = p1) (q2 : xs 2 = p2) (q3 : xs 3 = p3) (q4 : xs 4 = p4) (q5 : xs 5 = p5) : jw p l e R s m args below meth c E 8 0 0 Q 33 [(0, .ref 1000002), (1, .ref 0), (2, .ref 178), (3, .ref 226), (4, .int (0 : Int32))] [] (jv_H (jx_K 227) jx_If jx_L0 (jx_R 227)) 227 1572950 := by
  refine jw.steps F jx_i439 2 (pc' := 36) (l' := [(0, .ref 1000002), (1, .ref 0), (2, .ref 178), (3, .ref 226), (4, .int (0 : Int32))]) (st' := [.int (0 : Int32), .ref 1000002]) rfl ?_
  refine jw.sld F jx_i439 hX hbB hE2 (pc' := 37) rfl rfl (show vp_in (nI 0) 6 from vp_in_nI (by decide) (by decide)) q0 rfl ?_
  refine jw.steps F jx_i439 2 (pc' := 40) (l' := [(0, .ref 1000002), (1, .ref 0), (2, .ref 178), (3, .ref 226), (4, .int (0 : Int32))]) (st' := [.int (p0 &&& (31 : Int32))]) rfl ?_
  refine jw.br F jx_i439 (pc' := 672) (st' := []) rfl (by rw [hsw]; rfl) ?_
  refine jw.steps F jx_i439 5 (pc' := 678) (l' := [(0, .ref 1000002), (1, .ref 0), (2, .ref 178), (3, .ref 226), (4, .int (0 : Int32))]) (st' := [.int (1 : Int32), .ref 1000002, .ref 0]) rfl ?_
  refine jw.sld F jx_i439 hX hbB hE2 (pc' := 679) rfl rfl (show vp_in (nI 1) 6 from vp_in_nI (by decide) (by decide)) q1 rfl ?_
  refine jw.steps F jx_i439 1 (pc' := 680) (l' := [(0, .ref 1000002), (1, .ref 0), (2, .ref 178), (3, .ref 226), (4, .int (0 : Int32))]) (st' := [.ref 226, .int p1, .ref 0]) rfl ?_
  refine jw.wr F hl hZ rfl jx_i439 jx_i447 [.ref 0, .int p1, .ref 226] (pc' := 683) (S' := [.int (1 : Int32)]) rfl (List.mem_of_getElem? (i := 7) rfl) (List.mem_of_getElem? (i := 7) rfl) rfl rfl rfl (jx_w71 hTb hT2 p0 p1 p2 p3 p4 p5 g1 g2) (by omega) (by omega) (by omega) (by omega) rfl rfl ?_
  refine jw.steps F jx_i439 6 (pc' := 691) (l' := [(5, .int (1 : Int32)), (0, .ref 1000002), (1, .ref 0), (2, .ref 178), (3, .ref 226), (4, .int (0 : Int32))]) (st' := [.int (1 : Int32), .ref 1000002, .ref 178]) rfl ?_
  refine jw.sld F jx_i439 hX hbB hE2 (pc' := 692) rfl rfl (show vp_in (nI 1) 6 from vp_in_nI (by decide) (by decide)) q1 rfl ?_
  refine jw.ca hTb F jx_i439 (pc' := 695) (S' := [.long (0 : Int64)]) rfl jv_i363 [.ref 178, .int p1] rfl rfl rfl rfl (jx_cal2 rfl (jv_H_at rfl) rfl rfl) rfl (jx_e73 p0 p1 p2 p3 p4 p5 g1 g2) (by omega) (by omega) rfl rfl ?_
  refine jw.steps F jx_i439 2 (pc' := 698) (l' := [(6, .long (0 : Int64)), (5, .int (1 : Int32)), (0, .ref 1000002), (1, .ref 0), (2, .ref 178), (3, .ref 226), (4, .int (0 : Int32))]) (st' := [.ref 178]) rfl ?_
  refine jw.ca hTb F jx_i439 (pc' := 701) (S' := [.int (1 : Int32)]) rfl jv_i350 [.ref 178] rfl rfl rfl rfl (jx_cal2 rfl (jv_H_at rfl) rfl rfl) rfl (jx_e74 p0 p1 p2 p3 p4 p5 g1 g2) (by omega) (by omega) rfl rfl ?_
  refine jw.steps F jx_i439 1 (pc' := 703) (l' := [(6, .long (0 : Int64)), (5, .int (1 : Int32)), (0, .ref 1000002), (1, .ref 0), (2, .ref 178), (3, .ref 226), (4, .int (0 : Int32))]) (st' := [.int (1 : Int32), .int (1 : Int32)]) rfl ?_
  refine jw.br F jx_i439 (pc' := 708) (st' := []) rfl (jv_bc_eq.trans (jx_got (by decide))) ?_
  refine jw.steps F jx_i439 1 (pc' := 710) (l' := [(6, .long (0 : Int64)), (5, .int (1 : Int32)), (0, .ref 1000002), (1, .ref 0), (2, .ref 178), (3, .ref 226), (4, .int (0 : Int32))]) (st' := [.int (1 : Int32)]) rfl ?_
  refine jw.br F jx_i439 (pc' := 724) (st' := []) rfl (jv_bi_ne.trans (jx_got (by decide))) ?_
  refine jw.steps F jx_i439 5 (pc' := 26) (l' := [(4, .int (6 : Int32)), (6, .long (0 : Int64)), (5, .int (1 : Int32)), (0, .ref 1000002), (1, .ref 0), (2, .ref 178), (3, .ref 226)]) (st' := [.ref 1000002, .int (6 : Int32)]) rfl ?_
  refine jw.slen F jx_i439 hX hbB hE2 (pc' := 27) rfl rfl rfl ?_
  refine jw.steps F jx_i439 2 (pc' := 30) (l' := [(4, .int (6 : Int32)), (6, .long (0 : Int64)), (5, .int (1 : Int32)), (0, .ref 1000002), (1, .ref 0), (2, .ref 178), (3, .ref 226)]) (st' := [.int (0 : Int32), .int (6 : Int32)]) rfl ?_
  refine jw.br F jx_i439 (pc' := 1531) (st' := []) rfl (jv_bc_gt.trans (jx_got (by decide))) ?_
  refine jw.steps F jx_i439 1 (pc' := 1532) (l' := [(4, .int (6 : Int32)), (6, .long (0 : Int64)), (5, .int (1 : Int32)), (0, .ref 1000002), (1, .ref 0), (2, .ref 178), (3, .ref 226)]) (st' := [.int (1 : Int32)]) rfl ?_
  exact hQ _ _ _ _ (by omega) (by omega)

set_option maxRecDepth 100000 in
/-- ProgramBox.testContext: it throws -/
theorem jx_e75 (hTb : jv_TOk jv_Tb) (p0 : Int32) (p1 : Int32) (p2 : Int32) (p3 : Int32) (p4 : Int32) (p5 : Int32) (g1 : (p1 - p1 / (8 : Int32) * (8 : Int32)) = (0 : Int32)) (g2 : ¬ p1 < (16 : Int32)) (g3 : (56 : Int32) < p1) : jx_Th 426 [.int p1] (jv_H (jx_K 227) jx_If jx_L0 (jx_R 227)) 227 1572950 2 (jv_H (jx_K 227) jx_If jx_L0 (jx_R 227)) 228 1572956 := by
  refine jx_Th.of hTb (y := 426) rfl (Nat.le_of_ble_eq_true rfl) ?_
  intro p l e R s m args below meth c E hl F hZ h0 ht hRc hRs
  show jw p l e R s m args below meth c E 1 227 1572950 _ 0 [(0, .int p1)] [] (jv_H (jx_K 227) jx_If jx_L0 (jx_R 227)) 227 1572950
  refine jw.steps F jv_i426 2 (pc' := 3) (l' := [(0, .int p1)]) (st' := [.int (8 : Int32), .int p1]) rfl ?_
  refine jw.op F jv_i426 (pc' := 4) (l' := [(0, .int p1)]) (st' := [.int (p1 - p1 / (8 : Int32) * (8 : Int32))]) rfl (jv_op_irem (by decide)) ?_
  refine jw.br F jv_i426 (pc' := 17) (st' := []) rfl (jv_bi_eq.trans (jx_got (by rw [g1] <;> decide))) ?_
  refine jw.steps F jv_i426 2 (pc' := 20) (l' := [(0, .int p1)]) (st' := [.int (16 : Int32), .int p1]) rfl ?_
  refine jw.br F jv_i426 (pc' := 23) (st' := []) rfl (jv_bc_lt.trans (jx_gof g2)) ?_
  refine jw.steps F jv_i426 2 (pc' := 26) (l' := [(0, .int p1)]) (st' := [.int (56 : Int32), .int p1]) rfl ?_
  refine jw.br F jv_i426 (pc' := 29) (st' := []) rfl (jv_bc_le.trans (jx_gof (Int32.not_le.mpr g3))) ?_
  exact jw.throw hl F hZ h0 rfl jv_i426 ht 2 145 "the context has no such number" (List.mem_of_getElem? (i := 8) rfl) (by decide +kernel) (by decide +kernel) (by decide +kernel) (by decide +kernel) (by decide +kernel) rfl (by decide) (by decide) (by decide) (by omega) (by omega)

set_option maxRecDepth 100000 in
/-- ProgramBox.field: it throws -/
theorem jx_e76 (hTb : jv_TOk jv_Tb) (p0 : Int32) (p1 : Int32) (p2 : Int32) (p3 : Int32) (p4 : Int32) (p5 : Int32) (g1 : (p1 - p1 / (8 : Int32) * (8 : Int32)) = (0 : Int32)) (g2 : ¬ p1 < (16 : Int32)) (g3 : (56 : Int32) < p1) : jx_Th 425 [.ref 0, .int p1] (jv_H (jx_K 227) jx_If jx_L0 (jx_R 227)) 227 1572950 2 (jv_H (jx_K 227) jx_If jx_L0 (jx_R 227)) 228 1572956 := by
  refine jx_Th.of hTb (y := 425) rfl (Nat.le_of_ble_eq_true rfl) ?_
  intro p l e R s m args below meth c E hl F hZ h0 ht hRc hRs
  show jw p l e R s m args below meth c E 2 227 1572950 _ 0 [(0, .ref 0), (1, .int p1)] [] (jv_H (jx_K 227) jx_If jx_L0 (jx_R 227)) 227 1572950
  refine jw.steps F jv_i425 1 (pc' := 1) (l' := [(0, .ref 0), (1, .int p1)]) (st' := [.int p1]) rfl ?_
  exact jw.prop hTb hl F hZ jv_i425 ht rfl jv_i426 [.int p1] rfl rfl rfl rfl rfl rfl rfl (jx_e75 hTb p0 p1 p2 p3 p4 p5 g1 g2 g3) (by omega) (by omega) (by omega) (by omega)

set_option maxRecDepth 100000 in
/-- the law's field -/
theorem jx_w77 (hTb : jv_TOk jv_Tb) (hT2 : jx_T2Ok) (p0 : Int32) (p1 : Int32) (p2 : Int32) (p3 : Int32) (p4 : Int32) (p5 : Int32) (g1 : (p1 - p1 / (8 : Int32) * (8 : Int32)) = (0 : Int32)) (g2 : ¬ p1 < (16 : Int32)) (g3 : (56 : Int32) < p1) : jx_Wr 447 [(0, 8, 11, 36), (0, 8, 14, 19)] [.ref 0, .int p1, .ref 226] (jv_H (jx_K 227) jx_If jx_L0 (jx_R 227)) 227 1572950 (some (.int (1 : Int32)), (jv_H (jx_K 227) jx_If jx_L0 (jx_R 227)), 228, 1572956) := by
  refine jx_Wr.of hT2 (by decide) rfl (Nat.le_of_ble_eq_true rfl) ?_
  intro p l e R s m args below meth c E hl F hZ htb hRc hRs
  show jw p l e R s m args below meth c E 4 227 1572950 _ 0 [(0, .ref 0), (1, .int p1), (2, .ref 226)] [] (jv_H (jx_K 227) jx_If jx_L0 (jx_R 227)) 227 1572950
  have hRc : R.cells = 228 - 227 := hRc
  have hRs : R.slots = 1572956 - 1572950 := hRs
  refine jw.steps F jx_i447 4 (pc' := 4) (l' := [(0, .ref 0), (1, .int p1), (2, .ref 226)]) (st' := [.int p1, .ref 0, .int (0 : Int32), .ref 226]) rfl ?_
  refine jw.cat hTb hl F hZ rfl jx_i447 htb rfl jv_i425 [.ref 0, .int p1] rfl rfl rfl rfl rfl (jx_cal2 rfl (jv_H_at rfl) rfl rfl) rfl (jx_e76 hTb p0 p1 p2 p3 p4 p5 g1 g2 g3) (by omega) (by omega) (by omega) (by omega) [] (0, 8, 11, 36) [(0, 8, 14, 19)] rfl (fun z h => absurd h List.not_mem_nil) (by decide) rfl rfl (Or.inr ⟨3, rfl, rfl, rfl⟩) (by decide) ?_
  refine jw.steps F jx_i447 1 (pc' := 13) (l' := []) (st' := [.int (1 : Int32)]) rfl ?_
  exact jw.ret F jx_i447 rfl rfl

set_option maxRecDepth 100000 in
/-- ProgramBoxModel.noField -/
theorem jx_e78 (p0 : Int32) (p1 : Int32) (p2 : Int32) (p3 : Int32) (p4 : Int32) (p5 : Int32) (g1 : (p1 - p1 / (8 : Int32) * (8 : Int32)) = (0 : Int32)) (g2 : ¬ p1 < (16 : Int32)) (g3 : (56 : Int32) < p1) : jv_Ms 361 [.ref 178, .int p1] (jv_H (jx_K 227) jx_If jx_L0 (jx_R 227)) 228 1572956 (some (.int (1 : Int32)), (jv_H (jx_K 227) (jv_u jx_If 178 0 (1 : Int32)) jx_L0 (jx_R 227)), 228, 1572956) := by
  show jv_Ev 361 0 [(0, .ref 178), (1, .int p1)] [] (jv_H (jx_K 227) jx_If jx_L0 (jx_R 227)) 228 1572956 _
  refine jv_Ev.steps jv_i361 3 (pc' := 4) (l' := [(0, .ref 178), (1, .int p1)]) (st' := [.int (8 : Int32), .int p1, .ref 178]) rfl ?_
  refine jv_Ev.op jv_i361 (pc' := 5) (l' := [(0, .ref 178), (1, .int p1)]) (st' := [.int (p1 - p1 / (8 : Int32) * (8 : Int32)), .ref 178]) rfl (jv_op_irem (by decide)) ?_
  refine jv_Ev.br jv_i361 (pc' := 12) (st' := [.ref 178]) rfl (jv_bi_eq.trans (jx_got (by rw [g1] <;> decide))) ?_
  refine jv_Ev.steps jv_i361 2 (pc' := 15) (l' := [(0, .ref 178), (1, .int p1)]) (st' := [.int (16 : Int32), .int p1, .ref 178]) rfl ?_
  refine jv_Ev.br jv_i361 (pc' := 18) (st' := [.ref 178]) rfl (jv_bc_lt.trans (jx_gof g2)) ?_
  refine jv_Ev.steps jv_i361 2 (pc' := 21) (l' := [(0, .ref 178), (1, .int p1)]) (st' := [.int (56 : Int32), .int p1, .ref 178]) rfl ?_
  refine jv_Ev.br jv_i361 (pc' := 24) (st' := [.ref 178]) rfl (jv_bc_le.trans (jx_gof (Int32.not_le.mpr g3))) ?_
  refine jv_Ev.steps jv_i361 2 (pc' := 29) (l' := [(0, .ref 178), (1, .int p1)]) (st' := [.int (1 : Int32), .ref 178]) rfl ?_
  refine jv_Ev.m jv_i361 (pc' := 32) (st' := []) rfl rfl (jv_m_putI rfl rfl rfl rfl rfl) ?_
  refine jv_Ev.steps jv_i361 1 (pc' := 33) (l' := [(0, .ref 178), (1, .int p1)]) (st' := [.ref 178]) rfl ?_
  refine jv_Ev.m jv_i361 (pc' := 36) (st' := [.int (1 : Int32)]) rfl rfl (jv_m_getI rfl rfl rfl rfl) ?_
  refine jv_Ev.br jv_i361 (pc' := 39) (st' := []) rfl (jv_bi_le.trans (jx_gof (by decide))) ?_
  refine jv_Ev.steps jv_i361 2 (pc' := 44) (l' := [(0, .ref 178), (1, .int p1)]) (st' := [.int (1 : Int32)]) rfl ?_
  exact jv_Ev.ret jv_i361 rfl (jv_ret_b (by decide))

set_option maxRecDepth 100000 in
/-- ProgramBoxModel.field -/
theorem jx_e79 (p0 : Int32) (p1 : Int32) (p2 : Int32) (p3 : Int32) (p4 : Int32) (p5 : Int32) (g1 : (p1 - p1 / (8 : Int32) * (8 : Int32)) = (0 : Int32)) (g2 : ¬ p1 < (16 : Int32)) (g3 : (56 : Int32) < p1) : jv_Ms 363 [.ref 178, .int p1] (jv_H (jx_K 227) jx_If jx_L0 (jx_R 227)) 228 1572956 (some (.long (0 : Int64)), (jv_H (jx_K 227) (jv_u jx_If 178 0 (1 : Int32)) jx_L0 (jx_R 227)), 228, 1572956) := by
  show jv_Ev 363 0 [(0, .ref 178), (1, .int p1)] [] (jv_H (jx_K 227) jx_If jx_L0 (jx_R 227)) 228 1572956 _
  refine jv_Ev.steps jv_i363 5 (pc' := 8) (l' := [(4, .int (7 : Int32)), (2, .long (0 : Int64)), (0, .ref 178), (1, .int p1)]) (st' := [.int (7 : Int32)]) rfl ?_
  refine jv_Ev.br jv_i363 (pc' := 11) (st' := []) rfl (jv_bi_lt.trans (jx_gof (by decide))) ?_
  refine jv_Ev.steps jv_i363 2 (pc' := 13) (l' := [(4, .int (7 : Int32)), (2, .long (0 : Int64)), (0, .ref 178), (1, .int p1)]) (st' := [.int p1, .ref 178]) rfl ?_
  refine jv_Ev.c jv_i363 (pc' := 16) (S' := [.int (1 : Int32)]) jv_i361 [.ref 178, .int p1] rfl rfl rfl rfl (jv_cal rfl (jv_H_at rfl) rfl rfl) rfl (jx_e78 p0 p1 p2 p3 p4 p5 g1 g2 g3) rfl rfl ?_
  refine jv_Ev.br jv_i363 (pc' := 42) (st' := []) rfl (jv_bi_ne.trans (jx_got (by decide))) ?_
  refine jv_Ev.steps jv_i363 1 (pc' := 43) (l' := [(4, .int (7 : Int32)), (2, .long (0 : Int64)), (0, .ref 178), (1, .int p1)]) (st' := [.long (0 : Int64)]) rfl ?_
  exact jv_Ev.ret jv_i363 rfl rfl

set_option maxRecDepth 100000 in
/-- ProgramBoxModel.thrown -/
theorem jx_e80 (p0 : Int32) (p1 : Int32) (p2 : Int32) (p3 : Int32) (p4 : Int32) (p5 : Int32) (g1 : (p1 - p1 / (8 : Int32) * (8 : Int32)) = (0 : Int32)) (g2 : ¬ p1 < (16 : Int32)) (g3 : (56 : Int32) < p1) : jv_Ms 350 [.ref 178] (jv_H (jx_K 227) (jv_u jx_If 178 0 (1 : Int32)) jx_L0 (jx_R 227)) 228 1572956 (some (.int (1 : Int32)), (jv_H (jx_K 227) (jv_u jx_If 178 0 (1 : Int32)) jx_L0 (jx_R 227)), 228, 1572956) := by
  show jv_Ev 350 0 [(0, .ref 178)] [] (jv_H (jx_K 227) (jv_u jx_If 178 0 (1 : Int32)) jx_L0 (jx_R 227)) 228 1572956 _
  refine jv_Ev.steps jv_i350 1 (pc' := 1) (l' := [(0, .ref 178)]) (st' := [.ref 178]) rfl ?_
  refine jv_Ev.m jv_i350 (pc' := 4) (st' := [.int (1 : Int32)]) rfl rfl (jv_m_getI rfl rfl rfl rfl) ?_
  exact jv_Ev.ret jv_i350 rfl rfl

set_option maxRecDepth 100000 in
/-- the law: case 11, one way -/
theorem jx_l18 (p0 : Int32) (p1 : Int32) (p2 : Int32) (p3 : Int32) (p4 : Int32) (p5 : Int32) (g1 : (p1 - p1 / (8 : Int32) * (8 : Int32)) = (0 : Int32)) (g2 : ¬ p1 < (16 : Int32)) (g3 : (56 : Int32) < p1) (hsw : p0 &&& (31 : Int32) = (11 : Int32)) {p : Program} {l : Launch} {e : Env} {R : Room} {s : State} {m : MethodId} {args : Array Value} {below : List Frame} {meth : Method} {c : Code} {E : jv_Env} {Q : State → Prop} (hTb : jv_TOk jv_Tb) (hT2 : jx_T2Ok) (hl : l.stackTraces = false) (F : jx_F jv_T2 439 E p R s m args meth c) (hZ : jx_Z E s) (hRc : R.cells = 600002) (hRs : R.slots = 7302232) {bb : Nat} {xs : Nat → Int32} (hX : va_X bb 6 xs s E.2.2.2.2) (hbB : bb < E.2.2.2.1) (hE2 : E.1 1000002 = bb) (hQ : ∀ (l0 : jv_L) (G : jv_G) (n sl : Nat), n ≤ 600002 → sl ≤ 7302232 → jw p l e R s m args below meth c E 8 0 0 Q 1532 l0 [.int (1 : Int32)] G n sl) (q0 : xs 0 = p0) (q1 : xs 1 = p1) (q2 : xs 2 = p2) (q3 : xs 3 = p3) (q4 : xs 4 = p4) (q5 : xs 5 = p5) : jw p l e R s m args below meth c E 8 0 0 Q 33 [(0, .ref 1000002), (1, .ref 0), (2, .ref 178), (3, .ref 226), (4, .int (0 : Int32))] [] (jv_H (jx_K 227) jx_If jx_L0 (jx_R 227)) 227 1572950 := by
  refine jw.steps F jx_i439 2 (pc' := 36) (l' := [(0, .ref 1000002), (1, .ref 0), (2, .ref 178), (3, .ref 226), (4, .int (0 : Int32))]) (st' := [.int (0 : Int32), .ref 1000002]) rfl ?_
  refine jw.sld F jx_i439 hX hbB hE2 (pc' := 37) rfl rfl (show vp_in (nI 0) 6 from vp_in_nI (by decide) (by decide)) q0 rfl ?_
  refine jw.steps F jx_i439 2 (pc' := 40) (l' := [(0, .ref 1000002), (1, .ref 0), (2, .ref 178), (3, .ref 226), (4, .int (0 : Int32))]) (st' := [.int (p0 &&& (31 : Int32))]) rfl ?_
  refine jw.br F jx_i439 (pc' := 672) (st' := []) rfl (by rw [hsw]; rfl) ?_
  refine jw.steps F jx_i439 5 (pc' := 678) (l' := [(0, .ref 1000002), (1, .ref 0), (2, .ref 178), (3, .ref 226), (4, .int (0 : Int32))]) (st' := [.int (1 : Int32), .ref 1000002, .ref 0]) rfl ?_
  refine jw.sld F jx_i439 hX hbB hE2 (pc' := 679) rfl rfl (show vp_in (nI 1) 6 from vp_in_nI (by decide) (by decide)) q1 rfl ?_
  refine jw.steps F jx_i439 1 (pc' := 680) (l' := [(0, .ref 1000002), (1, .ref 0), (2, .ref 178), (3, .ref 226), (4, .int (0 : Int32))]) (st' := [.ref 226, .int p1, .ref 0]) rfl ?_
  refine jw.wr F hl hZ rfl jx_i439 jx_i447 [.ref 0, .int p1, .ref 226] (pc' := 683) (S' := [.int (1 : Int32)]) rfl (List.mem_of_getElem? (i := 7) rfl) (List.mem_of_getElem? (i := 7) rfl) rfl rfl rfl (jx_w77 hTb hT2 p0 p1 p2 p3 p4 p5 g1 g2 g3) (by omega) (by omega) (by omega) (by omega) rfl rfl ?_
  refine jw.steps F jx_i439 6 (pc' := 691) (l' := [(5, .int (1 : Int32)), (0, .ref 1000002), (1, .ref 0), (2, .ref 178), (3, .ref 226), (4, .int (0 : Int32))]) (st' := [.int (1 : Int32), .ref 1000002, .ref 178]) rfl ?_
  refine jw.sld F jx_i439 hX hbB hE2 (pc' := 692) rfl rfl (show vp_in (nI 1) 6 from vp_in_nI (by decide) (by decide)) q1 rfl ?_
  refine jw.ca hTb F jx_i439 (pc' := 695) (S' := [.long (0 : Int64)]) rfl jv_i363 [.ref 178, .int p1] rfl rfl rfl rfl (jx_cal2 rfl (jv_H_at rfl) rfl rfl) rfl (jx_e79 p0 p1 p2 p3 p4 p5 g1 g2 g3) (by omega) (by omega) rfl rfl ?_
  refine jw.steps F jx_i439 2 (pc' := 698) (l' := [(6, .long (0 : Int64)), (5, .int (1 : Int32)), (0, .ref 1000002), (1, .ref 0), (2, .ref 178), (3, .ref 226), (4, .int (0 : Int32))]) (st' := [.ref 178]) rfl ?_
  refine jw.ca hTb F jx_i439 (pc' := 701) (S' := [.int (1 : Int32)]) rfl jv_i350 [.ref 178] rfl rfl rfl rfl (jx_cal2 rfl (jv_H_at rfl) rfl rfl) rfl (jx_e80 p0 p1 p2 p3 p4 p5 g1 g2 g3) (by omega) (by omega) rfl rfl ?_
  refine jw.steps F jx_i439 1 (pc' := 703) (l' := [(6, .long (0 : Int64)), (5, .int (1 : Int32)), (0, .ref 1000002), (1, .ref 0), (2, .ref 178), (3, .ref 226), (4, .int (0 : Int32))]) (st' := [.int (1 : Int32), .int (1 : Int32)]) rfl ?_
  refine jw.br F jx_i439 (pc' := 708) (st' := []) rfl (jv_bc_eq.trans (jx_got (by decide))) ?_
  refine jw.steps F jx_i439 1 (pc' := 710) (l' := [(6, .long (0 : Int64)), (5, .int (1 : Int32)), (0, .ref 1000002), (1, .ref 0), (2, .ref 178), (3, .ref 226), (4, .int (0 : Int32))]) (st' := [.int (1 : Int32)]) rfl ?_
  refine jw.br F jx_i439 (pc' := 724) (st' := []) rfl (jv_bi_ne.trans (jx_got (by decide))) ?_
  refine jw.steps F jx_i439 5 (pc' := 26) (l' := [(4, .int (6 : Int32)), (6, .long (0 : Int64)), (5, .int (1 : Int32)), (0, .ref 1000002), (1, .ref 0), (2, .ref 178), (3, .ref 226)]) (st' := [.ref 1000002, .int (6 : Int32)]) rfl ?_
  refine jw.slen F jx_i439 hX hbB hE2 (pc' := 27) rfl rfl rfl ?_
  refine jw.steps F jx_i439 2 (pc' := 30) (l' := [(4, .int (6 : Int32)), (6, .long (0 : Int64)), (5, .int (1 : Int32)), (0, .ref 1000002), (1, .ref 0), (2, .ref 178), (3, .ref 226)]) (st' := [.int (0 : Int32), .int (6 : Int32)]) rfl ?_
  refine jw.br F jx_i439 (pc' := 1531) (st' := []) rfl (jv_bc_gt.trans (jx_got (by decide))) ?_
  refine jw.steps F jx_i439 1 (pc' := 1532) (l' := [(4, .int (6 : Int32)), (6, .long (0 : Int64)), (5, .int (1 : Int32)), (0, .ref 1000002), (1, .ref 0), (2, .ref 178), (3, .ref 226)]) (st' := [.int (1 : Int32)]) rfl ?_
  exact hQ _ _ _ _ (by omega) (by omega)

set_option maxRecDepth 100000 in
/-- ProgramBox.testContext -/
theorem jx_e81 (p0 : Int32) (p1 : Int32) (p2 : Int32) (p3 : Int32) (p4 : Int32) (p5 : Int32) (g1 : (p1 - p1 / (8 : Int32) * (8 : Int32)) = (0 : Int32)) (g2 : ¬ p1 < (16 : Int32)) (g3 : ¬ (56 : Int32) < p1) : jv_Ms 426 [.int p1] (jv_H (jx_K 227) jx_If jx_L0 (jx_R 227)) 227 1572950 (none, (jv_H (jx_K 227) jx_If jx_L0 (jx_R 227)), 227, 1572950) := by
  show jv_Ev 426 0 [(0, .int p1)] [] (jv_H (jx_K 227) jx_If jx_L0 (jx_R 227)) 227 1572950 _
  refine jv_Ev.steps jv_i426 2 (pc' := 3) (l' := [(0, .int p1)]) (st' := [.int (8 : Int32), .int p1]) rfl ?_
  refine jv_Ev.op jv_i426 (pc' := 4) (l' := [(0, .int p1)]) (st' := [.int (p1 - p1 / (8 : Int32) * (8 : Int32))]) rfl (jv_op_irem (by decide)) ?_
  refine jv_Ev.br jv_i426 (pc' := 17) (st' := []) rfl (jv_bi_eq.trans (jx_got (by rw [g1] <;> decide))) ?_
  refine jv_Ev.steps jv_i426 2 (pc' := 20) (l' := [(0, .int p1)]) (st' := [.int (16 : Int32), .int p1]) rfl ?_
  refine jv_Ev.br jv_i426 (pc' := 23) (st' := []) rfl (jv_bc_lt.trans (jx_gof g2)) ?_
  refine jv_Ev.steps jv_i426 2 (pc' := 26) (l' := [(0, .int p1)]) (st' := [.int (56 : Int32), .int p1]) rfl ?_
  refine jv_Ev.br jv_i426 (pc' := 39) (st' := []) rfl (jv_bc_le.trans (jx_got (Int32.not_lt.mp g3))) ?_
  exact jv_Ev.ret jv_i426 rfl rfl

set_option maxRecDepth 100000 in
theorem jv_i121 : jv_I 121 6 (some .long) 0 0 jv_c121 := ⟨rfl, rfl, rfl, rfl, rfl⟩
set_option maxRecDepth 100000 in
/-- ProgramBox$Store.read -/
theorem jx_e82 (p0 : Int32) (p1 : Int32) (p2 : Int32) (p3 : Int32) (p4 : Int32) (p5 : Int32) (g1 : (p1 - p1 / (8 : Int32) * (8 : Int32)) = (0 : Int32)) (g2 : ¬ p1 < (16 : Int32)) (g3 : ¬ (56 : Int32) < p1) : jv_Ms 121 [.ref 4, .int p1, .int (8 : Int32)] (jv_H (jx_K 227) jx_If jx_L0 (jx_R 227)) 227 1572950 (some (.long (0 : Int64)), (jv_H (jx_K 227) jx_If jx_L0 (jx_R 227)), 227, 1572950) := by
  show jv_Ev 121 0 [(0, .ref 4), (1, .int p1), (2, .int (8 : Int32))] [] (jv_H (jx_K 227) jx_If jx_L0 (jx_R 227)) 227 1572950 _
  refine jv_Ev.steps jv_i121 7 (pc' := 9) (l' := [(5, .int (7 : Int32)), (3, .long (0 : Int64)), (0, .ref 4), (1, .int p1), (2, .int (8 : Int32))]) (st' := [.int (7 : Int32)]) rfl ?_
  refine jv_Ev.br jv_i121 (pc' := 12) (st' := []) rfl (jv_bi_lt.trans (jx_gof (by decide))) ?_
  refine jv_Ev.steps jv_i121 7 (pc' := 21) (l' := [(5, .int (7 : Int32)), (3, .long (0 : Int64)), (0, .ref 4), (1, .int p1), (2, .int (8 : Int32))]) (st' := [.int (p1 + (7 : Int32)), .ref 4, .long (0 : Int64)]) rfl ?_
  refine jv_Ev.m jv_i121 (pc' := 22) (st' := [.int (0 : Int32), .long (0 : Int64)]) rfl rfl (jv_m_baldv rfl rfl (jx_ixa (k := 7) (fun q => g2 (Int32.lt_of_lt_of_le q (by decide))) g3 (by decide)) rfl rfl) ?_
  refine jv_Ev.steps jv_i121 8 (pc' := 9) (l' := [(5, .int (6 : Int32)), (3, .long (0 : Int64)), (0, .ref 4), (1, .int p1), (2, .int (8 : Int32))]) (st' := [.int (6 : Int32)]) rfl ?_
  refine jv_Ev.br jv_i121 (pc' := 12) (st' := []) rfl (jv_bi_lt.trans (jx_gof (by decide))) ?_
  refine jv_Ev.steps jv_i121 7 (pc' := 21) (l' := [(5, .int (6 : Int32)), (3, .long (0 : Int64)), (0, .ref 4), (1, .int p1), (2, .int (8 : Int32))]) (st' := [.int (p1 + (6 : Int32)), .ref 4, .long (0 : Int64)]) rfl ?_
  refine jv_Ev.m jv_i121 (pc' := 22) (st' := [.int (0 : Int32), .long (0 : Int64)]) rfl rfl (jv_m_baldv rfl rfl (jx_ixa (k := 6) (fun q => g2 (Int32.lt_of_lt_of_le q (by decide))) g3 (by decide)) rfl rfl) ?_
  refine jv_Ev.steps jv_i121 8 (pc' := 9) (l' := [(5, .int (5 : Int32)), (3, .long (0 : Int64)), (0, .ref 4), (1, .int p1), (2, .int (8 : Int32))]) (st' := [.int (5 : Int32)]) rfl ?_
  refine jv_Ev.br jv_i121 (pc' := 12) (st' := []) rfl (jv_bi_lt.trans (jx_gof (by decide))) ?_
  refine jv_Ev.steps jv_i121 7 (pc' := 21) (l' := [(5, .int (5 : Int32)), (3, .long (0 : Int64)), (0, .ref 4), (1, .int p1), (2, .int (8 : Int32))]) (st' := [.int (p1 + (5 : Int32)), .ref 4, .long (0 : Int64)]) rfl ?_
  refine jv_Ev.m jv_i121 (pc' := 22) (st' := [.int (0 : Int32), .long (0 : Int64)]) rfl rfl (jv_m_baldv rfl rfl (jx_ixa (k := 5) (fun q => g2 (Int32.lt_of_lt_of_le q (by decide))) g3 (by decide)) rfl rfl) ?_
  refine jv_Ev.steps jv_i121 8 (pc' := 9) (l' := [(5, .int (4 : Int32)), (3, .long (0 : Int64)), (0, .ref 4), (1, .int p1), (2, .int (8 : Int32))]) (st' := [.int (4 : Int32)]) rfl ?_
  refine jv_Ev.br jv_i121 (pc' := 12) (st' := []) rfl (jv_bi_lt.trans (jx_gof (by decide))) ?_
  refine jv_Ev.steps jv_i121 7 (pc' := 21) (l' := [(5, .int (4 : Int32)), (3, .long (0 : Int64)), (0, .ref 4), (1, .int p1), (2, .int (8 : Int32))]) (st' := [.int (p1 + (4 : Int32)), .ref 4, .long (0 : Int64)]) rfl ?_
  refine jv_Ev.m jv_i121 (pc' := 22) (st' := [.int (0 : Int32), .long (0 : Int64)]) rfl rfl (jv_m_baldv rfl rfl (jx_ixa (k := 4) (fun q => g2 (Int32.lt_of_lt_of_le q (by decide))) g3 (by decide)) rfl rfl) ?_
  refine jv_Ev.steps jv_i121 8 (pc' := 9) (l' := [(5, .int (3 : Int32)), (3, .long (0 : Int64)), (0, .ref 4), (1, .int p1), (2, .int (8 : Int32))]) (st' := [.int (3 : Int32)]) rfl ?_
  refine jv_Ev.br jv_i121 (pc' := 12) (st' := []) rfl (jv_bi_lt.trans (jx_gof (by decide))) ?_
  refine jv_Ev.steps jv_i121 7 (pc' := 21) (l' := [(5, .int (3 : Int32)), (3, .long (0 : Int64)), (0, .ref 4), (1, .int p1), (2, .int (8 : Int32))]) (st' := [.int (p1 + (3 : Int32)), .ref 4, .long (0 : Int64)]) rfl ?_
  refine jv_Ev.m jv_i121 (pc' := 22) (st' := [.int (0 : Int32), .long (0 : Int64)]) rfl rfl (jv_m_baldv rfl rfl (jx_ixa (k := 3) (fun q => g2 (Int32.lt_of_lt_of_le q (by decide))) g3 (by decide)) rfl rfl) ?_
  refine jv_Ev.steps jv_i121 8 (pc' := 9) (l' := [(5, .int (2 : Int32)), (3, .long (0 : Int64)), (0, .ref 4), (1, .int p1), (2, .int (8 : Int32))]) (st' := [.int (2 : Int32)]) rfl ?_
  refine jv_Ev.br jv_i121 (pc' := 12) (st' := []) rfl (jv_bi_lt.trans (jx_gof (by decide))) ?_
  refine jv_Ev.steps jv_i121 7 (pc' := 21) (l' := [(5, .int (2 : Int32)), (3, .long (0 : Int64)), (0, .ref 4), (1, .int p1), (2, .int (8 : Int32))]) (st' := [.int (p1 + (2 : Int32)), .ref 4, .long (0 : Int64)]) rfl ?_
  refine jv_Ev.m jv_i121 (pc' := 22) (st' := [.int (0 : Int32), .long (0 : Int64)]) rfl rfl (jv_m_baldv rfl rfl (jx_ixa (k := 2) (fun q => g2 (Int32.lt_of_lt_of_le q (by decide))) g3 (by decide)) rfl rfl) ?_
  refine jv_Ev.steps jv_i121 8 (pc' := 9) (l' := [(5, .int (1 : Int32)), (3, .long (0 : Int64)), (0, .ref 4), (1, .int p1), (2, .int (8 : Int32))]) (st' := [.int (1 : Int32)]) rfl ?_
  refine jv_Ev.br jv_i121 (pc' := 12) (st' := []) rfl (jv_bi_lt.trans (jx_gof (by decide))) ?_
  refine jv_Ev.steps jv_i121 7 (pc' := 21) (l' := [(5, .int (1 : Int32)), (3, .long (0 : Int64)), (0, .ref 4), (1, .int p1), (2, .int (8 : Int32))]) (st' := [.int (p1 + (1 : Int32)), .ref 4, .long (0 : Int64)]) rfl ?_
  refine jv_Ev.m jv_i121 (pc' := 22) (st' := [.int (0 : Int32), .long (0 : Int64)]) rfl rfl (jv_m_baldv rfl rfl (jx_ixa (k := 1) (fun q => g2 (Int32.lt_of_lt_of_le q (by decide))) g3 (by decide)) rfl rfl) ?_
  refine jv_Ev.steps jv_i121 8 (pc' := 9) (l' := [(5, .int (0 : Int32)), (3, .long (0 : Int64)), (0, .ref 4), (1, .int p1), (2, .int (8 : Int32))]) (st' := [.int (0 : Int32)]) rfl ?_
  refine jv_Ev.br jv_i121 (pc' := 12) (st' := []) rfl (jv_bi_lt.trans (jx_gof (by decide))) ?_
  refine jv_Ev.steps jv_i121 7 (pc' := 21) (l' := [(5, .int (0 : Int32)), (3, .long (0 : Int64)), (0, .ref 4), (1, .int p1), (2, .int (8 : Int32))]) (st' := [.int (p1 + (0 : Int32)), .ref 4, .long (0 : Int64)]) rfl ?_
  refine jv_Ev.m jv_i121 (pc' := 22) (st' := [.int (0 : Int32), .long (0 : Int64)]) rfl rfl (jv_m_baldv rfl rfl (jx_ixa (k := 0) (fun q => g2 (Int32.lt_of_lt_of_le q (by decide))) g3 (by decide)) rfl rfl) ?_
  refine jv_Ev.steps jv_i121 8 (pc' := 9) (l' := [(5, .int (-1 : Int32)), (3, .long (0 : Int64)), (0, .ref 4), (1, .int p1), (2, .int (8 : Int32))]) (st' := [.int (-1 : Int32)]) rfl ?_
  refine jv_Ev.br jv_i121 (pc' := 35) (st' := []) rfl (jv_bi_lt.trans (jx_got (by decide))) ?_
  refine jv_Ev.steps jv_i121 1 (pc' := 36) (l' := [(5, .int (-1 : Int32)), (3, .long (0 : Int64)), (0, .ref 4), (1, .int p1), (2, .int (8 : Int32))]) (st' := [.long (0 : Int64)]) rfl ?_
  exact jv_Ev.ret jv_i121 rfl rfl

set_option maxRecDepth 100000 in
/-- ProgramBox.field -/
theorem jx_e83 (p0 : Int32) (p1 : Int32) (p2 : Int32) (p3 : Int32) (p4 : Int32) (p5 : Int32) (g1 : (p1 - p1 / (8 : Int32) * (8 : Int32)) = (0 : Int32)) (g2 : ¬ p1 < (16 : Int32)) (g3 : ¬ (56 : Int32) < p1) : jv_Ms 425 [.ref 0, .int p1] (jv_H (jx_K 227) jx_If jx_L0 (jx_R 227)) 227 1572950 (some (.long (0 : Int64)), (jv_H (jx_K 227) jx_If jx_L0 (jx_R 227)), 227, 1572950) := by
  show jv_Ev 425 0 [(0, .ref 0), (1, .int p1)] [] (jv_H (jx_K 227) jx_If jx_L0 (jx_R 227)) 227 1572950 _
  refine jv_Ev.steps jv_i425 1 (pc' := 1) (l' := [(0, .ref 0), (1, .int p1)]) (st' := [.int p1]) rfl ?_
  refine jv_Ev.c jv_i425 (pc' := 4) (S' := []) jv_i426 [.int p1] rfl rfl rfl rfl rfl rfl (jx_e81 p0 p1 p2 p3 p4 p5 g1 g2 g3) rfl rfl ?_
  refine jv_Ev.steps jv_i425 1 (pc' := 5) (l' := [(0, .ref 0), (1, .int p1)]) (st' := [.ref 0]) rfl ?_
  refine jv_Ev.m jv_i425 (pc' := 8) (st' := [.ref 2]) rfl rfl (jv_m_getR rfl rfl rfl rfl) ?_
  refine jv_Ev.m jv_i425 (pc' := 11) (st' := [.ref 4]) rfl rfl (jv_m_getR rfl rfl rfl rfl) ?_
  refine jv_Ev.steps jv_i425 2 (pc' := 14) (l' := [(0, .ref 0), (1, .int p1)]) (st' := [.int (8 : Int32), .int p1, .ref 4]) rfl ?_
  refine jv_Ev.c jv_i425 (pc' := 17) (S' := [.long (0 : Int64)]) jv_i121 [.ref 4, .int p1, .int (8 : Int32)] rfl rfl rfl rfl rfl rfl (jx_e82 p0 p1 p2 p3 p4 p5 g1 g2 g3) rfl rfl ?_
  exact jv_Ev.ret jv_i425 rfl rfl

set_option maxRecDepth 100000 in
/-- the law's field -/
theorem jx_w84 (hTb : jv_TOk jv_Tb) (hT2 : jx_T2Ok) (p0 : Int32) (p1 : Int32) (p2 : Int32) (p3 : Int32) (p4 : Int32) (p5 : Int32) (g1 : (p1 - p1 / (8 : Int32) * (8 : Int32)) = (0 : Int32)) (g2 : ¬ p1 < (16 : Int32)) (g3 : ¬ (56 : Int32) < p1) : jx_Wr 447 [(0, 8, 11, 36), (0, 8, 14, 19)] [.ref 0, .int p1, .ref 226] (jv_H (jx_K 227) jx_If jx_L0 (jx_R 227)) 227 1572950 (some (.int (0 : Int32)), (jv_H (jx_K 227) jx_If (jv_u jx_L0 226 (0 : Int32).toNatClampNeg (0 : Int64)) (jx_R 227)), 227, 1572950) := by
  refine jx_Wr.of hT2 (by decide) rfl (Nat.le_of_ble_eq_true rfl) ?_
  intro p l e R s m args below meth c E hl F hZ htb hRc hRs
  show jw p l e R s m args below meth c E 4 227 1572950 _ 0 [(0, .ref 0), (1, .int p1), (2, .ref 226)] [] (jv_H (jx_K 227) jx_If jx_L0 (jx_R 227)) 227 1572950
  have hRc : R.cells = 227 - 227 := hRc
  have hRs : R.slots = 1572950 - 1572950 := hRs
  refine jw.steps F jx_i447 4 (pc' := 4) (l' := [(0, .ref 0), (1, .int p1), (2, .ref 226)]) (st' := [.int p1, .ref 0, .int (0 : Int32), .ref 226]) rfl ?_
  refine jw.ca hTb F jx_i447 (pc' := 7) (S' := [.long (0 : Int64), .int (0 : Int32), .ref 226]) rfl jv_i425 [.ref 0, .int p1] rfl rfl rfl rfl (jx_cal2 rfl (jv_H_at rfl) rfl rfl) rfl (jx_e83 p0 p1 p2 p3 p4 p5 g1 g2 g3) (by omega) (by omega) rfl rfl ?_
  refine jw.me F jx_i447 (pc' := 8) (st' := []) rfl rfl (jv_m_last rfl (by decide)) ?_
  refine jw.steps F jx_i447 2 (pc' := 18) (l' := [(0, .ref 0), (1, .int p1), (2, .ref 226)]) (st' := [.int (0 : Int32)]) rfl ?_
  exact jw.ret F jx_i447 rfl rfl

set_option maxRecDepth 100000 in
/-- ProgramBoxModel.noField -/
theorem jx_e85 (p0 : Int32) (p1 : Int32) (p2 : Int32) (p3 : Int32) (p4 : Int32) (p5 : Int32) (g1 : (p1 - p1 / (8 : Int32) * (8 : Int32)) = (0 : Int32)) (g2 : ¬ p1 < (16 : Int32)) (g3 : ¬ (56 : Int32) < p1) : jv_Ms 361 [.ref 178, .int p1] (jv_H (jx_K 227) jx_If (jv_u jx_L0 226 (0 : Int32).toNatClampNeg (0 : Int64)) (jx_R 227)) 227 1572950 (some (.int (0 : Int32)), (jv_H (jx_K 227) (jv_u jx_If 178 0 (0 : Int32)) (jv_u jx_L0 226 (0 : Int32).toNatClampNeg (0 : Int64)) (jx_R 227)), 227, 1572950) := by
  show jv_Ev 361 0 [(0, .ref 178), (1, .int p1)] [] (jv_H (jx_K 227) jx_If (jv_u jx_L0 226 (0 : Int32).toNatClampNeg (0 : Int64)) (jx_R 227)) 227 1572950 _
  refine jv_Ev.steps jv_i361 3 (pc' := 4) (l' := [(0, .ref 178), (1, .int p1)]) (st' := [.int (8 : Int32), .int p1, .ref 178]) rfl ?_
  refine jv_Ev.op jv_i361 (pc' := 5) (l' := [(0, .ref 178), (1, .int p1)]) (st' := [.int (p1 - p1 / (8 : Int32) * (8 : Int32)), .ref 178]) rfl (jv_op_irem (by decide)) ?_
  refine jv_Ev.br jv_i361 (pc' := 12) (st' := [.ref 178]) rfl (jv_bi_eq.trans (jx_got (by rw [g1] <;> decide))) ?_
  refine jv_Ev.steps jv_i361 2 (pc' := 15) (l' := [(0, .ref 178), (1, .int p1)]) (st' := [.int (16 : Int32), .int p1, .ref 178]) rfl ?_
  refine jv_Ev.br jv_i361 (pc' := 18) (st' := [.ref 178]) rfl (jv_bc_lt.trans (jx_gof g2)) ?_
  refine jv_Ev.steps jv_i361 2 (pc' := 21) (l' := [(0, .ref 178), (1, .int p1)]) (st' := [.int (56 : Int32), .int p1, .ref 178]) rfl ?_
  refine jv_Ev.br jv_i361 (pc' := 28) (st' := [.ref 178]) rfl (jv_bc_le.trans (jx_got (Int32.not_lt.mp g3))) ?_
  refine jv_Ev.steps jv_i361 1 (pc' := 29) (l' := [(0, .ref 178), (1, .int p1)]) (st' := [.int (0 : Int32), .ref 178]) rfl ?_
  refine jv_Ev.m jv_i361 (pc' := 32) (st' := []) rfl rfl (jv_m_putI rfl rfl rfl rfl rfl) ?_
  refine jv_Ev.steps jv_i361 1 (pc' := 33) (l' := [(0, .ref 178), (1, .int p1)]) (st' := [.ref 178]) rfl ?_
  refine jv_Ev.m jv_i361 (pc' := 36) (st' := [.int (0 : Int32)]) rfl rfl (jv_m_getI rfl rfl rfl rfl) ?_
  refine jv_Ev.br jv_i361 (pc' := 43) (st' := []) rfl (jv_bi_le.trans (jx_got (by decide))) ?_
  refine jv_Ev.steps jv_i361 1 (pc' := 44) (l' := [(0, .ref 178), (1, .int p1)]) (st' := [.int (0 : Int32)]) rfl ?_
  exact jv_Ev.ret jv_i361 rfl (jv_ret_b (by decide))

set_option maxRecDepth 100000 in
/-- ProgramBoxModel.noField -/
theorem jx_e86 (p0 : Int32) (p1 : Int32) (p2 : Int32) (p3 : Int32) (p4 : Int32) (p5 : Int32) (g1 : (p1 - p1 / (8 : Int32) * (8 : Int32)) = (0 : Int32)) (g2 : ¬ p1 < (16 : Int32)) (g3 : ¬ (56 : Int32) < p1) : jv_Ms 361 [.ref 178, .int p1] (jv_H (jx_K 227) (jv_u jx_If 178 0 (0 : Int32)) (jv_u jx_L0 226 (0 : Int32).toNatClampNeg (0 : Int64)) (jx_R 227)) 227 1572950 (some (.int (0 : Int32)), (jv_H (jx_K 227) (jv_u (jv_u jx_If 178 0 (0 : Int32)) 178 0 (0 : Int32)) (jv_u jx_L0 226 (0 : Int32).toNatClampNeg (0 : Int64)) (jx_R 227)), 227, 1572950) := by
  show jv_Ev 361 0 [(0, .ref 178), (1, .int p1)] [] (jv_H (jx_K 227) (jv_u jx_If 178 0 (0 : Int32)) (jv_u jx_L0 226 (0 : Int32).toNatClampNeg (0 : Int64)) (jx_R 227)) 227 1572950 _
  refine jv_Ev.steps jv_i361 3 (pc' := 4) (l' := [(0, .ref 178), (1, .int p1)]) (st' := [.int (8 : Int32), .int p1, .ref 178]) rfl ?_
  refine jv_Ev.op jv_i361 (pc' := 5) (l' := [(0, .ref 178), (1, .int p1)]) (st' := [.int (p1 - p1 / (8 : Int32) * (8 : Int32)), .ref 178]) rfl (jv_op_irem (by decide)) ?_
  refine jv_Ev.br jv_i361 (pc' := 12) (st' := [.ref 178]) rfl (jv_bi_eq.trans (jx_got (by rw [g1] <;> decide))) ?_
  refine jv_Ev.steps jv_i361 2 (pc' := 15) (l' := [(0, .ref 178), (1, .int p1)]) (st' := [.int (16 : Int32), .int p1, .ref 178]) rfl ?_
  refine jv_Ev.br jv_i361 (pc' := 18) (st' := [.ref 178]) rfl (jv_bc_lt.trans (jx_gof g2)) ?_
  refine jv_Ev.steps jv_i361 2 (pc' := 21) (l' := [(0, .ref 178), (1, .int p1)]) (st' := [.int (56 : Int32), .int p1, .ref 178]) rfl ?_
  refine jv_Ev.br jv_i361 (pc' := 28) (st' := [.ref 178]) rfl (jv_bc_le.trans (jx_got (Int32.not_lt.mp g3))) ?_
  refine jv_Ev.steps jv_i361 1 (pc' := 29) (l' := [(0, .ref 178), (1, .int p1)]) (st' := [.int (0 : Int32), .ref 178]) rfl ?_
  refine jv_Ev.m jv_i361 (pc' := 32) (st' := []) rfl rfl (jv_m_putI rfl rfl rfl rfl rfl) ?_
  refine jv_Ev.steps jv_i361 1 (pc' := 33) (l' := [(0, .ref 178), (1, .int p1)]) (st' := [.ref 178]) rfl ?_
  refine jv_Ev.m jv_i361 (pc' := 36) (st' := [.int (0 : Int32)]) rfl rfl (jv_m_getI rfl rfl rfl rfl) ?_
  refine jv_Ev.br jv_i361 (pc' := 43) (st' := []) rfl (jv_bi_le.trans (jx_got (by decide))) ?_
  refine jv_Ev.steps jv_i361 1 (pc' := 44) (l' := [(0, .ref 178), (1, .int p1)]) (st' := [.int (0 : Int32)]) rfl ?_
  exact jv_Ev.ret jv_i361 rfl (jv_ret_b (by decide))

set_option maxRecDepth 100000 in
/-- ProgramBoxModel.noField -/
theorem jx_e87 (p0 : Int32) (p1 : Int32) (p2 : Int32) (p3 : Int32) (p4 : Int32) (p5 : Int32) (g1 : (p1 - p1 / (8 : Int32) * (8 : Int32)) = (0 : Int32)) (g2 : ¬ p1 < (16 : Int32)) (g3 : ¬ (56 : Int32) < p1) : jv_Ms 361 [.ref 178, .int p1] (jv_H (jx_K 227) (jv_u (jv_u jx_If 178 0 (0 : Int32)) 178 0 (0 : Int32)) (jv_u jx_L0 226 (0 : Int32).toNatClampNeg (0 : Int64)) (jx_R 227)) 227 1572950 (some (.int (0 : Int32)), (jv_H (jx_K 227) (jv_u (jv_u (jv_u jx_If 178 0 (0 : Int32)) 178 0 (0 : Int32)) 178 0 (0 : Int32)) (jv_u jx_L0 226 (0 : Int32).toNatClampNeg (0 : Int64)) (jx_R 227)), 227, 1572950) := by
  show jv_Ev 361 0 [(0, .ref 178), (1, .int p1)] [] (jv_H (jx_K 227) (jv_u (jv_u jx_If 178 0 (0 : Int32)) 178 0 (0 : Int32)) (jv_u jx_L0 226 (0 : Int32).toNatClampNeg (0 : Int64)) (jx_R 227)) 227 1572950 _
  refine jv_Ev.steps jv_i361 3 (pc' := 4) (l' := [(0, .ref 178), (1, .int p1)]) (st' := [.int (8 : Int32), .int p1, .ref 178]) rfl ?_
  refine jv_Ev.op jv_i361 (pc' := 5) (l' := [(0, .ref 178), (1, .int p1)]) (st' := [.int (p1 - p1 / (8 : Int32) * (8 : Int32)), .ref 178]) rfl (jv_op_irem (by decide)) ?_
  refine jv_Ev.br jv_i361 (pc' := 12) (st' := [.ref 178]) rfl (jv_bi_eq.trans (jx_got (by rw [g1] <;> decide))) ?_
  refine jv_Ev.steps jv_i361 2 (pc' := 15) (l' := [(0, .ref 178), (1, .int p1)]) (st' := [.int (16 : Int32), .int p1, .ref 178]) rfl ?_
  refine jv_Ev.br jv_i361 (pc' := 18) (st' := [.ref 178]) rfl (jv_bc_lt.trans (jx_gof g2)) ?_
  refine jv_Ev.steps jv_i361 2 (pc' := 21) (l' := [(0, .ref 178), (1, .int p1)]) (st' := [.int (56 : Int32), .int p1, .ref 178]) rfl ?_
  refine jv_Ev.br jv_i361 (pc' := 28) (st' := [.ref 178]) rfl (jv_bc_le.trans (jx_got (Int32.not_lt.mp g3))) ?_
  refine jv_Ev.steps jv_i361 1 (pc' := 29) (l' := [(0, .ref 178), (1, .int p1)]) (st' := [.int (0 : Int32), .ref 178]) rfl ?_
  refine jv_Ev.m jv_i361 (pc' := 32) (st' := []) rfl rfl (jv_m_putI rfl rfl rfl rfl rfl) ?_
  refine jv_Ev.steps jv_i361 1 (pc' := 33) (l' := [(0, .ref 178), (1, .int p1)]) (st' := [.ref 178]) rfl ?_
  refine jv_Ev.m jv_i361 (pc' := 36) (st' := [.int (0 : Int32)]) rfl rfl (jv_m_getI rfl rfl rfl rfl) ?_
  refine jv_Ev.br jv_i361 (pc' := 43) (st' := []) rfl (jv_bi_le.trans (jx_got (by decide))) ?_
  refine jv_Ev.steps jv_i361 1 (pc' := 44) (l' := [(0, .ref 178), (1, .int p1)]) (st' := [.int (0 : Int32)]) rfl ?_
  exact jv_Ev.ret jv_i361 rfl (jv_ret_b (by decide))

set_option maxRecDepth 100000 in
/-- ProgramBoxModel.noField -/
theorem jx_e88 (p0 : Int32) (p1 : Int32) (p2 : Int32) (p3 : Int32) (p4 : Int32) (p5 : Int32) (g1 : (p1 - p1 / (8 : Int32) * (8 : Int32)) = (0 : Int32)) (g2 : ¬ p1 < (16 : Int32)) (g3 : ¬ (56 : Int32) < p1) : jv_Ms 361 [.ref 178, .int p1] (jv_H (jx_K 227) (jv_u (jv_u (jv_u jx_If 178 0 (0 : Int32)) 178 0 (0 : Int32)) 178 0 (0 : Int32)) (jv_u jx_L0 226 (0 : Int32).toNatClampNeg (0 : Int64)) (jx_R 227)) 227 1572950 (some (.int (0 : Int32)), (jv_H (jx_K 227) (jv_u (jv_u (jv_u (jv_u jx_If 178 0 (0 : Int32)) 178 0 (0 : Int32)) 178 0 (0 : Int32)) 178 0 (0 : Int32)) (jv_u jx_L0 226 (0 : Int32).toNatClampNeg (0 : Int64)) (jx_R 227)), 227, 1572950) := by
  show jv_Ev 361 0 [(0, .ref 178), (1, .int p1)] [] (jv_H (jx_K 227) (jv_u (jv_u (jv_u jx_If 178 0 (0 : Int32)) 178 0 (0 : Int32)) 178 0 (0 : Int32)) (jv_u jx_L0 226 (0 : Int32).toNatClampNeg (0 : Int64)) (jx_R 227)) 227 1572950 _
  refine jv_Ev.steps jv_i361 3 (pc' := 4) (l' := [(0, .ref 178), (1, .int p1)]) (st' := [.int (8 : Int32), .int p1, .ref 178]) rfl ?_
  refine jv_Ev.op jv_i361 (pc' := 5) (l' := [(0, .ref 178), (1, .int p1)]) (st' := [.int (p1 - p1 / (8 : Int32) * (8 : Int32)), .ref 178]) rfl (jv_op_irem (by decide)) ?_
  refine jv_Ev.br jv_i361 (pc' := 12) (st' := [.ref 178]) rfl (jv_bi_eq.trans (jx_got (by rw [g1] <;> decide))) ?_
  refine jv_Ev.steps jv_i361 2 (pc' := 15) (l' := [(0, .ref 178), (1, .int p1)]) (st' := [.int (16 : Int32), .int p1, .ref 178]) rfl ?_
  refine jv_Ev.br jv_i361 (pc' := 18) (st' := [.ref 178]) rfl (jv_bc_lt.trans (jx_gof g2)) ?_
  refine jv_Ev.steps jv_i361 2 (pc' := 21) (l' := [(0, .ref 178), (1, .int p1)]) (st' := [.int (56 : Int32), .int p1, .ref 178]) rfl ?_
  refine jv_Ev.br jv_i361 (pc' := 28) (st' := [.ref 178]) rfl (jv_bc_le.trans (jx_got (Int32.not_lt.mp g3))) ?_
  refine jv_Ev.steps jv_i361 1 (pc' := 29) (l' := [(0, .ref 178), (1, .int p1)]) (st' := [.int (0 : Int32), .ref 178]) rfl ?_
  refine jv_Ev.m jv_i361 (pc' := 32) (st' := []) rfl rfl (jv_m_putI rfl rfl rfl rfl rfl) ?_
  refine jv_Ev.steps jv_i361 1 (pc' := 33) (l' := [(0, .ref 178), (1, .int p1)]) (st' := [.ref 178]) rfl ?_
  refine jv_Ev.m jv_i361 (pc' := 36) (st' := [.int (0 : Int32)]) rfl rfl (jv_m_getI rfl rfl rfl rfl) ?_
  refine jv_Ev.br jv_i361 (pc' := 43) (st' := []) rfl (jv_bi_le.trans (jx_got (by decide))) ?_
  refine jv_Ev.steps jv_i361 1 (pc' := 44) (l' := [(0, .ref 178), (1, .int p1)]) (st' := [.int (0 : Int32)]) rfl ?_
  exact jv_Ev.ret jv_i361 rfl (jv_ret_b (by decide))

set_option maxRecDepth 100000 in
/-- ProgramBoxModel.noField -/
theorem jx_e89 (p0 : Int32) (p1 : Int32) (p2 : Int32) (p3 : Int32) (p4 : Int32) (p5 : Int32) (g1 : (p1 - p1 / (8 : Int32) * (8 : Int32)) = (0 : Int32)) (g2 : ¬ p1 < (16 : Int32)) (g3 : ¬ (56 : Int32) < p1) : jv_Ms 361 [.ref 178, .int p1] (jv_H (jx_K 227) (jv_u (jv_u (jv_u (jv_u jx_If 178 0 (0 : Int32)) 178 0 (0 : Int32)) 178 0 (0 : Int32)) 178 0 (0 : Int32)) (jv_u jx_L0 226 (0 : Int32).toNatClampNeg (0 : Int64)) (jx_R 227)) 227 1572950 (some (.int (0 : Int32)), (jv_H (jx_K 227) (jv_u (jv_u (jv_u (jv_u (jv_u jx_If 178 0 (0 : Int32)) 178 0 (0 : Int32)) 178 0 (0 : Int32)) 178 0 (0 : Int32)) 178 0 (0 : Int32)) (jv_u jx_L0 226 (0 : Int32).toNatClampNeg (0 : Int64)) (jx_R 227)), 227, 1572950) := by
  show jv_Ev 361 0 [(0, .ref 178), (1, .int p1)] [] (jv_H (jx_K 227) (jv_u (jv_u (jv_u (jv_u jx_If 178 0 (0 : Int32)) 178 0 (0 : Int32)) 178 0 (0 : Int32)) 178 0 (0 : Int32)) (jv_u jx_L0 226 (0 : Int32).toNatClampNeg (0 : Int64)) (jx_R 227)) 227 1572950 _
  refine jv_Ev.steps jv_i361 3 (pc' := 4) (l' := [(0, .ref 178), (1, .int p1)]) (st' := [.int (8 : Int32), .int p1, .ref 178]) rfl ?_
  refine jv_Ev.op jv_i361 (pc' := 5) (l' := [(0, .ref 178), (1, .int p1)]) (st' := [.int (p1 - p1 / (8 : Int32) * (8 : Int32)), .ref 178]) rfl (jv_op_irem (by decide)) ?_
  refine jv_Ev.br jv_i361 (pc' := 12) (st' := [.ref 178]) rfl (jv_bi_eq.trans (jx_got (by rw [g1] <;> decide))) ?_
  refine jv_Ev.steps jv_i361 2 (pc' := 15) (l' := [(0, .ref 178), (1, .int p1)]) (st' := [.int (16 : Int32), .int p1, .ref 178]) rfl ?_
  refine jv_Ev.br jv_i361 (pc' := 18) (st' := [.ref 178]) rfl (jv_bc_lt.trans (jx_gof g2)) ?_
  refine jv_Ev.steps jv_i361 2 (pc' := 21) (l' := [(0, .ref 178), (1, .int p1)]) (st' := [.int (56 : Int32), .int p1, .ref 178]) rfl ?_
  refine jv_Ev.br jv_i361 (pc' := 28) (st' := [.ref 178]) rfl (jv_bc_le.trans (jx_got (Int32.not_lt.mp g3))) ?_
  refine jv_Ev.steps jv_i361 1 (pc' := 29) (l' := [(0, .ref 178), (1, .int p1)]) (st' := [.int (0 : Int32), .ref 178]) rfl ?_
  refine jv_Ev.m jv_i361 (pc' := 32) (st' := []) rfl rfl (jv_m_putI rfl rfl rfl rfl rfl) ?_
  refine jv_Ev.steps jv_i361 1 (pc' := 33) (l' := [(0, .ref 178), (1, .int p1)]) (st' := [.ref 178]) rfl ?_
  refine jv_Ev.m jv_i361 (pc' := 36) (st' := [.int (0 : Int32)]) rfl rfl (jv_m_getI rfl rfl rfl rfl) ?_
  refine jv_Ev.br jv_i361 (pc' := 43) (st' := []) rfl (jv_bi_le.trans (jx_got (by decide))) ?_
  refine jv_Ev.steps jv_i361 1 (pc' := 44) (l' := [(0, .ref 178), (1, .int p1)]) (st' := [.int (0 : Int32)]) rfl ?_
  exact jv_Ev.ret jv_i361 rfl (jv_ret_b (by decide))

set_option maxRecDepth 100000 in
/-- ProgramBoxModel.noField -/
theorem jx_e90 (p0 : Int32) (p1 : Int32) (p2 : Int32) (p3 : Int32) (p4 : Int32) (p5 : Int32) (g1 : (p1 - p1 / (8 : Int32) * (8 : Int32)) = (0 : Int32)) (g2 : ¬ p1 < (16 : Int32)) (g3 : ¬ (56 : Int32) < p1) : jv_Ms 361 [.ref 178, .int p1] (jv_H (jx_K 227) (jv_u (jv_u (jv_u (jv_u (jv_u jx_If 178 0 (0 : Int32)) 178 0 (0 : Int32)) 178 0 (0 : Int32)) 178 0 (0 : Int32)) 178 0 (0 : Int32)) (jv_u jx_L0 226 (0 : Int32).toNatClampNeg (0 : Int64)) (jx_R 227)) 227 1572950 (some (.int (0 : Int32)), (jv_H (jx_K 227) (jv_u (jv_u (jv_u (jv_u (jv_u (jv_u jx_If 178 0 (0 : Int32)) 178 0 (0 : Int32)) 178 0 (0 : Int32)) 178 0 (0 : Int32)) 178 0 (0 : Int32)) 178 0 (0 : Int32)) (jv_u jx_L0 226 (0 : Int32).toNatClampNeg (0 : Int64)) (jx_R 227)), 227, 1572950) := by
  show jv_Ev 361 0 [(0, .ref 178), (1, .int p1)] [] (jv_H (jx_K 227) (jv_u (jv_u (jv_u (jv_u (jv_u jx_If 178 0 (0 : Int32)) 178 0 (0 : Int32)) 178 0 (0 : Int32)) 178 0 (0 : Int32)) 178 0 (0 : Int32)) (jv_u jx_L0 226 (0 : Int32).toNatClampNeg (0 : Int64)) (jx_R 227)) 227 1572950 _
  refine jv_Ev.steps jv_i361 3 (pc' := 4) (l' := [(0, .ref 178), (1, .int p1)]) (st' := [.int (8 : Int32), .int p1, .ref 178]) rfl ?_
  refine jv_Ev.op jv_i361 (pc' := 5) (l' := [(0, .ref 178), (1, .int p1)]) (st' := [.int (p1 - p1 / (8 : Int32) * (8 : Int32)), .ref 178]) rfl (jv_op_irem (by decide)) ?_
  refine jv_Ev.br jv_i361 (pc' := 12) (st' := [.ref 178]) rfl (jv_bi_eq.trans (jx_got (by rw [g1] <;> decide))) ?_
  refine jv_Ev.steps jv_i361 2 (pc' := 15) (l' := [(0, .ref 178), (1, .int p1)]) (st' := [.int (16 : Int32), .int p1, .ref 178]) rfl ?_
  refine jv_Ev.br jv_i361 (pc' := 18) (st' := [.ref 178]) rfl (jv_bc_lt.trans (jx_gof g2)) ?_
  refine jv_Ev.steps jv_i361 2 (pc' := 21) (l' := [(0, .ref 178), (1, .int p1)]) (st' := [.int (56 : Int32), .int p1, .ref 178]) rfl ?_
  refine jv_Ev.br jv_i361 (pc' := 28) (st' := [.ref 178]) rfl (jv_bc_le.trans (jx_got (Int32.not_lt.mp g3))) ?_
  refine jv_Ev.steps jv_i361 1 (pc' := 29) (l' := [(0, .ref 178), (1, .int p1)]) (st' := [.int (0 : Int32), .ref 178]) rfl ?_
  refine jv_Ev.m jv_i361 (pc' := 32) (st' := []) rfl rfl (jv_m_putI rfl rfl rfl rfl rfl) ?_
  refine jv_Ev.steps jv_i361 1 (pc' := 33) (l' := [(0, .ref 178), (1, .int p1)]) (st' := [.ref 178]) rfl ?_
  refine jv_Ev.m jv_i361 (pc' := 36) (st' := [.int (0 : Int32)]) rfl rfl (jv_m_getI rfl rfl rfl rfl) ?_
  refine jv_Ev.br jv_i361 (pc' := 43) (st' := []) rfl (jv_bi_le.trans (jx_got (by decide))) ?_
  refine jv_Ev.steps jv_i361 1 (pc' := 44) (l' := [(0, .ref 178), (1, .int p1)]) (st' := [.int (0 : Int32)]) rfl ?_
  exact jv_Ev.ret jv_i361 rfl (jv_ret_b (by decide))

set_option maxRecDepth 100000 in
/-- ProgramBoxModel.noField -/
theorem jx_e91 (p0 : Int32) (p1 : Int32) (p2 : Int32) (p3 : Int32) (p4 : Int32) (p5 : Int32) (g1 : (p1 - p1 / (8 : Int32) * (8 : Int32)) = (0 : Int32)) (g2 : ¬ p1 < (16 : Int32)) (g3 : ¬ (56 : Int32) < p1) : jv_Ms 361 [.ref 178, .int p1] (jv_H (jx_K 227) (jv_u (jv_u (jv_u (jv_u (jv_u (jv_u jx_If 178 0 (0 : Int32)) 178 0 (0 : Int32)) 178 0 (0 : Int32)) 178 0 (0 : Int32)) 178 0 (0 : Int32)) 178 0 (0 : Int32)) (jv_u jx_L0 226 (0 : Int32).toNatClampNeg (0 : Int64)) (jx_R 227)) 227 1572950 (some (.int (0 : Int32)), (jv_H (jx_K 227) (jv_u (jv_u (jv_u (jv_u (jv_u (jv_u (jv_u jx_If 178 0 (0 : Int32)) 178 0 (0 : Int32)) 178 0 (0 : Int32)) 178 0 (0 : Int32)) 178 0 (0 : Int32)) 178 0 (0 : Int32)) 178 0 (0 : Int32)) (jv_u jx_L0 226 (0 : Int32).toNatClampNeg (0 : Int64)) (jx_R 227)), 227, 1572950) := by
  show jv_Ev 361 0 [(0, .ref 178), (1, .int p1)] [] (jv_H (jx_K 227) (jv_u (jv_u (jv_u (jv_u (jv_u (jv_u jx_If 178 0 (0 : Int32)) 178 0 (0 : Int32)) 178 0 (0 : Int32)) 178 0 (0 : Int32)) 178 0 (0 : Int32)) 178 0 (0 : Int32)) (jv_u jx_L0 226 (0 : Int32).toNatClampNeg (0 : Int64)) (jx_R 227)) 227 1572950 _
  refine jv_Ev.steps jv_i361 3 (pc' := 4) (l' := [(0, .ref 178), (1, .int p1)]) (st' := [.int (8 : Int32), .int p1, .ref 178]) rfl ?_
  refine jv_Ev.op jv_i361 (pc' := 5) (l' := [(0, .ref 178), (1, .int p1)]) (st' := [.int (p1 - p1 / (8 : Int32) * (8 : Int32)), .ref 178]) rfl (jv_op_irem (by decide)) ?_
  refine jv_Ev.br jv_i361 (pc' := 12) (st' := [.ref 178]) rfl (jv_bi_eq.trans (jx_got (by rw [g1] <;> decide))) ?_
  refine jv_Ev.steps jv_i361 2 (pc' := 15) (l' := [(0, .ref 178), (1, .int p1)]) (st' := [.int (16 : Int32), .int p1, .ref 178]) rfl ?_
  refine jv_Ev.br jv_i361 (pc' := 18) (st' := [.ref 178]) rfl (jv_bc_lt.trans (jx_gof g2)) ?_
  refine jv_Ev.steps jv_i361 2 (pc' := 21) (l' := [(0, .ref 178), (1, .int p1)]) (st' := [.int (56 : Int32), .int p1, .ref 178]) rfl ?_
  refine jv_Ev.br jv_i361 (pc' := 28) (st' := [.ref 178]) rfl (jv_bc_le.trans (jx_got (Int32.not_lt.mp g3))) ?_
  refine jv_Ev.steps jv_i361 1 (pc' := 29) (l' := [(0, .ref 178), (1, .int p1)]) (st' := [.int (0 : Int32), .ref 178]) rfl ?_
  refine jv_Ev.m jv_i361 (pc' := 32) (st' := []) rfl rfl (jv_m_putI rfl rfl rfl rfl rfl) ?_
  refine jv_Ev.steps jv_i361 1 (pc' := 33) (l' := [(0, .ref 178), (1, .int p1)]) (st' := [.ref 178]) rfl ?_
  refine jv_Ev.m jv_i361 (pc' := 36) (st' := [.int (0 : Int32)]) rfl rfl (jv_m_getI rfl rfl rfl rfl) ?_
  refine jv_Ev.br jv_i361 (pc' := 43) (st' := []) rfl (jv_bi_le.trans (jx_got (by decide))) ?_
  refine jv_Ev.steps jv_i361 1 (pc' := 44) (l' := [(0, .ref 178), (1, .int p1)]) (st' := [.int (0 : Int32)]) rfl ?_
  exact jv_Ev.ret jv_i361 rfl (jv_ret_b (by decide))

set_option maxRecDepth 100000 in
/-- ProgramBoxModel.noField -/
theorem jx_e92 (p0 : Int32) (p1 : Int32) (p2 : Int32) (p3 : Int32) (p4 : Int32) (p5 : Int32) (g1 : (p1 - p1 / (8 : Int32) * (8 : Int32)) = (0 : Int32)) (g2 : ¬ p1 < (16 : Int32)) (g3 : ¬ (56 : Int32) < p1) : jv_Ms 361 [.ref 178, .int p1] (jv_H (jx_K 227) (jv_u (jv_u (jv_u (jv_u (jv_u (jv_u (jv_u jx_If 178 0 (0 : Int32)) 178 0 (0 : Int32)) 178 0 (0 : Int32)) 178 0 (0 : Int32)) 178 0 (0 : Int32)) 178 0 (0 : Int32)) 178 0 (0 : Int32)) (jv_u jx_L0 226 (0 : Int32).toNatClampNeg (0 : Int64)) (jx_R 227)) 227 1572950 (some (.int (0 : Int32)), (jv_H (jx_K 227) (jv_u (jv_u (jv_u (jv_u (jv_u (jv_u (jv_u (jv_u jx_If 178 0 (0 : Int32)) 178 0 (0 : Int32)) 178 0 (0 : Int32)) 178 0 (0 : Int32)) 178 0 (0 : Int32)) 178 0 (0 : Int32)) 178 0 (0 : Int32)) 178 0 (0 : Int32)) (jv_u jx_L0 226 (0 : Int32).toNatClampNeg (0 : Int64)) (jx_R 227)), 227, 1572950) := by
  show jv_Ev 361 0 [(0, .ref 178), (1, .int p1)] [] (jv_H (jx_K 227) (jv_u (jv_u (jv_u (jv_u (jv_u (jv_u (jv_u jx_If 178 0 (0 : Int32)) 178 0 (0 : Int32)) 178 0 (0 : Int32)) 178 0 (0 : Int32)) 178 0 (0 : Int32)) 178 0 (0 : Int32)) 178 0 (0 : Int32)) (jv_u jx_L0 226 (0 : Int32).toNatClampNeg (0 : Int64)) (jx_R 227)) 227 1572950 _
  refine jv_Ev.steps jv_i361 3 (pc' := 4) (l' := [(0, .ref 178), (1, .int p1)]) (st' := [.int (8 : Int32), .int p1, .ref 178]) rfl ?_
  refine jv_Ev.op jv_i361 (pc' := 5) (l' := [(0, .ref 178), (1, .int p1)]) (st' := [.int (p1 - p1 / (8 : Int32) * (8 : Int32)), .ref 178]) rfl (jv_op_irem (by decide)) ?_
  refine jv_Ev.br jv_i361 (pc' := 12) (st' := [.ref 178]) rfl (jv_bi_eq.trans (jx_got (by rw [g1] <;> decide))) ?_
  refine jv_Ev.steps jv_i361 2 (pc' := 15) (l' := [(0, .ref 178), (1, .int p1)]) (st' := [.int (16 : Int32), .int p1, .ref 178]) rfl ?_
  refine jv_Ev.br jv_i361 (pc' := 18) (st' := [.ref 178]) rfl (jv_bc_lt.trans (jx_gof g2)) ?_
  refine jv_Ev.steps jv_i361 2 (pc' := 21) (l' := [(0, .ref 178), (1, .int p1)]) (st' := [.int (56 : Int32), .int p1, .ref 178]) rfl ?_
  refine jv_Ev.br jv_i361 (pc' := 28) (st' := [.ref 178]) rfl (jv_bc_le.trans (jx_got (Int32.not_lt.mp g3))) ?_
  refine jv_Ev.steps jv_i361 1 (pc' := 29) (l' := [(0, .ref 178), (1, .int p1)]) (st' := [.int (0 : Int32), .ref 178]) rfl ?_
  refine jv_Ev.m jv_i361 (pc' := 32) (st' := []) rfl rfl (jv_m_putI rfl rfl rfl rfl rfl) ?_
  refine jv_Ev.steps jv_i361 1 (pc' := 33) (l' := [(0, .ref 178), (1, .int p1)]) (st' := [.ref 178]) rfl ?_
  refine jv_Ev.m jv_i361 (pc' := 36) (st' := [.int (0 : Int32)]) rfl rfl (jv_m_getI rfl rfl rfl rfl) ?_
  refine jv_Ev.br jv_i361 (pc' := 43) (st' := []) rfl (jv_bi_le.trans (jx_got (by decide))) ?_
  refine jv_Ev.steps jv_i361 1 (pc' := 44) (l' := [(0, .ref 178), (1, .int p1)]) (st' := [.int (0 : Int32)]) rfl ?_
  exact jv_Ev.ret jv_i361 rfl (jv_ret_b (by decide))

set_option maxRecDepth 100000 in
/-- ProgramBoxModel.field -/
theorem jx_e93 (p0 : Int32) (p1 : Int32) (p2 : Int32) (p3 : Int32) (p4 : Int32) (p5 : Int32) (g1 : (p1 - p1 / (8 : Int32) * (8 : Int32)) = (0 : Int32)) (g2 : ¬ p1 < (16 : Int32)) (g3 : ¬ (56 : Int32) < p1) : jv_Ms 363 [.ref 178, .int p1] (jv_H (jx_K 227) jx_If (jv_u jx_L0 226 (0 : Int32).toNatClampNeg (0 : Int64)) (jx_R 227)) 227 1572950 (some (.long (0 : Int64)), (jv_H (jx_K 227) (jv_u (jv_u (jv_u (jv_u (jv_u (jv_u (jv_u (jv_u jx_If 178 0 (0 : Int32)) 178 0 (0 : Int32)) 178 0 (0 : Int32)) 178 0 (0 : Int32)) 178 0 (0 : Int32)) 178 0 (0 : Int32)) 178 0 (0 : Int32)) 178 0 (0 : Int32)) (jv_u jx_L0 226 (0 : Int32).toNatClampNeg (0 : Int64)) (jx_R 227)), 227, 1572950) := by
  show jv_Ev 363 0 [(0, .ref 178), (1, .int p1)] [] (jv_H (jx_K 227) jx_If (jv_u jx_L0 226 (0 : Int32).toNatClampNeg (0 : Int64)) (jx_R 227)) 227 1572950 _
  refine jv_Ev.steps jv_i363 5 (pc' := 8) (l' := [(4, .int (7 : Int32)), (2, .long (0 : Int64)), (0, .ref 178), (1, .int p1)]) (st' := [.int (7 : Int32)]) rfl ?_
  refine jv_Ev.br jv_i363 (pc' := 11) (st' := []) rfl (jv_bi_lt.trans (jx_gof (by decide))) ?_
  refine jv_Ev.steps jv_i363 2 (pc' := 13) (l' := [(4, .int (7 : Int32)), (2, .long (0 : Int64)), (0, .ref 178), (1, .int p1)]) (st' := [.int p1, .ref 178]) rfl ?_
  refine jv_Ev.c jv_i363 (pc' := 16) (S' := [.int (0 : Int32)]) jv_i361 [.ref 178, .int p1] rfl rfl rfl rfl (jv_cal rfl (jv_H_at rfl) rfl rfl) rfl (jx_e85 p0 p1 p2 p3 p4 p5 g1 g2 g3) rfl rfl ?_
  refine jv_Ev.br jv_i363 (pc' := 19) (st' := []) rfl (jv_bi_ne.trans (jx_gof (by decide))) ?_
  refine jv_Ev.steps jv_i363 4 (pc' := 25) (l' := [(4, .int (7 : Int32)), (2, .long (0 : Int64)), (0, .ref 178), (1, .int p1)]) (st' := [.ref 178, .long (0 : Int64)]) rfl ?_
  refine jv_Ev.m jv_i363 (pc' := 28) (st' := [.ref 219, .long (0 : Int64)]) rfl rfl (jv_m_getR rfl rfl rfl rfl) ?_
  refine jv_Ev.steps jv_i363 3 (pc' := 32) (l' := [(4, .int (7 : Int32)), (2, .long (0 : Int64)), (0, .ref 178), (1, .int p1)]) (st' := [.int (p1 + (7 : Int32)), .ref 219, .long (0 : Int64)]) rfl ?_
  refine jv_Ev.m jv_i363 (pc' := 33) (st' := [.int (0 : Int32), .long (0 : Int64)]) rfl rfl (jv_m_ialdv rfl rfl (jx_ixa (k := 7) (fun q => g2 (Int32.lt_of_lt_of_le q (by decide))) g3 (by decide)) rfl rfl) ?_
  refine jv_Ev.steps jv_i363 6 (pc' := 8) (l' := [(4, .int (6 : Int32)), (2, .long (0 : Int64)), (0, .ref 178), (1, .int p1)]) (st' := [.int (6 : Int32)]) rfl ?_
  refine jv_Ev.br jv_i363 (pc' := 11) (st' := []) rfl (jv_bi_lt.trans (jx_gof (by decide))) ?_
  refine jv_Ev.steps jv_i363 2 (pc' := 13) (l' := [(4, .int (6 : Int32)), (2, .long (0 : Int64)), (0, .ref 178), (1, .int p1)]) (st' := [.int p1, .ref 178]) rfl ?_
  refine jv_Ev.c jv_i363 (pc' := 16) (S' := [.int (0 : Int32)]) jv_i361 [.ref 178, .int p1] rfl rfl rfl rfl (jv_cal rfl (jv_H_at rfl) rfl rfl) rfl (jx_e86 p0 p1 p2 p3 p4 p5 g1 g2 g3) rfl rfl ?_
  refine jv_Ev.br jv_i363 (pc' := 19) (st' := []) rfl (jv_bi_ne.trans (jx_gof (by decide))) ?_
  refine jv_Ev.steps jv_i363 4 (pc' := 25) (l' := [(4, .int (6 : Int32)), (2, .long (0 : Int64)), (0, .ref 178), (1, .int p1)]) (st' := [.ref 178, .long (0 : Int64)]) rfl ?_
  refine jv_Ev.m jv_i363 (pc' := 28) (st' := [.ref 219, .long (0 : Int64)]) rfl rfl (jv_m_getR rfl rfl rfl rfl) ?_
  refine jv_Ev.steps jv_i363 3 (pc' := 32) (l' := [(4, .int (6 : Int32)), (2, .long (0 : Int64)), (0, .ref 178), (1, .int p1)]) (st' := [.int (p1 + (6 : Int32)), .ref 219, .long (0 : Int64)]) rfl ?_
  refine jv_Ev.m jv_i363 (pc' := 33) (st' := [.int (0 : Int32), .long (0 : Int64)]) rfl rfl (jv_m_ialdv rfl rfl (jx_ixa (k := 6) (fun q => g2 (Int32.lt_of_lt_of_le q (by decide))) g3 (by decide)) rfl rfl) ?_
  refine jv_Ev.steps jv_i363 6 (pc' := 8) (l' := [(4, .int (5 : Int32)), (2, .long (0 : Int64)), (0, .ref 178), (1, .int p1)]) (st' := [.int (5 : Int32)]) rfl ?_
  refine jv_Ev.br jv_i363 (pc' := 11) (st' := []) rfl (jv_bi_lt.trans (jx_gof (by decide))) ?_
  refine jv_Ev.steps jv_i363 2 (pc' := 13) (l' := [(4, .int (5 : Int32)), (2, .long (0 : Int64)), (0, .ref 178), (1, .int p1)]) (st' := [.int p1, .ref 178]) rfl ?_
  refine jv_Ev.c jv_i363 (pc' := 16) (S' := [.int (0 : Int32)]) jv_i361 [.ref 178, .int p1] rfl rfl rfl rfl (jv_cal rfl (jv_H_at rfl) rfl rfl) rfl (jx_e87 p0 p1 p2 p3 p4 p5 g1 g2 g3) rfl rfl ?_
  refine jv_Ev.br jv_i363 (pc' := 19) (st' := []) rfl (jv_bi_ne.trans (jx_gof (by decide))) ?_
  refine jv_Ev.steps jv_i363 4 (pc' := 25) (l' := [(4, .int (5 : Int32)), (2, .long (0 : Int64)), (0, .ref 178), (1, .int p1)]) (st' := [.ref 178, .long (0 : Int64)]) rfl ?_
  refine jv_Ev.m jv_i363 (pc' := 28) (st' := [.ref 219, .long (0 : Int64)]) rfl rfl (jv_m_getR rfl rfl rfl rfl) ?_
  refine jv_Ev.steps jv_i363 3 (pc' := 32) (l' := [(4, .int (5 : Int32)), (2, .long (0 : Int64)), (0, .ref 178), (1, .int p1)]) (st' := [.int (p1 + (5 : Int32)), .ref 219, .long (0 : Int64)]) rfl ?_
  refine jv_Ev.m jv_i363 (pc' := 33) (st' := [.int (0 : Int32), .long (0 : Int64)]) rfl rfl (jv_m_ialdv rfl rfl (jx_ixa (k := 5) (fun q => g2 (Int32.lt_of_lt_of_le q (by decide))) g3 (by decide)) rfl rfl) ?_
  refine jv_Ev.steps jv_i363 6 (pc' := 8) (l' := [(4, .int (4 : Int32)), (2, .long (0 : Int64)), (0, .ref 178), (1, .int p1)]) (st' := [.int (4 : Int32)]) rfl ?_
  refine jv_Ev.br jv_i363 (pc' := 11) (st' := []) rfl (jv_bi_lt.trans (jx_gof (by decide))) ?_
  refine jv_Ev.steps jv_i363 2 (pc' := 13) (l' := [(4, .int (4 : Int32)), (2, .long (0 : Int64)), (0, .ref 178), (1, .int p1)]) (st' := [.int p1, .ref 178]) rfl ?_
  refine jv_Ev.c jv_i363 (pc' := 16) (S' := [.int (0 : Int32)]) jv_i361 [.ref 178, .int p1] rfl rfl rfl rfl (jv_cal rfl (jv_H_at rfl) rfl rfl) rfl (jx_e88 p0 p1 p2 p3 p4 p5 g1 g2 g3) rfl rfl ?_
  refine jv_Ev.br jv_i363 (pc' := 19) (st' := []) rfl (jv_bi_ne.trans (jx_gof (by decide))) ?_
  refine jv_Ev.steps jv_i363 4 (pc' := 25) (l' := [(4, .int (4 : Int32)), (2, .long (0 : Int64)), (0, .ref 178), (1, .int p1)]) (st' := [.ref 178, .long (0 : Int64)]) rfl ?_
  refine jv_Ev.m jv_i363 (pc' := 28) (st' := [.ref 219, .long (0 : Int64)]) rfl rfl (jv_m_getR rfl rfl rfl rfl) ?_
  refine jv_Ev.steps jv_i363 3 (pc' := 32) (l' := [(4, .int (4 : Int32)), (2, .long (0 : Int64)), (0, .ref 178), (1, .int p1)]) (st' := [.int (p1 + (4 : Int32)), .ref 219, .long (0 : Int64)]) rfl ?_
  refine jv_Ev.m jv_i363 (pc' := 33) (st' := [.int (0 : Int32), .long (0 : Int64)]) rfl rfl (jv_m_ialdv rfl rfl (jx_ixa (k := 4) (fun q => g2 (Int32.lt_of_lt_of_le q (by decide))) g3 (by decide)) rfl rfl) ?_
  refine jv_Ev.steps jv_i363 6 (pc' := 8) (l' := [(4, .int (3 : Int32)), (2, .long (0 : Int64)), (0, .ref 178), (1, .int p1)]) (st' := [.int (3 : Int32)]) rfl ?_
  refine jv_Ev.br jv_i363 (pc' := 11) (st' := []) rfl (jv_bi_lt.trans (jx_gof (by decide))) ?_
  refine jv_Ev.steps jv_i363 2 (pc' := 13) (l' := [(4, .int (3 : Int32)), (2, .long (0 : Int64)), (0, .ref 178), (1, .int p1)]) (st' := [.int p1, .ref 178]) rfl ?_
  refine jv_Ev.c jv_i363 (pc' := 16) (S' := [.int (0 : Int32)]) jv_i361 [.ref 178, .int p1] rfl rfl rfl rfl (jv_cal rfl (jv_H_at rfl) rfl rfl) rfl (jx_e89 p0 p1 p2 p3 p4 p5 g1 g2 g3) rfl rfl ?_
  refine jv_Ev.br jv_i363 (pc' := 19) (st' := []) rfl (jv_bi_ne.trans (jx_gof (by decide))) ?_
  refine jv_Ev.steps jv_i363 4 (pc' := 25) (l' := [(4, .int (3 : Int32)), (2, .long (0 : Int64)), (0, .ref 178), (1, .int p1)]) (st' := [.ref 178, .long (0 : Int64)]) rfl ?_
  refine jv_Ev.m jv_i363 (pc' := 28) (st' := [.ref 219, .long (0 : Int64)]) rfl rfl (jv_m_getR rfl rfl rfl rfl) ?_
  refine jv_Ev.steps jv_i363 3 (pc' := 32) (l' := [(4, .int (3 : Int32)), (2, .long (0 : Int64)), (0, .ref 178), (1, .int p1)]) (st' := [.int (p1 + (3 : Int32)), .ref 219, .long (0 : Int64)]) rfl ?_
  refine jv_Ev.m jv_i363 (pc' := 33) (st' := [.int (0 : Int32), .long (0 : Int64)]) rfl rfl (jv_m_ialdv rfl rfl (jx_ixa (k := 3) (fun q => g2 (Int32.lt_of_lt_of_le q (by decide))) g3 (by decide)) rfl rfl) ?_
  refine jv_Ev.steps jv_i363 6 (pc' := 8) (l' := [(4, .int (2 : Int32)), (2, .long (0 : Int64)), (0, .ref 178), (1, .int p1)]) (st' := [.int (2 : Int32)]) rfl ?_
  refine jv_Ev.br jv_i363 (pc' := 11) (st' := []) rfl (jv_bi_lt.trans (jx_gof (by decide))) ?_
  refine jv_Ev.steps jv_i363 2 (pc' := 13) (l' := [(4, .int (2 : Int32)), (2, .long (0 : Int64)), (0, .ref 178), (1, .int p1)]) (st' := [.int p1, .ref 178]) rfl ?_
  refine jv_Ev.c jv_i363 (pc' := 16) (S' := [.int (0 : Int32)]) jv_i361 [.ref 178, .int p1] rfl rfl rfl rfl (jv_cal rfl (jv_H_at rfl) rfl rfl) rfl (jx_e90 p0 p1 p2 p3 p4 p5 g1 g2 g3) rfl rfl ?_
  refine jv_Ev.br jv_i363 (pc' := 19) (st' := []) rfl (jv_bi_ne.trans (jx_gof (by decide))) ?_
  refine jv_Ev.steps jv_i363 4 (pc' := 25) (l' := [(4, .int (2 : Int32)), (2, .long (0 : Int64)), (0, .ref 178), (1, .int p1)]) (st' := [.ref 178, .long (0 : Int64)]) rfl ?_
  refine jv_Ev.m jv_i363 (pc' := 28) (st' := [.ref 219, .long (0 : Int64)]) rfl rfl (jv_m_getR rfl rfl rfl rfl) ?_
  refine jv_Ev.steps jv_i363 3 (pc' := 32) (l' := [(4, .int (2 : Int32)), (2, .long (0 : Int64)), (0, .ref 178), (1, .int p1)]) (st' := [.int (p1 + (2 : Int32)), .ref 219, .long (0 : Int64)]) rfl ?_
  refine jv_Ev.m jv_i363 (pc' := 33) (st' := [.int (0 : Int32), .long (0 : Int64)]) rfl rfl (jv_m_ialdv rfl rfl (jx_ixa (k := 2) (fun q => g2 (Int32.lt_of_lt_of_le q (by decide))) g3 (by decide)) rfl rfl) ?_
  refine jv_Ev.steps jv_i363 6 (pc' := 8) (l' := [(4, .int (1 : Int32)), (2, .long (0 : Int64)), (0, .ref 178), (1, .int p1)]) (st' := [.int (1 : Int32)]) rfl ?_
  refine jv_Ev.br jv_i363 (pc' := 11) (st' := []) rfl (jv_bi_lt.trans (jx_gof (by decide))) ?_
  refine jv_Ev.steps jv_i363 2 (pc' := 13) (l' := [(4, .int (1 : Int32)), (2, .long (0 : Int64)), (0, .ref 178), (1, .int p1)]) (st' := [.int p1, .ref 178]) rfl ?_
  refine jv_Ev.c jv_i363 (pc' := 16) (S' := [.int (0 : Int32)]) jv_i361 [.ref 178, .int p1] rfl rfl rfl rfl (jv_cal rfl (jv_H_at rfl) rfl rfl) rfl (jx_e91 p0 p1 p2 p3 p4 p5 g1 g2 g3) rfl rfl ?_
  refine jv_Ev.br jv_i363 (pc' := 19) (st' := []) rfl (jv_bi_ne.trans (jx_gof (by decide))) ?_
  refine jv_Ev.steps jv_i363 4 (pc' := 25) (l' := [(4, .int (1 : Int32)), (2, .long (0 : Int64)), (0, .ref 178), (1, .int p1)]) (st' := [.ref 178, .long (0 : Int64)]) rfl ?_
  refine jv_Ev.m jv_i363 (pc' := 28) (st' := [.ref 219, .long (0 : Int64)]) rfl rfl (jv_m_getR rfl rfl rfl rfl) ?_
  refine jv_Ev.steps jv_i363 3 (pc' := 32) (l' := [(4, .int (1 : Int32)), (2, .long (0 : Int64)), (0, .ref 178), (1, .int p1)]) (st' := [.int (p1 + (1 : Int32)), .ref 219, .long (0 : Int64)]) rfl ?_
  refine jv_Ev.m jv_i363 (pc' := 33) (st' := [.int (0 : Int32), .long (0 : Int64)]) rfl rfl (jv_m_ialdv rfl rfl (jx_ixa (k := 1) (fun q => g2 (Int32.lt_of_lt_of_le q (by decide))) g3 (by decide)) rfl rfl) ?_
  refine jv_Ev.steps jv_i363 6 (pc' := 8) (l' := [(4, .int (0 : Int32)), (2, .long (0 : Int64)), (0, .ref 178), (1, .int p1)]) (st' := [.int (0 : Int32)]) rfl ?_
  refine jv_Ev.br jv_i363 (pc' := 11) (st' := []) rfl (jv_bi_lt.trans (jx_gof (by decide))) ?_
  refine jv_Ev.steps jv_i363 2 (pc' := 13) (l' := [(4, .int (0 : Int32)), (2, .long (0 : Int64)), (0, .ref 178), (1, .int p1)]) (st' := [.int p1, .ref 178]) rfl ?_
  refine jv_Ev.c jv_i363 (pc' := 16) (S' := [.int (0 : Int32)]) jv_i361 [.ref 178, .int p1] rfl rfl rfl rfl (jv_cal rfl (jv_H_at rfl) rfl rfl) rfl (jx_e92 p0 p1 p2 p3 p4 p5 g1 g2 g3) rfl rfl ?_
  refine jv_Ev.br jv_i363 (pc' := 19) (st' := []) rfl (jv_bi_ne.trans (jx_gof (by decide))) ?_
  refine jv_Ev.steps jv_i363 4 (pc' := 25) (l' := [(4, .int (0 : Int32)), (2, .long (0 : Int64)), (0, .ref 178), (1, .int p1)]) (st' := [.ref 178, .long (0 : Int64)]) rfl ?_
  refine jv_Ev.m jv_i363 (pc' := 28) (st' := [.ref 219, .long (0 : Int64)]) rfl rfl (jv_m_getR rfl rfl rfl rfl) ?_
  refine jv_Ev.steps jv_i363 3 (pc' := 32) (l' := [(4, .int (0 : Int32)), (2, .long (0 : Int64)), (0, .ref 178), (1, .int p1)]) (st' := [.int (p1 + (0 : Int32)), .ref 219, .long (0 : Int64)]) rfl ?_
  refine jv_Ev.m jv_i363 (pc' := 33) (st' := [.int (0 : Int32), .long (0 : Int64)]) rfl rfl (jv_m_ialdv rfl rfl (jx_ixa (k := 0) (fun q => g2 (Int32.lt_of_lt_of_le q (by decide))) g3 (by decide)) rfl rfl) ?_
  refine jv_Ev.steps jv_i363 6 (pc' := 8) (l' := [(4, .int (-1 : Int32)), (2, .long (0 : Int64)), (0, .ref 178), (1, .int p1)]) (st' := [.int (-1 : Int32)]) rfl ?_
  refine jv_Ev.br jv_i363 (pc' := 42) (st' := []) rfl (jv_bi_lt.trans (jx_got (by decide))) ?_
  refine jv_Ev.steps jv_i363 1 (pc' := 43) (l' := [(4, .int (-1 : Int32)), (2, .long (0 : Int64)), (0, .ref 178), (1, .int p1)]) (st' := [.long (0 : Int64)]) rfl ?_
  exact jv_Ev.ret jv_i363 rfl rfl

set_option maxRecDepth 100000 in
/-- ProgramBoxModel.thrown -/
theorem jx_e94 (p0 : Int32) (p1 : Int32) (p2 : Int32) (p3 : Int32) (p4 : Int32) (p5 : Int32) (g1 : (p1 - p1 / (8 : Int32) * (8 : Int32)) = (0 : Int32)) (g2 : ¬ p1 < (16 : Int32)) (g3 : ¬ (56 : Int32) < p1) : jv_Ms 350 [.ref 178] (jv_H (jx_K 227) (jv_u (jv_u (jv_u (jv_u (jv_u (jv_u (jv_u (jv_u jx_If 178 0 (0 : Int32)) 178 0 (0 : Int32)) 178 0 (0 : Int32)) 178 0 (0 : Int32)) 178 0 (0 : Int32)) 178 0 (0 : Int32)) 178 0 (0 : Int32)) 178 0 (0 : Int32)) (jv_u jx_L0 226 (0 : Int32).toNatClampNeg (0 : Int64)) (jx_R 227)) 227 1572950 (some (.int (0 : Int32)), (jv_H (jx_K 227) (jv_u (jv_u (jv_u (jv_u (jv_u (jv_u (jv_u (jv_u jx_If 178 0 (0 : Int32)) 178 0 (0 : Int32)) 178 0 (0 : Int32)) 178 0 (0 : Int32)) 178 0 (0 : Int32)) 178 0 (0 : Int32)) 178 0 (0 : Int32)) 178 0 (0 : Int32)) (jv_u jx_L0 226 (0 : Int32).toNatClampNeg (0 : Int64)) (jx_R 227)), 227, 1572950) := by
  show jv_Ev 350 0 [(0, .ref 178)] [] (jv_H (jx_K 227) (jv_u (jv_u (jv_u (jv_u (jv_u (jv_u (jv_u (jv_u jx_If 178 0 (0 : Int32)) 178 0 (0 : Int32)) 178 0 (0 : Int32)) 178 0 (0 : Int32)) 178 0 (0 : Int32)) 178 0 (0 : Int32)) 178 0 (0 : Int32)) 178 0 (0 : Int32)) (jv_u jx_L0 226 (0 : Int32).toNatClampNeg (0 : Int64)) (jx_R 227)) 227 1572950 _
  refine jv_Ev.steps jv_i350 1 (pc' := 1) (l' := [(0, .ref 178)]) (st' := [.ref 178]) rfl ?_
  refine jv_Ev.m jv_i350 (pc' := 4) (st' := [.int (0 : Int32)]) rfl rfl (jv_m_getI rfl rfl rfl rfl) ?_
  exact jv_Ev.ret jv_i350 rfl rfl

set_option maxRecDepth 100000 in
/-- the law: case 11, one way -/
theorem jx_l19 (p0 : Int32) (p1 : Int32) (p2 : Int32) (p3 : Int32) (p4 : Int32) (p5 : Int32) (g1 : (p1 - p1 / (8 : Int32) * (8 : Int32)) = (0 : Int32)) (g2 : ¬ p1 < (16 : Int32)) (g3 : ¬ (56 : Int32) < p1) (hsw : p0 &&& (31 : Int32) = (11 : Int32)) {p : Program} {l : Launch} {e : Env} {R : Room} {s : State} {m : MethodId} {args : Array Value} {below : List Frame} {meth : Method} {c : Code} {E : jv_Env} {Q : State → Prop} (hTb : jv_TOk jv_Tb) (hT2 : jx_T2Ok) (hl : l.stackTraces = false) (F : jx_F jv_T2 439 E p R s m args meth c) (hZ : jx_Z E s) (hRc : R.cells = 600002) (hRs : R.slots = 7302232) {bb : Nat} {xs : Nat → Int32} (hX : va_X bb 6 xs s E.2.2.2.2) (hbB : bb < E.2.2.2.1) (hE2 : E.1 1000002 = bb) (hQ : ∀ (l0 : jv_L) (G : jv_G) (n sl : Nat), n ≤ 600002 → sl ≤ 7302232 → jw p l e R s m args below meth c E 8 0 0 Q 1532 l0 [.int (1 : Int32)] G n sl) (q0 : xs 0 = p0) (q1 : xs 1 = p1) (q2 : xs 2 = p2) (q3 : xs 3 = p3) (q4 : xs 4 = p4) (q5 : xs 5 = p5) : jw p l e R s m args below meth c E 8 0 0 Q 33 [(0, .ref 1000002), (1, .ref 0), (2, .ref 178), (3, .ref 226), (4, .int (0 : Int32))] [] (jv_H (jx_K 227) jx_If jx_L0 (jx_R 227)) 227 1572950 := by
  refine jw.steps F jx_i439 2 (pc' := 36) (l' := [(0, .ref 1000002), (1, .ref 0), (2, .ref 178), (3, .ref 226), (4, .int (0 : Int32))]) (st' := [.int (0 : Int32), .ref 1000002]) rfl ?_
  refine jw.sld F jx_i439 hX hbB hE2 (pc' := 37) rfl rfl (show vp_in (nI 0) 6 from vp_in_nI (by decide) (by decide)) q0 rfl ?_
  refine jw.steps F jx_i439 2 (pc' := 40) (l' := [(0, .ref 1000002), (1, .ref 0), (2, .ref 178), (3, .ref 226), (4, .int (0 : Int32))]) (st' := [.int (p0 &&& (31 : Int32))]) rfl ?_
  refine jw.br F jx_i439 (pc' := 672) (st' := []) rfl (by rw [hsw]; rfl) ?_
  refine jw.steps F jx_i439 5 (pc' := 678) (l' := [(0, .ref 1000002), (1, .ref 0), (2, .ref 178), (3, .ref 226), (4, .int (0 : Int32))]) (st' := [.int (1 : Int32), .ref 1000002, .ref 0]) rfl ?_
  refine jw.sld F jx_i439 hX hbB hE2 (pc' := 679) rfl rfl (show vp_in (nI 1) 6 from vp_in_nI (by decide) (by decide)) q1 rfl ?_
  refine jw.steps F jx_i439 1 (pc' := 680) (l' := [(0, .ref 1000002), (1, .ref 0), (2, .ref 178), (3, .ref 226), (4, .int (0 : Int32))]) (st' := [.ref 226, .int p1, .ref 0]) rfl ?_
  refine jw.wr F hl hZ rfl jx_i439 jx_i447 [.ref 0, .int p1, .ref 226] (pc' := 683) (S' := [.int (0 : Int32)]) rfl (List.mem_of_getElem? (i := 7) rfl) (List.mem_of_getElem? (i := 7) rfl) rfl rfl rfl (jx_w84 hTb hT2 p0 p1 p2 p3 p4 p5 g1 g2 g3) (by omega) (by omega) (by omega) (by omega) rfl rfl ?_
  refine jw.steps F jx_i439 6 (pc' := 691) (l' := [(5, .int (0 : Int32)), (0, .ref 1000002), (1, .ref 0), (2, .ref 178), (3, .ref 226), (4, .int (0 : Int32))]) (st' := [.int (1 : Int32), .ref 1000002, .ref 178]) rfl ?_
  refine jw.sld F jx_i439 hX hbB hE2 (pc' := 692) rfl rfl (show vp_in (nI 1) 6 from vp_in_nI (by decide) (by decide)) q1 rfl ?_
  refine jw.ca hTb F jx_i439 (pc' := 695) (S' := [.long (0 : Int64)]) rfl jv_i363 [.ref 178, .int p1] rfl rfl rfl rfl (jx_cal2 rfl (jv_H_at rfl) rfl rfl) rfl (jx_e93 p0 p1 p2 p3 p4 p5 g1 g2 g3) (by omega) (by omega) rfl rfl ?_
  refine jw.steps F jx_i439 2 (pc' := 698) (l' := [(6, .long (0 : Int64)), (5, .int (0 : Int32)), (0, .ref 1000002), (1, .ref 0), (2, .ref 178), (3, .ref 226), (4, .int (0 : Int32))]) (st' := [.ref 178]) rfl ?_
  refine jw.ca hTb F jx_i439 (pc' := 701) (S' := [.int (0 : Int32)]) rfl jv_i350 [.ref 178] rfl rfl rfl rfl (jx_cal2 rfl (jv_H_at rfl) rfl rfl) rfl (jx_e94 p0 p1 p2 p3 p4 p5 g1 g2 g3) (by omega) (by omega) rfl rfl ?_
  refine jw.steps F jx_i439 1 (pc' := 703) (l' := [(6, .long (0 : Int64)), (5, .int (0 : Int32)), (0, .ref 1000002), (1, .ref 0), (2, .ref 178), (3, .ref 226), (4, .int (0 : Int32))]) (st' := [.int (0 : Int32), .int (0 : Int32)]) rfl ?_
  refine jw.br F jx_i439 (pc' := 708) (st' := []) rfl (jv_bc_eq.trans (jx_got (by decide))) ?_
  refine jw.steps F jx_i439 1 (pc' := 710) (l' := [(6, .long (0 : Int64)), (5, .int (0 : Int32)), (0, .ref 1000002), (1, .ref 0), (2, .ref 178), (3, .ref 226), (4, .int (0 : Int32))]) (st' := [.int (0 : Int32)]) rfl ?_
  refine jw.br F jx_i439 (pc' := 713) (st' := []) rfl (jv_bi_ne.trans (jx_gof (by decide))) ?_
  refine jw.steps F jx_i439 2 (pc' := 715) (l' := [(6, .long (0 : Int64)), (5, .int (0 : Int32)), (0, .ref 1000002), (1, .ref 0), (2, .ref 178), (3, .ref 226), (4, .int (0 : Int32))]) (st' := [.int (0 : Int32), .ref 226]) rfl ?_
  refine jw.me F jx_i439 (pc' := 716) (st' := [.long (0 : Int64)]) rfl rfl (jv_m_laldv rfl rfl (by decide) rfl rfl) ?_
  refine jw.steps F jx_i439 2 (pc' := 719) (l' := [(6, .long (0 : Int64)), (5, .int (0 : Int32)), (0, .ref 1000002), (1, .ref 0), (2, .ref 178), (3, .ref 226), (4, .int (0 : Int32))]) (st' := [.int (0 : Int32)]) rfl ?_
  refine jw.br F jx_i439 (pc' := 724) (st' := []) rfl (jv_bi_eq.trans (jx_got (by decide))) ?_
  refine jw.steps F jx_i439 5 (pc' := 26) (l' := [(4, .int (6 : Int32)), (6, .long (0 : Int64)), (5, .int (0 : Int32)), (0, .ref 1000002), (1, .ref 0), (2, .ref 178), (3, .ref 226)]) (st' := [.ref 1000002, .int (6 : Int32)]) rfl ?_
  refine jw.slen F jx_i439 hX hbB hE2 (pc' := 27) rfl rfl rfl ?_
  refine jw.steps F jx_i439 2 (pc' := 30) (l' := [(4, .int (6 : Int32)), (6, .long (0 : Int64)), (5, .int (0 : Int32)), (0, .ref 1000002), (1, .ref 0), (2, .ref 178), (3, .ref 226)]) (st' := [.int (0 : Int32), .int (6 : Int32)]) rfl ?_
  refine jw.br F jx_i439 (pc' := 1531) (st' := []) rfl (jv_bc_gt.trans (jx_got (by decide))) ?_
  refine jw.steps F jx_i439 1 (pc' := 1532) (l' := [(4, .int (6 : Int32)), (6, .long (0 : Int64)), (5, .int (0 : Int32)), (0, .ref 1000002), (1, .ref 0), (2, .ref 178), (3, .ref 226)]) (st' := [.int (1 : Int32)]) rfl ?_
  exact hQ _ _ _ _ (by omega) (by omega)

set_option maxRecDepth 100000 in
/-- ProgramBox.testContext: it throws -/
theorem jx_e95 (hTb : jv_TOk jv_Tb) (p0 : Int32) (p1 : Int32) (p2 : Int32) (p3 : Int32) (p4 : Int32) (p5 : Int32) (g1 : ¬ (p1 - p1 / (8 : Int32) * (8 : Int32)) = (0 : Int32)) : jx_Th 426 [.int p1] (jv_H (jx_K 227) jx_If jx_L0 (jx_R 227)) 227 1572950 1 (jv_H (jx_K 227) jx_If jx_L0 (jx_R 227)) 228 1572956 := by
  refine jx_Th.of hTb (y := 426) rfl (Nat.le_of_ble_eq_true rfl) ?_
  intro p l e R s m args below meth c E hl F hZ h0 ht hRc hRs
  show jw p l e R s m args below meth c E 1 227 1572950 _ 0 [(0, .int p1)] [] (jv_H (jx_K 227) jx_If jx_L0 (jx_R 227)) 227 1572950
  refine jw.steps F jv_i426 2 (pc' := 3) (l' := [(0, .int p1)]) (st' := [.int (8 : Int32), .int p1]) rfl ?_
  refine jw.op F jv_i426 (pc' := 4) (l' := [(0, .int p1)]) (st' := [.int (p1 - p1 / (8 : Int32) * (8 : Int32))]) rfl (jv_op_irem (by decide)) ?_
  refine jw.br F jv_i426 (pc' := 7) (st' := []) rfl (jv_bi_eq.trans (jx_gof g1)) ?_
  exact jw.throw hl F hZ h0 rfl jv_i426 ht 1 143 "eight does not divide it" (List.mem_of_getElem? (i := 7) rfl) (by decide +kernel) (by decide +kernel) (by decide +kernel) (by decide +kernel) (by decide +kernel) rfl (by decide) (by decide) (by decide) (by omega) (by omega)

set_option maxRecDepth 100000 in
/-- ProgramBox.field: it throws -/
theorem jx_e96 (hTb : jv_TOk jv_Tb) (p0 : Int32) (p1 : Int32) (p2 : Int32) (p3 : Int32) (p4 : Int32) (p5 : Int32) (g1 : ¬ (p1 - p1 / (8 : Int32) * (8 : Int32)) = (0 : Int32)) : jx_Th 425 [.ref 0, .int p1] (jv_H (jx_K 227) jx_If jx_L0 (jx_R 227)) 227 1572950 1 (jv_H (jx_K 227) jx_If jx_L0 (jx_R 227)) 228 1572956 := by
  refine jx_Th.of hTb (y := 425) rfl (Nat.le_of_ble_eq_true rfl) ?_
  intro p l e R s m args below meth c E hl F hZ h0 ht hRc hRs
  show jw p l e R s m args below meth c E 2 227 1572950 _ 0 [(0, .ref 0), (1, .int p1)] [] (jv_H (jx_K 227) jx_If jx_L0 (jx_R 227)) 227 1572950
  refine jw.steps F jv_i425 1 (pc' := 1) (l' := [(0, .ref 0), (1, .int p1)]) (st' := [.int p1]) rfl ?_
  exact jw.prop hTb hl F hZ jv_i425 ht rfl jv_i426 [.int p1] rfl rfl rfl rfl rfl rfl rfl (jx_e95 hTb p0 p1 p2 p3 p4 p5 g1) (by omega) (by omega) (by omega) (by omega)

set_option maxRecDepth 100000 in
/-- the law's field -/
theorem jx_w97 (hTb : jv_TOk jv_Tb) (hT2 : jx_T2Ok) (p0 : Int32) (p1 : Int32) (p2 : Int32) (p3 : Int32) (p4 : Int32) (p5 : Int32) (g1 : ¬ (p1 - p1 / (8 : Int32) * (8 : Int32)) = (0 : Int32)) : jx_Wr 447 [(0, 8, 11, 36), (0, 8, 14, 19)] [.ref 0, .int p1, .ref 226] (jv_H (jx_K 227) jx_If jx_L0 (jx_R 227)) 227 1572950 (some (.int (2 : Int32)), (jv_H (jx_K 227) jx_If jx_L0 (jx_R 227)), 228, 1572956) := by
  refine jx_Wr.of hT2 (by decide) rfl (Nat.le_of_ble_eq_true rfl) ?_
  intro p l e R s m args below meth c E hl F hZ htb hRc hRs
  show jw p l e R s m args below meth c E 4 227 1572950 _ 0 [(0, .ref 0), (1, .int p1), (2, .ref 226)] [] (jv_H (jx_K 227) jx_If jx_L0 (jx_R 227)) 227 1572950
  have hRc : R.cells = 228 - 227 := hRc
  have hRs : R.slots = 1572956 - 1572950 := hRs
  refine jw.steps F jx_i447 4 (pc' := 4) (l' := [(0, .ref 0), (1, .int p1), (2, .ref 226)]) (st' := [.int p1, .ref 0, .int (0 : Int32), .ref 226]) rfl ?_
  refine jw.cat hTb hl F hZ rfl jx_i447 htb rfl jv_i425 [.ref 0, .int p1] rfl rfl rfl rfl rfl (jx_cal2 rfl (jv_H_at rfl) rfl rfl) rfl (jx_e96 hTb p0 p1 p2 p3 p4 p5 g1) (by omega) (by omega) (by omega) (by omega) [(0, 8, 11, 36)] (0, 8, 14, 19) [] rfl (List.forall_mem_cons.mpr ⟨⟨2, rfl, by decide⟩, fun z h => absurd h List.not_mem_nil⟩) (by decide) rfl rfl (Or.inr ⟨3, rfl, rfl, rfl⟩) (by decide) ?_
  refine jw.steps F jx_i447 1 (pc' := 16) (l' := []) (st' := [.int (2 : Int32)]) rfl ?_
  exact jw.ret F jx_i447 rfl rfl

set_option maxRecDepth 100000 in
/-- ProgramBoxModel.noField -/
theorem jx_e98 (p0 : Int32) (p1 : Int32) (p2 : Int32) (p3 : Int32) (p4 : Int32) (p5 : Int32) (g1 : ¬ (p1 - p1 / (8 : Int32) * (8 : Int32)) = (0 : Int32)) : jv_Ms 361 [.ref 178, .int p1] (jv_H (jx_K 227) jx_If jx_L0 (jx_R 227)) 228 1572956 (some (.int (1 : Int32)), (jv_H (jx_K 227) (jv_u jx_If 178 0 (2 : Int32)) jx_L0 (jx_R 227)), 228, 1572956) := by
  show jv_Ev 361 0 [(0, .ref 178), (1, .int p1)] [] (jv_H (jx_K 227) jx_If jx_L0 (jx_R 227)) 228 1572956 _
  refine jv_Ev.steps jv_i361 3 (pc' := 4) (l' := [(0, .ref 178), (1, .int p1)]) (st' := [.int (8 : Int32), .int p1, .ref 178]) rfl ?_
  refine jv_Ev.op jv_i361 (pc' := 5) (l' := [(0, .ref 178), (1, .int p1)]) (st' := [.int (p1 - p1 / (8 : Int32) * (8 : Int32)), .ref 178]) rfl (jv_op_irem (by decide)) ?_
  refine jv_Ev.br jv_i361 (pc' := 8) (st' := [.ref 178]) rfl (jv_bi_eq.trans (jx_gof g1)) ?_
  refine jv_Ev.steps jv_i361 2 (pc' := 29) (l' := [(0, .ref 178), (1, .int p1)]) (st' := [.int (2 : Int32), .ref 178]) rfl ?_
  refine jv_Ev.m jv_i361 (pc' := 32) (st' := []) rfl rfl (jv_m_putI rfl rfl rfl rfl rfl) ?_
  refine jv_Ev.steps jv_i361 1 (pc' := 33) (l' := [(0, .ref 178), (1, .int p1)]) (st' := [.ref 178]) rfl ?_
  refine jv_Ev.m jv_i361 (pc' := 36) (st' := [.int (2 : Int32)]) rfl rfl (jv_m_getI rfl rfl rfl rfl) ?_
  refine jv_Ev.br jv_i361 (pc' := 39) (st' := []) rfl (jv_bi_le.trans (jx_gof (by decide))) ?_
  refine jv_Ev.steps jv_i361 2 (pc' := 44) (l' := [(0, .ref 178), (1, .int p1)]) (st' := [.int (1 : Int32)]) rfl ?_
  exact jv_Ev.ret jv_i361 rfl (jv_ret_b (by decide))

set_option maxRecDepth 100000 in
/-- ProgramBoxModel.field -/
theorem jx_e99 (p0 : Int32) (p1 : Int32) (p2 : Int32) (p3 : Int32) (p4 : Int32) (p5 : Int32) (g1 : ¬ (p1 - p1 / (8 : Int32) * (8 : Int32)) = (0 : Int32)) : jv_Ms 363 [.ref 178, .int p1] (jv_H (jx_K 227) jx_If jx_L0 (jx_R 227)) 228 1572956 (some (.long (0 : Int64)), (jv_H (jx_K 227) (jv_u jx_If 178 0 (2 : Int32)) jx_L0 (jx_R 227)), 228, 1572956) := by
  show jv_Ev 363 0 [(0, .ref 178), (1, .int p1)] [] (jv_H (jx_K 227) jx_If jx_L0 (jx_R 227)) 228 1572956 _
  refine jv_Ev.steps jv_i363 5 (pc' := 8) (l' := [(4, .int (7 : Int32)), (2, .long (0 : Int64)), (0, .ref 178), (1, .int p1)]) (st' := [.int (7 : Int32)]) rfl ?_
  refine jv_Ev.br jv_i363 (pc' := 11) (st' := []) rfl (jv_bi_lt.trans (jx_gof (by decide))) ?_
  refine jv_Ev.steps jv_i363 2 (pc' := 13) (l' := [(4, .int (7 : Int32)), (2, .long (0 : Int64)), (0, .ref 178), (1, .int p1)]) (st' := [.int p1, .ref 178]) rfl ?_
  refine jv_Ev.c jv_i363 (pc' := 16) (S' := [.int (1 : Int32)]) jv_i361 [.ref 178, .int p1] rfl rfl rfl rfl (jv_cal rfl (jv_H_at rfl) rfl rfl) rfl (jx_e98 p0 p1 p2 p3 p4 p5 g1) rfl rfl ?_
  refine jv_Ev.br jv_i363 (pc' := 42) (st' := []) rfl (jv_bi_ne.trans (jx_got (by decide))) ?_
  refine jv_Ev.steps jv_i363 1 (pc' := 43) (l' := [(4, .int (7 : Int32)), (2, .long (0 : Int64)), (0, .ref 178), (1, .int p1)]) (st' := [.long (0 : Int64)]) rfl ?_
  exact jv_Ev.ret jv_i363 rfl rfl

set_option maxRecDepth 100000 in
/-- ProgramBoxModel.thrown -/
theorem jx_e100 (p0 : Int32) (p1 : Int32) (p2 : Int32) (p3 : Int32) (p4 : Int32) (p5 : Int32) (g1 : ¬ (p1 - p1 / (8 : Int32) * (8 : Int32)) = (0 : Int32)) : jv_Ms 350 [.ref 178] (jv_H (jx_K 227) (jv_u jx_If 178 0 (2 : Int32)) jx_L0 (jx_R 227)) 228 1572956 (some (.int (2 : Int32)), (jv_H (jx_K 227) (jv_u jx_If 178 0 (2 : Int32)) jx_L0 (jx_R 227)), 228, 1572956) := by
  show jv_Ev 350 0 [(0, .ref 178)] [] (jv_H (jx_K 227) (jv_u jx_If 178 0 (2 : Int32)) jx_L0 (jx_R 227)) 228 1572956 _
  refine jv_Ev.steps jv_i350 1 (pc' := 1) (l' := [(0, .ref 178)]) (st' := [.ref 178]) rfl ?_
  refine jv_Ev.m jv_i350 (pc' := 4) (st' := [.int (2 : Int32)]) rfl rfl (jv_m_getI rfl rfl rfl rfl) ?_
  exact jv_Ev.ret jv_i350 rfl rfl

set_option maxRecDepth 100000 in
/-- the law: case 11, one way -/
theorem jx_l20 (p0 : Int32) (p1 : Int32) (p2 : Int32) (p3 : Int32) (p4 : Int32) (p5 : Int32) (g1 : ¬ (p1 - p1 / (8 : Int32) * (8 : Int32)) = (0 : Int32)) (hsw : p0 &&& (31 : Int32) = (11 : Int32)) {p : Program} {l : Launch} {e : Env} {R : Room} {s : State} {m : MethodId} {args : Array Value} {below : List Frame} {meth : Method} {c : Code} {E : jv_Env} {Q : State → Prop} (hTb : jv_TOk jv_Tb) (hT2 : jx_T2Ok) (hl : l.stackTraces = false) (F : jx_F jv_T2 439 E p R s m args meth c) (hZ : jx_Z E s) (hRc : R.cells = 600002) (hRs : R.slots = 7302232) {bb : Nat} {xs : Nat → Int32} (hX : va_X bb 6 xs s E.2.2.2.2) (hbB : bb < E.2.2.2.1) (hE2 : E.1 1000002 = bb) (hQ : ∀ (l0 : jv_L) (G : jv_G) (n sl : Nat), n ≤ 600002 → sl ≤ 7302232 → jw p l e R s m args below meth c E 8 0 0 Q 1532 l0 [.int (1 : Int32)] G n sl) (q0 : xs 0 = p0) (q1 : xs 1 = p1) (q2 : xs 2 = p2) (q3 : xs 3 = p3) (q4 : xs 4 = p4) (q5 : xs 5 = p5) : jw p l e R s m args below meth c E 8 0 0 Q 33 [(0, .ref 1000002), (1, .ref 0), (2, .ref 178), (3, .ref 226), (4, .int (0 : Int32))] [] (jv_H (jx_K 227) jx_If jx_L0 (jx_R 227)) 227 1572950 := by
  refine jw.steps F jx_i439 2 (pc' := 36) (l' := [(0, .ref 1000002), (1, .ref 0), (2, .ref 178), (3, .ref 226), (4, .int (0 : Int32))]) (st' := [.int (0 : Int32), .ref 1000002]) rfl ?_
  refine jw.sld F jx_i439 hX hbB hE2 (pc' := 37) rfl rfl (show vp_in (nI 0) 6 from vp_in_nI (by decide) (by decide)) q0 rfl ?_
  refine jw.steps F jx_i439 2 (pc' := 40) (l' := [(0, .ref 1000002), (1, .ref 0), (2, .ref 178), (3, .ref 226), (4, .int (0 : Int32))]) (st' := [.int (p0 &&& (31 : Int32))]) rfl ?_
  refine jw.br F jx_i439 (pc' := 672) (st' := []) rfl (by rw [hsw]; rfl) ?_
  refine jw.steps F jx_i439 5 (pc' := 678) (l' := [(0, .ref 1000002), (1, .ref 0), (2, .ref 178), (3, .ref 226), (4, .int (0 : Int32))]) (st' := [.int (1 : Int32), .ref 1000002, .ref 0]) rfl ?_
  refine jw.sld F jx_i439 hX hbB hE2 (pc' := 679) rfl rfl (show vp_in (nI 1) 6 from vp_in_nI (by decide) (by decide)) q1 rfl ?_
  refine jw.steps F jx_i439 1 (pc' := 680) (l' := [(0, .ref 1000002), (1, .ref 0), (2, .ref 178), (3, .ref 226), (4, .int (0 : Int32))]) (st' := [.ref 226, .int p1, .ref 0]) rfl ?_
  refine jw.wr F hl hZ rfl jx_i439 jx_i447 [.ref 0, .int p1, .ref 226] (pc' := 683) (S' := [.int (2 : Int32)]) rfl (List.mem_of_getElem? (i := 7) rfl) (List.mem_of_getElem? (i := 7) rfl) rfl rfl rfl (jx_w97 hTb hT2 p0 p1 p2 p3 p4 p5 g1) (by omega) (by omega) (by omega) (by omega) rfl rfl ?_
  refine jw.steps F jx_i439 6 (pc' := 691) (l' := [(5, .int (2 : Int32)), (0, .ref 1000002), (1, .ref 0), (2, .ref 178), (3, .ref 226), (4, .int (0 : Int32))]) (st' := [.int (1 : Int32), .ref 1000002, .ref 178]) rfl ?_
  refine jw.sld F jx_i439 hX hbB hE2 (pc' := 692) rfl rfl (show vp_in (nI 1) 6 from vp_in_nI (by decide) (by decide)) q1 rfl ?_
  refine jw.ca hTb F jx_i439 (pc' := 695) (S' := [.long (0 : Int64)]) rfl jv_i363 [.ref 178, .int p1] rfl rfl rfl rfl (jx_cal2 rfl (jv_H_at rfl) rfl rfl) rfl (jx_e99 p0 p1 p2 p3 p4 p5 g1) (by omega) (by omega) rfl rfl ?_
  refine jw.steps F jx_i439 2 (pc' := 698) (l' := [(6, .long (0 : Int64)), (5, .int (2 : Int32)), (0, .ref 1000002), (1, .ref 0), (2, .ref 178), (3, .ref 226), (4, .int (0 : Int32))]) (st' := [.ref 178]) rfl ?_
  refine jw.ca hTb F jx_i439 (pc' := 701) (S' := [.int (2 : Int32)]) rfl jv_i350 [.ref 178] rfl rfl rfl rfl (jx_cal2 rfl (jv_H_at rfl) rfl rfl) rfl (jx_e100 p0 p1 p2 p3 p4 p5 g1) (by omega) (by omega) rfl rfl ?_
  refine jw.steps F jx_i439 1 (pc' := 703) (l' := [(6, .long (0 : Int64)), (5, .int (2 : Int32)), (0, .ref 1000002), (1, .ref 0), (2, .ref 178), (3, .ref 226), (4, .int (0 : Int32))]) (st' := [.int (2 : Int32), .int (2 : Int32)]) rfl ?_
  refine jw.br F jx_i439 (pc' := 708) (st' := []) rfl (jv_bc_eq.trans (jx_got (by decide))) ?_
  refine jw.steps F jx_i439 1 (pc' := 710) (l' := [(6, .long (0 : Int64)), (5, .int (2 : Int32)), (0, .ref 1000002), (1, .ref 0), (2, .ref 178), (3, .ref 226), (4, .int (0 : Int32))]) (st' := [.int (2 : Int32)]) rfl ?_
  refine jw.br F jx_i439 (pc' := 724) (st' := []) rfl (jv_bi_ne.trans (jx_got (by decide))) ?_
  refine jw.steps F jx_i439 5 (pc' := 26) (l' := [(4, .int (6 : Int32)), (6, .long (0 : Int64)), (5, .int (2 : Int32)), (0, .ref 1000002), (1, .ref 0), (2, .ref 178), (3, .ref 226)]) (st' := [.ref 1000002, .int (6 : Int32)]) rfl ?_
  refine jw.slen F jx_i439 hX hbB hE2 (pc' := 27) rfl rfl rfl ?_
  refine jw.steps F jx_i439 2 (pc' := 30) (l' := [(4, .int (6 : Int32)), (6, .long (0 : Int64)), (5, .int (2 : Int32)), (0, .ref 1000002), (1, .ref 0), (2, .ref 178), (3, .ref 226)]) (st' := [.int (0 : Int32), .int (6 : Int32)]) rfl ?_
  refine jw.br F jx_i439 (pc' := 1531) (st' := []) rfl (jv_bc_gt.trans (jx_got (by decide))) ?_
  refine jw.steps F jx_i439 1 (pc' := 1532) (l' := [(4, .int (6 : Int32)), (6, .long (0 : Int64)), (5, .int (2 : Int32)), (0, .ref 1000002), (1, .ref 0), (2, .ref 178), (3, .ref 226)]) (st' := [.int (1 : Int32)]) rfl ?_
  exact hQ _ _ _ _ (by omega) (by omega)

set_option maxRecDepth 100000 in
/-- the law: case 11 -/
theorem jx_case11 (p0 : Int32) (p1 : Int32) (p2 : Int32) (p3 : Int32) (p4 : Int32) (p5 : Int32) (hsw : p0 &&& (31 : Int32) = (11 : Int32)) {p : Program} {l : Launch} {e : Env} {R : Room} {s : State} {m : MethodId} {args : Array Value} {below : List Frame} {meth : Method} {c : Code} {E : jv_Env} {Q : State → Prop} (hTb : jv_TOk jv_Tb) (hT2 : jx_T2Ok) (hl : l.stackTraces = false) (F : jx_F jv_T2 439 E p R s m args meth c) (hZ : jx_Z E s) (hRc : R.cells = 600002) (hRs : R.slots = 7302232) {bb : Nat} {xs : Nat → Int32} (hX : va_X bb 6 xs s E.2.2.2.2) (hbB : bb < E.2.2.2.1) (hE2 : E.1 1000002 = bb) (hQ : ∀ (l0 : jv_L) (G : jv_G) (n sl : Nat), n ≤ 600002 → sl ≤ 7302232 → jw p l e R s m args below meth c E 8 0 0 Q 1532 l0 [.int (1 : Int32)] G n sl) (q0 : xs 0 = p0) (q1 : xs 1 = p1) (q2 : xs 2 = p2) (q3 : xs 3 = p3) (q4 : xs 4 = p4) (q5 : xs 5 = p5) : jw p l e R s m args below meth c E 8 0 0 Q 33 [(0, .ref 1000002), (1, .ref 0), (2, .ref 178), (3, .ref 226), (4, .int (0 : Int32))] [] (jv_H (jx_K 227) jx_If jx_L0 (jx_R 227)) 227 1572950 := by
  by_cases g1 : (p1 - p1 / (8 : Int32) * (8 : Int32)) = (0 : Int32)
  · by_cases g2 : p1 < (16 : Int32)
    · exact jx_l17 p0 p1 p2 p3 p4 p5 g1 g2 hsw hTb hT2 hl F hZ hRc hRs hX hbB hE2 hQ q0 q1 q2 q3 q4 q5
    · by_cases g3 : (56 : Int32) < p1
      · exact jx_l18 p0 p1 p2 p3 p4 p5 g1 g2 g3 hsw hTb hT2 hl F hZ hRc hRs hX hbB hE2 hQ q0 q1 q2 q3 q4 q5
      · exact jx_l19 p0 p1 p2 p3 p4 p5 g1 g2 g3 hsw hTb hT2 hl F hZ hRc hRs hX hbB hE2 hQ q0 q1 q2 q3 q4 q5
  · exact jx_l20 p0 p1 p2 p3 p4 p5 g1 hsw hTb hT2 hl F hZ hRc hRs hX hbB hE2 hQ q0 q1 q2 q3 q4 q5
