/-! part 80.c: the law: cases (gen/gen80.py) -/
set_option maxRecDepth 100000 in
theorem jx_i448 : jx_I jv_T2 448 5 (some .int) 8 201 jv_c448 := ⟨rfl, rfl, rfl, rfl, rfl⟩
set_option maxRecDepth 100000 in
theorem jv_i427 : jv_I 427 3 (some .int) 7 179 jv_c427 := ⟨rfl, rfl, rfl, rfl, rfl⟩
set_option maxRecDepth 100000 in
/-- ProgramBox.run: it throws -/
theorem jx_e101 (hTb : jv_TOk jv_Tb) (p0 : Int32) (p1 : Int32) (p2 : Int32) (p3 : Int32) (p4 : Int32) (p5 : Int32) (g1 : p2 < (0 : Int32)) : jx_Th 427 [.ref 0, .int p1, .int p2] (jv_H (jx_K 227) jx_If jx_L0 (jx_R 227)) 227 1572950 1 (jv_H (jx_K 227) jx_If jx_L0 (jx_R 227)) 228 1572956 := by
  refine jx_Th.of hTb (y := 427) rfl (Nat.le_of_ble_eq_true rfl) ?_
  intro p l e R s m args below meth c E hl F hZ h0 ht hRc hRs
  show jw p l e R s m args below meth c E 3 227 1572950 _ 0 [(0, .ref 0), (1, .int p1), (2, .int p2)] [] (jv_H (jx_K 227) jx_If jx_L0 (jx_R 227)) 227 1572950
  refine jw.steps F jv_i427 1 (pc' := 1) (l' := [(0, .ref 0), (1, .int p1), (2, .int p2)]) (st' := [.int p2]) rfl ?_
  refine jw.br F jv_i427 (pc' := 10) (st' := []) rfl (jv_bi_lt.trans (jx_got g1)) ?_
  exact jw.throw hl F hZ h0 rfl jv_i427 ht 1 152 "no run has this fuel" (List.mem_of_getElem? (i := 9) rfl) (by decide +kernel) (by decide +kernel) (by decide +kernel) (by decide +kernel) (by decide +kernel) rfl (by decide) (by decide) (by decide) (by omega) (by omega)

set_option maxRecDepth 100000 in
/-- the law's run -/
theorem jx_w102 (hTb : jv_TOk jv_Tb) (hT2 : jx_T2Ok) (p0 : Int32) (p1 : Int32) (p2 : Int32) (p3 : Int32) (p4 : Int32) (p5 : Int32) (g1 : p2 < (0 : Int32)) : jx_Wr 448 [(0, 10, 13, 36), (0, 10, 17, 19)] [.ref 0, .int p1, .int p2, .ref 226] (jv_H (jx_K 227) jx_If jx_L0 (jx_R 227)) 227 1572950 (some (.int (2 : Int32)), (jv_H (jx_K 227) jx_If jx_L0 (jx_R 227)), 228, 1572956) := by
  refine jx_Wr.of hT2 (by decide) rfl (Nat.le_of_ble_eq_true rfl) ?_
  intro p l e R s m args below meth c E hl F hZ htb hRc hRs
  show jw p l e R s m args below meth c E 5 227 1572950 _ 0 [(0, .ref 0), (1, .int p1), (2, .int p2), (3, .ref 226)] [] (jv_H (jx_K 227) jx_If jx_L0 (jx_R 227)) 227 1572950
  have hRc : R.cells = 228 - 227 := hRc
  have hRs : R.slots = 1572956 - 1572950 := hRs
  refine jw.steps F jx_i448 5 (pc' := 5) (l' := [(0, .ref 0), (1, .int p1), (2, .int p2), (3, .ref 226)]) (st' := [.int p2, .int p1, .ref 0, .int (0 : Int32), .ref 226]) rfl ?_
  refine jw.cat hTb hl F hZ rfl jx_i448 htb rfl jv_i427 [.ref 0, .int p1, .int p2] rfl rfl rfl rfl rfl (jx_cal2 rfl (jv_H_at rfl) rfl rfl) rfl (jx_e101 hTb p0 p1 p2 p3 p4 p5 g1) (by omega) (by omega) (by omega) (by omega) [(0, 10, 13, 36)] (0, 10, 17, 19) [] rfl (List.forall_mem_cons.mpr ⟨⟨2, rfl, by decide⟩, fun z h => absurd h List.not_mem_nil⟩) (by decide) rfl rfl (Or.inl ⟨rfl, rfl⟩) (by decide) ?_
  refine jw.steps F jx_i448 1 (pc' := 20) (l' := []) (st' := [.int (2 : Int32)]) rfl ?_
  exact jw.ret F jx_i448 rfl rfl

set_option maxRecDepth 100000 in
theorem jv_i404 : jv_I 404 4 (some .int) 9 208 jv_c404 := ⟨rfl, rfl, rfl, rfl, rfl⟩
set_option maxRecDepth 100000 in
/-- ProgramBoxModel.run -/
theorem jx_e103 (p0 : Int32) (p1 : Int32) (p2 : Int32) (p3 : Int32) (p4 : Int32) (p5 : Int32) (g1 : p2 < (0 : Int32)) : jv_Ms 404 [.ref 178, .int p1, .int p2] (jv_H (jx_K 227) jx_If jx_L0 (jx_R 227)) 228 1572956 (some (.int (0 : Int32)), (jv_H (jx_K 227) (jv_u jx_If 178 0 (2 : Int32)) jx_L0 (jx_R 227)), 228, 1572956) := by
  show jv_Ev 404 0 [(0, .ref 178), (1, .int p1), (2, .int p2)] [] (jv_H (jx_K 227) jx_If jx_L0 (jx_R 227)) 228 1572956 _
  refine jv_Ev.steps jv_i404 2 (pc' := 2) (l' := [(0, .ref 178), (1, .int p1), (2, .int p2)]) (st' := [.int p2, .ref 178]) rfl ?_
  refine jv_Ev.br jv_i404 (pc' := 12) (st' := [.ref 178]) rfl (jv_bi_lt.trans (jx_got g1)) ?_
  refine jv_Ev.steps jv_i404 2 (pc' := 33) (l' := [(0, .ref 178), (1, .int p1), (2, .int p2)]) (st' := [.int (2 : Int32), .ref 178]) rfl ?_
  refine jv_Ev.m jv_i404 (pc' := 36) (st' := []) rfl rfl (jv_m_putI rfl rfl rfl rfl rfl) ?_
  refine jv_Ev.steps jv_i404 1 (pc' := 37) (l' := [(0, .ref 178), (1, .int p1), (2, .int p2)]) (st' := [.ref 178]) rfl ?_
  refine jv_Ev.m jv_i404 (pc' := 40) (st' := [.int (2 : Int32)]) rfl rfl (jv_m_getI rfl rfl rfl rfl) ?_
  refine jv_Ev.br jv_i404 (pc' := 43) (st' := []) rfl (jv_bi_le.trans (jx_gof (by decide))) ?_
  refine jv_Ev.steps jv_i404 1 (pc' := 44) (l' := [(0, .ref 178), (1, .int p1), (2, .int p2)]) (st' := [.int (0 : Int32)]) rfl ?_
  exact jv_Ev.ret jv_i404 rfl rfl

set_option maxRecDepth 100000 in
/-- ProgramBoxModel.thrown -/
theorem jx_e104 (p0 : Int32) (p1 : Int32) (p2 : Int32) (p3 : Int32) (p4 : Int32) (p5 : Int32) (g1 : p2 < (0 : Int32)) : jv_Ms 350 [.ref 178] (jv_H (jx_K 227) (jv_u jx_If 178 0 (2 : Int32)) jx_L0 (jx_R 227)) 228 1572956 (some (.int (2 : Int32)), (jv_H (jx_K 227) (jv_u jx_If 178 0 (2 : Int32)) jx_L0 (jx_R 227)), 228, 1572956) := by
  show jv_Ev 350 0 [(0, .ref 178)] [] (jv_H (jx_K 227) (jv_u jx_If 178 0 (2 : Int32)) jx_L0 (jx_R 227)) 228 1572956 _
  refine jv_Ev.steps jv_i350 1 (pc' := 1) (l' := [(0, .ref 178)]) (st' := [.ref 178]) rfl ?_
  refine jv_Ev.m jv_i350 (pc' := 4) (st' := [.int (2 : Int32)]) rfl rfl (jv_m_getI rfl rfl rfl rfl) ?_
  exact jv_Ev.ret jv_i350 rfl rfl

set_option maxRecDepth 100000 in
/-- the law: case 13, one way -/
theorem jx_l21 (p0 : Int32) (p1 : Int32) (p2 : Int32) (p3 : Int32) (p4 : Int32) (p5 : Int32) (g1 : p2 < (0 : Int32)) (hsw : p0 &&& (31 : Int32) = (13 : Int32)) {p : Program} {l : Launch} {e : Env} {R : Room} {s : State} {m : MethodId} {args : Array Value} {below : List Frame} {meth : Method} {c : Code} {E : jv_Env} {Q : State → Prop} (hTb : jv_TOk jv_Tb) (hT2 : jx_T2Ok) (hl : l.stackTraces = false) (F : jx_F jv_T2 439 E p R s m args meth c) (hZ : jx_Z E s) (hRc : R.cells = 600002) (hRs : R.slots = 7302232) {bb : Nat} {xs : Nat → Int32} (hX : va_X bb 6 xs s E.2.2.2.2) (hbB : bb < E.2.2.2.1) (hE2 : E.1 1000002 = bb) (hQ : ∀ (l0 : jv_L) (G : jv_G) (n sl : Nat), n ≤ 600002 → sl ≤ 7302232 → jw p l e R s m args below meth c E 8 0 0 Q 1532 l0 [.int (1 : Int32)] G n sl) (q0 : xs 0 = p0) (q1 : xs 1 = p1) (q2 : xs 2 = p2) (q3 : xs 3 = p3) (q4 : xs 4 = p4) (q5 : xs 5 = p5) : jw p l e R s m args below meth c E 8 0 0 Q 33 [(0, .ref 1000002), (1, .ref 0), (2, .ref 178), (3, .ref 226), (4, .int (0 : Int32))] [] (jv_H (jx_K 227) jx_If jx_L0 (jx_R 227)) 227 1572950 := by
  refine jw.steps F jx_i439 2 (pc' := 36) (l' := [(0, .ref 1000002), (1, .ref 0), (2, .ref 178), (3, .ref 226), (4, .int (0 : Int32))]) (st' := [.int (0 : Int32), .ref 1000002]) rfl ?_
  refine jw.sld F jx_i439 hX hbB hE2 (pc' := 37) rfl rfl (show vp_in (nI 0) 6 from vp_in_nI (by decide) (by decide)) q0 rfl ?_
  refine jw.steps F jx_i439 2 (pc' := 40) (l' := [(0, .ref 1000002), (1, .ref 0), (2, .ref 178), (3, .ref 226), (4, .int (0 : Int32))]) (st' := [.int (p0 &&& (31 : Int32))]) rfl ?_
  refine jw.br F jx_i439 (pc' := 782) (st' := []) rfl (by rw [hsw]; rfl) ?_
  refine jw.steps F jx_i439 5 (pc' := 788) (l' := [(0, .ref 1000002), (1, .ref 0), (2, .ref 178), (3, .ref 226), (4, .int (0 : Int32))]) (st' := [.int (1 : Int32), .ref 1000002, .ref 0]) rfl ?_
  refine jw.sld F jx_i439 hX hbB hE2 (pc' := 789) rfl rfl (show vp_in (nI 1) 6 from vp_in_nI (by decide) (by decide)) q1 rfl ?_
  refine jw.steps F jx_i439 4 (pc' := 794) (l' := [(0, .ref 1000002), (1, .ref 0), (2, .ref 178), (3, .ref 226), (4, .int (0 : Int32))]) (st' := [.int (2 : Int32), .ref 1000002, .int p1, .ref 0]) rfl ?_
  refine jw.sld F jx_i439 hX hbB hE2 (pc' := 795) rfl rfl (show vp_in (nI 2) 6 from vp_in_nI (by decide) (by decide)) q2 rfl ?_
  refine jw.steps F jx_i439 1 (pc' := 796) (l' := [(0, .ref 1000002), (1, .ref 0), (2, .ref 178), (3, .ref 226), (4, .int (0 : Int32))]) (st' := [.ref 226, .int p2, .int p1, .ref 0]) rfl ?_
  refine jw.wr F hl hZ rfl jx_i439 jx_i448 [.ref 0, .int p1, .int p2, .ref 226] (pc' := 799) (S' := [.int (2 : Int32)]) rfl (List.mem_of_getElem? (i := 8) rfl) (List.mem_of_getElem? (i := 8) rfl) rfl rfl rfl (jx_w102 hTb hT2 p0 p1 p2 p3 p4 p5 g1) (by omega) (by omega) (by omega) (by omega) rfl rfl ?_
  refine jw.steps F jx_i439 6 (pc' := 807) (l' := [(5, .int (2 : Int32)), (0, .ref 1000002), (1, .ref 0), (2, .ref 178), (3, .ref 226), (4, .int (0 : Int32))]) (st' := [.int (1 : Int32), .ref 1000002, .ref 178]) rfl ?_
  refine jw.sld F jx_i439 hX hbB hE2 (pc' := 808) rfl rfl (show vp_in (nI 1) 6 from vp_in_nI (by decide) (by decide)) q1 rfl ?_
  refine jw.steps F jx_i439 4 (pc' := 813) (l' := [(5, .int (2 : Int32)), (0, .ref 1000002), (1, .ref 0), (2, .ref 178), (3, .ref 226), (4, .int (0 : Int32))]) (st' := [.int (2 : Int32), .ref 1000002, .int p1, .ref 178]) rfl ?_
  refine jw.sld F jx_i439 hX hbB hE2 (pc' := 814) rfl rfl (show vp_in (nI 2) 6 from vp_in_nI (by decide) (by decide)) q2 rfl ?_
  refine jw.ca hTb F jx_i439 (pc' := 817) (S' := [.int (0 : Int32)]) rfl jv_i404 [.ref 178, .int p1, .int p2] rfl rfl rfl rfl (jx_cal2 rfl (jv_H_at rfl) rfl rfl) rfl (jx_e103 p0 p1 p2 p3 p4 p5 g1) (by omega) (by omega) rfl rfl ?_
  refine jw.steps F jx_i439 2 (pc' := 820) (l' := [(6, .int (0 : Int32)), (5, .int (2 : Int32)), (0, .ref 1000002), (1, .ref 0), (2, .ref 178), (3, .ref 226), (4, .int (0 : Int32))]) (st' := [.ref 178]) rfl ?_
  refine jw.ca hTb F jx_i439 (pc' := 823) (S' := [.int (2 : Int32)]) rfl jv_i350 [.ref 178] rfl rfl rfl rfl (jx_cal2 rfl (jv_H_at rfl) rfl rfl) rfl (jx_e104 p0 p1 p2 p3 p4 p5 g1) (by omega) (by omega) rfl rfl ?_
  refine jw.steps F jx_i439 1 (pc' := 825) (l' := [(6, .int (0 : Int32)), (5, .int (2 : Int32)), (0, .ref 1000002), (1, .ref 0), (2, .ref 178), (3, .ref 226), (4, .int (0 : Int32))]) (st' := [.int (2 : Int32), .int (2 : Int32)]) rfl ?_
  refine jw.br F jx_i439 (pc' := 830) (st' := []) rfl (jv_bc_eq.trans (jx_got (by decide))) ?_
  refine jw.steps F jx_i439 1 (pc' := 832) (l' := [(6, .int (0 : Int32)), (5, .int (2 : Int32)), (0, .ref 1000002), (1, .ref 0), (2, .ref 178), (3, .ref 226), (4, .int (0 : Int32))]) (st' := [.int (2 : Int32)]) rfl ?_
  refine jw.br F jx_i439 (pc' := 847) (st' := []) rfl (jv_bi_ne.trans (jx_got (by decide))) ?_
  refine jw.steps F jx_i439 5 (pc' := 26) (l' := [(4, .int (6 : Int32)), (6, .int (0 : Int32)), (5, .int (2 : Int32)), (0, .ref 1000002), (1, .ref 0), (2, .ref 178), (3, .ref 226)]) (st' := [.ref 1000002, .int (6 : Int32)]) rfl ?_
  refine jw.slen F jx_i439 hX hbB hE2 (pc' := 27) rfl rfl rfl ?_
  refine jw.steps F jx_i439 2 (pc' := 30) (l' := [(4, .int (6 : Int32)), (6, .int (0 : Int32)), (5, .int (2 : Int32)), (0, .ref 1000002), (1, .ref 0), (2, .ref 178), (3, .ref 226)]) (st' := [.int (0 : Int32), .int (6 : Int32)]) rfl ?_
  refine jw.br F jx_i439 (pc' := 1531) (st' := []) rfl (jv_bc_gt.trans (jx_got (by decide))) ?_
  refine jw.steps F jx_i439 1 (pc' := 1532) (l' := [(4, .int (6 : Int32)), (6, .int (0 : Int32)), (5, .int (2 : Int32)), (0, .ref 1000002), (1, .ref 0), (2, .ref 178), (3, .ref 226)]) (st' := [.int (1 : Int32)]) rfl ?_
  exact hQ _ _ _ _ (by omega) (by omega)

set_option maxRecDepth 100000 in
/-- ProgramBox.run: it throws -/
theorem jx_e105 (hTb : jv_TOk jv_Tb) (p0 : Int32) (p1 : Int32) (p2 : Int32) (p3 : Int32) (p4 : Int32) (p5 : Int32) (g1 : ¬ p2 < (0 : Int32)) (g2 : (100000 : Int32) < p2) : jx_Th 427 [.ref 0, .int p1, .int p2] (jv_H (jx_K 227) jx_If jx_L0 (jx_R 227)) 227 1572950 1 (jv_H (jx_K 227) jx_If jx_L0 (jx_R 227)) 228 1572956 := by
  refine jx_Th.of hTb (y := 427) rfl (Nat.le_of_ble_eq_true rfl) ?_
  intro p l e R s m args below meth c E hl F hZ h0 ht hRc hRs
  show jw p l e R s m args below meth c E 3 227 1572950 _ 0 [(0, .ref 0), (1, .int p1), (2, .int p2)] [] (jv_H (jx_K 227) jx_If jx_L0 (jx_R 227)) 227 1572950
  refine jw.steps F jv_i427 1 (pc' := 1) (l' := [(0, .ref 0), (1, .int p1), (2, .int p2)]) (st' := [.int p2]) rfl ?_
  refine jw.br F jv_i427 (pc' := 4) (st' := []) rfl (jv_bi_lt.trans (jx_gof g1)) ?_
  refine jw.steps F jv_i427 2 (pc' := 7) (l' := [(0, .ref 0), (1, .int p1), (2, .int p2)]) (st' := [.int (100000 : Int32), .int p2]) rfl ?_
  refine jw.br F jv_i427 (pc' := 10) (st' := []) rfl (jv_bc_le.trans (jx_gof (Int32.not_le.mpr g2))) ?_
  exact jw.throw hl F hZ h0 rfl jv_i427 ht 1 152 "no run has this fuel" (List.mem_of_getElem? (i := 9) rfl) (by decide +kernel) (by decide +kernel) (by decide +kernel) (by decide +kernel) (by decide +kernel) rfl (by decide) (by decide) (by decide) (by omega) (by omega)

set_option maxRecDepth 100000 in
/-- the law's run -/
theorem jx_w106 (hTb : jv_TOk jv_Tb) (hT2 : jx_T2Ok) (p0 : Int32) (p1 : Int32) (p2 : Int32) (p3 : Int32) (p4 : Int32) (p5 : Int32) (g1 : ¬ p2 < (0 : Int32)) (g2 : (100000 : Int32) < p2) : jx_Wr 448 [(0, 10, 13, 36), (0, 10, 17, 19)] [.ref 0, .int p1, .int p2, .ref 226] (jv_H (jx_K 227) jx_If jx_L0 (jx_R 227)) 227 1572950 (some (.int (2 : Int32)), (jv_H (jx_K 227) jx_If jx_L0 (jx_R 227)), 228, 1572956) := by
  refine jx_Wr.of hT2 (by decide) rfl (Nat.le_of_ble_eq_true rfl) ?_
  intro p l e R s m args below meth c E hl F hZ htb hRc hRs
  show jw p l e R s m args below meth c E 5 227 1572950 _ 0 [(0, .ref 0), (1, .int p1), (2, .int p2), (3, .ref 226)] [] (jv_H (jx_K 227) jx_If jx_L0 (jx_R 227)) 227 1572950
  have hRc : R.cells = 228 - 227 := hRc
  have hRs : R.slots = 1572956 - 1572950 := hRs
  refine jw.steps F jx_i448 5 (pc' := 5) (l' := [(0, .ref 0), (1, .int p1), (2, .int p2), (3, .ref 226)]) (st' := [.int p2, .int p1, .ref 0, .int (0 : Int32), .ref 226]) rfl ?_
  refine jw.cat hTb hl F hZ rfl jx_i448 htb rfl jv_i427 [.ref 0, .int p1, .int p2] rfl rfl rfl rfl rfl (jx_cal2 rfl (jv_H_at rfl) rfl rfl) rfl (jx_e105 hTb p0 p1 p2 p3 p4 p5 g1 g2) (by omega) (by omega) (by omega) (by omega) [(0, 10, 13, 36)] (0, 10, 17, 19) [] rfl (List.forall_mem_cons.mpr ⟨⟨2, rfl, by decide⟩, fun z h => absurd h List.not_mem_nil⟩) (by decide) rfl rfl (Or.inl ⟨rfl, rfl⟩) (by decide) ?_
  refine jw.steps F jx_i448 1 (pc' := 20) (l' := []) (st' := [.int (2 : Int32)]) rfl ?_
  exact jw.ret F jx_i448 rfl rfl

set_option maxRecDepth 100000 in
/-- ProgramBoxModel.run -/
theorem jx_e107 (p0 : Int32) (p1 : Int32) (p2 : Int32) (p3 : Int32) (p4 : Int32) (p5 : Int32) (g1 : ¬ p2 < (0 : Int32)) (g2 : (100000 : Int32) < p2) : jv_Ms 404 [.ref 178, .int p1, .int p2] (jv_H (jx_K 227) jx_If jx_L0 (jx_R 227)) 228 1572956 (some (.int (0 : Int32)), (jv_H (jx_K 227) (jv_u jx_If 178 0 (2 : Int32)) jx_L0 (jx_R 227)), 228, 1572956) := by
  show jv_Ev 404 0 [(0, .ref 178), (1, .int p1), (2, .int p2)] [] (jv_H (jx_K 227) jx_If jx_L0 (jx_R 227)) 228 1572956 _
  refine jv_Ev.steps jv_i404 2 (pc' := 2) (l' := [(0, .ref 178), (1, .int p1), (2, .int p2)]) (st' := [.int p2, .ref 178]) rfl ?_
  refine jv_Ev.br jv_i404 (pc' := 5) (st' := [.ref 178]) rfl (jv_bi_lt.trans (jx_gof g1)) ?_
  refine jv_Ev.steps jv_i404 2 (pc' := 9) (l' := [(0, .ref 178), (1, .int p1), (2, .int p2)]) (st' := [.int (100000 : Int32), .int p2, .ref 178]) rfl ?_
  refine jv_Ev.br jv_i404 (pc' := 12) (st' := [.ref 178]) rfl (jv_bc_le.trans (jx_gof (Int32.not_le.mpr g2))) ?_
  refine jv_Ev.steps jv_i404 2 (pc' := 33) (l' := [(0, .ref 178), (1, .int p1), (2, .int p2)]) (st' := [.int (2 : Int32), .ref 178]) rfl ?_
  refine jv_Ev.m jv_i404 (pc' := 36) (st' := []) rfl rfl (jv_m_putI rfl rfl rfl rfl rfl) ?_
  refine jv_Ev.steps jv_i404 1 (pc' := 37) (l' := [(0, .ref 178), (1, .int p1), (2, .int p2)]) (st' := [.ref 178]) rfl ?_
  refine jv_Ev.m jv_i404 (pc' := 40) (st' := [.int (2 : Int32)]) rfl rfl (jv_m_getI rfl rfl rfl rfl) ?_
  refine jv_Ev.br jv_i404 (pc' := 43) (st' := []) rfl (jv_bi_le.trans (jx_gof (by decide))) ?_
  refine jv_Ev.steps jv_i404 1 (pc' := 44) (l' := [(0, .ref 178), (1, .int p1), (2, .int p2)]) (st' := [.int (0 : Int32)]) rfl ?_
  exact jv_Ev.ret jv_i404 rfl rfl

set_option maxRecDepth 100000 in
/-- ProgramBoxModel.thrown -/
theorem jx_e108 (p0 : Int32) (p1 : Int32) (p2 : Int32) (p3 : Int32) (p4 : Int32) (p5 : Int32) (g1 : ¬ p2 < (0 : Int32)) (g2 : (100000 : Int32) < p2) : jv_Ms 350 [.ref 178] (jv_H (jx_K 227) (jv_u jx_If 178 0 (2 : Int32)) jx_L0 (jx_R 227)) 228 1572956 (some (.int (2 : Int32)), (jv_H (jx_K 227) (jv_u jx_If 178 0 (2 : Int32)) jx_L0 (jx_R 227)), 228, 1572956) := by
  show jv_Ev 350 0 [(0, .ref 178)] [] (jv_H (jx_K 227) (jv_u jx_If 178 0 (2 : Int32)) jx_L0 (jx_R 227)) 228 1572956 _
  refine jv_Ev.steps jv_i350 1 (pc' := 1) (l' := [(0, .ref 178)]) (st' := [.ref 178]) rfl ?_
  refine jv_Ev.m jv_i350 (pc' := 4) (st' := [.int (2 : Int32)]) rfl rfl (jv_m_getI rfl rfl rfl rfl) ?_
  exact jv_Ev.ret jv_i350 rfl rfl

set_option maxRecDepth 100000 in
/-- the law: case 13, one way -/
theorem jx_l22 (p0 : Int32) (p1 : Int32) (p2 : Int32) (p3 : Int32) (p4 : Int32) (p5 : Int32) (g1 : ¬ p2 < (0 : Int32)) (g2 : (100000 : Int32) < p2) (hsw : p0 &&& (31 : Int32) = (13 : Int32)) {p : Program} {l : Launch} {e : Env} {R : Room} {s : State} {m : MethodId} {args : Array Value} {below : List Frame} {meth : Method} {c : Code} {E : jv_Env} {Q : State → Prop} (hTb : jv_TOk jv_Tb) (hT2 : jx_T2Ok) (hl : l.stackTraces = false) (F : jx_F jv_T2 439 E p R s m args meth c) (hZ : jx_Z E s) (hRc : R.cells = 600002) (hRs : R.slots = 7302232) {bb : Nat} {xs : Nat → Int32} (hX : va_X bb 6 xs s E.2.2.2.2) (hbB : bb < E.2.2.2.1) (hE2 : E.1 1000002 = bb) (hQ : ∀ (l0 : jv_L) (G : jv_G) (n sl : Nat), n ≤ 600002 → sl ≤ 7302232 → jw p l e R s m args below meth c E 8 0 0 Q 1532 l0 [.int (1 : Int32)] G n sl) (q0 : xs 0 = p0) (q1 : xs 1 = p1) (q2 : xs 2 = p2) (q3 : xs 3 = p3) (q4 : xs 4 = p4) (q5 : xs 5 = p5) : jw p l e R s m args below meth c E 8 0 0 Q 33 [(0, .ref 1000002), (1, .ref 0), (2, .ref 178), (3, .ref 226), (4, .int (0 : Int32))] [] (jv_H (jx_K 227) jx_If jx_L0 (jx_R 227)) 227 1572950 := by
  refine jw.steps F jx_i439 2 (pc' := 36) (l' := [(0, .ref 1000002), (1, .ref 0), (2, .ref 178), (3, .ref 226), (4, .int (0 : Int32))]) (st' := [.int (0 : Int32), .ref 1000002]) rfl ?_
  refine jw.sld F jx_i439 hX hbB hE2 (pc' := 37) rfl rfl (show vp_in (nI 0) 6 from vp_in_nI (by decide) (by decide)) q0 rfl ?_
  refine jw.steps F jx_i439 2 (pc' := 40) (l' := [(0, .ref 1000002), (1, .ref 0), (2, .ref 178), (3, .ref 226), (4, .int (0 : Int32))]) (st' := [.int (p0 &&& (31 : Int32))]) rfl ?_
  refine jw.br F jx_i439 (pc' := 782) (st' := []) rfl (by rw [hsw]; rfl) ?_
  refine jw.steps F jx_i439 5 (pc' := 788) (l' := [(0, .ref 1000002), (1, .ref 0), (2, .ref 178), (3, .ref 226), (4, .int (0 : Int32))]) (st' := [.int (1 : Int32), .ref 1000002, .ref 0]) rfl ?_
  refine jw.sld F jx_i439 hX hbB hE2 (pc' := 789) rfl rfl (show vp_in (nI 1) 6 from vp_in_nI (by decide) (by decide)) q1 rfl ?_
  refine jw.steps F jx_i439 4 (pc' := 794) (l' := [(0, .ref 1000002), (1, .ref 0), (2, .ref 178), (3, .ref 226), (4, .int (0 : Int32))]) (st' := [.int (2 : Int32), .ref 1000002, .int p1, .ref 0]) rfl ?_
  refine jw.sld F jx_i439 hX hbB hE2 (pc' := 795) rfl rfl (show vp_in (nI 2) 6 from vp_in_nI (by decide) (by decide)) q2 rfl ?_
  refine jw.steps F jx_i439 1 (pc' := 796) (l' := [(0, .ref 1000002), (1, .ref 0), (2, .ref 178), (3, .ref 226), (4, .int (0 : Int32))]) (st' := [.ref 226, .int p2, .int p1, .ref 0]) rfl ?_
  refine jw.wr F hl hZ rfl jx_i439 jx_i448 [.ref 0, .int p1, .int p2, .ref 226] (pc' := 799) (S' := [.int (2 : Int32)]) rfl (List.mem_of_getElem? (i := 8) rfl) (List.mem_of_getElem? (i := 8) rfl) rfl rfl rfl (jx_w106 hTb hT2 p0 p1 p2 p3 p4 p5 g1 g2) (by omega) (by omega) (by omega) (by omega) rfl rfl ?_
  refine jw.steps F jx_i439 6 (pc' := 807) (l' := [(5, .int (2 : Int32)), (0, .ref 1000002), (1, .ref 0), (2, .ref 178), (3, .ref 226), (4, .int (0 : Int32))]) (st' := [.int (1 : Int32), .ref 1000002, .ref 178]) rfl ?_
  refine jw.sld F jx_i439 hX hbB hE2 (pc' := 808) rfl rfl (show vp_in (nI 1) 6 from vp_in_nI (by decide) (by decide)) q1 rfl ?_
  refine jw.steps F jx_i439 4 (pc' := 813) (l' := [(5, .int (2 : Int32)), (0, .ref 1000002), (1, .ref 0), (2, .ref 178), (3, .ref 226), (4, .int (0 : Int32))]) (st' := [.int (2 : Int32), .ref 1000002, .int p1, .ref 178]) rfl ?_
  refine jw.sld F jx_i439 hX hbB hE2 (pc' := 814) rfl rfl (show vp_in (nI 2) 6 from vp_in_nI (by decide) (by decide)) q2 rfl ?_
  refine jw.ca hTb F jx_i439 (pc' := 817) (S' := [.int (0 : Int32)]) rfl jv_i404 [.ref 178, .int p1, .int p2] rfl rfl rfl rfl (jx_cal2 rfl (jv_H_at rfl) rfl rfl) rfl (jx_e107 p0 p1 p2 p3 p4 p5 g1 g2) (by omega) (by omega) rfl rfl ?_
  refine jw.steps F jx_i439 2 (pc' := 820) (l' := [(6, .int (0 : Int32)), (5, .int (2 : Int32)), (0, .ref 1000002), (1, .ref 0), (2, .ref 178), (3, .ref 226), (4, .int (0 : Int32))]) (st' := [.ref 178]) rfl ?_
  refine jw.ca hTb F jx_i439 (pc' := 823) (S' := [.int (2 : Int32)]) rfl jv_i350 [.ref 178] rfl rfl rfl rfl (jx_cal2 rfl (jv_H_at rfl) rfl rfl) rfl (jx_e108 p0 p1 p2 p3 p4 p5 g1 g2) (by omega) (by omega) rfl rfl ?_
  refine jw.steps F jx_i439 1 (pc' := 825) (l' := [(6, .int (0 : Int32)), (5, .int (2 : Int32)), (0, .ref 1000002), (1, .ref 0), (2, .ref 178), (3, .ref 226), (4, .int (0 : Int32))]) (st' := [.int (2 : Int32), .int (2 : Int32)]) rfl ?_
  refine jw.br F jx_i439 (pc' := 830) (st' := []) rfl (jv_bc_eq.trans (jx_got (by decide))) ?_
  refine jw.steps F jx_i439 1 (pc' := 832) (l' := [(6, .int (0 : Int32)), (5, .int (2 : Int32)), (0, .ref 1000002), (1, .ref 0), (2, .ref 178), (3, .ref 226), (4, .int (0 : Int32))]) (st' := [.int (2 : Int32)]) rfl ?_
  refine jw.br F jx_i439 (pc' := 847) (st' := []) rfl (jv_bi_ne.trans (jx_got (by decide))) ?_
  refine jw.steps F jx_i439 5 (pc' := 26) (l' := [(4, .int (6 : Int32)), (6, .int (0 : Int32)), (5, .int (2 : Int32)), (0, .ref 1000002), (1, .ref 0), (2, .ref 178), (3, .ref 226)]) (st' := [.ref 1000002, .int (6 : Int32)]) rfl ?_
  refine jw.slen F jx_i439 hX hbB hE2 (pc' := 27) rfl rfl rfl ?_
  refine jw.steps F jx_i439 2 (pc' := 30) (l' := [(4, .int (6 : Int32)), (6, .int (0 : Int32)), (5, .int (2 : Int32)), (0, .ref 1000002), (1, .ref 0), (2, .ref 178), (3, .ref 226)]) (st' := [.int (0 : Int32), .int (6 : Int32)]) rfl ?_
  refine jw.br F jx_i439 (pc' := 1531) (st' := []) rfl (jv_bc_gt.trans (jx_got (by decide))) ?_
  refine jw.steps F jx_i439 1 (pc' := 1532) (l' := [(4, .int (6 : Int32)), (6, .int (0 : Int32)), (5, .int (2 : Int32)), (0, .ref 1000002), (1, .ref 0), (2, .ref 178), (3, .ref 226)]) (st' := [.int (1 : Int32)]) rfl ?_
  exact hQ _ _ _ _ (by omega) (by omega)

set_option maxRecDepth 100000 in
/-- ProgramBox.run: it throws -/
theorem jx_e109 (hTb : jv_TOk jv_Tb) (p0 : Int32) (p1 : Int32) (p2 : Int32) (p3 : Int32) (p4 : Int32) (p5 : Int32) (g1 : ¬ p2 < (0 : Int32)) (g2 : ¬ (100000 : Int32) < p2) (g3 : p1 < (0 : Int32)) : jx_Th 427 [.ref 0, .int p1, .int p2] (jv_H (jx_K 227) jx_If jx_L0 (jx_R 227)) 227 1572950 2 (jv_H (jx_K 227) jx_If jx_L0 (jx_R 227)) 228 1572956 := by
  refine jx_Th.of hTb (y := 427) rfl (Nat.le_of_ble_eq_true rfl) ?_
  intro p l e R s m args below meth c E hl F hZ h0 ht hRc hRs
  show jw p l e R s m args below meth c E 3 227 1572950 _ 0 [(0, .ref 0), (1, .int p1), (2, .int p2)] [] (jv_H (jx_K 227) jx_If jx_L0 (jx_R 227)) 227 1572950
  refine jw.steps F jv_i427 1 (pc' := 1) (l' := [(0, .ref 0), (1, .int p1), (2, .int p2)]) (st' := [.int p2]) rfl ?_
  refine jw.br F jv_i427 (pc' := 4) (st' := []) rfl (jv_bi_lt.trans (jx_gof g1)) ?_
  refine jw.steps F jv_i427 2 (pc' := 7) (l' := [(0, .ref 0), (1, .int p1), (2, .int p2)]) (st' := [.int (100000 : Int32), .int p2]) rfl ?_
  refine jw.br F jv_i427 (pc' := 20) (st' := []) rfl (jv_bc_le.trans (jx_got (Int32.not_lt.mp g2))) ?_
  refine jw.steps F jv_i427 1 (pc' := 21) (l' := [(0, .ref 0), (1, .int p1), (2, .int p2)]) (st' := [.int p1]) rfl ?_
  refine jw.br F jv_i427 (pc' := 32) (st' := []) rfl (jv_bi_lt.trans (jx_got g3)) ?_
  exact jw.throw hl F hZ h0 rfl jv_i427 ht 2 154 "there is no such program" (List.mem_of_getElem? (i := 10) rfl) (by decide +kernel) (by decide +kernel) (by decide +kernel) (by decide +kernel) (by decide +kernel) rfl (by decide) (by decide) (by decide) (by omega) (by omega)

set_option maxRecDepth 100000 in
/-- the law's run -/
theorem jx_w110 (hTb : jv_TOk jv_Tb) (hT2 : jx_T2Ok) (p0 : Int32) (p1 : Int32) (p2 : Int32) (p3 : Int32) (p4 : Int32) (p5 : Int32) (g1 : ¬ p2 < (0 : Int32)) (g2 : ¬ (100000 : Int32) < p2) (g3 : p1 < (0 : Int32)) : jx_Wr 448 [(0, 10, 13, 36), (0, 10, 17, 19)] [.ref 0, .int p1, .int p2, .ref 226] (jv_H (jx_K 227) jx_If jx_L0 (jx_R 227)) 227 1572950 (some (.int (1 : Int32)), (jv_H (jx_K 227) jx_If jx_L0 (jx_R 227)), 228, 1572956) := by
  refine jx_Wr.of hT2 (by decide) rfl (Nat.le_of_ble_eq_true rfl) ?_
  intro p l e R s m args below meth c E hl F hZ htb hRc hRs
  show jw p l e R s m args below meth c E 5 227 1572950 _ 0 [(0, .ref 0), (1, .int p1), (2, .int p2), (3, .ref 226)] [] (jv_H (jx_K 227) jx_If jx_L0 (jx_R 227)) 227 1572950
  have hRc : R.cells = 228 - 227 := hRc
  have hRs : R.slots = 1572956 - 1572950 := hRs
  refine jw.steps F jx_i448 5 (pc' := 5) (l' := [(0, .ref 0), (1, .int p1), (2, .int p2), (3, .ref 226)]) (st' := [.int p2, .int p1, .ref 0, .int (0 : Int32), .ref 226]) rfl ?_
  refine jw.cat hTb hl F hZ rfl jx_i448 htb rfl jv_i427 [.ref 0, .int p1, .int p2] rfl rfl rfl rfl rfl (jx_cal2 rfl (jv_H_at rfl) rfl rfl) rfl (jx_e109 hTb p0 p1 p2 p3 p4 p5 g1 g2 g3) (by omega) (by omega) (by omega) (by omega) [] (0, 10, 13, 36) [(0, 10, 17, 19)] rfl (fun z h => absurd h List.not_mem_nil) (by decide) rfl rfl (Or.inl ⟨rfl, rfl⟩) (by decide) ?_
  refine jw.steps F jx_i448 1 (pc' := 16) (l' := []) (st' := [.int (1 : Int32)]) rfl ?_
  exact jw.ret F jx_i448 rfl rfl

set_option maxRecDepth 100000 in
/-- ProgramBoxModel.run -/
theorem jx_e111 (p0 : Int32) (p1 : Int32) (p2 : Int32) (p3 : Int32) (p4 : Int32) (p5 : Int32) (g1 : ¬ p2 < (0 : Int32)) (g2 : ¬ (100000 : Int32) < p2) (g3 : p1 < (0 : Int32)) : jv_Ms 404 [.ref 178, .int p1, .int p2] (jv_H (jx_K 227) jx_If jx_L0 (jx_R 227)) 228 1572956 (some (.int (0 : Int32)), (jv_H (jx_K 227) (jv_u jx_If 178 0 (1 : Int32)) jx_L0 (jx_R 227)), 228, 1572956) := by
  show jv_Ev 404 0 [(0, .ref 178), (1, .int p1), (2, .int p2)] [] (jv_H (jx_K 227) jx_If jx_L0 (jx_R 227)) 228 1572956 _
  refine jv_Ev.steps jv_i404 2 (pc' := 2) (l' := [(0, .ref 178), (1, .int p1), (2, .int p2)]) (st' := [.int p2, .ref 178]) rfl ?_
  refine jv_Ev.br jv_i404 (pc' := 5) (st' := [.ref 178]) rfl (jv_bi_lt.trans (jx_gof g1)) ?_
  refine jv_Ev.steps jv_i404 2 (pc' := 9) (l' := [(0, .ref 178), (1, .int p1), (2, .int p2)]) (st' := [.int (100000 : Int32), .int p2, .ref 178]) rfl ?_
  refine jv_Ev.br jv_i404 (pc' := 16) (st' := [.ref 178]) rfl (jv_bc_le.trans (jx_got (Int32.not_lt.mp g2))) ?_
  refine jv_Ev.steps jv_i404 1 (pc' := 17) (l' := [(0, .ref 178), (1, .int p1), (2, .int p2)]) (st' := [.int p1, .ref 178]) rfl ?_
  refine jv_Ev.br jv_i404 (pc' := 28) (st' := [.ref 178]) rfl (jv_bi_lt.trans (jx_got g3)) ?_
  refine jv_Ev.steps jv_i404 2 (pc' := 33) (l' := [(0, .ref 178), (1, .int p1), (2, .int p2)]) (st' := [.int (1 : Int32), .ref 178]) rfl ?_
  refine jv_Ev.m jv_i404 (pc' := 36) (st' := []) rfl rfl (jv_m_putI rfl rfl rfl rfl rfl) ?_
  refine jv_Ev.steps jv_i404 1 (pc' := 37) (l' := [(0, .ref 178), (1, .int p1), (2, .int p2)]) (st' := [.ref 178]) rfl ?_
  refine jv_Ev.m jv_i404 (pc' := 40) (st' := [.int (1 : Int32)]) rfl rfl (jv_m_getI rfl rfl rfl rfl) ?_
  refine jv_Ev.br jv_i404 (pc' := 43) (st' := []) rfl (jv_bi_le.trans (jx_gof (by decide))) ?_
  refine jv_Ev.steps jv_i404 1 (pc' := 44) (l' := [(0, .ref 178), (1, .int p1), (2, .int p2)]) (st' := [.int (0 : Int32)]) rfl ?_
  exact jv_Ev.ret jv_i404 rfl rfl

set_option maxRecDepth 100000 in
/-- ProgramBoxModel.thrown -/
theorem jx_e112 (p0 : Int32) (p1 : Int32) (p2 : Int32) (p3 : Int32) (p4 : Int32) (p5 : Int32) (g1 : ¬ p2 < (0 : Int32)) (g2 : ¬ (100000 : Int32) < p2) (g3 : p1 < (0 : Int32)) : jv_Ms 350 [.ref 178] (jv_H (jx_K 227) (jv_u jx_If 178 0 (1 : Int32)) jx_L0 (jx_R 227)) 228 1572956 (some (.int (1 : Int32)), (jv_H (jx_K 227) (jv_u jx_If 178 0 (1 : Int32)) jx_L0 (jx_R 227)), 228, 1572956) := by
  show jv_Ev 350 0 [(0, .ref 178)] [] (jv_H (jx_K 227) (jv_u jx_If 178 0 (1 : Int32)) jx_L0 (jx_R 227)) 228 1572956 _
  refine jv_Ev.steps jv_i350 1 (pc' := 1) (l' := [(0, .ref 178)]) (st' := [.ref 178]) rfl ?_
  refine jv_Ev.m jv_i350 (pc' := 4) (st' := [.int (1 : Int32)]) rfl rfl (jv_m_getI rfl rfl rfl rfl) ?_
  exact jv_Ev.ret jv_i350 rfl rfl

set_option maxRecDepth 100000 in
/-- the law: case 13, one way -/
theorem jx_l23 (p0 : Int32) (p1 : Int32) (p2 : Int32) (p3 : Int32) (p4 : Int32) (p5 : Int32) (g1 : ¬ p2 < (0 : Int32)) (g2 : ¬ (100000 : Int32) < p2) (g3 : p1 < (0 : Int32)) (hsw : p0 &&& (31 : Int32) = (13 : Int32)) {p : Program} {l : Launch} {e : Env} {R : Room} {s : State} {m : MethodId} {args : Array Value} {below : List Frame} {meth : Method} {c : Code} {E : jv_Env} {Q : State → Prop} (hTb : jv_TOk jv_Tb) (hT2 : jx_T2Ok) (hl : l.stackTraces = false) (F : jx_F jv_T2 439 E p R s m args meth c) (hZ : jx_Z E s) (hRc : R.cells = 600002) (hRs : R.slots = 7302232) {bb : Nat} {xs : Nat → Int32} (hX : va_X bb 6 xs s E.2.2.2.2) (hbB : bb < E.2.2.2.1) (hE2 : E.1 1000002 = bb) (hQ : ∀ (l0 : jv_L) (G : jv_G) (n sl : Nat), n ≤ 600002 → sl ≤ 7302232 → jw p l e R s m args below meth c E 8 0 0 Q 1532 l0 [.int (1 : Int32)] G n sl) (q0 : xs 0 = p0) (q1 : xs 1 = p1) (q2 : xs 2 = p2) (q3 : xs 3 = p3) (q4 : xs 4 = p4) (q5 : xs 5 = p5) : jw p l e R s m args below meth c E 8 0 0 Q 33 [(0, .ref 1000002), (1, .ref 0), (2, .ref 178), (3, .ref 226), (4, .int (0 : Int32))] [] (jv_H (jx_K 227) jx_If jx_L0 (jx_R 227)) 227 1572950 := by
  refine jw.steps F jx_i439 2 (pc' := 36) (l' := [(0, .ref 1000002), (1, .ref 0), (2, .ref 178), (3, .ref 226), (4, .int (0 : Int32))]) (st' := [.int (0 : Int32), .ref 1000002]) rfl ?_
  refine jw.sld F jx_i439 hX hbB hE2 (pc' := 37) rfl rfl (show vp_in (nI 0) 6 from vp_in_nI (by decide) (by decide)) q0 rfl ?_
  refine jw.steps F jx_i439 2 (pc' := 40) (l' := [(0, .ref 1000002), (1, .ref 0), (2, .ref 178), (3, .ref 226), (4, .int (0 : Int32))]) (st' := [.int (p0 &&& (31 : Int32))]) rfl ?_
  refine jw.br F jx_i439 (pc' := 782) (st' := []) rfl (by rw [hsw]; rfl) ?_
  refine jw.steps F jx_i439 5 (pc' := 788) (l' := [(0, .ref 1000002), (1, .ref 0), (2, .ref 178), (3, .ref 226), (4, .int (0 : Int32))]) (st' := [.int (1 : Int32), .ref 1000002, .ref 0]) rfl ?_
  refine jw.sld F jx_i439 hX hbB hE2 (pc' := 789) rfl rfl (show vp_in (nI 1) 6 from vp_in_nI (by decide) (by decide)) q1 rfl ?_
  refine jw.steps F jx_i439 4 (pc' := 794) (l' := [(0, .ref 1000002), (1, .ref 0), (2, .ref 178), (3, .ref 226), (4, .int (0 : Int32))]) (st' := [.int (2 : Int32), .ref 1000002, .int p1, .ref 0]) rfl ?_
  refine jw.sld F jx_i439 hX hbB hE2 (pc' := 795) rfl rfl (show vp_in (nI 2) 6 from vp_in_nI (by decide) (by decide)) q2 rfl ?_
  refine jw.steps F jx_i439 1 (pc' := 796) (l' := [(0, .ref 1000002), (1, .ref 0), (2, .ref 178), (3, .ref 226), (4, .int (0 : Int32))]) (st' := [.ref 226, .int p2, .int p1, .ref 0]) rfl ?_
  refine jw.wr F hl hZ rfl jx_i439 jx_i448 [.ref 0, .int p1, .int p2, .ref 226] (pc' := 799) (S' := [.int (1 : Int32)]) rfl (List.mem_of_getElem? (i := 8) rfl) (List.mem_of_getElem? (i := 8) rfl) rfl rfl rfl (jx_w110 hTb hT2 p0 p1 p2 p3 p4 p5 g1 g2 g3) (by omega) (by omega) (by omega) (by omega) rfl rfl ?_
  refine jw.steps F jx_i439 6 (pc' := 807) (l' := [(5, .int (1 : Int32)), (0, .ref 1000002), (1, .ref 0), (2, .ref 178), (3, .ref 226), (4, .int (0 : Int32))]) (st' := [.int (1 : Int32), .ref 1000002, .ref 178]) rfl ?_
  refine jw.sld F jx_i439 hX hbB hE2 (pc' := 808) rfl rfl (show vp_in (nI 1) 6 from vp_in_nI (by decide) (by decide)) q1 rfl ?_
  refine jw.steps F jx_i439 4 (pc' := 813) (l' := [(5, .int (1 : Int32)), (0, .ref 1000002), (1, .ref 0), (2, .ref 178), (3, .ref 226), (4, .int (0 : Int32))]) (st' := [.int (2 : Int32), .ref 1000002, .int p1, .ref 178]) rfl ?_
  refine jw.sld F jx_i439 hX hbB hE2 (pc' := 814) rfl rfl (show vp_in (nI 2) 6 from vp_in_nI (by decide) (by decide)) q2 rfl ?_
  refine jw.ca hTb F jx_i439 (pc' := 817) (S' := [.int (0 : Int32)]) rfl jv_i404 [.ref 178, .int p1, .int p2] rfl rfl rfl rfl (jx_cal2 rfl (jv_H_at rfl) rfl rfl) rfl (jx_e111 p0 p1 p2 p3 p4 p5 g1 g2 g3) (by omega) (by omega) rfl rfl ?_
  refine jw.steps F jx_i439 2 (pc' := 820) (l' := [(6, .int (0 : Int32)), (5, .int (1 : Int32)), (0, .ref 1000002), (1, .ref 0), (2, .ref 178), (3, .ref 226), (4, .int (0 : Int32))]) (st' := [.ref 178]) rfl ?_
  refine jw.ca hTb F jx_i439 (pc' := 823) (S' := [.int (1 : Int32)]) rfl jv_i350 [.ref 178] rfl rfl rfl rfl (jx_cal2 rfl (jv_H_at rfl) rfl rfl) rfl (jx_e112 p0 p1 p2 p3 p4 p5 g1 g2 g3) (by omega) (by omega) rfl rfl ?_
  refine jw.steps F jx_i439 1 (pc' := 825) (l' := [(6, .int (0 : Int32)), (5, .int (1 : Int32)), (0, .ref 1000002), (1, .ref 0), (2, .ref 178), (3, .ref 226), (4, .int (0 : Int32))]) (st' := [.int (1 : Int32), .int (1 : Int32)]) rfl ?_
  refine jw.br F jx_i439 (pc' := 830) (st' := []) rfl (jv_bc_eq.trans (jx_got (by decide))) ?_
  refine jw.steps F jx_i439 1 (pc' := 832) (l' := [(6, .int (0 : Int32)), (5, .int (1 : Int32)), (0, .ref 1000002), (1, .ref 0), (2, .ref 178), (3, .ref 226), (4, .int (0 : Int32))]) (st' := [.int (1 : Int32)]) rfl ?_
  refine jw.br F jx_i439 (pc' := 847) (st' := []) rfl (jv_bi_ne.trans (jx_got (by decide))) ?_
  refine jw.steps F jx_i439 5 (pc' := 26) (l' := [(4, .int (6 : Int32)), (6, .int (0 : Int32)), (5, .int (1 : Int32)), (0, .ref 1000002), (1, .ref 0), (2, .ref 178), (3, .ref 226)]) (st' := [.ref 1000002, .int (6 : Int32)]) rfl ?_
  refine jw.slen F jx_i439 hX hbB hE2 (pc' := 27) rfl rfl rfl ?_
  refine jw.steps F jx_i439 2 (pc' := 30) (l' := [(4, .int (6 : Int32)), (6, .int (0 : Int32)), (5, .int (1 : Int32)), (0, .ref 1000002), (1, .ref 0), (2, .ref 178), (3, .ref 226)]) (st' := [.int (0 : Int32), .int (6 : Int32)]) rfl ?_
  refine jw.br F jx_i439 (pc' := 1531) (st' := []) rfl (jv_bc_gt.trans (jx_got (by decide))) ?_
  refine jw.steps F jx_i439 1 (pc' := 1532) (l' := [(4, .int (6 : Int32)), (6, .int (0 : Int32)), (5, .int (1 : Int32)), (0, .ref 1000002), (1, .ref 0), (2, .ref 178), (3, .ref 226)]) (st' := [.int (1 : Int32)]) rfl ?_
  exact hQ _ _ _ _ (by omega) (by omega)

set_option maxRecDepth 100000 in
/-- ProgramBox.run: it throws -/
theorem jx_e113 (hTb : jv_TOk jv_Tb) (p0 : Int32) (p1 : Int32) (p2 : Int32) (p3 : Int32) (p4 : Int32) (p5 : Int32) (g1 : ¬ p2 < (0 : Int32)) (g2 : ¬ (100000 : Int32) < p2) (g3 : ¬ p1 < (0 : Int32)) : jx_Th 427 [.ref 0, .int p1, .int p2] (jv_H (jx_K 227) jx_If jx_L0 (jx_R 227)) 227 1572950 2 (jv_H (jx_K 227) jx_If jx_L0 (jx_R 227)) 228 1572956 := by
  refine jx_Th.of hTb (y := 427) rfl (Nat.le_of_ble_eq_true rfl) ?_
  intro p l e R s m args below meth c E hl F hZ h0 ht hRc hRs
  show jw p l e R s m args below meth c E 3 227 1572950 _ 0 [(0, .ref 0), (1, .int p1), (2, .int p2)] [] (jv_H (jx_K 227) jx_If jx_L0 (jx_R 227)) 227 1572950
  refine jw.steps F jv_i427 1 (pc' := 1) (l' := [(0, .ref 0), (1, .int p1), (2, .int p2)]) (st' := [.int p2]) rfl ?_
  refine jw.br F jv_i427 (pc' := 4) (st' := []) rfl (jv_bi_lt.trans (jx_gof g1)) ?_
  refine jw.steps F jv_i427 2 (pc' := 7) (l' := [(0, .ref 0), (1, .int p1), (2, .int p2)]) (st' := [.int (100000 : Int32), .int p2]) rfl ?_
  refine jw.br F jv_i427 (pc' := 20) (st' := []) rfl (jv_bc_le.trans (jx_got (Int32.not_lt.mp g2))) ?_
  refine jw.steps F jv_i427 1 (pc' := 21) (l' := [(0, .ref 0), (1, .int p1), (2, .int p2)]) (st' := [.int p1]) rfl ?_
  refine jw.br F jv_i427 (pc' := 24) (st' := []) rfl (jv_bi_lt.trans (jx_gof g3)) ?_
  refine jw.steps F jv_i427 2 (pc' := 26) (l' := [(0, .ref 0), (1, .int p1), (2, .int p2)]) (st' := [.ref 0, .int p1]) rfl ?_
  refine jw.me F jv_i427 (pc' := 29) (st' := [.int (0 : Int32), .int p1]) rfl rfl (jv_m_getI rfl rfl rfl rfl) ?_
  refine jw.br F jv_i427 (pc' := 32) (st' := []) rfl (jv_bc_lt.trans (jx_gof g3)) ?_
  exact jw.throw hl F hZ h0 rfl jv_i427 ht 2 154 "there is no such program" (List.mem_of_getElem? (i := 10) rfl) (by decide +kernel) (by decide +kernel) (by decide +kernel) (by decide +kernel) (by decide +kernel) rfl (by decide) (by decide) (by decide) (by omega) (by omega)

set_option maxRecDepth 100000 in
/-- the law's run -/
theorem jx_w114 (hTb : jv_TOk jv_Tb) (hT2 : jx_T2Ok) (p0 : Int32) (p1 : Int32) (p2 : Int32) (p3 : Int32) (p4 : Int32) (p5 : Int32) (g1 : ¬ p2 < (0 : Int32)) (g2 : ¬ (100000 : Int32) < p2) (g3 : ¬ p1 < (0 : Int32)) : jx_Wr 448 [(0, 10, 13, 36), (0, 10, 17, 19)] [.ref 0, .int p1, .int p2, .ref 226] (jv_H (jx_K 227) jx_If jx_L0 (jx_R 227)) 227 1572950 (some (.int (1 : Int32)), (jv_H (jx_K 227) jx_If jx_L0 (jx_R 227)), 228, 1572956) := by
  refine jx_Wr.of hT2 (by decide) rfl (Nat.le_of_ble_eq_true rfl) ?_
  intro p l e R s m args below meth c E hl F hZ htb hRc hRs
  show jw p l e R s m args below meth c E 5 227 1572950 _ 0 [(0, .ref 0), (1, .int p1), (2, .int p2), (3, .ref 226)] [] (jv_H (jx_K 227) jx_If jx_L0 (jx_R 227)) 227 1572950
  have hRc : R.cells = 228 - 227 := hRc
  have hRs : R.slots = 1572956 - 1572950 := hRs
  refine jw.steps F jx_i448 5 (pc' := 5) (l' := [(0, .ref 0), (1, .int p1), (2, .int p2), (3, .ref 226)]) (st' := [.int p2, .int p1, .ref 0, .int (0 : Int32), .ref 226]) rfl ?_
  refine jw.cat hTb hl F hZ rfl jx_i448 htb rfl jv_i427 [.ref 0, .int p1, .int p2] rfl rfl rfl rfl rfl (jx_cal2 rfl (jv_H_at rfl) rfl rfl) rfl (jx_e113 hTb p0 p1 p2 p3 p4 p5 g1 g2 g3) (by omega) (by omega) (by omega) (by omega) [] (0, 10, 13, 36) [(0, 10, 17, 19)] rfl (fun z h => absurd h List.not_mem_nil) (by decide) rfl rfl (Or.inl ⟨rfl, rfl⟩) (by decide) ?_
  refine jw.steps F jx_i448 1 (pc' := 16) (l' := []) (st' := [.int (1 : Int32)]) rfl ?_
  exact jw.ret F jx_i448 rfl rfl

set_option maxRecDepth 100000 in
/-- ProgramBoxModel.run -/
theorem jx_e115 (p0 : Int32) (p1 : Int32) (p2 : Int32) (p3 : Int32) (p4 : Int32) (p5 : Int32) (g1 : ¬ p2 < (0 : Int32)) (g2 : ¬ (100000 : Int32) < p2) (g3 : ¬ p1 < (0 : Int32)) : jv_Ms 404 [.ref 178, .int p1, .int p2] (jv_H (jx_K 227) jx_If jx_L0 (jx_R 227)) 228 1572956 (some (.int (0 : Int32)), (jv_H (jx_K 227) (jv_u jx_If 178 0 (1 : Int32)) jx_L0 (jx_R 227)), 228, 1572956) := by
  show jv_Ev 404 0 [(0, .ref 178), (1, .int p1), (2, .int p2)] [] (jv_H (jx_K 227) jx_If jx_L0 (jx_R 227)) 228 1572956 _
  refine jv_Ev.steps jv_i404 2 (pc' := 2) (l' := [(0, .ref 178), (1, .int p1), (2, .int p2)]) (st' := [.int p2, .ref 178]) rfl ?_
  refine jv_Ev.br jv_i404 (pc' := 5) (st' := [.ref 178]) rfl (jv_bi_lt.trans (jx_gof g1)) ?_
  refine jv_Ev.steps jv_i404 2 (pc' := 9) (l' := [(0, .ref 178), (1, .int p1), (2, .int p2)]) (st' := [.int (100000 : Int32), .int p2, .ref 178]) rfl ?_
  refine jv_Ev.br jv_i404 (pc' := 16) (st' := [.ref 178]) rfl (jv_bc_le.trans (jx_got (Int32.not_lt.mp g2))) ?_
  refine jv_Ev.steps jv_i404 1 (pc' := 17) (l' := [(0, .ref 178), (1, .int p1), (2, .int p2)]) (st' := [.int p1, .ref 178]) rfl ?_
  refine jv_Ev.br jv_i404 (pc' := 20) (st' := [.ref 178]) rfl (jv_bi_lt.trans (jx_gof g3)) ?_
  refine jv_Ev.steps jv_i404 2 (pc' := 22) (l' := [(0, .ref 178), (1, .int p1), (2, .int p2)]) (st' := [.ref 178, .int p1, .ref 178]) rfl ?_
  refine jv_Ev.m jv_i404 (pc' := 25) (st' := [.int (0 : Int32), .int p1, .ref 178]) rfl rfl (jv_m_getI rfl rfl rfl rfl) ?_
  refine jv_Ev.br jv_i404 (pc' := 28) (st' := [.ref 178]) rfl (jv_bc_lt.trans (jx_gof g3)) ?_
  refine jv_Ev.steps jv_i404 2 (pc' := 33) (l' := [(0, .ref 178), (1, .int p1), (2, .int p2)]) (st' := [.int (1 : Int32), .ref 178]) rfl ?_
  refine jv_Ev.m jv_i404 (pc' := 36) (st' := []) rfl rfl (jv_m_putI rfl rfl rfl rfl rfl) ?_
  refine jv_Ev.steps jv_i404 1 (pc' := 37) (l' := [(0, .ref 178), (1, .int p1), (2, .int p2)]) (st' := [.ref 178]) rfl ?_
  refine jv_Ev.m jv_i404 (pc' := 40) (st' := [.int (1 : Int32)]) rfl rfl (jv_m_getI rfl rfl rfl rfl) ?_
  refine jv_Ev.br jv_i404 (pc' := 43) (st' := []) rfl (jv_bi_le.trans (jx_gof (by decide))) ?_
  refine jv_Ev.steps jv_i404 1 (pc' := 44) (l' := [(0, .ref 178), (1, .int p1), (2, .int p2)]) (st' := [.int (0 : Int32)]) rfl ?_
  exact jv_Ev.ret jv_i404 rfl rfl

set_option maxRecDepth 100000 in
/-- ProgramBoxModel.thrown -/
theorem jx_e116 (p0 : Int32) (p1 : Int32) (p2 : Int32) (p3 : Int32) (p4 : Int32) (p5 : Int32) (g1 : ¬ p2 < (0 : Int32)) (g2 : ¬ (100000 : Int32) < p2) (g3 : ¬ p1 < (0 : Int32)) : jv_Ms 350 [.ref 178] (jv_H (jx_K 227) (jv_u jx_If 178 0 (1 : Int32)) jx_L0 (jx_R 227)) 228 1572956 (some (.int (1 : Int32)), (jv_H (jx_K 227) (jv_u jx_If 178 0 (1 : Int32)) jx_L0 (jx_R 227)), 228, 1572956) := by
  show jv_Ev 350 0 [(0, .ref 178)] [] (jv_H (jx_K 227) (jv_u jx_If 178 0 (1 : Int32)) jx_L0 (jx_R 227)) 228 1572956 _
  refine jv_Ev.steps jv_i350 1 (pc' := 1) (l' := [(0, .ref 178)]) (st' := [.ref 178]) rfl ?_
  refine jv_Ev.m jv_i350 (pc' := 4) (st' := [.int (1 : Int32)]) rfl rfl (jv_m_getI rfl rfl rfl rfl) ?_
  exact jv_Ev.ret jv_i350 rfl rfl

set_option maxRecDepth 100000 in
/-- the law: case 13, one way -/
theorem jx_l24 (p0 : Int32) (p1 : Int32) (p2 : Int32) (p3 : Int32) (p4 : Int32) (p5 : Int32) (g1 : ¬ p2 < (0 : Int32)) (g2 : ¬ (100000 : Int32) < p2) (g3 : ¬ p1 < (0 : Int32)) (hsw : p0 &&& (31 : Int32) = (13 : Int32)) {p : Program} {l : Launch} {e : Env} {R : Room} {s : State} {m : MethodId} {args : Array Value} {below : List Frame} {meth : Method} {c : Code} {E : jv_Env} {Q : State → Prop} (hTb : jv_TOk jv_Tb) (hT2 : jx_T2Ok) (hl : l.stackTraces = false) (F : jx_F jv_T2 439 E p R s m args meth c) (hZ : jx_Z E s) (hRc : R.cells = 600002) (hRs : R.slots = 7302232) {bb : Nat} {xs : Nat → Int32} (hX : va_X bb 6 xs s E.2.2.2.2) (hbB : bb < E.2.2.2.1) (hE2 : E.1 1000002 = bb) (hQ : ∀ (l0 : jv_L) (G : jv_G) (n sl : Nat), n ≤ 600002 → sl ≤ 7302232 → jw p l e R s m args below meth c E 8 0 0 Q 1532 l0 [.int (1 : Int32)] G n sl) (q0 : xs 0 = p0) (q1 : xs 1 = p1) (q2 : xs 2 = p2) (q3 : xs 3 = p3) (q4 : xs 4 = p4) (q5 : xs 5 = p5) : jw p l e R s m args below meth c E 8 0 0 Q 33 [(0, .ref 1000002), (1, .ref 0), (2, .ref 178), (3, .ref 226), (4, .int (0 : Int32))] [] (jv_H (jx_K 227) jx_If jx_L0 (jx_R 227)) 227 1572950 := by
  refine jw.steps F jx_i439 2 (pc' := 36) (l' := [(0, .ref 1000002), (1, .ref 0), (2, .ref 178), (3, .ref 226), (4, .int (0 : Int32))]) (st' := [.int (0 : Int32), .ref 1000002]) rfl ?_
  refine jw.sld F jx_i439 hX hbB hE2 (pc' := 37) rfl rfl (show vp_in (nI 0) 6 from vp_in_nI (by decide) (by decide)) q0 rfl ?_
  refine jw.steps F jx_i439 2 (pc' := 40) (l' := [(0, .ref 1000002), (1, .ref 0), (2, .ref 178), (3, .ref 226), (4, .int (0 : Int32))]) (st' := [.int (p0 &&& (31 : Int32))]) rfl ?_
  refine jw.br F jx_i439 (pc' := 782) (st' := []) rfl (by rw [hsw]; rfl) ?_
  refine jw.steps F jx_i439 5 (pc' := 788) (l' := [(0, .ref 1000002), (1, .ref 0), (2, .ref 178), (3, .ref 226), (4, .int (0 : Int32))]) (st' := [.int (1 : Int32), .ref 1000002, .ref 0]) rfl ?_
  refine jw.sld F jx_i439 hX hbB hE2 (pc' := 789) rfl rfl (show vp_in (nI 1) 6 from vp_in_nI (by decide) (by decide)) q1 rfl ?_
  refine jw.steps F jx_i439 4 (pc' := 794) (l' := [(0, .ref 1000002), (1, .ref 0), (2, .ref 178), (3, .ref 226), (4, .int (0 : Int32))]) (st' := [.int (2 : Int32), .ref 1000002, .int p1, .ref 0]) rfl ?_
  refine jw.sld F jx_i439 hX hbB hE2 (pc' := 795) rfl rfl (show vp_in (nI 2) 6 from vp_in_nI (by decide) (by decide)) q2 rfl ?_
  refine jw.steps F jx_i439 1 (pc' := 796) (l' := [(0, .ref 1000002), (1, .ref 0), (2, .ref 178), (3, .ref 226), (4, .int (0 : Int32))]) (st' := [.ref 226, .int p2, .int p1, .ref 0]) rfl ?_
  refine jw.wr F hl hZ rfl jx_i439 jx_i448 [.ref 0, .int p1, .int p2, .ref 226] (pc' := 799) (S' := [.int (1 : Int32)]) rfl (List.mem_of_getElem? (i := 8) rfl) (List.mem_of_getElem? (i := 8) rfl) rfl rfl rfl (jx_w114 hTb hT2 p0 p1 p2 p3 p4 p5 g1 g2 g3) (by omega) (by omega) (by omega) (by omega) rfl rfl ?_
  refine jw.steps F jx_i439 6 (pc' := 807) (l' := [(5, .int (1 : Int32)), (0, .ref 1000002), (1, .ref 0), (2, .ref 178), (3, .ref 226), (4, .int (0 : Int32))]) (st' := [.int (1 : Int32), .ref 1000002, .ref 178]) rfl ?_
  refine jw.sld F jx_i439 hX hbB hE2 (pc' := 808) rfl rfl (show vp_in (nI 1) 6 from vp_in_nI (by decide) (by decide)) q1 rfl ?_
  refine jw.steps F jx_i439 4 (pc' := 813) (l' := [(5, .int (1 : Int32)), (0, .ref 1000002), (1, .ref 0), (2, .ref 178), (3, .ref 226), (4, .int (0 : Int32))]) (st' := [.int (2 : Int32), .ref 1000002, .int p1, .ref 178]) rfl ?_
  refine jw.sld F jx_i439 hX hbB hE2 (pc' := 814) rfl rfl (show vp_in (nI 2) 6 from vp_in_nI (by decide) (by decide)) q2 rfl ?_
  refine jw.ca hTb F jx_i439 (pc' := 817) (S' := [.int (0 : Int32)]) rfl jv_i404 [.ref 178, .int p1, .int p2] rfl rfl rfl rfl (jx_cal2 rfl (jv_H_at rfl) rfl rfl) rfl (jx_e115 p0 p1 p2 p3 p4 p5 g1 g2 g3) (by omega) (by omega) rfl rfl ?_
  refine jw.steps F jx_i439 2 (pc' := 820) (l' := [(6, .int (0 : Int32)), (5, .int (1 : Int32)), (0, .ref 1000002), (1, .ref 0), (2, .ref 178), (3, .ref 226), (4, .int (0 : Int32))]) (st' := [.ref 178]) rfl ?_
  refine jw.ca hTb F jx_i439 (pc' := 823) (S' := [.int (1 : Int32)]) rfl jv_i350 [.ref 178] rfl rfl rfl rfl (jx_cal2 rfl (jv_H_at rfl) rfl rfl) rfl (jx_e116 p0 p1 p2 p3 p4 p5 g1 g2 g3) (by omega) (by omega) rfl rfl ?_
  refine jw.steps F jx_i439 1 (pc' := 825) (l' := [(6, .int (0 : Int32)), (5, .int (1 : Int32)), (0, .ref 1000002), (1, .ref 0), (2, .ref 178), (3, .ref 226), (4, .int (0 : Int32))]) (st' := [.int (1 : Int32), .int (1 : Int32)]) rfl ?_
  refine jw.br F jx_i439 (pc' := 830) (st' := []) rfl (jv_bc_eq.trans (jx_got (by decide))) ?_
  refine jw.steps F jx_i439 1 (pc' := 832) (l' := [(6, .int (0 : Int32)), (5, .int (1 : Int32)), (0, .ref 1000002), (1, .ref 0), (2, .ref 178), (3, .ref 226), (4, .int (0 : Int32))]) (st' := [.int (1 : Int32)]) rfl ?_
  refine jw.br F jx_i439 (pc' := 847) (st' := []) rfl (jv_bi_ne.trans (jx_got (by decide))) ?_
  refine jw.steps F jx_i439 5 (pc' := 26) (l' := [(4, .int (6 : Int32)), (6, .int (0 : Int32)), (5, .int (1 : Int32)), (0, .ref 1000002), (1, .ref 0), (2, .ref 178), (3, .ref 226)]) (st' := [.ref 1000002, .int (6 : Int32)]) rfl ?_
  refine jw.slen F jx_i439 hX hbB hE2 (pc' := 27) rfl rfl rfl ?_
  refine jw.steps F jx_i439 2 (pc' := 30) (l' := [(4, .int (6 : Int32)), (6, .int (0 : Int32)), (5, .int (1 : Int32)), (0, .ref 1000002), (1, .ref 0), (2, .ref 178), (3, .ref 226)]) (st' := [.int (0 : Int32), .int (6 : Int32)]) rfl ?_
  refine jw.br F jx_i439 (pc' := 1531) (st' := []) rfl (jv_bc_gt.trans (jx_got (by decide))) ?_
  refine jw.steps F jx_i439 1 (pc' := 1532) (l' := [(4, .int (6 : Int32)), (6, .int (0 : Int32)), (5, .int (1 : Int32)), (0, .ref 1000002), (1, .ref 0), (2, .ref 178), (3, .ref 226)]) (st' := [.int (1 : Int32)]) rfl ?_
  exact hQ _ _ _ _ (by omega) (by omega)

set_option maxRecDepth 100000 in
/-- the law: case 13 -/
theorem jx_case13 (p0 : Int32) (p1 : Int32) (p2 : Int32) (p3 : Int32) (p4 : Int32) (p5 : Int32) (hsw : p0 &&& (31 : Int32) = (13 : Int32)) {p : Program} {l : Launch} {e : Env} {R : Room} {s : State} {m : MethodId} {args : Array Value} {below : List Frame} {meth : Method} {c : Code} {E : jv_Env} {Q : State → Prop} (hTb : jv_TOk jv_Tb) (hT2 : jx_T2Ok) (hl : l.stackTraces = false) (F : jx_F jv_T2 439 E p R s m args meth c) (hZ : jx_Z E s) (hRc : R.cells = 600002) (hRs : R.slots = 7302232) {bb : Nat} {xs : Nat → Int32} (hX : va_X bb 6 xs s E.2.2.2.2) (hbB : bb < E.2.2.2.1) (hE2 : E.1 1000002 = bb) (hQ : ∀ (l0 : jv_L) (G : jv_G) (n sl : Nat), n ≤ 600002 → sl ≤ 7302232 → jw p l e R s m args below meth c E 8 0 0 Q 1532 l0 [.int (1 : Int32)] G n sl) (q0 : xs 0 = p0) (q1 : xs 1 = p1) (q2 : xs 2 = p2) (q3 : xs 3 = p3) (q4 : xs 4 = p4) (q5 : xs 5 = p5) : jw p l e R s m args below meth c E 8 0 0 Q 33 [(0, .ref 1000002), (1, .ref 0), (2, .ref 178), (3, .ref 226), (4, .int (0 : Int32))] [] (jv_H (jx_K 227) jx_If jx_L0 (jx_R 227)) 227 1572950 := by
  by_cases g1 : p2 < (0 : Int32)
  · exact jx_l21 p0 p1 p2 p3 p4 p5 g1 hsw hTb hT2 hl F hZ hRc hRs hX hbB hE2 hQ q0 q1 q2 q3 q4 q5
  · by_cases g2 : (100000 : Int32) < p2
    · exact jx_l22 p0 p1 p2 p3 p4 p5 g1 g2 hsw hTb hT2 hl F hZ hRc hRs hX hbB hE2 hQ q0 q1 q2 q3 q4 q5
    · by_cases g3 : p1 < (0 : Int32)
      · exact jx_l23 p0 p1 p2 p3 p4 p5 g1 g2 g3 hsw hTb hT2 hl F hZ hRc hRs hX hbB hE2 hQ q0 q1 q2 q3 q4 q5
      · exact jx_l24 p0 p1 p2 p3 p4 p5 g1 g2 g3 hsw hTb hT2 hl F hZ hRc hRs hX hbB hE2 hQ q0 q1 q2 q3 q4 q5

set_option maxRecDepth 100000 in
theorem jv_i194 : jv_I 194 1 (some .long) 0 0 jv_c194 := ⟨rfl, rfl, rfl, rfl, rfl⟩
set_option maxRecDepth 100000 in
/-- ProgramBox.result -/
theorem jx_e117 (p0 : Int32) (p1 : Int32) (p2 : Int32) (p3 : Int32) (p4 : Int32) (p5 : Int32)  : jv_Ms 194 [.ref 0] (jv_H (jx_K 227) jx_If jx_L0 (jx_R 227)) 227 1572950 (some (.long (0 : Int64)), (jv_H (jx_K 227) jx_If jx_L0 (jx_R 227)), 227, 1572950) := by
  show jv_Ev 194 0 [(0, .ref 0)] [] (jv_H (jx_K 227) jx_If jx_L0 (jx_R 227)) 227 1572950 _
  refine jv_Ev.steps jv_i194 1 (pc' := 1) (l' := [(0, .ref 0)]) (st' := [.ref 0]) rfl ?_
  refine jv_Ev.m jv_i194 (pc' := 4) (st' := [.ref 171]) rfl rfl (jv_m_getR rfl rfl rfl rfl) ?_
  refine jv_Ev.m jv_i194 (pc' := 7) (st' := [.long (0 : Int64)]) rfl rfl (jv_m_getL rfl rfl rfl rfl) ?_
  exact jv_Ev.ret jv_i194 rfl rfl

set_option maxRecDepth 100000 in
theorem jv_i405 : jv_I 405 1 (some .long) 0 0 jv_c405 := ⟨rfl, rfl, rfl, rfl, rfl⟩
set_option maxRecDepth 100000 in
/-- ProgramBoxModel.result -/
theorem jx_e118 (p0 : Int32) (p1 : Int32) (p2 : Int32) (p3 : Int32) (p4 : Int32) (p5 : Int32)  : jv_Ms 405 [.ref 178] (jv_H (jx_K 227) jx_If jx_L0 (jx_R 227)) 227 1572950 (some (.long (0 : Int64)), (jv_H (jx_K 227) (jv_u jx_If 178 0 (0 : Int32)) jx_L0 (jx_R 227)), 227, 1572950) := by
  show jv_Ev 405 0 [(0, .ref 178)] [] (jv_H (jx_K 227) jx_If jx_L0 (jx_R 227)) 227 1572950 _
  refine jv_Ev.steps jv_i405 2 (pc' := 2) (l' := [(0, .ref 178)]) (st' := [.int (0 : Int32), .ref 178]) rfl ?_
  refine jv_Ev.m jv_i405 (pc' := 5) (st' := []) rfl rfl (jv_m_putI rfl rfl rfl rfl rfl) ?_
  refine jv_Ev.steps jv_i405 1 (pc' := 6) (l' := [(0, .ref 178)]) (st' := [.ref 178]) rfl ?_
  refine jv_Ev.m jv_i405 (pc' := 9) (st' := [.long (0 : Int64)]) rfl rfl (jv_m_getL rfl rfl rfl rfl) ?_
  exact jv_Ev.ret jv_i405 rfl rfl

set_option maxRecDepth 100000 in
/-- the law: case 14, one way -/
theorem jx_l25 (p0 : Int32) (p1 : Int32) (p2 : Int32) (p3 : Int32) (p4 : Int32) (p5 : Int32)  (hsw : p0 &&& (31 : Int32) = (14 : Int32)) {p : Program} {l : Launch} {e : Env} {R : Room} {s : State} {m : MethodId} {args : Array Value} {below : List Frame} {meth : Method} {c : Code} {E : jv_Env} {Q : State → Prop} (hTb : jv_TOk jv_Tb) (hT2 : jx_T2Ok) (hl : l.stackTraces = false) (F : jx_F jv_T2 439 E p R s m args meth c) (hZ : jx_Z E s) (hRc : R.cells = 600002) (hRs : R.slots = 7302232) {bb : Nat} {xs : Nat → Int32} (hX : va_X bb 6 xs s E.2.2.2.2) (hbB : bb < E.2.2.2.1) (hE2 : E.1 1000002 = bb) (hQ : ∀ (l0 : jv_L) (G : jv_G) (n sl : Nat), n ≤ 600002 → sl ≤ 7302232 → jw p l e R s m args below meth c E 8 0 0 Q 1532 l0 [.int (1 : Int32)] G n sl) (q0 : xs 0 = p0) (q1 : xs 1 = p1) (q2 : xs 2 = p2) (q3 : xs 3 = p3) (q4 : xs 4 = p4) (q5 : xs 5 = p5) : jw p l e R s m args below meth c E 8 0 0 Q 33 [(0, .ref 1000002), (1, .ref 0), (2, .ref 178), (3, .ref 226), (4, .int (0 : Int32))] [] (jv_H (jx_K 227) jx_If jx_L0 (jx_R 227)) 227 1572950 := by
  refine jw.steps F jx_i439 2 (pc' := 36) (l' := [(0, .ref 1000002), (1, .ref 0), (2, .ref 178), (3, .ref 226), (4, .int (0 : Int32))]) (st' := [.int (0 : Int32), .ref 1000002]) rfl ?_
  refine jw.sld F jx_i439 hX hbB hE2 (pc' := 37) rfl rfl (show vp_in (nI 0) 6 from vp_in_nI (by decide) (by decide)) q0 rfl ?_
  refine jw.steps F jx_i439 2 (pc' := 40) (l' := [(0, .ref 1000002), (1, .ref 0), (2, .ref 178), (3, .ref 226), (4, .int (0 : Int32))]) (st' := [.int (p0 &&& (31 : Int32))]) rfl ?_
  refine jw.br F jx_i439 (pc' := 850) (st' := []) rfl (by rw [hsw]; rfl) ?_
  refine jw.steps F jx_i439 1 (pc' := 851) (l' := [(0, .ref 1000002), (1, .ref 0), (2, .ref 178), (3, .ref 226), (4, .int (0 : Int32))]) (st' := [.ref 0]) rfl ?_
  refine jw.ca hTb F jx_i439 (pc' := 854) (S' := [.long (0 : Int64)]) rfl jv_i194 [.ref 0] rfl rfl rfl rfl (jx_cal2 rfl (jv_H_at rfl) rfl rfl) rfl (jx_e117 p0 p1 p2 p3 p4 p5 ) (by omega) (by omega) rfl rfl ?_
  refine jw.steps F jx_i439 1 (pc' := 855) (l' := [(0, .ref 1000002), (1, .ref 0), (2, .ref 178), (3, .ref 226), (4, .int (0 : Int32))]) (st' := [.ref 178, .long (0 : Int64)]) rfl ?_
  refine jw.ca hTb F jx_i439 (pc' := 858) (S' := [.long (0 : Int64), .long (0 : Int64)]) rfl jv_i405 [.ref 178] rfl rfl rfl rfl (jx_cal2 rfl (jv_H_at rfl) rfl rfl) rfl (jx_e118 p0 p1 p2 p3 p4 p5 ) (by omega) (by omega) rfl rfl ?_
  refine jw.steps F jx_i439 1 (pc' := 859) (l' := [(0, .ref 1000002), (1, .ref 0), (2, .ref 178), (3, .ref 226), (4, .int (0 : Int32))]) (st' := [.int (0 : Int32)]) rfl ?_
  refine jw.br F jx_i439 (pc' := 1525) (st' := []) rfl (jv_bi_eq.trans (jx_got (by decide))) ?_
  refine jw.steps F jx_i439 4 (pc' := 26) (l' := [(4, .int (6 : Int32)), (0, .ref 1000002), (1, .ref 0), (2, .ref 178), (3, .ref 226)]) (st' := [.ref 1000002, .int (6 : Int32)]) rfl ?_
  refine jw.slen F jx_i439 hX hbB hE2 (pc' := 27) rfl rfl rfl ?_
  refine jw.steps F jx_i439 2 (pc' := 30) (l' := [(4, .int (6 : Int32)), (0, .ref 1000002), (1, .ref 0), (2, .ref 178), (3, .ref 226)]) (st' := [.int (0 : Int32), .int (6 : Int32)]) rfl ?_
  refine jw.br F jx_i439 (pc' := 1531) (st' := []) rfl (jv_bc_gt.trans (jx_got (by decide))) ?_
  refine jw.steps F jx_i439 1 (pc' := 1532) (l' := [(4, .int (6 : Int32)), (0, .ref 1000002), (1, .ref 0), (2, .ref 178), (3, .ref 226)]) (st' := [.int (1 : Int32)]) rfl ?_
  exact hQ _ _ _ _ (by omega) (by omega)

set_option maxRecDepth 100000 in
/-- the law: case 14 -/
theorem jx_case14 (p0 : Int32) (p1 : Int32) (p2 : Int32) (p3 : Int32) (p4 : Int32) (p5 : Int32) (hsw : p0 &&& (31 : Int32) = (14 : Int32)) {p : Program} {l : Launch} {e : Env} {R : Room} {s : State} {m : MethodId} {args : Array Value} {below : List Frame} {meth : Method} {c : Code} {E : jv_Env} {Q : State → Prop} (hTb : jv_TOk jv_Tb) (hT2 : jx_T2Ok) (hl : l.stackTraces = false) (F : jx_F jv_T2 439 E p R s m args meth c) (hZ : jx_Z E s) (hRc : R.cells = 600002) (hRs : R.slots = 7302232) {bb : Nat} {xs : Nat → Int32} (hX : va_X bb 6 xs s E.2.2.2.2) (hbB : bb < E.2.2.2.1) (hE2 : E.1 1000002 = bb) (hQ : ∀ (l0 : jv_L) (G : jv_G) (n sl : Nat), n ≤ 600002 → sl ≤ 7302232 → jw p l e R s m args below meth c E 8 0 0 Q 1532 l0 [.int (1 : Int32)] G n sl) (q0 : xs 0 = p0) (q1 : xs 1 = p1) (q2 : xs 2 = p2) (q3 : xs 3 = p3) (q4 : xs 4 = p4) (q5 : xs 5 = p5) : jw p l e R s m args below meth c E 8 0 0 Q 33 [(0, .ref 1000002), (1, .ref 0), (2, .ref 178), (3, .ref 226), (4, .int (0 : Int32))] [] (jv_H (jx_K 227) jx_If jx_L0 (jx_R 227)) 227 1572950 := by
  exact jx_l25 p0 p1 p2 p3 p4 p5  hsw hTb hT2 hl F hZ hRc hRs hX hbB hE2 hQ q0 q1 q2 q3 q4 q5

set_option maxRecDepth 100000 in
theorem jv_i195 : jv_I 195 1 (some .int) 0 0 jv_c195 := ⟨rfl, rfl, rfl, rfl, rfl⟩
set_option maxRecDepth 100000 in
/-- ProgramBox.place -/
theorem jx_e119 (p0 : Int32) (p1 : Int32) (p2 : Int32) (p3 : Int32) (p4 : Int32) (p5 : Int32)  : jv_Ms 195 [.ref 0] (jv_H (jx_K 227) jx_If jx_L0 (jx_R 227)) 227 1572950 (some (.int (-1 : Int32)), (jv_H (jx_K 227) jx_If jx_L0 (jx_R 227)), 227, 1572950) := by
  show jv_Ev 195 0 [(0, .ref 0)] [] (jv_H (jx_K 227) jx_If jx_L0 (jx_R 227)) 227 1572950 _
  refine jv_Ev.steps jv_i195 1 (pc' := 1) (l' := [(0, .ref 0)]) (st' := [.ref 0]) rfl ?_
  refine jv_Ev.m jv_i195 (pc' := 4) (st' := [.ref 171]) rfl rfl (jv_m_getR rfl rfl rfl rfl) ?_
  refine jv_Ev.m jv_i195 (pc' := 7) (st' := [.int (-1 : Int32)]) rfl rfl (jv_m_getI rfl rfl rfl rfl) ?_
  exact jv_Ev.ret jv_i195 rfl rfl

set_option maxRecDepth 100000 in
theorem jv_i406 : jv_I 406 1 (some .int) 0 0 jv_c406 := ⟨rfl, rfl, rfl, rfl, rfl⟩
set_option maxRecDepth 100000 in
/-- ProgramBoxModel.place -/
theorem jx_e120 (p0 : Int32) (p1 : Int32) (p2 : Int32) (p3 : Int32) (p4 : Int32) (p5 : Int32)  : jv_Ms 406 [.ref 178] (jv_H (jx_K 227) jx_If jx_L0 (jx_R 227)) 227 1572950 (some (.int (-1 : Int32)), (jv_H (jx_K 227) (jv_u jx_If 178 0 (0 : Int32)) jx_L0 (jx_R 227)), 227, 1572950) := by
  show jv_Ev 406 0 [(0, .ref 178)] [] (jv_H (jx_K 227) jx_If jx_L0 (jx_R 227)) 227 1572950 _
  refine jv_Ev.steps jv_i406 2 (pc' := 2) (l' := [(0, .ref 178)]) (st' := [.int (0 : Int32), .ref 178]) rfl ?_
  refine jv_Ev.m jv_i406 (pc' := 5) (st' := []) rfl rfl (jv_m_putI rfl rfl rfl rfl rfl) ?_
  refine jv_Ev.steps jv_i406 1 (pc' := 6) (l' := [(0, .ref 178)]) (st' := [.ref 178]) rfl ?_
  refine jv_Ev.m jv_i406 (pc' := 9) (st' := [.int (-1 : Int32)]) rfl rfl (jv_m_getI rfl rfl rfl rfl) ?_
  exact jv_Ev.ret jv_i406 rfl rfl

set_option maxRecDepth 100000 in
/-- the law: case 15, one way -/
theorem jx_l26 (p0 : Int32) (p1 : Int32) (p2 : Int32) (p3 : Int32) (p4 : Int32) (p5 : Int32)  (hsw : p0 &&& (31 : Int32) = (15 : Int32)) {p : Program} {l : Launch} {e : Env} {R : Room} {s : State} {m : MethodId} {args : Array Value} {below : List Frame} {meth : Method} {c : Code} {E : jv_Env} {Q : State → Prop} (hTb : jv_TOk jv_Tb) (hT2 : jx_T2Ok) (hl : l.stackTraces = false) (F : jx_F jv_T2 439 E p R s m args meth c) (hZ : jx_Z E s) (hRc : R.cells = 600002) (hRs : R.slots = 7302232) {bb : Nat} {xs : Nat → Int32} (hX : va_X bb 6 xs s E.2.2.2.2) (hbB : bb < E.2.2.2.1) (hE2 : E.1 1000002 = bb) (hQ : ∀ (l0 : jv_L) (G : jv_G) (n sl : Nat), n ≤ 600002 → sl ≤ 7302232 → jw p l e R s m args below meth c E 8 0 0 Q 1532 l0 [.int (1 : Int32)] G n sl) (q0 : xs 0 = p0) (q1 : xs 1 = p1) (q2 : xs 2 = p2) (q3 : xs 3 = p3) (q4 : xs 4 = p4) (q5 : xs 5 = p5) : jw p l e R s m args below meth c E 8 0 0 Q 33 [(0, .ref 1000002), (1, .ref 0), (2, .ref 178), (3, .ref 226), (4, .int (0 : Int32))] [] (jv_H (jx_K 227) jx_If jx_L0 (jx_R 227)) 227 1572950 := by
  refine jw.steps F jx_i439 2 (pc' := 36) (l' := [(0, .ref 1000002), (1, .ref 0), (2, .ref 178), (3, .ref 226), (4, .int (0 : Int32))]) (st' := [.int (0 : Int32), .ref 1000002]) rfl ?_
  refine jw.sld F jx_i439 hX hbB hE2 (pc' := 37) rfl rfl (show vp_in (nI 0) 6 from vp_in_nI (by decide) (by decide)) q0 rfl ?_
  refine jw.steps F jx_i439 2 (pc' := 40) (l' := [(0, .ref 1000002), (1, .ref 0), (2, .ref 178), (3, .ref 226), (4, .int (0 : Int32))]) (st' := [.int (p0 &&& (31 : Int32))]) rfl ?_
  refine jw.br F jx_i439 (pc' := 864) (st' := []) rfl (by rw [hsw]; rfl) ?_
  refine jw.steps F jx_i439 1 (pc' := 865) (l' := [(0, .ref 1000002), (1, .ref 0), (2, .ref 178), (3, .ref 226), (4, .int (0 : Int32))]) (st' := [.ref 0]) rfl ?_
  refine jw.ca hTb F jx_i439 (pc' := 868) (S' := [.int (-1 : Int32)]) rfl jv_i195 [.ref 0] rfl rfl rfl rfl (jx_cal2 rfl (jv_H_at rfl) rfl rfl) rfl (jx_e119 p0 p1 p2 p3 p4 p5 ) (by omega) (by omega) rfl rfl ?_
  refine jw.steps F jx_i439 1 (pc' := 869) (l' := [(0, .ref 1000002), (1, .ref 0), (2, .ref 178), (3, .ref 226), (4, .int (0 : Int32))]) (st' := [.ref 178, .int (-1 : Int32)]) rfl ?_
  refine jw.ca hTb F jx_i439 (pc' := 872) (S' := [.int (-1 : Int32), .int (-1 : Int32)]) rfl jv_i406 [.ref 178] rfl rfl rfl rfl (jx_cal2 rfl (jv_H_at rfl) rfl rfl) rfl (jx_e120 p0 p1 p2 p3 p4 p5 ) (by omega) (by omega) rfl rfl ?_
  refine jw.br F jx_i439 (pc' := 1525) (st' := []) rfl (jv_bc_eq.trans (jx_got (by decide))) ?_
  refine jw.steps F jx_i439 4 (pc' := 26) (l' := [(4, .int (6 : Int32)), (0, .ref 1000002), (1, .ref 0), (2, .ref 178), (3, .ref 226)]) (st' := [.ref 1000002, .int (6 : Int32)]) rfl ?_
  refine jw.slen F jx_i439 hX hbB hE2 (pc' := 27) rfl rfl rfl ?_
  refine jw.steps F jx_i439 2 (pc' := 30) (l' := [(4, .int (6 : Int32)), (0, .ref 1000002), (1, .ref 0), (2, .ref 178), (3, .ref 226)]) (st' := [.int (0 : Int32), .int (6 : Int32)]) rfl ?_
  refine jw.br F jx_i439 (pc' := 1531) (st' := []) rfl (jv_bc_gt.trans (jx_got (by decide))) ?_
  refine jw.steps F jx_i439 1 (pc' := 1532) (l' := [(4, .int (6 : Int32)), (0, .ref 1000002), (1, .ref 0), (2, .ref 178), (3, .ref 226)]) (st' := [.int (1 : Int32)]) rfl ?_
  exact hQ _ _ _ _ (by omega) (by omega)

set_option maxRecDepth 100000 in
/-- the law: case 15 -/
theorem jx_case15 (p0 : Int32) (p1 : Int32) (p2 : Int32) (p3 : Int32) (p4 : Int32) (p5 : Int32) (hsw : p0 &&& (31 : Int32) = (15 : Int32)) {p : Program} {l : Launch} {e : Env} {R : Room} {s : State} {m : MethodId} {args : Array Value} {below : List Frame} {meth : Method} {c : Code} {E : jv_Env} {Q : State → Prop} (hTb : jv_TOk jv_Tb) (hT2 : jx_T2Ok) (hl : l.stackTraces = false) (F : jx_F jv_T2 439 E p R s m args meth c) (hZ : jx_Z E s) (hRc : R.cells = 600002) (hRs : R.slots = 7302232) {bb : Nat} {xs : Nat → Int32} (hX : va_X bb 6 xs s E.2.2.2.2) (hbB : bb < E.2.2.2.1) (hE2 : E.1 1000002 = bb) (hQ : ∀ (l0 : jv_L) (G : jv_G) (n sl : Nat), n ≤ 600002 → sl ≤ 7302232 → jw p l e R s m args below meth c E 8 0 0 Q 1532 l0 [.int (1 : Int32)] G n sl) (q0 : xs 0 = p0) (q1 : xs 1 = p1) (q2 : xs 2 = p2) (q3 : xs 3 = p3) (q4 : xs 4 = p4) (q5 : xs 5 = p5) : jw p l e R s m args below meth c E 8 0 0 Q 33 [(0, .ref 1000002), (1, .ref 0), (2, .ref 178), (3, .ref 226), (4, .int (0 : Int32))] [] (jv_H (jx_K 227) jx_If jx_L0 (jx_R 227)) 227 1572950 := by
  exact jx_l26 p0 p1 p2 p3 p4 p5  hsw hTb hT2 hl F hZ hRc hRs hX hbB hE2 hQ q0 q1 q2 q3 q4 q5

set_option maxRecDepth 100000 in
theorem jv_i196 : jv_I 196 1 (some .int) 0 0 jv_c196 := ⟨rfl, rfl, rfl, rfl, rfl⟩
set_option maxRecDepth 100000 in
/-- ProgramBox.steps -/
theorem jx_e121 (p0 : Int32) (p1 : Int32) (p2 : Int32) (p3 : Int32) (p4 : Int32) (p5 : Int32)  : jv_Ms 196 [.ref 0] (jv_H (jx_K 227) jx_If jx_L0 (jx_R 227)) 227 1572950 (some (.int (0 : Int32)), (jv_H (jx_K 227) jx_If jx_L0 (jx_R 227)), 227, 1572950) := by
  show jv_Ev 196 0 [(0, .ref 0)] [] (jv_H (jx_K 227) jx_If jx_L0 (jx_R 227)) 227 1572950 _
  refine jv_Ev.steps jv_i196 1 (pc' := 1) (l' := [(0, .ref 0)]) (st' := [.ref 0]) rfl ?_
  refine jv_Ev.m jv_i196 (pc' := 4) (st' := [.ref 171]) rfl rfl (jv_m_getR rfl rfl rfl rfl) ?_
  refine jv_Ev.m jv_i196 (pc' := 7) (st' := [.int (0 : Int32)]) rfl rfl (jv_m_getI rfl rfl rfl rfl) ?_
  exact jv_Ev.ret jv_i196 rfl rfl

set_option maxRecDepth 100000 in
theorem jv_i407 : jv_I 407 1 (some .int) 0 0 jv_c407 := ⟨rfl, rfl, rfl, rfl, rfl⟩
set_option maxRecDepth 100000 in
/-- ProgramBoxModel.steps -/
theorem jx_e122 (p0 : Int32) (p1 : Int32) (p2 : Int32) (p3 : Int32) (p4 : Int32) (p5 : Int32)  : jv_Ms 407 [.ref 178] (jv_H (jx_K 227) jx_If jx_L0 (jx_R 227)) 227 1572950 (some (.int (0 : Int32)), (jv_H (jx_K 227) (jv_u jx_If 178 0 (0 : Int32)) jx_L0 (jx_R 227)), 227, 1572950) := by
  show jv_Ev 407 0 [(0, .ref 178)] [] (jv_H (jx_K 227) jx_If jx_L0 (jx_R 227)) 227 1572950 _
  refine jv_Ev.steps jv_i407 2 (pc' := 2) (l' := [(0, .ref 178)]) (st' := [.int (0 : Int32), .ref 178]) rfl ?_
  refine jv_Ev.m jv_i407 (pc' := 5) (st' := []) rfl rfl (jv_m_putI rfl rfl rfl rfl rfl) ?_
  refine jv_Ev.steps jv_i407 1 (pc' := 6) (l' := [(0, .ref 178)]) (st' := [.ref 178]) rfl ?_
  refine jv_Ev.m jv_i407 (pc' := 9) (st' := [.int (0 : Int32)]) rfl rfl (jv_m_getI rfl rfl rfl rfl) ?_
  exact jv_Ev.ret jv_i407 rfl rfl

set_option maxRecDepth 100000 in
/-- the law: case 16, one way -/
theorem jx_l27 (p0 : Int32) (p1 : Int32) (p2 : Int32) (p3 : Int32) (p4 : Int32) (p5 : Int32)  (hsw : p0 &&& (31 : Int32) = (16 : Int32)) {p : Program} {l : Launch} {e : Env} {R : Room} {s : State} {m : MethodId} {args : Array Value} {below : List Frame} {meth : Method} {c : Code} {E : jv_Env} {Q : State → Prop} (hTb : jv_TOk jv_Tb) (hT2 : jx_T2Ok) (hl : l.stackTraces = false) (F : jx_F jv_T2 439 E p R s m args meth c) (hZ : jx_Z E s) (hRc : R.cells = 600002) (hRs : R.slots = 7302232) {bb : Nat} {xs : Nat → Int32} (hX : va_X bb 6 xs s E.2.2.2.2) (hbB : bb < E.2.2.2.1) (hE2 : E.1 1000002 = bb) (hQ : ∀ (l0 : jv_L) (G : jv_G) (n sl : Nat), n ≤ 600002 → sl ≤ 7302232 → jw p l e R s m args below meth c E 8 0 0 Q 1532 l0 [.int (1 : Int32)] G n sl) (q0 : xs 0 = p0) (q1 : xs 1 = p1) (q2 : xs 2 = p2) (q3 : xs 3 = p3) (q4 : xs 4 = p4) (q5 : xs 5 = p5) : jw p l e R s m args below meth c E 8 0 0 Q 33 [(0, .ref 1000002), (1, .ref 0), (2, .ref 178), (3, .ref 226), (4, .int (0 : Int32))] [] (jv_H (jx_K 227) jx_If jx_L0 (jx_R 227)) 227 1572950 := by
  refine jw.steps F jx_i439 2 (pc' := 36) (l' := [(0, .ref 1000002), (1, .ref 0), (2, .ref 178), (3, .ref 226), (4, .int (0 : Int32))]) (st' := [.int (0 : Int32), .ref 1000002]) rfl ?_
  refine jw.sld F jx_i439 hX hbB hE2 (pc' := 37) rfl rfl (show vp_in (nI 0) 6 from vp_in_nI (by decide) (by decide)) q0 rfl ?_
  refine jw.steps F jx_i439 2 (pc' := 40) (l' := [(0, .ref 1000002), (1, .ref 0), (2, .ref 178), (3, .ref 226), (4, .int (0 : Int32))]) (st' := [.int (p0 &&& (31 : Int32))]) rfl ?_
  refine jw.br F jx_i439 (pc' := 877) (st' := []) rfl (by rw [hsw]; rfl) ?_
  refine jw.steps F jx_i439 1 (pc' := 878) (l' := [(0, .ref 1000002), (1, .ref 0), (2, .ref 178), (3, .ref 226), (4, .int (0 : Int32))]) (st' := [.ref 0]) rfl ?_
  refine jw.ca hTb F jx_i439 (pc' := 881) (S' := [.int (0 : Int32)]) rfl jv_i196 [.ref 0] rfl rfl rfl rfl (jx_cal2 rfl (jv_H_at rfl) rfl rfl) rfl (jx_e121 p0 p1 p2 p3 p4 p5 ) (by omega) (by omega) rfl rfl ?_
  refine jw.steps F jx_i439 1 (pc' := 882) (l' := [(0, .ref 1000002), (1, .ref 0), (2, .ref 178), (3, .ref 226), (4, .int (0 : Int32))]) (st' := [.ref 178, .int (0 : Int32)]) rfl ?_
  refine jw.ca hTb F jx_i439 (pc' := 885) (S' := [.int (0 : Int32), .int (0 : Int32)]) rfl jv_i407 [.ref 178] rfl rfl rfl rfl (jx_cal2 rfl (jv_H_at rfl) rfl rfl) rfl (jx_e122 p0 p1 p2 p3 p4 p5 ) (by omega) (by omega) rfl rfl ?_
  refine jw.br F jx_i439 (pc' := 1525) (st' := []) rfl (jv_bc_eq.trans (jx_got (by decide))) ?_
  refine jw.steps F jx_i439 4 (pc' := 26) (l' := [(4, .int (6 : Int32)), (0, .ref 1000002), (1, .ref 0), (2, .ref 178), (3, .ref 226)]) (st' := [.ref 1000002, .int (6 : Int32)]) rfl ?_
  refine jw.slen F jx_i439 hX hbB hE2 (pc' := 27) rfl rfl rfl ?_
  refine jw.steps F jx_i439 2 (pc' := 30) (l' := [(4, .int (6 : Int32)), (0, .ref 1000002), (1, .ref 0), (2, .ref 178), (3, .ref 226)]) (st' := [.int (0 : Int32), .int (6 : Int32)]) rfl ?_
  refine jw.br F jx_i439 (pc' := 1531) (st' := []) rfl (jv_bc_gt.trans (jx_got (by decide))) ?_
  refine jw.steps F jx_i439 1 (pc' := 1532) (l' := [(4, .int (6 : Int32)), (0, .ref 1000002), (1, .ref 0), (2, .ref 178), (3, .ref 226)]) (st' := [.int (1 : Int32)]) rfl ?_
  exact hQ _ _ _ _ (by omega) (by omega)

set_option maxRecDepth 100000 in
/-- the law: case 16 -/
theorem jx_case16 (p0 : Int32) (p1 : Int32) (p2 : Int32) (p3 : Int32) (p4 : Int32) (p5 : Int32) (hsw : p0 &&& (31 : Int32) = (16 : Int32)) {p : Program} {l : Launch} {e : Env} {R : Room} {s : State} {m : MethodId} {args : Array Value} {below : List Frame} {meth : Method} {c : Code} {E : jv_Env} {Q : State → Prop} (hTb : jv_TOk jv_Tb) (hT2 : jx_T2Ok) (hl : l.stackTraces = false) (F : jx_F jv_T2 439 E p R s m args meth c) (hZ : jx_Z E s) (hRc : R.cells = 600002) (hRs : R.slots = 7302232) {bb : Nat} {xs : Nat → Int32} (hX : va_X bb 6 xs s E.2.2.2.2) (hbB : bb < E.2.2.2.1) (hE2 : E.1 1000002 = bb) (hQ : ∀ (l0 : jv_L) (G : jv_G) (n sl : Nat), n ≤ 600002 → sl ≤ 7302232 → jw p l e R s m args below meth c E 8 0 0 Q 1532 l0 [.int (1 : Int32)] G n sl) (q0 : xs 0 = p0) (q1 : xs 1 = p1) (q2 : xs 2 = p2) (q3 : xs 3 = p3) (q4 : xs 4 = p4) (q5 : xs 5 = p5) : jw p l e R s m args below meth c E 8 0 0 Q 33 [(0, .ref 1000002), (1, .ref 0), (2, .ref 178), (3, .ref 226), (4, .int (0 : Int32))] [] (jv_H (jx_K 227) jx_If jx_L0 (jx_R 227)) 227 1572950 := by
  exact jx_l27 p0 p1 p2 p3 p4 p5  hsw hTb hT2 hl F hZ hRc hRs hX hbB hE2 hQ q0 q1 q2 q3 q4 q5

set_option maxRecDepth 100000 in
theorem jx_i449 : jx_I jv_T2 449 4 (some .int) 8 133 jv_c449 := ⟨rfl, rfl, rfl, rfl, rfl⟩
set_option maxRecDepth 100000 in
theorem jv_i428 : jv_I 428 2 (some .int) 7 112 jv_c428 := ⟨rfl, rfl, rfl, rfl, rfl⟩
set_option maxRecDepth 100000 in
theorem jv_i429 : jv_I 429 3 (some (FieldType.object "ProgramBox$BoxMap")) 6 90 jv_c429 := ⟨rfl, rfl, rfl, rfl, rfl⟩
set_option maxRecDepth 100000 in
theorem jv_i126 : jv_I 126 3 (some (FieldType.object "ProgramBox$BoxMap")) 0 0 jv_c126 := ⟨rfl, rfl, rfl, rfl, rfl⟩
set_option maxRecDepth 100000 in
/-- ProgramBox$Store.map -/
theorem jx_e127 (p0 : Int32) (p1 : Int32) (p2 : Int32) (p3 : Int32) (p4 : Int32) (p5 : Int32) (g1 : p1.toInt64 < (0 : Int64)) (g2 : p1 < (0 : Int32)) : jv_Ms 126 [.ref 2, .long p1.toInt64] (jv_H (jx_K 227) jx_If jx_L0 (jx_R 227)) 227 1572950 (some (.null), (jv_H (jx_K 227) jx_If jx_L0 (jx_R 227)), 227, 1572950) := by
  show jv_Ev 126 0 [(0, .ref 2), (1, .long p1.toInt64)] [] (jv_H (jx_K 227) jx_If jx_L0 (jx_R 227)) 227 1572950 _
  refine jv_Ev.steps jv_i126 3 (pc' := 3) (l' := [(0, .ref 2), (1, .long p1.toInt64)]) (st' := [.int (lg_cmp p1.toInt64 (0 : Int64))]) rfl ?_
  refine jv_Ev.br jv_i126 (pc' := 16) (st' := []) rfl (jv_bi_lt.trans (jx_got ((lg_cmp_lt p1.toInt64 (0 : Int64)).mpr g1))) ?_
  refine jv_Ev.steps jv_i126 2 (pc' := 27) (l' := [(0, .ref 2), (1, .long p1.toInt64)]) (st' := [.null]) rfl ?_
  exact jv_Ev.ret jv_i126 rfl rfl

set_option maxRecDepth 100000 in
/-- ProgramBox.mapOf: it throws -/
theorem jx_e128 (hTb : jv_TOk jv_Tb) (p0 : Int32) (p1 : Int32) (p2 : Int32) (p3 : Int32) (p4 : Int32) (p5 : Int32) (g1 : p1.toInt64 < (0 : Int64)) (g2 : p1 < (0 : Int32)) : jx_Th 429 [.ref 0, .int p1] (jv_H (jx_K 227) jx_If jx_L0 (jx_R 227)) 227 1572950 2 (jv_H (jx_K 227) jx_If jx_L0 (jx_R 227)) 228 1572956 := by
  refine jx_Th.of hTb (y := 429) rfl (Nat.le_of_ble_eq_true rfl) ?_
  intro p l e R s m args below meth c E hl F hZ h0 ht hRc hRs
  show jw p l e R s m args below meth c E 3 227 1572950 _ 0 [(0, .ref 0), (1, .int p1)] [] (jv_H (jx_K 227) jx_If jx_L0 (jx_R 227)) 227 1572950
  refine jw.steps F jv_i429 1 (pc' := 1) (l' := [(0, .ref 0), (1, .int p1)]) (st' := [.ref 0]) rfl ?_
  refine jw.me F jv_i429 (pc' := 4) (st' := [.ref 2]) rfl rfl (jv_m_getR rfl rfl rfl rfl) ?_
  refine jw.steps F jv_i429 2 (pc' := 6) (l' := [(0, .ref 0), (1, .int p1)]) (st' := [.long p1.toInt64, .ref 2]) rfl ?_
  refine jw.ca hTb F jv_i429 (pc' := 9) (S' := [.null]) rfl jv_i126 [.ref 2, .long p1.toInt64] rfl rfl rfl rfl (jv_cal rfl (jv_H_at rfl) rfl rfl) rfl (jx_e127 p0 p1 p2 p3 p4 p5 g1 g2) (by omega) (by omega) rfl rfl ?_
  refine jw.steps F jv_i429 2 (pc' := 11) (l' := [(2, .null), (0, .ref 0), (1, .int p1)]) (st' := [.null]) rfl ?_
  refine jw.br F jv_i429 (pc' := 14) (st' := []) rfl rfl ?_
  exact jw.throw hl F hZ h0 rfl jv_i429 ht 2 183 "there is no such map" (List.mem_of_getElem? (i := 11) rfl) (by decide +kernel) (by decide +kernel) (by decide +kernel) (by decide +kernel) (by decide +kernel) rfl (by decide) (by decide) (by decide) (by omega) (by omega)

set_option maxRecDepth 100000 in
/-- ProgramBox.used: it throws -/
theorem jx_e129 (hTb : jv_TOk jv_Tb) (p0 : Int32) (p1 : Int32) (p2 : Int32) (p3 : Int32) (p4 : Int32) (p5 : Int32) (g1 : p1.toInt64 < (0 : Int64)) (g2 : p1 < (0 : Int32)) : jx_Th 428 [.ref 0, .int p1] (jv_H (jx_K 227) jx_If jx_L0 (jx_R 227)) 227 1572950 2 (jv_H (jx_K 227) jx_If jx_L0 (jx_R 227)) 228 1572956 := by
  refine jx_Th.of hTb (y := 428) rfl (Nat.le_of_ble_eq_true rfl) ?_
  intro p l e R s m args below meth c E hl F hZ h0 ht hRc hRs
  show jw p l e R s m args below meth c E 2 227 1572950 _ 0 [(0, .ref 0), (1, .int p1)] [] (jv_H (jx_K 227) jx_If jx_L0 (jx_R 227)) 227 1572950
  refine jw.steps F jv_i428 2 (pc' := 2) (l' := [(0, .ref 0), (1, .int p1)]) (st' := [.int p1, .ref 0]) rfl ?_
  exact jw.prop hTb hl F hZ jv_i428 ht rfl jv_i429 [.ref 0, .int p1] rfl rfl rfl rfl rfl (jv_cal rfl (jv_H_at rfl) rfl rfl) rfl (jx_e128 hTb p0 p1 p2 p3 p4 p5 g1 g2) (by omega) (by omega) (by omega) (by omega)

set_option maxRecDepth 100000 in
/-- the law's used -/
theorem jx_w130 (hTb : jv_TOk jv_Tb) (hT2 : jx_T2Ok) (p0 : Int32) (p1 : Int32) (p2 : Int32) (p3 : Int32) (p4 : Int32) (p5 : Int32) (g1 : p1.toInt64 < (0 : Int64)) (g2 : p1 < (0 : Int32)) : jx_Wr 449 [(0, 9, 12, 36)] [.ref 0, .int p1, .ref 226] (jv_H (jx_K 227) jx_If jx_L0 (jx_R 227)) 227 1572950 (some (.int (1 : Int32)), (jv_H (jx_K 227) jx_If jx_L0 (jx_R 227)), 228, 1572956) := by
  refine jx_Wr.of hT2 (by decide) rfl (Nat.le_of_ble_eq_true rfl) ?_
  intro p l e R s m args below meth c E hl F hZ htb hRc hRs
  show jw p l e R s m args below meth c E 4 227 1572950 _ 0 [(0, .ref 0), (1, .int p1), (2, .ref 226)] [] (jv_H (jx_K 227) jx_If jx_L0 (jx_R 227)) 227 1572950
  have hRc : R.cells = 228 - 227 := hRc
  have hRs : R.slots = 1572956 - 1572950 := hRs
  refine jw.steps F jx_i449 4 (pc' := 4) (l' := [(0, .ref 0), (1, .int p1), (2, .ref 226)]) (st' := [.int p1, .ref 0, .int (0 : Int32), .ref 226]) rfl ?_
  refine jw.cat hTb hl F hZ rfl jx_i449 htb rfl jv_i428 [.ref 0, .int p1] rfl rfl rfl rfl rfl (jx_cal2 rfl (jv_H_at rfl) rfl rfl) rfl (jx_e129 hTb p0 p1 p2 p3 p4 p5 g1 g2) (by omega) (by omega) (by omega) (by omega) [] (0, 9, 12, 36) [] rfl (fun z h => absurd h List.not_mem_nil) (by decide) rfl rfl (Or.inr ⟨3, rfl, rfl, rfl⟩) (by decide) ?_
  refine jw.steps F jx_i449 1 (pc' := 14) (l' := []) (st' := [.int (1 : Int32)]) rfl ?_
  exact jw.ret F jx_i449 rfl rfl

set_option maxRecDepth 100000 in
theorem jv_i408 : jv_I 408 3 (some .int) 2 44 jv_c408 := ⟨rfl, rfl, rfl, rfl, rfl⟩
set_option maxRecDepth 100000 in
theorem jv_i325 : jv_I 325 4 (some .int) 1 21 jv_c325 := ⟨rfl, rfl, rfl, rfl, rfl⟩
set_option maxRecDepth 100000 in
theorem jv_i324 : jv_I 324 2 (some .boolean) 0 0 jv_c324 := ⟨rfl, rfl, rfl, rfl, rfl⟩
set_option maxRecDepth 100000 in
/-- ProgramBoxModel$Store.noMap -/
theorem jx_e131 (p0 : Int32) (p1 : Int32) (p2 : Int32) (p3 : Int32) (p4 : Int32) (p5 : Int32) (g1 : p1.toInt64 < (0 : Int64)) (g2 : p1 < (0 : Int32)) : jv_Ms 324 [.ref 180, .int p1] (jv_H (jx_K 227) jx_If jx_L0 (jx_R 227)) 228 1572956 (some (.int (1 : Int32)), (jv_H (jx_K 227) (jv_u jx_If 180 0 (1 : Int32)) jx_L0 (jx_R 227)), 228, 1572956) := by
  show jv_Ev 324 0 [(0, .ref 180), (1, .int p1)] [] (jv_H (jx_K 227) jx_If jx_L0 (jx_R 227)) 228 1572956 _
  refine jv_Ev.steps jv_i324 2 (pc' := 2) (l' := [(0, .ref 180), (1, .int p1)]) (st' := [.int p1, .ref 180]) rfl ?_
  refine jv_Ev.br jv_i324 (pc' := 13) (st' := [.ref 180]) rfl (jv_bi_lt.trans (jx_got g2)) ?_
  refine jv_Ev.steps jv_i324 2 (pc' := 18) (l' := [(0, .ref 180), (1, .int p1)]) (st' := [.int (1 : Int32), .ref 180]) rfl ?_
  refine jv_Ev.m jv_i324 (pc' := 21) (st' := []) rfl rfl (jv_m_putI rfl rfl rfl rfl rfl) ?_
  refine jv_Ev.steps jv_i324 1 (pc' := 22) (l' := [(0, .ref 180), (1, .int p1)]) (st' := [.ref 180]) rfl ?_
  refine jv_Ev.m jv_i324 (pc' := 25) (st' := [.int (1 : Int32)]) rfl rfl (jv_m_getI rfl rfl rfl rfl) ?_
  refine jv_Ev.br jv_i324 (pc' := 28) (st' := []) rfl (jv_bi_le.trans (jx_gof (by decide))) ?_
  refine jv_Ev.steps jv_i324 2 (pc' := 33) (l' := [(0, .ref 180), (1, .int p1)]) (st' := [.int (1 : Int32)]) rfl ?_
  exact jv_Ev.ret jv_i324 rfl (jv_ret_b (by decide))

set_option maxRecDepth 100000 in
/-- ProgramBoxModel$Store.used -/
theorem jx_e132 (p0 : Int32) (p1 : Int32) (p2 : Int32) (p3 : Int32) (p4 : Int32) (p5 : Int32) (g1 : p1.toInt64 < (0 : Int64)) (g2 : p1 < (0 : Int32)) : jv_Ms 325 [.ref 180, .int p1] (jv_H (jx_K 227) jx_If jx_L0 (jx_R 227)) 228 1572956 (some (.int (0 : Int32)), (jv_H (jx_K 227) (jv_u jx_If 180 0 (1 : Int32)) jx_L0 (jx_R 227)), 228, 1572956) := by
  show jv_Ev 325 0 [(0, .ref 180), (1, .int p1)] [] (jv_H (jx_K 227) jx_If jx_L0 (jx_R 227)) 228 1572956 _
  refine jv_Ev.steps jv_i325 2 (pc' := 2) (l' := [(0, .ref 180), (1, .int p1)]) (st' := [.int p1, .ref 180]) rfl ?_
  refine jv_Ev.c jv_i325 (pc' := 5) (S' := [.int (1 : Int32)]) jv_i324 [.ref 180, .int p1] rfl rfl rfl rfl (jv_cal rfl (jv_H_at rfl) rfl rfl) rfl (jx_e131 p0 p1 p2 p3 p4 p5 g1 g2) rfl rfl ?_
  refine jv_Ev.br jv_i325 (pc' := 8) (st' := []) rfl (jv_bi_eq.trans (jx_gof (by decide))) ?_
  refine jv_Ev.steps jv_i325 1 (pc' := 9) (l' := [(0, .ref 180), (1, .int p1)]) (st' := [.int (0 : Int32)]) rfl ?_
  exact jv_Ev.ret jv_i325 rfl rfl

set_option maxRecDepth 100000 in
theorem jv_i318 : jv_I 318 1 (some .int) 0 0 jv_c318 := ⟨rfl, rfl, rfl, rfl, rfl⟩
set_option maxRecDepth 100000 in
/-- ProgramBoxModel$Store.thrown -/
theorem jx_e133 (p0 : Int32) (p1 : Int32) (p2 : Int32) (p3 : Int32) (p4 : Int32) (p5 : Int32) (g1 : p1.toInt64 < (0 : Int64)) (g2 : p1 < (0 : Int32)) : jv_Ms 318 [.ref 180] (jv_H (jx_K 227) (jv_u jx_If 180 0 (1 : Int32)) jx_L0 (jx_R 227)) 228 1572956 (some (.int (1 : Int32)), (jv_H (jx_K 227) (jv_u jx_If 180 0 (1 : Int32)) jx_L0 (jx_R 227)), 228, 1572956) := by
  show jv_Ev 318 0 [(0, .ref 180)] [] (jv_H (jx_K 227) (jv_u jx_If 180 0 (1 : Int32)) jx_L0 (jx_R 227)) 228 1572956 _
  refine jv_Ev.steps jv_i318 1 (pc' := 1) (l' := [(0, .ref 180)]) (st' := [.ref 180]) rfl ?_
  refine jv_Ev.m jv_i318 (pc' := 4) (st' := [.int (1 : Int32)]) rfl rfl (jv_m_getI rfl rfl rfl rfl) ?_
  exact jv_Ev.ret jv_i318 rfl rfl

set_option maxRecDepth 100000 in
/-- ProgramBoxModel.used -/
theorem jx_e134 (p0 : Int32) (p1 : Int32) (p2 : Int32) (p3 : Int32) (p4 : Int32) (p5 : Int32) (g1 : p1.toInt64 < (0 : Int64)) (g2 : p1 < (0 : Int32)) : jv_Ms 408 [.ref 178, .int p1] (jv_H (jx_K 227) jx_If jx_L0 (jx_R 227)) 228 1572956 (some (.int (0 : Int32)), (jv_H (jx_K 227) (jv_u (jv_u jx_If 180 0 (1 : Int32)) 178 0 (1 : Int32)) jx_L0 (jx_R 227)), 228, 1572956) := by
  show jv_Ev 408 0 [(0, .ref 178), (1, .int p1)] [] (jv_H (jx_K 227) jx_If jx_L0 (jx_R 227)) 228 1572956 _
  refine jv_Ev.steps jv_i408 1 (pc' := 1) (l' := [(0, .ref 178), (1, .int p1)]) (st' := [.ref 178]) rfl ?_
  refine jv_Ev.m jv_i408 (pc' := 4) (st' := [.ref 180]) rfl rfl (jv_m_getR rfl rfl rfl rfl) ?_
  refine jv_Ev.steps jv_i408 1 (pc' := 5) (l' := [(0, .ref 178), (1, .int p1)]) (st' := [.int p1, .ref 180]) rfl ?_
  refine jv_Ev.c jv_i408 (pc' := 8) (S' := [.int (0 : Int32)]) jv_i325 [.ref 180, .int p1] rfl rfl rfl rfl (jv_cal rfl (jv_H_at rfl) rfl rfl) rfl (jx_e132 p0 p1 p2 p3 p4 p5 g1 g2) rfl rfl ?_
  refine jv_Ev.steps jv_i408 3 (pc' := 11) (l' := [(2, .int (0 : Int32)), (0, .ref 178), (1, .int p1)]) (st' := [.ref 178, .ref 178]) rfl ?_
  refine jv_Ev.m jv_i408 (pc' := 14) (st' := [.ref 180, .ref 178]) rfl rfl (jv_m_getR rfl rfl rfl rfl) ?_
  refine jv_Ev.c jv_i408 (pc' := 17) (S' := [.int (1 : Int32), .ref 178]) jv_i318 [.ref 180] rfl rfl rfl rfl (jv_cal rfl (jv_H_at rfl) rfl rfl) rfl (jx_e133 p0 p1 p2 p3 p4 p5 g1 g2) rfl rfl ?_
  refine jv_Ev.m jv_i408 (pc' := 20) (st' := []) rfl rfl (jv_m_putI rfl rfl rfl rfl rfl) ?_
  refine jv_Ev.steps jv_i408 1 (pc' := 21) (l' := [(2, .int (0 : Int32)), (0, .ref 178), (1, .int p1)]) (st' := [.int (0 : Int32)]) rfl ?_
  exact jv_Ev.ret jv_i408 rfl rfl

set_option maxRecDepth 100000 in
/-- ProgramBoxModel.thrown -/
theorem jx_e135 (p0 : Int32) (p1 : Int32) (p2 : Int32) (p3 : Int32) (p4 : Int32) (p5 : Int32) (g1 : p1.toInt64 < (0 : Int64)) (g2 : p1 < (0 : Int32)) : jv_Ms 350 [.ref 178] (jv_H (jx_K 227) (jv_u (jv_u jx_If 180 0 (1 : Int32)) 178 0 (1 : Int32)) jx_L0 (jx_R 227)) 228 1572956 (some (.int (1 : Int32)), (jv_H (jx_K 227) (jv_u (jv_u jx_If 180 0 (1 : Int32)) 178 0 (1 : Int32)) jx_L0 (jx_R 227)), 228, 1572956) := by
  show jv_Ev 350 0 [(0, .ref 178)] [] (jv_H (jx_K 227) (jv_u (jv_u jx_If 180 0 (1 : Int32)) 178 0 (1 : Int32)) jx_L0 (jx_R 227)) 228 1572956 _
  refine jv_Ev.steps jv_i350 1 (pc' := 1) (l' := [(0, .ref 178)]) (st' := [.ref 178]) rfl ?_
  refine jv_Ev.m jv_i350 (pc' := 4) (st' := [.int (1 : Int32)]) rfl rfl (jv_m_getI rfl rfl rfl rfl) ?_
  exact jv_Ev.ret jv_i350 rfl rfl

set_option maxRecDepth 100000 in
/-- the law: case 17, one way -/
theorem jx_l28 (p0 : Int32) (p1 : Int32) (p2 : Int32) (p3 : Int32) (p4 : Int32) (p5 : Int32) (g1 : p1.toInt64 < (0 : Int64)) (g2 : p1 < (0 : Int32)) (hsw : p0 &&& (31 : Int32) = (17 : Int32)) {p : Program} {l : Launch} {e : Env} {R : Room} {s : State} {m : MethodId} {args : Array Value} {below : List Frame} {meth : Method} {c : Code} {E : jv_Env} {Q : State → Prop} (hTb : jv_TOk jv_Tb) (hT2 : jx_T2Ok) (hl : l.stackTraces = false) (F : jx_F jv_T2 439 E p R s m args meth c) (hZ : jx_Z E s) (hRc : R.cells = 600002) (hRs : R.slots = 7302232) {bb : Nat} {xs : Nat → Int32} (hX : va_X bb 6 xs s E.2.2.2.2) (hbB : bb < E.2.2.2.1) (hE2 : E.1 1000002 = bb) (hQ : ∀ (l0 : jv_L) (G : jv_G) (n sl : Nat), n ≤ 600002 → sl ≤ 7302232 → jw p l e R s m args below meth c E 8 0 0 Q 1532 l0 [.int (1 : Int32)] G n sl) (q0 : xs 0 = p0) (q1 : xs 1 = p1) (q2 : xs 2 = p2) (q3 : xs 3 = p3) (q4 : xs 4 = p4) (q5 : xs 5 = p5) : jw p l e R s m args below meth c E 8 0 0 Q 33 [(0, .ref 1000002), (1, .ref 0), (2, .ref 178), (3, .ref 226), (4, .int (0 : Int32))] [] (jv_H (jx_K 227) jx_If jx_L0 (jx_R 227)) 227 1572950 := by
  refine jw.steps F jx_i439 2 (pc' := 36) (l' := [(0, .ref 1000002), (1, .ref 0), (2, .ref 178), (3, .ref 226), (4, .int (0 : Int32))]) (st' := [.int (0 : Int32), .ref 1000002]) rfl ?_
  refine jw.sld F jx_i439 hX hbB hE2 (pc' := 37) rfl rfl (show vp_in (nI 0) 6 from vp_in_nI (by decide) (by decide)) q0 rfl ?_
  refine jw.steps F jx_i439 2 (pc' := 40) (l' := [(0, .ref 1000002), (1, .ref 0), (2, .ref 178), (3, .ref 226), (4, .int (0 : Int32))]) (st' := [.int (p0 &&& (31 : Int32))]) rfl ?_
  refine jw.br F jx_i439 (pc' := 890) (st' := []) rfl (by rw [hsw]; rfl) ?_
  refine jw.steps F jx_i439 5 (pc' := 896) (l' := [(0, .ref 1000002), (1, .ref 0), (2, .ref 178), (3, .ref 226), (4, .int (0 : Int32))]) (st' := [.int (1 : Int32), .ref 1000002, .ref 0]) rfl ?_
  refine jw.sld F jx_i439 hX hbB hE2 (pc' := 897) rfl rfl (show vp_in (nI 1) 6 from vp_in_nI (by decide) (by decide)) q1 rfl ?_
  refine jw.steps F jx_i439 1 (pc' := 898) (l' := [(0, .ref 1000002), (1, .ref 0), (2, .ref 178), (3, .ref 226), (4, .int (0 : Int32))]) (st' := [.ref 226, .int p1, .ref 0]) rfl ?_
  refine jw.wr F hl hZ rfl jx_i439 jx_i449 [.ref 0, .int p1, .ref 226] (pc' := 901) (S' := [.int (1 : Int32)]) rfl (List.mem_of_getElem? (i := 9) rfl) (List.mem_of_getElem? (i := 9) rfl) rfl rfl rfl (jx_w130 hTb hT2 p0 p1 p2 p3 p4 p5 g1 g2) (by omega) (by omega) (by omega) (by omega) rfl rfl ?_
  refine jw.steps F jx_i439 6 (pc' := 909) (l' := [(5, .int (1 : Int32)), (0, .ref 1000002), (1, .ref 0), (2, .ref 178), (3, .ref 226), (4, .int (0 : Int32))]) (st' := [.int (1 : Int32), .ref 1000002, .ref 178]) rfl ?_
  refine jw.sld F jx_i439 hX hbB hE2 (pc' := 910) rfl rfl (show vp_in (nI 1) 6 from vp_in_nI (by decide) (by decide)) q1 rfl ?_
  refine jw.ca hTb F jx_i439 (pc' := 913) (S' := [.int (0 : Int32)]) rfl jv_i408 [.ref 178, .int p1] rfl rfl rfl rfl (jx_cal2 rfl (jv_H_at rfl) rfl rfl) rfl (jx_e134 p0 p1 p2 p3 p4 p5 g1 g2) (by omega) (by omega) rfl rfl ?_
  refine jw.steps F jx_i439 2 (pc' := 916) (l' := [(6, .int (0 : Int32)), (5, .int (1 : Int32)), (0, .ref 1000002), (1, .ref 0), (2, .ref 178), (3, .ref 226), (4, .int (0 : Int32))]) (st' := [.ref 178]) rfl ?_
  refine jw.ca hTb F jx_i439 (pc' := 919) (S' := [.int (1 : Int32)]) rfl jv_i350 [.ref 178] rfl rfl rfl rfl (jx_cal2 rfl (jv_H_at rfl) rfl rfl) rfl (jx_e135 p0 p1 p2 p3 p4 p5 g1 g2) (by omega) (by omega) rfl rfl ?_
  refine jw.steps F jx_i439 1 (pc' := 921) (l' := [(6, .int (0 : Int32)), (5, .int (1 : Int32)), (0, .ref 1000002), (1, .ref 0), (2, .ref 178), (3, .ref 226), (4, .int (0 : Int32))]) (st' := [.int (1 : Int32), .int (1 : Int32)]) rfl ?_
  refine jw.br F jx_i439 (pc' := 926) (st' := []) rfl (jv_bc_eq.trans (jx_got (by decide))) ?_
  refine jw.steps F jx_i439 1 (pc' := 928) (l' := [(6, .int (0 : Int32)), (5, .int (1 : Int32)), (0, .ref 1000002), (1, .ref 0), (2, .ref 178), (3, .ref 226), (4, .int (0 : Int32))]) (st' := [.int (1 : Int32)]) rfl ?_
  refine jw.br F jx_i439 (pc' := 943) (st' := []) rfl (jv_bi_ne.trans (jx_got (by decide))) ?_
  refine jw.steps F jx_i439 5 (pc' := 26) (l' := [(4, .int (6 : Int32)), (6, .int (0 : Int32)), (5, .int (1 : Int32)), (0, .ref 1000002), (1, .ref 0), (2, .ref 178), (3, .ref 226)]) (st' := [.ref 1000002, .int (6 : Int32)]) rfl ?_
  refine jw.slen F jx_i439 hX hbB hE2 (pc' := 27) rfl rfl rfl ?_
  refine jw.steps F jx_i439 2 (pc' := 30) (l' := [(4, .int (6 : Int32)), (6, .int (0 : Int32)), (5, .int (1 : Int32)), (0, .ref 1000002), (1, .ref 0), (2, .ref 178), (3, .ref 226)]) (st' := [.int (0 : Int32), .int (6 : Int32)]) rfl ?_
  refine jw.br F jx_i439 (pc' := 1531) (st' := []) rfl (jv_bc_gt.trans (jx_got (by decide))) ?_
  refine jw.steps F jx_i439 1 (pc' := 1532) (l' := [(4, .int (6 : Int32)), (6, .int (0 : Int32)), (5, .int (1 : Int32)), (0, .ref 1000002), (1, .ref 0), (2, .ref 178), (3, .ref 226)]) (st' := [.int (1 : Int32)]) rfl ?_
  exact hQ _ _ _ _ (by omega) (by omega)

set_option maxRecDepth 100000 in
/-- ProgramBox$Store.map -/
theorem jx_e136 (p0 : Int32) (p1 : Int32) (p2 : Int32) (p3 : Int32) (p4 : Int32) (p5 : Int32) (g1 : p1.toInt64 < (0 : Int64)) (g2 : ¬ p1 < (0 : Int32)) : jv_Ms 126 [.ref 2, .long p1.toInt64] (jv_H (jx_K 227) jx_If jx_L0 (jx_R 227)) 227 1572950 (some (.null), (jv_H (jx_K 227) jx_If jx_L0 (jx_R 227)), 227, 1572950) := by
  show jv_Ev 126 0 [(0, .ref 2), (1, .long p1.toInt64)] [] (jv_H (jx_K 227) jx_If jx_L0 (jx_R 227)) 227 1572950 _
  refine jv_Ev.steps jv_i126 3 (pc' := 3) (l' := [(0, .ref 2), (1, .long p1.toInt64)]) (st' := [.int (lg_cmp p1.toInt64 (0 : Int64))]) rfl ?_
  refine jv_Ev.br jv_i126 (pc' := 16) (st' := []) rfl (jv_bi_lt.trans (jx_got ((lg_cmp_lt p1.toInt64 (0 : Int64)).mpr g1))) ?_
  refine jv_Ev.steps jv_i126 2 (pc' := 27) (l' := [(0, .ref 2), (1, .long p1.toInt64)]) (st' := [.null]) rfl ?_
  exact jv_Ev.ret jv_i126 rfl rfl

set_option maxRecDepth 100000 in
/-- ProgramBox.mapOf: it throws -/
theorem jx_e137 (hTb : jv_TOk jv_Tb) (p0 : Int32) (p1 : Int32) (p2 : Int32) (p3 : Int32) (p4 : Int32) (p5 : Int32) (g1 : p1.toInt64 < (0 : Int64)) (g2 : ¬ p1 < (0 : Int32)) : jx_Th 429 [.ref 0, .int p1] (jv_H (jx_K 227) jx_If jx_L0 (jx_R 227)) 227 1572950 2 (jv_H (jx_K 227) jx_If jx_L0 (jx_R 227)) 228 1572956 := by
  refine jx_Th.of hTb (y := 429) rfl (Nat.le_of_ble_eq_true rfl) ?_
  intro p l e R s m args below meth c E hl F hZ h0 ht hRc hRs
  show jw p l e R s m args below meth c E 3 227 1572950 _ 0 [(0, .ref 0), (1, .int p1)] [] (jv_H (jx_K 227) jx_If jx_L0 (jx_R 227)) 227 1572950
  refine jw.steps F jv_i429 1 (pc' := 1) (l' := [(0, .ref 0), (1, .int p1)]) (st' := [.ref 0]) rfl ?_
  refine jw.me F jv_i429 (pc' := 4) (st' := [.ref 2]) rfl rfl (jv_m_getR rfl rfl rfl rfl) ?_
  refine jw.steps F jv_i429 2 (pc' := 6) (l' := [(0, .ref 0), (1, .int p1)]) (st' := [.long p1.toInt64, .ref 2]) rfl ?_
  refine jw.ca hTb F jv_i429 (pc' := 9) (S' := [.null]) rfl jv_i126 [.ref 2, .long p1.toInt64] rfl rfl rfl rfl (jv_cal rfl (jv_H_at rfl) rfl rfl) rfl (jx_e136 p0 p1 p2 p3 p4 p5 g1 g2) (by omega) (by omega) rfl rfl ?_
  refine jw.steps F jv_i429 2 (pc' := 11) (l' := [(2, .null), (0, .ref 0), (1, .int p1)]) (st' := [.null]) rfl ?_
  refine jw.br F jv_i429 (pc' := 14) (st' := []) rfl rfl ?_
  exact jw.throw hl F hZ h0 rfl jv_i429 ht 2 183 "there is no such map" (List.mem_of_getElem? (i := 11) rfl) (by decide +kernel) (by decide +kernel) (by decide +kernel) (by decide +kernel) (by decide +kernel) rfl (by decide) (by decide) (by decide) (by omega) (by omega)

set_option maxRecDepth 100000 in
/-- ProgramBox.used: it throws -/
theorem jx_e138 (hTb : jv_TOk jv_Tb) (p0 : Int32) (p1 : Int32) (p2 : Int32) (p3 : Int32) (p4 : Int32) (p5 : Int32) (g1 : p1.toInt64 < (0 : Int64)) (g2 : ¬ p1 < (0 : Int32)) : jx_Th 428 [.ref 0, .int p1] (jv_H (jx_K 227) jx_If jx_L0 (jx_R 227)) 227 1572950 2 (jv_H (jx_K 227) jx_If jx_L0 (jx_R 227)) 228 1572956 := by
  refine jx_Th.of hTb (y := 428) rfl (Nat.le_of_ble_eq_true rfl) ?_
  intro p l e R s m args below meth c E hl F hZ h0 ht hRc hRs
  show jw p l e R s m args below meth c E 2 227 1572950 _ 0 [(0, .ref 0), (1, .int p1)] [] (jv_H (jx_K 227) jx_If jx_L0 (jx_R 227)) 227 1572950
  refine jw.steps F jv_i428 2 (pc' := 2) (l' := [(0, .ref 0), (1, .int p1)]) (st' := [.int p1, .ref 0]) rfl ?_
  exact jw.prop hTb hl F hZ jv_i428 ht rfl jv_i429 [.ref 0, .int p1] rfl rfl rfl rfl rfl (jv_cal rfl (jv_H_at rfl) rfl rfl) rfl (jx_e137 hTb p0 p1 p2 p3 p4 p5 g1 g2) (by omega) (by omega) (by omega) (by omega)

set_option maxRecDepth 100000 in
/-- the law's used -/
theorem jx_w139 (hTb : jv_TOk jv_Tb) (hT2 : jx_T2Ok) (p0 : Int32) (p1 : Int32) (p2 : Int32) (p3 : Int32) (p4 : Int32) (p5 : Int32) (g1 : p1.toInt64 < (0 : Int64)) (g2 : ¬ p1 < (0 : Int32)) : jx_Wr 449 [(0, 9, 12, 36)] [.ref 0, .int p1, .ref 226] (jv_H (jx_K 227) jx_If jx_L0 (jx_R 227)) 227 1572950 (some (.int (1 : Int32)), (jv_H (jx_K 227) jx_If jx_L0 (jx_R 227)), 228, 1572956) := by
  refine jx_Wr.of hT2 (by decide) rfl (Nat.le_of_ble_eq_true rfl) ?_
  intro p l e R s m args below meth c E hl F hZ htb hRc hRs
  show jw p l e R s m args below meth c E 4 227 1572950 _ 0 [(0, .ref 0), (1, .int p1), (2, .ref 226)] [] (jv_H (jx_K 227) jx_If jx_L0 (jx_R 227)) 227 1572950
  have hRc : R.cells = 228 - 227 := hRc
  have hRs : R.slots = 1572956 - 1572950 := hRs
  refine jw.steps F jx_i449 4 (pc' := 4) (l' := [(0, .ref 0), (1, .int p1), (2, .ref 226)]) (st' := [.int p1, .ref 0, .int (0 : Int32), .ref 226]) rfl ?_
  refine jw.cat hTb hl F hZ rfl jx_i449 htb rfl jv_i428 [.ref 0, .int p1] rfl rfl rfl rfl rfl (jx_cal2 rfl (jv_H_at rfl) rfl rfl) rfl (jx_e138 hTb p0 p1 p2 p3 p4 p5 g1 g2) (by omega) (by omega) (by omega) (by omega) [] (0, 9, 12, 36) [] rfl (fun z h => absurd h List.not_mem_nil) (by decide) rfl rfl (Or.inr ⟨3, rfl, rfl, rfl⟩) (by decide) ?_
  refine jw.steps F jx_i449 1 (pc' := 14) (l' := []) (st' := [.int (1 : Int32)]) rfl ?_
  exact jw.ret F jx_i449 rfl rfl

set_option maxRecDepth 100000 in
/-- ProgramBoxModel$Store.noMap -/
theorem jx_e140 (p0 : Int32) (p1 : Int32) (p2 : Int32) (p3 : Int32) (p4 : Int32) (p5 : Int32) (g1 : p1.toInt64 < (0 : Int64)) (g2 : ¬ p1 < (0 : Int32)) : jv_Ms 324 [.ref 180, .int p1] (jv_H (jx_K 227) jx_If jx_L0 (jx_R 227)) 228 1572956 (some (.int (1 : Int32)), (jv_H (jx_K 227) (jv_u jx_If 180 0 (1 : Int32)) jx_L0 (jx_R 227)), 228, 1572956) := by
  show jv_Ev 324 0 [(0, .ref 180), (1, .int p1)] [] (jv_H (jx_K 227) jx_If jx_L0 (jx_R 227)) 228 1572956 _
  refine jv_Ev.steps jv_i324 2 (pc' := 2) (l' := [(0, .ref 180), (1, .int p1)]) (st' := [.int p1, .ref 180]) rfl ?_
  refine jv_Ev.br jv_i324 (pc' := 5) (st' := [.ref 180]) rfl (jv_bi_lt.trans (jx_gof g2)) ?_
  refine jv_Ev.steps jv_i324 2 (pc' := 7) (l' := [(0, .ref 180), (1, .int p1)]) (st' := [.ref 180, .int p1, .ref 180]) rfl ?_
  refine jv_Ev.m jv_i324 (pc' := 10) (st' := [.int (0 : Int32), .int p1, .ref 180]) rfl rfl (jv_m_getI rfl rfl rfl rfl) ?_
  refine jv_Ev.br jv_i324 (pc' := 13) (st' := [.ref 180]) rfl (jv_bc_lt.trans (jx_gof g2)) ?_
  refine jv_Ev.steps jv_i324 2 (pc' := 18) (l' := [(0, .ref 180), (1, .int p1)]) (st' := [.int (1 : Int32), .ref 180]) rfl ?_
  refine jv_Ev.m jv_i324 (pc' := 21) (st' := []) rfl rfl (jv_m_putI rfl rfl rfl rfl rfl) ?_
  refine jv_Ev.steps jv_i324 1 (pc' := 22) (l' := [(0, .ref 180), (1, .int p1)]) (st' := [.ref 180]) rfl ?_
  refine jv_Ev.m jv_i324 (pc' := 25) (st' := [.int (1 : Int32)]) rfl rfl (jv_m_getI rfl rfl rfl rfl) ?_
  refine jv_Ev.br jv_i324 (pc' := 28) (st' := []) rfl (jv_bi_le.trans (jx_gof (by decide))) ?_
  refine jv_Ev.steps jv_i324 2 (pc' := 33) (l' := [(0, .ref 180), (1, .int p1)]) (st' := [.int (1 : Int32)]) rfl ?_
  exact jv_Ev.ret jv_i324 rfl (jv_ret_b (by decide))

set_option maxRecDepth 100000 in
/-- ProgramBoxModel$Store.used -/
theorem jx_e141 (p0 : Int32) (p1 : Int32) (p2 : Int32) (p3 : Int32) (p4 : Int32) (p5 : Int32) (g1 : p1.toInt64 < (0 : Int64)) (g2 : ¬ p1 < (0 : Int32)) : jv_Ms 325 [.ref 180, .int p1] (jv_H (jx_K 227) jx_If jx_L0 (jx_R 227)) 228 1572956 (some (.int (0 : Int32)), (jv_H (jx_K 227) (jv_u jx_If 180 0 (1 : Int32)) jx_L0 (jx_R 227)), 228, 1572956) := by
  show jv_Ev 325 0 [(0, .ref 180), (1, .int p1)] [] (jv_H (jx_K 227) jx_If jx_L0 (jx_R 227)) 228 1572956 _
  refine jv_Ev.steps jv_i325 2 (pc' := 2) (l' := [(0, .ref 180), (1, .int p1)]) (st' := [.int p1, .ref 180]) rfl ?_
  refine jv_Ev.c jv_i325 (pc' := 5) (S' := [.int (1 : Int32)]) jv_i324 [.ref 180, .int p1] rfl rfl rfl rfl (jv_cal rfl (jv_H_at rfl) rfl rfl) rfl (jx_e140 p0 p1 p2 p3 p4 p5 g1 g2) rfl rfl ?_
  refine jv_Ev.br jv_i325 (pc' := 8) (st' := []) rfl (jv_bi_eq.trans (jx_gof (by decide))) ?_
  refine jv_Ev.steps jv_i325 1 (pc' := 9) (l' := [(0, .ref 180), (1, .int p1)]) (st' := [.int (0 : Int32)]) rfl ?_
  exact jv_Ev.ret jv_i325 rfl rfl

set_option maxRecDepth 100000 in
/-- ProgramBoxModel$Store.thrown -/
theorem jx_e142 (p0 : Int32) (p1 : Int32) (p2 : Int32) (p3 : Int32) (p4 : Int32) (p5 : Int32) (g1 : p1.toInt64 < (0 : Int64)) (g2 : ¬ p1 < (0 : Int32)) : jv_Ms 318 [.ref 180] (jv_H (jx_K 227) (jv_u jx_If 180 0 (1 : Int32)) jx_L0 (jx_R 227)) 228 1572956 (some (.int (1 : Int32)), (jv_H (jx_K 227) (jv_u jx_If 180 0 (1 : Int32)) jx_L0 (jx_R 227)), 228, 1572956) := by
  show jv_Ev 318 0 [(0, .ref 180)] [] (jv_H (jx_K 227) (jv_u jx_If 180 0 (1 : Int32)) jx_L0 (jx_R 227)) 228 1572956 _
  refine jv_Ev.steps jv_i318 1 (pc' := 1) (l' := [(0, .ref 180)]) (st' := [.ref 180]) rfl ?_
  refine jv_Ev.m jv_i318 (pc' := 4) (st' := [.int (1 : Int32)]) rfl rfl (jv_m_getI rfl rfl rfl rfl) ?_
  exact jv_Ev.ret jv_i318 rfl rfl

set_option maxRecDepth 100000 in
/-- ProgramBoxModel.used -/
theorem jx_e143 (p0 : Int32) (p1 : Int32) (p2 : Int32) (p3 : Int32) (p4 : Int32) (p5 : Int32) (g1 : p1.toInt64 < (0 : Int64)) (g2 : ¬ p1 < (0 : Int32)) : jv_Ms 408 [.ref 178, .int p1] (jv_H (jx_K 227) jx_If jx_L0 (jx_R 227)) 228 1572956 (some (.int (0 : Int32)), (jv_H (jx_K 227) (jv_u (jv_u jx_If 180 0 (1 : Int32)) 178 0 (1 : Int32)) jx_L0 (jx_R 227)), 228, 1572956) := by
  show jv_Ev 408 0 [(0, .ref 178), (1, .int p1)] [] (jv_H (jx_K 227) jx_If jx_L0 (jx_R 227)) 228 1572956 _
  refine jv_Ev.steps jv_i408 1 (pc' := 1) (l' := [(0, .ref 178), (1, .int p1)]) (st' := [.ref 178]) rfl ?_
  refine jv_Ev.m jv_i408 (pc' := 4) (st' := [.ref 180]) rfl rfl (jv_m_getR rfl rfl rfl rfl) ?_
  refine jv_Ev.steps jv_i408 1 (pc' := 5) (l' := [(0, .ref 178), (1, .int p1)]) (st' := [.int p1, .ref 180]) rfl ?_
  refine jv_Ev.c jv_i408 (pc' := 8) (S' := [.int (0 : Int32)]) jv_i325 [.ref 180, .int p1] rfl rfl rfl rfl (jv_cal rfl (jv_H_at rfl) rfl rfl) rfl (jx_e141 p0 p1 p2 p3 p4 p5 g1 g2) rfl rfl ?_
  refine jv_Ev.steps jv_i408 3 (pc' := 11) (l' := [(2, .int (0 : Int32)), (0, .ref 178), (1, .int p1)]) (st' := [.ref 178, .ref 178]) rfl ?_
  refine jv_Ev.m jv_i408 (pc' := 14) (st' := [.ref 180, .ref 178]) rfl rfl (jv_m_getR rfl rfl rfl rfl) ?_
  refine jv_Ev.c jv_i408 (pc' := 17) (S' := [.int (1 : Int32), .ref 178]) jv_i318 [.ref 180] rfl rfl rfl rfl (jv_cal rfl (jv_H_at rfl) rfl rfl) rfl (jx_e142 p0 p1 p2 p3 p4 p5 g1 g2) rfl rfl ?_
  refine jv_Ev.m jv_i408 (pc' := 20) (st' := []) rfl rfl (jv_m_putI rfl rfl rfl rfl rfl) ?_
  refine jv_Ev.steps jv_i408 1 (pc' := 21) (l' := [(2, .int (0 : Int32)), (0, .ref 178), (1, .int p1)]) (st' := [.int (0 : Int32)]) rfl ?_
  exact jv_Ev.ret jv_i408 rfl rfl

set_option maxRecDepth 100000 in
/-- ProgramBoxModel.thrown -/
theorem jx_e144 (p0 : Int32) (p1 : Int32) (p2 : Int32) (p3 : Int32) (p4 : Int32) (p5 : Int32) (g1 : p1.toInt64 < (0 : Int64)) (g2 : ¬ p1 < (0 : Int32)) : jv_Ms 350 [.ref 178] (jv_H (jx_K 227) (jv_u (jv_u jx_If 180 0 (1 : Int32)) 178 0 (1 : Int32)) jx_L0 (jx_R 227)) 228 1572956 (some (.int (1 : Int32)), (jv_H (jx_K 227) (jv_u (jv_u jx_If 180 0 (1 : Int32)) 178 0 (1 : Int32)) jx_L0 (jx_R 227)), 228, 1572956) := by
  show jv_Ev 350 0 [(0, .ref 178)] [] (jv_H (jx_K 227) (jv_u (jv_u jx_If 180 0 (1 : Int32)) 178 0 (1 : Int32)) jx_L0 (jx_R 227)) 228 1572956 _
  refine jv_Ev.steps jv_i350 1 (pc' := 1) (l' := [(0, .ref 178)]) (st' := [.ref 178]) rfl ?_
  refine jv_Ev.m jv_i350 (pc' := 4) (st' := [.int (1 : Int32)]) rfl rfl (jv_m_getI rfl rfl rfl rfl) ?_
  exact jv_Ev.ret jv_i350 rfl rfl

set_option maxRecDepth 100000 in
/-- the law: case 17, one way -/
theorem jx_l29 (p0 : Int32) (p1 : Int32) (p2 : Int32) (p3 : Int32) (p4 : Int32) (p5 : Int32) (g1 : p1.toInt64 < (0 : Int64)) (g2 : ¬ p1 < (0 : Int32)) (hsw : p0 &&& (31 : Int32) = (17 : Int32)) {p : Program} {l : Launch} {e : Env} {R : Room} {s : State} {m : MethodId} {args : Array Value} {below : List Frame} {meth : Method} {c : Code} {E : jv_Env} {Q : State → Prop} (hTb : jv_TOk jv_Tb) (hT2 : jx_T2Ok) (hl : l.stackTraces = false) (F : jx_F jv_T2 439 E p R s m args meth c) (hZ : jx_Z E s) (hRc : R.cells = 600002) (hRs : R.slots = 7302232) {bb : Nat} {xs : Nat → Int32} (hX : va_X bb 6 xs s E.2.2.2.2) (hbB : bb < E.2.2.2.1) (hE2 : E.1 1000002 = bb) (hQ : ∀ (l0 : jv_L) (G : jv_G) (n sl : Nat), n ≤ 600002 → sl ≤ 7302232 → jw p l e R s m args below meth c E 8 0 0 Q 1532 l0 [.int (1 : Int32)] G n sl) (q0 : xs 0 = p0) (q1 : xs 1 = p1) (q2 : xs 2 = p2) (q3 : xs 3 = p3) (q4 : xs 4 = p4) (q5 : xs 5 = p5) : jw p l e R s m args below meth c E 8 0 0 Q 33 [(0, .ref 1000002), (1, .ref 0), (2, .ref 178), (3, .ref 226), (4, .int (0 : Int32))] [] (jv_H (jx_K 227) jx_If jx_L0 (jx_R 227)) 227 1572950 := by
  refine jw.steps F jx_i439 2 (pc' := 36) (l' := [(0, .ref 1000002), (1, .ref 0), (2, .ref 178), (3, .ref 226), (4, .int (0 : Int32))]) (st' := [.int (0 : Int32), .ref 1000002]) rfl ?_
  refine jw.sld F jx_i439 hX hbB hE2 (pc' := 37) rfl rfl (show vp_in (nI 0) 6 from vp_in_nI (by decide) (by decide)) q0 rfl ?_
  refine jw.steps F jx_i439 2 (pc' := 40) (l' := [(0, .ref 1000002), (1, .ref 0), (2, .ref 178), (3, .ref 226), (4, .int (0 : Int32))]) (st' := [.int (p0 &&& (31 : Int32))]) rfl ?_
  refine jw.br F jx_i439 (pc' := 890) (st' := []) rfl (by rw [hsw]; rfl) ?_
  refine jw.steps F jx_i439 5 (pc' := 896) (l' := [(0, .ref 1000002), (1, .ref 0), (2, .ref 178), (3, .ref 226), (4, .int (0 : Int32))]) (st' := [.int (1 : Int32), .ref 1000002, .ref 0]) rfl ?_
  refine jw.sld F jx_i439 hX hbB hE2 (pc' := 897) rfl rfl (show vp_in (nI 1) 6 from vp_in_nI (by decide) (by decide)) q1 rfl ?_
  refine jw.steps F jx_i439 1 (pc' := 898) (l' := [(0, .ref 1000002), (1, .ref 0), (2, .ref 178), (3, .ref 226), (4, .int (0 : Int32))]) (st' := [.ref 226, .int p1, .ref 0]) rfl ?_
  refine jw.wr F hl hZ rfl jx_i439 jx_i449 [.ref 0, .int p1, .ref 226] (pc' := 901) (S' := [.int (1 : Int32)]) rfl (List.mem_of_getElem? (i := 9) rfl) (List.mem_of_getElem? (i := 9) rfl) rfl rfl rfl (jx_w139 hTb hT2 p0 p1 p2 p3 p4 p5 g1 g2) (by omega) (by omega) (by omega) (by omega) rfl rfl ?_
  refine jw.steps F jx_i439 6 (pc' := 909) (l' := [(5, .int (1 : Int32)), (0, .ref 1000002), (1, .ref 0), (2, .ref 178), (3, .ref 226), (4, .int (0 : Int32))]) (st' := [.int (1 : Int32), .ref 1000002, .ref 178]) rfl ?_
  refine jw.sld F jx_i439 hX hbB hE2 (pc' := 910) rfl rfl (show vp_in (nI 1) 6 from vp_in_nI (by decide) (by decide)) q1 rfl ?_
  refine jw.ca hTb F jx_i439 (pc' := 913) (S' := [.int (0 : Int32)]) rfl jv_i408 [.ref 178, .int p1] rfl rfl rfl rfl (jx_cal2 rfl (jv_H_at rfl) rfl rfl) rfl (jx_e143 p0 p1 p2 p3 p4 p5 g1 g2) (by omega) (by omega) rfl rfl ?_
  refine jw.steps F jx_i439 2 (pc' := 916) (l' := [(6, .int (0 : Int32)), (5, .int (1 : Int32)), (0, .ref 1000002), (1, .ref 0), (2, .ref 178), (3, .ref 226), (4, .int (0 : Int32))]) (st' := [.ref 178]) rfl ?_
  refine jw.ca hTb F jx_i439 (pc' := 919) (S' := [.int (1 : Int32)]) rfl jv_i350 [.ref 178] rfl rfl rfl rfl (jx_cal2 rfl (jv_H_at rfl) rfl rfl) rfl (jx_e144 p0 p1 p2 p3 p4 p5 g1 g2) (by omega) (by omega) rfl rfl ?_
  refine jw.steps F jx_i439 1 (pc' := 921) (l' := [(6, .int (0 : Int32)), (5, .int (1 : Int32)), (0, .ref 1000002), (1, .ref 0), (2, .ref 178), (3, .ref 226), (4, .int (0 : Int32))]) (st' := [.int (1 : Int32), .int (1 : Int32)]) rfl ?_
  refine jw.br F jx_i439 (pc' := 926) (st' := []) rfl (jv_bc_eq.trans (jx_got (by decide))) ?_
  refine jw.steps F jx_i439 1 (pc' := 928) (l' := [(6, .int (0 : Int32)), (5, .int (1 : Int32)), (0, .ref 1000002), (1, .ref 0), (2, .ref 178), (3, .ref 226), (4, .int (0 : Int32))]) (st' := [.int (1 : Int32)]) rfl ?_
  refine jw.br F jx_i439 (pc' := 943) (st' := []) rfl (jv_bi_ne.trans (jx_got (by decide))) ?_
  refine jw.steps F jx_i439 5 (pc' := 26) (l' := [(4, .int (6 : Int32)), (6, .int (0 : Int32)), (5, .int (1 : Int32)), (0, .ref 1000002), (1, .ref 0), (2, .ref 178), (3, .ref 226)]) (st' := [.ref 1000002, .int (6 : Int32)]) rfl ?_
  refine jw.slen F jx_i439 hX hbB hE2 (pc' := 27) rfl rfl rfl ?_
  refine jw.steps F jx_i439 2 (pc' := 30) (l' := [(4, .int (6 : Int32)), (6, .int (0 : Int32)), (5, .int (1 : Int32)), (0, .ref 1000002), (1, .ref 0), (2, .ref 178), (3, .ref 226)]) (st' := [.int (0 : Int32), .int (6 : Int32)]) rfl ?_
  refine jw.br F jx_i439 (pc' := 1531) (st' := []) rfl (jv_bc_gt.trans (jx_got (by decide))) ?_
  refine jw.steps F jx_i439 1 (pc' := 1532) (l' := [(4, .int (6 : Int32)), (6, .int (0 : Int32)), (5, .int (1 : Int32)), (0, .ref 1000002), (1, .ref 0), (2, .ref 178), (3, .ref 226)]) (st' := [.int (1 : Int32)]) rfl ?_
  exact hQ _ _ _ _ (by omega) (by omega)

set_option maxRecDepth 100000 in
/-- ProgramBox$Store.map -/
theorem jx_e149 (p0 : Int32) (p1 : Int32) (p2 : Int32) (p3 : Int32) (p4 : Int32) (p5 : Int32) (g1 : ¬ p1.toInt64 < (0 : Int64)) (g2 : p1 < (0 : Int32)) : jv_Ms 126 [.ref 2, .long p1.toInt64] (jv_H (jx_K 227) jx_If jx_L0 (jx_R 227)) 227 1572950 (some (.null), (jv_H (jx_K 227) jx_If jx_L0 (jx_R 227)), 227, 1572950) := by
  show jv_Ev 126 0 [(0, .ref 2), (1, .long p1.toInt64)] [] (jv_H (jx_K 227) jx_If jx_L0 (jx_R 227)) 227 1572950 _
  refine jv_Ev.steps jv_i126 3 (pc' := 3) (l' := [(0, .ref 2), (1, .long p1.toInt64)]) (st' := [.int (lg_cmp p1.toInt64 (0 : Int64))]) rfl ?_
  refine jv_Ev.br jv_i126 (pc' := 6) (st' := []) rfl (jv_bi_lt.trans (jx_gof (fun h => g1 ((lg_cmp_lt p1.toInt64 (0 : Int64)).mp h)))) ?_
  refine jv_Ev.steps jv_i126 2 (pc' := 8) (l' := [(0, .ref 2), (1, .long p1.toInt64)]) (st' := [.ref 2, .long p1.toInt64]) rfl ?_
  refine jv_Ev.m jv_i126 (pc' := 11) (st' := [.int (0 : Int32), .long p1.toInt64]) rfl rfl (jv_m_getI rfl rfl rfl rfl) ?_
  refine jv_Ev.steps jv_i126 2 (pc' := 13) (l' := [(0, .ref 2), (1, .long p1.toInt64)]) (st' := [.int (lg_cmp p1.toInt64 (0 : Int64))]) rfl ?_
  refine jv_Ev.br jv_i126 (pc' := 16) (st' := []) rfl (jv_bi_lt.trans (jx_gof (fun h => g1 ((lg_cmp_lt p1.toInt64 (0 : Int64)).mp h)))) ?_
  refine jv_Ev.steps jv_i126 2 (pc' := 27) (l' := [(0, .ref 2), (1, .long p1.toInt64)]) (st' := [.null]) rfl ?_
  exact jv_Ev.ret jv_i126 rfl rfl

set_option maxRecDepth 100000 in
/-- ProgramBox.mapOf: it throws -/
theorem jx_e150 (hTb : jv_TOk jv_Tb) (p0 : Int32) (p1 : Int32) (p2 : Int32) (p3 : Int32) (p4 : Int32) (p5 : Int32) (g1 : ¬ p1.toInt64 < (0 : Int64)) (g2 : p1 < (0 : Int32)) : jx_Th 429 [.ref 0, .int p1] (jv_H (jx_K 227) jx_If jx_L0 (jx_R 227)) 227 1572950 2 (jv_H (jx_K 227) jx_If jx_L0 (jx_R 227)) 228 1572956 := by
  refine jx_Th.of hTb (y := 429) rfl (Nat.le_of_ble_eq_true rfl) ?_
  intro p l e R s m args below meth c E hl F hZ h0 ht hRc hRs
  show jw p l e R s m args below meth c E 3 227 1572950 _ 0 [(0, .ref 0), (1, .int p1)] [] (jv_H (jx_K 227) jx_If jx_L0 (jx_R 227)) 227 1572950
  refine jw.steps F jv_i429 1 (pc' := 1) (l' := [(0, .ref 0), (1, .int p1)]) (st' := [.ref 0]) rfl ?_
  refine jw.me F jv_i429 (pc' := 4) (st' := [.ref 2]) rfl rfl (jv_m_getR rfl rfl rfl rfl) ?_
  refine jw.steps F jv_i429 2 (pc' := 6) (l' := [(0, .ref 0), (1, .int p1)]) (st' := [.long p1.toInt64, .ref 2]) rfl ?_
  refine jw.ca hTb F jv_i429 (pc' := 9) (S' := [.null]) rfl jv_i126 [.ref 2, .long p1.toInt64] rfl rfl rfl rfl (jv_cal rfl (jv_H_at rfl) rfl rfl) rfl (jx_e149 p0 p1 p2 p3 p4 p5 g1 g2) (by omega) (by omega) rfl rfl ?_
  refine jw.steps F jv_i429 2 (pc' := 11) (l' := [(2, .null), (0, .ref 0), (1, .int p1)]) (st' := [.null]) rfl ?_
  refine jw.br F jv_i429 (pc' := 14) (st' := []) rfl rfl ?_
  exact jw.throw hl F hZ h0 rfl jv_i429 ht 2 183 "there is no such map" (List.mem_of_getElem? (i := 11) rfl) (by decide +kernel) (by decide +kernel) (by decide +kernel) (by decide +kernel) (by decide +kernel) rfl (by decide) (by decide) (by decide) (by omega) (by omega)

set_option maxRecDepth 100000 in
/-- ProgramBox.used: it throws -/
theorem jx_e151 (hTb : jv_TOk jv_Tb) (p0 : Int32) (p1 : Int32) (p2 : Int32) (p3 : Int32) (p4 : Int32) (p5 : Int32) (g1 : ¬ p1.toInt64 < (0 : Int64)) (g2 : p1 < (0 : Int32)) : jx_Th 428 [.ref 0, .int p1] (jv_H (jx_K 227) jx_If jx_L0 (jx_R 227)) 227 1572950 2 (jv_H (jx_K 227) jx_If jx_L0 (jx_R 227)) 228 1572956 := by
  refine jx_Th.of hTb (y := 428) rfl (Nat.le_of_ble_eq_true rfl) ?_
  intro p l e R s m args below meth c E hl F hZ h0 ht hRc hRs
  show jw p l e R s m args below meth c E 2 227 1572950 _ 0 [(0, .ref 0), (1, .int p1)] [] (jv_H (jx_K 227) jx_If jx_L0 (jx_R 227)) 227 1572950
  refine jw.steps F jv_i428 2 (pc' := 2) (l' := [(0, .ref 0), (1, .int p1)]) (st' := [.int p1, .ref 0]) rfl ?_
  exact jw.prop hTb hl F hZ jv_i428 ht rfl jv_i429 [.ref 0, .int p1] rfl rfl rfl rfl rfl (jv_cal rfl (jv_H_at rfl) rfl rfl) rfl (jx_e150 hTb p0 p1 p2 p3 p4 p5 g1 g2) (by omega) (by omega) (by omega) (by omega)

set_option maxRecDepth 100000 in
/-- the law's used -/
theorem jx_w152 (hTb : jv_TOk jv_Tb) (hT2 : jx_T2Ok) (p0 : Int32) (p1 : Int32) (p2 : Int32) (p3 : Int32) (p4 : Int32) (p5 : Int32) (g1 : ¬ p1.toInt64 < (0 : Int64)) (g2 : p1 < (0 : Int32)) : jx_Wr 449 [(0, 9, 12, 36)] [.ref 0, .int p1, .ref 226] (jv_H (jx_K 227) jx_If jx_L0 (jx_R 227)) 227 1572950 (some (.int (1 : Int32)), (jv_H (jx_K 227) jx_If jx_L0 (jx_R 227)), 228, 1572956) := by
  refine jx_Wr.of hT2 (by decide) rfl (Nat.le_of_ble_eq_true rfl) ?_
  intro p l e R s m args below meth c E hl F hZ htb hRc hRs
  show jw p l e R s m args below meth c E 4 227 1572950 _ 0 [(0, .ref 0), (1, .int p1), (2, .ref 226)] [] (jv_H (jx_K 227) jx_If jx_L0 (jx_R 227)) 227 1572950
  have hRc : R.cells = 228 - 227 := hRc
  have hRs : R.slots = 1572956 - 1572950 := hRs
  refine jw.steps F jx_i449 4 (pc' := 4) (l' := [(0, .ref 0), (1, .int p1), (2, .ref 226)]) (st' := [.int p1, .ref 0, .int (0 : Int32), .ref 226]) rfl ?_
  refine jw.cat hTb hl F hZ rfl jx_i449 htb rfl jv_i428 [.ref 0, .int p1] rfl rfl rfl rfl rfl (jx_cal2 rfl (jv_H_at rfl) rfl rfl) rfl (jx_e151 hTb p0 p1 p2 p3 p4 p5 g1 g2) (by omega) (by omega) (by omega) (by omega) [] (0, 9, 12, 36) [] rfl (fun z h => absurd h List.not_mem_nil) (by decide) rfl rfl (Or.inr ⟨3, rfl, rfl, rfl⟩) (by decide) ?_
  refine jw.steps F jx_i449 1 (pc' := 14) (l' := []) (st' := [.int (1 : Int32)]) rfl ?_
  exact jw.ret F jx_i449 rfl rfl

set_option maxRecDepth 100000 in
/-- ProgramBoxModel$Store.noMap -/
theorem jx_e153 (p0 : Int32) (p1 : Int32) (p2 : Int32) (p3 : Int32) (p4 : Int32) (p5 : Int32) (g1 : ¬ p1.toInt64 < (0 : Int64)) (g2 : p1 < (0 : Int32)) : jv_Ms 324 [.ref 180, .int p1] (jv_H (jx_K 227) jx_If jx_L0 (jx_R 227)) 228 1572956 (some (.int (1 : Int32)), (jv_H (jx_K 227) (jv_u jx_If 180 0 (1 : Int32)) jx_L0 (jx_R 227)), 228, 1572956) := by
  show jv_Ev 324 0 [(0, .ref 180), (1, .int p1)] [] (jv_H (jx_K 227) jx_If jx_L0 (jx_R 227)) 228 1572956 _
  refine jv_Ev.steps jv_i324 2 (pc' := 2) (l' := [(0, .ref 180), (1, .int p1)]) (st' := [.int p1, .ref 180]) rfl ?_
  refine jv_Ev.br jv_i324 (pc' := 13) (st' := [.ref 180]) rfl (jv_bi_lt.trans (jx_got g2)) ?_
  refine jv_Ev.steps jv_i324 2 (pc' := 18) (l' := [(0, .ref 180), (1, .int p1)]) (st' := [.int (1 : Int32), .ref 180]) rfl ?_
  refine jv_Ev.m jv_i324 (pc' := 21) (st' := []) rfl rfl (jv_m_putI rfl rfl rfl rfl rfl) ?_
  refine jv_Ev.steps jv_i324 1 (pc' := 22) (l' := [(0, .ref 180), (1, .int p1)]) (st' := [.ref 180]) rfl ?_
  refine jv_Ev.m jv_i324 (pc' := 25) (st' := [.int (1 : Int32)]) rfl rfl (jv_m_getI rfl rfl rfl rfl) ?_
  refine jv_Ev.br jv_i324 (pc' := 28) (st' := []) rfl (jv_bi_le.trans (jx_gof (by decide))) ?_
  refine jv_Ev.steps jv_i324 2 (pc' := 33) (l' := [(0, .ref 180), (1, .int p1)]) (st' := [.int (1 : Int32)]) rfl ?_
  exact jv_Ev.ret jv_i324 rfl (jv_ret_b (by decide))

set_option maxRecDepth 100000 in
/-- ProgramBoxModel$Store.used -/
theorem jx_e154 (p0 : Int32) (p1 : Int32) (p2 : Int32) (p3 : Int32) (p4 : Int32) (p5 : Int32) (g1 : ¬ p1.toInt64 < (0 : Int64)) (g2 : p1 < (0 : Int32)) : jv_Ms 325 [.ref 180, .int p1] (jv_H (jx_K 227) jx_If jx_L0 (jx_R 227)) 228 1572956 (some (.int (0 : Int32)), (jv_H (jx_K 227) (jv_u jx_If 180 0 (1 : Int32)) jx_L0 (jx_R 227)), 228, 1572956) := by
  show jv_Ev 325 0 [(0, .ref 180), (1, .int p1)] [] (jv_H (jx_K 227) jx_If jx_L0 (jx_R 227)) 228 1572956 _
  refine jv_Ev.steps jv_i325 2 (pc' := 2) (l' := [(0, .ref 180), (1, .int p1)]) (st' := [.int p1, .ref 180]) rfl ?_
  refine jv_Ev.c jv_i325 (pc' := 5) (S' := [.int (1 : Int32)]) jv_i324 [.ref 180, .int p1] rfl rfl rfl rfl (jv_cal rfl (jv_H_at rfl) rfl rfl) rfl (jx_e153 p0 p1 p2 p3 p4 p5 g1 g2) rfl rfl ?_
  refine jv_Ev.br jv_i325 (pc' := 8) (st' := []) rfl (jv_bi_eq.trans (jx_gof (by decide))) ?_
  refine jv_Ev.steps jv_i325 1 (pc' := 9) (l' := [(0, .ref 180), (1, .int p1)]) (st' := [.int (0 : Int32)]) rfl ?_
  exact jv_Ev.ret jv_i325 rfl rfl

set_option maxRecDepth 100000 in
/-- ProgramBoxModel$Store.thrown -/
theorem jx_e155 (p0 : Int32) (p1 : Int32) (p2 : Int32) (p3 : Int32) (p4 : Int32) (p5 : Int32) (g1 : ¬ p1.toInt64 < (0 : Int64)) (g2 : p1 < (0 : Int32)) : jv_Ms 318 [.ref 180] (jv_H (jx_K 227) (jv_u jx_If 180 0 (1 : Int32)) jx_L0 (jx_R 227)) 228 1572956 (some (.int (1 : Int32)), (jv_H (jx_K 227) (jv_u jx_If 180 0 (1 : Int32)) jx_L0 (jx_R 227)), 228, 1572956) := by
  show jv_Ev 318 0 [(0, .ref 180)] [] (jv_H (jx_K 227) (jv_u jx_If 180 0 (1 : Int32)) jx_L0 (jx_R 227)) 228 1572956 _
  refine jv_Ev.steps jv_i318 1 (pc' := 1) (l' := [(0, .ref 180)]) (st' := [.ref 180]) rfl ?_
  refine jv_Ev.m jv_i318 (pc' := 4) (st' := [.int (1 : Int32)]) rfl rfl (jv_m_getI rfl rfl rfl rfl) ?_
  exact jv_Ev.ret jv_i318 rfl rfl

set_option maxRecDepth 100000 in
/-- ProgramBoxModel.used -/
theorem jx_e156 (p0 : Int32) (p1 : Int32) (p2 : Int32) (p3 : Int32) (p4 : Int32) (p5 : Int32) (g1 : ¬ p1.toInt64 < (0 : Int64)) (g2 : p1 < (0 : Int32)) : jv_Ms 408 [.ref 178, .int p1] (jv_H (jx_K 227) jx_If jx_L0 (jx_R 227)) 228 1572956 (some (.int (0 : Int32)), (jv_H (jx_K 227) (jv_u (jv_u jx_If 180 0 (1 : Int32)) 178 0 (1 : Int32)) jx_L0 (jx_R 227)), 228, 1572956) := by
  show jv_Ev 408 0 [(0, .ref 178), (1, .int p1)] [] (jv_H (jx_K 227) jx_If jx_L0 (jx_R 227)) 228 1572956 _
  refine jv_Ev.steps jv_i408 1 (pc' := 1) (l' := [(0, .ref 178), (1, .int p1)]) (st' := [.ref 178]) rfl ?_
  refine jv_Ev.m jv_i408 (pc' := 4) (st' := [.ref 180]) rfl rfl (jv_m_getR rfl rfl rfl rfl) ?_
  refine jv_Ev.steps jv_i408 1 (pc' := 5) (l' := [(0, .ref 178), (1, .int p1)]) (st' := [.int p1, .ref 180]) rfl ?_
  refine jv_Ev.c jv_i408 (pc' := 8) (S' := [.int (0 : Int32)]) jv_i325 [.ref 180, .int p1] rfl rfl rfl rfl (jv_cal rfl (jv_H_at rfl) rfl rfl) rfl (jx_e154 p0 p1 p2 p3 p4 p5 g1 g2) rfl rfl ?_
  refine jv_Ev.steps jv_i408 3 (pc' := 11) (l' := [(2, .int (0 : Int32)), (0, .ref 178), (1, .int p1)]) (st' := [.ref 178, .ref 178]) rfl ?_
  refine jv_Ev.m jv_i408 (pc' := 14) (st' := [.ref 180, .ref 178]) rfl rfl (jv_m_getR rfl rfl rfl rfl) ?_
  refine jv_Ev.c jv_i408 (pc' := 17) (S' := [.int (1 : Int32), .ref 178]) jv_i318 [.ref 180] rfl rfl rfl rfl (jv_cal rfl (jv_H_at rfl) rfl rfl) rfl (jx_e155 p0 p1 p2 p3 p4 p5 g1 g2) rfl rfl ?_
  refine jv_Ev.m jv_i408 (pc' := 20) (st' := []) rfl rfl (jv_m_putI rfl rfl rfl rfl rfl) ?_
  refine jv_Ev.steps jv_i408 1 (pc' := 21) (l' := [(2, .int (0 : Int32)), (0, .ref 178), (1, .int p1)]) (st' := [.int (0 : Int32)]) rfl ?_
  exact jv_Ev.ret jv_i408 rfl rfl

set_option maxRecDepth 100000 in
/-- ProgramBoxModel.thrown -/
theorem jx_e157 (p0 : Int32) (p1 : Int32) (p2 : Int32) (p3 : Int32) (p4 : Int32) (p5 : Int32) (g1 : ¬ p1.toInt64 < (0 : Int64)) (g2 : p1 < (0 : Int32)) : jv_Ms 350 [.ref 178] (jv_H (jx_K 227) (jv_u (jv_u jx_If 180 0 (1 : Int32)) 178 0 (1 : Int32)) jx_L0 (jx_R 227)) 228 1572956 (some (.int (1 : Int32)), (jv_H (jx_K 227) (jv_u (jv_u jx_If 180 0 (1 : Int32)) 178 0 (1 : Int32)) jx_L0 (jx_R 227)), 228, 1572956) := by
  show jv_Ev 350 0 [(0, .ref 178)] [] (jv_H (jx_K 227) (jv_u (jv_u jx_If 180 0 (1 : Int32)) 178 0 (1 : Int32)) jx_L0 (jx_R 227)) 228 1572956 _
  refine jv_Ev.steps jv_i350 1 (pc' := 1) (l' := [(0, .ref 178)]) (st' := [.ref 178]) rfl ?_
  refine jv_Ev.m jv_i350 (pc' := 4) (st' := [.int (1 : Int32)]) rfl rfl (jv_m_getI rfl rfl rfl rfl) ?_
  exact jv_Ev.ret jv_i350 rfl rfl

set_option maxRecDepth 100000 in
/-- the law: case 17, one way -/
theorem jx_l30 (p0 : Int32) (p1 : Int32) (p2 : Int32) (p3 : Int32) (p4 : Int32) (p5 : Int32) (g1 : ¬ p1.toInt64 < (0 : Int64)) (g2 : p1 < (0 : Int32)) (hsw : p0 &&& (31 : Int32) = (17 : Int32)) {p : Program} {l : Launch} {e : Env} {R : Room} {s : State} {m : MethodId} {args : Array Value} {below : List Frame} {meth : Method} {c : Code} {E : jv_Env} {Q : State → Prop} (hTb : jv_TOk jv_Tb) (hT2 : jx_T2Ok) (hl : l.stackTraces = false) (F : jx_F jv_T2 439 E p R s m args meth c) (hZ : jx_Z E s) (hRc : R.cells = 600002) (hRs : R.slots = 7302232) {bb : Nat} {xs : Nat → Int32} (hX : va_X bb 6 xs s E.2.2.2.2) (hbB : bb < E.2.2.2.1) (hE2 : E.1 1000002 = bb) (hQ : ∀ (l0 : jv_L) (G : jv_G) (n sl : Nat), n ≤ 600002 → sl ≤ 7302232 → jw p l e R s m args below meth c E 8 0 0 Q 1532 l0 [.int (1 : Int32)] G n sl) (q0 : xs 0 = p0) (q1 : xs 1 = p1) (q2 : xs 2 = p2) (q3 : xs 3 = p3) (q4 : xs 4 = p4) (q5 : xs 5 = p5) : jw p l e R s m args below meth c E 8 0 0 Q 33 [(0, .ref 1000002), (1, .ref 0), (2, .ref 178), (3, .ref 226), (4, .int (0 : Int32))] [] (jv_H (jx_K 227) jx_If jx_L0 (jx_R 227)) 227 1572950 := by
  refine jw.steps F jx_i439 2 (pc' := 36) (l' := [(0, .ref 1000002), (1, .ref 0), (2, .ref 178), (3, .ref 226), (4, .int (0 : Int32))]) (st' := [.int (0 : Int32), .ref 1000002]) rfl ?_
  refine jw.sld F jx_i439 hX hbB hE2 (pc' := 37) rfl rfl (show vp_in (nI 0) 6 from vp_in_nI (by decide) (by decide)) q0 rfl ?_
  refine jw.steps F jx_i439 2 (pc' := 40) (l' := [(0, .ref 1000002), (1, .ref 0), (2, .ref 178), (3, .ref 226), (4, .int (0 : Int32))]) (st' := [.int (p0 &&& (31 : Int32))]) rfl ?_
  refine jw.br F jx_i439 (pc' := 890) (st' := []) rfl (by rw [hsw]; rfl) ?_
  refine jw.steps F jx_i439 5 (pc' := 896) (l' := [(0, .ref 1000002), (1, .ref 0), (2, .ref 178), (3, .ref 226), (4, .int (0 : Int32))]) (st' := [.int (1 : Int32), .ref 1000002, .ref 0]) rfl ?_
  refine jw.sld F jx_i439 hX hbB hE2 (pc' := 897) rfl rfl (show vp_in (nI 1) 6 from vp_in_nI (by decide) (by decide)) q1 rfl ?_
  refine jw.steps F jx_i439 1 (pc' := 898) (l' := [(0, .ref 1000002), (1, .ref 0), (2, .ref 178), (3, .ref 226), (4, .int (0 : Int32))]) (st' := [.ref 226, .int p1, .ref 0]) rfl ?_
  refine jw.wr F hl hZ rfl jx_i439 jx_i449 [.ref 0, .int p1, .ref 226] (pc' := 901) (S' := [.int (1 : Int32)]) rfl (List.mem_of_getElem? (i := 9) rfl) (List.mem_of_getElem? (i := 9) rfl) rfl rfl rfl (jx_w152 hTb hT2 p0 p1 p2 p3 p4 p5 g1 g2) (by omega) (by omega) (by omega) (by omega) rfl rfl ?_
  refine jw.steps F jx_i439 6 (pc' := 909) (l' := [(5, .int (1 : Int32)), (0, .ref 1000002), (1, .ref 0), (2, .ref 178), (3, .ref 226), (4, .int (0 : Int32))]) (st' := [.int (1 : Int32), .ref 1000002, .ref 178]) rfl ?_
  refine jw.sld F jx_i439 hX hbB hE2 (pc' := 910) rfl rfl (show vp_in (nI 1) 6 from vp_in_nI (by decide) (by decide)) q1 rfl ?_
  refine jw.ca hTb F jx_i439 (pc' := 913) (S' := [.int (0 : Int32)]) rfl jv_i408 [.ref 178, .int p1] rfl rfl rfl rfl (jx_cal2 rfl (jv_H_at rfl) rfl rfl) rfl (jx_e156 p0 p1 p2 p3 p4 p5 g1 g2) (by omega) (by omega) rfl rfl ?_
  refine jw.steps F jx_i439 2 (pc' := 916) (l' := [(6, .int (0 : Int32)), (5, .int (1 : Int32)), (0, .ref 1000002), (1, .ref 0), (2, .ref 178), (3, .ref 226), (4, .int (0 : Int32))]) (st' := [.ref 178]) rfl ?_
  refine jw.ca hTb F jx_i439 (pc' := 919) (S' := [.int (1 : Int32)]) rfl jv_i350 [.ref 178] rfl rfl rfl rfl (jx_cal2 rfl (jv_H_at rfl) rfl rfl) rfl (jx_e157 p0 p1 p2 p3 p4 p5 g1 g2) (by omega) (by omega) rfl rfl ?_
  refine jw.steps F jx_i439 1 (pc' := 921) (l' := [(6, .int (0 : Int32)), (5, .int (1 : Int32)), (0, .ref 1000002), (1, .ref 0), (2, .ref 178), (3, .ref 226), (4, .int (0 : Int32))]) (st' := [.int (1 : Int32), .int (1 : Int32)]) rfl ?_
  refine jw.br F jx_i439 (pc' := 926) (st' := []) rfl (jv_bc_eq.trans (jx_got (by decide))) ?_
  refine jw.steps F jx_i439 1 (pc' := 928) (l' := [(6, .int (0 : Int32)), (5, .int (1 : Int32)), (0, .ref 1000002), (1, .ref 0), (2, .ref 178), (3, .ref 226), (4, .int (0 : Int32))]) (st' := [.int (1 : Int32)]) rfl ?_
  refine jw.br F jx_i439 (pc' := 943) (st' := []) rfl (jv_bi_ne.trans (jx_got (by decide))) ?_
  refine jw.steps F jx_i439 5 (pc' := 26) (l' := [(4, .int (6 : Int32)), (6, .int (0 : Int32)), (5, .int (1 : Int32)), (0, .ref 1000002), (1, .ref 0), (2, .ref 178), (3, .ref 226)]) (st' := [.ref 1000002, .int (6 : Int32)]) rfl ?_
  refine jw.slen F jx_i439 hX hbB hE2 (pc' := 27) rfl rfl rfl ?_
  refine jw.steps F jx_i439 2 (pc' := 30) (l' := [(4, .int (6 : Int32)), (6, .int (0 : Int32)), (5, .int (1 : Int32)), (0, .ref 1000002), (1, .ref 0), (2, .ref 178), (3, .ref 226)]) (st' := [.int (0 : Int32), .int (6 : Int32)]) rfl ?_
  refine jw.br F jx_i439 (pc' := 1531) (st' := []) rfl (jv_bc_gt.trans (jx_got (by decide))) ?_
  refine jw.steps F jx_i439 1 (pc' := 1532) (l' := [(4, .int (6 : Int32)), (6, .int (0 : Int32)), (5, .int (1 : Int32)), (0, .ref 1000002), (1, .ref 0), (2, .ref 178), (3, .ref 226)]) (st' := [.int (1 : Int32)]) rfl ?_
  exact hQ _ _ _ _ (by omega) (by omega)

set_option maxRecDepth 100000 in
/-- ProgramBox$Store.map -/
theorem jx_e158 (p0 : Int32) (p1 : Int32) (p2 : Int32) (p3 : Int32) (p4 : Int32) (p5 : Int32) (g1 : ¬ p1.toInt64 < (0 : Int64)) (g2 : ¬ p1 < (0 : Int32)) : jv_Ms 126 [.ref 2, .long p1.toInt64] (jv_H (jx_K 227) jx_If jx_L0 (jx_R 227)) 227 1572950 (some (.null), (jv_H (jx_K 227) jx_If jx_L0 (jx_R 227)), 227, 1572950) := by
  show jv_Ev 126 0 [(0, .ref 2), (1, .long p1.toInt64)] [] (jv_H (jx_K 227) jx_If jx_L0 (jx_R 227)) 227 1572950 _
  refine jv_Ev.steps jv_i126 3 (pc' := 3) (l' := [(0, .ref 2), (1, .long p1.toInt64)]) (st' := [.int (lg_cmp p1.toInt64 (0 : Int64))]) rfl ?_
  refine jv_Ev.br jv_i126 (pc' := 6) (st' := []) rfl (jv_bi_lt.trans (jx_gof (fun h => g1 ((lg_cmp_lt p1.toInt64 (0 : Int64)).mp h)))) ?_
  refine jv_Ev.steps jv_i126 2 (pc' := 8) (l' := [(0, .ref 2), (1, .long p1.toInt64)]) (st' := [.ref 2, .long p1.toInt64]) rfl ?_
  refine jv_Ev.m jv_i126 (pc' := 11) (st' := [.int (0 : Int32), .long p1.toInt64]) rfl rfl (jv_m_getI rfl rfl rfl rfl) ?_
  refine jv_Ev.steps jv_i126 2 (pc' := 13) (l' := [(0, .ref 2), (1, .long p1.toInt64)]) (st' := [.int (lg_cmp p1.toInt64 (0 : Int64))]) rfl ?_
  refine jv_Ev.br jv_i126 (pc' := 16) (st' := []) rfl (jv_bi_lt.trans (jx_gof (fun h => g1 ((lg_cmp_lt p1.toInt64 (0 : Int64)).mp h)))) ?_
  refine jv_Ev.steps jv_i126 2 (pc' := 27) (l' := [(0, .ref 2), (1, .long p1.toInt64)]) (st' := [.null]) rfl ?_
  exact jv_Ev.ret jv_i126 rfl rfl

set_option maxRecDepth 100000 in
/-- ProgramBox.mapOf: it throws -/
theorem jx_e159 (hTb : jv_TOk jv_Tb) (p0 : Int32) (p1 : Int32) (p2 : Int32) (p3 : Int32) (p4 : Int32) (p5 : Int32) (g1 : ¬ p1.toInt64 < (0 : Int64)) (g2 : ¬ p1 < (0 : Int32)) : jx_Th 429 [.ref 0, .int p1] (jv_H (jx_K 227) jx_If jx_L0 (jx_R 227)) 227 1572950 2 (jv_H (jx_K 227) jx_If jx_L0 (jx_R 227)) 228 1572956 := by
  refine jx_Th.of hTb (y := 429) rfl (Nat.le_of_ble_eq_true rfl) ?_
  intro p l e R s m args below meth c E hl F hZ h0 ht hRc hRs
  show jw p l e R s m args below meth c E 3 227 1572950 _ 0 [(0, .ref 0), (1, .int p1)] [] (jv_H (jx_K 227) jx_If jx_L0 (jx_R 227)) 227 1572950
  refine jw.steps F jv_i429 1 (pc' := 1) (l' := [(0, .ref 0), (1, .int p1)]) (st' := [.ref 0]) rfl ?_
  refine jw.me F jv_i429 (pc' := 4) (st' := [.ref 2]) rfl rfl (jv_m_getR rfl rfl rfl rfl) ?_
  refine jw.steps F jv_i429 2 (pc' := 6) (l' := [(0, .ref 0), (1, .int p1)]) (st' := [.long p1.toInt64, .ref 2]) rfl ?_
  refine jw.ca hTb F jv_i429 (pc' := 9) (S' := [.null]) rfl jv_i126 [.ref 2, .long p1.toInt64] rfl rfl rfl rfl (jv_cal rfl (jv_H_at rfl) rfl rfl) rfl (jx_e158 p0 p1 p2 p3 p4 p5 g1 g2) (by omega) (by omega) rfl rfl ?_
  refine jw.steps F jv_i429 2 (pc' := 11) (l' := [(2, .null), (0, .ref 0), (1, .int p1)]) (st' := [.null]) rfl ?_
  refine jw.br F jv_i429 (pc' := 14) (st' := []) rfl rfl ?_
  exact jw.throw hl F hZ h0 rfl jv_i429 ht 2 183 "there is no such map" (List.mem_of_getElem? (i := 11) rfl) (by decide +kernel) (by decide +kernel) (by decide +kernel) (by decide +kernel) (by decide +kernel) rfl (by decide) (by decide) (by decide) (by omega) (by omega)

set_option maxRecDepth 100000 in
/-- ProgramBox.used: it throws -/
theorem jx_e160 (hTb : jv_TOk jv_Tb) (p0 : Int32) (p1 : Int32) (p2 : Int32) (p3 : Int32) (p4 : Int32) (p5 : Int32) (g1 : ¬ p1.toInt64 < (0 : Int64)) (g2 : ¬ p1 < (0 : Int32)) : jx_Th 428 [.ref 0, .int p1] (jv_H (jx_K 227) jx_If jx_L0 (jx_R 227)) 227 1572950 2 (jv_H (jx_K 227) jx_If jx_L0 (jx_R 227)) 228 1572956 := by
  refine jx_Th.of hTb (y := 428) rfl (Nat.le_of_ble_eq_true rfl) ?_
  intro p l e R s m args below meth c E hl F hZ h0 ht hRc hRs
  show jw p l e R s m args below meth c E 2 227 1572950 _ 0 [(0, .ref 0), (1, .int p1)] [] (jv_H (jx_K 227) jx_If jx_L0 (jx_R 227)) 227 1572950
  refine jw.steps F jv_i428 2 (pc' := 2) (l' := [(0, .ref 0), (1, .int p1)]) (st' := [.int p1, .ref 0]) rfl ?_
  exact jw.prop hTb hl F hZ jv_i428 ht rfl jv_i429 [.ref 0, .int p1] rfl rfl rfl rfl rfl (jv_cal rfl (jv_H_at rfl) rfl rfl) rfl (jx_e159 hTb p0 p1 p2 p3 p4 p5 g1 g2) (by omega) (by omega) (by omega) (by omega)

set_option maxRecDepth 100000 in
/-- the law's used -/
theorem jx_w161 (hTb : jv_TOk jv_Tb) (hT2 : jx_T2Ok) (p0 : Int32) (p1 : Int32) (p2 : Int32) (p3 : Int32) (p4 : Int32) (p5 : Int32) (g1 : ¬ p1.toInt64 < (0 : Int64)) (g2 : ¬ p1 < (0 : Int32)) : jx_Wr 449 [(0, 9, 12, 36)] [.ref 0, .int p1, .ref 226] (jv_H (jx_K 227) jx_If jx_L0 (jx_R 227)) 227 1572950 (some (.int (1 : Int32)), (jv_H (jx_K 227) jx_If jx_L0 (jx_R 227)), 228, 1572956) := by
  refine jx_Wr.of hT2 (by decide) rfl (Nat.le_of_ble_eq_true rfl) ?_
  intro p l e R s m args below meth c E hl F hZ htb hRc hRs
  show jw p l e R s m args below meth c E 4 227 1572950 _ 0 [(0, .ref 0), (1, .int p1), (2, .ref 226)] [] (jv_H (jx_K 227) jx_If jx_L0 (jx_R 227)) 227 1572950
  have hRc : R.cells = 228 - 227 := hRc
  have hRs : R.slots = 1572956 - 1572950 := hRs
  refine jw.steps F jx_i449 4 (pc' := 4) (l' := [(0, .ref 0), (1, .int p1), (2, .ref 226)]) (st' := [.int p1, .ref 0, .int (0 : Int32), .ref 226]) rfl ?_
  refine jw.cat hTb hl F hZ rfl jx_i449 htb rfl jv_i428 [.ref 0, .int p1] rfl rfl rfl rfl rfl (jx_cal2 rfl (jv_H_at rfl) rfl rfl) rfl (jx_e160 hTb p0 p1 p2 p3 p4 p5 g1 g2) (by omega) (by omega) (by omega) (by omega) [] (0, 9, 12, 36) [] rfl (fun z h => absurd h List.not_mem_nil) (by decide) rfl rfl (Or.inr ⟨3, rfl, rfl, rfl⟩) (by decide) ?_
  refine jw.steps F jx_i449 1 (pc' := 14) (l' := []) (st' := [.int (1 : Int32)]) rfl ?_
  exact jw.ret F jx_i449 rfl rfl

set_option maxRecDepth 100000 in
/-- ProgramBoxModel$Store.noMap -/
theorem jx_e162 (p0 : Int32) (p1 : Int32) (p2 : Int32) (p3 : Int32) (p4 : Int32) (p5 : Int32) (g1 : ¬ p1.toInt64 < (0 : Int64)) (g2 : ¬ p1 < (0 : Int32)) : jv_Ms 324 [.ref 180, .int p1] (jv_H (jx_K 227) jx_If jx_L0 (jx_R 227)) 228 1572956 (some (.int (1 : Int32)), (jv_H (jx_K 227) (jv_u jx_If 180 0 (1 : Int32)) jx_L0 (jx_R 227)), 228, 1572956) := by
  show jv_Ev 324 0 [(0, .ref 180), (1, .int p1)] [] (jv_H (jx_K 227) jx_If jx_L0 (jx_R 227)) 228 1572956 _
  refine jv_Ev.steps jv_i324 2 (pc' := 2) (l' := [(0, .ref 180), (1, .int p1)]) (st' := [.int p1, .ref 180]) rfl ?_
  refine jv_Ev.br jv_i324 (pc' := 5) (st' := [.ref 180]) rfl (jv_bi_lt.trans (jx_gof g2)) ?_
  refine jv_Ev.steps jv_i324 2 (pc' := 7) (l' := [(0, .ref 180), (1, .int p1)]) (st' := [.ref 180, .int p1, .ref 180]) rfl ?_
  refine jv_Ev.m jv_i324 (pc' := 10) (st' := [.int (0 : Int32), .int p1, .ref 180]) rfl rfl (jv_m_getI rfl rfl rfl rfl) ?_
  refine jv_Ev.br jv_i324 (pc' := 13) (st' := [.ref 180]) rfl (jv_bc_lt.trans (jx_gof g2)) ?_
  refine jv_Ev.steps jv_i324 2 (pc' := 18) (l' := [(0, .ref 180), (1, .int p1)]) (st' := [.int (1 : Int32), .ref 180]) rfl ?_
  refine jv_Ev.m jv_i324 (pc' := 21) (st' := []) rfl rfl (jv_m_putI rfl rfl rfl rfl rfl) ?_
  refine jv_Ev.steps jv_i324 1 (pc' := 22) (l' := [(0, .ref 180), (1, .int p1)]) (st' := [.ref 180]) rfl ?_
  refine jv_Ev.m jv_i324 (pc' := 25) (st' := [.int (1 : Int32)]) rfl rfl (jv_m_getI rfl rfl rfl rfl) ?_
  refine jv_Ev.br jv_i324 (pc' := 28) (st' := []) rfl (jv_bi_le.trans (jx_gof (by decide))) ?_
  refine jv_Ev.steps jv_i324 2 (pc' := 33) (l' := [(0, .ref 180), (1, .int p1)]) (st' := [.int (1 : Int32)]) rfl ?_
  exact jv_Ev.ret jv_i324 rfl (jv_ret_b (by decide))

set_option maxRecDepth 100000 in
/-- ProgramBoxModel$Store.used -/
theorem jx_e163 (p0 : Int32) (p1 : Int32) (p2 : Int32) (p3 : Int32) (p4 : Int32) (p5 : Int32) (g1 : ¬ p1.toInt64 < (0 : Int64)) (g2 : ¬ p1 < (0 : Int32)) : jv_Ms 325 [.ref 180, .int p1] (jv_H (jx_K 227) jx_If jx_L0 (jx_R 227)) 228 1572956 (some (.int (0 : Int32)), (jv_H (jx_K 227) (jv_u jx_If 180 0 (1 : Int32)) jx_L0 (jx_R 227)), 228, 1572956) := by
  show jv_Ev 325 0 [(0, .ref 180), (1, .int p1)] [] (jv_H (jx_K 227) jx_If jx_L0 (jx_R 227)) 228 1572956 _
  refine jv_Ev.steps jv_i325 2 (pc' := 2) (l' := [(0, .ref 180), (1, .int p1)]) (st' := [.int p1, .ref 180]) rfl ?_
  refine jv_Ev.c jv_i325 (pc' := 5) (S' := [.int (1 : Int32)]) jv_i324 [.ref 180, .int p1] rfl rfl rfl rfl (jv_cal rfl (jv_H_at rfl) rfl rfl) rfl (jx_e162 p0 p1 p2 p3 p4 p5 g1 g2) rfl rfl ?_
  refine jv_Ev.br jv_i325 (pc' := 8) (st' := []) rfl (jv_bi_eq.trans (jx_gof (by decide))) ?_
  refine jv_Ev.steps jv_i325 1 (pc' := 9) (l' := [(0, .ref 180), (1, .int p1)]) (st' := [.int (0 : Int32)]) rfl ?_
  exact jv_Ev.ret jv_i325 rfl rfl

set_option maxRecDepth 100000 in
/-- ProgramBoxModel$Store.thrown -/
theorem jx_e164 (p0 : Int32) (p1 : Int32) (p2 : Int32) (p3 : Int32) (p4 : Int32) (p5 : Int32) (g1 : ¬ p1.toInt64 < (0 : Int64)) (g2 : ¬ p1 < (0 : Int32)) : jv_Ms 318 [.ref 180] (jv_H (jx_K 227) (jv_u jx_If 180 0 (1 : Int32)) jx_L0 (jx_R 227)) 228 1572956 (some (.int (1 : Int32)), (jv_H (jx_K 227) (jv_u jx_If 180 0 (1 : Int32)) jx_L0 (jx_R 227)), 228, 1572956) := by
  show jv_Ev 318 0 [(0, .ref 180)] [] (jv_H (jx_K 227) (jv_u jx_If 180 0 (1 : Int32)) jx_L0 (jx_R 227)) 228 1572956 _
  refine jv_Ev.steps jv_i318 1 (pc' := 1) (l' := [(0, .ref 180)]) (st' := [.ref 180]) rfl ?_
  refine jv_Ev.m jv_i318 (pc' := 4) (st' := [.int (1 : Int32)]) rfl rfl (jv_m_getI rfl rfl rfl rfl) ?_
  exact jv_Ev.ret jv_i318 rfl rfl

set_option maxRecDepth 100000 in
/-- ProgramBoxModel.used -/
theorem jx_e165 (p0 : Int32) (p1 : Int32) (p2 : Int32) (p3 : Int32) (p4 : Int32) (p5 : Int32) (g1 : ¬ p1.toInt64 < (0 : Int64)) (g2 : ¬ p1 < (0 : Int32)) : jv_Ms 408 [.ref 178, .int p1] (jv_H (jx_K 227) jx_If jx_L0 (jx_R 227)) 228 1572956 (some (.int (0 : Int32)), (jv_H (jx_K 227) (jv_u (jv_u jx_If 180 0 (1 : Int32)) 178 0 (1 : Int32)) jx_L0 (jx_R 227)), 228, 1572956) := by
  show jv_Ev 408 0 [(0, .ref 178), (1, .int p1)] [] (jv_H (jx_K 227) jx_If jx_L0 (jx_R 227)) 228 1572956 _
  refine jv_Ev.steps jv_i408 1 (pc' := 1) (l' := [(0, .ref 178), (1, .int p1)]) (st' := [.ref 178]) rfl ?_
  refine jv_Ev.m jv_i408 (pc' := 4) (st' := [.ref 180]) rfl rfl (jv_m_getR rfl rfl rfl rfl) ?_
  refine jv_Ev.steps jv_i408 1 (pc' := 5) (l' := [(0, .ref 178), (1, .int p1)]) (st' := [.int p1, .ref 180]) rfl ?_
  refine jv_Ev.c jv_i408 (pc' := 8) (S' := [.int (0 : Int32)]) jv_i325 [.ref 180, .int p1] rfl rfl rfl rfl (jv_cal rfl (jv_H_at rfl) rfl rfl) rfl (jx_e163 p0 p1 p2 p3 p4 p5 g1 g2) rfl rfl ?_
  refine jv_Ev.steps jv_i408 3 (pc' := 11) (l' := [(2, .int (0 : Int32)), (0, .ref 178), (1, .int p1)]) (st' := [.ref 178, .ref 178]) rfl ?_
  refine jv_Ev.m jv_i408 (pc' := 14) (st' := [.ref 180, .ref 178]) rfl rfl (jv_m_getR rfl rfl rfl rfl) ?_
  refine jv_Ev.c jv_i408 (pc' := 17) (S' := [.int (1 : Int32), .ref 178]) jv_i318 [.ref 180] rfl rfl rfl rfl (jv_cal rfl (jv_H_at rfl) rfl rfl) rfl (jx_e164 p0 p1 p2 p3 p4 p5 g1 g2) rfl rfl ?_
  refine jv_Ev.m jv_i408 (pc' := 20) (st' := []) rfl rfl (jv_m_putI rfl rfl rfl rfl rfl) ?_
  refine jv_Ev.steps jv_i408 1 (pc' := 21) (l' := [(2, .int (0 : Int32)), (0, .ref 178), (1, .int p1)]) (st' := [.int (0 : Int32)]) rfl ?_
  exact jv_Ev.ret jv_i408 rfl rfl

set_option maxRecDepth 100000 in
/-- ProgramBoxModel.thrown -/
theorem jx_e166 (p0 : Int32) (p1 : Int32) (p2 : Int32) (p3 : Int32) (p4 : Int32) (p5 : Int32) (g1 : ¬ p1.toInt64 < (0 : Int64)) (g2 : ¬ p1 < (0 : Int32)) : jv_Ms 350 [.ref 178] (jv_H (jx_K 227) (jv_u (jv_u jx_If 180 0 (1 : Int32)) 178 0 (1 : Int32)) jx_L0 (jx_R 227)) 228 1572956 (some (.int (1 : Int32)), (jv_H (jx_K 227) (jv_u (jv_u jx_If 180 0 (1 : Int32)) 178 0 (1 : Int32)) jx_L0 (jx_R 227)), 228, 1572956) := by
  show jv_Ev 350 0 [(0, .ref 178)] [] (jv_H (jx_K 227) (jv_u (jv_u jx_If 180 0 (1 : Int32)) 178 0 (1 : Int32)) jx_L0 (jx_R 227)) 228 1572956 _
  refine jv_Ev.steps jv_i350 1 (pc' := 1) (l' := [(0, .ref 178)]) (st' := [.ref 178]) rfl ?_
  refine jv_Ev.m jv_i350 (pc' := 4) (st' := [.int (1 : Int32)]) rfl rfl (jv_m_getI rfl rfl rfl rfl) ?_
  exact jv_Ev.ret jv_i350 rfl rfl

set_option maxRecDepth 100000 in
/-- the law: case 17, one way -/
theorem jx_l31 (p0 : Int32) (p1 : Int32) (p2 : Int32) (p3 : Int32) (p4 : Int32) (p5 : Int32) (g1 : ¬ p1.toInt64 < (0 : Int64)) (g2 : ¬ p1 < (0 : Int32)) (hsw : p0 &&& (31 : Int32) = (17 : Int32)) {p : Program} {l : Launch} {e : Env} {R : Room} {s : State} {m : MethodId} {args : Array Value} {below : List Frame} {meth : Method} {c : Code} {E : jv_Env} {Q : State → Prop} (hTb : jv_TOk jv_Tb) (hT2 : jx_T2Ok) (hl : l.stackTraces = false) (F : jx_F jv_T2 439 E p R s m args meth c) (hZ : jx_Z E s) (hRc : R.cells = 600002) (hRs : R.slots = 7302232) {bb : Nat} {xs : Nat → Int32} (hX : va_X bb 6 xs s E.2.2.2.2) (hbB : bb < E.2.2.2.1) (hE2 : E.1 1000002 = bb) (hQ : ∀ (l0 : jv_L) (G : jv_G) (n sl : Nat), n ≤ 600002 → sl ≤ 7302232 → jw p l e R s m args below meth c E 8 0 0 Q 1532 l0 [.int (1 : Int32)] G n sl) (q0 : xs 0 = p0) (q1 : xs 1 = p1) (q2 : xs 2 = p2) (q3 : xs 3 = p3) (q4 : xs 4 = p4) (q5 : xs 5 = p5) : jw p l e R s m args below meth c E 8 0 0 Q 33 [(0, .ref 1000002), (1, .ref 0), (2, .ref 178), (3, .ref 226), (4, .int (0 : Int32))] [] (jv_H (jx_K 227) jx_If jx_L0 (jx_R 227)) 227 1572950 := by
  refine jw.steps F jx_i439 2 (pc' := 36) (l' := [(0, .ref 1000002), (1, .ref 0), (2, .ref 178), (3, .ref 226), (4, .int (0 : Int32))]) (st' := [.int (0 : Int32), .ref 1000002]) rfl ?_
  refine jw.sld F jx_i439 hX hbB hE2 (pc' := 37) rfl rfl (show vp_in (nI 0) 6 from vp_in_nI (by decide) (by decide)) q0 rfl ?_
  refine jw.steps F jx_i439 2 (pc' := 40) (l' := [(0, .ref 1000002), (1, .ref 0), (2, .ref 178), (3, .ref 226), (4, .int (0 : Int32))]) (st' := [.int (p0 &&& (31 : Int32))]) rfl ?_
  refine jw.br F jx_i439 (pc' := 890) (st' := []) rfl (by rw [hsw]; rfl) ?_
  refine jw.steps F jx_i439 5 (pc' := 896) (l' := [(0, .ref 1000002), (1, .ref 0), (2, .ref 178), (3, .ref 226), (4, .int (0 : Int32))]) (st' := [.int (1 : Int32), .ref 1000002, .ref 0]) rfl ?_
  refine jw.sld F jx_i439 hX hbB hE2 (pc' := 897) rfl rfl (show vp_in (nI 1) 6 from vp_in_nI (by decide) (by decide)) q1 rfl ?_
  refine jw.steps F jx_i439 1 (pc' := 898) (l' := [(0, .ref 1000002), (1, .ref 0), (2, .ref 178), (3, .ref 226), (4, .int (0 : Int32))]) (st' := [.ref 226, .int p1, .ref 0]) rfl ?_
  refine jw.wr F hl hZ rfl jx_i439 jx_i449 [.ref 0, .int p1, .ref 226] (pc' := 901) (S' := [.int (1 : Int32)]) rfl (List.mem_of_getElem? (i := 9) rfl) (List.mem_of_getElem? (i := 9) rfl) rfl rfl rfl (jx_w161 hTb hT2 p0 p1 p2 p3 p4 p5 g1 g2) (by omega) (by omega) (by omega) (by omega) rfl rfl ?_
  refine jw.steps F jx_i439 6 (pc' := 909) (l' := [(5, .int (1 : Int32)), (0, .ref 1000002), (1, .ref 0), (2, .ref 178), (3, .ref 226), (4, .int (0 : Int32))]) (st' := [.int (1 : Int32), .ref 1000002, .ref 178]) rfl ?_
  refine jw.sld F jx_i439 hX hbB hE2 (pc' := 910) rfl rfl (show vp_in (nI 1) 6 from vp_in_nI (by decide) (by decide)) q1 rfl ?_
  refine jw.ca hTb F jx_i439 (pc' := 913) (S' := [.int (0 : Int32)]) rfl jv_i408 [.ref 178, .int p1] rfl rfl rfl rfl (jx_cal2 rfl (jv_H_at rfl) rfl rfl) rfl (jx_e165 p0 p1 p2 p3 p4 p5 g1 g2) (by omega) (by omega) rfl rfl ?_
  refine jw.steps F jx_i439 2 (pc' := 916) (l' := [(6, .int (0 : Int32)), (5, .int (1 : Int32)), (0, .ref 1000002), (1, .ref 0), (2, .ref 178), (3, .ref 226), (4, .int (0 : Int32))]) (st' := [.ref 178]) rfl ?_
  refine jw.ca hTb F jx_i439 (pc' := 919) (S' := [.int (1 : Int32)]) rfl jv_i350 [.ref 178] rfl rfl rfl rfl (jx_cal2 rfl (jv_H_at rfl) rfl rfl) rfl (jx_e166 p0 p1 p2 p3 p4 p5 g1 g2) (by omega) (by omega) rfl rfl ?_
  refine jw.steps F jx_i439 1 (pc' := 921) (l' := [(6, .int (0 : Int32)), (5, .int (1 : Int32)), (0, .ref 1000002), (1, .ref 0), (2, .ref 178), (3, .ref 226), (4, .int (0 : Int32))]) (st' := [.int (1 : Int32), .int (1 : Int32)]) rfl ?_
  refine jw.br F jx_i439 (pc' := 926) (st' := []) rfl (jv_bc_eq.trans (jx_got (by decide))) ?_
  refine jw.steps F jx_i439 1 (pc' := 928) (l' := [(6, .int (0 : Int32)), (5, .int (1 : Int32)), (0, .ref 1000002), (1, .ref 0), (2, .ref 178), (3, .ref 226), (4, .int (0 : Int32))]) (st' := [.int (1 : Int32)]) rfl ?_
  refine jw.br F jx_i439 (pc' := 943) (st' := []) rfl (jv_bi_ne.trans (jx_got (by decide))) ?_
  refine jw.steps F jx_i439 5 (pc' := 26) (l' := [(4, .int (6 : Int32)), (6, .int (0 : Int32)), (5, .int (1 : Int32)), (0, .ref 1000002), (1, .ref 0), (2, .ref 178), (3, .ref 226)]) (st' := [.ref 1000002, .int (6 : Int32)]) rfl ?_
  refine jw.slen F jx_i439 hX hbB hE2 (pc' := 27) rfl rfl rfl ?_
  refine jw.steps F jx_i439 2 (pc' := 30) (l' := [(4, .int (6 : Int32)), (6, .int (0 : Int32)), (5, .int (1 : Int32)), (0, .ref 1000002), (1, .ref 0), (2, .ref 178), (3, .ref 226)]) (st' := [.int (0 : Int32), .int (6 : Int32)]) rfl ?_
  refine jw.br F jx_i439 (pc' := 1531) (st' := []) rfl (jv_bc_gt.trans (jx_got (by decide))) ?_
  refine jw.steps F jx_i439 1 (pc' := 1532) (l' := [(4, .int (6 : Int32)), (6, .int (0 : Int32)), (5, .int (1 : Int32)), (0, .ref 1000002), (1, .ref 0), (2, .ref 178), (3, .ref 226)]) (st' := [.int (1 : Int32)]) rfl ?_
  exact hQ _ _ _ _ (by omega) (by omega)

set_option maxRecDepth 100000 in
/-- the law: case 17 -/
theorem jx_case17 (p0 : Int32) (p1 : Int32) (p2 : Int32) (p3 : Int32) (p4 : Int32) (p5 : Int32) (hsw : p0 &&& (31 : Int32) = (17 : Int32)) {p : Program} {l : Launch} {e : Env} {R : Room} {s : State} {m : MethodId} {args : Array Value} {below : List Frame} {meth : Method} {c : Code} {E : jv_Env} {Q : State → Prop} (hTb : jv_TOk jv_Tb) (hT2 : jx_T2Ok) (hl : l.stackTraces = false) (F : jx_F jv_T2 439 E p R s m args meth c) (hZ : jx_Z E s) (hRc : R.cells = 600002) (hRs : R.slots = 7302232) {bb : Nat} {xs : Nat → Int32} (hX : va_X bb 6 xs s E.2.2.2.2) (hbB : bb < E.2.2.2.1) (hE2 : E.1 1000002 = bb) (hQ : ∀ (l0 : jv_L) (G : jv_G) (n sl : Nat), n ≤ 600002 → sl ≤ 7302232 → jw p l e R s m args below meth c E 8 0 0 Q 1532 l0 [.int (1 : Int32)] G n sl) (q0 : xs 0 = p0) (q1 : xs 1 = p1) (q2 : xs 2 = p2) (q3 : xs 3 = p3) (q4 : xs 4 = p4) (q5 : xs 5 = p5) : jw p l e R s m args below meth c E 8 0 0 Q 33 [(0, .ref 1000002), (1, .ref 0), (2, .ref 178), (3, .ref 226), (4, .int (0 : Int32))] [] (jv_H (jx_K 227) jx_If jx_L0 (jx_R 227)) 227 1572950 := by
  by_cases g1 : p1.toInt64 < (0 : Int64)
  · by_cases g2 : p1 < (0 : Int32)
    · exact jx_l28 p0 p1 p2 p3 p4 p5 g1 g2 hsw hTb hT2 hl F hZ hRc hRs hX hbB hE2 hQ q0 q1 q2 q3 q4 q5
    · exact jx_l29 p0 p1 p2 p3 p4 p5 g1 g2 hsw hTb hT2 hl F hZ hRc hRs hX hbB hE2 hQ q0 q1 q2 q3 q4 q5
  · by_cases g2 : p1 < (0 : Int32)
    · exact jx_l30 p0 p1 p2 p3 p4 p5 g1 g2 hsw hTb hT2 hl F hZ hRc hRs hX hbB hE2 hQ q0 q1 q2 q3 q4 q5
    · exact jx_l31 p0 p1 p2 p3 p4 p5 g1 g2 hsw hTb hT2 hl F hZ hRc hRs hX hbB hE2 hQ q0 q1 q2 q3 q4 q5

set_option maxRecDepth 100000 in
theorem jx_i450 : jx_I jv_T2 450 5 (some .int) 8 135 jv_c450 := ⟨rfl, rfl, rfl, rfl, rfl⟩
set_option maxRecDepth 100000 in
theorem jv_i431 : jv_I 431 4 none 7 112 jv_c431 := ⟨rfl, rfl, rfl, rfl, rfl⟩
set_option maxRecDepth 100000 in
theorem jv_i430 : jv_I 430 3 none 6 90 jv_c430 := ⟨rfl, rfl, rfl, rfl, rfl⟩
set_option maxRecDepth 100000 in
/-- ProgramBox.testPart: it throws -/
theorem jx_e167 (hTb : jv_TOk jv_Tb) (p0 : Int32) (p1 : Int32) (p2 : Int32) (p3 : Int32) (p4 : Int32) (p5 : Int32) (g1 : p1 < (0 : Int32)) : jx_Th 430 [.int p1, .int (8 : Int32), .int (512 : Int32)] (jv_H (jx_K 227) jx_If jx_L0 (jx_R 227)) 227 1572950 2 (jv_H (jx_K 227) jx_If jx_L0 (jx_R 227)) 228 1572956 := by
  refine jx_Th.of hTb (y := 430) rfl (Nat.le_of_ble_eq_true rfl) ?_
  intro p l e R s m args below meth c E hl F hZ h0 ht hRc hRs
  show jw p l e R s m args below meth c E 3 227 1572950 _ 0 [(0, .int p1), (1, .int (8 : Int32)), (2, .int (512 : Int32))] [] (jv_H (jx_K 227) jx_If jx_L0 (jx_R 227)) 227 1572950
  refine jw.steps F jv_i430 1 (pc' := 1) (l' := [(0, .int p1), (1, .int (8 : Int32)), (2, .int (512 : Int32))]) (st' := [.int p1]) rfl ?_
  refine jw.br F jv_i430 (pc' := 11) (st' := []) rfl (jv_bi_lt.trans (jx_got g1)) ?_
  exact jw.throw hl F hZ h0 rfl jv_i430 ht 2 185 "there is no such byte" (List.mem_of_getElem? (i := 12) rfl) (by decide +kernel) (by decide +kernel) (by decide +kernel) (by decide +kernel) (by decide +kernel) rfl (by decide) (by decide) (by decide) (by omega) (by omega)

set_option maxRecDepth 100000 in
/-- ProgramBox.lay: it throws -/
theorem jx_e168 (hTb : jv_TOk jv_Tb) (p0 : Int32) (p1 : Int32) (p2 : Int32) (p3 : Int32) (p4 : Int32) (p5 : Int32) (g1 : p1 < (0 : Int32)) : jx_Th 431 [.ref 0, .int p1, .long ((p2.toInt64 <<< ((32 : Int32).toInt64 &&& 63)) ||| (p3.toInt64 &&& (4294967295 : Int64)))] (jv_H (jx_K 227) jx_If jx_L0 (jx_R 227)) 227 1572950 2 (jv_H (jx_K 227) jx_If jx_L0 (jx_R 227)) 228 1572956 := by
  refine jx_Th.of hTb (y := 431) rfl (Nat.le_of_ble_eq_true rfl) ?_
  intro p l e R s m args below meth c E hl F hZ h0 ht hRc hRs
  show jw p l e R s m args below meth c E 4 227 1572950 _ 0 [(0, .ref 0), (1, .int p1), (2, .long ((p2.toInt64 <<< ((32 : Int32).toInt64 &&& 63)) ||| (p3.toInt64 &&& (4294967295 : Int64))))] [] (jv_H (jx_K 227) jx_If jx_L0 (jx_R 227)) 227 1572950
  refine jw.steps F jv_i431 3 (pc' := 6) (l' := [(0, .ref 0), (1, .int p1), (2, .long ((p2.toInt64 <<< ((32 : Int32).toInt64 &&& 63)) ||| (p3.toInt64 &&& (4294967295 : Int64))))]) (st' := [.int (512 : Int32), .int (8 : Int32), .int p1]) rfl ?_
  exact jw.prop hTb hl F hZ jv_i431 ht rfl jv_i430 [.int p1, .int (8 : Int32), .int (512 : Int32)] rfl rfl rfl rfl rfl rfl rfl (jx_e167 hTb p0 p1 p2 p3 p4 p5 g1) (by omega) (by omega) (by omega) (by omega)

set_option maxRecDepth 100000 in
/-- the law's lay -/
theorem jx_w169 (hTb : jv_TOk jv_Tb) (hT2 : jx_T2Ok) (p0 : Int32) (p1 : Int32) (p2 : Int32) (p3 : Int32) (p4 : Int32) (p5 : Int32) (g1 : p1 < (0 : Int32)) : jx_Wr 450 [(0, 6, 9, 36)] [.ref 0, .int p1, .long ((p2.toInt64 <<< ((32 : Int32).toInt64 &&& 63)) ||| (p3.toInt64 &&& (4294967295 : Int64)))] (jv_H (jx_K 227) jx_If jx_L0 (jx_R 227)) 227 1572950 (some (.int (1 : Int32)), (jv_H (jx_K 227) jx_If jx_L0 (jx_R 227)), 228, 1572956) := by
  refine jx_Wr.of hT2 (by decide) rfl (Nat.le_of_ble_eq_true rfl) ?_
  intro p l e R s m args below meth c E hl F hZ htb hRc hRs
  show jw p l e R s m args below meth c E 5 227 1572950 _ 0 [(0, .ref 0), (1, .int p1), (2, .long ((p2.toInt64 <<< ((32 : Int32).toInt64 &&& 63)) ||| (p3.toInt64 &&& (4294967295 : Int64))))] [] (jv_H (jx_K 227) jx_If jx_L0 (jx_R 227)) 227 1572950
  have hRc : R.cells = 228 - 227 := hRc
  have hRs : R.slots = 1572956 - 1572950 := hRs
  refine jw.steps F jx_i450 3 (pc' := 3) (l' := [(0, .ref 0), (1, .int p1), (2, .long ((p2.toInt64 <<< ((32 : Int32).toInt64 &&& 63)) ||| (p3.toInt64 &&& (4294967295 : Int64))))]) (st' := [.long ((p2.toInt64 <<< ((32 : Int32).toInt64 &&& 63)) ||| (p3.toInt64 &&& (4294967295 : Int64))), .int p1, .ref 0]) rfl ?_
  refine jw.cat hTb hl F hZ rfl jx_i450 htb rfl jv_i431 [.ref 0, .int p1, .long ((p2.toInt64 <<< ((32 : Int32).toInt64 &&& 63)) ||| (p3.toInt64 &&& (4294967295 : Int64)))] rfl rfl rfl rfl rfl (jx_cal2 rfl (jv_H_at rfl) rfl rfl) rfl (jx_e168 hTb p0 p1 p2 p3 p4 p5 g1) (by omega) (by omega) (by omega) (by omega) [] (0, 6, 9, 36) [] rfl (fun z h => absurd h List.not_mem_nil) (by decide) rfl rfl (Or.inl ⟨rfl, rfl⟩) (by decide) ?_
  refine jw.steps F jx_i450 1 (pc' := 12) (l' := []) (st' := [.int (1 : Int32)]) rfl ?_
  exact jw.ret F jx_i450 rfl rfl

set_option maxRecDepth 100000 in
theorem jv_i409 : jv_I 409 4 none 2 48 jv_c409 := ⟨rfl, rfl, rfl, rfl, rfl⟩
set_option maxRecDepth 100000 in
theorem jv_i330 : jv_I 330 4 none 1 25 jv_c330 := ⟨rfl, rfl, rfl, rfl, rfl⟩
set_option maxRecDepth 100000 in
theorem jv_i326 : jv_I 326 2 (some .boolean) 0 0 jv_c326 := ⟨rfl, rfl, rfl, rfl, rfl⟩
set_option maxRecDepth 100000 in
/-- ProgramBoxModel$Store.isDesk -/
theorem jx_e170 (p0 : Int32) (p1 : Int32) (p2 : Int32) (p3 : Int32) (p4 : Int32) (p5 : Int32) (g1 : p1 < (0 : Int32)) : jv_Ms 326 [.int p1, .int (8 : Int32)] (jv_H (jx_K 227) jx_If jx_L0 (jx_R 227)) 228 1572956 (some (.int (0 : Int32)), (jv_H (jx_K 227) jx_If jx_L0 (jx_R 227)), 228, 1572956) := by
  show jv_Ev 326 0 [(0, .int p1), (1, .int (8 : Int32))] [] (jv_H (jx_K 227) jx_If jx_L0 (jx_R 227)) 228 1572956 _
  refine jv_Ev.steps jv_i326 1 (pc' := 1) (l' := [(0, .int p1), (1, .int (8 : Int32))]) (st' := [.int p1]) rfl ?_
  refine jv_Ev.br jv_i326 (pc' := 17) (st' := []) rfl (jv_bi_lt.trans (jx_got g1)) ?_
  refine jv_Ev.steps jv_i326 1 (pc' := 18) (l' := [(0, .int p1), (1, .int (8 : Int32))]) (st' := [.int (0 : Int32)]) rfl ?_
  exact jv_Ev.ret jv_i326 rfl (jv_ret_b (by decide))

set_option maxRecDepth 100000 in
/-- ProgramBoxModel$Store.lay -/
theorem jx_e171 (p0 : Int32) (p1 : Int32) (p2 : Int32) (p3 : Int32) (p4 : Int32) (p5 : Int32) (g1 : p1 < (0 : Int32)) : jv_Ms 330 [.ref 180, .int p1, .long ((p2.toInt64 <<< ((32 : Int32).toInt64 &&& 63)) ||| (p3.toInt64 &&& (4294967295 : Int64)))] (jv_H (jx_K 227) jx_If jx_L0 (jx_R 227)) 228 1572956 (none, (jv_H (jx_K 227) (jv_u jx_If 180 0 (1 : Int32)) jx_L0 (jx_R 227)), 228, 1572956) := by
  show jv_Ev 330 0 [(0, .ref 180), (1, .int p1), (2, .long ((p2.toInt64 <<< ((32 : Int32).toInt64 &&& 63)) ||| (p3.toInt64 &&& (4294967295 : Int64))))] [] (jv_H (jx_K 227) jx_If jx_L0 (jx_R 227)) 228 1572956 _
  refine jv_Ev.steps jv_i330 3 (pc' := 4) (l' := [(0, .ref 180), (1, .int p1), (2, .long ((p2.toInt64 <<< ((32 : Int32).toInt64 &&& 63)) ||| (p3.toInt64 &&& (4294967295 : Int64))))]) (st' := [.int (8 : Int32), .int p1, .ref 180]) rfl ?_
  refine jv_Ev.c jv_i330 (pc' := 7) (S' := [.int (0 : Int32), .ref 180]) jv_i326 [.int p1, .int (8 : Int32)] rfl rfl rfl rfl rfl rfl (jx_e170 p0 p1 p2 p3 p4 p5 g1) rfl rfl ?_
  refine jv_Ev.br jv_i330 (pc' := 14) (st' := [.ref 180]) rfl (jv_bi_eq.trans (jx_got (by decide))) ?_
  refine jv_Ev.steps jv_i330 1 (pc' := 15) (l' := [(0, .ref 180), (1, .int p1), (2, .long ((p2.toInt64 <<< ((32 : Int32).toInt64 &&& 63)) ||| (p3.toInt64 &&& (4294967295 : Int64))))]) (st' := [.int (1 : Int32), .ref 180]) rfl ?_
  refine jv_Ev.m jv_i330 (pc' := 18) (st' := []) rfl rfl (jv_m_putI rfl rfl rfl rfl rfl) ?_
  refine jv_Ev.steps jv_i330 1 (pc' := 19) (l' := [(0, .ref 180), (1, .int p1), (2, .long ((p2.toInt64 <<< ((32 : Int32).toInt64 &&& 63)) ||| (p3.toInt64 &&& (4294967295 : Int64))))]) (st' := [.ref 180]) rfl ?_
  refine jv_Ev.m jv_i330 (pc' := 22) (st' := [.int (1 : Int32)]) rfl rfl (jv_m_getI rfl rfl rfl rfl) ?_
  refine jv_Ev.br jv_i330 (pc' := 36) (st' := []) rfl (jv_bi_ne.trans (jx_got (by decide))) ?_
  exact jv_Ev.ret jv_i330 rfl rfl

set_option maxRecDepth 100000 in
/-- ProgramBoxModel$Store.thrown -/
theorem jx_e172 (p0 : Int32) (p1 : Int32) (p2 : Int32) (p3 : Int32) (p4 : Int32) (p5 : Int32) (g1 : p1 < (0 : Int32)) : jv_Ms 318 [.ref 180] (jv_H (jx_K 227) (jv_u jx_If 180 0 (1 : Int32)) jx_L0 (jx_R 227)) 228 1572956 (some (.int (1 : Int32)), (jv_H (jx_K 227) (jv_u jx_If 180 0 (1 : Int32)) jx_L0 (jx_R 227)), 228, 1572956) := by
  show jv_Ev 318 0 [(0, .ref 180)] [] (jv_H (jx_K 227) (jv_u jx_If 180 0 (1 : Int32)) jx_L0 (jx_R 227)) 228 1572956 _
  refine jv_Ev.steps jv_i318 1 (pc' := 1) (l' := [(0, .ref 180)]) (st' := [.ref 180]) rfl ?_
  refine jv_Ev.m jv_i318 (pc' := 4) (st' := [.int (1 : Int32)]) rfl rfl (jv_m_getI rfl rfl rfl rfl) ?_
  exact jv_Ev.ret jv_i318 rfl rfl

set_option maxRecDepth 100000 in
/-- ProgramBoxModel.lay -/
theorem jx_e173 (p0 : Int32) (p1 : Int32) (p2 : Int32) (p3 : Int32) (p4 : Int32) (p5 : Int32) (g1 : p1 < (0 : Int32)) : jv_Ms 409 [.ref 178, .int p1, .long ((p2.toInt64 <<< ((32 : Int32).toInt64 &&& 63)) ||| (p3.toInt64 &&& (4294967295 : Int64)))] (jv_H (jx_K 227) jx_If jx_L0 (jx_R 227)) 228 1572956 (none, (jv_H (jx_K 227) (jv_u (jv_u jx_If 180 0 (1 : Int32)) 178 0 (1 : Int32)) jx_L0 (jx_R 227)), 228, 1572956) := by
  show jv_Ev 409 0 [(0, .ref 178), (1, .int p1), (2, .long ((p2.toInt64 <<< ((32 : Int32).toInt64 &&& 63)) ||| (p3.toInt64 &&& (4294967295 : Int64))))] [] (jv_H (jx_K 227) jx_If jx_L0 (jx_R 227)) 228 1572956 _
  refine jv_Ev.steps jv_i409 1 (pc' := 1) (l' := [(0, .ref 178), (1, .int p1), (2, .long ((p2.toInt64 <<< ((32 : Int32).toInt64 &&& 63)) ||| (p3.toInt64 &&& (4294967295 : Int64))))]) (st' := [.ref 178]) rfl ?_
  refine jv_Ev.m jv_i409 (pc' := 4) (st' := [.ref 180]) rfl rfl (jv_m_getR rfl rfl rfl rfl) ?_
  refine jv_Ev.steps jv_i409 2 (pc' := 6) (l' := [(0, .ref 178), (1, .int p1), (2, .long ((p2.toInt64 <<< ((32 : Int32).toInt64 &&& 63)) ||| (p3.toInt64 &&& (4294967295 : Int64))))]) (st' := [.long ((p2.toInt64 <<< ((32 : Int32).toInt64 &&& 63)) ||| (p3.toInt64 &&& (4294967295 : Int64))), .int p1, .ref 180]) rfl ?_
  refine jv_Ev.c jv_i409 (pc' := 9) (S' := []) jv_i330 [.ref 180, .int p1, .long ((p2.toInt64 <<< ((32 : Int32).toInt64 &&& 63)) ||| (p3.toInt64 &&& (4294967295 : Int64)))] rfl rfl rfl rfl (jv_cal rfl (jv_H_at rfl) rfl rfl) rfl (jx_e171 p0 p1 p2 p3 p4 p5 g1) rfl rfl ?_
  refine jv_Ev.steps jv_i409 2 (pc' := 11) (l' := [(0, .ref 178), (1, .int p1), (2, .long ((p2.toInt64 <<< ((32 : Int32).toInt64 &&& 63)) ||| (p3.toInt64 &&& (4294967295 : Int64))))]) (st' := [.ref 178, .ref 178]) rfl ?_
  refine jv_Ev.m jv_i409 (pc' := 14) (st' := [.ref 180, .ref 178]) rfl rfl (jv_m_getR rfl rfl rfl rfl) ?_
  refine jv_Ev.c jv_i409 (pc' := 17) (S' := [.int (1 : Int32), .ref 178]) jv_i318 [.ref 180] rfl rfl rfl rfl (jv_cal rfl (jv_H_at rfl) rfl rfl) rfl (jx_e172 p0 p1 p2 p3 p4 p5 g1) rfl rfl ?_
  refine jv_Ev.m jv_i409 (pc' := 20) (st' := []) rfl rfl (jv_m_putI rfl rfl rfl rfl rfl) ?_
  exact jv_Ev.ret jv_i409 rfl rfl

set_option maxRecDepth 100000 in
/-- ProgramBoxModel.thrown -/
theorem jx_e174 (p0 : Int32) (p1 : Int32) (p2 : Int32) (p3 : Int32) (p4 : Int32) (p5 : Int32) (g1 : p1 < (0 : Int32)) : jv_Ms 350 [.ref 178] (jv_H (jx_K 227) (jv_u (jv_u jx_If 180 0 (1 : Int32)) 178 0 (1 : Int32)) jx_L0 (jx_R 227)) 228 1572956 (some (.int (1 : Int32)), (jv_H (jx_K 227) (jv_u (jv_u jx_If 180 0 (1 : Int32)) 178 0 (1 : Int32)) jx_L0 (jx_R 227)), 228, 1572956) := by
  show jv_Ev 350 0 [(0, .ref 178)] [] (jv_H (jx_K 227) (jv_u (jv_u jx_If 180 0 (1 : Int32)) 178 0 (1 : Int32)) jx_L0 (jx_R 227)) 228 1572956 _
  refine jv_Ev.steps jv_i350 1 (pc' := 1) (l' := [(0, .ref 178)]) (st' := [.ref 178]) rfl ?_
  refine jv_Ev.m jv_i350 (pc' := 4) (st' := [.int (1 : Int32)]) rfl rfl (jv_m_getI rfl rfl rfl rfl) ?_
  exact jv_Ev.ret jv_i350 rfl rfl

set_option maxRecDepth 100000 in
/-- the law: case 18, one way -/
theorem jx_l32 (p0 : Int32) (p1 : Int32) (p2 : Int32) (p3 : Int32) (p4 : Int32) (p5 : Int32) (g1 : p1 < (0 : Int32)) (hsw : p0 &&& (31 : Int32) = (18 : Int32)) {p : Program} {l : Launch} {e : Env} {R : Room} {s : State} {m : MethodId} {args : Array Value} {below : List Frame} {meth : Method} {c : Code} {E : jv_Env} {Q : State → Prop} (hTb : jv_TOk jv_Tb) (hT2 : jx_T2Ok) (hl : l.stackTraces = false) (F : jx_F jv_T2 439 E p R s m args meth c) (hZ : jx_Z E s) (hRc : R.cells = 600002) (hRs : R.slots = 7302232) {bb : Nat} {xs : Nat → Int32} (hX : va_X bb 6 xs s E.2.2.2.2) (hbB : bb < E.2.2.2.1) (hE2 : E.1 1000002 = bb) (hQ : ∀ (l0 : jv_L) (G : jv_G) (n sl : Nat), n ≤ 600002 → sl ≤ 7302232 → jw p l e R s m args below meth c E 8 0 0 Q 1532 l0 [.int (1 : Int32)] G n sl) (q0 : xs 0 = p0) (q1 : xs 1 = p1) (q2 : xs 2 = p2) (q3 : xs 3 = p3) (q4 : xs 4 = p4) (q5 : xs 5 = p5) : jw p l e R s m args below meth c E 8 0 0 Q 33 [(0, .ref 1000002), (1, .ref 0), (2, .ref 178), (3, .ref 226), (4, .int (0 : Int32))] [] (jv_H (jx_K 227) jx_If jx_L0 (jx_R 227)) 227 1572950 := by
  refine jw.steps F jx_i439 2 (pc' := 36) (l' := [(0, .ref 1000002), (1, .ref 0), (2, .ref 178), (3, .ref 226), (4, .int (0 : Int32))]) (st' := [.int (0 : Int32), .ref 1000002]) rfl ?_
  refine jw.sld F jx_i439 hX hbB hE2 (pc' := 37) rfl rfl (show vp_in (nI 0) 6 from vp_in_nI (by decide) (by decide)) q0 rfl ?_
  refine jw.steps F jx_i439 2 (pc' := 40) (l' := [(0, .ref 1000002), (1, .ref 0), (2, .ref 178), (3, .ref 226), (4, .int (0 : Int32))]) (st' := [.int (p0 &&& (31 : Int32))]) rfl ?_
  refine jw.br F jx_i439 (pc' := 946) (st' := []) rfl (by rw [hsw]; rfl) ?_
  refine jw.steps F jx_i439 5 (pc' := 952) (l' := [(0, .ref 1000002), (1, .ref 0), (2, .ref 178), (3, .ref 226), (4, .int (0 : Int32))]) (st' := [.int (1 : Int32), .ref 1000002, .ref 0]) rfl ?_
  refine jw.sld F jx_i439 hX hbB hE2 (pc' := 953) rfl rfl (show vp_in (nI 1) 6 from vp_in_nI (by decide) (by decide)) q1 rfl ?_
  refine jw.steps F jx_i439 4 (pc' := 958) (l' := [(0, .ref 1000002), (1, .ref 0), (2, .ref 178), (3, .ref 226), (4, .int (0 : Int32))]) (st' := [.int (2 : Int32), .ref 1000002, .int p1, .ref 0]) rfl ?_
  refine jw.sld F jx_i439 hX hbB hE2 (pc' := 959) rfl rfl (show vp_in (nI 2) 6 from vp_in_nI (by decide) (by decide)) q2 rfl ?_
  refine jw.steps F jx_i439 7 (pc' := 968) (l' := [(0, .ref 1000002), (1, .ref 0), (2, .ref 178), (3, .ref 226), (4, .int (0 : Int32))]) (st' := [.int (3 : Int32), .ref 1000002, .long (p2.toInt64 <<< ((32 : Int32).toInt64 &&& 63)), .int p1, .ref 0]) rfl ?_
  refine jw.sld F jx_i439 hX hbB hE2 (pc' := 969) rfl rfl (show vp_in (nI 3) 6 from vp_in_nI (by decide) (by decide)) q3 rfl ?_
  refine jw.steps F jx_i439 4 (pc' := 975) (l' := [(0, .ref 1000002), (1, .ref 0), (2, .ref 178), (3, .ref 226), (4, .int (0 : Int32))]) (st' := [.long ((p2.toInt64 <<< ((32 : Int32).toInt64 &&& 63)) ||| (p3.toInt64 &&& (4294967295 : Int64))), .int p1, .ref 0]) rfl ?_
  refine jw.wr F hl hZ rfl jx_i439 jx_i450 [.ref 0, .int p1, .long ((p2.toInt64 <<< ((32 : Int32).toInt64 &&& 63)) ||| (p3.toInt64 &&& (4294967295 : Int64)))] (pc' := 978) (S' := [.int (1 : Int32)]) rfl (List.mem_of_getElem? (i := 10) rfl) (List.mem_of_getElem? (i := 10) rfl) rfl rfl rfl (jx_w169 hTb hT2 p0 p1 p2 p3 p4 p5 g1) (by omega) (by omega) (by omega) (by omega) rfl rfl ?_
  refine jw.steps F jx_i439 6 (pc' := 986) (l' := [(5, .int (1 : Int32)), (0, .ref 1000002), (1, .ref 0), (2, .ref 178), (3, .ref 226), (4, .int (0 : Int32))]) (st' := [.int (1 : Int32), .ref 1000002, .ref 178]) rfl ?_
  refine jw.sld F jx_i439 hX hbB hE2 (pc' := 987) rfl rfl (show vp_in (nI 1) 6 from vp_in_nI (by decide) (by decide)) q1 rfl ?_
  refine jw.steps F jx_i439 4 (pc' := 992) (l' := [(5, .int (1 : Int32)), (0, .ref 1000002), (1, .ref 0), (2, .ref 178), (3, .ref 226), (4, .int (0 : Int32))]) (st' := [.int (2 : Int32), .ref 1000002, .int p1, .ref 178]) rfl ?_
  refine jw.sld F jx_i439 hX hbB hE2 (pc' := 993) rfl rfl (show vp_in (nI 2) 6 from vp_in_nI (by decide) (by decide)) q2 rfl ?_
  refine jw.steps F jx_i439 7 (pc' := 1002) (l' := [(5, .int (1 : Int32)), (0, .ref 1000002), (1, .ref 0), (2, .ref 178), (3, .ref 226), (4, .int (0 : Int32))]) (st' := [.int (3 : Int32), .ref 1000002, .long (p2.toInt64 <<< ((32 : Int32).toInt64 &&& 63)), .int p1, .ref 178]) rfl ?_
  refine jw.sld F jx_i439 hX hbB hE2 (pc' := 1003) rfl rfl (show vp_in (nI 3) 6 from vp_in_nI (by decide) (by decide)) q3 rfl ?_
  refine jw.steps F jx_i439 4 (pc' := 1009) (l' := [(5, .int (1 : Int32)), (0, .ref 1000002), (1, .ref 0), (2, .ref 178), (3, .ref 226), (4, .int (0 : Int32))]) (st' := [.long ((p2.toInt64 <<< ((32 : Int32).toInt64 &&& 63)) ||| (p3.toInt64 &&& (4294967295 : Int64))), .int p1, .ref 178]) rfl ?_
  refine jw.ca hTb F jx_i439 (pc' := 1012) (S' := []) rfl jv_i409 [.ref 178, .int p1, .long ((p2.toInt64 <<< ((32 : Int32).toInt64 &&& 63)) ||| (p3.toInt64 &&& (4294967295 : Int64)))] rfl rfl rfl rfl (jx_cal2 rfl (jv_H_at rfl) rfl rfl) rfl (jx_e173 p0 p1 p2 p3 p4 p5 g1) (by omega) (by omega) rfl rfl ?_
  refine jw.steps F jx_i439 1 (pc' := 1013) (l' := [(5, .int (1 : Int32)), (0, .ref 1000002), (1, .ref 0), (2, .ref 178), (3, .ref 226), (4, .int (0 : Int32))]) (st' := [.ref 178]) rfl ?_
  refine jw.ca hTb F jx_i439 (pc' := 1016) (S' := [.int (1 : Int32)]) rfl jv_i350 [.ref 178] rfl rfl rfl rfl (jx_cal2 rfl (jv_H_at rfl) rfl rfl) rfl (jx_e174 p0 p1 p2 p3 p4 p5 g1) (by omega) (by omega) rfl rfl ?_
  refine jw.steps F jx_i439 1 (pc' := 1018) (l' := [(5, .int (1 : Int32)), (0, .ref 1000002), (1, .ref 0), (2, .ref 178), (3, .ref 226), (4, .int (0 : Int32))]) (st' := [.int (1 : Int32), .int (1 : Int32)]) rfl ?_
  refine jw.br F jx_i439 (pc' := 1023) (st' := []) rfl (jv_bc_eq.trans (jx_got (by decide))) ?_
  refine jw.steps F jx_i439 5 (pc' := 26) (l' := [(4, .int (6 : Int32)), (5, .int (1 : Int32)), (0, .ref 1000002), (1, .ref 0), (2, .ref 178), (3, .ref 226)]) (st' := [.ref 1000002, .int (6 : Int32)]) rfl ?_
  refine jw.slen F jx_i439 hX hbB hE2 (pc' := 27) rfl rfl rfl ?_
  refine jw.steps F jx_i439 2 (pc' := 30) (l' := [(4, .int (6 : Int32)), (5, .int (1 : Int32)), (0, .ref 1000002), (1, .ref 0), (2, .ref 178), (3, .ref 226)]) (st' := [.int (0 : Int32), .int (6 : Int32)]) rfl ?_
  refine jw.br F jx_i439 (pc' := 1531) (st' := []) rfl (jv_bc_gt.trans (jx_got (by decide))) ?_
  refine jw.steps F jx_i439 1 (pc' := 1532) (l' := [(4, .int (6 : Int32)), (5, .int (1 : Int32)), (0, .ref 1000002), (1, .ref 0), (2, .ref 178), (3, .ref 226)]) (st' := [.int (1 : Int32)]) rfl ?_
  exact hQ _ _ _ _ (by omega) (by omega)

set_option maxRecDepth 100000 in
/-- ProgramBox.testPart: it throws -/
theorem jx_e175 (hTb : jv_TOk jv_Tb) (p0 : Int32) (p1 : Int32) (p2 : Int32) (p3 : Int32) (p4 : Int32) (p5 : Int32) (g1 : ¬ p1 < (0 : Int32)) (g2 : (504 : Int32) < p1) : jx_Th 430 [.int p1, .int (8 : Int32), .int (512 : Int32)] (jv_H (jx_K 227) jx_If jx_L0 (jx_R 227)) 227 1572950 2 (jv_H (jx_K 227) jx_If jx_L0 (jx_R 227)) 228 1572956 := by
  refine jx_Th.of hTb (y := 430) rfl (Nat.le_of_ble_eq_true rfl) ?_
  intro p l e R s m args below meth c E hl F hZ h0 ht hRc hRs
  show jw p l e R s m args below meth c E 3 227 1572950 _ 0 [(0, .int p1), (1, .int (8 : Int32)), (2, .int (512 : Int32))] [] (jv_H (jx_K 227) jx_If jx_L0 (jx_R 227)) 227 1572950
  refine jw.steps F jv_i430 1 (pc' := 1) (l' := [(0, .int p1), (1, .int (8 : Int32)), (2, .int (512 : Int32))]) (st' := [.int p1]) rfl ?_
  refine jw.br F jv_i430 (pc' := 4) (st' := []) rfl (jv_bi_lt.trans (jx_gof g1)) ?_
  refine jw.steps F jv_i430 4 (pc' := 8) (l' := [(0, .int p1), (1, .int (8 : Int32)), (2, .int (512 : Int32))]) (st' := [.int (504 : Int32), .int p1]) rfl ?_
  refine jw.br F jv_i430 (pc' := 11) (st' := []) rfl (jv_bc_le.trans (jx_gof (Int32.not_le.mpr g2))) ?_
  exact jw.throw hl F hZ h0 rfl jv_i430 ht 2 185 "there is no such byte" (List.mem_of_getElem? (i := 12) rfl) (by decide +kernel) (by decide +kernel) (by decide +kernel) (by decide +kernel) (by decide +kernel) rfl (by decide) (by decide) (by decide) (by omega) (by omega)

set_option maxRecDepth 100000 in
/-- ProgramBox.lay: it throws -/
theorem jx_e176 (hTb : jv_TOk jv_Tb) (p0 : Int32) (p1 : Int32) (p2 : Int32) (p3 : Int32) (p4 : Int32) (p5 : Int32) (g1 : ¬ p1 < (0 : Int32)) (g2 : (504 : Int32) < p1) : jx_Th 431 [.ref 0, .int p1, .long ((p2.toInt64 <<< ((32 : Int32).toInt64 &&& 63)) ||| (p3.toInt64 &&& (4294967295 : Int64)))] (jv_H (jx_K 227) jx_If jx_L0 (jx_R 227)) 227 1572950 2 (jv_H (jx_K 227) jx_If jx_L0 (jx_R 227)) 228 1572956 := by
  refine jx_Th.of hTb (y := 431) rfl (Nat.le_of_ble_eq_true rfl) ?_
  intro p l e R s m args below meth c E hl F hZ h0 ht hRc hRs
  show jw p l e R s m args below meth c E 4 227 1572950 _ 0 [(0, .ref 0), (1, .int p1), (2, .long ((p2.toInt64 <<< ((32 : Int32).toInt64 &&& 63)) ||| (p3.toInt64 &&& (4294967295 : Int64))))] [] (jv_H (jx_K 227) jx_If jx_L0 (jx_R 227)) 227 1572950
  refine jw.steps F jv_i431 3 (pc' := 6) (l' := [(0, .ref 0), (1, .int p1), (2, .long ((p2.toInt64 <<< ((32 : Int32).toInt64 &&& 63)) ||| (p3.toInt64 &&& (4294967295 : Int64))))]) (st' := [.int (512 : Int32), .int (8 : Int32), .int p1]) rfl ?_
  exact jw.prop hTb hl F hZ jv_i431 ht rfl jv_i430 [.int p1, .int (8 : Int32), .int (512 : Int32)] rfl rfl rfl rfl rfl rfl rfl (jx_e175 hTb p0 p1 p2 p3 p4 p5 g1 g2) (by omega) (by omega) (by omega) (by omega)

set_option maxRecDepth 100000 in
/-- the law's lay -/
theorem jx_w177 (hTb : jv_TOk jv_Tb) (hT2 : jx_T2Ok) (p0 : Int32) (p1 : Int32) (p2 : Int32) (p3 : Int32) (p4 : Int32) (p5 : Int32) (g1 : ¬ p1 < (0 : Int32)) (g2 : (504 : Int32) < p1) : jx_Wr 450 [(0, 6, 9, 36)] [.ref 0, .int p1, .long ((p2.toInt64 <<< ((32 : Int32).toInt64 &&& 63)) ||| (p3.toInt64 &&& (4294967295 : Int64)))] (jv_H (jx_K 227) jx_If jx_L0 (jx_R 227)) 227 1572950 (some (.int (1 : Int32)), (jv_H (jx_K 227) jx_If jx_L0 (jx_R 227)), 228, 1572956) := by
  refine jx_Wr.of hT2 (by decide) rfl (Nat.le_of_ble_eq_true rfl) ?_
  intro p l e R s m args below meth c E hl F hZ htb hRc hRs
  show jw p l e R s m args below meth c E 5 227 1572950 _ 0 [(0, .ref 0), (1, .int p1), (2, .long ((p2.toInt64 <<< ((32 : Int32).toInt64 &&& 63)) ||| (p3.toInt64 &&& (4294967295 : Int64))))] [] (jv_H (jx_K 227) jx_If jx_L0 (jx_R 227)) 227 1572950
  have hRc : R.cells = 228 - 227 := hRc
  have hRs : R.slots = 1572956 - 1572950 := hRs
  refine jw.steps F jx_i450 3 (pc' := 3) (l' := [(0, .ref 0), (1, .int p1), (2, .long ((p2.toInt64 <<< ((32 : Int32).toInt64 &&& 63)) ||| (p3.toInt64 &&& (4294967295 : Int64))))]) (st' := [.long ((p2.toInt64 <<< ((32 : Int32).toInt64 &&& 63)) ||| (p3.toInt64 &&& (4294967295 : Int64))), .int p1, .ref 0]) rfl ?_
  refine jw.cat hTb hl F hZ rfl jx_i450 htb rfl jv_i431 [.ref 0, .int p1, .long ((p2.toInt64 <<< ((32 : Int32).toInt64 &&& 63)) ||| (p3.toInt64 &&& (4294967295 : Int64)))] rfl rfl rfl rfl rfl (jx_cal2 rfl (jv_H_at rfl) rfl rfl) rfl (jx_e176 hTb p0 p1 p2 p3 p4 p5 g1 g2) (by omega) (by omega) (by omega) (by omega) [] (0, 6, 9, 36) [] rfl (fun z h => absurd h List.not_mem_nil) (by decide) rfl rfl (Or.inl ⟨rfl, rfl⟩) (by decide) ?_
  refine jw.steps F jx_i450 1 (pc' := 12) (l' := []) (st' := [.int (1 : Int32)]) rfl ?_
  exact jw.ret F jx_i450 rfl rfl

set_option maxRecDepth 100000 in
/-- ProgramBoxModel$Store.isDesk -/
theorem jx_e178 (p0 : Int32) (p1 : Int32) (p2 : Int32) (p3 : Int32) (p4 : Int32) (p5 : Int32) (g1 : ¬ p1 < (0 : Int32)) (g2 : (504 : Int32) < p1) : jv_Ms 326 [.int p1, .int (8 : Int32)] (jv_H (jx_K 227) jx_If jx_L0 (jx_R 227)) 228 1572956 (some (.int (0 : Int32)), (jv_H (jx_K 227) jx_If jx_L0 (jx_R 227)), 228, 1572956) := by
  show jv_Ev 326 0 [(0, .int p1), (1, .int (8 : Int32))] [] (jv_H (jx_K 227) jx_If jx_L0 (jx_R 227)) 228 1572956 _
  refine jv_Ev.steps jv_i326 1 (pc' := 1) (l' := [(0, .int p1), (1, .int (8 : Int32))]) (st' := [.int p1]) rfl ?_
  refine jv_Ev.br jv_i326 (pc' := 4) (st' := []) rfl (jv_bi_lt.trans (jx_gof g1)) ?_
  refine jv_Ev.steps jv_i326 4 (pc' := 10) (l' := [(0, .int p1), (1, .int (8 : Int32))]) (st' := [.int (504 : Int32), .int p1]) rfl ?_
  refine jv_Ev.br jv_i326 (pc' := 17) (st' := []) rfl (jv_bc_gt.trans (jx_got g2)) ?_
  refine jv_Ev.steps jv_i326 1 (pc' := 18) (l' := [(0, .int p1), (1, .int (8 : Int32))]) (st' := [.int (0 : Int32)]) rfl ?_
  exact jv_Ev.ret jv_i326 rfl (jv_ret_b (by decide))

set_option maxRecDepth 100000 in
/-- ProgramBoxModel$Store.lay -/
theorem jx_e179 (p0 : Int32) (p1 : Int32) (p2 : Int32) (p3 : Int32) (p4 : Int32) (p5 : Int32) (g1 : ¬ p1 < (0 : Int32)) (g2 : (504 : Int32) < p1) : jv_Ms 330 [.ref 180, .int p1, .long ((p2.toInt64 <<< ((32 : Int32).toInt64 &&& 63)) ||| (p3.toInt64 &&& (4294967295 : Int64)))] (jv_H (jx_K 227) jx_If jx_L0 (jx_R 227)) 228 1572956 (none, (jv_H (jx_K 227) (jv_u jx_If 180 0 (1 : Int32)) jx_L0 (jx_R 227)), 228, 1572956) := by
  show jv_Ev 330 0 [(0, .ref 180), (1, .int p1), (2, .long ((p2.toInt64 <<< ((32 : Int32).toInt64 &&& 63)) ||| (p3.toInt64 &&& (4294967295 : Int64))))] [] (jv_H (jx_K 227) jx_If jx_L0 (jx_R 227)) 228 1572956 _
  refine jv_Ev.steps jv_i330 3 (pc' := 4) (l' := [(0, .ref 180), (1, .int p1), (2, .long ((p2.toInt64 <<< ((32 : Int32).toInt64 &&& 63)) ||| (p3.toInt64 &&& (4294967295 : Int64))))]) (st' := [.int (8 : Int32), .int p1, .ref 180]) rfl ?_
  refine jv_Ev.c jv_i330 (pc' := 7) (S' := [.int (0 : Int32), .ref 180]) jv_i326 [.int p1, .int (8 : Int32)] rfl rfl rfl rfl rfl rfl (jx_e178 p0 p1 p2 p3 p4 p5 g1 g2) rfl rfl ?_
  refine jv_Ev.br jv_i330 (pc' := 14) (st' := [.ref 180]) rfl (jv_bi_eq.trans (jx_got (by decide))) ?_
  refine jv_Ev.steps jv_i330 1 (pc' := 15) (l' := [(0, .ref 180), (1, .int p1), (2, .long ((p2.toInt64 <<< ((32 : Int32).toInt64 &&& 63)) ||| (p3.toInt64 &&& (4294967295 : Int64))))]) (st' := [.int (1 : Int32), .ref 180]) rfl ?_
  refine jv_Ev.m jv_i330 (pc' := 18) (st' := []) rfl rfl (jv_m_putI rfl rfl rfl rfl rfl) ?_
  refine jv_Ev.steps jv_i330 1 (pc' := 19) (l' := [(0, .ref 180), (1, .int p1), (2, .long ((p2.toInt64 <<< ((32 : Int32).toInt64 &&& 63)) ||| (p3.toInt64 &&& (4294967295 : Int64))))]) (st' := [.ref 180]) rfl ?_
  refine jv_Ev.m jv_i330 (pc' := 22) (st' := [.int (1 : Int32)]) rfl rfl (jv_m_getI rfl rfl rfl rfl) ?_
  refine jv_Ev.br jv_i330 (pc' := 36) (st' := []) rfl (jv_bi_ne.trans (jx_got (by decide))) ?_
  exact jv_Ev.ret jv_i330 rfl rfl

set_option maxRecDepth 100000 in
/-- ProgramBoxModel$Store.thrown -/
theorem jx_e180 (p0 : Int32) (p1 : Int32) (p2 : Int32) (p3 : Int32) (p4 : Int32) (p5 : Int32) (g1 : ¬ p1 < (0 : Int32)) (g2 : (504 : Int32) < p1) : jv_Ms 318 [.ref 180] (jv_H (jx_K 227) (jv_u jx_If 180 0 (1 : Int32)) jx_L0 (jx_R 227)) 228 1572956 (some (.int (1 : Int32)), (jv_H (jx_K 227) (jv_u jx_If 180 0 (1 : Int32)) jx_L0 (jx_R 227)), 228, 1572956) := by
  show jv_Ev 318 0 [(0, .ref 180)] [] (jv_H (jx_K 227) (jv_u jx_If 180 0 (1 : Int32)) jx_L0 (jx_R 227)) 228 1572956 _
  refine jv_Ev.steps jv_i318 1 (pc' := 1) (l' := [(0, .ref 180)]) (st' := [.ref 180]) rfl ?_
  refine jv_Ev.m jv_i318 (pc' := 4) (st' := [.int (1 : Int32)]) rfl rfl (jv_m_getI rfl rfl rfl rfl) ?_
  exact jv_Ev.ret jv_i318 rfl rfl

set_option maxRecDepth 100000 in
/-- ProgramBoxModel.lay -/
theorem jx_e181 (p0 : Int32) (p1 : Int32) (p2 : Int32) (p3 : Int32) (p4 : Int32) (p5 : Int32) (g1 : ¬ p1 < (0 : Int32)) (g2 : (504 : Int32) < p1) : jv_Ms 409 [.ref 178, .int p1, .long ((p2.toInt64 <<< ((32 : Int32).toInt64 &&& 63)) ||| (p3.toInt64 &&& (4294967295 : Int64)))] (jv_H (jx_K 227) jx_If jx_L0 (jx_R 227)) 228 1572956 (none, (jv_H (jx_K 227) (jv_u (jv_u jx_If 180 0 (1 : Int32)) 178 0 (1 : Int32)) jx_L0 (jx_R 227)), 228, 1572956) := by
  show jv_Ev 409 0 [(0, .ref 178), (1, .int p1), (2, .long ((p2.toInt64 <<< ((32 : Int32).toInt64 &&& 63)) ||| (p3.toInt64 &&& (4294967295 : Int64))))] [] (jv_H (jx_K 227) jx_If jx_L0 (jx_R 227)) 228 1572956 _
  refine jv_Ev.steps jv_i409 1 (pc' := 1) (l' := [(0, .ref 178), (1, .int p1), (2, .long ((p2.toInt64 <<< ((32 : Int32).toInt64 &&& 63)) ||| (p3.toInt64 &&& (4294967295 : Int64))))]) (st' := [.ref 178]) rfl ?_
  refine jv_Ev.m jv_i409 (pc' := 4) (st' := [.ref 180]) rfl rfl (jv_m_getR rfl rfl rfl rfl) ?_
  refine jv_Ev.steps jv_i409 2 (pc' := 6) (l' := [(0, .ref 178), (1, .int p1), (2, .long ((p2.toInt64 <<< ((32 : Int32).toInt64 &&& 63)) ||| (p3.toInt64 &&& (4294967295 : Int64))))]) (st' := [.long ((p2.toInt64 <<< ((32 : Int32).toInt64 &&& 63)) ||| (p3.toInt64 &&& (4294967295 : Int64))), .int p1, .ref 180]) rfl ?_
  refine jv_Ev.c jv_i409 (pc' := 9) (S' := []) jv_i330 [.ref 180, .int p1, .long ((p2.toInt64 <<< ((32 : Int32).toInt64 &&& 63)) ||| (p3.toInt64 &&& (4294967295 : Int64)))] rfl rfl rfl rfl (jv_cal rfl (jv_H_at rfl) rfl rfl) rfl (jx_e179 p0 p1 p2 p3 p4 p5 g1 g2) rfl rfl ?_
  refine jv_Ev.steps jv_i409 2 (pc' := 11) (l' := [(0, .ref 178), (1, .int p1), (2, .long ((p2.toInt64 <<< ((32 : Int32).toInt64 &&& 63)) ||| (p3.toInt64 &&& (4294967295 : Int64))))]) (st' := [.ref 178, .ref 178]) rfl ?_
  refine jv_Ev.m jv_i409 (pc' := 14) (st' := [.ref 180, .ref 178]) rfl rfl (jv_m_getR rfl rfl rfl rfl) ?_
  refine jv_Ev.c jv_i409 (pc' := 17) (S' := [.int (1 : Int32), .ref 178]) jv_i318 [.ref 180] rfl rfl rfl rfl (jv_cal rfl (jv_H_at rfl) rfl rfl) rfl (jx_e180 p0 p1 p2 p3 p4 p5 g1 g2) rfl rfl ?_
  refine jv_Ev.m jv_i409 (pc' := 20) (st' := []) rfl rfl (jv_m_putI rfl rfl rfl rfl rfl) ?_
  exact jv_Ev.ret jv_i409 rfl rfl

set_option maxRecDepth 100000 in
/-- ProgramBoxModel.thrown -/
theorem jx_e182 (p0 : Int32) (p1 : Int32) (p2 : Int32) (p3 : Int32) (p4 : Int32) (p5 : Int32) (g1 : ¬ p1 < (0 : Int32)) (g2 : (504 : Int32) < p1) : jv_Ms 350 [.ref 178] (jv_H (jx_K 227) (jv_u (jv_u jx_If 180 0 (1 : Int32)) 178 0 (1 : Int32)) jx_L0 (jx_R 227)) 228 1572956 (some (.int (1 : Int32)), (jv_H (jx_K 227) (jv_u (jv_u jx_If 180 0 (1 : Int32)) 178 0 (1 : Int32)) jx_L0 (jx_R 227)), 228, 1572956) := by
  show jv_Ev 350 0 [(0, .ref 178)] [] (jv_H (jx_K 227) (jv_u (jv_u jx_If 180 0 (1 : Int32)) 178 0 (1 : Int32)) jx_L0 (jx_R 227)) 228 1572956 _
  refine jv_Ev.steps jv_i350 1 (pc' := 1) (l' := [(0, .ref 178)]) (st' := [.ref 178]) rfl ?_
  refine jv_Ev.m jv_i350 (pc' := 4) (st' := [.int (1 : Int32)]) rfl rfl (jv_m_getI rfl rfl rfl rfl) ?_
  exact jv_Ev.ret jv_i350 rfl rfl

set_option maxRecDepth 100000 in
/-- the law: case 18, one way -/
theorem jx_l33 (p0 : Int32) (p1 : Int32) (p2 : Int32) (p3 : Int32) (p4 : Int32) (p5 : Int32) (g1 : ¬ p1 < (0 : Int32)) (g2 : (504 : Int32) < p1) (hsw : p0 &&& (31 : Int32) = (18 : Int32)) {p : Program} {l : Launch} {e : Env} {R : Room} {s : State} {m : MethodId} {args : Array Value} {below : List Frame} {meth : Method} {c : Code} {E : jv_Env} {Q : State → Prop} (hTb : jv_TOk jv_Tb) (hT2 : jx_T2Ok) (hl : l.stackTraces = false) (F : jx_F jv_T2 439 E p R s m args meth c) (hZ : jx_Z E s) (hRc : R.cells = 600002) (hRs : R.slots = 7302232) {bb : Nat} {xs : Nat → Int32} (hX : va_X bb 6 xs s E.2.2.2.2) (hbB : bb < E.2.2.2.1) (hE2 : E.1 1000002 = bb) (hQ : ∀ (l0 : jv_L) (G : jv_G) (n sl : Nat), n ≤ 600002 → sl ≤ 7302232 → jw p l e R s m args below meth c E 8 0 0 Q 1532 l0 [.int (1 : Int32)] G n sl) (q0 : xs 0 = p0) (q1 : xs 1 = p1) (q2 : xs 2 = p2) (q3 : xs 3 = p3) (q4 : xs 4 = p4) (q5 : xs 5 = p5) : jw p l e R s m args below meth c E 8 0 0 Q 33 [(0, .ref 1000002), (1, .ref 0), (2, .ref 178), (3, .ref 226), (4, .int (0 : Int32))] [] (jv_H (jx_K 227) jx_If jx_L0 (jx_R 227)) 227 1572950 := by
  refine jw.steps F jx_i439 2 (pc' := 36) (l' := [(0, .ref 1000002), (1, .ref 0), (2, .ref 178), (3, .ref 226), (4, .int (0 : Int32))]) (st' := [.int (0 : Int32), .ref 1000002]) rfl ?_
  refine jw.sld F jx_i439 hX hbB hE2 (pc' := 37) rfl rfl (show vp_in (nI 0) 6 from vp_in_nI (by decide) (by decide)) q0 rfl ?_
  refine jw.steps F jx_i439 2 (pc' := 40) (l' := [(0, .ref 1000002), (1, .ref 0), (2, .ref 178), (3, .ref 226), (4, .int (0 : Int32))]) (st' := [.int (p0 &&& (31 : Int32))]) rfl ?_
  refine jw.br F jx_i439 (pc' := 946) (st' := []) rfl (by rw [hsw]; rfl) ?_
  refine jw.steps F jx_i439 5 (pc' := 952) (l' := [(0, .ref 1000002), (1, .ref 0), (2, .ref 178), (3, .ref 226), (4, .int (0 : Int32))]) (st' := [.int (1 : Int32), .ref 1000002, .ref 0]) rfl ?_
  refine jw.sld F jx_i439 hX hbB hE2 (pc' := 953) rfl rfl (show vp_in (nI 1) 6 from vp_in_nI (by decide) (by decide)) q1 rfl ?_
  refine jw.steps F jx_i439 4 (pc' := 958) (l' := [(0, .ref 1000002), (1, .ref 0), (2, .ref 178), (3, .ref 226), (4, .int (0 : Int32))]) (st' := [.int (2 : Int32), .ref 1000002, .int p1, .ref 0]) rfl ?_
  refine jw.sld F jx_i439 hX hbB hE2 (pc' := 959) rfl rfl (show vp_in (nI 2) 6 from vp_in_nI (by decide) (by decide)) q2 rfl ?_
  refine jw.steps F jx_i439 7 (pc' := 968) (l' := [(0, .ref 1000002), (1, .ref 0), (2, .ref 178), (3, .ref 226), (4, .int (0 : Int32))]) (st' := [.int (3 : Int32), .ref 1000002, .long (p2.toInt64 <<< ((32 : Int32).toInt64 &&& 63)), .int p1, .ref 0]) rfl ?_
  refine jw.sld F jx_i439 hX hbB hE2 (pc' := 969) rfl rfl (show vp_in (nI 3) 6 from vp_in_nI (by decide) (by decide)) q3 rfl ?_
  refine jw.steps F jx_i439 4 (pc' := 975) (l' := [(0, .ref 1000002), (1, .ref 0), (2, .ref 178), (3, .ref 226), (4, .int (0 : Int32))]) (st' := [.long ((p2.toInt64 <<< ((32 : Int32).toInt64 &&& 63)) ||| (p3.toInt64 &&& (4294967295 : Int64))), .int p1, .ref 0]) rfl ?_
  refine jw.wr F hl hZ rfl jx_i439 jx_i450 [.ref 0, .int p1, .long ((p2.toInt64 <<< ((32 : Int32).toInt64 &&& 63)) ||| (p3.toInt64 &&& (4294967295 : Int64)))] (pc' := 978) (S' := [.int (1 : Int32)]) rfl (List.mem_of_getElem? (i := 10) rfl) (List.mem_of_getElem? (i := 10) rfl) rfl rfl rfl (jx_w177 hTb hT2 p0 p1 p2 p3 p4 p5 g1 g2) (by omega) (by omega) (by omega) (by omega) rfl rfl ?_
  refine jw.steps F jx_i439 6 (pc' := 986) (l' := [(5, .int (1 : Int32)), (0, .ref 1000002), (1, .ref 0), (2, .ref 178), (3, .ref 226), (4, .int (0 : Int32))]) (st' := [.int (1 : Int32), .ref 1000002, .ref 178]) rfl ?_
  refine jw.sld F jx_i439 hX hbB hE2 (pc' := 987) rfl rfl (show vp_in (nI 1) 6 from vp_in_nI (by decide) (by decide)) q1 rfl ?_
  refine jw.steps F jx_i439 4 (pc' := 992) (l' := [(5, .int (1 : Int32)), (0, .ref 1000002), (1, .ref 0), (2, .ref 178), (3, .ref 226), (4, .int (0 : Int32))]) (st' := [.int (2 : Int32), .ref 1000002, .int p1, .ref 178]) rfl ?_
  refine jw.sld F jx_i439 hX hbB hE2 (pc' := 993) rfl rfl (show vp_in (nI 2) 6 from vp_in_nI (by decide) (by decide)) q2 rfl ?_
  refine jw.steps F jx_i439 7 (pc' := 1002) (l' := [(5, .int (1 : Int32)), (0, .ref 1000002), (1, .ref 0), (2, .ref 178), (3, .ref 226), (4, .int (0 : Int32))]) (st' := [.int (3 : Int32), .ref 1000002, .long (p2.toInt64 <<< ((32 : Int32).toInt64 &&& 63)), .int p1, .ref 178]) rfl ?_
  refine jw.sld F jx_i439 hX hbB hE2 (pc' := 1003) rfl rfl (show vp_in (nI 3) 6 from vp_in_nI (by decide) (by decide)) q3 rfl ?_
  refine jw.steps F jx_i439 4 (pc' := 1009) (l' := [(5, .int (1 : Int32)), (0, .ref 1000002), (1, .ref 0), (2, .ref 178), (3, .ref 226), (4, .int (0 : Int32))]) (st' := [.long ((p2.toInt64 <<< ((32 : Int32).toInt64 &&& 63)) ||| (p3.toInt64 &&& (4294967295 : Int64))), .int p1, .ref 178]) rfl ?_
  refine jw.ca hTb F jx_i439 (pc' := 1012) (S' := []) rfl jv_i409 [.ref 178, .int p1, .long ((p2.toInt64 <<< ((32 : Int32).toInt64 &&& 63)) ||| (p3.toInt64 &&& (4294967295 : Int64)))] rfl rfl rfl rfl (jx_cal2 rfl (jv_H_at rfl) rfl rfl) rfl (jx_e181 p0 p1 p2 p3 p4 p5 g1 g2) (by omega) (by omega) rfl rfl ?_
  refine jw.steps F jx_i439 1 (pc' := 1013) (l' := [(5, .int (1 : Int32)), (0, .ref 1000002), (1, .ref 0), (2, .ref 178), (3, .ref 226), (4, .int (0 : Int32))]) (st' := [.ref 178]) rfl ?_
  refine jw.ca hTb F jx_i439 (pc' := 1016) (S' := [.int (1 : Int32)]) rfl jv_i350 [.ref 178] rfl rfl rfl rfl (jx_cal2 rfl (jv_H_at rfl) rfl rfl) rfl (jx_e182 p0 p1 p2 p3 p4 p5 g1 g2) (by omega) (by omega) rfl rfl ?_
  refine jw.steps F jx_i439 1 (pc' := 1018) (l' := [(5, .int (1 : Int32)), (0, .ref 1000002), (1, .ref 0), (2, .ref 178), (3, .ref 226), (4, .int (0 : Int32))]) (st' := [.int (1 : Int32), .int (1 : Int32)]) rfl ?_
  refine jw.br F jx_i439 (pc' := 1023) (st' := []) rfl (jv_bc_eq.trans (jx_got (by decide))) ?_
  refine jw.steps F jx_i439 5 (pc' := 26) (l' := [(4, .int (6 : Int32)), (5, .int (1 : Int32)), (0, .ref 1000002), (1, .ref 0), (2, .ref 178), (3, .ref 226)]) (st' := [.ref 1000002, .int (6 : Int32)]) rfl ?_
  refine jw.slen F jx_i439 hX hbB hE2 (pc' := 27) rfl rfl rfl ?_
  refine jw.steps F jx_i439 2 (pc' := 30) (l' := [(4, .int (6 : Int32)), (5, .int (1 : Int32)), (0, .ref 1000002), (1, .ref 0), (2, .ref 178), (3, .ref 226)]) (st' := [.int (0 : Int32), .int (6 : Int32)]) rfl ?_
  refine jw.br F jx_i439 (pc' := 1531) (st' := []) rfl (jv_bc_gt.trans (jx_got (by decide))) ?_
  refine jw.steps F jx_i439 1 (pc' := 1532) (l' := [(4, .int (6 : Int32)), (5, .int (1 : Int32)), (0, .ref 1000002), (1, .ref 0), (2, .ref 178), (3, .ref 226)]) (st' := [.int (1 : Int32)]) rfl ?_
  exact hQ _ _ _ _ (by omega) (by omega)

set_option maxRecDepth 100000 in
/-- ProgramBox.testPart -/
theorem jx_e183 (p0 : Int32) (p1 : Int32) (p2 : Int32) (p3 : Int32) (p4 : Int32) (p5 : Int32) (g1 : ¬ p1 < (0 : Int32)) (g2 : ¬ (504 : Int32) < p1) : jv_Ms 430 [.int p1, .int (8 : Int32), .int (512 : Int32)] (jv_H (jx_K 227) jx_If jx_L0 (jx_R 227)) 227 1572950 (none, (jv_H (jx_K 227) jx_If jx_L0 (jx_R 227)), 227, 1572950) := by
  show jv_Ev 430 0 [(0, .int p1), (1, .int (8 : Int32)), (2, .int (512 : Int32))] [] (jv_H (jx_K 227) jx_If jx_L0 (jx_R 227)) 227 1572950 _
  refine jv_Ev.steps jv_i430 1 (pc' := 1) (l' := [(0, .int p1), (1, .int (8 : Int32)), (2, .int (512 : Int32))]) (st' := [.int p1]) rfl ?_
  refine jv_Ev.br jv_i430 (pc' := 4) (st' := []) rfl (jv_bi_lt.trans (jx_gof g1)) ?_
  refine jv_Ev.steps jv_i430 4 (pc' := 8) (l' := [(0, .int p1), (1, .int (8 : Int32)), (2, .int (512 : Int32))]) (st' := [.int (504 : Int32), .int p1]) rfl ?_
  refine jv_Ev.br jv_i430 (pc' := 21) (st' := []) rfl (jv_bc_le.trans (jx_got (Int32.not_lt.mp g2))) ?_
  exact jv_Ev.ret jv_i430 rfl rfl

set_option maxRecDepth 100000 in
/-- ProgramBox$Store.write -/
theorem jx_e184 (p0 : Int32) (p1 : Int32) (p2 : Int32) (p3 : Int32) (p4 : Int32) (p5 : Int32) (g1 : ¬ p1 < (0 : Int32)) (g2 : ¬ (504 : Int32) < p1) : jv_Ms 122 [.ref 5, .int p1, .int (8 : Int32), .long ((p2.toInt64 <<< ((32 : Int32).toInt64 &&& 63)) ||| (p3.toInt64 &&& (4294967295 : Int64)))] (jv_H (jx_K 227) jx_If jx_L0 (jx_R 227)) 227 1572950 (none, (jv_H (jx_K 227) (jv_u (jv_u (jv_u (jv_u (jv_u (jv_u (jv_u (jv_u jx_If 5 (p1 + (0 : Int32)).toNatClampNeg (((p2.toInt64 <<< ((32 : Int32).toInt64 &&& 63)) ||| (p3.toInt64 &&& (4294967295 : Int64))) >>> ((0 : Int32).toInt64 &&& 63)).toInt32.toInt8.toInt32.toInt8.toInt32) 5 (p1 + (1 : Int32)).toNatClampNeg (((p2.toInt64 <<< ((32 : Int32).toInt64 &&& 63)) ||| (p3.toInt64 &&& (4294967295 : Int64))) >>> ((8 : Int32).toInt64 &&& 63)).toInt32.toInt8.toInt32.toInt8.toInt32) 5 (p1 + (2 : Int32)).toNatClampNeg (((p2.toInt64 <<< ((32 : Int32).toInt64 &&& 63)) ||| (p3.toInt64 &&& (4294967295 : Int64))) >>> ((16 : Int32).toInt64 &&& 63)).toInt32.toInt8.toInt32.toInt8.toInt32) 5 (p1 + (3 : Int32)).toNatClampNeg (((p2.toInt64 <<< ((32 : Int32).toInt64 &&& 63)) ||| (p3.toInt64 &&& (4294967295 : Int64))) >>> ((24 : Int32).toInt64 &&& 63)).toInt32.toInt8.toInt32.toInt8.toInt32) 5 (p1 + (4 : Int32)).toNatClampNeg (((p2.toInt64 <<< ((32 : Int32).toInt64 &&& 63)) ||| (p3.toInt64 &&& (4294967295 : Int64))) >>> ((32 : Int32).toInt64 &&& 63)).toInt32.toInt8.toInt32.toInt8.toInt32) 5 (p1 + (5 : Int32)).toNatClampNeg (((p2.toInt64 <<< ((32 : Int32).toInt64 &&& 63)) ||| (p3.toInt64 &&& (4294967295 : Int64))) >>> ((40 : Int32).toInt64 &&& 63)).toInt32.toInt8.toInt32.toInt8.toInt32) 5 (p1 + (6 : Int32)).toNatClampNeg (((p2.toInt64 <<< ((32 : Int32).toInt64 &&& 63)) ||| (p3.toInt64 &&& (4294967295 : Int64))) >>> ((48 : Int32).toInt64 &&& 63)).toInt32.toInt8.toInt32.toInt8.toInt32) 5 (p1 + (7 : Int32)).toNatClampNeg (((p2.toInt64 <<< ((32 : Int32).toInt64 &&& 63)) ||| (p3.toInt64 &&& (4294967295 : Int64))) >>> ((56 : Int32).toInt64 &&& 63)).toInt32.toInt8.toInt32.toInt8.toInt32) jx_L0 (jx_R 227)), 227, 1572950) := by
  show jv_Ev 122 0 [(0, .ref 5), (1, .int p1), (2, .int (8 : Int32)), (3, .long ((p2.toInt64 <<< ((32 : Int32).toInt64 &&& 63)) ||| (p3.toInt64 &&& (4294967295 : Int64))))] [] (jv_H (jx_K 227) jx_If jx_L0 (jx_R 227)) 227 1572950 _
  refine jv_Ev.steps jv_i122 4 (pc' := 6) (l' := [(5, .int (0 : Int32)), (0, .ref 5), (1, .int p1), (2, .int (8 : Int32)), (3, .long ((p2.toInt64 <<< ((32 : Int32).toInt64 &&& 63)) ||| (p3.toInt64 &&& (4294967295 : Int64))))]) (st' := [.int (8 : Int32), .int (0 : Int32)]) rfl ?_
  refine jv_Ev.br jv_i122 (pc' := 9) (st' := []) rfl (jv_bc_ge.trans (jx_gof (by decide))) ?_
  refine jv_Ev.steps jv_i122 11 (pc' := 23) (l' := [(5, .int (0 : Int32)), (0, .ref 5), (1, .int p1), (2, .int (8 : Int32)), (3, .long ((p2.toInt64 <<< ((32 : Int32).toInt64 &&& 63)) ||| (p3.toInt64 &&& (4294967295 : Int64))))]) (st' := [.int (((p2.toInt64 <<< ((32 : Int32).toInt64 &&& 63)) ||| (p3.toInt64 &&& (4294967295 : Int64))) >>> ((0 : Int32).toInt64 &&& 63)).toInt32.toInt8.toInt32, .int (p1 + (0 : Int32)), .ref 5]) rfl ?_
  refine jv_Ev.m jv_i122 (pc' := 24) (st' := []) rfl rfl (jv_m_bast rfl (jx_ixa (k := 0) g1 g2 (by decide))) ?_
  refine jv_Ev.steps jv_i122 4 (pc' := 6) (l' := [(5, .int (1 : Int32)), (0, .ref 5), (1, .int p1), (2, .int (8 : Int32)), (3, .long ((p2.toInt64 <<< ((32 : Int32).toInt64 &&& 63)) ||| (p3.toInt64 &&& (4294967295 : Int64))))]) (st' := [.int (8 : Int32), .int (1 : Int32)]) rfl ?_
  refine jv_Ev.br jv_i122 (pc' := 9) (st' := []) rfl (jv_bc_ge.trans (jx_gof (by decide))) ?_
  refine jv_Ev.steps jv_i122 11 (pc' := 23) (l' := [(5, .int (1 : Int32)), (0, .ref 5), (1, .int p1), (2, .int (8 : Int32)), (3, .long ((p2.toInt64 <<< ((32 : Int32).toInt64 &&& 63)) ||| (p3.toInt64 &&& (4294967295 : Int64))))]) (st' := [.int (((p2.toInt64 <<< ((32 : Int32).toInt64 &&& 63)) ||| (p3.toInt64 &&& (4294967295 : Int64))) >>> ((8 : Int32).toInt64 &&& 63)).toInt32.toInt8.toInt32, .int (p1 + (1 : Int32)), .ref 5]) rfl ?_
  refine jv_Ev.m jv_i122 (pc' := 24) (st' := []) rfl rfl (jv_m_bast rfl (jx_ixa (k := 1) g1 g2 (by decide))) ?_
  refine jv_Ev.steps jv_i122 4 (pc' := 6) (l' := [(5, .int (2 : Int32)), (0, .ref 5), (1, .int p1), (2, .int (8 : Int32)), (3, .long ((p2.toInt64 <<< ((32 : Int32).toInt64 &&& 63)) ||| (p3.toInt64 &&& (4294967295 : Int64))))]) (st' := [.int (8 : Int32), .int (2 : Int32)]) rfl ?_
  refine jv_Ev.br jv_i122 (pc' := 9) (st' := []) rfl (jv_bc_ge.trans (jx_gof (by decide))) ?_
  refine jv_Ev.steps jv_i122 11 (pc' := 23) (l' := [(5, .int (2 : Int32)), (0, .ref 5), (1, .int p1), (2, .int (8 : Int32)), (3, .long ((p2.toInt64 <<< ((32 : Int32).toInt64 &&& 63)) ||| (p3.toInt64 &&& (4294967295 : Int64))))]) (st' := [.int (((p2.toInt64 <<< ((32 : Int32).toInt64 &&& 63)) ||| (p3.toInt64 &&& (4294967295 : Int64))) >>> ((16 : Int32).toInt64 &&& 63)).toInt32.toInt8.toInt32, .int (p1 + (2 : Int32)), .ref 5]) rfl ?_
  refine jv_Ev.m jv_i122 (pc' := 24) (st' := []) rfl rfl (jv_m_bast rfl (jx_ixa (k := 2) g1 g2 (by decide))) ?_
  refine jv_Ev.steps jv_i122 4 (pc' := 6) (l' := [(5, .int (3 : Int32)), (0, .ref 5), (1, .int p1), (2, .int (8 : Int32)), (3, .long ((p2.toInt64 <<< ((32 : Int32).toInt64 &&& 63)) ||| (p3.toInt64 &&& (4294967295 : Int64))))]) (st' := [.int (8 : Int32), .int (3 : Int32)]) rfl ?_
  refine jv_Ev.br jv_i122 (pc' := 9) (st' := []) rfl (jv_bc_ge.trans (jx_gof (by decide))) ?_
  refine jv_Ev.steps jv_i122 11 (pc' := 23) (l' := [(5, .int (3 : Int32)), (0, .ref 5), (1, .int p1), (2, .int (8 : Int32)), (3, .long ((p2.toInt64 <<< ((32 : Int32).toInt64 &&& 63)) ||| (p3.toInt64 &&& (4294967295 : Int64))))]) (st' := [.int (((p2.toInt64 <<< ((32 : Int32).toInt64 &&& 63)) ||| (p3.toInt64 &&& (4294967295 : Int64))) >>> ((24 : Int32).toInt64 &&& 63)).toInt32.toInt8.toInt32, .int (p1 + (3 : Int32)), .ref 5]) rfl ?_
  refine jv_Ev.m jv_i122 (pc' := 24) (st' := []) rfl rfl (jv_m_bast rfl (jx_ixa (k := 3) g1 g2 (by decide))) ?_
  refine jv_Ev.steps jv_i122 4 (pc' := 6) (l' := [(5, .int (4 : Int32)), (0, .ref 5), (1, .int p1), (2, .int (8 : Int32)), (3, .long ((p2.toInt64 <<< ((32 : Int32).toInt64 &&& 63)) ||| (p3.toInt64 &&& (4294967295 : Int64))))]) (st' := [.int (8 : Int32), .int (4 : Int32)]) rfl ?_
  refine jv_Ev.br jv_i122 (pc' := 9) (st' := []) rfl (jv_bc_ge.trans (jx_gof (by decide))) ?_
  refine jv_Ev.steps jv_i122 11 (pc' := 23) (l' := [(5, .int (4 : Int32)), (0, .ref 5), (1, .int p1), (2, .int (8 : Int32)), (3, .long ((p2.toInt64 <<< ((32 : Int32).toInt64 &&& 63)) ||| (p3.toInt64 &&& (4294967295 : Int64))))]) (st' := [.int (((p2.toInt64 <<< ((32 : Int32).toInt64 &&& 63)) ||| (p3.toInt64 &&& (4294967295 : Int64))) >>> ((32 : Int32).toInt64 &&& 63)).toInt32.toInt8.toInt32, .int (p1 + (4 : Int32)), .ref 5]) rfl ?_
  refine jv_Ev.m jv_i122 (pc' := 24) (st' := []) rfl rfl (jv_m_bast rfl (jx_ixa (k := 4) g1 g2 (by decide))) ?_
  refine jv_Ev.steps jv_i122 4 (pc' := 6) (l' := [(5, .int (5 : Int32)), (0, .ref 5), (1, .int p1), (2, .int (8 : Int32)), (3, .long ((p2.toInt64 <<< ((32 : Int32).toInt64 &&& 63)) ||| (p3.toInt64 &&& (4294967295 : Int64))))]) (st' := [.int (8 : Int32), .int (5 : Int32)]) rfl ?_
  refine jv_Ev.br jv_i122 (pc' := 9) (st' := []) rfl (jv_bc_ge.trans (jx_gof (by decide))) ?_
  refine jv_Ev.steps jv_i122 11 (pc' := 23) (l' := [(5, .int (5 : Int32)), (0, .ref 5), (1, .int p1), (2, .int (8 : Int32)), (3, .long ((p2.toInt64 <<< ((32 : Int32).toInt64 &&& 63)) ||| (p3.toInt64 &&& (4294967295 : Int64))))]) (st' := [.int (((p2.toInt64 <<< ((32 : Int32).toInt64 &&& 63)) ||| (p3.toInt64 &&& (4294967295 : Int64))) >>> ((40 : Int32).toInt64 &&& 63)).toInt32.toInt8.toInt32, .int (p1 + (5 : Int32)), .ref 5]) rfl ?_
  refine jv_Ev.m jv_i122 (pc' := 24) (st' := []) rfl rfl (jv_m_bast rfl (jx_ixa (k := 5) g1 g2 (by decide))) ?_
  refine jv_Ev.steps jv_i122 4 (pc' := 6) (l' := [(5, .int (6 : Int32)), (0, .ref 5), (1, .int p1), (2, .int (8 : Int32)), (3, .long ((p2.toInt64 <<< ((32 : Int32).toInt64 &&& 63)) ||| (p3.toInt64 &&& (4294967295 : Int64))))]) (st' := [.int (8 : Int32), .int (6 : Int32)]) rfl ?_
  refine jv_Ev.br jv_i122 (pc' := 9) (st' := []) rfl (jv_bc_ge.trans (jx_gof (by decide))) ?_
  refine jv_Ev.steps jv_i122 11 (pc' := 23) (l' := [(5, .int (6 : Int32)), (0, .ref 5), (1, .int p1), (2, .int (8 : Int32)), (3, .long ((p2.toInt64 <<< ((32 : Int32).toInt64 &&& 63)) ||| (p3.toInt64 &&& (4294967295 : Int64))))]) (st' := [.int (((p2.toInt64 <<< ((32 : Int32).toInt64 &&& 63)) ||| (p3.toInt64 &&& (4294967295 : Int64))) >>> ((48 : Int32).toInt64 &&& 63)).toInt32.toInt8.toInt32, .int (p1 + (6 : Int32)), .ref 5]) rfl ?_
  refine jv_Ev.m jv_i122 (pc' := 24) (st' := []) rfl rfl (jv_m_bast rfl (jx_ixa (k := 6) g1 g2 (by decide))) ?_
  refine jv_Ev.steps jv_i122 4 (pc' := 6) (l' := [(5, .int (7 : Int32)), (0, .ref 5), (1, .int p1), (2, .int (8 : Int32)), (3, .long ((p2.toInt64 <<< ((32 : Int32).toInt64 &&& 63)) ||| (p3.toInt64 &&& (4294967295 : Int64))))]) (st' := [.int (8 : Int32), .int (7 : Int32)]) rfl ?_
  refine jv_Ev.br jv_i122 (pc' := 9) (st' := []) rfl (jv_bc_ge.trans (jx_gof (by decide))) ?_
  refine jv_Ev.steps jv_i122 11 (pc' := 23) (l' := [(5, .int (7 : Int32)), (0, .ref 5), (1, .int p1), (2, .int (8 : Int32)), (3, .long ((p2.toInt64 <<< ((32 : Int32).toInt64 &&& 63)) ||| (p3.toInt64 &&& (4294967295 : Int64))))]) (st' := [.int (((p2.toInt64 <<< ((32 : Int32).toInt64 &&& 63)) ||| (p3.toInt64 &&& (4294967295 : Int64))) >>> ((56 : Int32).toInt64 &&& 63)).toInt32.toInt8.toInt32, .int (p1 + (7 : Int32)), .ref 5]) rfl ?_
  refine jv_Ev.m jv_i122 (pc' := 24) (st' := []) rfl rfl (jv_m_bast rfl (jx_ixa (k := 7) g1 g2 (by decide))) ?_
  refine jv_Ev.steps jv_i122 4 (pc' := 6) (l' := [(5, .int (8 : Int32)), (0, .ref 5), (1, .int p1), (2, .int (8 : Int32)), (3, .long ((p2.toInt64 <<< ((32 : Int32).toInt64 &&& 63)) ||| (p3.toInt64 &&& (4294967295 : Int64))))]) (st' := [.int (8 : Int32), .int (8 : Int32)]) rfl ?_
  refine jv_Ev.br jv_i122 (pc' := 30) (st' := []) rfl (jv_bc_ge.trans (jx_got (by decide))) ?_
  exact jv_Ev.ret jv_i122 rfl rfl

set_option maxRecDepth 100000 in
/-- ProgramBox.lay -/
theorem jx_e185 (p0 : Int32) (p1 : Int32) (p2 : Int32) (p3 : Int32) (p4 : Int32) (p5 : Int32) (g1 : ¬ p1 < (0 : Int32)) (g2 : ¬ (504 : Int32) < p1) : jv_Ms 431 [.ref 0, .int p1, .long ((p2.toInt64 <<< ((32 : Int32).toInt64 &&& 63)) ||| (p3.toInt64 &&& (4294967295 : Int64)))] (jv_H (jx_K 227) jx_If jx_L0 (jx_R 227)) 227 1572950 (none, (jv_H (jx_K 227) (jv_u (jv_u (jv_u (jv_u (jv_u (jv_u (jv_u (jv_u jx_If 5 (p1 + (0 : Int32)).toNatClampNeg (((p2.toInt64 <<< ((32 : Int32).toInt64 &&& 63)) ||| (p3.toInt64 &&& (4294967295 : Int64))) >>> ((0 : Int32).toInt64 &&& 63)).toInt32.toInt8.toInt32.toInt8.toInt32) 5 (p1 + (1 : Int32)).toNatClampNeg (((p2.toInt64 <<< ((32 : Int32).toInt64 &&& 63)) ||| (p3.toInt64 &&& (4294967295 : Int64))) >>> ((8 : Int32).toInt64 &&& 63)).toInt32.toInt8.toInt32.toInt8.toInt32) 5 (p1 + (2 : Int32)).toNatClampNeg (((p2.toInt64 <<< ((32 : Int32).toInt64 &&& 63)) ||| (p3.toInt64 &&& (4294967295 : Int64))) >>> ((16 : Int32).toInt64 &&& 63)).toInt32.toInt8.toInt32.toInt8.toInt32) 5 (p1 + (3 : Int32)).toNatClampNeg (((p2.toInt64 <<< ((32 : Int32).toInt64 &&& 63)) ||| (p3.toInt64 &&& (4294967295 : Int64))) >>> ((24 : Int32).toInt64 &&& 63)).toInt32.toInt8.toInt32.toInt8.toInt32) 5 (p1 + (4 : Int32)).toNatClampNeg (((p2.toInt64 <<< ((32 : Int32).toInt64 &&& 63)) ||| (p3.toInt64 &&& (4294967295 : Int64))) >>> ((32 : Int32).toInt64 &&& 63)).toInt32.toInt8.toInt32.toInt8.toInt32) 5 (p1 + (5 : Int32)).toNatClampNeg (((p2.toInt64 <<< ((32 : Int32).toInt64 &&& 63)) ||| (p3.toInt64 &&& (4294967295 : Int64))) >>> ((40 : Int32).toInt64 &&& 63)).toInt32.toInt8.toInt32.toInt8.toInt32) 5 (p1 + (6 : Int32)).toNatClampNeg (((p2.toInt64 <<< ((32 : Int32).toInt64 &&& 63)) ||| (p3.toInt64 &&& (4294967295 : Int64))) >>> ((48 : Int32).toInt64 &&& 63)).toInt32.toInt8.toInt32.toInt8.toInt32) 5 (p1 + (7 : Int32)).toNatClampNeg (((p2.toInt64 <<< ((32 : Int32).toInt64 &&& 63)) ||| (p3.toInt64 &&& (4294967295 : Int64))) >>> ((56 : Int32).toInt64 &&& 63)).toInt32.toInt8.toInt32.toInt8.toInt32) jx_L0 (jx_R 227)), 227, 1572950) := by
  show jv_Ev 431 0 [(0, .ref 0), (1, .int p1), (2, .long ((p2.toInt64 <<< ((32 : Int32).toInt64 &&& 63)) ||| (p3.toInt64 &&& (4294967295 : Int64))))] [] (jv_H (jx_K 227) jx_If jx_L0 (jx_R 227)) 227 1572950 _
  refine jv_Ev.steps jv_i431 3 (pc' := 6) (l' := [(0, .ref 0), (1, .int p1), (2, .long ((p2.toInt64 <<< ((32 : Int32).toInt64 &&& 63)) ||| (p3.toInt64 &&& (4294967295 : Int64))))]) (st' := [.int (512 : Int32), .int (8 : Int32), .int p1]) rfl ?_
  refine jv_Ev.c jv_i431 (pc' := 9) (S' := []) jv_i430 [.int p1, .int (8 : Int32), .int (512 : Int32)] rfl rfl rfl rfl rfl rfl (jx_e183 p0 p1 p2 p3 p4 p5 g1 g2) rfl rfl ?_
  refine jv_Ev.steps jv_i431 1 (pc' := 10) (l' := [(0, .ref 0), (1, .int p1), (2, .long ((p2.toInt64 <<< ((32 : Int32).toInt64 &&& 63)) ||| (p3.toInt64 &&& (4294967295 : Int64))))]) (st' := [.ref 0]) rfl ?_
  refine jv_Ev.m jv_i431 (pc' := 13) (st' := [.ref 2]) rfl rfl (jv_m_getR rfl rfl rfl rfl) ?_
  refine jv_Ev.m jv_i431 (pc' := 16) (st' := [.ref 5]) rfl rfl (jv_m_getR rfl rfl rfl rfl) ?_
  refine jv_Ev.steps jv_i431 3 (pc' := 20) (l' := [(0, .ref 0), (1, .int p1), (2, .long ((p2.toInt64 <<< ((32 : Int32).toInt64 &&& 63)) ||| (p3.toInt64 &&& (4294967295 : Int64))))]) (st' := [.long ((p2.toInt64 <<< ((32 : Int32).toInt64 &&& 63)) ||| (p3.toInt64 &&& (4294967295 : Int64))), .int (8 : Int32), .int p1, .ref 5]) rfl ?_
  refine jv_Ev.c jv_i431 (pc' := 23) (S' := []) jv_i122 [.ref 5, .int p1, .int (8 : Int32), .long ((p2.toInt64 <<< ((32 : Int32).toInt64 &&& 63)) ||| (p3.toInt64 &&& (4294967295 : Int64)))] rfl rfl rfl rfl rfl rfl (jx_e184 p0 p1 p2 p3 p4 p5 g1 g2) rfl rfl ?_
  exact jv_Ev.ret jv_i431 rfl rfl

set_option maxRecDepth 100000 in
/-- the law's lay -/
theorem jx_w186 (hTb : jv_TOk jv_Tb) (hT2 : jx_T2Ok) (p0 : Int32) (p1 : Int32) (p2 : Int32) (p3 : Int32) (p4 : Int32) (p5 : Int32) (g1 : ¬ p1 < (0 : Int32)) (g2 : ¬ (504 : Int32) < p1) : jx_Wr 450 [(0, 6, 9, 36)] [.ref 0, .int p1, .long ((p2.toInt64 <<< ((32 : Int32).toInt64 &&& 63)) ||| (p3.toInt64 &&& (4294967295 : Int64)))] (jv_H (jx_K 227) jx_If jx_L0 (jx_R 227)) 227 1572950 (some (.int (0 : Int32)), (jv_H (jx_K 227) (jv_u (jv_u (jv_u (jv_u (jv_u (jv_u (jv_u (jv_u jx_If 5 (p1 + (0 : Int32)).toNatClampNeg (((p2.toInt64 <<< ((32 : Int32).toInt64 &&& 63)) ||| (p3.toInt64 &&& (4294967295 : Int64))) >>> ((0 : Int32).toInt64 &&& 63)).toInt32.toInt8.toInt32.toInt8.toInt32) 5 (p1 + (1 : Int32)).toNatClampNeg (((p2.toInt64 <<< ((32 : Int32).toInt64 &&& 63)) ||| (p3.toInt64 &&& (4294967295 : Int64))) >>> ((8 : Int32).toInt64 &&& 63)).toInt32.toInt8.toInt32.toInt8.toInt32) 5 (p1 + (2 : Int32)).toNatClampNeg (((p2.toInt64 <<< ((32 : Int32).toInt64 &&& 63)) ||| (p3.toInt64 &&& (4294967295 : Int64))) >>> ((16 : Int32).toInt64 &&& 63)).toInt32.toInt8.toInt32.toInt8.toInt32) 5 (p1 + (3 : Int32)).toNatClampNeg (((p2.toInt64 <<< ((32 : Int32).toInt64 &&& 63)) ||| (p3.toInt64 &&& (4294967295 : Int64))) >>> ((24 : Int32).toInt64 &&& 63)).toInt32.toInt8.toInt32.toInt8.toInt32) 5 (p1 + (4 : Int32)).toNatClampNeg (((p2.toInt64 <<< ((32 : Int32).toInt64 &&& 63)) ||| (p3.toInt64 &&& (4294967295 : Int64))) >>> ((32 : Int32).toInt64 &&& 63)).toInt32.toInt8.toInt32.toInt8.toInt32) 5 (p1 + (5 : Int32)).toNatClampNeg (((p2.toInt64 <<< ((32 : Int32).toInt64 &&& 63)) ||| (p3.toInt64 &&& (4294967295 : Int64))) >>> ((40 : Int32).toInt64 &&& 63)).toInt32.toInt8.toInt32.toInt8.toInt32) 5 (p1 + (6 : Int32)).toNatClampNeg (((p2.toInt64 <<< ((32 : Int32).toInt64 &&& 63)) ||| (p3.toInt64 &&& (4294967295 : Int64))) >>> ((48 : Int32).toInt64 &&& 63)).toInt32.toInt8.toInt32.toInt8.toInt32) 5 (p1 + (7 : Int32)).toNatClampNeg (((p2.toInt64 <<< ((32 : Int32).toInt64 &&& 63)) ||| (p3.toInt64 &&& (4294967295 : Int64))) >>> ((56 : Int32).toInt64 &&& 63)).toInt32.toInt8.toInt32.toInt8.toInt32) jx_L0 (jx_R 227)), 227, 1572950) := by
  refine jx_Wr.of hT2 (by decide) rfl (Nat.le_of_ble_eq_true rfl) ?_
  intro p l e R s m args below meth c E hl F hZ htb hRc hRs
  show jw p l e R s m args below meth c E 5 227 1572950 _ 0 [(0, .ref 0), (1, .int p1), (2, .long ((p2.toInt64 <<< ((32 : Int32).toInt64 &&& 63)) ||| (p3.toInt64 &&& (4294967295 : Int64))))] [] (jv_H (jx_K 227) jx_If jx_L0 (jx_R 227)) 227 1572950
  have hRc : R.cells = 227 - 227 := hRc
  have hRs : R.slots = 1572950 - 1572950 := hRs
  refine jw.steps F jx_i450 3 (pc' := 3) (l' := [(0, .ref 0), (1, .int p1), (2, .long ((p2.toInt64 <<< ((32 : Int32).toInt64 &&& 63)) ||| (p3.toInt64 &&& (4294967295 : Int64))))]) (st' := [.long ((p2.toInt64 <<< ((32 : Int32).toInt64 &&& 63)) ||| (p3.toInt64 &&& (4294967295 : Int64))), .int p1, .ref 0]) rfl ?_
  refine jw.ca hTb F jx_i450 (pc' := 6) (S' := []) rfl jv_i431 [.ref 0, .int p1, .long ((p2.toInt64 <<< ((32 : Int32).toInt64 &&& 63)) ||| (p3.toInt64 &&& (4294967295 : Int64)))] rfl rfl rfl rfl (jx_cal2 rfl (jv_H_at rfl) rfl rfl) rfl (jx_e185 p0 p1 p2 p3 p4 p5 g1 g2) (by omega) (by omega) rfl rfl ?_
  refine jw.steps F jx_i450 2 (pc' := 14) (l' := [(0, .ref 0), (1, .int p1), (2, .long ((p2.toInt64 <<< ((32 : Int32).toInt64 &&& 63)) ||| (p3.toInt64 &&& (4294967295 : Int64))))]) (st' := [.int (0 : Int32)]) rfl ?_
  exact jw.ret F jx_i450 rfl rfl

set_option maxRecDepth 100000 in
/-- ProgramBoxModel$Store.isDesk -/
theorem jx_e187 (p0 : Int32) (p1 : Int32) (p2 : Int32) (p3 : Int32) (p4 : Int32) (p5 : Int32) (g1 : ¬ p1 < (0 : Int32)) (g2 : ¬ (504 : Int32) < p1) : jv_Ms 326 [.int p1, .int (8 : Int32)] (jv_H (jx_K 227) (jv_u (jv_u (jv_u (jv_u (jv_u (jv_u (jv_u (jv_u jx_If 5 (p1 + (0 : Int32)).toNatClampNeg (((p2.toInt64 <<< ((32 : Int32).toInt64 &&& 63)) ||| (p3.toInt64 &&& (4294967295 : Int64))) >>> ((0 : Int32).toInt64 &&& 63)).toInt32.toInt8.toInt32.toInt8.toInt32) 5 (p1 + (1 : Int32)).toNatClampNeg (((p2.toInt64 <<< ((32 : Int32).toInt64 &&& 63)) ||| (p3.toInt64 &&& (4294967295 : Int64))) >>> ((8 : Int32).toInt64 &&& 63)).toInt32.toInt8.toInt32.toInt8.toInt32) 5 (p1 + (2 : Int32)).toNatClampNeg (((p2.toInt64 <<< ((32 : Int32).toInt64 &&& 63)) ||| (p3.toInt64 &&& (4294967295 : Int64))) >>> ((16 : Int32).toInt64 &&& 63)).toInt32.toInt8.toInt32.toInt8.toInt32) 5 (p1 + (3 : Int32)).toNatClampNeg (((p2.toInt64 <<< ((32 : Int32).toInt64 &&& 63)) ||| (p3.toInt64 &&& (4294967295 : Int64))) >>> ((24 : Int32).toInt64 &&& 63)).toInt32.toInt8.toInt32.toInt8.toInt32) 5 (p1 + (4 : Int32)).toNatClampNeg (((p2.toInt64 <<< ((32 : Int32).toInt64 &&& 63)) ||| (p3.toInt64 &&& (4294967295 : Int64))) >>> ((32 : Int32).toInt64 &&& 63)).toInt32.toInt8.toInt32.toInt8.toInt32) 5 (p1 + (5 : Int32)).toNatClampNeg (((p2.toInt64 <<< ((32 : Int32).toInt64 &&& 63)) ||| (p3.toInt64 &&& (4294967295 : Int64))) >>> ((40 : Int32).toInt64 &&& 63)).toInt32.toInt8.toInt32.toInt8.toInt32) 5 (p1 + (6 : Int32)).toNatClampNeg (((p2.toInt64 <<< ((32 : Int32).toInt64 &&& 63)) ||| (p3.toInt64 &&& (4294967295 : Int64))) >>> ((48 : Int32).toInt64 &&& 63)).toInt32.toInt8.toInt32.toInt8.toInt32) 5 (p1 + (7 : Int32)).toNatClampNeg (((p2.toInt64 <<< ((32 : Int32).toInt64 &&& 63)) ||| (p3.toInt64 &&& (4294967295 : Int64))) >>> ((56 : Int32).toInt64 &&& 63)).toInt32.toInt8.toInt32.toInt8.toInt32) jx_L0 (jx_R 227)) 227 1572950 (some (.int (1 : Int32)), (jv_H (jx_K 227) (jv_u (jv_u (jv_u (jv_u (jv_u (jv_u (jv_u (jv_u jx_If 5 (p1 + (0 : Int32)).toNatClampNeg (((p2.toInt64 <<< ((32 : Int32).toInt64 &&& 63)) ||| (p3.toInt64 &&& (4294967295 : Int64))) >>> ((0 : Int32).toInt64 &&& 63)).toInt32.toInt8.toInt32.toInt8.toInt32) 5 (p1 + (1 : Int32)).toNatClampNeg (((p2.toInt64 <<< ((32 : Int32).toInt64 &&& 63)) ||| (p3.toInt64 &&& (4294967295 : Int64))) >>> ((8 : Int32).toInt64 &&& 63)).toInt32.toInt8.toInt32.toInt8.toInt32) 5 (p1 + (2 : Int32)).toNatClampNeg (((p2.toInt64 <<< ((32 : Int32).toInt64 &&& 63)) ||| (p3.toInt64 &&& (4294967295 : Int64))) >>> ((16 : Int32).toInt64 &&& 63)).toInt32.toInt8.toInt32.toInt8.toInt32) 5 (p1 + (3 : Int32)).toNatClampNeg (((p2.toInt64 <<< ((32 : Int32).toInt64 &&& 63)) ||| (p3.toInt64 &&& (4294967295 : Int64))) >>> ((24 : Int32).toInt64 &&& 63)).toInt32.toInt8.toInt32.toInt8.toInt32) 5 (p1 + (4 : Int32)).toNatClampNeg (((p2.toInt64 <<< ((32 : Int32).toInt64 &&& 63)) ||| (p3.toInt64 &&& (4294967295 : Int64))) >>> ((32 : Int32).toInt64 &&& 63)).toInt32.toInt8.toInt32.toInt8.toInt32) 5 (p1 + (5 : Int32)).toNatClampNeg (((p2.toInt64 <<< ((32 : Int32).toInt64 &&& 63)) ||| (p3.toInt64 &&& (4294967295 : Int64))) >>> ((40 : Int32).toInt64 &&& 63)).toInt32.toInt8.toInt32.toInt8.toInt32) 5 (p1 + (6 : Int32)).toNatClampNeg (((p2.toInt64 <<< ((32 : Int32).toInt64 &&& 63)) ||| (p3.toInt64 &&& (4294967295 : Int64))) >>> ((48 : Int32).toInt64 &&& 63)).toInt32.toInt8.toInt32.toInt8.toInt32) 5 (p1 + (7 : Int32)).toNatClampNeg (((p2.toInt64 <<< ((32 : Int32).toInt64 &&& 63)) ||| (p3.toInt64 &&& (4294967295 : Int64))) >>> ((56 : Int32).toInt64 &&& 63)).toInt32.toInt8.toInt32.toInt8.toInt32) jx_L0 (jx_R 227)), 227, 1572950) := by
  show jv_Ev 326 0 [(0, .int p1), (1, .int (8 : Int32))] [] (jv_H (jx_K 227) (jv_u (jv_u (jv_u (jv_u (jv_u (jv_u (jv_u (jv_u jx_If 5 (p1 + (0 : Int32)).toNatClampNeg (((p2.toInt64 <<< ((32 : Int32).toInt64 &&& 63)) ||| (p3.toInt64 &&& (4294967295 : Int64))) >>> ((0 : Int32).toInt64 &&& 63)).toInt32.toInt8.toInt32.toInt8.toInt32) 5 (p1 + (1 : Int32)).toNatClampNeg (((p2.toInt64 <<< ((32 : Int32).toInt64 &&& 63)) ||| (p3.toInt64 &&& (4294967295 : Int64))) >>> ((8 : Int32).toInt64 &&& 63)).toInt32.toInt8.toInt32.toInt8.toInt32) 5 (p1 + (2 : Int32)).toNatClampNeg (((p2.toInt64 <<< ((32 : Int32).toInt64 &&& 63)) ||| (p3.toInt64 &&& (4294967295 : Int64))) >>> ((16 : Int32).toInt64 &&& 63)).toInt32.toInt8.toInt32.toInt8.toInt32) 5 (p1 + (3 : Int32)).toNatClampNeg (((p2.toInt64 <<< ((32 : Int32).toInt64 &&& 63)) ||| (p3.toInt64 &&& (4294967295 : Int64))) >>> ((24 : Int32).toInt64 &&& 63)).toInt32.toInt8.toInt32.toInt8.toInt32) 5 (p1 + (4 : Int32)).toNatClampNeg (((p2.toInt64 <<< ((32 : Int32).toInt64 &&& 63)) ||| (p3.toInt64 &&& (4294967295 : Int64))) >>> ((32 : Int32).toInt64 &&& 63)).toInt32.toInt8.toInt32.toInt8.toInt32) 5 (p1 + (5 : Int32)).toNatClampNeg (((p2.toInt64 <<< ((32 : Int32).toInt64 &&& 63)) ||| (p3.toInt64 &&& (4294967295 : Int64))) >>> ((40 : Int32).toInt64 &&& 63)).toInt32.toInt8.toInt32.toInt8.toInt32) 5 (p1 + (6 : Int32)).toNatClampNeg (((p2.toInt64 <<< ((32 : Int32).toInt64 &&& 63)) ||| (p3.toInt64 &&& (4294967295 : Int64))) >>> ((48 : Int32).toInt64 &&& 63)).toInt32.toInt8.toInt32.toInt8.toInt32) 5 (p1 + (7 : Int32)).toNatClampNeg (((p2.toInt64 <<< ((32 : Int32).toInt64 &&& 63)) ||| (p3.toInt64 &&& (4294967295 : Int64))) >>> ((56 : Int32).toInt64 &&& 63)).toInt32.toInt8.toInt32.toInt8.toInt32) jx_L0 (jx_R 227)) 227 1572950 _
  refine jv_Ev.steps jv_i326 1 (pc' := 1) (l' := [(0, .int p1), (1, .int (8 : Int32))]) (st' := [.int p1]) rfl ?_
  refine jv_Ev.br jv_i326 (pc' := 4) (st' := []) rfl (jv_bi_lt.trans (jx_gof g1)) ?_
  refine jv_Ev.steps jv_i326 4 (pc' := 10) (l' := [(0, .int p1), (1, .int (8 : Int32))]) (st' := [.int (504 : Int32), .int p1]) rfl ?_
  refine jv_Ev.br jv_i326 (pc' := 13) (st' := []) rfl (jv_bc_gt.trans (jx_gof g2)) ?_
  refine jv_Ev.steps jv_i326 2 (pc' := 18) (l' := [(0, .int p1), (1, .int (8 : Int32))]) (st' := [.int (1 : Int32)]) rfl ?_
  exact jv_Ev.ret jv_i326 rfl (jv_ret_b (by decide))

set_option maxRecDepth 100000 in
theorem jv_i328 : jv_I 328 6 none 0 0 jv_c328 := ⟨rfl, rfl, rfl, rfl, rfl⟩
set_option maxRecDepth 100000 in
/-- ProgramBoxModel$Store.put -/
theorem jx_e188 (p0 : Int32) (p1 : Int32) (p2 : Int32) (p3 : Int32) (p4 : Int32) (p5 : Int32) (g1 : ¬ p1 < (0 : Int32)) (g2 : ¬ (504 : Int32) < p1) : jv_Ms 328 [.ref 181, .int p1, .int (8 : Int32), .long ((p2.toInt64 <<< ((32 : Int32).toInt64 &&& 63)) ||| (p3.toInt64 &&& (4294967295 : Int64)))] (jv_H (jx_K 227) (jv_u (jv_u (jv_u (jv_u (jv_u (jv_u (jv_u (jv_u (jv_u jx_If 5 (p1 + (0 : Int32)).toNatClampNeg (((p2.toInt64 <<< ((32 : Int32).toInt64 &&& 63)) ||| (p3.toInt64 &&& (4294967295 : Int64))) >>> ((0 : Int32).toInt64 &&& 63)).toInt32.toInt8.toInt32.toInt8.toInt32) 5 (p1 + (1 : Int32)).toNatClampNeg (((p2.toInt64 <<< ((32 : Int32).toInt64 &&& 63)) ||| (p3.toInt64 &&& (4294967295 : Int64))) >>> ((8 : Int32).toInt64 &&& 63)).toInt32.toInt8.toInt32.toInt8.toInt32) 5 (p1 + (2 : Int32)).toNatClampNeg (((p2.toInt64 <<< ((32 : Int32).toInt64 &&& 63)) ||| (p3.toInt64 &&& (4294967295 : Int64))) >>> ((16 : Int32).toInt64 &&& 63)).toInt32.toInt8.toInt32.toInt8.toInt32) 5 (p1 + (3 : Int32)).toNatClampNeg (((p2.toInt64 <<< ((32 : Int32).toInt64 &&& 63)) ||| (p3.toInt64 &&& (4294967295 : Int64))) >>> ((24 : Int32).toInt64 &&& 63)).toInt32.toInt8.toInt32.toInt8.toInt32) 5 (p1 + (4 : Int32)).toNatClampNeg (((p2.toInt64 <<< ((32 : Int32).toInt64 &&& 63)) ||| (p3.toInt64 &&& (4294967295 : Int64))) >>> ((32 : Int32).toInt64 &&& 63)).toInt32.toInt8.toInt32.toInt8.toInt32) 5 (p1 + (5 : Int32)).toNatClampNeg (((p2.toInt64 <<< ((32 : Int32).toInt64 &&& 63)) ||| (p3.toInt64 &&& (4294967295 : Int64))) >>> ((40 : Int32).toInt64 &&& 63)).toInt32.toInt8.toInt32.toInt8.toInt32) 5 (p1 + (6 : Int32)).toNatClampNeg (((p2.toInt64 <<< ((32 : Int32).toInt64 &&& 63)) ||| (p3.toInt64 &&& (4294967295 : Int64))) >>> ((48 : Int32).toInt64 &&& 63)).toInt32.toInt8.toInt32.toInt8.toInt32) 5 (p1 + (7 : Int32)).toNatClampNeg (((p2.toInt64 <<< ((32 : Int32).toInt64 &&& 63)) ||| (p3.toInt64 &&& (4294967295 : Int64))) >>> ((56 : Int32).toInt64 &&& 63)).toInt32.toInt8.toInt32.toInt8.toInt32) 180 0 (0 : Int32)) jx_L0 (jx_R 227)) 227 1572950 (none, (jv_H (jx_K 227) (jv_u (jv_u (jv_u (jv_u (jv_u (jv_u (jv_u (jv_u (jv_u (jv_u (jv_u (jv_u (jv_u (jv_u (jv_u (jv_u (jv_u jx_If 5 (p1 + (0 : Int32)).toNatClampNeg (((p2.toInt64 <<< ((32 : Int32).toInt64 &&& 63)) ||| (p3.toInt64 &&& (4294967295 : Int64))) >>> ((0 : Int32).toInt64 &&& 63)).toInt32.toInt8.toInt32.toInt8.toInt32) 5 (p1 + (1 : Int32)).toNatClampNeg (((p2.toInt64 <<< ((32 : Int32).toInt64 &&& 63)) ||| (p3.toInt64 &&& (4294967295 : Int64))) >>> ((8 : Int32).toInt64 &&& 63)).toInt32.toInt8.toInt32.toInt8.toInt32) 5 (p1 + (2 : Int32)).toNatClampNeg (((p2.toInt64 <<< ((32 : Int32).toInt64 &&& 63)) ||| (p3.toInt64 &&& (4294967295 : Int64))) >>> ((16 : Int32).toInt64 &&& 63)).toInt32.toInt8.toInt32.toInt8.toInt32) 5 (p1 + (3 : Int32)).toNatClampNeg (((p2.toInt64 <<< ((32 : Int32).toInt64 &&& 63)) ||| (p3.toInt64 &&& (4294967295 : Int64))) >>> ((24 : Int32).toInt64 &&& 63)).toInt32.toInt8.toInt32.toInt8.toInt32) 5 (p1 + (4 : Int32)).toNatClampNeg (((p2.toInt64 <<< ((32 : Int32).toInt64 &&& 63)) ||| (p3.toInt64 &&& (4294967295 : Int64))) >>> ((32 : Int32).toInt64 &&& 63)).toInt32.toInt8.toInt32.toInt8.toInt32) 5 (p1 + (5 : Int32)).toNatClampNeg (((p2.toInt64 <<< ((32 : Int32).toInt64 &&& 63)) ||| (p3.toInt64 &&& (4294967295 : Int64))) >>> ((40 : Int32).toInt64 &&& 63)).toInt32.toInt8.toInt32.toInt8.toInt32) 5 (p1 + (6 : Int32)).toNatClampNeg (((p2.toInt64 <<< ((32 : Int32).toInt64 &&& 63)) ||| (p3.toInt64 &&& (4294967295 : Int64))) >>> ((48 : Int32).toInt64 &&& 63)).toInt32.toInt8.toInt32.toInt8.toInt32) 5 (p1 + (7 : Int32)).toNatClampNeg (((p2.toInt64 <<< ((32 : Int32).toInt64 &&& 63)) ||| (p3.toInt64 &&& (4294967295 : Int64))) >>> ((56 : Int32).toInt64 &&& 63)).toInt32.toInt8.toInt32.toInt8.toInt32) 180 0 (0 : Int32)) 181 (p1 + (0 : Int32)).toNatClampNeg (((p2.toInt64 <<< ((32 : Int32).toInt64 &&& 63)) ||| (p3.toInt64 &&& (4294967295 : Int64))) >>> ((0 : Int32).toInt64 &&& 63)).toInt32.toInt8.toInt32.toInt8.toInt32) 181 (p1 + (1 : Int32)).toNatClampNeg (((p2.toInt64 <<< ((32 : Int32).toInt64 &&& 63)) ||| (p3.toInt64 &&& (4294967295 : Int64))) >>> ((8 : Int32).toInt64 &&& 63)).toInt32.toInt8.toInt32.toInt8.toInt32) 181 (p1 + (2 : Int32)).toNatClampNeg (((p2.toInt64 <<< ((32 : Int32).toInt64 &&& 63)) ||| (p3.toInt64 &&& (4294967295 : Int64))) >>> ((16 : Int32).toInt64 &&& 63)).toInt32.toInt8.toInt32.toInt8.toInt32) 181 (p1 + (3 : Int32)).toNatClampNeg (((p2.toInt64 <<< ((32 : Int32).toInt64 &&& 63)) ||| (p3.toInt64 &&& (4294967295 : Int64))) >>> ((24 : Int32).toInt64 &&& 63)).toInt32.toInt8.toInt32.toInt8.toInt32) 181 (p1 + (4 : Int32)).toNatClampNeg (((p2.toInt64 <<< ((32 : Int32).toInt64 &&& 63)) ||| (p3.toInt64 &&& (4294967295 : Int64))) >>> ((32 : Int32).toInt64 &&& 63)).toInt32.toInt8.toInt32.toInt8.toInt32) 181 (p1 + (5 : Int32)).toNatClampNeg (((p2.toInt64 <<< ((32 : Int32).toInt64 &&& 63)) ||| (p3.toInt64 &&& (4294967295 : Int64))) >>> ((40 : Int32).toInt64 &&& 63)).toInt32.toInt8.toInt32.toInt8.toInt32) 181 (p1 + (6 : Int32)).toNatClampNeg (((p2.toInt64 <<< ((32 : Int32).toInt64 &&& 63)) ||| (p3.toInt64 &&& (4294967295 : Int64))) >>> ((48 : Int32).toInt64 &&& 63)).toInt32.toInt8.toInt32.toInt8.toInt32) 181 (p1 + (7 : Int32)).toNatClampNeg (((p2.toInt64 <<< ((32 : Int32).toInt64 &&& 63)) ||| (p3.toInt64 &&& (4294967295 : Int64))) >>> ((56 : Int32).toInt64 &&& 63)).toInt32.toInt8.toInt32.toInt8.toInt32) jx_L0 (jx_R 227)), 227, 1572950) := by
  show jv_Ev 328 0 [(0, .ref 181), (1, .int p1), (2, .int (8 : Int32)), (3, .long ((p2.toInt64 <<< ((32 : Int32).toInt64 &&& 63)) ||| (p3.toInt64 &&& (4294967295 : Int64))))] [] (jv_H (jx_K 227) (jv_u (jv_u (jv_u (jv_u (jv_u (jv_u (jv_u (jv_u (jv_u jx_If 5 (p1 + (0 : Int32)).toNatClampNeg (((p2.toInt64 <<< ((32 : Int32).toInt64 &&& 63)) ||| (p3.toInt64 &&& (4294967295 : Int64))) >>> ((0 : Int32).toInt64 &&& 63)).toInt32.toInt8.toInt32.toInt8.toInt32) 5 (p1 + (1 : Int32)).toNatClampNeg (((p2.toInt64 <<< ((32 : Int32).toInt64 &&& 63)) ||| (p3.toInt64 &&& (4294967295 : Int64))) >>> ((8 : Int32).toInt64 &&& 63)).toInt32.toInt8.toInt32.toInt8.toInt32) 5 (p1 + (2 : Int32)).toNatClampNeg (((p2.toInt64 <<< ((32 : Int32).toInt64 &&& 63)) ||| (p3.toInt64 &&& (4294967295 : Int64))) >>> ((16 : Int32).toInt64 &&& 63)).toInt32.toInt8.toInt32.toInt8.toInt32) 5 (p1 + (3 : Int32)).toNatClampNeg (((p2.toInt64 <<< ((32 : Int32).toInt64 &&& 63)) ||| (p3.toInt64 &&& (4294967295 : Int64))) >>> ((24 : Int32).toInt64 &&& 63)).toInt32.toInt8.toInt32.toInt8.toInt32) 5 (p1 + (4 : Int32)).toNatClampNeg (((p2.toInt64 <<< ((32 : Int32).toInt64 &&& 63)) ||| (p3.toInt64 &&& (4294967295 : Int64))) >>> ((32 : Int32).toInt64 &&& 63)).toInt32.toInt8.toInt32.toInt8.toInt32) 5 (p1 + (5 : Int32)).toNatClampNeg (((p2.toInt64 <<< ((32 : Int32).toInt64 &&& 63)) ||| (p3.toInt64 &&& (4294967295 : Int64))) >>> ((40 : Int32).toInt64 &&& 63)).toInt32.toInt8.toInt32.toInt8.toInt32) 5 (p1 + (6 : Int32)).toNatClampNeg (((p2.toInt64 <<< ((32 : Int32).toInt64 &&& 63)) ||| (p3.toInt64 &&& (4294967295 : Int64))) >>> ((48 : Int32).toInt64 &&& 63)).toInt32.toInt8.toInt32.toInt8.toInt32) 5 (p1 + (7 : Int32)).toNatClampNeg (((p2.toInt64 <<< ((32 : Int32).toInt64 &&& 63)) ||| (p3.toInt64 &&& (4294967295 : Int64))) >>> ((56 : Int32).toInt64 &&& 63)).toInt32.toInt8.toInt32.toInt8.toInt32) 180 0 (0 : Int32)) jx_L0 (jx_R 227)) 227 1572950 _
  refine jv_Ev.steps jv_i328 4 (pc' := 6) (l' := [(5, .int (0 : Int32)), (0, .ref 181), (1, .int p1), (2, .int (8 : Int32)), (3, .long ((p2.toInt64 <<< ((32 : Int32).toInt64 &&& 63)) ||| (p3.toInt64 &&& (4294967295 : Int64))))]) (st' := [.int (8 : Int32), .int (0 : Int32)]) rfl ?_
  refine jv_Ev.br jv_i328 (pc' := 9) (st' := []) rfl (jv_bc_ge.trans (jx_gof (by decide))) ?_
  refine jv_Ev.steps jv_i328 11 (pc' := 23) (l' := [(5, .int (0 : Int32)), (0, .ref 181), (1, .int p1), (2, .int (8 : Int32)), (3, .long ((p2.toInt64 <<< ((32 : Int32).toInt64 &&& 63)) ||| (p3.toInt64 &&& (4294967295 : Int64))))]) (st' := [.int (((p2.toInt64 <<< ((32 : Int32).toInt64 &&& 63)) ||| (p3.toInt64 &&& (4294967295 : Int64))) >>> ((0 : Int32).toInt64 &&& 63)).toInt32.toInt8.toInt32, .int (p1 + (0 : Int32)), .ref 181]) rfl ?_
  refine jv_Ev.m jv_i328 (pc' := 24) (st' := []) rfl rfl (jv_m_bast rfl (jx_ixa (k := 0) g1 g2 (by decide))) ?_
  refine jv_Ev.steps jv_i328 4 (pc' := 6) (l' := [(5, .int (1 : Int32)), (0, .ref 181), (1, .int p1), (2, .int (8 : Int32)), (3, .long ((p2.toInt64 <<< ((32 : Int32).toInt64 &&& 63)) ||| (p3.toInt64 &&& (4294967295 : Int64))))]) (st' := [.int (8 : Int32), .int (1 : Int32)]) rfl ?_
  refine jv_Ev.br jv_i328 (pc' := 9) (st' := []) rfl (jv_bc_ge.trans (jx_gof (by decide))) ?_
  refine jv_Ev.steps jv_i328 11 (pc' := 23) (l' := [(5, .int (1 : Int32)), (0, .ref 181), (1, .int p1), (2, .int (8 : Int32)), (3, .long ((p2.toInt64 <<< ((32 : Int32).toInt64 &&& 63)) ||| (p3.toInt64 &&& (4294967295 : Int64))))]) (st' := [.int (((p2.toInt64 <<< ((32 : Int32).toInt64 &&& 63)) ||| (p3.toInt64 &&& (4294967295 : Int64))) >>> ((8 : Int32).toInt64 &&& 63)).toInt32.toInt8.toInt32, .int (p1 + (1 : Int32)), .ref 181]) rfl ?_
  refine jv_Ev.m jv_i328 (pc' := 24) (st' := []) rfl rfl (jv_m_bast rfl (jx_ixa (k := 1) g1 g2 (by decide))) ?_
  refine jv_Ev.steps jv_i328 4 (pc' := 6) (l' := [(5, .int (2 : Int32)), (0, .ref 181), (1, .int p1), (2, .int (8 : Int32)), (3, .long ((p2.toInt64 <<< ((32 : Int32).toInt64 &&& 63)) ||| (p3.toInt64 &&& (4294967295 : Int64))))]) (st' := [.int (8 : Int32), .int (2 : Int32)]) rfl ?_
  refine jv_Ev.br jv_i328 (pc' := 9) (st' := []) rfl (jv_bc_ge.trans (jx_gof (by decide))) ?_
  refine jv_Ev.steps jv_i328 11 (pc' := 23) (l' := [(5, .int (2 : Int32)), (0, .ref 181), (1, .int p1), (2, .int (8 : Int32)), (3, .long ((p2.toInt64 <<< ((32 : Int32).toInt64 &&& 63)) ||| (p3.toInt64 &&& (4294967295 : Int64))))]) (st' := [.int (((p2.toInt64 <<< ((32 : Int32).toInt64 &&& 63)) ||| (p3.toInt64 &&& (4294967295 : Int64))) >>> ((16 : Int32).toInt64 &&& 63)).toInt32.toInt8.toInt32, .int (p1 + (2 : Int32)), .ref 181]) rfl ?_
  refine jv_Ev.m jv_i328 (pc' := 24) (st' := []) rfl rfl (jv_m_bast rfl (jx_ixa (k := 2) g1 g2 (by decide))) ?_
  refine jv_Ev.steps jv_i328 4 (pc' := 6) (l' := [(5, .int (3 : Int32)), (0, .ref 181), (1, .int p1), (2, .int (8 : Int32)), (3, .long ((p2.toInt64 <<< ((32 : Int32).toInt64 &&& 63)) ||| (p3.toInt64 &&& (4294967295 : Int64))))]) (st' := [.int (8 : Int32), .int (3 : Int32)]) rfl ?_
  refine jv_Ev.br jv_i328 (pc' := 9) (st' := []) rfl (jv_bc_ge.trans (jx_gof (by decide))) ?_
  refine jv_Ev.steps jv_i328 11 (pc' := 23) (l' := [(5, .int (3 : Int32)), (0, .ref 181), (1, .int p1), (2, .int (8 : Int32)), (3, .long ((p2.toInt64 <<< ((32 : Int32).toInt64 &&& 63)) ||| (p3.toInt64 &&& (4294967295 : Int64))))]) (st' := [.int (((p2.toInt64 <<< ((32 : Int32).toInt64 &&& 63)) ||| (p3.toInt64 &&& (4294967295 : Int64))) >>> ((24 : Int32).toInt64 &&& 63)).toInt32.toInt8.toInt32, .int (p1 + (3 : Int32)), .ref 181]) rfl ?_
  refine jv_Ev.m jv_i328 (pc' := 24) (st' := []) rfl rfl (jv_m_bast rfl (jx_ixa (k := 3) g1 g2 (by decide))) ?_
  refine jv_Ev.steps jv_i328 4 (pc' := 6) (l' := [(5, .int (4 : Int32)), (0, .ref 181), (1, .int p1), (2, .int (8 : Int32)), (3, .long ((p2.toInt64 <<< ((32 : Int32).toInt64 &&& 63)) ||| (p3.toInt64 &&& (4294967295 : Int64))))]) (st' := [.int (8 : Int32), .int (4 : Int32)]) rfl ?_
  refine jv_Ev.br jv_i328 (pc' := 9) (st' := []) rfl (jv_bc_ge.trans (jx_gof (by decide))) ?_
  refine jv_Ev.steps jv_i328 11 (pc' := 23) (l' := [(5, .int (4 : Int32)), (0, .ref 181), (1, .int p1), (2, .int (8 : Int32)), (3, .long ((p2.toInt64 <<< ((32 : Int32).toInt64 &&& 63)) ||| (p3.toInt64 &&& (4294967295 : Int64))))]) (st' := [.int (((p2.toInt64 <<< ((32 : Int32).toInt64 &&& 63)) ||| (p3.toInt64 &&& (4294967295 : Int64))) >>> ((32 : Int32).toInt64 &&& 63)).toInt32.toInt8.toInt32, .int (p1 + (4 : Int32)), .ref 181]) rfl ?_
  refine jv_Ev.m jv_i328 (pc' := 24) (st' := []) rfl rfl (jv_m_bast rfl (jx_ixa (k := 4) g1 g2 (by decide))) ?_
  refine jv_Ev.steps jv_i328 4 (pc' := 6) (l' := [(5, .int (5 : Int32)), (0, .ref 181), (1, .int p1), (2, .int (8 : Int32)), (3, .long ((p2.toInt64 <<< ((32 : Int32).toInt64 &&& 63)) ||| (p3.toInt64 &&& (4294967295 : Int64))))]) (st' := [.int (8 : Int32), .int (5 : Int32)]) rfl ?_
  refine jv_Ev.br jv_i328 (pc' := 9) (st' := []) rfl (jv_bc_ge.trans (jx_gof (by decide))) ?_
  refine jv_Ev.steps jv_i328 11 (pc' := 23) (l' := [(5, .int (5 : Int32)), (0, .ref 181), (1, .int p1), (2, .int (8 : Int32)), (3, .long ((p2.toInt64 <<< ((32 : Int32).toInt64 &&& 63)) ||| (p3.toInt64 &&& (4294967295 : Int64))))]) (st' := [.int (((p2.toInt64 <<< ((32 : Int32).toInt64 &&& 63)) ||| (p3.toInt64 &&& (4294967295 : Int64))) >>> ((40 : Int32).toInt64 &&& 63)).toInt32.toInt8.toInt32, .int (p1 + (5 : Int32)), .ref 181]) rfl ?_
  refine jv_Ev.m jv_i328 (pc' := 24) (st' := []) rfl rfl (jv_m_bast rfl (jx_ixa (k := 5) g1 g2 (by decide))) ?_
  refine jv_Ev.steps jv_i328 4 (pc' := 6) (l' := [(5, .int (6 : Int32)), (0, .ref 181), (1, .int p1), (2, .int (8 : Int32)), (3, .long ((p2.toInt64 <<< ((32 : Int32).toInt64 &&& 63)) ||| (p3.toInt64 &&& (4294967295 : Int64))))]) (st' := [.int (8 : Int32), .int (6 : Int32)]) rfl ?_
  refine jv_Ev.br jv_i328 (pc' := 9) (st' := []) rfl (jv_bc_ge.trans (jx_gof (by decide))) ?_
  refine jv_Ev.steps jv_i328 11 (pc' := 23) (l' := [(5, .int (6 : Int32)), (0, .ref 181), (1, .int p1), (2, .int (8 : Int32)), (3, .long ((p2.toInt64 <<< ((32 : Int32).toInt64 &&& 63)) ||| (p3.toInt64 &&& (4294967295 : Int64))))]) (st' := [.int (((p2.toInt64 <<< ((32 : Int32).toInt64 &&& 63)) ||| (p3.toInt64 &&& (4294967295 : Int64))) >>> ((48 : Int32).toInt64 &&& 63)).toInt32.toInt8.toInt32, .int (p1 + (6 : Int32)), .ref 181]) rfl ?_
  refine jv_Ev.m jv_i328 (pc' := 24) (st' := []) rfl rfl (jv_m_bast rfl (jx_ixa (k := 6) g1 g2 (by decide))) ?_
  refine jv_Ev.steps jv_i328 4 (pc' := 6) (l' := [(5, .int (7 : Int32)), (0, .ref 181), (1, .int p1), (2, .int (8 : Int32)), (3, .long ((p2.toInt64 <<< ((32 : Int32).toInt64 &&& 63)) ||| (p3.toInt64 &&& (4294967295 : Int64))))]) (st' := [.int (8 : Int32), .int (7 : Int32)]) rfl ?_
  refine jv_Ev.br jv_i328 (pc' := 9) (st' := []) rfl (jv_bc_ge.trans (jx_gof (by decide))) ?_
  refine jv_Ev.steps jv_i328 11 (pc' := 23) (l' := [(5, .int (7 : Int32)), (0, .ref 181), (1, .int p1), (2, .int (8 : Int32)), (3, .long ((p2.toInt64 <<< ((32 : Int32).toInt64 &&& 63)) ||| (p3.toInt64 &&& (4294967295 : Int64))))]) (st' := [.int (((p2.toInt64 <<< ((32 : Int32).toInt64 &&& 63)) ||| (p3.toInt64 &&& (4294967295 : Int64))) >>> ((56 : Int32).toInt64 &&& 63)).toInt32.toInt8.toInt32, .int (p1 + (7 : Int32)), .ref 181]) rfl ?_
  refine jv_Ev.m jv_i328 (pc' := 24) (st' := []) rfl rfl (jv_m_bast rfl (jx_ixa (k := 7) g1 g2 (by decide))) ?_
  refine jv_Ev.steps jv_i328 4 (pc' := 6) (l' := [(5, .int (8 : Int32)), (0, .ref 181), (1, .int p1), (2, .int (8 : Int32)), (3, .long ((p2.toInt64 <<< ((32 : Int32).toInt64 &&& 63)) ||| (p3.toInt64 &&& (4294967295 : Int64))))]) (st' := [.int (8 : Int32), .int (8 : Int32)]) rfl ?_
  refine jv_Ev.br jv_i328 (pc' := 30) (st' := []) rfl (jv_bc_ge.trans (jx_got (by decide))) ?_
  exact jv_Ev.ret jv_i328 rfl rfl

set_option maxRecDepth 100000 in
/-- ProgramBoxModel$Store.lay -/
theorem jx_e189 (p0 : Int32) (p1 : Int32) (p2 : Int32) (p3 : Int32) (p4 : Int32) (p5 : Int32) (g1 : ¬ p1 < (0 : Int32)) (g2 : ¬ (504 : Int32) < p1) : jv_Ms 330 [.ref 180, .int p1, .long ((p2.toInt64 <<< ((32 : Int32).toInt64 &&& 63)) ||| (p3.toInt64 &&& (4294967295 : Int64)))] (jv_H (jx_K 227) (jv_u (jv_u (jv_u (jv_u (jv_u (jv_u (jv_u (jv_u jx_If 5 (p1 + (0 : Int32)).toNatClampNeg (((p2.toInt64 <<< ((32 : Int32).toInt64 &&& 63)) ||| (p3.toInt64 &&& (4294967295 : Int64))) >>> ((0 : Int32).toInt64 &&& 63)).toInt32.toInt8.toInt32.toInt8.toInt32) 5 (p1 + (1 : Int32)).toNatClampNeg (((p2.toInt64 <<< ((32 : Int32).toInt64 &&& 63)) ||| (p3.toInt64 &&& (4294967295 : Int64))) >>> ((8 : Int32).toInt64 &&& 63)).toInt32.toInt8.toInt32.toInt8.toInt32) 5 (p1 + (2 : Int32)).toNatClampNeg (((p2.toInt64 <<< ((32 : Int32).toInt64 &&& 63)) ||| (p3.toInt64 &&& (4294967295 : Int64))) >>> ((16 : Int32).toInt64 &&& 63)).toInt32.toInt8.toInt32.toInt8.toInt32) 5 (p1 + (3 : Int32)).toNatClampNeg (((p2.toInt64 <<< ((32 : Int32).toInt64 &&& 63)) ||| (p3.toInt64 &&& (4294967295 : Int64))) >>> ((24 : Int32).toInt64 &&& 63)).toInt32.toInt8.toInt32.toInt8.toInt32) 5 (p1 + (4 : Int32)).toNatClampNeg (((p2.toInt64 <<< ((32 : Int32).toInt64 &&& 63)) ||| (p3.toInt64 &&& (4294967295 : Int64))) >>> ((32 : Int32).toInt64 &&& 63)).toInt32.toInt8.toInt32.toInt8.toInt32) 5 (p1 + (5 : Int32)).toNatClampNeg (((p2.toInt64 <<< ((32 : Int32).toInt64 &&& 63)) ||| (p3.toInt64 &&& (4294967295 : Int64))) >>> ((40 : Int32).toInt64 &&& 63)).toInt32.toInt8.toInt32.toInt8.toInt32) 5 (p1 + (6 : Int32)).toNatClampNeg (((p2.toInt64 <<< ((32 : Int32).toInt64 &&& 63)) ||| (p3.toInt64 &&& (4294967295 : Int64))) >>> ((48 : Int32).toInt64 &&& 63)).toInt32.toInt8.toInt32.toInt8.toInt32) 5 (p1 + (7 : Int32)).toNatClampNeg (((p2.toInt64 <<< ((32 : Int32).toInt64 &&& 63)) ||| (p3.toInt64 &&& (4294967295 : Int64))) >>> ((56 : Int32).toInt64 &&& 63)).toInt32.toInt8.toInt32.toInt8.toInt32) jx_L0 (jx_R 227)) 227 1572950 (none, (jv_H (jx_K 227) (jv_u (jv_u (jv_u (jv_u (jv_u (jv_u (jv_u (jv_u (jv_u (jv_u (jv_u (jv_u (jv_u (jv_u (jv_u (jv_u (jv_u jx_If 5 (p1 + (0 : Int32)).toNatClampNeg (((p2.toInt64 <<< ((32 : Int32).toInt64 &&& 63)) ||| (p3.toInt64 &&& (4294967295 : Int64))) >>> ((0 : Int32).toInt64 &&& 63)).toInt32.toInt8.toInt32.toInt8.toInt32) 5 (p1 + (1 : Int32)).toNatClampNeg (((p2.toInt64 <<< ((32 : Int32).toInt64 &&& 63)) ||| (p3.toInt64 &&& (4294967295 : Int64))) >>> ((8 : Int32).toInt64 &&& 63)).toInt32.toInt8.toInt32.toInt8.toInt32) 5 (p1 + (2 : Int32)).toNatClampNeg (((p2.toInt64 <<< ((32 : Int32).toInt64 &&& 63)) ||| (p3.toInt64 &&& (4294967295 : Int64))) >>> ((16 : Int32).toInt64 &&& 63)).toInt32.toInt8.toInt32.toInt8.toInt32) 5 (p1 + (3 : Int32)).toNatClampNeg (((p2.toInt64 <<< ((32 : Int32).toInt64 &&& 63)) ||| (p3.toInt64 &&& (4294967295 : Int64))) >>> ((24 : Int32).toInt64 &&& 63)).toInt32.toInt8.toInt32.toInt8.toInt32) 5 (p1 + (4 : Int32)).toNatClampNeg (((p2.toInt64 <<< ((32 : Int32).toInt64 &&& 63)) ||| (p3.toInt64 &&& (4294967295 : Int64))) >>> ((32 : Int32).toInt64 &&& 63)).toInt32.toInt8.toInt32.toInt8.toInt32) 5 (p1 + (5 : Int32)).toNatClampNeg (((p2.toInt64 <<< ((32 : Int32).toInt64 &&& 63)) ||| (p3.toInt64 &&& (4294967295 : Int64))) >>> ((40 : Int32).toInt64 &&& 63)).toInt32.toInt8.toInt32.toInt8.toInt32) 5 (p1 + (6 : Int32)).toNatClampNeg (((p2.toInt64 <<< ((32 : Int32).toInt64 &&& 63)) ||| (p3.toInt64 &&& (4294967295 : Int64))) >>> ((48 : Int32).toInt64 &&& 63)).toInt32.toInt8.toInt32.toInt8.toInt32) 5 (p1 + (7 : Int32)).toNatClampNeg (((p2.toInt64 <<< ((32 : Int32).toInt64 &&& 63)) ||| (p3.toInt64 &&& (4294967295 : Int64))) >>> ((56 : Int32).toInt64 &&& 63)).toInt32.toInt8.toInt32.toInt8.toInt32) 180 0 (0 : Int32)) 181 (p1 + (0 : Int32)).toNatClampNeg (((p2.toInt64 <<< ((32 : Int32).toInt64 &&& 63)) ||| (p3.toInt64 &&& (4294967295 : Int64))) >>> ((0 : Int32).toInt64 &&& 63)).toInt32.toInt8.toInt32.toInt8.toInt32) 181 (p1 + (1 : Int32)).toNatClampNeg (((p2.toInt64 <<< ((32 : Int32).toInt64 &&& 63)) ||| (p3.toInt64 &&& (4294967295 : Int64))) >>> ((8 : Int32).toInt64 &&& 63)).toInt32.toInt8.toInt32.toInt8.toInt32) 181 (p1 + (2 : Int32)).toNatClampNeg (((p2.toInt64 <<< ((32 : Int32).toInt64 &&& 63)) ||| (p3.toInt64 &&& (4294967295 : Int64))) >>> ((16 : Int32).toInt64 &&& 63)).toInt32.toInt8.toInt32.toInt8.toInt32) 181 (p1 + (3 : Int32)).toNatClampNeg (((p2.toInt64 <<< ((32 : Int32).toInt64 &&& 63)) ||| (p3.toInt64 &&& (4294967295 : Int64))) >>> ((24 : Int32).toInt64 &&& 63)).toInt32.toInt8.toInt32.toInt8.toInt32) 181 (p1 + (4 : Int32)).toNatClampNeg (((p2.toInt64 <<< ((32 : Int32).toInt64 &&& 63)) ||| (p3.toInt64 &&& (4294967295 : Int64))) >>> ((32 : Int32).toInt64 &&& 63)).toInt32.toInt8.toInt32.toInt8.toInt32) 181 (p1 + (5 : Int32)).toNatClampNeg (((p2.toInt64 <<< ((32 : Int32).toInt64 &&& 63)) ||| (p3.toInt64 &&& (4294967295 : Int64))) >>> ((40 : Int32).toInt64 &&& 63)).toInt32.toInt8.toInt32.toInt8.toInt32) 181 (p1 + (6 : Int32)).toNatClampNeg (((p2.toInt64 <<< ((32 : Int32).toInt64 &&& 63)) ||| (p3.toInt64 &&& (4294967295 : Int64))) >>> ((48 : Int32).toInt64 &&& 63)).toInt32.toInt8.toInt32.toInt8.toInt32) 181 (p1 + (7 : Int32)).toNatClampNeg (((p2.toInt64 <<< ((32 : Int32).toInt64 &&& 63)) ||| (p3.toInt64 &&& (4294967295 : Int64))) >>> ((56 : Int32).toInt64 &&& 63)).toInt32.toInt8.toInt32.toInt8.toInt32) jx_L0 (jx_R 227)), 227, 1572950) := by
  show jv_Ev 330 0 [(0, .ref 180), (1, .int p1), (2, .long ((p2.toInt64 <<< ((32 : Int32).toInt64 &&& 63)) ||| (p3.toInt64 &&& (4294967295 : Int64))))] [] (jv_H (jx_K 227) (jv_u (jv_u (jv_u (jv_u (jv_u (jv_u (jv_u (jv_u jx_If 5 (p1 + (0 : Int32)).toNatClampNeg (((p2.toInt64 <<< ((32 : Int32).toInt64 &&& 63)) ||| (p3.toInt64 &&& (4294967295 : Int64))) >>> ((0 : Int32).toInt64 &&& 63)).toInt32.toInt8.toInt32.toInt8.toInt32) 5 (p1 + (1 : Int32)).toNatClampNeg (((p2.toInt64 <<< ((32 : Int32).toInt64 &&& 63)) ||| (p3.toInt64 &&& (4294967295 : Int64))) >>> ((8 : Int32).toInt64 &&& 63)).toInt32.toInt8.toInt32.toInt8.toInt32) 5 (p1 + (2 : Int32)).toNatClampNeg (((p2.toInt64 <<< ((32 : Int32).toInt64 &&& 63)) ||| (p3.toInt64 &&& (4294967295 : Int64))) >>> ((16 : Int32).toInt64 &&& 63)).toInt32.toInt8.toInt32.toInt8.toInt32) 5 (p1 + (3 : Int32)).toNatClampNeg (((p2.toInt64 <<< ((32 : Int32).toInt64 &&& 63)) ||| (p3.toInt64 &&& (4294967295 : Int64))) >>> ((24 : Int32).toInt64 &&& 63)).toInt32.toInt8.toInt32.toInt8.toInt32) 5 (p1 + (4 : Int32)).toNatClampNeg (((p2.toInt64 <<< ((32 : Int32).toInt64 &&& 63)) ||| (p3.toInt64 &&& (4294967295 : Int64))) >>> ((32 : Int32).toInt64 &&& 63)).toInt32.toInt8.toInt32.toInt8.toInt32) 5 (p1 + (5 : Int32)).toNatClampNeg (((p2.toInt64 <<< ((32 : Int32).toInt64 &&& 63)) ||| (p3.toInt64 &&& (4294967295 : Int64))) >>> ((40 : Int32).toInt64 &&& 63)).toInt32.toInt8.toInt32.toInt8.toInt32) 5 (p1 + (6 : Int32)).toNatClampNeg (((p2.toInt64 <<< ((32 : Int32).toInt64 &&& 63)) ||| (p3.toInt64 &&& (4294967295 : Int64))) >>> ((48 : Int32).toInt64 &&& 63)).toInt32.toInt8.toInt32.toInt8.toInt32) 5 (p1 + (7 : Int32)).toNatClampNeg (((p2.toInt64 <<< ((32 : Int32).toInt64 &&& 63)) ||| (p3.toInt64 &&& (4294967295 : Int64))) >>> ((56 : Int32).toInt64 &&& 63)).toInt32.toInt8.toInt32.toInt8.toInt32) jx_L0 (jx_R 227)) 227 1572950 _
  refine jv_Ev.steps jv_i330 3 (pc' := 4) (l' := [(0, .ref 180), (1, .int p1), (2, .long ((p2.toInt64 <<< ((32 : Int32).toInt64 &&& 63)) ||| (p3.toInt64 &&& (4294967295 : Int64))))]) (st' := [.int (8 : Int32), .int p1, .ref 180]) rfl ?_
  refine jv_Ev.c jv_i330 (pc' := 7) (S' := [.int (1 : Int32), .ref 180]) jv_i326 [.int p1, .int (8 : Int32)] rfl rfl rfl rfl rfl rfl (jx_e187 p0 p1 p2 p3 p4 p5 g1 g2) rfl rfl ?_
  refine jv_Ev.br jv_i330 (pc' := 10) (st' := [.ref 180]) rfl (jv_bi_eq.trans (jx_gof (by decide))) ?_
  refine jv_Ev.steps jv_i330 2 (pc' := 15) (l' := [(0, .ref 180), (1, .int p1), (2, .long ((p2.toInt64 <<< ((32 : Int32).toInt64 &&& 63)) ||| (p3.toInt64 &&& (4294967295 : Int64))))]) (st' := [.int (0 : Int32), .ref 180]) rfl ?_
  refine jv_Ev.m jv_i330 (pc' := 18) (st' := []) rfl rfl (jv_m_putI rfl rfl rfl rfl rfl) ?_
  refine jv_Ev.steps jv_i330 1 (pc' := 19) (l' := [(0, .ref 180), (1, .int p1), (2, .long ((p2.toInt64 <<< ((32 : Int32).toInt64 &&& 63)) ||| (p3.toInt64 &&& (4294967295 : Int64))))]) (st' := [.ref 180]) rfl ?_
  refine jv_Ev.m jv_i330 (pc' := 22) (st' := [.int (0 : Int32)]) rfl rfl (jv_m_getI rfl rfl rfl rfl) ?_
  refine jv_Ev.br jv_i330 (pc' := 25) (st' := []) rfl (jv_bi_ne.trans (jx_gof (by decide))) ?_
  refine jv_Ev.steps jv_i330 1 (pc' := 26) (l' := [(0, .ref 180), (1, .int p1), (2, .long ((p2.toInt64 <<< ((32 : Int32).toInt64 &&& 63)) ||| (p3.toInt64 &&& (4294967295 : Int64))))]) (st' := [.ref 180]) rfl ?_
  refine jv_Ev.m jv_i330 (pc' := 29) (st' := [.ref 181]) rfl rfl (jv_m_getR rfl rfl rfl rfl) ?_
  refine jv_Ev.steps jv_i330 3 (pc' := 33) (l' := [(0, .ref 180), (1, .int p1), (2, .long ((p2.toInt64 <<< ((32 : Int32).toInt64 &&& 63)) ||| (p3.toInt64 &&& (4294967295 : Int64))))]) (st' := [.long ((p2.toInt64 <<< ((32 : Int32).toInt64 &&& 63)) ||| (p3.toInt64 &&& (4294967295 : Int64))), .int (8 : Int32), .int p1, .ref 181]) rfl ?_
  refine jv_Ev.c jv_i330 (pc' := 36) (S' := []) jv_i328 [.ref 181, .int p1, .int (8 : Int32), .long ((p2.toInt64 <<< ((32 : Int32).toInt64 &&& 63)) ||| (p3.toInt64 &&& (4294967295 : Int64)))] rfl rfl rfl rfl rfl rfl (jx_e188 p0 p1 p2 p3 p4 p5 g1 g2) rfl rfl ?_
  exact jv_Ev.ret jv_i330 rfl rfl

set_option maxRecDepth 100000 in
/-- ProgramBoxModel$Store.thrown -/
theorem jx_e190 (p0 : Int32) (p1 : Int32) (p2 : Int32) (p3 : Int32) (p4 : Int32) (p5 : Int32) (g1 : ¬ p1 < (0 : Int32)) (g2 : ¬ (504 : Int32) < p1) : jv_Ms 318 [.ref 180] (jv_H (jx_K 227) (jv_u (jv_u (jv_u (jv_u (jv_u (jv_u (jv_u (jv_u (jv_u (jv_u (jv_u (jv_u (jv_u (jv_u (jv_u (jv_u (jv_u jx_If 5 (p1 + (0 : Int32)).toNatClampNeg (((p2.toInt64 <<< ((32 : Int32).toInt64 &&& 63)) ||| (p3.toInt64 &&& (4294967295 : Int64))) >>> ((0 : Int32).toInt64 &&& 63)).toInt32.toInt8.toInt32.toInt8.toInt32) 5 (p1 + (1 : Int32)).toNatClampNeg (((p2.toInt64 <<< ((32 : Int32).toInt64 &&& 63)) ||| (p3.toInt64 &&& (4294967295 : Int64))) >>> ((8 : Int32).toInt64 &&& 63)).toInt32.toInt8.toInt32.toInt8.toInt32) 5 (p1 + (2 : Int32)).toNatClampNeg (((p2.toInt64 <<< ((32 : Int32).toInt64 &&& 63)) ||| (p3.toInt64 &&& (4294967295 : Int64))) >>> ((16 : Int32).toInt64 &&& 63)).toInt32.toInt8.toInt32.toInt8.toInt32) 5 (p1 + (3 : Int32)).toNatClampNeg (((p2.toInt64 <<< ((32 : Int32).toInt64 &&& 63)) ||| (p3.toInt64 &&& (4294967295 : Int64))) >>> ((24 : Int32).toInt64 &&& 63)).toInt32.toInt8.toInt32.toInt8.toInt32) 5 (p1 + (4 : Int32)).toNatClampNeg (((p2.toInt64 <<< ((32 : Int32).toInt64 &&& 63)) ||| (p3.toInt64 &&& (4294967295 : Int64))) >>> ((32 : Int32).toInt64 &&& 63)).toInt32.toInt8.toInt32.toInt8.toInt32) 5 (p1 + (5 : Int32)).toNatClampNeg (((p2.toInt64 <<< ((32 : Int32).toInt64 &&& 63)) ||| (p3.toInt64 &&& (4294967295 : Int64))) >>> ((40 : Int32).toInt64 &&& 63)).toInt32.toInt8.toInt32.toInt8.toInt32) 5 (p1 + (6 : Int32)).toNatClampNeg (((p2.toInt64 <<< ((32 : Int32).toInt64 &&& 63)) ||| (p3.toInt64 &&& (4294967295 : Int64))) >>> ((48 : Int32).toInt64 &&& 63)).toInt32.toInt8.toInt32.toInt8.toInt32) 5 (p1 + (7 : Int32)).toNatClampNeg (((p2.toInt64 <<< ((32 : Int32).toInt64 &&& 63)) ||| (p3.toInt64 &&& (4294967295 : Int64))) >>> ((56 : Int32).toInt64 &&& 63)).toInt32.toInt8.toInt32.toInt8.toInt32) 180 0 (0 : Int32)) 181 (p1 + (0 : Int32)).toNatClampNeg (((p2.toInt64 <<< ((32 : Int32).toInt64 &&& 63)) ||| (p3.toInt64 &&& (4294967295 : Int64))) >>> ((0 : Int32).toInt64 &&& 63)).toInt32.toInt8.toInt32.toInt8.toInt32) 181 (p1 + (1 : Int32)).toNatClampNeg (((p2.toInt64 <<< ((32 : Int32).toInt64 &&& 63)) ||| (p3.toInt64 &&& (4294967295 : Int64))) >>> ((8 : Int32).toInt64 &&& 63)).toInt32.toInt8.toInt32.toInt8.toInt32) 181 (p1 + (2 : Int32)).toNatClampNeg (((p2.toInt64 <<< ((32 : Int32).toInt64 &&& 63)) ||| (p3.toInt64 &&& (4294967295 : Int64))) >>> ((16 : Int32).toInt64 &&& 63)).toInt32.toInt8.toInt32.toInt8.toInt32) 181 (p1 + (3 : Int32)).toNatClampNeg (((p2.toInt64 <<< ((32 : Int32).toInt64 &&& 63)) ||| (p3.toInt64 &&& (4294967295 : Int64))) >>> ((24 : Int32).toInt64 &&& 63)).toInt32.toInt8.toInt32.toInt8.toInt32) 181 (p1 + (4 : Int32)).toNatClampNeg (((p2.toInt64 <<< ((32 : Int32).toInt64 &&& 63)) ||| (p3.toInt64 &&& (4294967295 : Int64))) >>> ((32 : Int32).toInt64 &&& 63)).toInt32.toInt8.toInt32.toInt8.toInt32) 181 (p1 + (5 : Int32)).toNatClampNeg (((p2.toInt64 <<< ((32 : Int32).toInt64 &&& 63)) ||| (p3.toInt64 &&& (4294967295 : Int64))) >>> ((40 : Int32).toInt64 &&& 63)).toInt32.toInt8.toInt32.toInt8.toInt32) 181 (p1 + (6 : Int32)).toNatClampNeg (((p2.toInt64 <<< ((32 : Int32).toInt64 &&& 63)) ||| (p3.toInt64 &&& (4294967295 : Int64))) >>> ((48 : Int32).toInt64 &&& 63)).toInt32.toInt8.toInt32.toInt8.toInt32) 181 (p1 + (7 : Int32)).toNatClampNeg (((p2.toInt64 <<< ((32 : Int32).toInt64 &&& 63)) ||| (p3.toInt64 &&& (4294967295 : Int64))) >>> ((56 : Int32).toInt64 &&& 63)).toInt32.toInt8.toInt32.toInt8.toInt32) jx_L0 (jx_R 227)) 227 1572950 (some (.int (0 : Int32)), (jv_H (jx_K 227) (jv_u (jv_u (jv_u (jv_u (jv_u (jv_u (jv_u (jv_u (jv_u (jv_u (jv_u (jv_u (jv_u (jv_u (jv_u (jv_u (jv_u jx_If 5 (p1 + (0 : Int32)).toNatClampNeg (((p2.toInt64 <<< ((32 : Int32).toInt64 &&& 63)) ||| (p3.toInt64 &&& (4294967295 : Int64))) >>> ((0 : Int32).toInt64 &&& 63)).toInt32.toInt8.toInt32.toInt8.toInt32) 5 (p1 + (1 : Int32)).toNatClampNeg (((p2.toInt64 <<< ((32 : Int32).toInt64 &&& 63)) ||| (p3.toInt64 &&& (4294967295 : Int64))) >>> ((8 : Int32).toInt64 &&& 63)).toInt32.toInt8.toInt32.toInt8.toInt32) 5 (p1 + (2 : Int32)).toNatClampNeg (((p2.toInt64 <<< ((32 : Int32).toInt64 &&& 63)) ||| (p3.toInt64 &&& (4294967295 : Int64))) >>> ((16 : Int32).toInt64 &&& 63)).toInt32.toInt8.toInt32.toInt8.toInt32) 5 (p1 + (3 : Int32)).toNatClampNeg (((p2.toInt64 <<< ((32 : Int32).toInt64 &&& 63)) ||| (p3.toInt64 &&& (4294967295 : Int64))) >>> ((24 : Int32).toInt64 &&& 63)).toInt32.toInt8.toInt32.toInt8.toInt32) 5 (p1 + (4 : Int32)).toNatClampNeg (((p2.toInt64 <<< ((32 : Int32).toInt64 &&& 63)) ||| (p3.toInt64 &&& (4294967295 : Int64))) >>> ((32 : Int32).toInt64 &&& 63)).toInt32.toInt8.toInt32.toInt8.toInt32) 5 (p1 + (5 : Int32)).toNatClampNeg (((p2.toInt64 <<< ((32 : Int32).toInt64 &&& 63)) ||| (p3.toInt64 &&& (4294967295 : Int64))) >>> ((40 : Int32).toInt64 &&& 63)).toInt32.toInt8.toInt32.toInt8.toInt32) 5 (p1 + (6 : Int32)).toNatClampNeg (((p2.toInt64 <<< ((32 : Int32).toInt64 &&& 63)) ||| (p3.toInt64 &&& (4294967295 : Int64))) >>> ((48 : Int32).toInt64 &&& 63)).toInt32.toInt8.toInt32.toInt8.toInt32) 5 (p1 + (7 : Int32)).toNatClampNeg (((p2.toInt64 <<< ((32 : Int32).toInt64 &&& 63)) ||| (p3.toInt64 &&& (4294967295 : Int64))) >>> ((56 : Int32).toInt64 &&& 63)).toInt32.toInt8.toInt32.toInt8.toInt32) 180 0 (0 : Int32)) 181 (p1 + (0 : Int32)).toNatClampNeg (((p2.toInt64 <<< ((32 : Int32).toInt64 &&& 63)) ||| (p3.toInt64 &&& (4294967295 : Int64))) >>> ((0 : Int32).toInt64 &&& 63)).toInt32.toInt8.toInt32.toInt8.toInt32) 181 (p1 + (1 : Int32)).toNatClampNeg (((p2.toInt64 <<< ((32 : Int32).toInt64 &&& 63)) ||| (p3.toInt64 &&& (4294967295 : Int64))) >>> ((8 : Int32).toInt64 &&& 63)).toInt32.toInt8.toInt32.toInt8.toInt32) 181 (p1 + (2 : Int32)).toNatClampNeg (((p2.toInt64 <<< ((32 : Int32).toInt64 &&& 63)) ||| (p3.toInt64 &&& (4294967295 : Int64))) >>> ((16 : Int32).toInt64 &&& 63)).toInt32.toInt8.toInt32.toInt8.toInt32) 181 (p1 + (3 : Int32)).toNatClampNeg (((p2.toInt64 <<< ((32 : Int32).toInt64 &&& 63)) ||| (p3.toInt64 &&& (4294967295 : Int64))) >>> ((24 : Int32).toInt64 &&& 63)).toInt32.toInt8.toInt32.toInt8.toInt32) 181 (p1 + (4 : Int32)).toNatClampNeg (((p2.toInt64 <<< ((32 : Int32).toInt64 &&& 63)) ||| (p3.toInt64 &&& (4294967295 : Int64))) >>> ((32 : Int32).toInt64 &&& 63)).toInt32.toInt8.toInt32.toInt8.toInt32) 181 (p1 + (5 : Int32)).toNatClampNeg (((p2.toInt64 <<< ((32 : Int32).toInt64 &&& 63)) ||| (p3.toInt64 &&& (4294967295 : Int64))) >>> ((40 : Int32).toInt64 &&& 63)).toInt32.toInt8.toInt32.toInt8.toInt32) 181 (p1 + (6 : Int32)).toNatClampNeg (((p2.toInt64 <<< ((32 : Int32).toInt64 &&& 63)) ||| (p3.toInt64 &&& (4294967295 : Int64))) >>> ((48 : Int32).toInt64 &&& 63)).toInt32.toInt8.toInt32.toInt8.toInt32) 181 (p1 + (7 : Int32)).toNatClampNeg (((p2.toInt64 <<< ((32 : Int32).toInt64 &&& 63)) ||| (p3.toInt64 &&& (4294967295 : Int64))) >>> ((56 : Int32).toInt64 &&& 63)).toInt32.toInt8.toInt32.toInt8.toInt32) jx_L0 (jx_R 227)), 227, 1572950) := by
  show jv_Ev 318 0 [(0, .ref 180)] [] (jv_H (jx_K 227) (jv_u (jv_u (jv_u (jv_u (jv_u (jv_u (jv_u (jv_u (jv_u (jv_u (jv_u (jv_u (jv_u (jv_u (jv_u (jv_u (jv_u jx_If 5 (p1 + (0 : Int32)).toNatClampNeg (((p2.toInt64 <<< ((32 : Int32).toInt64 &&& 63)) ||| (p3.toInt64 &&& (4294967295 : Int64))) >>> ((0 : Int32).toInt64 &&& 63)).toInt32.toInt8.toInt32.toInt8.toInt32) 5 (p1 + (1 : Int32)).toNatClampNeg (((p2.toInt64 <<< ((32 : Int32).toInt64 &&& 63)) ||| (p3.toInt64 &&& (4294967295 : Int64))) >>> ((8 : Int32).toInt64 &&& 63)).toInt32.toInt8.toInt32.toInt8.toInt32) 5 (p1 + (2 : Int32)).toNatClampNeg (((p2.toInt64 <<< ((32 : Int32).toInt64 &&& 63)) ||| (p3.toInt64 &&& (4294967295 : Int64))) >>> ((16 : Int32).toInt64 &&& 63)).toInt32.toInt8.toInt32.toInt8.toInt32) 5 (p1 + (3 : Int32)).toNatClampNeg (((p2.toInt64 <<< ((32 : Int32).toInt64 &&& 63)) ||| (p3.toInt64 &&& (4294967295 : Int64))) >>> ((24 : Int32).toInt64 &&& 63)).toInt32.toInt8.toInt32.toInt8.toInt32) 5 (p1 + (4 : Int32)).toNatClampNeg (((p2.toInt64 <<< ((32 : Int32).toInt64 &&& 63)) ||| (p3.toInt64 &&& (4294967295 : Int64))) >>> ((32 : Int32).toInt64 &&& 63)).toInt32.toInt8.toInt32.toInt8.toInt32) 5 (p1 + (5 : Int32)).toNatClampNeg (((p2.toInt64 <<< ((32 : Int32).toInt64 &&& 63)) ||| (p3.toInt64 &&& (4294967295 : Int64))) >>> ((40 : Int32).toInt64 &&& 63)).toInt32.toInt8.toInt32.toInt8.toInt32) 5 (p1 + (6 : Int32)).toNatClampNeg (((p2.toInt64 <<< ((32 : Int32).toInt64 &&& 63)) ||| (p3.toInt64 &&& (4294967295 : Int64))) >>> ((48 : Int32).toInt64 &&& 63)).toInt32.toInt8.toInt32.toInt8.toInt32) 5 (p1 + (7 : Int32)).toNatClampNeg (((p2.toInt64 <<< ((32 : Int32).toInt64 &&& 63)) ||| (p3.toInt64 &&& (4294967295 : Int64))) >>> ((56 : Int32).toInt64 &&& 63)).toInt32.toInt8.toInt32.toInt8.toInt32) 180 0 (0 : Int32)) 181 (p1 + (0 : Int32)).toNatClampNeg (((p2.toInt64 <<< ((32 : Int32).toInt64 &&& 63)) ||| (p3.toInt64 &&& (4294967295 : Int64))) >>> ((0 : Int32).toInt64 &&& 63)).toInt32.toInt8.toInt32.toInt8.toInt32) 181 (p1 + (1 : Int32)).toNatClampNeg (((p2.toInt64 <<< ((32 : Int32).toInt64 &&& 63)) ||| (p3.toInt64 &&& (4294967295 : Int64))) >>> ((8 : Int32).toInt64 &&& 63)).toInt32.toInt8.toInt32.toInt8.toInt32) 181 (p1 + (2 : Int32)).toNatClampNeg (((p2.toInt64 <<< ((32 : Int32).toInt64 &&& 63)) ||| (p3.toInt64 &&& (4294967295 : Int64))) >>> ((16 : Int32).toInt64 &&& 63)).toInt32.toInt8.toInt32.toInt8.toInt32) 181 (p1 + (3 : Int32)).toNatClampNeg (((p2.toInt64 <<< ((32 : Int32).toInt64 &&& 63)) ||| (p3.toInt64 &&& (4294967295 : Int64))) >>> ((24 : Int32).toInt64 &&& 63)).toInt32.toInt8.toInt32.toInt8.toInt32) 181 (p1 + (4 : Int32)).toNatClampNeg (((p2.toInt64 <<< ((32 : Int32).toInt64 &&& 63)) ||| (p3.toInt64 &&& (4294967295 : Int64))) >>> ((32 : Int32).toInt64 &&& 63)).toInt32.toInt8.toInt32.toInt8.toInt32) 181 (p1 + (5 : Int32)).toNatClampNeg (((p2.toInt64 <<< ((32 : Int32).toInt64 &&& 63)) ||| (p3.toInt64 &&& (4294967295 : Int64))) >>> ((40 : Int32).toInt64 &&& 63)).toInt32.toInt8.toInt32.toInt8.toInt32) 181 (p1 + (6 : Int32)).toNatClampNeg (((p2.toInt64 <<< ((32 : Int32).toInt64 &&& 63)) ||| (p3.toInt64 &&& (4294967295 : Int64))) >>> ((48 : Int32).toInt64 &&& 63)).toInt32.toInt8.toInt32.toInt8.toInt32) 181 (p1 + (7 : Int32)).toNatClampNeg (((p2.toInt64 <<< ((32 : Int32).toInt64 &&& 63)) ||| (p3.toInt64 &&& (4294967295 : Int64))) >>> ((56 : Int32).toInt64 &&& 63)).toInt32.toInt8.toInt32.toInt8.toInt32) jx_L0 (jx_R 227)) 227 1572950 _
  refine jv_Ev.steps jv_i318 1 (pc' := 1) (l' := [(0, .ref 180)]) (st' := [.ref 180]) rfl ?_
  refine jv_Ev.m jv_i318 (pc' := 4) (st' := [.int (0 : Int32)]) rfl rfl (jv_m_getI rfl rfl rfl rfl) ?_
  exact jv_Ev.ret jv_i318 rfl rfl

set_option maxRecDepth 100000 in
/-- ProgramBoxModel.lay -/
theorem jx_e191 (p0 : Int32) (p1 : Int32) (p2 : Int32) (p3 : Int32) (p4 : Int32) (p5 : Int32) (g1 : ¬ p1 < (0 : Int32)) (g2 : ¬ (504 : Int32) < p1) : jv_Ms 409 [.ref 178, .int p1, .long ((p2.toInt64 <<< ((32 : Int32).toInt64 &&& 63)) ||| (p3.toInt64 &&& (4294967295 : Int64)))] (jv_H (jx_K 227) (jv_u (jv_u (jv_u (jv_u (jv_u (jv_u (jv_u (jv_u jx_If 5 (p1 + (0 : Int32)).toNatClampNeg (((p2.toInt64 <<< ((32 : Int32).toInt64 &&& 63)) ||| (p3.toInt64 &&& (4294967295 : Int64))) >>> ((0 : Int32).toInt64 &&& 63)).toInt32.toInt8.toInt32.toInt8.toInt32) 5 (p1 + (1 : Int32)).toNatClampNeg (((p2.toInt64 <<< ((32 : Int32).toInt64 &&& 63)) ||| (p3.toInt64 &&& (4294967295 : Int64))) >>> ((8 : Int32).toInt64 &&& 63)).toInt32.toInt8.toInt32.toInt8.toInt32) 5 (p1 + (2 : Int32)).toNatClampNeg (((p2.toInt64 <<< ((32 : Int32).toInt64 &&& 63)) ||| (p3.toInt64 &&& (4294967295 : Int64))) >>> ((16 : Int32).toInt64 &&& 63)).toInt32.toInt8.toInt32.toInt8.toInt32) 5 (p1 + (3 : Int32)).toNatClampNeg (((p2.toInt64 <<< ((32 : Int32).toInt64 &&& 63)) ||| (p3.toInt64 &&& (4294967295 : Int64))) >>> ((24 : Int32).toInt64 &&& 63)).toInt32.toInt8.toInt32.toInt8.toInt32) 5 (p1 + (4 : Int32)).toNatClampNeg (((p2.toInt64 <<< ((32 : Int32).toInt64 &&& 63)) ||| (p3.toInt64 &&& (4294967295 : Int64))) >>> ((32 : Int32).toInt64 &&& 63)).toInt32.toInt8.toInt32.toInt8.toInt32) 5 (p1 + (5 : Int32)).toNatClampNeg (((p2.toInt64 <<< ((32 : Int32).toInt64 &&& 63)) ||| (p3.toInt64 &&& (4294967295 : Int64))) >>> ((40 : Int32).toInt64 &&& 63)).toInt32.toInt8.toInt32.toInt8.toInt32) 5 (p1 + (6 : Int32)).toNatClampNeg (((p2.toInt64 <<< ((32 : Int32).toInt64 &&& 63)) ||| (p3.toInt64 &&& (4294967295 : Int64))) >>> ((48 : Int32).toInt64 &&& 63)).toInt32.toInt8.toInt32.toInt8.toInt32) 5 (p1 + (7 : Int32)).toNatClampNeg (((p2.toInt64 <<< ((32 : Int32).toInt64 &&& 63)) ||| (p3.toInt64 &&& (4294967295 : Int64))) >>> ((56 : Int32).toInt64 &&& 63)).toInt32.toInt8.toInt32.toInt8.toInt32) jx_L0 (jx_R 227)) 227 1572950 (none, (jv_H (jx_K 227) (jv_u (jv_u (jv_u (jv_u (jv_u (jv_u (jv_u (jv_u (jv_u (jv_u (jv_u (jv_u (jv_u (jv_u (jv_u (jv_u (jv_u (jv_u jx_If 5 (p1 + (0 : Int32)).toNatClampNeg (((p2.toInt64 <<< ((32 : Int32).toInt64 &&& 63)) ||| (p3.toInt64 &&& (4294967295 : Int64))) >>> ((0 : Int32).toInt64 &&& 63)).toInt32.toInt8.toInt32.toInt8.toInt32) 5 (p1 + (1 : Int32)).toNatClampNeg (((p2.toInt64 <<< ((32 : Int32).toInt64 &&& 63)) ||| (p3.toInt64 &&& (4294967295 : Int64))) >>> ((8 : Int32).toInt64 &&& 63)).toInt32.toInt8.toInt32.toInt8.toInt32) 5 (p1 + (2 : Int32)).toNatClampNeg (((p2.toInt64 <<< ((32 : Int32).toInt64 &&& 63)) ||| (p3.toInt64 &&& (4294967295 : Int64))) >>> ((16 : Int32).toInt64 &&& 63)).toInt32.toInt8.toInt32.toInt8.toInt32) 5 (p1 + (3 : Int32)).toNatClampNeg (((p2.toInt64 <<< ((32 : Int32).toInt64 &&& 63)) ||| (p3.toInt64 &&& (4294967295 : Int64))) >>> ((24 : Int32).toInt64 &&& 63)).toInt32.toInt8.toInt32.toInt8.toInt32) 5 (p1 + (4 : Int32)).toNatClampNeg (((p2.toInt64 <<< ((32 : Int32).toInt64 &&& 63)) ||| (p3.toInt64 &&& (4294967295 : Int64))) >>> ((32 : Int32).toInt64 &&& 63)).toInt32.toInt8.toInt32.toInt8.toInt32) 5 (p1 + (5 : Int32)).toNatClampNeg (((p2.toInt64 <<< ((32 : Int32).toInt64 &&& 63)) ||| (p3.toInt64 &&& (4294967295 : Int64))) >>> ((40 : Int32).toInt64 &&& 63)).toInt32.toInt8.toInt32.toInt8.toInt32) 5 (p1 + (6 : Int32)).toNatClampNeg (((p2.toInt64 <<< ((32 : Int32).toInt64 &&& 63)) ||| (p3.toInt64 &&& (4294967295 : Int64))) >>> ((48 : Int32).toInt64 &&& 63)).toInt32.toInt8.toInt32.toInt8.toInt32) 5 (p1 + (7 : Int32)).toNatClampNeg (((p2.toInt64 <<< ((32 : Int32).toInt64 &&& 63)) ||| (p3.toInt64 &&& (4294967295 : Int64))) >>> ((56 : Int32).toInt64 &&& 63)).toInt32.toInt8.toInt32.toInt8.toInt32) 180 0 (0 : Int32)) 181 (p1 + (0 : Int32)).toNatClampNeg (((p2.toInt64 <<< ((32 : Int32).toInt64 &&& 63)) ||| (p3.toInt64 &&& (4294967295 : Int64))) >>> ((0 : Int32).toInt64 &&& 63)).toInt32.toInt8.toInt32.toInt8.toInt32) 181 (p1 + (1 : Int32)).toNatClampNeg (((p2.toInt64 <<< ((32 : Int32).toInt64 &&& 63)) ||| (p3.toInt64 &&& (4294967295 : Int64))) >>> ((8 : Int32).toInt64 &&& 63)).toInt32.toInt8.toInt32.toInt8.toInt32) 181 (p1 + (2 : Int32)).toNatClampNeg (((p2.toInt64 <<< ((32 : Int32).toInt64 &&& 63)) ||| (p3.toInt64 &&& (4294967295 : Int64))) >>> ((16 : Int32).toInt64 &&& 63)).toInt32.toInt8.toInt32.toInt8.toInt32) 181 (p1 + (3 : Int32)).toNatClampNeg (((p2.toInt64 <<< ((32 : Int32).toInt64 &&& 63)) ||| (p3.toInt64 &&& (4294967295 : Int64))) >>> ((24 : Int32).toInt64 &&& 63)).toInt32.toInt8.toInt32.toInt8.toInt32) 181 (p1 + (4 : Int32)).toNatClampNeg (((p2.toInt64 <<< ((32 : Int32).toInt64 &&& 63)) ||| (p3.toInt64 &&& (4294967295 : Int64))) >>> ((32 : Int32).toInt64 &&& 63)).toInt32.toInt8.toInt32.toInt8.toInt32) 181 (p1 + (5 : Int32)).toNatClampNeg (((p2.toInt64 <<< ((32 : Int32).toInt64 &&& 63)) ||| (p3.toInt64 &&& (4294967295 : Int64))) >>> ((40 : Int32).toInt64 &&& 63)).toInt32.toInt8.toInt32.toInt8.toInt32) 181 (p1 + (6 : Int32)).toNatClampNeg (((p2.toInt64 <<< ((32 : Int32).toInt64 &&& 63)) ||| (p3.toInt64 &&& (4294967295 : Int64))) >>> ((48 : Int32).toInt64 &&& 63)).toInt32.toInt8.toInt32.toInt8.toInt32) 181 (p1 + (7 : Int32)).toNatClampNeg (((p2.toInt64 <<< ((32 : Int32).toInt64 &&& 63)) ||| (p3.toInt64 &&& (4294967295 : Int64))) >>> ((56 : Int32).toInt64 &&& 63)).toInt32.toInt8.toInt32.toInt8.toInt32) 178 0 (0 : Int32)) jx_L0 (jx_R 227)), 227, 1572950) := by
  show jv_Ev 409 0 [(0, .ref 178), (1, .int p1), (2, .long ((p2.toInt64 <<< ((32 : Int32).toInt64 &&& 63)) ||| (p3.toInt64 &&& (4294967295 : Int64))))] [] (jv_H (jx_K 227) (jv_u (jv_u (jv_u (jv_u (jv_u (jv_u (jv_u (jv_u jx_If 5 (p1 + (0 : Int32)).toNatClampNeg (((p2.toInt64 <<< ((32 : Int32).toInt64 &&& 63)) ||| (p3.toInt64 &&& (4294967295 : Int64))) >>> ((0 : Int32).toInt64 &&& 63)).toInt32.toInt8.toInt32.toInt8.toInt32) 5 (p1 + (1 : Int32)).toNatClampNeg (((p2.toInt64 <<< ((32 : Int32).toInt64 &&& 63)) ||| (p3.toInt64 &&& (4294967295 : Int64))) >>> ((8 : Int32).toInt64 &&& 63)).toInt32.toInt8.toInt32.toInt8.toInt32) 5 (p1 + (2 : Int32)).toNatClampNeg (((p2.toInt64 <<< ((32 : Int32).toInt64 &&& 63)) ||| (p3.toInt64 &&& (4294967295 : Int64))) >>> ((16 : Int32).toInt64 &&& 63)).toInt32.toInt8.toInt32.toInt8.toInt32) 5 (p1 + (3 : Int32)).toNatClampNeg (((p2.toInt64 <<< ((32 : Int32).toInt64 &&& 63)) ||| (p3.toInt64 &&& (4294967295 : Int64))) >>> ((24 : Int32).toInt64 &&& 63)).toInt32.toInt8.toInt32.toInt8.toInt32) 5 (p1 + (4 : Int32)).toNatClampNeg (((p2.toInt64 <<< ((32 : Int32).toInt64 &&& 63)) ||| (p3.toInt64 &&& (4294967295 : Int64))) >>> ((32 : Int32).toInt64 &&& 63)).toInt32.toInt8.toInt32.toInt8.toInt32) 5 (p1 + (5 : Int32)).toNatClampNeg (((p2.toInt64 <<< ((32 : Int32).toInt64 &&& 63)) ||| (p3.toInt64 &&& (4294967295 : Int64))) >>> ((40 : Int32).toInt64 &&& 63)).toInt32.toInt8.toInt32.toInt8.toInt32) 5 (p1 + (6 : Int32)).toNatClampNeg (((p2.toInt64 <<< ((32 : Int32).toInt64 &&& 63)) ||| (p3.toInt64 &&& (4294967295 : Int64))) >>> ((48 : Int32).toInt64 &&& 63)).toInt32.toInt8.toInt32.toInt8.toInt32) 5 (p1 + (7 : Int32)).toNatClampNeg (((p2.toInt64 <<< ((32 : Int32).toInt64 &&& 63)) ||| (p3.toInt64 &&& (4294967295 : Int64))) >>> ((56 : Int32).toInt64 &&& 63)).toInt32.toInt8.toInt32.toInt8.toInt32) jx_L0 (jx_R 227)) 227 1572950 _
  refine jv_Ev.steps jv_i409 1 (pc' := 1) (l' := [(0, .ref 178), (1, .int p1), (2, .long ((p2.toInt64 <<< ((32 : Int32).toInt64 &&& 63)) ||| (p3.toInt64 &&& (4294967295 : Int64))))]) (st' := [.ref 178]) rfl ?_
  refine jv_Ev.m jv_i409 (pc' := 4) (st' := [.ref 180]) rfl rfl (jv_m_getR rfl rfl rfl rfl) ?_
  refine jv_Ev.steps jv_i409 2 (pc' := 6) (l' := [(0, .ref 178), (1, .int p1), (2, .long ((p2.toInt64 <<< ((32 : Int32).toInt64 &&& 63)) ||| (p3.toInt64 &&& (4294967295 : Int64))))]) (st' := [.long ((p2.toInt64 <<< ((32 : Int32).toInt64 &&& 63)) ||| (p3.toInt64 &&& (4294967295 : Int64))), .int p1, .ref 180]) rfl ?_
  refine jv_Ev.c jv_i409 (pc' := 9) (S' := []) jv_i330 [.ref 180, .int p1, .long ((p2.toInt64 <<< ((32 : Int32).toInt64 &&& 63)) ||| (p3.toInt64 &&& (4294967295 : Int64)))] rfl rfl rfl rfl (jv_cal rfl (jv_H_at rfl) rfl rfl) rfl (jx_e189 p0 p1 p2 p3 p4 p5 g1 g2) rfl rfl ?_
  refine jv_Ev.steps jv_i409 2 (pc' := 11) (l' := [(0, .ref 178), (1, .int p1), (2, .long ((p2.toInt64 <<< ((32 : Int32).toInt64 &&& 63)) ||| (p3.toInt64 &&& (4294967295 : Int64))))]) (st' := [.ref 178, .ref 178]) rfl ?_
  refine jv_Ev.m jv_i409 (pc' := 14) (st' := [.ref 180, .ref 178]) rfl rfl (jv_m_getR rfl rfl rfl rfl) ?_
  refine jv_Ev.c jv_i409 (pc' := 17) (S' := [.int (0 : Int32), .ref 178]) jv_i318 [.ref 180] rfl rfl rfl rfl (jv_cal rfl (jv_H_at rfl) rfl rfl) rfl (jx_e190 p0 p1 p2 p3 p4 p5 g1 g2) rfl rfl ?_
  refine jv_Ev.m jv_i409 (pc' := 20) (st' := []) rfl rfl (jv_m_putI rfl rfl rfl rfl rfl) ?_
  exact jv_Ev.ret jv_i409 rfl rfl

set_option maxRecDepth 100000 in
/-- ProgramBoxModel.thrown -/
theorem jx_e192 (p0 : Int32) (p1 : Int32) (p2 : Int32) (p3 : Int32) (p4 : Int32) (p5 : Int32) (g1 : ¬ p1 < (0 : Int32)) (g2 : ¬ (504 : Int32) < p1) : jv_Ms 350 [.ref 178] (jv_H (jx_K 227) (jv_u (jv_u (jv_u (jv_u (jv_u (jv_u (jv_u (jv_u (jv_u (jv_u (jv_u (jv_u (jv_u (jv_u (jv_u (jv_u (jv_u (jv_u jx_If 5 (p1 + (0 : Int32)).toNatClampNeg (((p2.toInt64 <<< ((32 : Int32).toInt64 &&& 63)) ||| (p3.toInt64 &&& (4294967295 : Int64))) >>> ((0 : Int32).toInt64 &&& 63)).toInt32.toInt8.toInt32.toInt8.toInt32) 5 (p1 + (1 : Int32)).toNatClampNeg (((p2.toInt64 <<< ((32 : Int32).toInt64 &&& 63)) ||| (p3.toInt64 &&& (4294967295 : Int64))) >>> ((8 : Int32).toInt64 &&& 63)).toInt32.toInt8.toInt32.toInt8.toInt32) 5 (p1 + (2 : Int32)).toNatClampNeg (((p2.toInt64 <<< ((32 : Int32).toInt64 &&& 63)) ||| (p3.toInt64 &&& (4294967295 : Int64))) >>> ((16 : Int32).toInt64 &&& 63)).toInt32.toInt8.toInt32.toInt8.toInt32) 5 (p1 + (3 : Int32)).toNatClampNeg (((p2.toInt64 <<< ((32 : Int32).toInt64 &&& 63)) ||| (p3.toInt64 &&& (4294967295 : Int64))) >>> ((24 : Int32).toInt64 &&& 63)).toInt32.toInt8.toInt32.toInt8.toInt32) 5 (p1 + (4 : Int32)).toNatClampNeg (((p2.toInt64 <<< ((32 : Int32).toInt64 &&& 63)) ||| (p3.toInt64 &&& (4294967295 : Int64))) >>> ((32 : Int32).toInt64 &&& 63)).toInt32.toInt8.toInt32.toInt8.toInt32) 5 (p1 + (5 : Int32)).toNatClampNeg (((p2.toInt64 <<< ((32 : Int32).toInt64 &&& 63)) ||| (p3.toInt64 &&& (4294967295 : Int64))) >>> ((40 : Int32).toInt64 &&& 63)).toInt32.toInt8.toInt32.toInt8.toInt32) 5 (p1 + (6 : Int32)).toNatClampNeg (((p2.toInt64 <<< ((32 : Int32).toInt64 &&& 63)) ||| (p3.toInt64 &&& (4294967295 : Int64))) >>> ((48 : Int32).toInt64 &&& 63)).toInt32.toInt8.toInt32.toInt8.toInt32) 5 (p1 + (7 : Int32)).toNatClampNeg (((p2.toInt64 <<< ((32 : Int32).toInt64 &&& 63)) ||| (p3.toInt64 &&& (4294967295 : Int64))) >>> ((56 : Int32).toInt64 &&& 63)).toInt32.toInt8.toInt32.toInt8.toInt32) 180 0 (0 : Int32)) 181 (p1 + (0 : Int32)).toNatClampNeg (((p2.toInt64 <<< ((32 : Int32).toInt64 &&& 63)) ||| (p3.toInt64 &&& (4294967295 : Int64))) >>> ((0 : Int32).toInt64 &&& 63)).toInt32.toInt8.toInt32.toInt8.toInt32) 181 (p1 + (1 : Int32)).toNatClampNeg (((p2.toInt64 <<< ((32 : Int32).toInt64 &&& 63)) ||| (p3.toInt64 &&& (4294967295 : Int64))) >>> ((8 : Int32).toInt64 &&& 63)).toInt32.toInt8.toInt32.toInt8.toInt32) 181 (p1 + (2 : Int32)).toNatClampNeg (((p2.toInt64 <<< ((32 : Int32).toInt64 &&& 63)) ||| (p3.toInt64 &&& (4294967295 : Int64))) >>> ((16 : Int32).toInt64 &&& 63)).toInt32.toInt8.toInt32.toInt8.toInt32) 181 (p1 + (3 : Int32)).toNatClampNeg (((p2.toInt64 <<< ((32 : Int32).toInt64 &&& 63)) ||| (p3.toInt64 &&& (4294967295 : Int64))) >>> ((24 : Int32).toInt64 &&& 63)).toInt32.toInt8.toInt32.toInt8.toInt32) 181 (p1 + (4 : Int32)).toNatClampNeg (((p2.toInt64 <<< ((32 : Int32).toInt64 &&& 63)) ||| (p3.toInt64 &&& (4294967295 : Int64))) >>> ((32 : Int32).toInt64 &&& 63)).toInt32.toInt8.toInt32.toInt8.toInt32) 181 (p1 + (5 : Int32)).toNatClampNeg (((p2.toInt64 <<< ((32 : Int32).toInt64 &&& 63)) ||| (p3.toInt64 &&& (4294967295 : Int64))) >>> ((40 : Int32).toInt64 &&& 63)).toInt32.toInt8.toInt32.toInt8.toInt32) 181 (p1 + (6 : Int32)).toNatClampNeg (((p2.toInt64 <<< ((32 : Int32).toInt64 &&& 63)) ||| (p3.toInt64 &&& (4294967295 : Int64))) >>> ((48 : Int32).toInt64 &&& 63)).toInt32.toInt8.toInt32.toInt8.toInt32) 181 (p1 + (7 : Int32)).toNatClampNeg (((p2.toInt64 <<< ((32 : Int32).toInt64 &&& 63)) ||| (p3.toInt64 &&& (4294967295 : Int64))) >>> ((56 : Int32).toInt64 &&& 63)).toInt32.toInt8.toInt32.toInt8.toInt32) 178 0 (0 : Int32)) jx_L0 (jx_R 227)) 227 1572950 (some (.int (0 : Int32)), (jv_H (jx_K 227) (jv_u (jv_u (jv_u (jv_u (jv_u (jv_u (jv_u (jv_u (jv_u (jv_u (jv_u (jv_u (jv_u (jv_u (jv_u (jv_u (jv_u (jv_u jx_If 5 (p1 + (0 : Int32)).toNatClampNeg (((p2.toInt64 <<< ((32 : Int32).toInt64 &&& 63)) ||| (p3.toInt64 &&& (4294967295 : Int64))) >>> ((0 : Int32).toInt64 &&& 63)).toInt32.toInt8.toInt32.toInt8.toInt32) 5 (p1 + (1 : Int32)).toNatClampNeg (((p2.toInt64 <<< ((32 : Int32).toInt64 &&& 63)) ||| (p3.toInt64 &&& (4294967295 : Int64))) >>> ((8 : Int32).toInt64 &&& 63)).toInt32.toInt8.toInt32.toInt8.toInt32) 5 (p1 + (2 : Int32)).toNatClampNeg (((p2.toInt64 <<< ((32 : Int32).toInt64 &&& 63)) ||| (p3.toInt64 &&& (4294967295 : Int64))) >>> ((16 : Int32).toInt64 &&& 63)).toInt32.toInt8.toInt32.toInt8.toInt32) 5 (p1 + (3 : Int32)).toNatClampNeg (((p2.toInt64 <<< ((32 : Int32).toInt64 &&& 63)) ||| (p3.toInt64 &&& (4294967295 : Int64))) >>> ((24 : Int32).toInt64 &&& 63)).toInt32.toInt8.toInt32.toInt8.toInt32) 5 (p1 + (4 : Int32)).toNatClampNeg (((p2.toInt64 <<< ((32 : Int32).toInt64 &&& 63)) ||| (p3.toInt64 &&& (4294967295 : Int64))) >>> ((32 : Int32).toInt64 &&& 63)).toInt32.toInt8.toInt32.toInt8.toInt32) 5 (p1 + (5 : Int32)).toNatClampNeg (((p2.toInt64 <<< ((32 : Int32).toInt64 &&& 63)) ||| (p3.toInt64 &&& (4294967295 : Int64))) >>> ((40 : Int32).toInt64 &&& 63)).toInt32.toInt8.toInt32.toInt8.toInt32) 5 (p1 + (6 : Int32)).toNatClampNeg (((p2.toInt64 <<< ((32 : Int32).toInt64 &&& 63)) ||| (p3.toInt64 &&& (4294967295 : Int64))) >>> ((48 : Int32).toInt64 &&& 63)).toInt32.toInt8.toInt32.toInt8.toInt32) 5 (p1 + (7 : Int32)).toNatClampNeg (((p2.toInt64 <<< ((32 : Int32).toInt64 &&& 63)) ||| (p3.toInt64 &&& (4294967295 : Int64))) >>> ((56 : Int32).toInt64 &&& 63)).toInt32.toInt8.toInt32.toInt8.toInt32) 180 0 (0 : Int32)) 181 (p1 + (0 : Int32)).toNatClampNeg (((p2.toInt64 <<< ((32 : Int32).toInt64 &&& 63)) ||| (p3.toInt64 &&& (4294967295 : Int64))) >>> ((0 : Int32).toInt64 &&& 63)).toInt32.toInt8.toInt32.toInt8.toInt32) 181 (p1 + (1 : Int32)).toNatClampNeg (((p2.toInt64 <<< ((32 : Int32).toInt64 &&& 63)) ||| (p3.toInt64 &&& (4294967295 : Int64))) >>> ((8 : Int32).toInt64 &&& 63)).toInt32.toInt8.toInt32.toInt8.toInt32) 181 (p1 + (2 : Int32)).toNatClampNeg (((p2.toInt64 <<< ((32 : Int32).toInt64 &&& 63)) ||| (p3.toInt64 &&& (4294967295 : Int64))) >>> ((16 : Int32).toInt64 &&& 63)).toInt32.toInt8.toInt32.toInt8.toInt32) 181 (p1 + (3 : Int32)).toNatClampNeg (((p2.toInt64 <<< ((32 : Int32).toInt64 &&& 63)) ||| (p3.toInt64 &&& (4294967295 : Int64))) >>> ((24 : Int32).toInt64 &&& 63)).toInt32.toInt8.toInt32.toInt8.toInt32) 181 (p1 + (4 : Int32)).toNatClampNeg (((p2.toInt64 <<< ((32 : Int32).toInt64 &&& 63)) ||| (p3.toInt64 &&& (4294967295 : Int64))) >>> ((32 : Int32).toInt64 &&& 63)).toInt32.toInt8.toInt32.toInt8.toInt32) 181 (p1 + (5 : Int32)).toNatClampNeg (((p2.toInt64 <<< ((32 : Int32).toInt64 &&& 63)) ||| (p3.toInt64 &&& (4294967295 : Int64))) >>> ((40 : Int32).toInt64 &&& 63)).toInt32.toInt8.toInt32.toInt8.toInt32) 181 (p1 + (6 : Int32)).toNatClampNeg (((p2.toInt64 <<< ((32 : Int32).toInt64 &&& 63)) ||| (p3.toInt64 &&& (4294967295 : Int64))) >>> ((48 : Int32).toInt64 &&& 63)).toInt32.toInt8.toInt32.toInt8.toInt32) 181 (p1 + (7 : Int32)).toNatClampNeg (((p2.toInt64 <<< ((32 : Int32).toInt64 &&& 63)) ||| (p3.toInt64 &&& (4294967295 : Int64))) >>> ((56 : Int32).toInt64 &&& 63)).toInt32.toInt8.toInt32.toInt8.toInt32) 178 0 (0 : Int32)) jx_L0 (jx_R 227)), 227, 1572950) := by
  show jv_Ev 350 0 [(0, .ref 178)] [] (jv_H (jx_K 227) (jv_u (jv_u (jv_u (jv_u (jv_u (jv_u (jv_u (jv_u (jv_u (jv_u (jv_u (jv_u (jv_u (jv_u (jv_u (jv_u (jv_u (jv_u jx_If 5 (p1 + (0 : Int32)).toNatClampNeg (((p2.toInt64 <<< ((32 : Int32).toInt64 &&& 63)) ||| (p3.toInt64 &&& (4294967295 : Int64))) >>> ((0 : Int32).toInt64 &&& 63)).toInt32.toInt8.toInt32.toInt8.toInt32) 5 (p1 + (1 : Int32)).toNatClampNeg (((p2.toInt64 <<< ((32 : Int32).toInt64 &&& 63)) ||| (p3.toInt64 &&& (4294967295 : Int64))) >>> ((8 : Int32).toInt64 &&& 63)).toInt32.toInt8.toInt32.toInt8.toInt32) 5 (p1 + (2 : Int32)).toNatClampNeg (((p2.toInt64 <<< ((32 : Int32).toInt64 &&& 63)) ||| (p3.toInt64 &&& (4294967295 : Int64))) >>> ((16 : Int32).toInt64 &&& 63)).toInt32.toInt8.toInt32.toInt8.toInt32) 5 (p1 + (3 : Int32)).toNatClampNeg (((p2.toInt64 <<< ((32 : Int32).toInt64 &&& 63)) ||| (p3.toInt64 &&& (4294967295 : Int64))) >>> ((24 : Int32).toInt64 &&& 63)).toInt32.toInt8.toInt32.toInt8.toInt32) 5 (p1 + (4 : Int32)).toNatClampNeg (((p2.toInt64 <<< ((32 : Int32).toInt64 &&& 63)) ||| (p3.toInt64 &&& (4294967295 : Int64))) >>> ((32 : Int32).toInt64 &&& 63)).toInt32.toInt8.toInt32.toInt8.toInt32) 5 (p1 + (5 : Int32)).toNatClampNeg (((p2.toInt64 <<< ((32 : Int32).toInt64 &&& 63)) ||| (p3.toInt64 &&& (4294967295 : Int64))) >>> ((40 : Int32).toInt64 &&& 63)).toInt32.toInt8.toInt32.toInt8.toInt32) 5 (p1 + (6 : Int32)).toNatClampNeg (((p2.toInt64 <<< ((32 : Int32).toInt64 &&& 63)) ||| (p3.toInt64 &&& (4294967295 : Int64))) >>> ((48 : Int32).toInt64 &&& 63)).toInt32.toInt8.toInt32.toInt8.toInt32) 5 (p1 + (7 : Int32)).toNatClampNeg (((p2.toInt64 <<< ((32 : Int32).toInt64 &&& 63)) ||| (p3.toInt64 &&& (4294967295 : Int64))) >>> ((56 : Int32).toInt64 &&& 63)).toInt32.toInt8.toInt32.toInt8.toInt32) 180 0 (0 : Int32)) 181 (p1 + (0 : Int32)).toNatClampNeg (((p2.toInt64 <<< ((32 : Int32).toInt64 &&& 63)) ||| (p3.toInt64 &&& (4294967295 : Int64))) >>> ((0 : Int32).toInt64 &&& 63)).toInt32.toInt8.toInt32.toInt8.toInt32) 181 (p1 + (1 : Int32)).toNatClampNeg (((p2.toInt64 <<< ((32 : Int32).toInt64 &&& 63)) ||| (p3.toInt64 &&& (4294967295 : Int64))) >>> ((8 : Int32).toInt64 &&& 63)).toInt32.toInt8.toInt32.toInt8.toInt32) 181 (p1 + (2 : Int32)).toNatClampNeg (((p2.toInt64 <<< ((32 : Int32).toInt64 &&& 63)) ||| (p3.toInt64 &&& (4294967295 : Int64))) >>> ((16 : Int32).toInt64 &&& 63)).toInt32.toInt8.toInt32.toInt8.toInt32) 181 (p1 + (3 : Int32)).toNatClampNeg (((p2.toInt64 <<< ((32 : Int32).toInt64 &&& 63)) ||| (p3.toInt64 &&& (4294967295 : Int64))) >>> ((24 : Int32).toInt64 &&& 63)).toInt32.toInt8.toInt32.toInt8.toInt32) 181 (p1 + (4 : Int32)).toNatClampNeg (((p2.toInt64 <<< ((32 : Int32).toInt64 &&& 63)) ||| (p3.toInt64 &&& (4294967295 : Int64))) >>> ((32 : Int32).toInt64 &&& 63)).toInt32.toInt8.toInt32.toInt8.toInt32) 181 (p1 + (5 : Int32)).toNatClampNeg (((p2.toInt64 <<< ((32 : Int32).toInt64 &&& 63)) ||| (p3.toInt64 &&& (4294967295 : Int64))) >>> ((40 : Int32).toInt64 &&& 63)).toInt32.toInt8.toInt32.toInt8.toInt32) 181 (p1 + (6 : Int32)).toNatClampNeg (((p2.toInt64 <<< ((32 : Int32).toInt64 &&& 63)) ||| (p3.toInt64 &&& (4294967295 : Int64))) >>> ((48 : Int32).toInt64 &&& 63)).toInt32.toInt8.toInt32.toInt8.toInt32) 181 (p1 + (7 : Int32)).toNatClampNeg (((p2.toInt64 <<< ((32 : Int32).toInt64 &&& 63)) ||| (p3.toInt64 &&& (4294967295 : Int64))) >>> ((56 : Int32).toInt64 &&& 63)).toInt32.toInt8.toInt32.toInt8.toInt32) 178 0 (0 : Int32)) jx_L0 (jx_R 227)) 227 1572950 _
  refine jv_Ev.steps jv_i350 1 (pc' := 1) (l' := [(0, .ref 178)]) (st' := [.ref 178]) rfl ?_
  refine jv_Ev.m jv_i350 (pc' := 4) (st' := [.int (0 : Int32)]) rfl rfl (jv_m_getI rfl rfl rfl rfl) ?_
  exact jv_Ev.ret jv_i350 rfl rfl

set_option maxRecDepth 100000 in
/-- the law: case 18, one way -/
theorem jx_l34 (p0 : Int32) (p1 : Int32) (p2 : Int32) (p3 : Int32) (p4 : Int32) (p5 : Int32) (g1 : ¬ p1 < (0 : Int32)) (g2 : ¬ (504 : Int32) < p1) (hsw : p0 &&& (31 : Int32) = (18 : Int32)) {p : Program} {l : Launch} {e : Env} {R : Room} {s : State} {m : MethodId} {args : Array Value} {below : List Frame} {meth : Method} {c : Code} {E : jv_Env} {Q : State → Prop} (hTb : jv_TOk jv_Tb) (hT2 : jx_T2Ok) (hl : l.stackTraces = false) (F : jx_F jv_T2 439 E p R s m args meth c) (hZ : jx_Z E s) (hRc : R.cells = 600002) (hRs : R.slots = 7302232) {bb : Nat} {xs : Nat → Int32} (hX : va_X bb 6 xs s E.2.2.2.2) (hbB : bb < E.2.2.2.1) (hE2 : E.1 1000002 = bb) (hQ : ∀ (l0 : jv_L) (G : jv_G) (n sl : Nat), n ≤ 600002 → sl ≤ 7302232 → jw p l e R s m args below meth c E 8 0 0 Q 1532 l0 [.int (1 : Int32)] G n sl) (q0 : xs 0 = p0) (q1 : xs 1 = p1) (q2 : xs 2 = p2) (q3 : xs 3 = p3) (q4 : xs 4 = p4) (q5 : xs 5 = p5) : jw p l e R s m args below meth c E 8 0 0 Q 33 [(0, .ref 1000002), (1, .ref 0), (2, .ref 178), (3, .ref 226), (4, .int (0 : Int32))] [] (jv_H (jx_K 227) jx_If jx_L0 (jx_R 227)) 227 1572950 := by
  refine jw.steps F jx_i439 2 (pc' := 36) (l' := [(0, .ref 1000002), (1, .ref 0), (2, .ref 178), (3, .ref 226), (4, .int (0 : Int32))]) (st' := [.int (0 : Int32), .ref 1000002]) rfl ?_
  refine jw.sld F jx_i439 hX hbB hE2 (pc' := 37) rfl rfl (show vp_in (nI 0) 6 from vp_in_nI (by decide) (by decide)) q0 rfl ?_
  refine jw.steps F jx_i439 2 (pc' := 40) (l' := [(0, .ref 1000002), (1, .ref 0), (2, .ref 178), (3, .ref 226), (4, .int (0 : Int32))]) (st' := [.int (p0 &&& (31 : Int32))]) rfl ?_
  refine jw.br F jx_i439 (pc' := 946) (st' := []) rfl (by rw [hsw]; rfl) ?_
  refine jw.steps F jx_i439 5 (pc' := 952) (l' := [(0, .ref 1000002), (1, .ref 0), (2, .ref 178), (3, .ref 226), (4, .int (0 : Int32))]) (st' := [.int (1 : Int32), .ref 1000002, .ref 0]) rfl ?_
  refine jw.sld F jx_i439 hX hbB hE2 (pc' := 953) rfl rfl (show vp_in (nI 1) 6 from vp_in_nI (by decide) (by decide)) q1 rfl ?_
  refine jw.steps F jx_i439 4 (pc' := 958) (l' := [(0, .ref 1000002), (1, .ref 0), (2, .ref 178), (3, .ref 226), (4, .int (0 : Int32))]) (st' := [.int (2 : Int32), .ref 1000002, .int p1, .ref 0]) rfl ?_
  refine jw.sld F jx_i439 hX hbB hE2 (pc' := 959) rfl rfl (show vp_in (nI 2) 6 from vp_in_nI (by decide) (by decide)) q2 rfl ?_
  refine jw.steps F jx_i439 7 (pc' := 968) (l' := [(0, .ref 1000002), (1, .ref 0), (2, .ref 178), (3, .ref 226), (4, .int (0 : Int32))]) (st' := [.int (3 : Int32), .ref 1000002, .long (p2.toInt64 <<< ((32 : Int32).toInt64 &&& 63)), .int p1, .ref 0]) rfl ?_
  refine jw.sld F jx_i439 hX hbB hE2 (pc' := 969) rfl rfl (show vp_in (nI 3) 6 from vp_in_nI (by decide) (by decide)) q3 rfl ?_
  refine jw.steps F jx_i439 4 (pc' := 975) (l' := [(0, .ref 1000002), (1, .ref 0), (2, .ref 178), (3, .ref 226), (4, .int (0 : Int32))]) (st' := [.long ((p2.toInt64 <<< ((32 : Int32).toInt64 &&& 63)) ||| (p3.toInt64 &&& (4294967295 : Int64))), .int p1, .ref 0]) rfl ?_
  refine jw.wr F hl hZ rfl jx_i439 jx_i450 [.ref 0, .int p1, .long ((p2.toInt64 <<< ((32 : Int32).toInt64 &&& 63)) ||| (p3.toInt64 &&& (4294967295 : Int64)))] (pc' := 978) (S' := [.int (0 : Int32)]) rfl (List.mem_of_getElem? (i := 10) rfl) (List.mem_of_getElem? (i := 10) rfl) rfl rfl rfl (jx_w186 hTb hT2 p0 p1 p2 p3 p4 p5 g1 g2) (by omega) (by omega) (by omega) (by omega) rfl rfl ?_
  refine jw.steps F jx_i439 6 (pc' := 986) (l' := [(5, .int (0 : Int32)), (0, .ref 1000002), (1, .ref 0), (2, .ref 178), (3, .ref 226), (4, .int (0 : Int32))]) (st' := [.int (1 : Int32), .ref 1000002, .ref 178]) rfl ?_
  refine jw.sld F jx_i439 hX hbB hE2 (pc' := 987) rfl rfl (show vp_in (nI 1) 6 from vp_in_nI (by decide) (by decide)) q1 rfl ?_
  refine jw.steps F jx_i439 4 (pc' := 992) (l' := [(5, .int (0 : Int32)), (0, .ref 1000002), (1, .ref 0), (2, .ref 178), (3, .ref 226), (4, .int (0 : Int32))]) (st' := [.int (2 : Int32), .ref 1000002, .int p1, .ref 178]) rfl ?_
  refine jw.sld F jx_i439 hX hbB hE2 (pc' := 993) rfl rfl (show vp_in (nI 2) 6 from vp_in_nI (by decide) (by decide)) q2 rfl ?_
  refine jw.steps F jx_i439 7 (pc' := 1002) (l' := [(5, .int (0 : Int32)), (0, .ref 1000002), (1, .ref 0), (2, .ref 178), (3, .ref 226), (4, .int (0 : Int32))]) (st' := [.int (3 : Int32), .ref 1000002, .long (p2.toInt64 <<< ((32 : Int32).toInt64 &&& 63)), .int p1, .ref 178]) rfl ?_
  refine jw.sld F jx_i439 hX hbB hE2 (pc' := 1003) rfl rfl (show vp_in (nI 3) 6 from vp_in_nI (by decide) (by decide)) q3 rfl ?_
  refine jw.steps F jx_i439 4 (pc' := 1009) (l' := [(5, .int (0 : Int32)), (0, .ref 1000002), (1, .ref 0), (2, .ref 178), (3, .ref 226), (4, .int (0 : Int32))]) (st' := [.long ((p2.toInt64 <<< ((32 : Int32).toInt64 &&& 63)) ||| (p3.toInt64 &&& (4294967295 : Int64))), .int p1, .ref 178]) rfl ?_
  refine jw.ca hTb F jx_i439 (pc' := 1012) (S' := []) rfl jv_i409 [.ref 178, .int p1, .long ((p2.toInt64 <<< ((32 : Int32).toInt64 &&& 63)) ||| (p3.toInt64 &&& (4294967295 : Int64)))] rfl rfl rfl rfl (jx_cal2 rfl (jv_H_at rfl) rfl rfl) rfl (jx_e191 p0 p1 p2 p3 p4 p5 g1 g2) (by omega) (by omega) rfl rfl ?_
  refine jw.steps F jx_i439 1 (pc' := 1013) (l' := [(5, .int (0 : Int32)), (0, .ref 1000002), (1, .ref 0), (2, .ref 178), (3, .ref 226), (4, .int (0 : Int32))]) (st' := [.ref 178]) rfl ?_
  refine jw.ca hTb F jx_i439 (pc' := 1016) (S' := [.int (0 : Int32)]) rfl jv_i350 [.ref 178] rfl rfl rfl rfl (jx_cal2 rfl (jv_H_at rfl) rfl rfl) rfl (jx_e192 p0 p1 p2 p3 p4 p5 g1 g2) (by omega) (by omega) rfl rfl ?_
  refine jw.steps F jx_i439 1 (pc' := 1018) (l' := [(5, .int (0 : Int32)), (0, .ref 1000002), (1, .ref 0), (2, .ref 178), (3, .ref 226), (4, .int (0 : Int32))]) (st' := [.int (0 : Int32), .int (0 : Int32)]) rfl ?_
  refine jw.br F jx_i439 (pc' := 1023) (st' := []) rfl (jv_bc_eq.trans (jx_got (by decide))) ?_
  refine jw.steps F jx_i439 5 (pc' := 26) (l' := [(4, .int (6 : Int32)), (5, .int (0 : Int32)), (0, .ref 1000002), (1, .ref 0), (2, .ref 178), (3, .ref 226)]) (st' := [.ref 1000002, .int (6 : Int32)]) rfl ?_
  refine jw.slen F jx_i439 hX hbB hE2 (pc' := 27) rfl rfl rfl ?_
  refine jw.steps F jx_i439 2 (pc' := 30) (l' := [(4, .int (6 : Int32)), (5, .int (0 : Int32)), (0, .ref 1000002), (1, .ref 0), (2, .ref 178), (3, .ref 226)]) (st' := [.int (0 : Int32), .int (6 : Int32)]) rfl ?_
  refine jw.br F jx_i439 (pc' := 1531) (st' := []) rfl (jv_bc_gt.trans (jx_got (by decide))) ?_
  refine jw.steps F jx_i439 1 (pc' := 1532) (l' := [(4, .int (6 : Int32)), (5, .int (0 : Int32)), (0, .ref 1000002), (1, .ref 0), (2, .ref 178), (3, .ref 226)]) (st' := [.int (1 : Int32)]) rfl ?_
  exact hQ _ _ _ _ (by omega) (by omega)

set_option maxRecDepth 100000 in
/-- the law: case 18 -/
theorem jx_case18 (p0 : Int32) (p1 : Int32) (p2 : Int32) (p3 : Int32) (p4 : Int32) (p5 : Int32) (hsw : p0 &&& (31 : Int32) = (18 : Int32)) {p : Program} {l : Launch} {e : Env} {R : Room} {s : State} {m : MethodId} {args : Array Value} {below : List Frame} {meth : Method} {c : Code} {E : jv_Env} {Q : State → Prop} (hTb : jv_TOk jv_Tb) (hT2 : jx_T2Ok) (hl : l.stackTraces = false) (F : jx_F jv_T2 439 E p R s m args meth c) (hZ : jx_Z E s) (hRc : R.cells = 600002) (hRs : R.slots = 7302232) {bb : Nat} {xs : Nat → Int32} (hX : va_X bb 6 xs s E.2.2.2.2) (hbB : bb < E.2.2.2.1) (hE2 : E.1 1000002 = bb) (hQ : ∀ (l0 : jv_L) (G : jv_G) (n sl : Nat), n ≤ 600002 → sl ≤ 7302232 → jw p l e R s m args below meth c E 8 0 0 Q 1532 l0 [.int (1 : Int32)] G n sl) (q0 : xs 0 = p0) (q1 : xs 1 = p1) (q2 : xs 2 = p2) (q3 : xs 3 = p3) (q4 : xs 4 = p4) (q5 : xs 5 = p5) : jw p l e R s m args below meth c E 8 0 0 Q 33 [(0, .ref 1000002), (1, .ref 0), (2, .ref 178), (3, .ref 226), (4, .int (0 : Int32))] [] (jv_H (jx_K 227) jx_If jx_L0 (jx_R 227)) 227 1572950 := by
  by_cases g1 : p1 < (0 : Int32)
  · exact jx_l32 p0 p1 p2 p3 p4 p5 g1 hsw hTb hT2 hl F hZ hRc hRs hX hbB hE2 hQ q0 q1 q2 q3 q4 q5
  · by_cases g2 : (504 : Int32) < p1
    · exact jx_l33 p0 p1 p2 p3 p4 p5 g1 g2 hsw hTb hT2 hl F hZ hRc hRs hX hbB hE2 hQ q0 q1 q2 q3 q4 q5
    · exact jx_l34 p0 p1 p2 p3 p4 p5 g1 g2 hsw hTb hT2 hl F hZ hRc hRs hX hbB hE2 hQ q0 q1 q2 q3 q4 q5
