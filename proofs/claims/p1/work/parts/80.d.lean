/-! part 80.d: the law: cases (gen/gen80.py) -/
set_option maxRecDepth 100000 in
theorem jx_i451 : jx_I jv_T2 451 4 (some .int) 8 133 jv_c451 := ⟨rfl, rfl, rfl, rfl, rfl⟩
set_option maxRecDepth 100000 in
theorem jv_i432 : jv_I 432 2 (some .long) 7 112 jv_c432 := ⟨rfl, rfl, rfl, rfl, rfl⟩
set_option maxRecDepth 100000 in
/-- ProgramBox.testPart: it throws -/
theorem jx_e193 (hTb : jv_TOk jv_Tb) (p0 : Int32) (p1 : Int32) (p2 : Int32) (p3 : Int32) (p4 : Int32) (p5 : Int32) (g1 : p1 < (0 : Int32)) : jx_Th 430 [.int p1, .int (8 : Int32), .int (512 : Int32)] (jv_H (jx_K 227) jx_If jx_L0 (jx_R 227)) 227 1572950 2 (jv_H (jx_K 227) jx_If jx_L0 (jx_R 227)) 228 1572956 := by
  refine jx_Th.of hTb (y := 430) rfl (Nat.le_of_ble_eq_true rfl) ?_
  intro p l e R s m args below meth c E hl F hZ h0 ht hRc hRs
  show jw p l e R s m args below meth c E 3 227 1572950 _ 0 [(0, .int p1), (1, .int (8 : Int32)), (2, .int (512 : Int32))] [] (jv_H (jx_K 227) jx_If jx_L0 (jx_R 227)) 227 1572950
  refine jw.steps F jv_i430 1 (pc' := 1) (l' := [(0, .int p1), (1, .int (8 : Int32)), (2, .int (512 : Int32))]) (st' := [.int p1]) rfl ?_
  refine jw.br F jv_i430 (pc' := 11) (st' := []) rfl (jv_bi_lt.trans (jx_got g1)) ?_
  exact jw.throw hl F hZ h0 rfl jv_i430 ht 2 185 "there is no such byte" (List.mem_of_getElem? (i := 12) rfl) (by decide +kernel) (by decide +kernel) (by decide +kernel) (by decide +kernel) (by decide +kernel) rfl (by decide) (by decide) (by decide) (by omega) (by omega)

set_option maxRecDepth 100000 in
/-- ProgramBox.desk: it throws -/
theorem jx_e194 (hTb : jv_TOk jv_Tb) (p0 : Int32) (p1 : Int32) (p2 : Int32) (p3 : Int32) (p4 : Int32) (p5 : Int32) (g1 : p1 < (0 : Int32)) : jx_Th 432 [.ref 0, .int p1] (jv_H (jx_K 227) jx_If jx_L0 (jx_R 227)) 227 1572950 2 (jv_H (jx_K 227) jx_If jx_L0 (jx_R 227)) 228 1572956 := by
  refine jx_Th.of hTb (y := 432) rfl (Nat.le_of_ble_eq_true rfl) ?_
  intro p l e R s m args below meth c E hl F hZ h0 ht hRc hRs
  show jw p l e R s m args below meth c E 2 227 1572950 _ 0 [(0, .ref 0), (1, .int p1)] [] (jv_H (jx_K 227) jx_If jx_L0 (jx_R 227)) 227 1572950
  refine jw.steps F jv_i432 3 (pc' := 6) (l' := [(0, .ref 0), (1, .int p1)]) (st' := [.int (512 : Int32), .int (8 : Int32), .int p1]) rfl ?_
  exact jw.prop hTb hl F hZ jv_i432 ht rfl jv_i430 [.int p1, .int (8 : Int32), .int (512 : Int32)] rfl rfl rfl rfl rfl rfl rfl (jx_e193 hTb p0 p1 p2 p3 p4 p5 g1) (by omega) (by omega) (by omega) (by omega)

set_option maxRecDepth 100000 in
/-- the law's desk -/
theorem jx_w195 (hTb : jv_TOk jv_Tb) (hT2 : jx_T2Ok) (p0 : Int32) (p1 : Int32) (p2 : Int32) (p3 : Int32) (p4 : Int32) (p5 : Int32) (g1 : p1 < (0 : Int32)) : jx_Wr 451 [(0, 8, 11, 36)] [.ref 0, .int p1, .ref 226] (jv_H (jx_K 227) jx_If jx_L0 (jx_R 227)) 227 1572950 (some (.int (1 : Int32)), (jv_H (jx_K 227) jx_If jx_L0 (jx_R 227)), 228, 1572956) := by
  refine jx_Wr.of hT2 (by decide) rfl (Nat.le_of_ble_eq_true rfl) ?_
  intro p l e R s m args below meth c E hl F hZ htb hRc hRs
  show jw p l e R s m args below meth c E 4 227 1572950 _ 0 [(0, .ref 0), (1, .int p1), (2, .ref 226)] [] (jv_H (jx_K 227) jx_If jx_L0 (jx_R 227)) 227 1572950
  have hRc : R.cells = 228 - 227 := hRc
  have hRs : R.slots = 1572956 - 1572950 := hRs
  refine jw.steps F jx_i451 4 (pc' := 4) (l' := [(0, .ref 0), (1, .int p1), (2, .ref 226)]) (st' := [.int p1, .ref 0, .int (0 : Int32), .ref 226]) rfl ?_
  refine jw.cat hTb hl F hZ rfl jx_i451 htb rfl jv_i432 [.ref 0, .int p1] rfl rfl rfl rfl rfl (jx_cal2 rfl (jv_H_at rfl) rfl rfl) rfl (jx_e194 hTb p0 p1 p2 p3 p4 p5 g1) (by omega) (by omega) (by omega) (by omega) [] (0, 8, 11, 36) [] rfl (fun z h => absurd h List.not_mem_nil) (by decide) rfl rfl (Or.inr ⟨3, rfl, rfl, rfl⟩) (by decide) ?_
  refine jw.steps F jx_i451 1 (pc' := 13) (l' := []) (st' := [.int (1 : Int32)]) rfl ?_
  exact jw.ret F jx_i451 rfl rfl

set_option maxRecDepth 100000 in
theorem jv_i410 : jv_I 410 4 (some .long) 2 46 jv_c410 := ⟨rfl, rfl, rfl, rfl, rfl⟩
set_option maxRecDepth 100000 in
theorem jv_i329 : jv_I 329 2 (some .long) 1 25 jv_c329 := ⟨rfl, rfl, rfl, rfl, rfl⟩
set_option maxRecDepth 100000 in
/-- ProgramBoxModel$Store.isDesk -/
theorem jx_e196 (p0 : Int32) (p1 : Int32) (p2 : Int32) (p3 : Int32) (p4 : Int32) (p5 : Int32) (g1 : p1 < (0 : Int32)) : jv_Ms 326 [.int p1, .int (8 : Int32)] (jv_H (jx_K 227) jx_If jx_L0 (jx_R 227)) 228 1572956 (some (.int (0 : Int32)), (jv_H (jx_K 227) jx_If jx_L0 (jx_R 227)), 228, 1572956) := by
  show jv_Ev 326 0 [(0, .int p1), (1, .int (8 : Int32))] [] (jv_H (jx_K 227) jx_If jx_L0 (jx_R 227)) 228 1572956 _
  refine jv_Ev.steps jv_i326 1 (pc' := 1) (l' := [(0, .int p1), (1, .int (8 : Int32))]) (st' := [.int p1]) rfl ?_
  refine jv_Ev.br jv_i326 (pc' := 17) (st' := []) rfl (jv_bi_lt.trans (jx_got g1)) ?_
  refine jv_Ev.steps jv_i326 1 (pc' := 18) (l' := [(0, .int p1), (1, .int (8 : Int32))]) (st' := [.int (0 : Int32)]) rfl ?_
  exact jv_Ev.ret jv_i326 rfl (jv_ret_b (by decide))

set_option maxRecDepth 100000 in
/-- ProgramBoxModel$Store.desk -/
theorem jx_e197 (p0 : Int32) (p1 : Int32) (p2 : Int32) (p3 : Int32) (p4 : Int32) (p5 : Int32) (g1 : p1 < (0 : Int32)) : jv_Ms 329 [.ref 180, .int p1] (jv_H (jx_K 227) jx_If jx_L0 (jx_R 227)) 228 1572956 (some (.long (0 : Int64)), (jv_H (jx_K 227) (jv_u jx_If 180 0 (1 : Int32)) jx_L0 (jx_R 227)), 228, 1572956) := by
  show jv_Ev 329 0 [(0, .ref 180), (1, .int p1)] [] (jv_H (jx_K 227) jx_If jx_L0 (jx_R 227)) 228 1572956 _
  refine jv_Ev.steps jv_i329 3 (pc' := 4) (l' := [(0, .ref 180), (1, .int p1)]) (st' := [.int (8 : Int32), .int p1, .ref 180]) rfl ?_
  refine jv_Ev.c jv_i329 (pc' := 7) (S' := [.int (0 : Int32), .ref 180]) jv_i326 [.int p1, .int (8 : Int32)] rfl rfl rfl rfl rfl rfl (jx_e196 p0 p1 p2 p3 p4 p5 g1) rfl rfl ?_
  refine jv_Ev.br jv_i329 (pc' := 14) (st' := [.ref 180]) rfl (jv_bi_eq.trans (jx_got (by decide))) ?_
  refine jv_Ev.steps jv_i329 1 (pc' := 15) (l' := [(0, .ref 180), (1, .int p1)]) (st' := [.int (1 : Int32), .ref 180]) rfl ?_
  refine jv_Ev.m jv_i329 (pc' := 18) (st' := []) rfl rfl (jv_m_putI rfl rfl rfl rfl rfl) ?_
  refine jv_Ev.steps jv_i329 1 (pc' := 19) (l' := [(0, .ref 180), (1, .int p1)]) (st' := [.ref 180]) rfl ?_
  refine jv_Ev.m jv_i329 (pc' := 22) (st' := [.int (1 : Int32)]) rfl rfl (jv_m_getI rfl rfl rfl rfl) ?_
  refine jv_Ev.br jv_i329 (pc' := 25) (st' := []) rfl (jv_bi_le.trans (jx_gof (by decide))) ?_
  refine jv_Ev.steps jv_i329 2 (pc' := 39) (l' := [(0, .ref 180), (1, .int p1)]) (st' := [.long (0 : Int64)]) rfl ?_
  exact jv_Ev.ret jv_i329 rfl rfl

set_option maxRecDepth 100000 in
/-- ProgramBoxModel$Store.thrown -/
theorem jx_e198 (p0 : Int32) (p1 : Int32) (p2 : Int32) (p3 : Int32) (p4 : Int32) (p5 : Int32) (g1 : p1 < (0 : Int32)) : jv_Ms 318 [.ref 180] (jv_H (jx_K 227) (jv_u jx_If 180 0 (1 : Int32)) jx_L0 (jx_R 227)) 228 1572956 (some (.int (1 : Int32)), (jv_H (jx_K 227) (jv_u jx_If 180 0 (1 : Int32)) jx_L0 (jx_R 227)), 228, 1572956) := by
  show jv_Ev 318 0 [(0, .ref 180)] [] (jv_H (jx_K 227) (jv_u jx_If 180 0 (1 : Int32)) jx_L0 (jx_R 227)) 228 1572956 _
  refine jv_Ev.steps jv_i318 1 (pc' := 1) (l' := [(0, .ref 180)]) (st' := [.ref 180]) rfl ?_
  refine jv_Ev.m jv_i318 (pc' := 4) (st' := [.int (1 : Int32)]) rfl rfl (jv_m_getI rfl rfl rfl rfl) ?_
  exact jv_Ev.ret jv_i318 rfl rfl

set_option maxRecDepth 100000 in
/-- ProgramBoxModel.desk -/
theorem jx_e199 (p0 : Int32) (p1 : Int32) (p2 : Int32) (p3 : Int32) (p4 : Int32) (p5 : Int32) (g1 : p1 < (0 : Int32)) : jv_Ms 410 [.ref 178, .int p1] (jv_H (jx_K 227) jx_If jx_L0 (jx_R 227)) 228 1572956 (some (.long (0 : Int64)), (jv_H (jx_K 227) (jv_u (jv_u jx_If 180 0 (1 : Int32)) 178 0 (1 : Int32)) jx_L0 (jx_R 227)), 228, 1572956) := by
  show jv_Ev 410 0 [(0, .ref 178), (1, .int p1)] [] (jv_H (jx_K 227) jx_If jx_L0 (jx_R 227)) 228 1572956 _
  refine jv_Ev.steps jv_i410 1 (pc' := 1) (l' := [(0, .ref 178), (1, .int p1)]) (st' := [.ref 178]) rfl ?_
  refine jv_Ev.m jv_i410 (pc' := 4) (st' := [.ref 180]) rfl rfl (jv_m_getR rfl rfl rfl rfl) ?_
  refine jv_Ev.steps jv_i410 1 (pc' := 5) (l' := [(0, .ref 178), (1, .int p1)]) (st' := [.int p1, .ref 180]) rfl ?_
  refine jv_Ev.c jv_i410 (pc' := 8) (S' := [.long (0 : Int64)]) jv_i329 [.ref 180, .int p1] rfl rfl rfl rfl (jv_cal rfl (jv_H_at rfl) rfl rfl) rfl (jx_e197 p0 p1 p2 p3 p4 p5 g1) rfl rfl ?_
  refine jv_Ev.steps jv_i410 3 (pc' := 11) (l' := [(2, .long (0 : Int64)), (0, .ref 178), (1, .int p1)]) (st' := [.ref 178, .ref 178]) rfl ?_
  refine jv_Ev.m jv_i410 (pc' := 14) (st' := [.ref 180, .ref 178]) rfl rfl (jv_m_getR rfl rfl rfl rfl) ?_
  refine jv_Ev.c jv_i410 (pc' := 17) (S' := [.int (1 : Int32), .ref 178]) jv_i318 [.ref 180] rfl rfl rfl rfl (jv_cal rfl (jv_H_at rfl) rfl rfl) rfl (jx_e198 p0 p1 p2 p3 p4 p5 g1) rfl rfl ?_
  refine jv_Ev.m jv_i410 (pc' := 20) (st' := []) rfl rfl (jv_m_putI rfl rfl rfl rfl rfl) ?_
  refine jv_Ev.steps jv_i410 1 (pc' := 21) (l' := [(2, .long (0 : Int64)), (0, .ref 178), (1, .int p1)]) (st' := [.long (0 : Int64)]) rfl ?_
  exact jv_Ev.ret jv_i410 rfl rfl

set_option maxRecDepth 100000 in
/-- ProgramBoxModel.thrown -/
theorem jx_e200 (p0 : Int32) (p1 : Int32) (p2 : Int32) (p3 : Int32) (p4 : Int32) (p5 : Int32) (g1 : p1 < (0 : Int32)) : jv_Ms 350 [.ref 178] (jv_H (jx_K 227) (jv_u (jv_u jx_If 180 0 (1 : Int32)) 178 0 (1 : Int32)) jx_L0 (jx_R 227)) 228 1572956 (some (.int (1 : Int32)), (jv_H (jx_K 227) (jv_u (jv_u jx_If 180 0 (1 : Int32)) 178 0 (1 : Int32)) jx_L0 (jx_R 227)), 228, 1572956) := by
  show jv_Ev 350 0 [(0, .ref 178)] [] (jv_H (jx_K 227) (jv_u (jv_u jx_If 180 0 (1 : Int32)) 178 0 (1 : Int32)) jx_L0 (jx_R 227)) 228 1572956 _
  refine jv_Ev.steps jv_i350 1 (pc' := 1) (l' := [(0, .ref 178)]) (st' := [.ref 178]) rfl ?_
  refine jv_Ev.m jv_i350 (pc' := 4) (st' := [.int (1 : Int32)]) rfl rfl (jv_m_getI rfl rfl rfl rfl) ?_
  exact jv_Ev.ret jv_i350 rfl rfl

set_option maxRecDepth 100000 in
/-- the law: case 19, one way -/
theorem jx_l35 (p0 : Int32) (p1 : Int32) (p2 : Int32) (p3 : Int32) (p4 : Int32) (p5 : Int32) (g1 : p1 < (0 : Int32)) (hsw : p0 &&& (31 : Int32) = (19 : Int32)) {p : Program} {l : Launch} {e : Env} {R : Room} {s : State} {m : MethodId} {args : Array Value} {below : List Frame} {meth : Method} {c : Code} {E : jv_Env} {Q : State → Prop} (hTb : jv_TOk jv_Tb) (hT2 : jx_T2Ok) (hl : l.stackTraces = false) (F : jx_F jv_T2 439 E p R s m args meth c) (hZ : jx_Z E s) (hRc : R.cells = 600002) (hRs : R.slots = 7302232) {bb : Nat} {xs : Nat → Int32} (hX : va_X bb 6 xs s E.2.2.2.2) (hbB : bb < E.2.2.2.1) (hE2 : E.1 1000002 = bb) (hQ : ∀ (l0 : jv_L) (G : jv_G) (n sl : Nat), n ≤ 600002 → sl ≤ 7302232 → jw p l e R s m args below meth c E 8 0 0 Q 1532 l0 [.int (1 : Int32)] G n sl) (q0 : xs 0 = p0) (q1 : xs 1 = p1) (q2 : xs 2 = p2) (q3 : xs 3 = p3) (q4 : xs 4 = p4) (q5 : xs 5 = p5) : jw p l e R s m args below meth c E 8 0 0 Q 33 [(0, .ref 1000002), (1, .ref 0), (2, .ref 178), (3, .ref 226), (4, .int (0 : Int32))] [] (jv_H (jx_K 227) jx_If jx_L0 (jx_R 227)) 227 1572950 := by
  refine jw.steps F jx_i439 2 (pc' := 36) (l' := [(0, .ref 1000002), (1, .ref 0), (2, .ref 178), (3, .ref 226), (4, .int (0 : Int32))]) (st' := [.int (0 : Int32), .ref 1000002]) rfl ?_
  refine jw.sld F jx_i439 hX hbB hE2 (pc' := 37) rfl rfl (show vp_in (nI 0) 6 from vp_in_nI (by decide) (by decide)) q0 rfl ?_
  refine jw.steps F jx_i439 2 (pc' := 40) (l' := [(0, .ref 1000002), (1, .ref 0), (2, .ref 178), (3, .ref 226), (4, .int (0 : Int32))]) (st' := [.int (p0 &&& (31 : Int32))]) rfl ?_
  refine jw.br F jx_i439 (pc' := 1026) (st' := []) rfl (by rw [hsw]; rfl) ?_
  refine jw.steps F jx_i439 5 (pc' := 1032) (l' := [(0, .ref 1000002), (1, .ref 0), (2, .ref 178), (3, .ref 226), (4, .int (0 : Int32))]) (st' := [.int (1 : Int32), .ref 1000002, .ref 0]) rfl ?_
  refine jw.sld F jx_i439 hX hbB hE2 (pc' := 1033) rfl rfl (show vp_in (nI 1) 6 from vp_in_nI (by decide) (by decide)) q1 rfl ?_
  refine jw.steps F jx_i439 1 (pc' := 1034) (l' := [(0, .ref 1000002), (1, .ref 0), (2, .ref 178), (3, .ref 226), (4, .int (0 : Int32))]) (st' := [.ref 226, .int p1, .ref 0]) rfl ?_
  refine jw.wr F hl hZ rfl jx_i439 jx_i451 [.ref 0, .int p1, .ref 226] (pc' := 1037) (S' := [.int (1 : Int32)]) rfl (List.mem_of_getElem? (i := 11) rfl) (List.mem_of_getElem? (i := 11) rfl) rfl rfl rfl (jx_w195 hTb hT2 p0 p1 p2 p3 p4 p5 g1) (by omega) (by omega) (by omega) (by omega) rfl rfl ?_
  refine jw.steps F jx_i439 6 (pc' := 1045) (l' := [(5, .int (1 : Int32)), (0, .ref 1000002), (1, .ref 0), (2, .ref 178), (3, .ref 226), (4, .int (0 : Int32))]) (st' := [.int (1 : Int32), .ref 1000002, .ref 178]) rfl ?_
  refine jw.sld F jx_i439 hX hbB hE2 (pc' := 1046) rfl rfl (show vp_in (nI 1) 6 from vp_in_nI (by decide) (by decide)) q1 rfl ?_
  refine jw.ca hTb F jx_i439 (pc' := 1049) (S' := [.long (0 : Int64)]) rfl jv_i410 [.ref 178, .int p1] rfl rfl rfl rfl (jx_cal2 rfl (jv_H_at rfl) rfl rfl) rfl (jx_e199 p0 p1 p2 p3 p4 p5 g1) (by omega) (by omega) rfl rfl ?_
  refine jw.steps F jx_i439 2 (pc' := 1052) (l' := [(6, .long (0 : Int64)), (5, .int (1 : Int32)), (0, .ref 1000002), (1, .ref 0), (2, .ref 178), (3, .ref 226), (4, .int (0 : Int32))]) (st' := [.ref 178]) rfl ?_
  refine jw.ca hTb F jx_i439 (pc' := 1055) (S' := [.int (1 : Int32)]) rfl jv_i350 [.ref 178] rfl rfl rfl rfl (jx_cal2 rfl (jv_H_at rfl) rfl rfl) rfl (jx_e200 p0 p1 p2 p3 p4 p5 g1) (by omega) (by omega) rfl rfl ?_
  refine jw.steps F jx_i439 1 (pc' := 1057) (l' := [(6, .long (0 : Int64)), (5, .int (1 : Int32)), (0, .ref 1000002), (1, .ref 0), (2, .ref 178), (3, .ref 226), (4, .int (0 : Int32))]) (st' := [.int (1 : Int32), .int (1 : Int32)]) rfl ?_
  refine jw.br F jx_i439 (pc' := 1062) (st' := []) rfl (jv_bc_eq.trans (jx_got (by decide))) ?_
  refine jw.steps F jx_i439 1 (pc' := 1064) (l' := [(6, .long (0 : Int64)), (5, .int (1 : Int32)), (0, .ref 1000002), (1, .ref 0), (2, .ref 178), (3, .ref 226), (4, .int (0 : Int32))]) (st' := [.int (1 : Int32)]) rfl ?_
  refine jw.br F jx_i439 (pc' := 1078) (st' := []) rfl (jv_bi_ne.trans (jx_got (by decide))) ?_
  refine jw.steps F jx_i439 5 (pc' := 26) (l' := [(4, .int (6 : Int32)), (6, .long (0 : Int64)), (5, .int (1 : Int32)), (0, .ref 1000002), (1, .ref 0), (2, .ref 178), (3, .ref 226)]) (st' := [.ref 1000002, .int (6 : Int32)]) rfl ?_
  refine jw.slen F jx_i439 hX hbB hE2 (pc' := 27) rfl rfl rfl ?_
  refine jw.steps F jx_i439 2 (pc' := 30) (l' := [(4, .int (6 : Int32)), (6, .long (0 : Int64)), (5, .int (1 : Int32)), (0, .ref 1000002), (1, .ref 0), (2, .ref 178), (3, .ref 226)]) (st' := [.int (0 : Int32), .int (6 : Int32)]) rfl ?_
  refine jw.br F jx_i439 (pc' := 1531) (st' := []) rfl (jv_bc_gt.trans (jx_got (by decide))) ?_
  refine jw.steps F jx_i439 1 (pc' := 1532) (l' := [(4, .int (6 : Int32)), (6, .long (0 : Int64)), (5, .int (1 : Int32)), (0, .ref 1000002), (1, .ref 0), (2, .ref 178), (3, .ref 226)]) (st' := [.int (1 : Int32)]) rfl ?_
  exact hQ _ _ _ _ (by omega) (by omega)

set_option maxRecDepth 100000 in
/-- ProgramBox.testPart: it throws -/
theorem jx_e201 (hTb : jv_TOk jv_Tb) (p0 : Int32) (p1 : Int32) (p2 : Int32) (p3 : Int32) (p4 : Int32) (p5 : Int32) (g1 : ¬ p1 < (0 : Int32)) (g2 : (504 : Int32) < p1) : jx_Th 430 [.int p1, .int (8 : Int32), .int (512 : Int32)] (jv_H (jx_K 227) jx_If jx_L0 (jx_R 227)) 227 1572950 2 (jv_H (jx_K 227) jx_If jx_L0 (jx_R 227)) 228 1572956 := by
  refine jx_Th.of hTb (y := 430) rfl (Nat.le_of_ble_eq_true rfl) ?_
  intro p l e R s m args below meth c E hl F hZ h0 ht hRc hRs
  show jw p l e R s m args below meth c E 3 227 1572950 _ 0 [(0, .int p1), (1, .int (8 : Int32)), (2, .int (512 : Int32))] [] (jv_H (jx_K 227) jx_If jx_L0 (jx_R 227)) 227 1572950
  refine jw.steps F jv_i430 1 (pc' := 1) (l' := [(0, .int p1), (1, .int (8 : Int32)), (2, .int (512 : Int32))]) (st' := [.int p1]) rfl ?_
  refine jw.br F jv_i430 (pc' := 4) (st' := []) rfl (jv_bi_lt.trans (jx_gof g1)) ?_
  refine jw.steps F jv_i430 4 (pc' := 8) (l' := [(0, .int p1), (1, .int (8 : Int32)), (2, .int (512 : Int32))]) (st' := [.int (504 : Int32), .int p1]) rfl ?_
  refine jw.br F jv_i430 (pc' := 11) (st' := []) rfl (jv_bc_le.trans (jx_gof (Int32.not_le.mpr g2))) ?_
  exact jw.throw hl F hZ h0 rfl jv_i430 ht 2 185 "there is no such byte" (List.mem_of_getElem? (i := 12) rfl) (by decide +kernel) (by decide +kernel) (by decide +kernel) (by decide +kernel) (by decide +kernel) rfl (by decide) (by decide) (by decide) (by omega) (by omega)

set_option maxRecDepth 100000 in
/-- ProgramBox.desk: it throws -/
theorem jx_e202 (hTb : jv_TOk jv_Tb) (p0 : Int32) (p1 : Int32) (p2 : Int32) (p3 : Int32) (p4 : Int32) (p5 : Int32) (g1 : ¬ p1 < (0 : Int32)) (g2 : (504 : Int32) < p1) : jx_Th 432 [.ref 0, .int p1] (jv_H (jx_K 227) jx_If jx_L0 (jx_R 227)) 227 1572950 2 (jv_H (jx_K 227) jx_If jx_L0 (jx_R 227)) 228 1572956 := by
  refine jx_Th.of hTb (y := 432) rfl (Nat.le_of_ble_eq_true rfl) ?_
  intro p l e R s m args below meth c E hl F hZ h0 ht hRc hRs
  show jw p l e R s m args below meth c E 2 227 1572950 _ 0 [(0, .ref 0), (1, .int p1)] [] (jv_H (jx_K 227) jx_If jx_L0 (jx_R 227)) 227 1572950
  refine jw.steps F jv_i432 3 (pc' := 6) (l' := [(0, .ref 0), (1, .int p1)]) (st' := [.int (512 : Int32), .int (8 : Int32), .int p1]) rfl ?_
  exact jw.prop hTb hl F hZ jv_i432 ht rfl jv_i430 [.int p1, .int (8 : Int32), .int (512 : Int32)] rfl rfl rfl rfl rfl rfl rfl (jx_e201 hTb p0 p1 p2 p3 p4 p5 g1 g2) (by omega) (by omega) (by omega) (by omega)

set_option maxRecDepth 100000 in
/-- the law's desk -/
theorem jx_w203 (hTb : jv_TOk jv_Tb) (hT2 : jx_T2Ok) (p0 : Int32) (p1 : Int32) (p2 : Int32) (p3 : Int32) (p4 : Int32) (p5 : Int32) (g1 : ¬ p1 < (0 : Int32)) (g2 : (504 : Int32) < p1) : jx_Wr 451 [(0, 8, 11, 36)] [.ref 0, .int p1, .ref 226] (jv_H (jx_K 227) jx_If jx_L0 (jx_R 227)) 227 1572950 (some (.int (1 : Int32)), (jv_H (jx_K 227) jx_If jx_L0 (jx_R 227)), 228, 1572956) := by
  refine jx_Wr.of hT2 (by decide) rfl (Nat.le_of_ble_eq_true rfl) ?_
  intro p l e R s m args below meth c E hl F hZ htb hRc hRs
  show jw p l e R s m args below meth c E 4 227 1572950 _ 0 [(0, .ref 0), (1, .int p1), (2, .ref 226)] [] (jv_H (jx_K 227) jx_If jx_L0 (jx_R 227)) 227 1572950
  have hRc : R.cells = 228 - 227 := hRc
  have hRs : R.slots = 1572956 - 1572950 := hRs
  refine jw.steps F jx_i451 4 (pc' := 4) (l' := [(0, .ref 0), (1, .int p1), (2, .ref 226)]) (st' := [.int p1, .ref 0, .int (0 : Int32), .ref 226]) rfl ?_
  refine jw.cat hTb hl F hZ rfl jx_i451 htb rfl jv_i432 [.ref 0, .int p1] rfl rfl rfl rfl rfl (jx_cal2 rfl (jv_H_at rfl) rfl rfl) rfl (jx_e202 hTb p0 p1 p2 p3 p4 p5 g1 g2) (by omega) (by omega) (by omega) (by omega) [] (0, 8, 11, 36) [] rfl (fun z h => absurd h List.not_mem_nil) (by decide) rfl rfl (Or.inr ⟨3, rfl, rfl, rfl⟩) (by decide) ?_
  refine jw.steps F jx_i451 1 (pc' := 13) (l' := []) (st' := [.int (1 : Int32)]) rfl ?_
  exact jw.ret F jx_i451 rfl rfl

set_option maxRecDepth 100000 in
/-- ProgramBoxModel$Store.isDesk -/
theorem jx_e204 (p0 : Int32) (p1 : Int32) (p2 : Int32) (p3 : Int32) (p4 : Int32) (p5 : Int32) (g1 : ¬ p1 < (0 : Int32)) (g2 : (504 : Int32) < p1) : jv_Ms 326 [.int p1, .int (8 : Int32)] (jv_H (jx_K 227) jx_If jx_L0 (jx_R 227)) 228 1572956 (some (.int (0 : Int32)), (jv_H (jx_K 227) jx_If jx_L0 (jx_R 227)), 228, 1572956) := by
  show jv_Ev 326 0 [(0, .int p1), (1, .int (8 : Int32))] [] (jv_H (jx_K 227) jx_If jx_L0 (jx_R 227)) 228 1572956 _
  refine jv_Ev.steps jv_i326 1 (pc' := 1) (l' := [(0, .int p1), (1, .int (8 : Int32))]) (st' := [.int p1]) rfl ?_
  refine jv_Ev.br jv_i326 (pc' := 4) (st' := []) rfl (jv_bi_lt.trans (jx_gof g1)) ?_
  refine jv_Ev.steps jv_i326 4 (pc' := 10) (l' := [(0, .int p1), (1, .int (8 : Int32))]) (st' := [.int (504 : Int32), .int p1]) rfl ?_
  refine jv_Ev.br jv_i326 (pc' := 17) (st' := []) rfl (jv_bc_gt.trans (jx_got g2)) ?_
  refine jv_Ev.steps jv_i326 1 (pc' := 18) (l' := [(0, .int p1), (1, .int (8 : Int32))]) (st' := [.int (0 : Int32)]) rfl ?_
  exact jv_Ev.ret jv_i326 rfl (jv_ret_b (by decide))

set_option maxRecDepth 100000 in
/-- ProgramBoxModel$Store.desk -/
theorem jx_e205 (p0 : Int32) (p1 : Int32) (p2 : Int32) (p3 : Int32) (p4 : Int32) (p5 : Int32) (g1 : ¬ p1 < (0 : Int32)) (g2 : (504 : Int32) < p1) : jv_Ms 329 [.ref 180, .int p1] (jv_H (jx_K 227) jx_If jx_L0 (jx_R 227)) 228 1572956 (some (.long (0 : Int64)), (jv_H (jx_K 227) (jv_u jx_If 180 0 (1 : Int32)) jx_L0 (jx_R 227)), 228, 1572956) := by
  show jv_Ev 329 0 [(0, .ref 180), (1, .int p1)] [] (jv_H (jx_K 227) jx_If jx_L0 (jx_R 227)) 228 1572956 _
  refine jv_Ev.steps jv_i329 3 (pc' := 4) (l' := [(0, .ref 180), (1, .int p1)]) (st' := [.int (8 : Int32), .int p1, .ref 180]) rfl ?_
  refine jv_Ev.c jv_i329 (pc' := 7) (S' := [.int (0 : Int32), .ref 180]) jv_i326 [.int p1, .int (8 : Int32)] rfl rfl rfl rfl rfl rfl (jx_e204 p0 p1 p2 p3 p4 p5 g1 g2) rfl rfl ?_
  refine jv_Ev.br jv_i329 (pc' := 14) (st' := [.ref 180]) rfl (jv_bi_eq.trans (jx_got (by decide))) ?_
  refine jv_Ev.steps jv_i329 1 (pc' := 15) (l' := [(0, .ref 180), (1, .int p1)]) (st' := [.int (1 : Int32), .ref 180]) rfl ?_
  refine jv_Ev.m jv_i329 (pc' := 18) (st' := []) rfl rfl (jv_m_putI rfl rfl rfl rfl rfl) ?_
  refine jv_Ev.steps jv_i329 1 (pc' := 19) (l' := [(0, .ref 180), (1, .int p1)]) (st' := [.ref 180]) rfl ?_
  refine jv_Ev.m jv_i329 (pc' := 22) (st' := [.int (1 : Int32)]) rfl rfl (jv_m_getI rfl rfl rfl rfl) ?_
  refine jv_Ev.br jv_i329 (pc' := 25) (st' := []) rfl (jv_bi_le.trans (jx_gof (by decide))) ?_
  refine jv_Ev.steps jv_i329 2 (pc' := 39) (l' := [(0, .ref 180), (1, .int p1)]) (st' := [.long (0 : Int64)]) rfl ?_
  exact jv_Ev.ret jv_i329 rfl rfl

set_option maxRecDepth 100000 in
/-- ProgramBoxModel$Store.thrown -/
theorem jx_e206 (p0 : Int32) (p1 : Int32) (p2 : Int32) (p3 : Int32) (p4 : Int32) (p5 : Int32) (g1 : ¬ p1 < (0 : Int32)) (g2 : (504 : Int32) < p1) : jv_Ms 318 [.ref 180] (jv_H (jx_K 227) (jv_u jx_If 180 0 (1 : Int32)) jx_L0 (jx_R 227)) 228 1572956 (some (.int (1 : Int32)), (jv_H (jx_K 227) (jv_u jx_If 180 0 (1 : Int32)) jx_L0 (jx_R 227)), 228, 1572956) := by
  show jv_Ev 318 0 [(0, .ref 180)] [] (jv_H (jx_K 227) (jv_u jx_If 180 0 (1 : Int32)) jx_L0 (jx_R 227)) 228 1572956 _
  refine jv_Ev.steps jv_i318 1 (pc' := 1) (l' := [(0, .ref 180)]) (st' := [.ref 180]) rfl ?_
  refine jv_Ev.m jv_i318 (pc' := 4) (st' := [.int (1 : Int32)]) rfl rfl (jv_m_getI rfl rfl rfl rfl) ?_
  exact jv_Ev.ret jv_i318 rfl rfl

set_option maxRecDepth 100000 in
/-- ProgramBoxModel.desk -/
theorem jx_e207 (p0 : Int32) (p1 : Int32) (p2 : Int32) (p3 : Int32) (p4 : Int32) (p5 : Int32) (g1 : ¬ p1 < (0 : Int32)) (g2 : (504 : Int32) < p1) : jv_Ms 410 [.ref 178, .int p1] (jv_H (jx_K 227) jx_If jx_L0 (jx_R 227)) 228 1572956 (some (.long (0 : Int64)), (jv_H (jx_K 227) (jv_u (jv_u jx_If 180 0 (1 : Int32)) 178 0 (1 : Int32)) jx_L0 (jx_R 227)), 228, 1572956) := by
  show jv_Ev 410 0 [(0, .ref 178), (1, .int p1)] [] (jv_H (jx_K 227) jx_If jx_L0 (jx_R 227)) 228 1572956 _
  refine jv_Ev.steps jv_i410 1 (pc' := 1) (l' := [(0, .ref 178), (1, .int p1)]) (st' := [.ref 178]) rfl ?_
  refine jv_Ev.m jv_i410 (pc' := 4) (st' := [.ref 180]) rfl rfl (jv_m_getR rfl rfl rfl rfl) ?_
  refine jv_Ev.steps jv_i410 1 (pc' := 5) (l' := [(0, .ref 178), (1, .int p1)]) (st' := [.int p1, .ref 180]) rfl ?_
  refine jv_Ev.c jv_i410 (pc' := 8) (S' := [.long (0 : Int64)]) jv_i329 [.ref 180, .int p1] rfl rfl rfl rfl (jv_cal rfl (jv_H_at rfl) rfl rfl) rfl (jx_e205 p0 p1 p2 p3 p4 p5 g1 g2) rfl rfl ?_
  refine jv_Ev.steps jv_i410 3 (pc' := 11) (l' := [(2, .long (0 : Int64)), (0, .ref 178), (1, .int p1)]) (st' := [.ref 178, .ref 178]) rfl ?_
  refine jv_Ev.m jv_i410 (pc' := 14) (st' := [.ref 180, .ref 178]) rfl rfl (jv_m_getR rfl rfl rfl rfl) ?_
  refine jv_Ev.c jv_i410 (pc' := 17) (S' := [.int (1 : Int32), .ref 178]) jv_i318 [.ref 180] rfl rfl rfl rfl (jv_cal rfl (jv_H_at rfl) rfl rfl) rfl (jx_e206 p0 p1 p2 p3 p4 p5 g1 g2) rfl rfl ?_
  refine jv_Ev.m jv_i410 (pc' := 20) (st' := []) rfl rfl (jv_m_putI rfl rfl rfl rfl rfl) ?_
  refine jv_Ev.steps jv_i410 1 (pc' := 21) (l' := [(2, .long (0 : Int64)), (0, .ref 178), (1, .int p1)]) (st' := [.long (0 : Int64)]) rfl ?_
  exact jv_Ev.ret jv_i410 rfl rfl

set_option maxRecDepth 100000 in
/-- ProgramBoxModel.thrown -/
theorem jx_e208 (p0 : Int32) (p1 : Int32) (p2 : Int32) (p3 : Int32) (p4 : Int32) (p5 : Int32) (g1 : ¬ p1 < (0 : Int32)) (g2 : (504 : Int32) < p1) : jv_Ms 350 [.ref 178] (jv_H (jx_K 227) (jv_u (jv_u jx_If 180 0 (1 : Int32)) 178 0 (1 : Int32)) jx_L0 (jx_R 227)) 228 1572956 (some (.int (1 : Int32)), (jv_H (jx_K 227) (jv_u (jv_u jx_If 180 0 (1 : Int32)) 178 0 (1 : Int32)) jx_L0 (jx_R 227)), 228, 1572956) := by
  show jv_Ev 350 0 [(0, .ref 178)] [] (jv_H (jx_K 227) (jv_u (jv_u jx_If 180 0 (1 : Int32)) 178 0 (1 : Int32)) jx_L0 (jx_R 227)) 228 1572956 _
  refine jv_Ev.steps jv_i350 1 (pc' := 1) (l' := [(0, .ref 178)]) (st' := [.ref 178]) rfl ?_
  refine jv_Ev.m jv_i350 (pc' := 4) (st' := [.int (1 : Int32)]) rfl rfl (jv_m_getI rfl rfl rfl rfl) ?_
  exact jv_Ev.ret jv_i350 rfl rfl

set_option maxRecDepth 100000 in
/-- the law: case 19, one way -/
theorem jx_l36 (p0 : Int32) (p1 : Int32) (p2 : Int32) (p3 : Int32) (p4 : Int32) (p5 : Int32) (g1 : ¬ p1 < (0 : Int32)) (g2 : (504 : Int32) < p1) (hsw : p0 &&& (31 : Int32) = (19 : Int32)) {p : Program} {l : Launch} {e : Env} {R : Room} {s : State} {m : MethodId} {args : Array Value} {below : List Frame} {meth : Method} {c : Code} {E : jv_Env} {Q : State → Prop} (hTb : jv_TOk jv_Tb) (hT2 : jx_T2Ok) (hl : l.stackTraces = false) (F : jx_F jv_T2 439 E p R s m args meth c) (hZ : jx_Z E s) (hRc : R.cells = 600002) (hRs : R.slots = 7302232) {bb : Nat} {xs : Nat → Int32} (hX : va_X bb 6 xs s E.2.2.2.2) (hbB : bb < E.2.2.2.1) (hE2 : E.1 1000002 = bb) (hQ : ∀ (l0 : jv_L) (G : jv_G) (n sl : Nat), n ≤ 600002 → sl ≤ 7302232 → jw p l e R s m args below meth c E 8 0 0 Q 1532 l0 [.int (1 : Int32)] G n sl) (q0 : xs 0 = p0) (q1 : xs 1 = p1) (q2 : xs 2 = p2) (q3 : xs 3 = p3) (q4 : xs 4 = p4) (q5 : xs 5 = p5) : jw p l e R s m args below meth c E 8 0 0 Q 33 [(0, .ref 1000002), (1, .ref 0), (2, .ref 178), (3, .ref 226), (4, .int (0 : Int32))] [] (jv_H (jx_K 227) jx_If jx_L0 (jx_R 227)) 227 1572950 := by
  refine jw.steps F jx_i439 2 (pc' := 36) (l' := [(0, .ref 1000002), (1, .ref 0), (2, .ref 178), (3, .ref 226), (4, .int (0 : Int32))]) (st' := [.int (0 : Int32), .ref 1000002]) rfl ?_
  refine jw.sld F jx_i439 hX hbB hE2 (pc' := 37) rfl rfl (show vp_in (nI 0) 6 from vp_in_nI (by decide) (by decide)) q0 rfl ?_
  refine jw.steps F jx_i439 2 (pc' := 40) (l' := [(0, .ref 1000002), (1, .ref 0), (2, .ref 178), (3, .ref 226), (4, .int (0 : Int32))]) (st' := [.int (p0 &&& (31 : Int32))]) rfl ?_
  refine jw.br F jx_i439 (pc' := 1026) (st' := []) rfl (by rw [hsw]; rfl) ?_
  refine jw.steps F jx_i439 5 (pc' := 1032) (l' := [(0, .ref 1000002), (1, .ref 0), (2, .ref 178), (3, .ref 226), (4, .int (0 : Int32))]) (st' := [.int (1 : Int32), .ref 1000002, .ref 0]) rfl ?_
  refine jw.sld F jx_i439 hX hbB hE2 (pc' := 1033) rfl rfl (show vp_in (nI 1) 6 from vp_in_nI (by decide) (by decide)) q1 rfl ?_
  refine jw.steps F jx_i439 1 (pc' := 1034) (l' := [(0, .ref 1000002), (1, .ref 0), (2, .ref 178), (3, .ref 226), (4, .int (0 : Int32))]) (st' := [.ref 226, .int p1, .ref 0]) rfl ?_
  refine jw.wr F hl hZ rfl jx_i439 jx_i451 [.ref 0, .int p1, .ref 226] (pc' := 1037) (S' := [.int (1 : Int32)]) rfl (List.mem_of_getElem? (i := 11) rfl) (List.mem_of_getElem? (i := 11) rfl) rfl rfl rfl (jx_w203 hTb hT2 p0 p1 p2 p3 p4 p5 g1 g2) (by omega) (by omega) (by omega) (by omega) rfl rfl ?_
  refine jw.steps F jx_i439 6 (pc' := 1045) (l' := [(5, .int (1 : Int32)), (0, .ref 1000002), (1, .ref 0), (2, .ref 178), (3, .ref 226), (4, .int (0 : Int32))]) (st' := [.int (1 : Int32), .ref 1000002, .ref 178]) rfl ?_
  refine jw.sld F jx_i439 hX hbB hE2 (pc' := 1046) rfl rfl (show vp_in (nI 1) 6 from vp_in_nI (by decide) (by decide)) q1 rfl ?_
  refine jw.ca hTb F jx_i439 (pc' := 1049) (S' := [.long (0 : Int64)]) rfl jv_i410 [.ref 178, .int p1] rfl rfl rfl rfl (jx_cal2 rfl (jv_H_at rfl) rfl rfl) rfl (jx_e207 p0 p1 p2 p3 p4 p5 g1 g2) (by omega) (by omega) rfl rfl ?_
  refine jw.steps F jx_i439 2 (pc' := 1052) (l' := [(6, .long (0 : Int64)), (5, .int (1 : Int32)), (0, .ref 1000002), (1, .ref 0), (2, .ref 178), (3, .ref 226), (4, .int (0 : Int32))]) (st' := [.ref 178]) rfl ?_
  refine jw.ca hTb F jx_i439 (pc' := 1055) (S' := [.int (1 : Int32)]) rfl jv_i350 [.ref 178] rfl rfl rfl rfl (jx_cal2 rfl (jv_H_at rfl) rfl rfl) rfl (jx_e208 p0 p1 p2 p3 p4 p5 g1 g2) (by omega) (by omega) rfl rfl ?_
  refine jw.steps F jx_i439 1 (pc' := 1057) (l' := [(6, .long (0 : Int64)), (5, .int (1 : Int32)), (0, .ref 1000002), (1, .ref 0), (2, .ref 178), (3, .ref 226), (4, .int (0 : Int32))]) (st' := [.int (1 : Int32), .int (1 : Int32)]) rfl ?_
  refine jw.br F jx_i439 (pc' := 1062) (st' := []) rfl (jv_bc_eq.trans (jx_got (by decide))) ?_
  refine jw.steps F jx_i439 1 (pc' := 1064) (l' := [(6, .long (0 : Int64)), (5, .int (1 : Int32)), (0, .ref 1000002), (1, .ref 0), (2, .ref 178), (3, .ref 226), (4, .int (0 : Int32))]) (st' := [.int (1 : Int32)]) rfl ?_
  refine jw.br F jx_i439 (pc' := 1078) (st' := []) rfl (jv_bi_ne.trans (jx_got (by decide))) ?_
  refine jw.steps F jx_i439 5 (pc' := 26) (l' := [(4, .int (6 : Int32)), (6, .long (0 : Int64)), (5, .int (1 : Int32)), (0, .ref 1000002), (1, .ref 0), (2, .ref 178), (3, .ref 226)]) (st' := [.ref 1000002, .int (6 : Int32)]) rfl ?_
  refine jw.slen F jx_i439 hX hbB hE2 (pc' := 27) rfl rfl rfl ?_
  refine jw.steps F jx_i439 2 (pc' := 30) (l' := [(4, .int (6 : Int32)), (6, .long (0 : Int64)), (5, .int (1 : Int32)), (0, .ref 1000002), (1, .ref 0), (2, .ref 178), (3, .ref 226)]) (st' := [.int (0 : Int32), .int (6 : Int32)]) rfl ?_
  refine jw.br F jx_i439 (pc' := 1531) (st' := []) rfl (jv_bc_gt.trans (jx_got (by decide))) ?_
  refine jw.steps F jx_i439 1 (pc' := 1532) (l' := [(4, .int (6 : Int32)), (6, .long (0 : Int64)), (5, .int (1 : Int32)), (0, .ref 1000002), (1, .ref 0), (2, .ref 178), (3, .ref 226)]) (st' := [.int (1 : Int32)]) rfl ?_
  exact hQ _ _ _ _ (by omega) (by omega)

set_option maxRecDepth 100000 in
/-- ProgramBox.testPart -/
theorem jx_e209 (p0 : Int32) (p1 : Int32) (p2 : Int32) (p3 : Int32) (p4 : Int32) (p5 : Int32) (g1 : ¬ p1 < (0 : Int32)) (g2 : ¬ (504 : Int32) < p1) : jv_Ms 430 [.int p1, .int (8 : Int32), .int (512 : Int32)] (jv_H (jx_K 227) jx_If jx_L0 (jx_R 227)) 227 1572950 (none, (jv_H (jx_K 227) jx_If jx_L0 (jx_R 227)), 227, 1572950) := by
  show jv_Ev 430 0 [(0, .int p1), (1, .int (8 : Int32)), (2, .int (512 : Int32))] [] (jv_H (jx_K 227) jx_If jx_L0 (jx_R 227)) 227 1572950 _
  refine jv_Ev.steps jv_i430 1 (pc' := 1) (l' := [(0, .int p1), (1, .int (8 : Int32)), (2, .int (512 : Int32))]) (st' := [.int p1]) rfl ?_
  refine jv_Ev.br jv_i430 (pc' := 4) (st' := []) rfl (jv_bi_lt.trans (jx_gof g1)) ?_
  refine jv_Ev.steps jv_i430 4 (pc' := 8) (l' := [(0, .int p1), (1, .int (8 : Int32)), (2, .int (512 : Int32))]) (st' := [.int (504 : Int32), .int p1]) rfl ?_
  refine jv_Ev.br jv_i430 (pc' := 21) (st' := []) rfl (jv_bc_le.trans (jx_got (Int32.not_lt.mp g2))) ?_
  exact jv_Ev.ret jv_i430 rfl rfl

set_option maxRecDepth 100000 in
/-- ProgramBox$Store.read -/
theorem jx_e210 (p0 : Int32) (p1 : Int32) (p2 : Int32) (p3 : Int32) (p4 : Int32) (p5 : Int32) (g1 : ¬ p1 < (0 : Int32)) (g2 : ¬ (504 : Int32) < p1) : jv_Ms 121 [.ref 5, .int p1, .int (8 : Int32)] (jv_H (jx_K 227) jx_If jx_L0 (jx_R 227)) 227 1572950 (some (.long (0 : Int64)), (jv_H (jx_K 227) jx_If jx_L0 (jx_R 227)), 227, 1572950) := by
  show jv_Ev 121 0 [(0, .ref 5), (1, .int p1), (2, .int (8 : Int32))] [] (jv_H (jx_K 227) jx_If jx_L0 (jx_R 227)) 227 1572950 _
  refine jv_Ev.steps jv_i121 7 (pc' := 9) (l' := [(5, .int (7 : Int32)), (3, .long (0 : Int64)), (0, .ref 5), (1, .int p1), (2, .int (8 : Int32))]) (st' := [.int (7 : Int32)]) rfl ?_
  refine jv_Ev.br jv_i121 (pc' := 12) (st' := []) rfl (jv_bi_lt.trans (jx_gof (by decide))) ?_
  refine jv_Ev.steps jv_i121 7 (pc' := 21) (l' := [(5, .int (7 : Int32)), (3, .long (0 : Int64)), (0, .ref 5), (1, .int p1), (2, .int (8 : Int32))]) (st' := [.int (p1 + (7 : Int32)), .ref 5, .long (0 : Int64)]) rfl ?_
  refine jv_Ev.m jv_i121 (pc' := 22) (st' := [.int (0 : Int32), .long (0 : Int64)]) rfl rfl (jv_m_baldv rfl rfl (jx_ixa (k := 7) g1 g2 (by decide)) rfl rfl) ?_
  refine jv_Ev.steps jv_i121 8 (pc' := 9) (l' := [(5, .int (6 : Int32)), (3, .long (0 : Int64)), (0, .ref 5), (1, .int p1), (2, .int (8 : Int32))]) (st' := [.int (6 : Int32)]) rfl ?_
  refine jv_Ev.br jv_i121 (pc' := 12) (st' := []) rfl (jv_bi_lt.trans (jx_gof (by decide))) ?_
  refine jv_Ev.steps jv_i121 7 (pc' := 21) (l' := [(5, .int (6 : Int32)), (3, .long (0 : Int64)), (0, .ref 5), (1, .int p1), (2, .int (8 : Int32))]) (st' := [.int (p1 + (6 : Int32)), .ref 5, .long (0 : Int64)]) rfl ?_
  refine jv_Ev.m jv_i121 (pc' := 22) (st' := [.int (0 : Int32), .long (0 : Int64)]) rfl rfl (jv_m_baldv rfl rfl (jx_ixa (k := 6) g1 g2 (by decide)) rfl rfl) ?_
  refine jv_Ev.steps jv_i121 8 (pc' := 9) (l' := [(5, .int (5 : Int32)), (3, .long (0 : Int64)), (0, .ref 5), (1, .int p1), (2, .int (8 : Int32))]) (st' := [.int (5 : Int32)]) rfl ?_
  refine jv_Ev.br jv_i121 (pc' := 12) (st' := []) rfl (jv_bi_lt.trans (jx_gof (by decide))) ?_
  refine jv_Ev.steps jv_i121 7 (pc' := 21) (l' := [(5, .int (5 : Int32)), (3, .long (0 : Int64)), (0, .ref 5), (1, .int p1), (2, .int (8 : Int32))]) (st' := [.int (p1 + (5 : Int32)), .ref 5, .long (0 : Int64)]) rfl ?_
  refine jv_Ev.m jv_i121 (pc' := 22) (st' := [.int (0 : Int32), .long (0 : Int64)]) rfl rfl (jv_m_baldv rfl rfl (jx_ixa (k := 5) g1 g2 (by decide)) rfl rfl) ?_
  refine jv_Ev.steps jv_i121 8 (pc' := 9) (l' := [(5, .int (4 : Int32)), (3, .long (0 : Int64)), (0, .ref 5), (1, .int p1), (2, .int (8 : Int32))]) (st' := [.int (4 : Int32)]) rfl ?_
  refine jv_Ev.br jv_i121 (pc' := 12) (st' := []) rfl (jv_bi_lt.trans (jx_gof (by decide))) ?_
  refine jv_Ev.steps jv_i121 7 (pc' := 21) (l' := [(5, .int (4 : Int32)), (3, .long (0 : Int64)), (0, .ref 5), (1, .int p1), (2, .int (8 : Int32))]) (st' := [.int (p1 + (4 : Int32)), .ref 5, .long (0 : Int64)]) rfl ?_
  refine jv_Ev.m jv_i121 (pc' := 22) (st' := [.int (0 : Int32), .long (0 : Int64)]) rfl rfl (jv_m_baldv rfl rfl (jx_ixa (k := 4) g1 g2 (by decide)) rfl rfl) ?_
  refine jv_Ev.steps jv_i121 8 (pc' := 9) (l' := [(5, .int (3 : Int32)), (3, .long (0 : Int64)), (0, .ref 5), (1, .int p1), (2, .int (8 : Int32))]) (st' := [.int (3 : Int32)]) rfl ?_
  refine jv_Ev.br jv_i121 (pc' := 12) (st' := []) rfl (jv_bi_lt.trans (jx_gof (by decide))) ?_
  refine jv_Ev.steps jv_i121 7 (pc' := 21) (l' := [(5, .int (3 : Int32)), (3, .long (0 : Int64)), (0, .ref 5), (1, .int p1), (2, .int (8 : Int32))]) (st' := [.int (p1 + (3 : Int32)), .ref 5, .long (0 : Int64)]) rfl ?_
  refine jv_Ev.m jv_i121 (pc' := 22) (st' := [.int (0 : Int32), .long (0 : Int64)]) rfl rfl (jv_m_baldv rfl rfl (jx_ixa (k := 3) g1 g2 (by decide)) rfl rfl) ?_
  refine jv_Ev.steps jv_i121 8 (pc' := 9) (l' := [(5, .int (2 : Int32)), (3, .long (0 : Int64)), (0, .ref 5), (1, .int p1), (2, .int (8 : Int32))]) (st' := [.int (2 : Int32)]) rfl ?_
  refine jv_Ev.br jv_i121 (pc' := 12) (st' := []) rfl (jv_bi_lt.trans (jx_gof (by decide))) ?_
  refine jv_Ev.steps jv_i121 7 (pc' := 21) (l' := [(5, .int (2 : Int32)), (3, .long (0 : Int64)), (0, .ref 5), (1, .int p1), (2, .int (8 : Int32))]) (st' := [.int (p1 + (2 : Int32)), .ref 5, .long (0 : Int64)]) rfl ?_
  refine jv_Ev.m jv_i121 (pc' := 22) (st' := [.int (0 : Int32), .long (0 : Int64)]) rfl rfl (jv_m_baldv rfl rfl (jx_ixa (k := 2) g1 g2 (by decide)) rfl rfl) ?_
  refine jv_Ev.steps jv_i121 8 (pc' := 9) (l' := [(5, .int (1 : Int32)), (3, .long (0 : Int64)), (0, .ref 5), (1, .int p1), (2, .int (8 : Int32))]) (st' := [.int (1 : Int32)]) rfl ?_
  refine jv_Ev.br jv_i121 (pc' := 12) (st' := []) rfl (jv_bi_lt.trans (jx_gof (by decide))) ?_
  refine jv_Ev.steps jv_i121 7 (pc' := 21) (l' := [(5, .int (1 : Int32)), (3, .long (0 : Int64)), (0, .ref 5), (1, .int p1), (2, .int (8 : Int32))]) (st' := [.int (p1 + (1 : Int32)), .ref 5, .long (0 : Int64)]) rfl ?_
  refine jv_Ev.m jv_i121 (pc' := 22) (st' := [.int (0 : Int32), .long (0 : Int64)]) rfl rfl (jv_m_baldv rfl rfl (jx_ixa (k := 1) g1 g2 (by decide)) rfl rfl) ?_
  refine jv_Ev.steps jv_i121 8 (pc' := 9) (l' := [(5, .int (0 : Int32)), (3, .long (0 : Int64)), (0, .ref 5), (1, .int p1), (2, .int (8 : Int32))]) (st' := [.int (0 : Int32)]) rfl ?_
  refine jv_Ev.br jv_i121 (pc' := 12) (st' := []) rfl (jv_bi_lt.trans (jx_gof (by decide))) ?_
  refine jv_Ev.steps jv_i121 7 (pc' := 21) (l' := [(5, .int (0 : Int32)), (3, .long (0 : Int64)), (0, .ref 5), (1, .int p1), (2, .int (8 : Int32))]) (st' := [.int (p1 + (0 : Int32)), .ref 5, .long (0 : Int64)]) rfl ?_
  refine jv_Ev.m jv_i121 (pc' := 22) (st' := [.int (0 : Int32), .long (0 : Int64)]) rfl rfl (jv_m_baldv rfl rfl (jx_ixa (k := 0) g1 g2 (by decide)) rfl rfl) ?_
  refine jv_Ev.steps jv_i121 8 (pc' := 9) (l' := [(5, .int (-1 : Int32)), (3, .long (0 : Int64)), (0, .ref 5), (1, .int p1), (2, .int (8 : Int32))]) (st' := [.int (-1 : Int32)]) rfl ?_
  refine jv_Ev.br jv_i121 (pc' := 35) (st' := []) rfl (jv_bi_lt.trans (jx_got (by decide))) ?_
  refine jv_Ev.steps jv_i121 1 (pc' := 36) (l' := [(5, .int (-1 : Int32)), (3, .long (0 : Int64)), (0, .ref 5), (1, .int p1), (2, .int (8 : Int32))]) (st' := [.long (0 : Int64)]) rfl ?_
  exact jv_Ev.ret jv_i121 rfl rfl

set_option maxRecDepth 100000 in
/-- ProgramBox.desk -/
theorem jx_e211 (p0 : Int32) (p1 : Int32) (p2 : Int32) (p3 : Int32) (p4 : Int32) (p5 : Int32) (g1 : ¬ p1 < (0 : Int32)) (g2 : ¬ (504 : Int32) < p1) : jv_Ms 432 [.ref 0, .int p1] (jv_H (jx_K 227) jx_If jx_L0 (jx_R 227)) 227 1572950 (some (.long (0 : Int64)), (jv_H (jx_K 227) jx_If jx_L0 (jx_R 227)), 227, 1572950) := by
  show jv_Ev 432 0 [(0, .ref 0), (1, .int p1)] [] (jv_H (jx_K 227) jx_If jx_L0 (jx_R 227)) 227 1572950 _
  refine jv_Ev.steps jv_i432 3 (pc' := 6) (l' := [(0, .ref 0), (1, .int p1)]) (st' := [.int (512 : Int32), .int (8 : Int32), .int p1]) rfl ?_
  refine jv_Ev.c jv_i432 (pc' := 9) (S' := []) jv_i430 [.int p1, .int (8 : Int32), .int (512 : Int32)] rfl rfl rfl rfl rfl rfl (jx_e209 p0 p1 p2 p3 p4 p5 g1 g2) rfl rfl ?_
  refine jv_Ev.steps jv_i432 1 (pc' := 10) (l' := [(0, .ref 0), (1, .int p1)]) (st' := [.ref 0]) rfl ?_
  refine jv_Ev.m jv_i432 (pc' := 13) (st' := [.ref 2]) rfl rfl (jv_m_getR rfl rfl rfl rfl) ?_
  refine jv_Ev.m jv_i432 (pc' := 16) (st' := [.ref 5]) rfl rfl (jv_m_getR rfl rfl rfl rfl) ?_
  refine jv_Ev.steps jv_i432 2 (pc' := 19) (l' := [(0, .ref 0), (1, .int p1)]) (st' := [.int (8 : Int32), .int p1, .ref 5]) rfl ?_
  refine jv_Ev.c jv_i432 (pc' := 22) (S' := [.long (0 : Int64)]) jv_i121 [.ref 5, .int p1, .int (8 : Int32)] rfl rfl rfl rfl rfl rfl (jx_e210 p0 p1 p2 p3 p4 p5 g1 g2) rfl rfl ?_
  exact jv_Ev.ret jv_i432 rfl rfl

set_option maxRecDepth 100000 in
/-- the law's desk -/
theorem jx_w212 (hTb : jv_TOk jv_Tb) (hT2 : jx_T2Ok) (p0 : Int32) (p1 : Int32) (p2 : Int32) (p3 : Int32) (p4 : Int32) (p5 : Int32) (g1 : ¬ p1 < (0 : Int32)) (g2 : ¬ (504 : Int32) < p1) : jx_Wr 451 [(0, 8, 11, 36)] [.ref 0, .int p1, .ref 226] (jv_H (jx_K 227) jx_If jx_L0 (jx_R 227)) 227 1572950 (some (.int (0 : Int32)), (jv_H (jx_K 227) jx_If (jv_u jx_L0 226 (0 : Int32).toNatClampNeg (0 : Int64)) (jx_R 227)), 227, 1572950) := by
  refine jx_Wr.of hT2 (by decide) rfl (Nat.le_of_ble_eq_true rfl) ?_
  intro p l e R s m args below meth c E hl F hZ htb hRc hRs
  show jw p l e R s m args below meth c E 4 227 1572950 _ 0 [(0, .ref 0), (1, .int p1), (2, .ref 226)] [] (jv_H (jx_K 227) jx_If jx_L0 (jx_R 227)) 227 1572950
  have hRc : R.cells = 227 - 227 := hRc
  have hRs : R.slots = 1572950 - 1572950 := hRs
  refine jw.steps F jx_i451 4 (pc' := 4) (l' := [(0, .ref 0), (1, .int p1), (2, .ref 226)]) (st' := [.int p1, .ref 0, .int (0 : Int32), .ref 226]) rfl ?_
  refine jw.ca hTb F jx_i451 (pc' := 7) (S' := [.long (0 : Int64), .int (0 : Int32), .ref 226]) rfl jv_i432 [.ref 0, .int p1] rfl rfl rfl rfl (jx_cal2 rfl (jv_H_at rfl) rfl rfl) rfl (jx_e211 p0 p1 p2 p3 p4 p5 g1 g2) (by omega) (by omega) rfl rfl ?_
  refine jw.me F jx_i451 (pc' := 8) (st' := []) rfl rfl (jv_m_last rfl (by decide)) ?_
  refine jw.steps F jx_i451 2 (pc' := 15) (l' := [(0, .ref 0), (1, .int p1), (2, .ref 226)]) (st' := [.int (0 : Int32)]) rfl ?_
  exact jw.ret F jx_i451 rfl rfl

set_option maxRecDepth 100000 in
/-- ProgramBoxModel$Store.isDesk -/
theorem jx_e213 (p0 : Int32) (p1 : Int32) (p2 : Int32) (p3 : Int32) (p4 : Int32) (p5 : Int32) (g1 : ¬ p1 < (0 : Int32)) (g2 : ¬ (504 : Int32) < p1) : jv_Ms 326 [.int p1, .int (8 : Int32)] (jv_H (jx_K 227) jx_If (jv_u jx_L0 226 (0 : Int32).toNatClampNeg (0 : Int64)) (jx_R 227)) 227 1572950 (some (.int (1 : Int32)), (jv_H (jx_K 227) jx_If (jv_u jx_L0 226 (0 : Int32).toNatClampNeg (0 : Int64)) (jx_R 227)), 227, 1572950) := by
  show jv_Ev 326 0 [(0, .int p1), (1, .int (8 : Int32))] [] (jv_H (jx_K 227) jx_If (jv_u jx_L0 226 (0 : Int32).toNatClampNeg (0 : Int64)) (jx_R 227)) 227 1572950 _
  refine jv_Ev.steps jv_i326 1 (pc' := 1) (l' := [(0, .int p1), (1, .int (8 : Int32))]) (st' := [.int p1]) rfl ?_
  refine jv_Ev.br jv_i326 (pc' := 4) (st' := []) rfl (jv_bi_lt.trans (jx_gof g1)) ?_
  refine jv_Ev.steps jv_i326 4 (pc' := 10) (l' := [(0, .int p1), (1, .int (8 : Int32))]) (st' := [.int (504 : Int32), .int p1]) rfl ?_
  refine jv_Ev.br jv_i326 (pc' := 13) (st' := []) rfl (jv_bc_gt.trans (jx_gof g2)) ?_
  refine jv_Ev.steps jv_i326 2 (pc' := 18) (l' := [(0, .int p1), (1, .int (8 : Int32))]) (st' := [.int (1 : Int32)]) rfl ?_
  exact jv_Ev.ret jv_i326 rfl (jv_ret_b (by decide))

set_option maxRecDepth 100000 in
theorem jv_i327 : jv_I 327 6 (some .long) 0 0 jv_c327 := ⟨rfl, rfl, rfl, rfl, rfl⟩
set_option maxRecDepth 100000 in
/-- ProgramBoxModel$Store.number -/
theorem jx_e214 (p0 : Int32) (p1 : Int32) (p2 : Int32) (p3 : Int32) (p4 : Int32) (p5 : Int32) (g1 : ¬ p1 < (0 : Int32)) (g2 : ¬ (504 : Int32) < p1) : jv_Ms 327 [.ref 181, .int p1, .int (8 : Int32)] (jv_H (jx_K 227) (jv_u jx_If 180 0 (0 : Int32)) (jv_u jx_L0 226 (0 : Int32).toNatClampNeg (0 : Int64)) (jx_R 227)) 227 1572950 (some (.long (0 : Int64)), (jv_H (jx_K 227) (jv_u jx_If 180 0 (0 : Int32)) (jv_u jx_L0 226 (0 : Int32).toNatClampNeg (0 : Int64)) (jx_R 227)), 227, 1572950) := by
  show jv_Ev 327 0 [(0, .ref 181), (1, .int p1), (2, .int (8 : Int32))] [] (jv_H (jx_K 227) (jv_u jx_If 180 0 (0 : Int32)) (jv_u jx_L0 226 (0 : Int32).toNatClampNeg (0 : Int64)) (jx_R 227)) 227 1572950 _
  refine jv_Ev.steps jv_i327 7 (pc' := 9) (l' := [(5, .int (7 : Int32)), (3, .long (0 : Int64)), (0, .ref 181), (1, .int p1), (2, .int (8 : Int32))]) (st' := [.int (7 : Int32)]) rfl ?_
  refine jv_Ev.br jv_i327 (pc' := 12) (st' := []) rfl (jv_bi_lt.trans (jx_gof (by decide))) ?_
  refine jv_Ev.steps jv_i327 7 (pc' := 22) (l' := [(5, .int (7 : Int32)), (3, .long (0 : Int64)), (0, .ref 181), (1, .int p1), (2, .int (8 : Int32))]) (st' := [.int (p1 + (7 : Int32)), .ref 181, .long (0 : Int64)]) rfl ?_
  refine jv_Ev.m jv_i327 (pc' := 23) (st' := [.int (0 : Int32), .long (0 : Int64)]) rfl rfl (jv_m_baldv rfl rfl (jx_ixa (k := 7) g1 g2 (by decide)) rfl rfl) ?_
  refine jv_Ev.steps jv_i327 8 (pc' := 9) (l' := [(5, .int (6 : Int32)), (3, .long (0 : Int64)), (0, .ref 181), (1, .int p1), (2, .int (8 : Int32))]) (st' := [.int (6 : Int32)]) rfl ?_
  refine jv_Ev.br jv_i327 (pc' := 12) (st' := []) rfl (jv_bi_lt.trans (jx_gof (by decide))) ?_
  refine jv_Ev.steps jv_i327 7 (pc' := 22) (l' := [(5, .int (6 : Int32)), (3, .long (0 : Int64)), (0, .ref 181), (1, .int p1), (2, .int (8 : Int32))]) (st' := [.int (p1 + (6 : Int32)), .ref 181, .long (0 : Int64)]) rfl ?_
  refine jv_Ev.m jv_i327 (pc' := 23) (st' := [.int (0 : Int32), .long (0 : Int64)]) rfl rfl (jv_m_baldv rfl rfl (jx_ixa (k := 6) g1 g2 (by decide)) rfl rfl) ?_
  refine jv_Ev.steps jv_i327 8 (pc' := 9) (l' := [(5, .int (5 : Int32)), (3, .long (0 : Int64)), (0, .ref 181), (1, .int p1), (2, .int (8 : Int32))]) (st' := [.int (5 : Int32)]) rfl ?_
  refine jv_Ev.br jv_i327 (pc' := 12) (st' := []) rfl (jv_bi_lt.trans (jx_gof (by decide))) ?_
  refine jv_Ev.steps jv_i327 7 (pc' := 22) (l' := [(5, .int (5 : Int32)), (3, .long (0 : Int64)), (0, .ref 181), (1, .int p1), (2, .int (8 : Int32))]) (st' := [.int (p1 + (5 : Int32)), .ref 181, .long (0 : Int64)]) rfl ?_
  refine jv_Ev.m jv_i327 (pc' := 23) (st' := [.int (0 : Int32), .long (0 : Int64)]) rfl rfl (jv_m_baldv rfl rfl (jx_ixa (k := 5) g1 g2 (by decide)) rfl rfl) ?_
  refine jv_Ev.steps jv_i327 8 (pc' := 9) (l' := [(5, .int (4 : Int32)), (3, .long (0 : Int64)), (0, .ref 181), (1, .int p1), (2, .int (8 : Int32))]) (st' := [.int (4 : Int32)]) rfl ?_
  refine jv_Ev.br jv_i327 (pc' := 12) (st' := []) rfl (jv_bi_lt.trans (jx_gof (by decide))) ?_
  refine jv_Ev.steps jv_i327 7 (pc' := 22) (l' := [(5, .int (4 : Int32)), (3, .long (0 : Int64)), (0, .ref 181), (1, .int p1), (2, .int (8 : Int32))]) (st' := [.int (p1 + (4 : Int32)), .ref 181, .long (0 : Int64)]) rfl ?_
  refine jv_Ev.m jv_i327 (pc' := 23) (st' := [.int (0 : Int32), .long (0 : Int64)]) rfl rfl (jv_m_baldv rfl rfl (jx_ixa (k := 4) g1 g2 (by decide)) rfl rfl) ?_
  refine jv_Ev.steps jv_i327 8 (pc' := 9) (l' := [(5, .int (3 : Int32)), (3, .long (0 : Int64)), (0, .ref 181), (1, .int p1), (2, .int (8 : Int32))]) (st' := [.int (3 : Int32)]) rfl ?_
  refine jv_Ev.br jv_i327 (pc' := 12) (st' := []) rfl (jv_bi_lt.trans (jx_gof (by decide))) ?_
  refine jv_Ev.steps jv_i327 7 (pc' := 22) (l' := [(5, .int (3 : Int32)), (3, .long (0 : Int64)), (0, .ref 181), (1, .int p1), (2, .int (8 : Int32))]) (st' := [.int (p1 + (3 : Int32)), .ref 181, .long (0 : Int64)]) rfl ?_
  refine jv_Ev.m jv_i327 (pc' := 23) (st' := [.int (0 : Int32), .long (0 : Int64)]) rfl rfl (jv_m_baldv rfl rfl (jx_ixa (k := 3) g1 g2 (by decide)) rfl rfl) ?_
  refine jv_Ev.steps jv_i327 8 (pc' := 9) (l' := [(5, .int (2 : Int32)), (3, .long (0 : Int64)), (0, .ref 181), (1, .int p1), (2, .int (8 : Int32))]) (st' := [.int (2 : Int32)]) rfl ?_
  refine jv_Ev.br jv_i327 (pc' := 12) (st' := []) rfl (jv_bi_lt.trans (jx_gof (by decide))) ?_
  refine jv_Ev.steps jv_i327 7 (pc' := 22) (l' := [(5, .int (2 : Int32)), (3, .long (0 : Int64)), (0, .ref 181), (1, .int p1), (2, .int (8 : Int32))]) (st' := [.int (p1 + (2 : Int32)), .ref 181, .long (0 : Int64)]) rfl ?_
  refine jv_Ev.m jv_i327 (pc' := 23) (st' := [.int (0 : Int32), .long (0 : Int64)]) rfl rfl (jv_m_baldv rfl rfl (jx_ixa (k := 2) g1 g2 (by decide)) rfl rfl) ?_
  refine jv_Ev.steps jv_i327 8 (pc' := 9) (l' := [(5, .int (1 : Int32)), (3, .long (0 : Int64)), (0, .ref 181), (1, .int p1), (2, .int (8 : Int32))]) (st' := [.int (1 : Int32)]) rfl ?_
  refine jv_Ev.br jv_i327 (pc' := 12) (st' := []) rfl (jv_bi_lt.trans (jx_gof (by decide))) ?_
  refine jv_Ev.steps jv_i327 7 (pc' := 22) (l' := [(5, .int (1 : Int32)), (3, .long (0 : Int64)), (0, .ref 181), (1, .int p1), (2, .int (8 : Int32))]) (st' := [.int (p1 + (1 : Int32)), .ref 181, .long (0 : Int64)]) rfl ?_
  refine jv_Ev.m jv_i327 (pc' := 23) (st' := [.int (0 : Int32), .long (0 : Int64)]) rfl rfl (jv_m_baldv rfl rfl (jx_ixa (k := 1) g1 g2 (by decide)) rfl rfl) ?_
  refine jv_Ev.steps jv_i327 8 (pc' := 9) (l' := [(5, .int (0 : Int32)), (3, .long (0 : Int64)), (0, .ref 181), (1, .int p1), (2, .int (8 : Int32))]) (st' := [.int (0 : Int32)]) rfl ?_
  refine jv_Ev.br jv_i327 (pc' := 12) (st' := []) rfl (jv_bi_lt.trans (jx_gof (by decide))) ?_
  refine jv_Ev.steps jv_i327 7 (pc' := 22) (l' := [(5, .int (0 : Int32)), (3, .long (0 : Int64)), (0, .ref 181), (1, .int p1), (2, .int (8 : Int32))]) (st' := [.int (p1 + (0 : Int32)), .ref 181, .long (0 : Int64)]) rfl ?_
  refine jv_Ev.m jv_i327 (pc' := 23) (st' := [.int (0 : Int32), .long (0 : Int64)]) rfl rfl (jv_m_baldv rfl rfl (jx_ixa (k := 0) g1 g2 (by decide)) rfl rfl) ?_
  refine jv_Ev.steps jv_i327 8 (pc' := 9) (l' := [(5, .int (-1 : Int32)), (3, .long (0 : Int64)), (0, .ref 181), (1, .int p1), (2, .int (8 : Int32))]) (st' := [.int (-1 : Int32)]) rfl ?_
  refine jv_Ev.br jv_i327 (pc' := 36) (st' := []) rfl (jv_bi_lt.trans (jx_got (by decide))) ?_
  refine jv_Ev.steps jv_i327 1 (pc' := 37) (l' := [(5, .int (-1 : Int32)), (3, .long (0 : Int64)), (0, .ref 181), (1, .int p1), (2, .int (8 : Int32))]) (st' := [.long (0 : Int64)]) rfl ?_
  exact jv_Ev.ret jv_i327 rfl rfl

set_option maxRecDepth 100000 in
/-- ProgramBoxModel$Store.desk -/
theorem jx_e215 (p0 : Int32) (p1 : Int32) (p2 : Int32) (p3 : Int32) (p4 : Int32) (p5 : Int32) (g1 : ¬ p1 < (0 : Int32)) (g2 : ¬ (504 : Int32) < p1) : jv_Ms 329 [.ref 180, .int p1] (jv_H (jx_K 227) jx_If (jv_u jx_L0 226 (0 : Int32).toNatClampNeg (0 : Int64)) (jx_R 227)) 227 1572950 (some (.long (0 : Int64)), (jv_H (jx_K 227) (jv_u jx_If 180 0 (0 : Int32)) (jv_u jx_L0 226 (0 : Int32).toNatClampNeg (0 : Int64)) (jx_R 227)), 227, 1572950) := by
  show jv_Ev 329 0 [(0, .ref 180), (1, .int p1)] [] (jv_H (jx_K 227) jx_If (jv_u jx_L0 226 (0 : Int32).toNatClampNeg (0 : Int64)) (jx_R 227)) 227 1572950 _
  refine jv_Ev.steps jv_i329 3 (pc' := 4) (l' := [(0, .ref 180), (1, .int p1)]) (st' := [.int (8 : Int32), .int p1, .ref 180]) rfl ?_
  refine jv_Ev.c jv_i329 (pc' := 7) (S' := [.int (1 : Int32), .ref 180]) jv_i326 [.int p1, .int (8 : Int32)] rfl rfl rfl rfl rfl rfl (jx_e213 p0 p1 p2 p3 p4 p5 g1 g2) rfl rfl ?_
  refine jv_Ev.br jv_i329 (pc' := 10) (st' := [.ref 180]) rfl (jv_bi_eq.trans (jx_gof (by decide))) ?_
  refine jv_Ev.steps jv_i329 2 (pc' := 15) (l' := [(0, .ref 180), (1, .int p1)]) (st' := [.int (0 : Int32), .ref 180]) rfl ?_
  refine jv_Ev.m jv_i329 (pc' := 18) (st' := []) rfl rfl (jv_m_putI rfl rfl rfl rfl rfl) ?_
  refine jv_Ev.steps jv_i329 1 (pc' := 19) (l' := [(0, .ref 180), (1, .int p1)]) (st' := [.ref 180]) rfl ?_
  refine jv_Ev.m jv_i329 (pc' := 22) (st' := [.int (0 : Int32)]) rfl rfl (jv_m_getI rfl rfl rfl rfl) ?_
  refine jv_Ev.br jv_i329 (pc' := 29) (st' := []) rfl (jv_bi_le.trans (jx_got (by decide))) ?_
  refine jv_Ev.steps jv_i329 1 (pc' := 30) (l' := [(0, .ref 180), (1, .int p1)]) (st' := [.ref 180]) rfl ?_
  refine jv_Ev.m jv_i329 (pc' := 33) (st' := [.ref 181]) rfl rfl (jv_m_getR rfl rfl rfl rfl) ?_
  refine jv_Ev.steps jv_i329 2 (pc' := 36) (l' := [(0, .ref 180), (1, .int p1)]) (st' := [.int (8 : Int32), .int p1, .ref 181]) rfl ?_
  refine jv_Ev.c jv_i329 (pc' := 39) (S' := [.long (0 : Int64)]) jv_i327 [.ref 181, .int p1, .int (8 : Int32)] rfl rfl rfl rfl rfl rfl (jx_e214 p0 p1 p2 p3 p4 p5 g1 g2) rfl rfl ?_
  exact jv_Ev.ret jv_i329 rfl rfl

set_option maxRecDepth 100000 in
/-- ProgramBoxModel$Store.thrown -/
theorem jx_e216 (p0 : Int32) (p1 : Int32) (p2 : Int32) (p3 : Int32) (p4 : Int32) (p5 : Int32) (g1 : ¬ p1 < (0 : Int32)) (g2 : ¬ (504 : Int32) < p1) : jv_Ms 318 [.ref 180] (jv_H (jx_K 227) (jv_u jx_If 180 0 (0 : Int32)) (jv_u jx_L0 226 (0 : Int32).toNatClampNeg (0 : Int64)) (jx_R 227)) 227 1572950 (some (.int (0 : Int32)), (jv_H (jx_K 227) (jv_u jx_If 180 0 (0 : Int32)) (jv_u jx_L0 226 (0 : Int32).toNatClampNeg (0 : Int64)) (jx_R 227)), 227, 1572950) := by
  show jv_Ev 318 0 [(0, .ref 180)] [] (jv_H (jx_K 227) (jv_u jx_If 180 0 (0 : Int32)) (jv_u jx_L0 226 (0 : Int32).toNatClampNeg (0 : Int64)) (jx_R 227)) 227 1572950 _
  refine jv_Ev.steps jv_i318 1 (pc' := 1) (l' := [(0, .ref 180)]) (st' := [.ref 180]) rfl ?_
  refine jv_Ev.m jv_i318 (pc' := 4) (st' := [.int (0 : Int32)]) rfl rfl (jv_m_getI rfl rfl rfl rfl) ?_
  exact jv_Ev.ret jv_i318 rfl rfl

set_option maxRecDepth 100000 in
/-- ProgramBoxModel.desk -/
theorem jx_e217 (p0 : Int32) (p1 : Int32) (p2 : Int32) (p3 : Int32) (p4 : Int32) (p5 : Int32) (g1 : ¬ p1 < (0 : Int32)) (g2 : ¬ (504 : Int32) < p1) : jv_Ms 410 [.ref 178, .int p1] (jv_H (jx_K 227) jx_If (jv_u jx_L0 226 (0 : Int32).toNatClampNeg (0 : Int64)) (jx_R 227)) 227 1572950 (some (.long (0 : Int64)), (jv_H (jx_K 227) (jv_u (jv_u jx_If 180 0 (0 : Int32)) 178 0 (0 : Int32)) (jv_u jx_L0 226 (0 : Int32).toNatClampNeg (0 : Int64)) (jx_R 227)), 227, 1572950) := by
  show jv_Ev 410 0 [(0, .ref 178), (1, .int p1)] [] (jv_H (jx_K 227) jx_If (jv_u jx_L0 226 (0 : Int32).toNatClampNeg (0 : Int64)) (jx_R 227)) 227 1572950 _
  refine jv_Ev.steps jv_i410 1 (pc' := 1) (l' := [(0, .ref 178), (1, .int p1)]) (st' := [.ref 178]) rfl ?_
  refine jv_Ev.m jv_i410 (pc' := 4) (st' := [.ref 180]) rfl rfl (jv_m_getR rfl rfl rfl rfl) ?_
  refine jv_Ev.steps jv_i410 1 (pc' := 5) (l' := [(0, .ref 178), (1, .int p1)]) (st' := [.int p1, .ref 180]) rfl ?_
  refine jv_Ev.c jv_i410 (pc' := 8) (S' := [.long (0 : Int64)]) jv_i329 [.ref 180, .int p1] rfl rfl rfl rfl (jv_cal rfl (jv_H_at rfl) rfl rfl) rfl (jx_e215 p0 p1 p2 p3 p4 p5 g1 g2) rfl rfl ?_
  refine jv_Ev.steps jv_i410 3 (pc' := 11) (l' := [(2, .long (0 : Int64)), (0, .ref 178), (1, .int p1)]) (st' := [.ref 178, .ref 178]) rfl ?_
  refine jv_Ev.m jv_i410 (pc' := 14) (st' := [.ref 180, .ref 178]) rfl rfl (jv_m_getR rfl rfl rfl rfl) ?_
  refine jv_Ev.c jv_i410 (pc' := 17) (S' := [.int (0 : Int32), .ref 178]) jv_i318 [.ref 180] rfl rfl rfl rfl (jv_cal rfl (jv_H_at rfl) rfl rfl) rfl (jx_e216 p0 p1 p2 p3 p4 p5 g1 g2) rfl rfl ?_
  refine jv_Ev.m jv_i410 (pc' := 20) (st' := []) rfl rfl (jv_m_putI rfl rfl rfl rfl rfl) ?_
  refine jv_Ev.steps jv_i410 1 (pc' := 21) (l' := [(2, .long (0 : Int64)), (0, .ref 178), (1, .int p1)]) (st' := [.long (0 : Int64)]) rfl ?_
  exact jv_Ev.ret jv_i410 rfl rfl

set_option maxRecDepth 100000 in
/-- ProgramBoxModel.thrown -/
theorem jx_e218 (p0 : Int32) (p1 : Int32) (p2 : Int32) (p3 : Int32) (p4 : Int32) (p5 : Int32) (g1 : ¬ p1 < (0 : Int32)) (g2 : ¬ (504 : Int32) < p1) : jv_Ms 350 [.ref 178] (jv_H (jx_K 227) (jv_u (jv_u jx_If 180 0 (0 : Int32)) 178 0 (0 : Int32)) (jv_u jx_L0 226 (0 : Int32).toNatClampNeg (0 : Int64)) (jx_R 227)) 227 1572950 (some (.int (0 : Int32)), (jv_H (jx_K 227) (jv_u (jv_u jx_If 180 0 (0 : Int32)) 178 0 (0 : Int32)) (jv_u jx_L0 226 (0 : Int32).toNatClampNeg (0 : Int64)) (jx_R 227)), 227, 1572950) := by
  show jv_Ev 350 0 [(0, .ref 178)] [] (jv_H (jx_K 227) (jv_u (jv_u jx_If 180 0 (0 : Int32)) 178 0 (0 : Int32)) (jv_u jx_L0 226 (0 : Int32).toNatClampNeg (0 : Int64)) (jx_R 227)) 227 1572950 _
  refine jv_Ev.steps jv_i350 1 (pc' := 1) (l' := [(0, .ref 178)]) (st' := [.ref 178]) rfl ?_
  refine jv_Ev.m jv_i350 (pc' := 4) (st' := [.int (0 : Int32)]) rfl rfl (jv_m_getI rfl rfl rfl rfl) ?_
  exact jv_Ev.ret jv_i350 rfl rfl

set_option maxRecDepth 100000 in
/-- the law: case 19, one way -/
theorem jx_l37 (p0 : Int32) (p1 : Int32) (p2 : Int32) (p3 : Int32) (p4 : Int32) (p5 : Int32) (g1 : ¬ p1 < (0 : Int32)) (g2 : ¬ (504 : Int32) < p1) (hsw : p0 &&& (31 : Int32) = (19 : Int32)) {p : Program} {l : Launch} {e : Env} {R : Room} {s : State} {m : MethodId} {args : Array Value} {below : List Frame} {meth : Method} {c : Code} {E : jv_Env} {Q : State → Prop} (hTb : jv_TOk jv_Tb) (hT2 : jx_T2Ok) (hl : l.stackTraces = false) (F : jx_F jv_T2 439 E p R s m args meth c) (hZ : jx_Z E s) (hRc : R.cells = 600002) (hRs : R.slots = 7302232) {bb : Nat} {xs : Nat → Int32} (hX : va_X bb 6 xs s E.2.2.2.2) (hbB : bb < E.2.2.2.1) (hE2 : E.1 1000002 = bb) (hQ : ∀ (l0 : jv_L) (G : jv_G) (n sl : Nat), n ≤ 600002 → sl ≤ 7302232 → jw p l e R s m args below meth c E 8 0 0 Q 1532 l0 [.int (1 : Int32)] G n sl) (q0 : xs 0 = p0) (q1 : xs 1 = p1) (q2 : xs 2 = p2) (q3 : xs 3 = p3) (q4 : xs 4 = p4) (q5 : xs 5 = p5) : jw p l e R s m args below meth c E 8 0 0 Q 33 [(0, .ref 1000002), (1, .ref 0), (2, .ref 178), (3, .ref 226), (4, .int (0 : Int32))] [] (jv_H (jx_K 227) jx_If jx_L0 (jx_R 227)) 227 1572950 := by
  refine jw.steps F jx_i439 2 (pc' := 36) (l' := [(0, .ref 1000002), (1, .ref 0), (2, .ref 178), (3, .ref 226), (4, .int (0 : Int32))]) (st' := [.int (0 : Int32), .ref 1000002]) rfl ?_
  refine jw.sld F jx_i439 hX hbB hE2 (pc' := 37) rfl rfl (show vp_in (nI 0) 6 from vp_in_nI (by decide) (by decide)) q0 rfl ?_
  refine jw.steps F jx_i439 2 (pc' := 40) (l' := [(0, .ref 1000002), (1, .ref 0), (2, .ref 178), (3, .ref 226), (4, .int (0 : Int32))]) (st' := [.int (p0 &&& (31 : Int32))]) rfl ?_
  refine jw.br F jx_i439 (pc' := 1026) (st' := []) rfl (by rw [hsw]; rfl) ?_
  refine jw.steps F jx_i439 5 (pc' := 1032) (l' := [(0, .ref 1000002), (1, .ref 0), (2, .ref 178), (3, .ref 226), (4, .int (0 : Int32))]) (st' := [.int (1 : Int32), .ref 1000002, .ref 0]) rfl ?_
  refine jw.sld F jx_i439 hX hbB hE2 (pc' := 1033) rfl rfl (show vp_in (nI 1) 6 from vp_in_nI (by decide) (by decide)) q1 rfl ?_
  refine jw.steps F jx_i439 1 (pc' := 1034) (l' := [(0, .ref 1000002), (1, .ref 0), (2, .ref 178), (3, .ref 226), (4, .int (0 : Int32))]) (st' := [.ref 226, .int p1, .ref 0]) rfl ?_
  refine jw.wr F hl hZ rfl jx_i439 jx_i451 [.ref 0, .int p1, .ref 226] (pc' := 1037) (S' := [.int (0 : Int32)]) rfl (List.mem_of_getElem? (i := 11) rfl) (List.mem_of_getElem? (i := 11) rfl) rfl rfl rfl (jx_w212 hTb hT2 p0 p1 p2 p3 p4 p5 g1 g2) (by omega) (by omega) (by omega) (by omega) rfl rfl ?_
  refine jw.steps F jx_i439 6 (pc' := 1045) (l' := [(5, .int (0 : Int32)), (0, .ref 1000002), (1, .ref 0), (2, .ref 178), (3, .ref 226), (4, .int (0 : Int32))]) (st' := [.int (1 : Int32), .ref 1000002, .ref 178]) rfl ?_
  refine jw.sld F jx_i439 hX hbB hE2 (pc' := 1046) rfl rfl (show vp_in (nI 1) 6 from vp_in_nI (by decide) (by decide)) q1 rfl ?_
  refine jw.ca hTb F jx_i439 (pc' := 1049) (S' := [.long (0 : Int64)]) rfl jv_i410 [.ref 178, .int p1] rfl rfl rfl rfl (jx_cal2 rfl (jv_H_at rfl) rfl rfl) rfl (jx_e217 p0 p1 p2 p3 p4 p5 g1 g2) (by omega) (by omega) rfl rfl ?_
  refine jw.steps F jx_i439 2 (pc' := 1052) (l' := [(6, .long (0 : Int64)), (5, .int (0 : Int32)), (0, .ref 1000002), (1, .ref 0), (2, .ref 178), (3, .ref 226), (4, .int (0 : Int32))]) (st' := [.ref 178]) rfl ?_
  refine jw.ca hTb F jx_i439 (pc' := 1055) (S' := [.int (0 : Int32)]) rfl jv_i350 [.ref 178] rfl rfl rfl rfl (jx_cal2 rfl (jv_H_at rfl) rfl rfl) rfl (jx_e218 p0 p1 p2 p3 p4 p5 g1 g2) (by omega) (by omega) rfl rfl ?_
  refine jw.steps F jx_i439 1 (pc' := 1057) (l' := [(6, .long (0 : Int64)), (5, .int (0 : Int32)), (0, .ref 1000002), (1, .ref 0), (2, .ref 178), (3, .ref 226), (4, .int (0 : Int32))]) (st' := [.int (0 : Int32), .int (0 : Int32)]) rfl ?_
  refine jw.br F jx_i439 (pc' := 1062) (st' := []) rfl (jv_bc_eq.trans (jx_got (by decide))) ?_
  refine jw.steps F jx_i439 1 (pc' := 1064) (l' := [(6, .long (0 : Int64)), (5, .int (0 : Int32)), (0, .ref 1000002), (1, .ref 0), (2, .ref 178), (3, .ref 226), (4, .int (0 : Int32))]) (st' := [.int (0 : Int32)]) rfl ?_
  refine jw.br F jx_i439 (pc' := 1067) (st' := []) rfl (jv_bi_ne.trans (jx_gof (by decide))) ?_
  refine jw.steps F jx_i439 2 (pc' := 1069) (l' := [(6, .long (0 : Int64)), (5, .int (0 : Int32)), (0, .ref 1000002), (1, .ref 0), (2, .ref 178), (3, .ref 226), (4, .int (0 : Int32))]) (st' := [.int (0 : Int32), .ref 226]) rfl ?_
  refine jw.me F jx_i439 (pc' := 1070) (st' := [.long (0 : Int64)]) rfl rfl (jv_m_laldv rfl rfl (by decide) rfl rfl) ?_
  refine jw.steps F jx_i439 2 (pc' := 1073) (l' := [(6, .long (0 : Int64)), (5, .int (0 : Int32)), (0, .ref 1000002), (1, .ref 0), (2, .ref 178), (3, .ref 226), (4, .int (0 : Int32))]) (st' := [.int (0 : Int32)]) rfl ?_
  refine jw.br F jx_i439 (pc' := 1078) (st' := []) rfl (jv_bi_eq.trans (jx_got (by decide))) ?_
  refine jw.steps F jx_i439 5 (pc' := 26) (l' := [(4, .int (6 : Int32)), (6, .long (0 : Int64)), (5, .int (0 : Int32)), (0, .ref 1000002), (1, .ref 0), (2, .ref 178), (3, .ref 226)]) (st' := [.ref 1000002, .int (6 : Int32)]) rfl ?_
  refine jw.slen F jx_i439 hX hbB hE2 (pc' := 27) rfl rfl rfl ?_
  refine jw.steps F jx_i439 2 (pc' := 30) (l' := [(4, .int (6 : Int32)), (6, .long (0 : Int64)), (5, .int (0 : Int32)), (0, .ref 1000002), (1, .ref 0), (2, .ref 178), (3, .ref 226)]) (st' := [.int (0 : Int32), .int (6 : Int32)]) rfl ?_
  refine jw.br F jx_i439 (pc' := 1531) (st' := []) rfl (jv_bc_gt.trans (jx_got (by decide))) ?_
  refine jw.steps F jx_i439 1 (pc' := 1532) (l' := [(4, .int (6 : Int32)), (6, .long (0 : Int64)), (5, .int (0 : Int32)), (0, .ref 1000002), (1, .ref 0), (2, .ref 178), (3, .ref 226)]) (st' := [.int (1 : Int32)]) rfl ?_
  exact hQ _ _ _ _ (by omega) (by omega)

set_option maxRecDepth 100000 in
/-- the law: case 19 -/
theorem jx_case19 (p0 : Int32) (p1 : Int32) (p2 : Int32) (p3 : Int32) (p4 : Int32) (p5 : Int32) (hsw : p0 &&& (31 : Int32) = (19 : Int32)) {p : Program} {l : Launch} {e : Env} {R : Room} {s : State} {m : MethodId} {args : Array Value} {below : List Frame} {meth : Method} {c : Code} {E : jv_Env} {Q : State → Prop} (hTb : jv_TOk jv_Tb) (hT2 : jx_T2Ok) (hl : l.stackTraces = false) (F : jx_F jv_T2 439 E p R s m args meth c) (hZ : jx_Z E s) (hRc : R.cells = 600002) (hRs : R.slots = 7302232) {bb : Nat} {xs : Nat → Int32} (hX : va_X bb 6 xs s E.2.2.2.2) (hbB : bb < E.2.2.2.1) (hE2 : E.1 1000002 = bb) (hQ : ∀ (l0 : jv_L) (G : jv_G) (n sl : Nat), n ≤ 600002 → sl ≤ 7302232 → jw p l e R s m args below meth c E 8 0 0 Q 1532 l0 [.int (1 : Int32)] G n sl) (q0 : xs 0 = p0) (q1 : xs 1 = p1) (q2 : xs 2 = p2) (q3 : xs 3 = p3) (q4 : xs 4 = p4) (q5 : xs 5 = p5) : jw p l e R s m args below meth c E 8 0 0 Q 33 [(0, .ref 1000002), (1, .ref 0), (2, .ref 178), (3, .ref 226), (4, .int (0 : Int32))] [] (jv_H (jx_K 227) jx_If jx_L0 (jx_R 227)) 227 1572950 := by
  by_cases g1 : p1 < (0 : Int32)
  · exact jx_l35 p0 p1 p2 p3 p4 p5 g1 hsw hTb hT2 hl F hZ hRc hRs hX hbB hE2 hQ q0 q1 q2 q3 q4 q5
  · by_cases g2 : (504 : Int32) < p1
    · exact jx_l36 p0 p1 p2 p3 p4 p5 g1 g2 hsw hTb hT2 hl F hZ hRc hRs hX hbB hE2 hQ q0 q1 q2 q3 q4 q5
    · exact jx_l37 p0 p1 p2 p3 p4 p5 g1 g2 hsw hTb hT2 hl F hZ hRc hRs hX hbB hE2 hQ q0 q1 q2 q3 q4 q5

set_option maxRecDepth 100000 in
theorem jx_i452 : jx_I jv_T2 452 4 (some .int) 8 133 jv_c452 := ⟨rfl, rfl, rfl, rfl, rfl⟩
set_option maxRecDepth 100000 in
theorem jv_i433 : jv_I 433 2 (some .long) 7 112 jv_c433 := ⟨rfl, rfl, rfl, rfl, rfl⟩
set_option maxRecDepth 100000 in
/-- ProgramBox.testPart: it throws -/
theorem jx_e219 (hTb : jv_TOk jv_Tb) (p0 : Int32) (p1 : Int32) (p2 : Int32) (p3 : Int32) (p4 : Int32) (p5 : Int32) (g1 : p1 < (0 : Int32)) : jx_Th 430 [.int p1, .int (8 : Int32), .int (65536 : Int32)] (jv_H (jx_K 227) jx_If jx_L0 (jx_R 227)) 227 1572950 2 (jv_H (jx_K 227) jx_If jx_L0 (jx_R 227)) 228 1572956 := by
  refine jx_Th.of hTb (y := 430) rfl (Nat.le_of_ble_eq_true rfl) ?_
  intro p l e R s m args below meth c E hl F hZ h0 ht hRc hRs
  show jw p l e R s m args below meth c E 3 227 1572950 _ 0 [(0, .int p1), (1, .int (8 : Int32)), (2, .int (65536 : Int32))] [] (jv_H (jx_K 227) jx_If jx_L0 (jx_R 227)) 227 1572950
  refine jw.steps F jv_i430 1 (pc' := 1) (l' := [(0, .int p1), (1, .int (8 : Int32)), (2, .int (65536 : Int32))]) (st' := [.int p1]) rfl ?_
  refine jw.br F jv_i430 (pc' := 11) (st' := []) rfl (jv_bi_lt.trans (jx_got g1)) ?_
  exact jw.throw hl F hZ h0 rfl jv_i430 ht 2 185 "there is no such byte" (List.mem_of_getElem? (i := 12) rfl) (by decide +kernel) (by decide +kernel) (by decide +kernel) (by decide +kernel) (by decide +kernel) rfl (by decide) (by decide) (by decide) (by omega) (by omega)

set_option maxRecDepth 100000 in
/-- ProgramBox.area: it throws -/
theorem jx_e220 (hTb : jv_TOk jv_Tb) (p0 : Int32) (p1 : Int32) (p2 : Int32) (p3 : Int32) (p4 : Int32) (p5 : Int32) (g1 : p1 < (0 : Int32)) : jx_Th 433 [.ref 0, .int p1] (jv_H (jx_K 227) jx_If jx_L0 (jx_R 227)) 227 1572950 2 (jv_H (jx_K 227) jx_If jx_L0 (jx_R 227)) 228 1572956 := by
  refine jx_Th.of hTb (y := 433) rfl (Nat.le_of_ble_eq_true rfl) ?_
  intro p l e R s m args below meth c E hl F hZ h0 ht hRc hRs
  show jw p l e R s m args below meth c E 2 227 1572950 _ 0 [(0, .ref 0), (1, .int p1)] [] (jv_H (jx_K 227) jx_If jx_L0 (jx_R 227)) 227 1572950
  refine jw.steps F jv_i433 3 (pc' := 5) (l' := [(0, .ref 0), (1, .int p1)]) (st' := [.int (65536 : Int32), .int (8 : Int32), .int p1]) rfl ?_
  exact jw.prop hTb hl F hZ jv_i433 ht rfl jv_i430 [.int p1, .int (8 : Int32), .int (65536 : Int32)] rfl rfl rfl rfl rfl rfl rfl (jx_e219 hTb p0 p1 p2 p3 p4 p5 g1) (by omega) (by omega) (by omega) (by omega)

set_option maxRecDepth 100000 in
/-- the law's area -/
theorem jx_w221 (hTb : jv_TOk jv_Tb) (hT2 : jx_T2Ok) (p0 : Int32) (p1 : Int32) (p2 : Int32) (p3 : Int32) (p4 : Int32) (p5 : Int32) (g1 : p1 < (0 : Int32)) : jx_Wr 452 [(0, 8, 11, 36)] [.ref 0, .int p1, .ref 226] (jv_H (jx_K 227) jx_If jx_L0 (jx_R 227)) 227 1572950 (some (.int (1 : Int32)), (jv_H (jx_K 227) jx_If jx_L0 (jx_R 227)), 228, 1572956) := by
  refine jx_Wr.of hT2 (by decide) rfl (Nat.le_of_ble_eq_true rfl) ?_
  intro p l e R s m args below meth c E hl F hZ htb hRc hRs
  show jw p l e R s m args below meth c E 4 227 1572950 _ 0 [(0, .ref 0), (1, .int p1), (2, .ref 226)] [] (jv_H (jx_K 227) jx_If jx_L0 (jx_R 227)) 227 1572950
  have hRc : R.cells = 228 - 227 := hRc
  have hRs : R.slots = 1572956 - 1572950 := hRs
  refine jw.steps F jx_i452 4 (pc' := 4) (l' := [(0, .ref 0), (1, .int p1), (2, .ref 226)]) (st' := [.int p1, .ref 0, .int (0 : Int32), .ref 226]) rfl ?_
  refine jw.cat hTb hl F hZ rfl jx_i452 htb rfl jv_i433 [.ref 0, .int p1] rfl rfl rfl rfl rfl (jx_cal2 rfl (jv_H_at rfl) rfl rfl) rfl (jx_e220 hTb p0 p1 p2 p3 p4 p5 g1) (by omega) (by omega) (by omega) (by omega) [] (0, 8, 11, 36) [] rfl (fun z h => absurd h List.not_mem_nil) (by decide) rfl rfl (Or.inr ⟨3, rfl, rfl, rfl⟩) (by decide) ?_
  refine jw.steps F jx_i452 1 (pc' := 13) (l' := []) (st' := [.int (1 : Int32)]) rfl ?_
  exact jw.ret F jx_i452 rfl rfl

set_option maxRecDepth 100000 in
theorem jv_i411 : jv_I 411 4 (some .long) 2 47 jv_c411 := ⟨rfl, rfl, rfl, rfl, rfl⟩
set_option maxRecDepth 100000 in
theorem jv_i332 : jv_I 332 3 (some .long) 1 25 jv_c332 := ⟨rfl, rfl, rfl, rfl, rfl⟩
set_option maxRecDepth 100000 in
theorem jv_i331 : jv_I 331 4 (some .boolean) 0 0 jv_c331 := ⟨rfl, rfl, rfl, rfl, rfl⟩
set_option maxRecDepth 100000 in
/-- ProgramBoxModel$Store.noArea -/
theorem jx_e222 (p0 : Int32) (p1 : Int32) (p2 : Int32) (p3 : Int32) (p4 : Int32) (p5 : Int32) (g1 : p1 < (0 : Int32)) : jv_Ms 331 [.ref 180, .int p1, .int (8 : Int32)] (jv_H (jx_K 227) jx_If jx_L0 (jx_R 227)) 228 1572956 (some (.int (1 : Int32)), (jv_H (jx_K 227) (jv_u jx_If 180 0 (1 : Int32)) jx_L0 (jx_R 227)), 228, 1572956) := by
  show jv_Ev 331 0 [(0, .ref 180), (1, .int p1), (2, .int (8 : Int32))] [] (jv_H (jx_K 227) jx_If jx_L0 (jx_R 227)) 228 1572956 _
  refine jv_Ev.steps jv_i331 2 (pc' := 2) (l' := [(0, .ref 180), (1, .int p1), (2, .int (8 : Int32))]) (st' := [.int (1 : Int32), .int (8 : Int32)]) rfl ?_
  refine jv_Ev.br jv_i331 (pc' := 5) (st' := []) rfl (jv_bc_eq.trans (jx_gof (by decide))) ?_
  refine jv_Ev.steps jv_i331 2 (pc' := 7) (l' := [(0, .ref 180), (1, .int p1), (2, .int (8 : Int32))]) (st' := [.int (2 : Int32), .int (8 : Int32)]) rfl ?_
  refine jv_Ev.br jv_i331 (pc' := 10) (st' := []) rfl (jv_bc_eq.trans (jx_gof (by decide))) ?_
  refine jv_Ev.steps jv_i331 2 (pc' := 12) (l' := [(0, .ref 180), (1, .int p1), (2, .int (8 : Int32))]) (st' := [.int (4 : Int32), .int (8 : Int32)]) rfl ?_
  refine jv_Ev.br jv_i331 (pc' := 15) (st' := []) rfl (jv_bc_eq.trans (jx_gof (by decide))) ?_
  refine jv_Ev.steps jv_i331 2 (pc' := 18) (l' := [(0, .ref 180), (1, .int p1), (2, .int (8 : Int32))]) (st' := [.int (8 : Int32), .int (8 : Int32)]) rfl ?_
  refine jv_Ev.br jv_i331 (pc' := 21) (st' := []) rfl (jv_bc_ne.trans (jx_gof (by decide))) ?_
  refine jv_Ev.steps jv_i331 5 (pc' := 29) (l' := [(3, .int (1 : Int32)), (0, .ref 180), (1, .int p1), (2, .int (8 : Int32))]) (st' := [.int (1 : Int32), .ref 180]) rfl ?_
  refine jv_Ev.br jv_i331 (pc' := 36) (st' := [.ref 180]) rfl (jv_bi_ne.trans (jx_got (by decide))) ?_
  refine jv_Ev.steps jv_i331 1 (pc' := 37) (l' := [(3, .int (1 : Int32)), (0, .ref 180), (1, .int p1), (2, .int (8 : Int32))]) (st' := [.int p1, .ref 180]) rfl ?_
  refine jv_Ev.br jv_i331 (pc' := 48) (st' := [.ref 180]) rfl (jv_bi_lt.trans (jx_got g1)) ?_
  refine jv_Ev.steps jv_i331 2 (pc' := 53) (l' := [(3, .int (1 : Int32)), (0, .ref 180), (1, .int p1), (2, .int (8 : Int32))]) (st' := [.int (1 : Int32), .ref 180]) rfl ?_
  refine jv_Ev.m jv_i331 (pc' := 56) (st' := []) rfl rfl (jv_m_putI rfl rfl rfl rfl rfl) ?_
  refine jv_Ev.steps jv_i331 1 (pc' := 57) (l' := [(3, .int (1 : Int32)), (0, .ref 180), (1, .int p1), (2, .int (8 : Int32))]) (st' := [.ref 180]) rfl ?_
  refine jv_Ev.m jv_i331 (pc' := 60) (st' := [.int (1 : Int32)]) rfl rfl (jv_m_getI rfl rfl rfl rfl) ?_
  refine jv_Ev.br jv_i331 (pc' := 63) (st' := []) rfl (jv_bi_le.trans (jx_gof (by decide))) ?_
  refine jv_Ev.steps jv_i331 2 (pc' := 68) (l' := [(3, .int (1 : Int32)), (0, .ref 180), (1, .int p1), (2, .int (8 : Int32))]) (st' := [.int (1 : Int32)]) rfl ?_
  exact jv_Ev.ret jv_i331 rfl (jv_ret_b (by decide))

set_option maxRecDepth 100000 in
/-- ProgramBoxModel$Store.load -/
theorem jx_e223 (p0 : Int32) (p1 : Int32) (p2 : Int32) (p3 : Int32) (p4 : Int32) (p5 : Int32) (g1 : p1 < (0 : Int32)) : jv_Ms 332 [.ref 180, .int p1, .int (8 : Int32)] (jv_H (jx_K 227) jx_If jx_L0 (jx_R 227)) 228 1572956 (some (.long (0 : Int64)), (jv_H (jx_K 227) (jv_u jx_If 180 0 (1 : Int32)) jx_L0 (jx_R 227)), 228, 1572956) := by
  show jv_Ev 332 0 [(0, .ref 180), (1, .int p1), (2, .int (8 : Int32))] [] (jv_H (jx_K 227) jx_If jx_L0 (jx_R 227)) 228 1572956 _
  refine jv_Ev.steps jv_i332 3 (pc' := 3) (l' := [(0, .ref 180), (1, .int p1), (2, .int (8 : Int32))]) (st' := [.int (8 : Int32), .int p1, .ref 180]) rfl ?_
  refine jv_Ev.c jv_i332 (pc' := 6) (S' := [.int (1 : Int32)]) jv_i331 [.ref 180, .int p1, .int (8 : Int32)] rfl rfl rfl rfl (jv_cal rfl (jv_H_at rfl) rfl rfl) rfl (jx_e222 p0 p1 p2 p3 p4 p5 g1) rfl rfl ?_
  refine jv_Ev.br jv_i332 (pc' := 9) (st' := []) rfl (jv_bi_eq.trans (jx_gof (by decide))) ?_
  refine jv_Ev.steps jv_i332 2 (pc' := 22) (l' := [(0, .ref 180), (1, .int p1), (2, .int (8 : Int32))]) (st' := [.long (0 : Int64)]) rfl ?_
  exact jv_Ev.ret jv_i332 rfl rfl

set_option maxRecDepth 100000 in
/-- ProgramBoxModel$Store.thrown -/
theorem jx_e224 (p0 : Int32) (p1 : Int32) (p2 : Int32) (p3 : Int32) (p4 : Int32) (p5 : Int32) (g1 : p1 < (0 : Int32)) : jv_Ms 318 [.ref 180] (jv_H (jx_K 227) (jv_u jx_If 180 0 (1 : Int32)) jx_L0 (jx_R 227)) 228 1572956 (some (.int (1 : Int32)), (jv_H (jx_K 227) (jv_u jx_If 180 0 (1 : Int32)) jx_L0 (jx_R 227)), 228, 1572956) := by
  show jv_Ev 318 0 [(0, .ref 180)] [] (jv_H (jx_K 227) (jv_u jx_If 180 0 (1 : Int32)) jx_L0 (jx_R 227)) 228 1572956 _
  refine jv_Ev.steps jv_i318 1 (pc' := 1) (l' := [(0, .ref 180)]) (st' := [.ref 180]) rfl ?_
  refine jv_Ev.m jv_i318 (pc' := 4) (st' := [.int (1 : Int32)]) rfl rfl (jv_m_getI rfl rfl rfl rfl) ?_
  exact jv_Ev.ret jv_i318 rfl rfl

set_option maxRecDepth 100000 in
/-- ProgramBoxModel.area -/
theorem jx_e225 (p0 : Int32) (p1 : Int32) (p2 : Int32) (p3 : Int32) (p4 : Int32) (p5 : Int32) (g1 : p1 < (0 : Int32)) : jv_Ms 411 [.ref 178, .int p1] (jv_H (jx_K 227) jx_If jx_L0 (jx_R 227)) 228 1572956 (some (.long (0 : Int64)), (jv_H (jx_K 227) (jv_u (jv_u jx_If 180 0 (1 : Int32)) 178 0 (1 : Int32)) jx_L0 (jx_R 227)), 228, 1572956) := by
  show jv_Ev 411 0 [(0, .ref 178), (1, .int p1)] [] (jv_H (jx_K 227) jx_If jx_L0 (jx_R 227)) 228 1572956 _
  refine jv_Ev.steps jv_i411 1 (pc' := 1) (l' := [(0, .ref 178), (1, .int p1)]) (st' := [.ref 178]) rfl ?_
  refine jv_Ev.m jv_i411 (pc' := 4) (st' := [.ref 180]) rfl rfl (jv_m_getR rfl rfl rfl rfl) ?_
  refine jv_Ev.steps jv_i411 2 (pc' := 7) (l' := [(0, .ref 178), (1, .int p1)]) (st' := [.int (8 : Int32), .int p1, .ref 180]) rfl ?_
  refine jv_Ev.c jv_i411 (pc' := 10) (S' := [.long (0 : Int64)]) jv_i332 [.ref 180, .int p1, .int (8 : Int32)] rfl rfl rfl rfl (jv_cal rfl (jv_H_at rfl) rfl rfl) rfl (jx_e223 p0 p1 p2 p3 p4 p5 g1) rfl rfl ?_
  refine jv_Ev.steps jv_i411 3 (pc' := 13) (l' := [(2, .long (0 : Int64)), (0, .ref 178), (1, .int p1)]) (st' := [.ref 178, .ref 178]) rfl ?_
  refine jv_Ev.m jv_i411 (pc' := 16) (st' := [.ref 180, .ref 178]) rfl rfl (jv_m_getR rfl rfl rfl rfl) ?_
  refine jv_Ev.c jv_i411 (pc' := 19) (S' := [.int (1 : Int32), .ref 178]) jv_i318 [.ref 180] rfl rfl rfl rfl (jv_cal rfl (jv_H_at rfl) rfl rfl) rfl (jx_e224 p0 p1 p2 p3 p4 p5 g1) rfl rfl ?_
  refine jv_Ev.m jv_i411 (pc' := 22) (st' := []) rfl rfl (jv_m_putI rfl rfl rfl rfl rfl) ?_
  refine jv_Ev.steps jv_i411 1 (pc' := 23) (l' := [(2, .long (0 : Int64)), (0, .ref 178), (1, .int p1)]) (st' := [.long (0 : Int64)]) rfl ?_
  exact jv_Ev.ret jv_i411 rfl rfl

set_option maxRecDepth 100000 in
/-- ProgramBoxModel.thrown -/
theorem jx_e226 (p0 : Int32) (p1 : Int32) (p2 : Int32) (p3 : Int32) (p4 : Int32) (p5 : Int32) (g1 : p1 < (0 : Int32)) : jv_Ms 350 [.ref 178] (jv_H (jx_K 227) (jv_u (jv_u jx_If 180 0 (1 : Int32)) 178 0 (1 : Int32)) jx_L0 (jx_R 227)) 228 1572956 (some (.int (1 : Int32)), (jv_H (jx_K 227) (jv_u (jv_u jx_If 180 0 (1 : Int32)) 178 0 (1 : Int32)) jx_L0 (jx_R 227)), 228, 1572956) := by
  show jv_Ev 350 0 [(0, .ref 178)] [] (jv_H (jx_K 227) (jv_u (jv_u jx_If 180 0 (1 : Int32)) 178 0 (1 : Int32)) jx_L0 (jx_R 227)) 228 1572956 _
  refine jv_Ev.steps jv_i350 1 (pc' := 1) (l' := [(0, .ref 178)]) (st' := [.ref 178]) rfl ?_
  refine jv_Ev.m jv_i350 (pc' := 4) (st' := [.int (1 : Int32)]) rfl rfl (jv_m_getI rfl rfl rfl rfl) ?_
  exact jv_Ev.ret jv_i350 rfl rfl

set_option maxRecDepth 100000 in
/-- the law: case 20, one way -/
theorem jx_l38 (p0 : Int32) (p1 : Int32) (p2 : Int32) (p3 : Int32) (p4 : Int32) (p5 : Int32) (g1 : p1 < (0 : Int32)) (hsw : p0 &&& (31 : Int32) = (20 : Int32)) {p : Program} {l : Launch} {e : Env} {R : Room} {s : State} {m : MethodId} {args : Array Value} {below : List Frame} {meth : Method} {c : Code} {E : jv_Env} {Q : State → Prop} (hTb : jv_TOk jv_Tb) (hT2 : jx_T2Ok) (hl : l.stackTraces = false) (F : jx_F jv_T2 439 E p R s m args meth c) (hZ : jx_Z E s) (hRc : R.cells = 600002) (hRs : R.slots = 7302232) {bb : Nat} {xs : Nat → Int32} (hX : va_X bb 6 xs s E.2.2.2.2) (hbB : bb < E.2.2.2.1) (hE2 : E.1 1000002 = bb) (hQ : ∀ (l0 : jv_L) (G : jv_G) (n sl : Nat), n ≤ 600002 → sl ≤ 7302232 → jw p l e R s m args below meth c E 8 0 0 Q 1532 l0 [.int (1 : Int32)] G n sl) (q0 : xs 0 = p0) (q1 : xs 1 = p1) (q2 : xs 2 = p2) (q3 : xs 3 = p3) (q4 : xs 4 = p4) (q5 : xs 5 = p5) : jw p l e R s m args below meth c E 8 0 0 Q 33 [(0, .ref 1000002), (1, .ref 0), (2, .ref 178), (3, .ref 226), (4, .int (0 : Int32))] [] (jv_H (jx_K 227) jx_If jx_L0 (jx_R 227)) 227 1572950 := by
  refine jw.steps F jx_i439 2 (pc' := 36) (l' := [(0, .ref 1000002), (1, .ref 0), (2, .ref 178), (3, .ref 226), (4, .int (0 : Int32))]) (st' := [.int (0 : Int32), .ref 1000002]) rfl ?_
  refine jw.sld F jx_i439 hX hbB hE2 (pc' := 37) rfl rfl (show vp_in (nI 0) 6 from vp_in_nI (by decide) (by decide)) q0 rfl ?_
  refine jw.steps F jx_i439 2 (pc' := 40) (l' := [(0, .ref 1000002), (1, .ref 0), (2, .ref 178), (3, .ref 226), (4, .int (0 : Int32))]) (st' := [.int (p0 &&& (31 : Int32))]) rfl ?_
  refine jw.br F jx_i439 (pc' := 1081) (st' := []) rfl (by rw [hsw]; rfl) ?_
  refine jw.steps F jx_i439 5 (pc' := 1087) (l' := [(0, .ref 1000002), (1, .ref 0), (2, .ref 178), (3, .ref 226), (4, .int (0 : Int32))]) (st' := [.int (1 : Int32), .ref 1000002, .ref 0]) rfl ?_
  refine jw.sld F jx_i439 hX hbB hE2 (pc' := 1088) rfl rfl (show vp_in (nI 1) 6 from vp_in_nI (by decide) (by decide)) q1 rfl ?_
  refine jw.steps F jx_i439 1 (pc' := 1089) (l' := [(0, .ref 1000002), (1, .ref 0), (2, .ref 178), (3, .ref 226), (4, .int (0 : Int32))]) (st' := [.ref 226, .int p1, .ref 0]) rfl ?_
  refine jw.wr F hl hZ rfl jx_i439 jx_i452 [.ref 0, .int p1, .ref 226] (pc' := 1092) (S' := [.int (1 : Int32)]) rfl (List.mem_of_getElem? (i := 12) rfl) (List.mem_of_getElem? (i := 12) rfl) rfl rfl rfl (jx_w221 hTb hT2 p0 p1 p2 p3 p4 p5 g1) (by omega) (by omega) (by omega) (by omega) rfl rfl ?_
  refine jw.steps F jx_i439 6 (pc' := 1100) (l' := [(5, .int (1 : Int32)), (0, .ref 1000002), (1, .ref 0), (2, .ref 178), (3, .ref 226), (4, .int (0 : Int32))]) (st' := [.int (1 : Int32), .ref 1000002, .ref 178]) rfl ?_
  refine jw.sld F jx_i439 hX hbB hE2 (pc' := 1101) rfl rfl (show vp_in (nI 1) 6 from vp_in_nI (by decide) (by decide)) q1 rfl ?_
  refine jw.ca hTb F jx_i439 (pc' := 1104) (S' := [.long (0 : Int64)]) rfl jv_i411 [.ref 178, .int p1] rfl rfl rfl rfl (jx_cal2 rfl (jv_H_at rfl) rfl rfl) rfl (jx_e225 p0 p1 p2 p3 p4 p5 g1) (by omega) (by omega) rfl rfl ?_
  refine jw.steps F jx_i439 2 (pc' := 1107) (l' := [(6, .long (0 : Int64)), (5, .int (1 : Int32)), (0, .ref 1000002), (1, .ref 0), (2, .ref 178), (3, .ref 226), (4, .int (0 : Int32))]) (st' := [.ref 178]) rfl ?_
  refine jw.ca hTb F jx_i439 (pc' := 1110) (S' := [.int (1 : Int32)]) rfl jv_i350 [.ref 178] rfl rfl rfl rfl (jx_cal2 rfl (jv_H_at rfl) rfl rfl) rfl (jx_e226 p0 p1 p2 p3 p4 p5 g1) (by omega) (by omega) rfl rfl ?_
  refine jw.steps F jx_i439 1 (pc' := 1112) (l' := [(6, .long (0 : Int64)), (5, .int (1 : Int32)), (0, .ref 1000002), (1, .ref 0), (2, .ref 178), (3, .ref 226), (4, .int (0 : Int32))]) (st' := [.int (1 : Int32), .int (1 : Int32)]) rfl ?_
  refine jw.br F jx_i439 (pc' := 1117) (st' := []) rfl (jv_bc_eq.trans (jx_got (by decide))) ?_
  refine jw.steps F jx_i439 1 (pc' := 1119) (l' := [(6, .long (0 : Int64)), (5, .int (1 : Int32)), (0, .ref 1000002), (1, .ref 0), (2, .ref 178), (3, .ref 226), (4, .int (0 : Int32))]) (st' := [.int (1 : Int32)]) rfl ?_
  refine jw.br F jx_i439 (pc' := 1133) (st' := []) rfl (jv_bi_ne.trans (jx_got (by decide))) ?_
  refine jw.steps F jx_i439 5 (pc' := 26) (l' := [(4, .int (6 : Int32)), (6, .long (0 : Int64)), (5, .int (1 : Int32)), (0, .ref 1000002), (1, .ref 0), (2, .ref 178), (3, .ref 226)]) (st' := [.ref 1000002, .int (6 : Int32)]) rfl ?_
  refine jw.slen F jx_i439 hX hbB hE2 (pc' := 27) rfl rfl rfl ?_
  refine jw.steps F jx_i439 2 (pc' := 30) (l' := [(4, .int (6 : Int32)), (6, .long (0 : Int64)), (5, .int (1 : Int32)), (0, .ref 1000002), (1, .ref 0), (2, .ref 178), (3, .ref 226)]) (st' := [.int (0 : Int32), .int (6 : Int32)]) rfl ?_
  refine jw.br F jx_i439 (pc' := 1531) (st' := []) rfl (jv_bc_gt.trans (jx_got (by decide))) ?_
  refine jw.steps F jx_i439 1 (pc' := 1532) (l' := [(4, .int (6 : Int32)), (6, .long (0 : Int64)), (5, .int (1 : Int32)), (0, .ref 1000002), (1, .ref 0), (2, .ref 178), (3, .ref 226)]) (st' := [.int (1 : Int32)]) rfl ?_
  exact hQ _ _ _ _ (by omega) (by omega)

set_option maxRecDepth 100000 in
/-- ProgramBox.testPart: it throws -/
theorem jx_e227 (hTb : jv_TOk jv_Tb) (p0 : Int32) (p1 : Int32) (p2 : Int32) (p3 : Int32) (p4 : Int32) (p5 : Int32) (g1 : ¬ p1 < (0 : Int32)) (g2 : (65528 : Int32) < p1) : jx_Th 430 [.int p1, .int (8 : Int32), .int (65536 : Int32)] (jv_H (jx_K 227) jx_If jx_L0 (jx_R 227)) 227 1572950 2 (jv_H (jx_K 227) jx_If jx_L0 (jx_R 227)) 228 1572956 := by
  refine jx_Th.of hTb (y := 430) rfl (Nat.le_of_ble_eq_true rfl) ?_
  intro p l e R s m args below meth c E hl F hZ h0 ht hRc hRs
  show jw p l e R s m args below meth c E 3 227 1572950 _ 0 [(0, .int p1), (1, .int (8 : Int32)), (2, .int (65536 : Int32))] [] (jv_H (jx_K 227) jx_If jx_L0 (jx_R 227)) 227 1572950
  refine jw.steps F jv_i430 1 (pc' := 1) (l' := [(0, .int p1), (1, .int (8 : Int32)), (2, .int (65536 : Int32))]) (st' := [.int p1]) rfl ?_
  refine jw.br F jv_i430 (pc' := 4) (st' := []) rfl (jv_bi_lt.trans (jx_gof g1)) ?_
  refine jw.steps F jv_i430 4 (pc' := 8) (l' := [(0, .int p1), (1, .int (8 : Int32)), (2, .int (65536 : Int32))]) (st' := [.int (65528 : Int32), .int p1]) rfl ?_
  refine jw.br F jv_i430 (pc' := 11) (st' := []) rfl (jv_bc_le.trans (jx_gof (Int32.not_le.mpr g2))) ?_
  exact jw.throw hl F hZ h0 rfl jv_i430 ht 2 185 "there is no such byte" (List.mem_of_getElem? (i := 12) rfl) (by decide +kernel) (by decide +kernel) (by decide +kernel) (by decide +kernel) (by decide +kernel) rfl (by decide) (by decide) (by decide) (by omega) (by omega)

set_option maxRecDepth 100000 in
/-- ProgramBox.area: it throws -/
theorem jx_e228 (hTb : jv_TOk jv_Tb) (p0 : Int32) (p1 : Int32) (p2 : Int32) (p3 : Int32) (p4 : Int32) (p5 : Int32) (g1 : ¬ p1 < (0 : Int32)) (g2 : (65528 : Int32) < p1) : jx_Th 433 [.ref 0, .int p1] (jv_H (jx_K 227) jx_If jx_L0 (jx_R 227)) 227 1572950 2 (jv_H (jx_K 227) jx_If jx_L0 (jx_R 227)) 228 1572956 := by
  refine jx_Th.of hTb (y := 433) rfl (Nat.le_of_ble_eq_true rfl) ?_
  intro p l e R s m args below meth c E hl F hZ h0 ht hRc hRs
  show jw p l e R s m args below meth c E 2 227 1572950 _ 0 [(0, .ref 0), (1, .int p1)] [] (jv_H (jx_K 227) jx_If jx_L0 (jx_R 227)) 227 1572950
  refine jw.steps F jv_i433 3 (pc' := 5) (l' := [(0, .ref 0), (1, .int p1)]) (st' := [.int (65536 : Int32), .int (8 : Int32), .int p1]) rfl ?_
  exact jw.prop hTb hl F hZ jv_i433 ht rfl jv_i430 [.int p1, .int (8 : Int32), .int (65536 : Int32)] rfl rfl rfl rfl rfl rfl rfl (jx_e227 hTb p0 p1 p2 p3 p4 p5 g1 g2) (by omega) (by omega) (by omega) (by omega)

set_option maxRecDepth 100000 in
/-- the law's area -/
theorem jx_w229 (hTb : jv_TOk jv_Tb) (hT2 : jx_T2Ok) (p0 : Int32) (p1 : Int32) (p2 : Int32) (p3 : Int32) (p4 : Int32) (p5 : Int32) (g1 : ¬ p1 < (0 : Int32)) (g2 : (65528 : Int32) < p1) : jx_Wr 452 [(0, 8, 11, 36)] [.ref 0, .int p1, .ref 226] (jv_H (jx_K 227) jx_If jx_L0 (jx_R 227)) 227 1572950 (some (.int (1 : Int32)), (jv_H (jx_K 227) jx_If jx_L0 (jx_R 227)), 228, 1572956) := by
  refine jx_Wr.of hT2 (by decide) rfl (Nat.le_of_ble_eq_true rfl) ?_
  intro p l e R s m args below meth c E hl F hZ htb hRc hRs
  show jw p l e R s m args below meth c E 4 227 1572950 _ 0 [(0, .ref 0), (1, .int p1), (2, .ref 226)] [] (jv_H (jx_K 227) jx_If jx_L0 (jx_R 227)) 227 1572950
  have hRc : R.cells = 228 - 227 := hRc
  have hRs : R.slots = 1572956 - 1572950 := hRs
  refine jw.steps F jx_i452 4 (pc' := 4) (l' := [(0, .ref 0), (1, .int p1), (2, .ref 226)]) (st' := [.int p1, .ref 0, .int (0 : Int32), .ref 226]) rfl ?_
  refine jw.cat hTb hl F hZ rfl jx_i452 htb rfl jv_i433 [.ref 0, .int p1] rfl rfl rfl rfl rfl (jx_cal2 rfl (jv_H_at rfl) rfl rfl) rfl (jx_e228 hTb p0 p1 p2 p3 p4 p5 g1 g2) (by omega) (by omega) (by omega) (by omega) [] (0, 8, 11, 36) [] rfl (fun z h => absurd h List.not_mem_nil) (by decide) rfl rfl (Or.inr ⟨3, rfl, rfl, rfl⟩) (by decide) ?_
  refine jw.steps F jx_i452 1 (pc' := 13) (l' := []) (st' := [.int (1 : Int32)]) rfl ?_
  exact jw.ret F jx_i452 rfl rfl

set_option maxRecDepth 100000 in
/-- ProgramBoxModel$Store.noArea -/
theorem jx_e230 (p0 : Int32) (p1 : Int32) (p2 : Int32) (p3 : Int32) (p4 : Int32) (p5 : Int32) (g1 : ¬ p1 < (0 : Int32)) (g2 : (65528 : Int32) < p1) : jv_Ms 331 [.ref 180, .int p1, .int (8 : Int32)] (jv_H (jx_K 227) jx_If jx_L0 (jx_R 227)) 228 1572956 (some (.int (1 : Int32)), (jv_H (jx_K 227) (jv_u jx_If 180 0 (1 : Int32)) jx_L0 (jx_R 227)), 228, 1572956) := by
  show jv_Ev 331 0 [(0, .ref 180), (1, .int p1), (2, .int (8 : Int32))] [] (jv_H (jx_K 227) jx_If jx_L0 (jx_R 227)) 228 1572956 _
  refine jv_Ev.steps jv_i331 2 (pc' := 2) (l' := [(0, .ref 180), (1, .int p1), (2, .int (8 : Int32))]) (st' := [.int (1 : Int32), .int (8 : Int32)]) rfl ?_
  refine jv_Ev.br jv_i331 (pc' := 5) (st' := []) rfl (jv_bc_eq.trans (jx_gof (by decide))) ?_
  refine jv_Ev.steps jv_i331 2 (pc' := 7) (l' := [(0, .ref 180), (1, .int p1), (2, .int (8 : Int32))]) (st' := [.int (2 : Int32), .int (8 : Int32)]) rfl ?_
  refine jv_Ev.br jv_i331 (pc' := 10) (st' := []) rfl (jv_bc_eq.trans (jx_gof (by decide))) ?_
  refine jv_Ev.steps jv_i331 2 (pc' := 12) (l' := [(0, .ref 180), (1, .int p1), (2, .int (8 : Int32))]) (st' := [.int (4 : Int32), .int (8 : Int32)]) rfl ?_
  refine jv_Ev.br jv_i331 (pc' := 15) (st' := []) rfl (jv_bc_eq.trans (jx_gof (by decide))) ?_
  refine jv_Ev.steps jv_i331 2 (pc' := 18) (l' := [(0, .ref 180), (1, .int p1), (2, .int (8 : Int32))]) (st' := [.int (8 : Int32), .int (8 : Int32)]) rfl ?_
  refine jv_Ev.br jv_i331 (pc' := 21) (st' := []) rfl (jv_bc_ne.trans (jx_gof (by decide))) ?_
  refine jv_Ev.steps jv_i331 5 (pc' := 29) (l' := [(3, .int (1 : Int32)), (0, .ref 180), (1, .int p1), (2, .int (8 : Int32))]) (st' := [.int (1 : Int32), .ref 180]) rfl ?_
  refine jv_Ev.br jv_i331 (pc' := 36) (st' := [.ref 180]) rfl (jv_bi_ne.trans (jx_got (by decide))) ?_
  refine jv_Ev.steps jv_i331 1 (pc' := 37) (l' := [(3, .int (1 : Int32)), (0, .ref 180), (1, .int p1), (2, .int (8 : Int32))]) (st' := [.int p1, .ref 180]) rfl ?_
  refine jv_Ev.br jv_i331 (pc' := 40) (st' := [.ref 180]) rfl (jv_bi_lt.trans (jx_gof g1)) ?_
  refine jv_Ev.steps jv_i331 4 (pc' := 45) (l' := [(3, .int (1 : Int32)), (0, .ref 180), (1, .int p1), (2, .int (8 : Int32))]) (st' := [.int (65528 : Int32), .int p1, .ref 180]) rfl ?_
  refine jv_Ev.br jv_i331 (pc' := 48) (st' := [.ref 180]) rfl (jv_bc_le.trans (jx_gof (Int32.not_le.mpr g2))) ?_
  refine jv_Ev.steps jv_i331 2 (pc' := 53) (l' := [(3, .int (1 : Int32)), (0, .ref 180), (1, .int p1), (2, .int (8 : Int32))]) (st' := [.int (1 : Int32), .ref 180]) rfl ?_
  refine jv_Ev.m jv_i331 (pc' := 56) (st' := []) rfl rfl (jv_m_putI rfl rfl rfl rfl rfl) ?_
  refine jv_Ev.steps jv_i331 1 (pc' := 57) (l' := [(3, .int (1 : Int32)), (0, .ref 180), (1, .int p1), (2, .int (8 : Int32))]) (st' := [.ref 180]) rfl ?_
  refine jv_Ev.m jv_i331 (pc' := 60) (st' := [.int (1 : Int32)]) rfl rfl (jv_m_getI rfl rfl rfl rfl) ?_
  refine jv_Ev.br jv_i331 (pc' := 63) (st' := []) rfl (jv_bi_le.trans (jx_gof (by decide))) ?_
  refine jv_Ev.steps jv_i331 2 (pc' := 68) (l' := [(3, .int (1 : Int32)), (0, .ref 180), (1, .int p1), (2, .int (8 : Int32))]) (st' := [.int (1 : Int32)]) rfl ?_
  exact jv_Ev.ret jv_i331 rfl (jv_ret_b (by decide))

set_option maxRecDepth 100000 in
/-- ProgramBoxModel$Store.load -/
theorem jx_e231 (p0 : Int32) (p1 : Int32) (p2 : Int32) (p3 : Int32) (p4 : Int32) (p5 : Int32) (g1 : ¬ p1 < (0 : Int32)) (g2 : (65528 : Int32) < p1) : jv_Ms 332 [.ref 180, .int p1, .int (8 : Int32)] (jv_H (jx_K 227) jx_If jx_L0 (jx_R 227)) 228 1572956 (some (.long (0 : Int64)), (jv_H (jx_K 227) (jv_u jx_If 180 0 (1 : Int32)) jx_L0 (jx_R 227)), 228, 1572956) := by
  show jv_Ev 332 0 [(0, .ref 180), (1, .int p1), (2, .int (8 : Int32))] [] (jv_H (jx_K 227) jx_If jx_L0 (jx_R 227)) 228 1572956 _
  refine jv_Ev.steps jv_i332 3 (pc' := 3) (l' := [(0, .ref 180), (1, .int p1), (2, .int (8 : Int32))]) (st' := [.int (8 : Int32), .int p1, .ref 180]) rfl ?_
  refine jv_Ev.c jv_i332 (pc' := 6) (S' := [.int (1 : Int32)]) jv_i331 [.ref 180, .int p1, .int (8 : Int32)] rfl rfl rfl rfl (jv_cal rfl (jv_H_at rfl) rfl rfl) rfl (jx_e230 p0 p1 p2 p3 p4 p5 g1 g2) rfl rfl ?_
  refine jv_Ev.br jv_i332 (pc' := 9) (st' := []) rfl (jv_bi_eq.trans (jx_gof (by decide))) ?_
  refine jv_Ev.steps jv_i332 2 (pc' := 22) (l' := [(0, .ref 180), (1, .int p1), (2, .int (8 : Int32))]) (st' := [.long (0 : Int64)]) rfl ?_
  exact jv_Ev.ret jv_i332 rfl rfl

set_option maxRecDepth 100000 in
/-- ProgramBoxModel$Store.thrown -/
theorem jx_e232 (p0 : Int32) (p1 : Int32) (p2 : Int32) (p3 : Int32) (p4 : Int32) (p5 : Int32) (g1 : ¬ p1 < (0 : Int32)) (g2 : (65528 : Int32) < p1) : jv_Ms 318 [.ref 180] (jv_H (jx_K 227) (jv_u jx_If 180 0 (1 : Int32)) jx_L0 (jx_R 227)) 228 1572956 (some (.int (1 : Int32)), (jv_H (jx_K 227) (jv_u jx_If 180 0 (1 : Int32)) jx_L0 (jx_R 227)), 228, 1572956) := by
  show jv_Ev 318 0 [(0, .ref 180)] [] (jv_H (jx_K 227) (jv_u jx_If 180 0 (1 : Int32)) jx_L0 (jx_R 227)) 228 1572956 _
  refine jv_Ev.steps jv_i318 1 (pc' := 1) (l' := [(0, .ref 180)]) (st' := [.ref 180]) rfl ?_
  refine jv_Ev.m jv_i318 (pc' := 4) (st' := [.int (1 : Int32)]) rfl rfl (jv_m_getI rfl rfl rfl rfl) ?_
  exact jv_Ev.ret jv_i318 rfl rfl

set_option maxRecDepth 100000 in
/-- ProgramBoxModel.area -/
theorem jx_e233 (p0 : Int32) (p1 : Int32) (p2 : Int32) (p3 : Int32) (p4 : Int32) (p5 : Int32) (g1 : ¬ p1 < (0 : Int32)) (g2 : (65528 : Int32) < p1) : jv_Ms 411 [.ref 178, .int p1] (jv_H (jx_K 227) jx_If jx_L0 (jx_R 227)) 228 1572956 (some (.long (0 : Int64)), (jv_H (jx_K 227) (jv_u (jv_u jx_If 180 0 (1 : Int32)) 178 0 (1 : Int32)) jx_L0 (jx_R 227)), 228, 1572956) := by
  show jv_Ev 411 0 [(0, .ref 178), (1, .int p1)] [] (jv_H (jx_K 227) jx_If jx_L0 (jx_R 227)) 228 1572956 _
  refine jv_Ev.steps jv_i411 1 (pc' := 1) (l' := [(0, .ref 178), (1, .int p1)]) (st' := [.ref 178]) rfl ?_
  refine jv_Ev.m jv_i411 (pc' := 4) (st' := [.ref 180]) rfl rfl (jv_m_getR rfl rfl rfl rfl) ?_
  refine jv_Ev.steps jv_i411 2 (pc' := 7) (l' := [(0, .ref 178), (1, .int p1)]) (st' := [.int (8 : Int32), .int p1, .ref 180]) rfl ?_
  refine jv_Ev.c jv_i411 (pc' := 10) (S' := [.long (0 : Int64)]) jv_i332 [.ref 180, .int p1, .int (8 : Int32)] rfl rfl rfl rfl (jv_cal rfl (jv_H_at rfl) rfl rfl) rfl (jx_e231 p0 p1 p2 p3 p4 p5 g1 g2) rfl rfl ?_
  refine jv_Ev.steps jv_i411 3 (pc' := 13) (l' := [(2, .long (0 : Int64)), (0, .ref 178), (1, .int p1)]) (st' := [.ref 178, .ref 178]) rfl ?_
  refine jv_Ev.m jv_i411 (pc' := 16) (st' := [.ref 180, .ref 178]) rfl rfl (jv_m_getR rfl rfl rfl rfl) ?_
  refine jv_Ev.c jv_i411 (pc' := 19) (S' := [.int (1 : Int32), .ref 178]) jv_i318 [.ref 180] rfl rfl rfl rfl (jv_cal rfl (jv_H_at rfl) rfl rfl) rfl (jx_e232 p0 p1 p2 p3 p4 p5 g1 g2) rfl rfl ?_
  refine jv_Ev.m jv_i411 (pc' := 22) (st' := []) rfl rfl (jv_m_putI rfl rfl rfl rfl rfl) ?_
  refine jv_Ev.steps jv_i411 1 (pc' := 23) (l' := [(2, .long (0 : Int64)), (0, .ref 178), (1, .int p1)]) (st' := [.long (0 : Int64)]) rfl ?_
  exact jv_Ev.ret jv_i411 rfl rfl

set_option maxRecDepth 100000 in
/-- ProgramBoxModel.thrown -/
theorem jx_e234 (p0 : Int32) (p1 : Int32) (p2 : Int32) (p3 : Int32) (p4 : Int32) (p5 : Int32) (g1 : ¬ p1 < (0 : Int32)) (g2 : (65528 : Int32) < p1) : jv_Ms 350 [.ref 178] (jv_H (jx_K 227) (jv_u (jv_u jx_If 180 0 (1 : Int32)) 178 0 (1 : Int32)) jx_L0 (jx_R 227)) 228 1572956 (some (.int (1 : Int32)), (jv_H (jx_K 227) (jv_u (jv_u jx_If 180 0 (1 : Int32)) 178 0 (1 : Int32)) jx_L0 (jx_R 227)), 228, 1572956) := by
  show jv_Ev 350 0 [(0, .ref 178)] [] (jv_H (jx_K 227) (jv_u (jv_u jx_If 180 0 (1 : Int32)) 178 0 (1 : Int32)) jx_L0 (jx_R 227)) 228 1572956 _
  refine jv_Ev.steps jv_i350 1 (pc' := 1) (l' := [(0, .ref 178)]) (st' := [.ref 178]) rfl ?_
  refine jv_Ev.m jv_i350 (pc' := 4) (st' := [.int (1 : Int32)]) rfl rfl (jv_m_getI rfl rfl rfl rfl) ?_
  exact jv_Ev.ret jv_i350 rfl rfl

set_option maxRecDepth 100000 in
/-- the law: case 20, one way -/
theorem jx_l39 (p0 : Int32) (p1 : Int32) (p2 : Int32) (p3 : Int32) (p4 : Int32) (p5 : Int32) (g1 : ¬ p1 < (0 : Int32)) (g2 : (65528 : Int32) < p1) (hsw : p0 &&& (31 : Int32) = (20 : Int32)) {p : Program} {l : Launch} {e : Env} {R : Room} {s : State} {m : MethodId} {args : Array Value} {below : List Frame} {meth : Method} {c : Code} {E : jv_Env} {Q : State → Prop} (hTb : jv_TOk jv_Tb) (hT2 : jx_T2Ok) (hl : l.stackTraces = false) (F : jx_F jv_T2 439 E p R s m args meth c) (hZ : jx_Z E s) (hRc : R.cells = 600002) (hRs : R.slots = 7302232) {bb : Nat} {xs : Nat → Int32} (hX : va_X bb 6 xs s E.2.2.2.2) (hbB : bb < E.2.2.2.1) (hE2 : E.1 1000002 = bb) (hQ : ∀ (l0 : jv_L) (G : jv_G) (n sl : Nat), n ≤ 600002 → sl ≤ 7302232 → jw p l e R s m args below meth c E 8 0 0 Q 1532 l0 [.int (1 : Int32)] G n sl) (q0 : xs 0 = p0) (q1 : xs 1 = p1) (q2 : xs 2 = p2) (q3 : xs 3 = p3) (q4 : xs 4 = p4) (q5 : xs 5 = p5) : jw p l e R s m args below meth c E 8 0 0 Q 33 [(0, .ref 1000002), (1, .ref 0), (2, .ref 178), (3, .ref 226), (4, .int (0 : Int32))] [] (jv_H (jx_K 227) jx_If jx_L0 (jx_R 227)) 227 1572950 := by
  refine jw.steps F jx_i439 2 (pc' := 36) (l' := [(0, .ref 1000002), (1, .ref 0), (2, .ref 178), (3, .ref 226), (4, .int (0 : Int32))]) (st' := [.int (0 : Int32), .ref 1000002]) rfl ?_
  refine jw.sld F jx_i439 hX hbB hE2 (pc' := 37) rfl rfl (show vp_in (nI 0) 6 from vp_in_nI (by decide) (by decide)) q0 rfl ?_
  refine jw.steps F jx_i439 2 (pc' := 40) (l' := [(0, .ref 1000002), (1, .ref 0), (2, .ref 178), (3, .ref 226), (4, .int (0 : Int32))]) (st' := [.int (p0 &&& (31 : Int32))]) rfl ?_
  refine jw.br F jx_i439 (pc' := 1081) (st' := []) rfl (by rw [hsw]; rfl) ?_
  refine jw.steps F jx_i439 5 (pc' := 1087) (l' := [(0, .ref 1000002), (1, .ref 0), (2, .ref 178), (3, .ref 226), (4, .int (0 : Int32))]) (st' := [.int (1 : Int32), .ref 1000002, .ref 0]) rfl ?_
  refine jw.sld F jx_i439 hX hbB hE2 (pc' := 1088) rfl rfl (show vp_in (nI 1) 6 from vp_in_nI (by decide) (by decide)) q1 rfl ?_
  refine jw.steps F jx_i439 1 (pc' := 1089) (l' := [(0, .ref 1000002), (1, .ref 0), (2, .ref 178), (3, .ref 226), (4, .int (0 : Int32))]) (st' := [.ref 226, .int p1, .ref 0]) rfl ?_
  refine jw.wr F hl hZ rfl jx_i439 jx_i452 [.ref 0, .int p1, .ref 226] (pc' := 1092) (S' := [.int (1 : Int32)]) rfl (List.mem_of_getElem? (i := 12) rfl) (List.mem_of_getElem? (i := 12) rfl) rfl rfl rfl (jx_w229 hTb hT2 p0 p1 p2 p3 p4 p5 g1 g2) (by omega) (by omega) (by omega) (by omega) rfl rfl ?_
  refine jw.steps F jx_i439 6 (pc' := 1100) (l' := [(5, .int (1 : Int32)), (0, .ref 1000002), (1, .ref 0), (2, .ref 178), (3, .ref 226), (4, .int (0 : Int32))]) (st' := [.int (1 : Int32), .ref 1000002, .ref 178]) rfl ?_
  refine jw.sld F jx_i439 hX hbB hE2 (pc' := 1101) rfl rfl (show vp_in (nI 1) 6 from vp_in_nI (by decide) (by decide)) q1 rfl ?_
  refine jw.ca hTb F jx_i439 (pc' := 1104) (S' := [.long (0 : Int64)]) rfl jv_i411 [.ref 178, .int p1] rfl rfl rfl rfl (jx_cal2 rfl (jv_H_at rfl) rfl rfl) rfl (jx_e233 p0 p1 p2 p3 p4 p5 g1 g2) (by omega) (by omega) rfl rfl ?_
  refine jw.steps F jx_i439 2 (pc' := 1107) (l' := [(6, .long (0 : Int64)), (5, .int (1 : Int32)), (0, .ref 1000002), (1, .ref 0), (2, .ref 178), (3, .ref 226), (4, .int (0 : Int32))]) (st' := [.ref 178]) rfl ?_
  refine jw.ca hTb F jx_i439 (pc' := 1110) (S' := [.int (1 : Int32)]) rfl jv_i350 [.ref 178] rfl rfl rfl rfl (jx_cal2 rfl (jv_H_at rfl) rfl rfl) rfl (jx_e234 p0 p1 p2 p3 p4 p5 g1 g2) (by omega) (by omega) rfl rfl ?_
  refine jw.steps F jx_i439 1 (pc' := 1112) (l' := [(6, .long (0 : Int64)), (5, .int (1 : Int32)), (0, .ref 1000002), (1, .ref 0), (2, .ref 178), (3, .ref 226), (4, .int (0 : Int32))]) (st' := [.int (1 : Int32), .int (1 : Int32)]) rfl ?_
  refine jw.br F jx_i439 (pc' := 1117) (st' := []) rfl (jv_bc_eq.trans (jx_got (by decide))) ?_
  refine jw.steps F jx_i439 1 (pc' := 1119) (l' := [(6, .long (0 : Int64)), (5, .int (1 : Int32)), (0, .ref 1000002), (1, .ref 0), (2, .ref 178), (3, .ref 226), (4, .int (0 : Int32))]) (st' := [.int (1 : Int32)]) rfl ?_
  refine jw.br F jx_i439 (pc' := 1133) (st' := []) rfl (jv_bi_ne.trans (jx_got (by decide))) ?_
  refine jw.steps F jx_i439 5 (pc' := 26) (l' := [(4, .int (6 : Int32)), (6, .long (0 : Int64)), (5, .int (1 : Int32)), (0, .ref 1000002), (1, .ref 0), (2, .ref 178), (3, .ref 226)]) (st' := [.ref 1000002, .int (6 : Int32)]) rfl ?_
  refine jw.slen F jx_i439 hX hbB hE2 (pc' := 27) rfl rfl rfl ?_
  refine jw.steps F jx_i439 2 (pc' := 30) (l' := [(4, .int (6 : Int32)), (6, .long (0 : Int64)), (5, .int (1 : Int32)), (0, .ref 1000002), (1, .ref 0), (2, .ref 178), (3, .ref 226)]) (st' := [.int (0 : Int32), .int (6 : Int32)]) rfl ?_
  refine jw.br F jx_i439 (pc' := 1531) (st' := []) rfl (jv_bc_gt.trans (jx_got (by decide))) ?_
  refine jw.steps F jx_i439 1 (pc' := 1532) (l' := [(4, .int (6 : Int32)), (6, .long (0 : Int64)), (5, .int (1 : Int32)), (0, .ref 1000002), (1, .ref 0), (2, .ref 178), (3, .ref 226)]) (st' := [.int (1 : Int32)]) rfl ?_
  exact hQ _ _ _ _ (by omega) (by omega)

set_option maxRecDepth 100000 in
/-- ProgramBox.testPart -/
theorem jx_e235 (p0 : Int32) (p1 : Int32) (p2 : Int32) (p3 : Int32) (p4 : Int32) (p5 : Int32) (g1 : ¬ p1 < (0 : Int32)) (g2 : ¬ (65528 : Int32) < p1) : jv_Ms 430 [.int p1, .int (8 : Int32), .int (65536 : Int32)] (jv_H (jx_K 227) jx_If jx_L0 (jx_R 227)) 227 1572950 (none, (jv_H (jx_K 227) jx_If jx_L0 (jx_R 227)), 227, 1572950) := by
  show jv_Ev 430 0 [(0, .int p1), (1, .int (8 : Int32)), (2, .int (65536 : Int32))] [] (jv_H (jx_K 227) jx_If jx_L0 (jx_R 227)) 227 1572950 _
  refine jv_Ev.steps jv_i430 1 (pc' := 1) (l' := [(0, .int p1), (1, .int (8 : Int32)), (2, .int (65536 : Int32))]) (st' := [.int p1]) rfl ?_
  refine jv_Ev.br jv_i430 (pc' := 4) (st' := []) rfl (jv_bi_lt.trans (jx_gof g1)) ?_
  refine jv_Ev.steps jv_i430 4 (pc' := 8) (l' := [(0, .int p1), (1, .int (8 : Int32)), (2, .int (65536 : Int32))]) (st' := [.int (65528 : Int32), .int p1]) rfl ?_
  refine jv_Ev.br jv_i430 (pc' := 21) (st' := []) rfl (jv_bc_le.trans (jx_got (Int32.not_lt.mp g2))) ?_
  exact jv_Ev.ret jv_i430 rfl rfl

set_option maxRecDepth 100000 in
/-- ProgramBox$Store.read -/
theorem jx_e236 (p0 : Int32) (p1 : Int32) (p2 : Int32) (p3 : Int32) (p4 : Int32) (p5 : Int32) (g1 : ¬ p1 < (0 : Int32)) (g2 : ¬ (65528 : Int32) < p1) : jv_Ms 121 [.ref 6, .int p1, .int (8 : Int32)] (jv_H (jx_K 227) jx_If jx_L0 (jx_R 227)) 227 1572950 (some (.long (0 : Int64)), (jv_H (jx_K 227) jx_If jx_L0 (jx_R 227)), 227, 1572950) := by
  show jv_Ev 121 0 [(0, .ref 6), (1, .int p1), (2, .int (8 : Int32))] [] (jv_H (jx_K 227) jx_If jx_L0 (jx_R 227)) 227 1572950 _
  refine jv_Ev.steps jv_i121 7 (pc' := 9) (l' := [(5, .int (7 : Int32)), (3, .long (0 : Int64)), (0, .ref 6), (1, .int p1), (2, .int (8 : Int32))]) (st' := [.int (7 : Int32)]) rfl ?_
  refine jv_Ev.br jv_i121 (pc' := 12) (st' := []) rfl (jv_bi_lt.trans (jx_gof (by decide))) ?_
  refine jv_Ev.steps jv_i121 7 (pc' := 21) (l' := [(5, .int (7 : Int32)), (3, .long (0 : Int64)), (0, .ref 6), (1, .int p1), (2, .int (8 : Int32))]) (st' := [.int (p1 + (7 : Int32)), .ref 6, .long (0 : Int64)]) rfl ?_
  refine jv_Ev.m jv_i121 (pc' := 22) (st' := [.int (0 : Int32), .long (0 : Int64)]) rfl rfl (jv_m_baldv rfl rfl (jx_ixa (k := 7) g1 g2 (by decide)) rfl rfl) ?_
  refine jv_Ev.steps jv_i121 8 (pc' := 9) (l' := [(5, .int (6 : Int32)), (3, .long (0 : Int64)), (0, .ref 6), (1, .int p1), (2, .int (8 : Int32))]) (st' := [.int (6 : Int32)]) rfl ?_
  refine jv_Ev.br jv_i121 (pc' := 12) (st' := []) rfl (jv_bi_lt.trans (jx_gof (by decide))) ?_
  refine jv_Ev.steps jv_i121 7 (pc' := 21) (l' := [(5, .int (6 : Int32)), (3, .long (0 : Int64)), (0, .ref 6), (1, .int p1), (2, .int (8 : Int32))]) (st' := [.int (p1 + (6 : Int32)), .ref 6, .long (0 : Int64)]) rfl ?_
  refine jv_Ev.m jv_i121 (pc' := 22) (st' := [.int (0 : Int32), .long (0 : Int64)]) rfl rfl (jv_m_baldv rfl rfl (jx_ixa (k := 6) g1 g2 (by decide)) rfl rfl) ?_
  refine jv_Ev.steps jv_i121 8 (pc' := 9) (l' := [(5, .int (5 : Int32)), (3, .long (0 : Int64)), (0, .ref 6), (1, .int p1), (2, .int (8 : Int32))]) (st' := [.int (5 : Int32)]) rfl ?_
  refine jv_Ev.br jv_i121 (pc' := 12) (st' := []) rfl (jv_bi_lt.trans (jx_gof (by decide))) ?_
  refine jv_Ev.steps jv_i121 7 (pc' := 21) (l' := [(5, .int (5 : Int32)), (3, .long (0 : Int64)), (0, .ref 6), (1, .int p1), (2, .int (8 : Int32))]) (st' := [.int (p1 + (5 : Int32)), .ref 6, .long (0 : Int64)]) rfl ?_
  refine jv_Ev.m jv_i121 (pc' := 22) (st' := [.int (0 : Int32), .long (0 : Int64)]) rfl rfl (jv_m_baldv rfl rfl (jx_ixa (k := 5) g1 g2 (by decide)) rfl rfl) ?_
  refine jv_Ev.steps jv_i121 8 (pc' := 9) (l' := [(5, .int (4 : Int32)), (3, .long (0 : Int64)), (0, .ref 6), (1, .int p1), (2, .int (8 : Int32))]) (st' := [.int (4 : Int32)]) rfl ?_
  refine jv_Ev.br jv_i121 (pc' := 12) (st' := []) rfl (jv_bi_lt.trans (jx_gof (by decide))) ?_
  refine jv_Ev.steps jv_i121 7 (pc' := 21) (l' := [(5, .int (4 : Int32)), (3, .long (0 : Int64)), (0, .ref 6), (1, .int p1), (2, .int (8 : Int32))]) (st' := [.int (p1 + (4 : Int32)), .ref 6, .long (0 : Int64)]) rfl ?_
  refine jv_Ev.m jv_i121 (pc' := 22) (st' := [.int (0 : Int32), .long (0 : Int64)]) rfl rfl (jv_m_baldv rfl rfl (jx_ixa (k := 4) g1 g2 (by decide)) rfl rfl) ?_
  refine jv_Ev.steps jv_i121 8 (pc' := 9) (l' := [(5, .int (3 : Int32)), (3, .long (0 : Int64)), (0, .ref 6), (1, .int p1), (2, .int (8 : Int32))]) (st' := [.int (3 : Int32)]) rfl ?_
  refine jv_Ev.br jv_i121 (pc' := 12) (st' := []) rfl (jv_bi_lt.trans (jx_gof (by decide))) ?_
  refine jv_Ev.steps jv_i121 7 (pc' := 21) (l' := [(5, .int (3 : Int32)), (3, .long (0 : Int64)), (0, .ref 6), (1, .int p1), (2, .int (8 : Int32))]) (st' := [.int (p1 + (3 : Int32)), .ref 6, .long (0 : Int64)]) rfl ?_
  refine jv_Ev.m jv_i121 (pc' := 22) (st' := [.int (0 : Int32), .long (0 : Int64)]) rfl rfl (jv_m_baldv rfl rfl (jx_ixa (k := 3) g1 g2 (by decide)) rfl rfl) ?_
  refine jv_Ev.steps jv_i121 8 (pc' := 9) (l' := [(5, .int (2 : Int32)), (3, .long (0 : Int64)), (0, .ref 6), (1, .int p1), (2, .int (8 : Int32))]) (st' := [.int (2 : Int32)]) rfl ?_
  refine jv_Ev.br jv_i121 (pc' := 12) (st' := []) rfl (jv_bi_lt.trans (jx_gof (by decide))) ?_
  refine jv_Ev.steps jv_i121 7 (pc' := 21) (l' := [(5, .int (2 : Int32)), (3, .long (0 : Int64)), (0, .ref 6), (1, .int p1), (2, .int (8 : Int32))]) (st' := [.int (p1 + (2 : Int32)), .ref 6, .long (0 : Int64)]) rfl ?_
  refine jv_Ev.m jv_i121 (pc' := 22) (st' := [.int (0 : Int32), .long (0 : Int64)]) rfl rfl (jv_m_baldv rfl rfl (jx_ixa (k := 2) g1 g2 (by decide)) rfl rfl) ?_
  refine jv_Ev.steps jv_i121 8 (pc' := 9) (l' := [(5, .int (1 : Int32)), (3, .long (0 : Int64)), (0, .ref 6), (1, .int p1), (2, .int (8 : Int32))]) (st' := [.int (1 : Int32)]) rfl ?_
  refine jv_Ev.br jv_i121 (pc' := 12) (st' := []) rfl (jv_bi_lt.trans (jx_gof (by decide))) ?_
  refine jv_Ev.steps jv_i121 7 (pc' := 21) (l' := [(5, .int (1 : Int32)), (3, .long (0 : Int64)), (0, .ref 6), (1, .int p1), (2, .int (8 : Int32))]) (st' := [.int (p1 + (1 : Int32)), .ref 6, .long (0 : Int64)]) rfl ?_
  refine jv_Ev.m jv_i121 (pc' := 22) (st' := [.int (0 : Int32), .long (0 : Int64)]) rfl rfl (jv_m_baldv rfl rfl (jx_ixa (k := 1) g1 g2 (by decide)) rfl rfl) ?_
  refine jv_Ev.steps jv_i121 8 (pc' := 9) (l' := [(5, .int (0 : Int32)), (3, .long (0 : Int64)), (0, .ref 6), (1, .int p1), (2, .int (8 : Int32))]) (st' := [.int (0 : Int32)]) rfl ?_
  refine jv_Ev.br jv_i121 (pc' := 12) (st' := []) rfl (jv_bi_lt.trans (jx_gof (by decide))) ?_
  refine jv_Ev.steps jv_i121 7 (pc' := 21) (l' := [(5, .int (0 : Int32)), (3, .long (0 : Int64)), (0, .ref 6), (1, .int p1), (2, .int (8 : Int32))]) (st' := [.int (p1 + (0 : Int32)), .ref 6, .long (0 : Int64)]) rfl ?_
  refine jv_Ev.m jv_i121 (pc' := 22) (st' := [.int (0 : Int32), .long (0 : Int64)]) rfl rfl (jv_m_baldv rfl rfl (jx_ixa (k := 0) g1 g2 (by decide)) rfl rfl) ?_
  refine jv_Ev.steps jv_i121 8 (pc' := 9) (l' := [(5, .int (-1 : Int32)), (3, .long (0 : Int64)), (0, .ref 6), (1, .int p1), (2, .int (8 : Int32))]) (st' := [.int (-1 : Int32)]) rfl ?_
  refine jv_Ev.br jv_i121 (pc' := 35) (st' := []) rfl (jv_bi_lt.trans (jx_got (by decide))) ?_
  refine jv_Ev.steps jv_i121 1 (pc' := 36) (l' := [(5, .int (-1 : Int32)), (3, .long (0 : Int64)), (0, .ref 6), (1, .int p1), (2, .int (8 : Int32))]) (st' := [.long (0 : Int64)]) rfl ?_
  exact jv_Ev.ret jv_i121 rfl rfl

set_option maxRecDepth 100000 in
/-- ProgramBox.area -/
theorem jx_e237 (p0 : Int32) (p1 : Int32) (p2 : Int32) (p3 : Int32) (p4 : Int32) (p5 : Int32) (g1 : ¬ p1 < (0 : Int32)) (g2 : ¬ (65528 : Int32) < p1) : jv_Ms 433 [.ref 0, .int p1] (jv_H (jx_K 227) jx_If jx_L0 (jx_R 227)) 227 1572950 (some (.long (0 : Int64)), (jv_H (jx_K 227) jx_If jx_L0 (jx_R 227)), 227, 1572950) := by
  show jv_Ev 433 0 [(0, .ref 0), (1, .int p1)] [] (jv_H (jx_K 227) jx_If jx_L0 (jx_R 227)) 227 1572950 _
  refine jv_Ev.steps jv_i433 3 (pc' := 5) (l' := [(0, .ref 0), (1, .int p1)]) (st' := [.int (65536 : Int32), .int (8 : Int32), .int p1]) rfl ?_
  refine jv_Ev.c jv_i433 (pc' := 8) (S' := []) jv_i430 [.int p1, .int (8 : Int32), .int (65536 : Int32)] rfl rfl rfl rfl rfl rfl (jx_e235 p0 p1 p2 p3 p4 p5 g1 g2) rfl rfl ?_
  refine jv_Ev.steps jv_i433 1 (pc' := 9) (l' := [(0, .ref 0), (1, .int p1)]) (st' := [.ref 0]) rfl ?_
  refine jv_Ev.m jv_i433 (pc' := 12) (st' := [.ref 2]) rfl rfl (jv_m_getR rfl rfl rfl rfl) ?_
  refine jv_Ev.m jv_i433 (pc' := 15) (st' := [.ref 6]) rfl rfl (jv_m_getR rfl rfl rfl rfl) ?_
  refine jv_Ev.steps jv_i433 2 (pc' := 18) (l' := [(0, .ref 0), (1, .int p1)]) (st' := [.int (8 : Int32), .int p1, .ref 6]) rfl ?_
  refine jv_Ev.c jv_i433 (pc' := 21) (S' := [.long (0 : Int64)]) jv_i121 [.ref 6, .int p1, .int (8 : Int32)] rfl rfl rfl rfl rfl rfl (jx_e236 p0 p1 p2 p3 p4 p5 g1 g2) rfl rfl ?_
  exact jv_Ev.ret jv_i433 rfl rfl

set_option maxRecDepth 100000 in
/-- the law's area -/
theorem jx_w238 (hTb : jv_TOk jv_Tb) (hT2 : jx_T2Ok) (p0 : Int32) (p1 : Int32) (p2 : Int32) (p3 : Int32) (p4 : Int32) (p5 : Int32) (g1 : ¬ p1 < (0 : Int32)) (g2 : ¬ (65528 : Int32) < p1) : jx_Wr 452 [(0, 8, 11, 36)] [.ref 0, .int p1, .ref 226] (jv_H (jx_K 227) jx_If jx_L0 (jx_R 227)) 227 1572950 (some (.int (0 : Int32)), (jv_H (jx_K 227) jx_If (jv_u jx_L0 226 (0 : Int32).toNatClampNeg (0 : Int64)) (jx_R 227)), 227, 1572950) := by
  refine jx_Wr.of hT2 (by decide) rfl (Nat.le_of_ble_eq_true rfl) ?_
  intro p l e R s m args below meth c E hl F hZ htb hRc hRs
  show jw p l e R s m args below meth c E 4 227 1572950 _ 0 [(0, .ref 0), (1, .int p1), (2, .ref 226)] [] (jv_H (jx_K 227) jx_If jx_L0 (jx_R 227)) 227 1572950
  have hRc : R.cells = 227 - 227 := hRc
  have hRs : R.slots = 1572950 - 1572950 := hRs
  refine jw.steps F jx_i452 4 (pc' := 4) (l' := [(0, .ref 0), (1, .int p1), (2, .ref 226)]) (st' := [.int p1, .ref 0, .int (0 : Int32), .ref 226]) rfl ?_
  refine jw.ca hTb F jx_i452 (pc' := 7) (S' := [.long (0 : Int64), .int (0 : Int32), .ref 226]) rfl jv_i433 [.ref 0, .int p1] rfl rfl rfl rfl (jx_cal2 rfl (jv_H_at rfl) rfl rfl) rfl (jx_e237 p0 p1 p2 p3 p4 p5 g1 g2) (by omega) (by omega) rfl rfl ?_
  refine jw.me F jx_i452 (pc' := 8) (st' := []) rfl rfl (jv_m_last rfl (by decide)) ?_
  refine jw.steps F jx_i452 2 (pc' := 15) (l' := [(0, .ref 0), (1, .int p1), (2, .ref 226)]) (st' := [.int (0 : Int32)]) rfl ?_
  exact jw.ret F jx_i452 rfl rfl

set_option maxRecDepth 100000 in
/-- ProgramBoxModel$Store.noArea -/
theorem jx_e239 (p0 : Int32) (p1 : Int32) (p2 : Int32) (p3 : Int32) (p4 : Int32) (p5 : Int32) (g1 : ¬ p1 < (0 : Int32)) (g2 : ¬ (65528 : Int32) < p1) : jv_Ms 331 [.ref 180, .int p1, .int (8 : Int32)] (jv_H (jx_K 227) jx_If (jv_u jx_L0 226 (0 : Int32).toNatClampNeg (0 : Int64)) (jx_R 227)) 227 1572950 (some (.int (0 : Int32)), (jv_H (jx_K 227) (jv_u jx_If 180 0 (0 : Int32)) (jv_u jx_L0 226 (0 : Int32).toNatClampNeg (0 : Int64)) (jx_R 227)), 227, 1572950) := by
  show jv_Ev 331 0 [(0, .ref 180), (1, .int p1), (2, .int (8 : Int32))] [] (jv_H (jx_K 227) jx_If (jv_u jx_L0 226 (0 : Int32).toNatClampNeg (0 : Int64)) (jx_R 227)) 227 1572950 _
  refine jv_Ev.steps jv_i331 2 (pc' := 2) (l' := [(0, .ref 180), (1, .int p1), (2, .int (8 : Int32))]) (st' := [.int (1 : Int32), .int (8 : Int32)]) rfl ?_
  refine jv_Ev.br jv_i331 (pc' := 5) (st' := []) rfl (jv_bc_eq.trans (jx_gof (by decide))) ?_
  refine jv_Ev.steps jv_i331 2 (pc' := 7) (l' := [(0, .ref 180), (1, .int p1), (2, .int (8 : Int32))]) (st' := [.int (2 : Int32), .int (8 : Int32)]) rfl ?_
  refine jv_Ev.br jv_i331 (pc' := 10) (st' := []) rfl (jv_bc_eq.trans (jx_gof (by decide))) ?_
  refine jv_Ev.steps jv_i331 2 (pc' := 12) (l' := [(0, .ref 180), (1, .int p1), (2, .int (8 : Int32))]) (st' := [.int (4 : Int32), .int (8 : Int32)]) rfl ?_
  refine jv_Ev.br jv_i331 (pc' := 15) (st' := []) rfl (jv_bc_eq.trans (jx_gof (by decide))) ?_
  refine jv_Ev.steps jv_i331 2 (pc' := 18) (l' := [(0, .ref 180), (1, .int p1), (2, .int (8 : Int32))]) (st' := [.int (8 : Int32), .int (8 : Int32)]) rfl ?_
  refine jv_Ev.br jv_i331 (pc' := 21) (st' := []) rfl (jv_bc_ne.trans (jx_gof (by decide))) ?_
  refine jv_Ev.steps jv_i331 5 (pc' := 29) (l' := [(3, .int (1 : Int32)), (0, .ref 180), (1, .int p1), (2, .int (8 : Int32))]) (st' := [.int (1 : Int32), .ref 180]) rfl ?_
  refine jv_Ev.br jv_i331 (pc' := 36) (st' := [.ref 180]) rfl (jv_bi_ne.trans (jx_got (by decide))) ?_
  refine jv_Ev.steps jv_i331 1 (pc' := 37) (l' := [(3, .int (1 : Int32)), (0, .ref 180), (1, .int p1), (2, .int (8 : Int32))]) (st' := [.int p1, .ref 180]) rfl ?_
  refine jv_Ev.br jv_i331 (pc' := 40) (st' := [.ref 180]) rfl (jv_bi_lt.trans (jx_gof g1)) ?_
  refine jv_Ev.steps jv_i331 4 (pc' := 45) (l' := [(3, .int (1 : Int32)), (0, .ref 180), (1, .int p1), (2, .int (8 : Int32))]) (st' := [.int (65528 : Int32), .int p1, .ref 180]) rfl ?_
  refine jv_Ev.br jv_i331 (pc' := 52) (st' := [.ref 180]) rfl (jv_bc_le.trans (jx_got (Int32.not_lt.mp g2))) ?_
  refine jv_Ev.steps jv_i331 1 (pc' := 53) (l' := [(3, .int (1 : Int32)), (0, .ref 180), (1, .int p1), (2, .int (8 : Int32))]) (st' := [.int (0 : Int32), .ref 180]) rfl ?_
  refine jv_Ev.m jv_i331 (pc' := 56) (st' := []) rfl rfl (jv_m_putI rfl rfl rfl rfl rfl) ?_
  refine jv_Ev.steps jv_i331 1 (pc' := 57) (l' := [(3, .int (1 : Int32)), (0, .ref 180), (1, .int p1), (2, .int (8 : Int32))]) (st' := [.ref 180]) rfl ?_
  refine jv_Ev.m jv_i331 (pc' := 60) (st' := [.int (0 : Int32)]) rfl rfl (jv_m_getI rfl rfl rfl rfl) ?_
  refine jv_Ev.br jv_i331 (pc' := 67) (st' := []) rfl (jv_bi_le.trans (jx_got (by decide))) ?_
  refine jv_Ev.steps jv_i331 1 (pc' := 68) (l' := [(3, .int (1 : Int32)), (0, .ref 180), (1, .int p1), (2, .int (8 : Int32))]) (st' := [.int (0 : Int32)]) rfl ?_
  exact jv_Ev.ret jv_i331 rfl (jv_ret_b (by decide))

set_option maxRecDepth 100000 in
/-- ProgramBoxModel$Store.number -/
theorem jx_e240 (p0 : Int32) (p1 : Int32) (p2 : Int32) (p3 : Int32) (p4 : Int32) (p5 : Int32) (g1 : ¬ p1 < (0 : Int32)) (g2 : ¬ (65528 : Int32) < p1) : jv_Ms 327 [.ref 182, .int p1, .int (8 : Int32)] (jv_H (jx_K 227) (jv_u jx_If 180 0 (0 : Int32)) (jv_u jx_L0 226 (0 : Int32).toNatClampNeg (0 : Int64)) (jx_R 227)) 227 1572950 (some (.long (0 : Int64)), (jv_H (jx_K 227) (jv_u jx_If 180 0 (0 : Int32)) (jv_u jx_L0 226 (0 : Int32).toNatClampNeg (0 : Int64)) (jx_R 227)), 227, 1572950) := by
  show jv_Ev 327 0 [(0, .ref 182), (1, .int p1), (2, .int (8 : Int32))] [] (jv_H (jx_K 227) (jv_u jx_If 180 0 (0 : Int32)) (jv_u jx_L0 226 (0 : Int32).toNatClampNeg (0 : Int64)) (jx_R 227)) 227 1572950 _
  refine jv_Ev.steps jv_i327 7 (pc' := 9) (l' := [(5, .int (7 : Int32)), (3, .long (0 : Int64)), (0, .ref 182), (1, .int p1), (2, .int (8 : Int32))]) (st' := [.int (7 : Int32)]) rfl ?_
  refine jv_Ev.br jv_i327 (pc' := 12) (st' := []) rfl (jv_bi_lt.trans (jx_gof (by decide))) ?_
  refine jv_Ev.steps jv_i327 7 (pc' := 22) (l' := [(5, .int (7 : Int32)), (3, .long (0 : Int64)), (0, .ref 182), (1, .int p1), (2, .int (8 : Int32))]) (st' := [.int (p1 + (7 : Int32)), .ref 182, .long (0 : Int64)]) rfl ?_
  refine jv_Ev.m jv_i327 (pc' := 23) (st' := [.int (0 : Int32), .long (0 : Int64)]) rfl rfl (jv_m_baldv rfl rfl (jx_ixa (k := 7) g1 g2 (by decide)) rfl rfl) ?_
  refine jv_Ev.steps jv_i327 8 (pc' := 9) (l' := [(5, .int (6 : Int32)), (3, .long (0 : Int64)), (0, .ref 182), (1, .int p1), (2, .int (8 : Int32))]) (st' := [.int (6 : Int32)]) rfl ?_
  refine jv_Ev.br jv_i327 (pc' := 12) (st' := []) rfl (jv_bi_lt.trans (jx_gof (by decide))) ?_
  refine jv_Ev.steps jv_i327 7 (pc' := 22) (l' := [(5, .int (6 : Int32)), (3, .long (0 : Int64)), (0, .ref 182), (1, .int p1), (2, .int (8 : Int32))]) (st' := [.int (p1 + (6 : Int32)), .ref 182, .long (0 : Int64)]) rfl ?_
  refine jv_Ev.m jv_i327 (pc' := 23) (st' := [.int (0 : Int32), .long (0 : Int64)]) rfl rfl (jv_m_baldv rfl rfl (jx_ixa (k := 6) g1 g2 (by decide)) rfl rfl) ?_
  refine jv_Ev.steps jv_i327 8 (pc' := 9) (l' := [(5, .int (5 : Int32)), (3, .long (0 : Int64)), (0, .ref 182), (1, .int p1), (2, .int (8 : Int32))]) (st' := [.int (5 : Int32)]) rfl ?_
  refine jv_Ev.br jv_i327 (pc' := 12) (st' := []) rfl (jv_bi_lt.trans (jx_gof (by decide))) ?_
  refine jv_Ev.steps jv_i327 7 (pc' := 22) (l' := [(5, .int (5 : Int32)), (3, .long (0 : Int64)), (0, .ref 182), (1, .int p1), (2, .int (8 : Int32))]) (st' := [.int (p1 + (5 : Int32)), .ref 182, .long (0 : Int64)]) rfl ?_
  refine jv_Ev.m jv_i327 (pc' := 23) (st' := [.int (0 : Int32), .long (0 : Int64)]) rfl rfl (jv_m_baldv rfl rfl (jx_ixa (k := 5) g1 g2 (by decide)) rfl rfl) ?_
  refine jv_Ev.steps jv_i327 8 (pc' := 9) (l' := [(5, .int (4 : Int32)), (3, .long (0 : Int64)), (0, .ref 182), (1, .int p1), (2, .int (8 : Int32))]) (st' := [.int (4 : Int32)]) rfl ?_
  refine jv_Ev.br jv_i327 (pc' := 12) (st' := []) rfl (jv_bi_lt.trans (jx_gof (by decide))) ?_
  refine jv_Ev.steps jv_i327 7 (pc' := 22) (l' := [(5, .int (4 : Int32)), (3, .long (0 : Int64)), (0, .ref 182), (1, .int p1), (2, .int (8 : Int32))]) (st' := [.int (p1 + (4 : Int32)), .ref 182, .long (0 : Int64)]) rfl ?_
  refine jv_Ev.m jv_i327 (pc' := 23) (st' := [.int (0 : Int32), .long (0 : Int64)]) rfl rfl (jv_m_baldv rfl rfl (jx_ixa (k := 4) g1 g2 (by decide)) rfl rfl) ?_
  refine jv_Ev.steps jv_i327 8 (pc' := 9) (l' := [(5, .int (3 : Int32)), (3, .long (0 : Int64)), (0, .ref 182), (1, .int p1), (2, .int (8 : Int32))]) (st' := [.int (3 : Int32)]) rfl ?_
  refine jv_Ev.br jv_i327 (pc' := 12) (st' := []) rfl (jv_bi_lt.trans (jx_gof (by decide))) ?_
  refine jv_Ev.steps jv_i327 7 (pc' := 22) (l' := [(5, .int (3 : Int32)), (3, .long (0 : Int64)), (0, .ref 182), (1, .int p1), (2, .int (8 : Int32))]) (st' := [.int (p1 + (3 : Int32)), .ref 182, .long (0 : Int64)]) rfl ?_
  refine jv_Ev.m jv_i327 (pc' := 23) (st' := [.int (0 : Int32), .long (0 : Int64)]) rfl rfl (jv_m_baldv rfl rfl (jx_ixa (k := 3) g1 g2 (by decide)) rfl rfl) ?_
  refine jv_Ev.steps jv_i327 8 (pc' := 9) (l' := [(5, .int (2 : Int32)), (3, .long (0 : Int64)), (0, .ref 182), (1, .int p1), (2, .int (8 : Int32))]) (st' := [.int (2 : Int32)]) rfl ?_
  refine jv_Ev.br jv_i327 (pc' := 12) (st' := []) rfl (jv_bi_lt.trans (jx_gof (by decide))) ?_
  refine jv_Ev.steps jv_i327 7 (pc' := 22) (l' := [(5, .int (2 : Int32)), (3, .long (0 : Int64)), (0, .ref 182), (1, .int p1), (2, .int (8 : Int32))]) (st' := [.int (p1 + (2 : Int32)), .ref 182, .long (0 : Int64)]) rfl ?_
  refine jv_Ev.m jv_i327 (pc' := 23) (st' := [.int (0 : Int32), .long (0 : Int64)]) rfl rfl (jv_m_baldv rfl rfl (jx_ixa (k := 2) g1 g2 (by decide)) rfl rfl) ?_
  refine jv_Ev.steps jv_i327 8 (pc' := 9) (l' := [(5, .int (1 : Int32)), (3, .long (0 : Int64)), (0, .ref 182), (1, .int p1), (2, .int (8 : Int32))]) (st' := [.int (1 : Int32)]) rfl ?_
  refine jv_Ev.br jv_i327 (pc' := 12) (st' := []) rfl (jv_bi_lt.trans (jx_gof (by decide))) ?_
  refine jv_Ev.steps jv_i327 7 (pc' := 22) (l' := [(5, .int (1 : Int32)), (3, .long (0 : Int64)), (0, .ref 182), (1, .int p1), (2, .int (8 : Int32))]) (st' := [.int (p1 + (1 : Int32)), .ref 182, .long (0 : Int64)]) rfl ?_
  refine jv_Ev.m jv_i327 (pc' := 23) (st' := [.int (0 : Int32), .long (0 : Int64)]) rfl rfl (jv_m_baldv rfl rfl (jx_ixa (k := 1) g1 g2 (by decide)) rfl rfl) ?_
  refine jv_Ev.steps jv_i327 8 (pc' := 9) (l' := [(5, .int (0 : Int32)), (3, .long (0 : Int64)), (0, .ref 182), (1, .int p1), (2, .int (8 : Int32))]) (st' := [.int (0 : Int32)]) rfl ?_
  refine jv_Ev.br jv_i327 (pc' := 12) (st' := []) rfl (jv_bi_lt.trans (jx_gof (by decide))) ?_
  refine jv_Ev.steps jv_i327 7 (pc' := 22) (l' := [(5, .int (0 : Int32)), (3, .long (0 : Int64)), (0, .ref 182), (1, .int p1), (2, .int (8 : Int32))]) (st' := [.int (p1 + (0 : Int32)), .ref 182, .long (0 : Int64)]) rfl ?_
  refine jv_Ev.m jv_i327 (pc' := 23) (st' := [.int (0 : Int32), .long (0 : Int64)]) rfl rfl (jv_m_baldv rfl rfl (jx_ixa (k := 0) g1 g2 (by decide)) rfl rfl) ?_
  refine jv_Ev.steps jv_i327 8 (pc' := 9) (l' := [(5, .int (-1 : Int32)), (3, .long (0 : Int64)), (0, .ref 182), (1, .int p1), (2, .int (8 : Int32))]) (st' := [.int (-1 : Int32)]) rfl ?_
  refine jv_Ev.br jv_i327 (pc' := 36) (st' := []) rfl (jv_bi_lt.trans (jx_got (by decide))) ?_
  refine jv_Ev.steps jv_i327 1 (pc' := 37) (l' := [(5, .int (-1 : Int32)), (3, .long (0 : Int64)), (0, .ref 182), (1, .int p1), (2, .int (8 : Int32))]) (st' := [.long (0 : Int64)]) rfl ?_
  exact jv_Ev.ret jv_i327 rfl rfl

set_option maxRecDepth 100000 in
/-- ProgramBoxModel$Store.load -/
theorem jx_e241 (p0 : Int32) (p1 : Int32) (p2 : Int32) (p3 : Int32) (p4 : Int32) (p5 : Int32) (g1 : ¬ p1 < (0 : Int32)) (g2 : ¬ (65528 : Int32) < p1) : jv_Ms 332 [.ref 180, .int p1, .int (8 : Int32)] (jv_H (jx_K 227) jx_If (jv_u jx_L0 226 (0 : Int32).toNatClampNeg (0 : Int64)) (jx_R 227)) 227 1572950 (some (.long (0 : Int64)), (jv_H (jx_K 227) (jv_u jx_If 180 0 (0 : Int32)) (jv_u jx_L0 226 (0 : Int32).toNatClampNeg (0 : Int64)) (jx_R 227)), 227, 1572950) := by
  show jv_Ev 332 0 [(0, .ref 180), (1, .int p1), (2, .int (8 : Int32))] [] (jv_H (jx_K 227) jx_If (jv_u jx_L0 226 (0 : Int32).toNatClampNeg (0 : Int64)) (jx_R 227)) 227 1572950 _
  refine jv_Ev.steps jv_i332 3 (pc' := 3) (l' := [(0, .ref 180), (1, .int p1), (2, .int (8 : Int32))]) (st' := [.int (8 : Int32), .int p1, .ref 180]) rfl ?_
  refine jv_Ev.c jv_i332 (pc' := 6) (S' := [.int (0 : Int32)]) jv_i331 [.ref 180, .int p1, .int (8 : Int32)] rfl rfl rfl rfl (jv_cal rfl (jv_H_at rfl) rfl rfl) rfl (jx_e239 p0 p1 p2 p3 p4 p5 g1 g2) rfl rfl ?_
  refine jv_Ev.br jv_i332 (pc' := 13) (st' := []) rfl (jv_bi_eq.trans (jx_got (by decide))) ?_
  refine jv_Ev.steps jv_i332 1 (pc' := 14) (l' := [(0, .ref 180), (1, .int p1), (2, .int (8 : Int32))]) (st' := [.ref 180]) rfl ?_
  refine jv_Ev.m jv_i332 (pc' := 17) (st' := [.ref 182]) rfl rfl (jv_m_getR rfl rfl rfl rfl) ?_
  refine jv_Ev.steps jv_i332 2 (pc' := 19) (l' := [(0, .ref 180), (1, .int p1), (2, .int (8 : Int32))]) (st' := [.int (8 : Int32), .int p1, .ref 182]) rfl ?_
  refine jv_Ev.c jv_i332 (pc' := 22) (S' := [.long (0 : Int64)]) jv_i327 [.ref 182, .int p1, .int (8 : Int32)] rfl rfl rfl rfl rfl rfl (jx_e240 p0 p1 p2 p3 p4 p5 g1 g2) rfl rfl ?_
  exact jv_Ev.ret jv_i332 rfl rfl

set_option maxRecDepth 100000 in
/-- ProgramBoxModel$Store.thrown -/
theorem jx_e242 (p0 : Int32) (p1 : Int32) (p2 : Int32) (p3 : Int32) (p4 : Int32) (p5 : Int32) (g1 : ¬ p1 < (0 : Int32)) (g2 : ¬ (65528 : Int32) < p1) : jv_Ms 318 [.ref 180] (jv_H (jx_K 227) (jv_u jx_If 180 0 (0 : Int32)) (jv_u jx_L0 226 (0 : Int32).toNatClampNeg (0 : Int64)) (jx_R 227)) 227 1572950 (some (.int (0 : Int32)), (jv_H (jx_K 227) (jv_u jx_If 180 0 (0 : Int32)) (jv_u jx_L0 226 (0 : Int32).toNatClampNeg (0 : Int64)) (jx_R 227)), 227, 1572950) := by
  show jv_Ev 318 0 [(0, .ref 180)] [] (jv_H (jx_K 227) (jv_u jx_If 180 0 (0 : Int32)) (jv_u jx_L0 226 (0 : Int32).toNatClampNeg (0 : Int64)) (jx_R 227)) 227 1572950 _
  refine jv_Ev.steps jv_i318 1 (pc' := 1) (l' := [(0, .ref 180)]) (st' := [.ref 180]) rfl ?_
  refine jv_Ev.m jv_i318 (pc' := 4) (st' := [.int (0 : Int32)]) rfl rfl (jv_m_getI rfl rfl rfl rfl) ?_
  exact jv_Ev.ret jv_i318 rfl rfl

set_option maxRecDepth 100000 in
/-- ProgramBoxModel.area -/
theorem jx_e243 (p0 : Int32) (p1 : Int32) (p2 : Int32) (p3 : Int32) (p4 : Int32) (p5 : Int32) (g1 : ¬ p1 < (0 : Int32)) (g2 : ¬ (65528 : Int32) < p1) : jv_Ms 411 [.ref 178, .int p1] (jv_H (jx_K 227) jx_If (jv_u jx_L0 226 (0 : Int32).toNatClampNeg (0 : Int64)) (jx_R 227)) 227 1572950 (some (.long (0 : Int64)), (jv_H (jx_K 227) (jv_u (jv_u jx_If 180 0 (0 : Int32)) 178 0 (0 : Int32)) (jv_u jx_L0 226 (0 : Int32).toNatClampNeg (0 : Int64)) (jx_R 227)), 227, 1572950) := by
  show jv_Ev 411 0 [(0, .ref 178), (1, .int p1)] [] (jv_H (jx_K 227) jx_If (jv_u jx_L0 226 (0 : Int32).toNatClampNeg (0 : Int64)) (jx_R 227)) 227 1572950 _
  refine jv_Ev.steps jv_i411 1 (pc' := 1) (l' := [(0, .ref 178), (1, .int p1)]) (st' := [.ref 178]) rfl ?_
  refine jv_Ev.m jv_i411 (pc' := 4) (st' := [.ref 180]) rfl rfl (jv_m_getR rfl rfl rfl rfl) ?_
  refine jv_Ev.steps jv_i411 2 (pc' := 7) (l' := [(0, .ref 178), (1, .int p1)]) (st' := [.int (8 : Int32), .int p1, .ref 180]) rfl ?_
  refine jv_Ev.c jv_i411 (pc' := 10) (S' := [.long (0 : Int64)]) jv_i332 [.ref 180, .int p1, .int (8 : Int32)] rfl rfl rfl rfl (jv_cal rfl (jv_H_at rfl) rfl rfl) rfl (jx_e241 p0 p1 p2 p3 p4 p5 g1 g2) rfl rfl ?_
  refine jv_Ev.steps jv_i411 3 (pc' := 13) (l' := [(2, .long (0 : Int64)), (0, .ref 178), (1, .int p1)]) (st' := [.ref 178, .ref 178]) rfl ?_
  refine jv_Ev.m jv_i411 (pc' := 16) (st' := [.ref 180, .ref 178]) rfl rfl (jv_m_getR rfl rfl rfl rfl) ?_
  refine jv_Ev.c jv_i411 (pc' := 19) (S' := [.int (0 : Int32), .ref 178]) jv_i318 [.ref 180] rfl rfl rfl rfl (jv_cal rfl (jv_H_at rfl) rfl rfl) rfl (jx_e242 p0 p1 p2 p3 p4 p5 g1 g2) rfl rfl ?_
  refine jv_Ev.m jv_i411 (pc' := 22) (st' := []) rfl rfl (jv_m_putI rfl rfl rfl rfl rfl) ?_
  refine jv_Ev.steps jv_i411 1 (pc' := 23) (l' := [(2, .long (0 : Int64)), (0, .ref 178), (1, .int p1)]) (st' := [.long (0 : Int64)]) rfl ?_
  exact jv_Ev.ret jv_i411 rfl rfl

set_option maxRecDepth 100000 in
/-- ProgramBoxModel.thrown -/
theorem jx_e244 (p0 : Int32) (p1 : Int32) (p2 : Int32) (p3 : Int32) (p4 : Int32) (p5 : Int32) (g1 : ¬ p1 < (0 : Int32)) (g2 : ¬ (65528 : Int32) < p1) : jv_Ms 350 [.ref 178] (jv_H (jx_K 227) (jv_u (jv_u jx_If 180 0 (0 : Int32)) 178 0 (0 : Int32)) (jv_u jx_L0 226 (0 : Int32).toNatClampNeg (0 : Int64)) (jx_R 227)) 227 1572950 (some (.int (0 : Int32)), (jv_H (jx_K 227) (jv_u (jv_u jx_If 180 0 (0 : Int32)) 178 0 (0 : Int32)) (jv_u jx_L0 226 (0 : Int32).toNatClampNeg (0 : Int64)) (jx_R 227)), 227, 1572950) := by
  show jv_Ev 350 0 [(0, .ref 178)] [] (jv_H (jx_K 227) (jv_u (jv_u jx_If 180 0 (0 : Int32)) 178 0 (0 : Int32)) (jv_u jx_L0 226 (0 : Int32).toNatClampNeg (0 : Int64)) (jx_R 227)) 227 1572950 _
  refine jv_Ev.steps jv_i350 1 (pc' := 1) (l' := [(0, .ref 178)]) (st' := [.ref 178]) rfl ?_
  refine jv_Ev.m jv_i350 (pc' := 4) (st' := [.int (0 : Int32)]) rfl rfl (jv_m_getI rfl rfl rfl rfl) ?_
  exact jv_Ev.ret jv_i350 rfl rfl

set_option maxRecDepth 100000 in
/-- the law: case 20, one way -/
theorem jx_l40 (p0 : Int32) (p1 : Int32) (p2 : Int32) (p3 : Int32) (p4 : Int32) (p5 : Int32) (g1 : ¬ p1 < (0 : Int32)) (g2 : ¬ (65528 : Int32) < p1) (hsw : p0 &&& (31 : Int32) = (20 : Int32)) {p : Program} {l : Launch} {e : Env} {R : Room} {s : State} {m : MethodId} {args : Array Value} {below : List Frame} {meth : Method} {c : Code} {E : jv_Env} {Q : State → Prop} (hTb : jv_TOk jv_Tb) (hT2 : jx_T2Ok) (hl : l.stackTraces = false) (F : jx_F jv_T2 439 E p R s m args meth c) (hZ : jx_Z E s) (hRc : R.cells = 600002) (hRs : R.slots = 7302232) {bb : Nat} {xs : Nat → Int32} (hX : va_X bb 6 xs s E.2.2.2.2) (hbB : bb < E.2.2.2.1) (hE2 : E.1 1000002 = bb) (hQ : ∀ (l0 : jv_L) (G : jv_G) (n sl : Nat), n ≤ 600002 → sl ≤ 7302232 → jw p l e R s m args below meth c E 8 0 0 Q 1532 l0 [.int (1 : Int32)] G n sl) (q0 : xs 0 = p0) (q1 : xs 1 = p1) (q2 : xs 2 = p2) (q3 : xs 3 = p3) (q4 : xs 4 = p4) (q5 : xs 5 = p5) : jw p l e R s m args below meth c E 8 0 0 Q 33 [(0, .ref 1000002), (1, .ref 0), (2, .ref 178), (3, .ref 226), (4, .int (0 : Int32))] [] (jv_H (jx_K 227) jx_If jx_L0 (jx_R 227)) 227 1572950 := by
  refine jw.steps F jx_i439 2 (pc' := 36) (l' := [(0, .ref 1000002), (1, .ref 0), (2, .ref 178), (3, .ref 226), (4, .int (0 : Int32))]) (st' := [.int (0 : Int32), .ref 1000002]) rfl ?_
  refine jw.sld F jx_i439 hX hbB hE2 (pc' := 37) rfl rfl (show vp_in (nI 0) 6 from vp_in_nI (by decide) (by decide)) q0 rfl ?_
  refine jw.steps F jx_i439 2 (pc' := 40) (l' := [(0, .ref 1000002), (1, .ref 0), (2, .ref 178), (3, .ref 226), (4, .int (0 : Int32))]) (st' := [.int (p0 &&& (31 : Int32))]) rfl ?_
  refine jw.br F jx_i439 (pc' := 1081) (st' := []) rfl (by rw [hsw]; rfl) ?_
  refine jw.steps F jx_i439 5 (pc' := 1087) (l' := [(0, .ref 1000002), (1, .ref 0), (2, .ref 178), (3, .ref 226), (4, .int (0 : Int32))]) (st' := [.int (1 : Int32), .ref 1000002, .ref 0]) rfl ?_
  refine jw.sld F jx_i439 hX hbB hE2 (pc' := 1088) rfl rfl (show vp_in (nI 1) 6 from vp_in_nI (by decide) (by decide)) q1 rfl ?_
  refine jw.steps F jx_i439 1 (pc' := 1089) (l' := [(0, .ref 1000002), (1, .ref 0), (2, .ref 178), (3, .ref 226), (4, .int (0 : Int32))]) (st' := [.ref 226, .int p1, .ref 0]) rfl ?_
  refine jw.wr F hl hZ rfl jx_i439 jx_i452 [.ref 0, .int p1, .ref 226] (pc' := 1092) (S' := [.int (0 : Int32)]) rfl (List.mem_of_getElem? (i := 12) rfl) (List.mem_of_getElem? (i := 12) rfl) rfl rfl rfl (jx_w238 hTb hT2 p0 p1 p2 p3 p4 p5 g1 g2) (by omega) (by omega) (by omega) (by omega) rfl rfl ?_
  refine jw.steps F jx_i439 6 (pc' := 1100) (l' := [(5, .int (0 : Int32)), (0, .ref 1000002), (1, .ref 0), (2, .ref 178), (3, .ref 226), (4, .int (0 : Int32))]) (st' := [.int (1 : Int32), .ref 1000002, .ref 178]) rfl ?_
  refine jw.sld F jx_i439 hX hbB hE2 (pc' := 1101) rfl rfl (show vp_in (nI 1) 6 from vp_in_nI (by decide) (by decide)) q1 rfl ?_
  refine jw.ca hTb F jx_i439 (pc' := 1104) (S' := [.long (0 : Int64)]) rfl jv_i411 [.ref 178, .int p1] rfl rfl rfl rfl (jx_cal2 rfl (jv_H_at rfl) rfl rfl) rfl (jx_e243 p0 p1 p2 p3 p4 p5 g1 g2) (by omega) (by omega) rfl rfl ?_
  refine jw.steps F jx_i439 2 (pc' := 1107) (l' := [(6, .long (0 : Int64)), (5, .int (0 : Int32)), (0, .ref 1000002), (1, .ref 0), (2, .ref 178), (3, .ref 226), (4, .int (0 : Int32))]) (st' := [.ref 178]) rfl ?_
  refine jw.ca hTb F jx_i439 (pc' := 1110) (S' := [.int (0 : Int32)]) rfl jv_i350 [.ref 178] rfl rfl rfl rfl (jx_cal2 rfl (jv_H_at rfl) rfl rfl) rfl (jx_e244 p0 p1 p2 p3 p4 p5 g1 g2) (by omega) (by omega) rfl rfl ?_
  refine jw.steps F jx_i439 1 (pc' := 1112) (l' := [(6, .long (0 : Int64)), (5, .int (0 : Int32)), (0, .ref 1000002), (1, .ref 0), (2, .ref 178), (3, .ref 226), (4, .int (0 : Int32))]) (st' := [.int (0 : Int32), .int (0 : Int32)]) rfl ?_
  refine jw.br F jx_i439 (pc' := 1117) (st' := []) rfl (jv_bc_eq.trans (jx_got (by decide))) ?_
  refine jw.steps F jx_i439 1 (pc' := 1119) (l' := [(6, .long (0 : Int64)), (5, .int (0 : Int32)), (0, .ref 1000002), (1, .ref 0), (2, .ref 178), (3, .ref 226), (4, .int (0 : Int32))]) (st' := [.int (0 : Int32)]) rfl ?_
  refine jw.br F jx_i439 (pc' := 1122) (st' := []) rfl (jv_bi_ne.trans (jx_gof (by decide))) ?_
  refine jw.steps F jx_i439 2 (pc' := 1124) (l' := [(6, .long (0 : Int64)), (5, .int (0 : Int32)), (0, .ref 1000002), (1, .ref 0), (2, .ref 178), (3, .ref 226), (4, .int (0 : Int32))]) (st' := [.int (0 : Int32), .ref 226]) rfl ?_
  refine jw.me F jx_i439 (pc' := 1125) (st' := [.long (0 : Int64)]) rfl rfl (jv_m_laldv rfl rfl (by decide) rfl rfl) ?_
  refine jw.steps F jx_i439 2 (pc' := 1128) (l' := [(6, .long (0 : Int64)), (5, .int (0 : Int32)), (0, .ref 1000002), (1, .ref 0), (2, .ref 178), (3, .ref 226), (4, .int (0 : Int32))]) (st' := [.int (0 : Int32)]) rfl ?_
  refine jw.br F jx_i439 (pc' := 1133) (st' := []) rfl (jv_bi_eq.trans (jx_got (by decide))) ?_
  refine jw.steps F jx_i439 5 (pc' := 26) (l' := [(4, .int (6 : Int32)), (6, .long (0 : Int64)), (5, .int (0 : Int32)), (0, .ref 1000002), (1, .ref 0), (2, .ref 178), (3, .ref 226)]) (st' := [.ref 1000002, .int (6 : Int32)]) rfl ?_
  refine jw.slen F jx_i439 hX hbB hE2 (pc' := 27) rfl rfl rfl ?_
  refine jw.steps F jx_i439 2 (pc' := 30) (l' := [(4, .int (6 : Int32)), (6, .long (0 : Int64)), (5, .int (0 : Int32)), (0, .ref 1000002), (1, .ref 0), (2, .ref 178), (3, .ref 226)]) (st' := [.int (0 : Int32), .int (6 : Int32)]) rfl ?_
  refine jw.br F jx_i439 (pc' := 1531) (st' := []) rfl (jv_bc_gt.trans (jx_got (by decide))) ?_
  refine jw.steps F jx_i439 1 (pc' := 1532) (l' := [(4, .int (6 : Int32)), (6, .long (0 : Int64)), (5, .int (0 : Int32)), (0, .ref 1000002), (1, .ref 0), (2, .ref 178), (3, .ref 226)]) (st' := [.int (1 : Int32)]) rfl ?_
  exact hQ _ _ _ _ (by omega) (by omega)

set_option maxRecDepth 100000 in
/-- the law: case 20 -/
theorem jx_case20 (p0 : Int32) (p1 : Int32) (p2 : Int32) (p3 : Int32) (p4 : Int32) (p5 : Int32) (hsw : p0 &&& (31 : Int32) = (20 : Int32)) {p : Program} {l : Launch} {e : Env} {R : Room} {s : State} {m : MethodId} {args : Array Value} {below : List Frame} {meth : Method} {c : Code} {E : jv_Env} {Q : State → Prop} (hTb : jv_TOk jv_Tb) (hT2 : jx_T2Ok) (hl : l.stackTraces = false) (F : jx_F jv_T2 439 E p R s m args meth c) (hZ : jx_Z E s) (hRc : R.cells = 600002) (hRs : R.slots = 7302232) {bb : Nat} {xs : Nat → Int32} (hX : va_X bb 6 xs s E.2.2.2.2) (hbB : bb < E.2.2.2.1) (hE2 : E.1 1000002 = bb) (hQ : ∀ (l0 : jv_L) (G : jv_G) (n sl : Nat), n ≤ 600002 → sl ≤ 7302232 → jw p l e R s m args below meth c E 8 0 0 Q 1532 l0 [.int (1 : Int32)] G n sl) (q0 : xs 0 = p0) (q1 : xs 1 = p1) (q2 : xs 2 = p2) (q3 : xs 3 = p3) (q4 : xs 4 = p4) (q5 : xs 5 = p5) : jw p l e R s m args below meth c E 8 0 0 Q 33 [(0, .ref 1000002), (1, .ref 0), (2, .ref 178), (3, .ref 226), (4, .int (0 : Int32))] [] (jv_H (jx_K 227) jx_If jx_L0 (jx_R 227)) 227 1572950 := by
  by_cases g1 : p1 < (0 : Int32)
  · exact jx_l38 p0 p1 p2 p3 p4 p5 g1 hsw hTb hT2 hl F hZ hRc hRs hX hbB hE2 hQ q0 q1 q2 q3 q4 q5
  · by_cases g2 : (65528 : Int32) < p1
    · exact jx_l39 p0 p1 p2 p3 p4 p5 g1 g2 hsw hTb hT2 hl F hZ hRc hRs hX hbB hE2 hQ q0 q1 q2 q3 q4 q5
    · exact jx_l40 p0 p1 p2 p3 p4 p5 g1 g2 hsw hTb hT2 hl F hZ hRc hRs hX hbB hE2 hQ q0 q1 q2 q3 q4 q5

set_option maxRecDepth 100000 in
theorem jx_i453 : jx_I jv_T2 453 5 (some .int) 8 136 jv_c453 := ⟨rfl, rfl, rfl, rfl, rfl⟩
set_option maxRecDepth 100000 in
theorem jv_i434 : jv_I 434 5 (some .int) 7 112 jv_c434 := ⟨rfl, rfl, rfl, rfl, rfl⟩
set_option maxRecDepth 100000 in
/-- ProgramBox$Store.map -/
theorem jx_e249 (p0 : Int32) (p1 : Int32) (p2 : Int32) (p3 : Int32) (p4 : Int32) (p5 : Int32) (g1 : p1.toInt64 < (0 : Int64)) (g2 : p1 < (0 : Int32)) : jv_Ms 126 [.ref 2, .long p1.toInt64] (jv_H (jx_K 227) jx_If jx_L0 (jx_R 227)) 227 1572950 (some (.null), (jv_H (jx_K 227) jx_If jx_L0 (jx_R 227)), 227, 1572950) := by
  show jv_Ev 126 0 [(0, .ref 2), (1, .long p1.toInt64)] [] (jv_H (jx_K 227) jx_If jx_L0 (jx_R 227)) 227 1572950 _
  refine jv_Ev.steps jv_i126 3 (pc' := 3) (l' := [(0, .ref 2), (1, .long p1.toInt64)]) (st' := [.int (lg_cmp p1.toInt64 (0 : Int64))]) rfl ?_
  refine jv_Ev.br jv_i126 (pc' := 16) (st' := []) rfl (jv_bi_lt.trans (jx_got ((lg_cmp_lt p1.toInt64 (0 : Int64)).mpr g1))) ?_
  refine jv_Ev.steps jv_i126 2 (pc' := 27) (l' := [(0, .ref 2), (1, .long p1.toInt64)]) (st' := [.null]) rfl ?_
  exact jv_Ev.ret jv_i126 rfl rfl

set_option maxRecDepth 100000 in
/-- ProgramBox.mapOf: it throws -/
theorem jx_e250 (hTb : jv_TOk jv_Tb) (p0 : Int32) (p1 : Int32) (p2 : Int32) (p3 : Int32) (p4 : Int32) (p5 : Int32) (g1 : p1.toInt64 < (0 : Int64)) (g2 : p1 < (0 : Int32)) : jx_Th 429 [.ref 0, .int p1] (jv_H (jx_K 227) jx_If jx_L0 (jx_R 227)) 227 1572950 2 (jv_H (jx_K 227) jx_If jx_L0 (jx_R 227)) 228 1572956 := by
  refine jx_Th.of hTb (y := 429) rfl (Nat.le_of_ble_eq_true rfl) ?_
  intro p l e R s m args below meth c E hl F hZ h0 ht hRc hRs
  show jw p l e R s m args below meth c E 3 227 1572950 _ 0 [(0, .ref 0), (1, .int p1)] [] (jv_H (jx_K 227) jx_If jx_L0 (jx_R 227)) 227 1572950
  refine jw.steps F jv_i429 1 (pc' := 1) (l' := [(0, .ref 0), (1, .int p1)]) (st' := [.ref 0]) rfl ?_
  refine jw.me F jv_i429 (pc' := 4) (st' := [.ref 2]) rfl rfl (jv_m_getR rfl rfl rfl rfl) ?_
  refine jw.steps F jv_i429 2 (pc' := 6) (l' := [(0, .ref 0), (1, .int p1)]) (st' := [.long p1.toInt64, .ref 2]) rfl ?_
  refine jw.ca hTb F jv_i429 (pc' := 9) (S' := [.null]) rfl jv_i126 [.ref 2, .long p1.toInt64] rfl rfl rfl rfl (jv_cal rfl (jv_H_at rfl) rfl rfl) rfl (jx_e249 p0 p1 p2 p3 p4 p5 g1 g2) (by omega) (by omega) rfl rfl ?_
  refine jw.steps F jv_i429 2 (pc' := 11) (l' := [(2, .null), (0, .ref 0), (1, .int p1)]) (st' := [.null]) rfl ?_
  refine jw.br F jv_i429 (pc' := 14) (st' := []) rfl rfl ?_
  exact jw.throw hl F hZ h0 rfl jv_i429 ht 2 183 "there is no such map" (List.mem_of_getElem? (i := 11) rfl) (by decide +kernel) (by decide +kernel) (by decide +kernel) (by decide +kernel) (by decide +kernel) rfl (by decide) (by decide) (by decide) (by omega) (by omega)

set_option maxRecDepth 100000 in
/-- ProgramBox.find: it throws -/
theorem jx_e251 (hTb : jv_TOk jv_Tb) (p0 : Int32) (p1 : Int32) (p2 : Int32) (p3 : Int32) (p4 : Int32) (p5 : Int32) (g1 : p1.toInt64 < (0 : Int64)) (g2 : p1 < (0 : Int32)) : jx_Th 434 [.ref 0, .int p1, .int p2] (jv_H (jx_K 227) jx_If jx_L0 (jx_R 227)) 227 1572950 2 (jv_H (jx_K 227) jx_If jx_L0 (jx_R 227)) 228 1572956 := by
  refine jx_Th.of hTb (y := 434) rfl (Nat.le_of_ble_eq_true rfl) ?_
  intro p l e R s m args below meth c E hl F hZ h0 ht hRc hRs
  show jw p l e R s m args below meth c E 5 227 1572950 _ 0 [(0, .ref 0), (1, .int p1), (2, .int p2)] [] (jv_H (jx_K 227) jx_If jx_L0 (jx_R 227)) 227 1572950
  refine jw.steps F jv_i434 2 (pc' := 2) (l' := [(0, .ref 0), (1, .int p1), (2, .int p2)]) (st' := [.int p1, .ref 0]) rfl ?_
  exact jw.prop hTb hl F hZ jv_i434 ht rfl jv_i429 [.ref 0, .int p1] rfl rfl rfl rfl rfl (jv_cal rfl (jv_H_at rfl) rfl rfl) rfl (jx_e250 hTb p0 p1 p2 p3 p4 p5 g1 g2) (by omega) (by omega) (by omega) (by omega)

set_option maxRecDepth 100000 in
/-- the law's find -/
theorem jx_w252 (hTb : jv_TOk jv_Tb) (hT2 : jx_T2Ok) (p0 : Int32) (p1 : Int32) (p2 : Int32) (p3 : Int32) (p4 : Int32) (p5 : Int32) (g1 : p1.toInt64 < (0 : Int64)) (g2 : p1 < (0 : Int32)) : jx_Wr 453 [(0, 10, 13, 36)] [.ref 0, .int p1, .int p2, .ref 226] (jv_H (jx_K 227) jx_If jx_L0 (jx_R 227)) 227 1572950 (some (.int (1 : Int32)), (jv_H (jx_K 227) jx_If jx_L0 (jx_R 227)), 228, 1572956) := by
  refine jx_Wr.of hT2 (by decide) rfl (Nat.le_of_ble_eq_true rfl) ?_
  intro p l e R s m args below meth c E hl F hZ htb hRc hRs
  show jw p l e R s m args below meth c E 5 227 1572950 _ 0 [(0, .ref 0), (1, .int p1), (2, .int p2), (3, .ref 226)] [] (jv_H (jx_K 227) jx_If jx_L0 (jx_R 227)) 227 1572950
  have hRc : R.cells = 228 - 227 := hRc
  have hRs : R.slots = 1572956 - 1572950 := hRs
  refine jw.steps F jx_i453 5 (pc' := 5) (l' := [(0, .ref 0), (1, .int p1), (2, .int p2), (3, .ref 226)]) (st' := [.int p2, .int p1, .ref 0, .int (0 : Int32), .ref 226]) rfl ?_
  refine jw.cat hTb hl F hZ rfl jx_i453 htb rfl jv_i434 [.ref 0, .int p1, .int p2] rfl rfl rfl rfl rfl (jx_cal2 rfl (jv_H_at rfl) rfl rfl) rfl (jx_e251 hTb p0 p1 p2 p3 p4 p5 g1 g2) (by omega) (by omega) (by omega) (by omega) [] (0, 10, 13, 36) [] rfl (fun z h => absurd h List.not_mem_nil) (by decide) rfl rfl (Or.inl ⟨rfl, rfl⟩) (by decide) ?_
  refine jw.steps F jx_i453 1 (pc' := 16) (l' := []) (st' := [.int (1 : Int32)]) rfl ?_
  exact jw.ret F jx_i453 rfl rfl

set_option maxRecDepth 100000 in
theorem jv_i412 : jv_I 412 4 (some .int) 3 72 jv_c412 := ⟨rfl, rfl, rfl, rfl, rfl⟩
set_option maxRecDepth 100000 in
theorem jv_i337 : jv_I 337 4 (some .int) 2 49 jv_c337 := ⟨rfl, rfl, rfl, rfl, rfl⟩
set_option maxRecDepth 100000 in
/-- ProgramBoxModel$Store.noMap -/
theorem jx_e253 (p0 : Int32) (p1 : Int32) (p2 : Int32) (p3 : Int32) (p4 : Int32) (p5 : Int32) (g1 : p1.toInt64 < (0 : Int64)) (g2 : p1 < (0 : Int32)) : jv_Ms 324 [.ref 180, .int p1] (jv_H (jx_K 227) jx_If jx_L0 (jx_R 227)) 228 1572956 (some (.int (1 : Int32)), (jv_H (jx_K 227) (jv_u jx_If 180 0 (1 : Int32)) jx_L0 (jx_R 227)), 228, 1572956) := by
  show jv_Ev 324 0 [(0, .ref 180), (1, .int p1)] [] (jv_H (jx_K 227) jx_If jx_L0 (jx_R 227)) 228 1572956 _
  refine jv_Ev.steps jv_i324 2 (pc' := 2) (l' := [(0, .ref 180), (1, .int p1)]) (st' := [.int p1, .ref 180]) rfl ?_
  refine jv_Ev.br jv_i324 (pc' := 13) (st' := [.ref 180]) rfl (jv_bi_lt.trans (jx_got g2)) ?_
  refine jv_Ev.steps jv_i324 2 (pc' := 18) (l' := [(0, .ref 180), (1, .int p1)]) (st' := [.int (1 : Int32), .ref 180]) rfl ?_
  refine jv_Ev.m jv_i324 (pc' := 21) (st' := []) rfl rfl (jv_m_putI rfl rfl rfl rfl rfl) ?_
  refine jv_Ev.steps jv_i324 1 (pc' := 22) (l' := [(0, .ref 180), (1, .int p1)]) (st' := [.ref 180]) rfl ?_
  refine jv_Ev.m jv_i324 (pc' := 25) (st' := [.int (1 : Int32)]) rfl rfl (jv_m_getI rfl rfl rfl rfl) ?_
  refine jv_Ev.br jv_i324 (pc' := 28) (st' := []) rfl (jv_bi_le.trans (jx_gof (by decide))) ?_
  refine jv_Ev.steps jv_i324 2 (pc' := 33) (l' := [(0, .ref 180), (1, .int p1)]) (st' := [.int (1 : Int32)]) rfl ?_
  exact jv_Ev.ret jv_i324 rfl (jv_ret_b (by decide))

set_option maxRecDepth 100000 in
/-- ProgramBoxModel$Store.find -/
theorem jx_e254 (p0 : Int32) (p1 : Int32) (p2 : Int32) (p3 : Int32) (p4 : Int32) (p5 : Int32) (g1 : p1.toInt64 < (0 : Int64)) (g2 : p1 < (0 : Int32)) : jv_Ms 337 [.ref 180, .int p1, .int p2] (jv_H (jx_K 227) jx_If jx_L0 (jx_R 227)) 228 1572956 (some (.int (0 : Int32)), (jv_H (jx_K 227) (jv_u jx_If 180 0 (1 : Int32)) jx_L0 (jx_R 227)), 228, 1572956) := by
  show jv_Ev 337 0 [(0, .ref 180), (1, .int p1), (2, .int p2)] [] (jv_H (jx_K 227) jx_If jx_L0 (jx_R 227)) 228 1572956 _
  refine jv_Ev.steps jv_i337 2 (pc' := 2) (l' := [(0, .ref 180), (1, .int p1), (2, .int p2)]) (st' := [.int p1, .ref 180]) rfl ?_
  refine jv_Ev.c jv_i337 (pc' := 5) (S' := [.int (1 : Int32)]) jv_i324 [.ref 180, .int p1] rfl rfl rfl rfl (jv_cal rfl (jv_H_at rfl) rfl rfl) rfl (jx_e253 p0 p1 p2 p3 p4 p5 g1 g2) rfl rfl ?_
  refine jv_Ev.br jv_i337 (pc' := 8) (st' := []) rfl (jv_bi_eq.trans (jx_gof (by decide))) ?_
  refine jv_Ev.steps jv_i337 1 (pc' := 9) (l' := [(0, .ref 180), (1, .int p1), (2, .int p2)]) (st' := [.int (0 : Int32)]) rfl ?_
  exact jv_Ev.ret jv_i337 rfl rfl

set_option maxRecDepth 100000 in
/-- ProgramBoxModel$Store.thrown -/
theorem jx_e255 (p0 : Int32) (p1 : Int32) (p2 : Int32) (p3 : Int32) (p4 : Int32) (p5 : Int32) (g1 : p1.toInt64 < (0 : Int64)) (g2 : p1 < (0 : Int32)) : jv_Ms 318 [.ref 180] (jv_H (jx_K 227) (jv_u jx_If 180 0 (1 : Int32)) jx_L0 (jx_R 227)) 228 1572956 (some (.int (1 : Int32)), (jv_H (jx_K 227) (jv_u jx_If 180 0 (1 : Int32)) jx_L0 (jx_R 227)), 228, 1572956) := by
  show jv_Ev 318 0 [(0, .ref 180)] [] (jv_H (jx_K 227) (jv_u jx_If 180 0 (1 : Int32)) jx_L0 (jx_R 227)) 228 1572956 _
  refine jv_Ev.steps jv_i318 1 (pc' := 1) (l' := [(0, .ref 180)]) (st' := [.ref 180]) rfl ?_
  refine jv_Ev.m jv_i318 (pc' := 4) (st' := [.int (1 : Int32)]) rfl rfl (jv_m_getI rfl rfl rfl rfl) ?_
  exact jv_Ev.ret jv_i318 rfl rfl

set_option maxRecDepth 100000 in
/-- ProgramBoxModel.find -/
theorem jx_e256 (p0 : Int32) (p1 : Int32) (p2 : Int32) (p3 : Int32) (p4 : Int32) (p5 : Int32) (g1 : p1.toInt64 < (0 : Int64)) (g2 : p1 < (0 : Int32)) : jv_Ms 412 [.ref 178, .int p1, .int p2] (jv_H (jx_K 227) jx_If jx_L0 (jx_R 227)) 228 1572956 (some (.int (0 : Int32)), (jv_H (jx_K 227) (jv_u (jv_u jx_If 180 0 (1 : Int32)) 178 0 (1 : Int32)) jx_L0 (jx_R 227)), 228, 1572956) := by
  show jv_Ev 412 0 [(0, .ref 178), (1, .int p1), (2, .int p2)] [] (jv_H (jx_K 227) jx_If jx_L0 (jx_R 227)) 228 1572956 _
  refine jv_Ev.steps jv_i412 1 (pc' := 1) (l' := [(0, .ref 178), (1, .int p1), (2, .int p2)]) (st' := [.ref 178]) rfl ?_
  refine jv_Ev.m jv_i412 (pc' := 4) (st' := [.ref 180]) rfl rfl (jv_m_getR rfl rfl rfl rfl) ?_
  refine jv_Ev.steps jv_i412 2 (pc' := 6) (l' := [(0, .ref 178), (1, .int p1), (2, .int p2)]) (st' := [.int p2, .int p1, .ref 180]) rfl ?_
  refine jv_Ev.c jv_i412 (pc' := 9) (S' := [.int (0 : Int32)]) jv_i337 [.ref 180, .int p1, .int p2] rfl rfl rfl rfl (jv_cal rfl (jv_H_at rfl) rfl rfl) rfl (jx_e254 p0 p1 p2 p3 p4 p5 g1 g2) rfl rfl ?_
  refine jv_Ev.steps jv_i412 3 (pc' := 12) (l' := [(3, .int (0 : Int32)), (0, .ref 178), (1, .int p1), (2, .int p2)]) (st' := [.ref 178, .ref 178]) rfl ?_
  refine jv_Ev.m jv_i412 (pc' := 15) (st' := [.ref 180, .ref 178]) rfl rfl (jv_m_getR rfl rfl rfl rfl) ?_
  refine jv_Ev.c jv_i412 (pc' := 18) (S' := [.int (1 : Int32), .ref 178]) jv_i318 [.ref 180] rfl rfl rfl rfl (jv_cal rfl (jv_H_at rfl) rfl rfl) rfl (jx_e255 p0 p1 p2 p3 p4 p5 g1 g2) rfl rfl ?_
  refine jv_Ev.m jv_i412 (pc' := 21) (st' := []) rfl rfl (jv_m_putI rfl rfl rfl rfl rfl) ?_
  refine jv_Ev.steps jv_i412 1 (pc' := 22) (l' := [(3, .int (0 : Int32)), (0, .ref 178), (1, .int p1), (2, .int p2)]) (st' := [.int (0 : Int32)]) rfl ?_
  exact jv_Ev.ret jv_i412 rfl rfl

set_option maxRecDepth 100000 in
/-- ProgramBoxModel.thrown -/
theorem jx_e257 (p0 : Int32) (p1 : Int32) (p2 : Int32) (p3 : Int32) (p4 : Int32) (p5 : Int32) (g1 : p1.toInt64 < (0 : Int64)) (g2 : p1 < (0 : Int32)) : jv_Ms 350 [.ref 178] (jv_H (jx_K 227) (jv_u (jv_u jx_If 180 0 (1 : Int32)) 178 0 (1 : Int32)) jx_L0 (jx_R 227)) 228 1572956 (some (.int (1 : Int32)), (jv_H (jx_K 227) (jv_u (jv_u jx_If 180 0 (1 : Int32)) 178 0 (1 : Int32)) jx_L0 (jx_R 227)), 228, 1572956) := by
  show jv_Ev 350 0 [(0, .ref 178)] [] (jv_H (jx_K 227) (jv_u (jv_u jx_If 180 0 (1 : Int32)) 178 0 (1 : Int32)) jx_L0 (jx_R 227)) 228 1572956 _
  refine jv_Ev.steps jv_i350 1 (pc' := 1) (l' := [(0, .ref 178)]) (st' := [.ref 178]) rfl ?_
  refine jv_Ev.m jv_i350 (pc' := 4) (st' := [.int (1 : Int32)]) rfl rfl (jv_m_getI rfl rfl rfl rfl) ?_
  exact jv_Ev.ret jv_i350 rfl rfl

set_option maxRecDepth 100000 in
/-- the law: case 21, one way -/
theorem jx_l41 (p0 : Int32) (p1 : Int32) (p2 : Int32) (p3 : Int32) (p4 : Int32) (p5 : Int32) (g1 : p1.toInt64 < (0 : Int64)) (g2 : p1 < (0 : Int32)) (hsw : p0 &&& (31 : Int32) = (21 : Int32)) {p : Program} {l : Launch} {e : Env} {R : Room} {s : State} {m : MethodId} {args : Array Value} {below : List Frame} {meth : Method} {c : Code} {E : jv_Env} {Q : State → Prop} (hTb : jv_TOk jv_Tb) (hT2 : jx_T2Ok) (hl : l.stackTraces = false) (F : jx_F jv_T2 439 E p R s m args meth c) (hZ : jx_Z E s) (hRc : R.cells = 600002) (hRs : R.slots = 7302232) {bb : Nat} {xs : Nat → Int32} (hX : va_X bb 6 xs s E.2.2.2.2) (hbB : bb < E.2.2.2.1) (hE2 : E.1 1000002 = bb) (hQ : ∀ (l0 : jv_L) (G : jv_G) (n sl : Nat), n ≤ 600002 → sl ≤ 7302232 → jw p l e R s m args below meth c E 8 0 0 Q 1532 l0 [.int (1 : Int32)] G n sl) (q0 : xs 0 = p0) (q1 : xs 1 = p1) (q2 : xs 2 = p2) (q3 : xs 3 = p3) (q4 : xs 4 = p4) (q5 : xs 5 = p5) : jw p l e R s m args below meth c E 8 0 0 Q 33 [(0, .ref 1000002), (1, .ref 0), (2, .ref 178), (3, .ref 226), (4, .int (0 : Int32))] [] (jv_H (jx_K 227) jx_If jx_L0 (jx_R 227)) 227 1572950 := by
  refine jw.steps F jx_i439 2 (pc' := 36) (l' := [(0, .ref 1000002), (1, .ref 0), (2, .ref 178), (3, .ref 226), (4, .int (0 : Int32))]) (st' := [.int (0 : Int32), .ref 1000002]) rfl ?_
  refine jw.sld F jx_i439 hX hbB hE2 (pc' := 37) rfl rfl (show vp_in (nI 0) 6 from vp_in_nI (by decide) (by decide)) q0 rfl ?_
  refine jw.steps F jx_i439 2 (pc' := 40) (l' := [(0, .ref 1000002), (1, .ref 0), (2, .ref 178), (3, .ref 226), (4, .int (0 : Int32))]) (st' := [.int (p0 &&& (31 : Int32))]) rfl ?_
  refine jw.br F jx_i439 (pc' := 1136) (st' := []) rfl (by rw [hsw]; rfl) ?_
  refine jw.steps F jx_i439 5 (pc' := 1142) (l' := [(0, .ref 1000002), (1, .ref 0), (2, .ref 178), (3, .ref 226), (4, .int (0 : Int32))]) (st' := [.int (1 : Int32), .ref 1000002, .ref 0]) rfl ?_
  refine jw.sld F jx_i439 hX hbB hE2 (pc' := 1143) rfl rfl (show vp_in (nI 1) 6 from vp_in_nI (by decide) (by decide)) q1 rfl ?_
  refine jw.steps F jx_i439 4 (pc' := 1148) (l' := [(0, .ref 1000002), (1, .ref 0), (2, .ref 178), (3, .ref 226), (4, .int (0 : Int32))]) (st' := [.int (2 : Int32), .ref 1000002, .int p1, .ref 0]) rfl ?_
  refine jw.sld F jx_i439 hX hbB hE2 (pc' := 1149) rfl rfl (show vp_in (nI 2) 6 from vp_in_nI (by decide) (by decide)) q2 rfl ?_
  refine jw.steps F jx_i439 1 (pc' := 1150) (l' := [(0, .ref 1000002), (1, .ref 0), (2, .ref 178), (3, .ref 226), (4, .int (0 : Int32))]) (st' := [.ref 226, .int p2, .int p1, .ref 0]) rfl ?_
  refine jw.wr F hl hZ rfl jx_i439 jx_i453 [.ref 0, .int p1, .int p2, .ref 226] (pc' := 1153) (S' := [.int (1 : Int32)]) rfl (List.mem_of_getElem? (i := 13) rfl) (List.mem_of_getElem? (i := 13) rfl) rfl rfl rfl (jx_w252 hTb hT2 p0 p1 p2 p3 p4 p5 g1 g2) (by omega) (by omega) (by omega) (by omega) rfl rfl ?_
  refine jw.steps F jx_i439 6 (pc' := 1161) (l' := [(5, .int (1 : Int32)), (0, .ref 1000002), (1, .ref 0), (2, .ref 178), (3, .ref 226), (4, .int (0 : Int32))]) (st' := [.int (1 : Int32), .ref 1000002, .ref 178]) rfl ?_
  refine jw.sld F jx_i439 hX hbB hE2 (pc' := 1162) rfl rfl (show vp_in (nI 1) 6 from vp_in_nI (by decide) (by decide)) q1 rfl ?_
  refine jw.steps F jx_i439 4 (pc' := 1167) (l' := [(5, .int (1 : Int32)), (0, .ref 1000002), (1, .ref 0), (2, .ref 178), (3, .ref 226), (4, .int (0 : Int32))]) (st' := [.int (2 : Int32), .ref 1000002, .int p1, .ref 178]) rfl ?_
  refine jw.sld F jx_i439 hX hbB hE2 (pc' := 1168) rfl rfl (show vp_in (nI 2) 6 from vp_in_nI (by decide) (by decide)) q2 rfl ?_
  refine jw.ca hTb F jx_i439 (pc' := 1171) (S' := [.int (0 : Int32)]) rfl jv_i412 [.ref 178, .int p1, .int p2] rfl rfl rfl rfl (jx_cal2 rfl (jv_H_at rfl) rfl rfl) rfl (jx_e256 p0 p1 p2 p3 p4 p5 g1 g2) (by omega) (by omega) rfl rfl ?_
  refine jw.steps F jx_i439 2 (pc' := 1174) (l' := [(6, .int (0 : Int32)), (5, .int (1 : Int32)), (0, .ref 1000002), (1, .ref 0), (2, .ref 178), (3, .ref 226), (4, .int (0 : Int32))]) (st' := [.ref 178]) rfl ?_
  refine jw.ca hTb F jx_i439 (pc' := 1177) (S' := [.int (1 : Int32)]) rfl jv_i350 [.ref 178] rfl rfl rfl rfl (jx_cal2 rfl (jv_H_at rfl) rfl rfl) rfl (jx_e257 p0 p1 p2 p3 p4 p5 g1 g2) (by omega) (by omega) rfl rfl ?_
  refine jw.steps F jx_i439 1 (pc' := 1179) (l' := [(6, .int (0 : Int32)), (5, .int (1 : Int32)), (0, .ref 1000002), (1, .ref 0), (2, .ref 178), (3, .ref 226), (4, .int (0 : Int32))]) (st' := [.int (1 : Int32), .int (1 : Int32)]) rfl ?_
  refine jw.br F jx_i439 (pc' := 1184) (st' := []) rfl (jv_bc_eq.trans (jx_got (by decide))) ?_
  refine jw.steps F jx_i439 1 (pc' := 1186) (l' := [(6, .int (0 : Int32)), (5, .int (1 : Int32)), (0, .ref 1000002), (1, .ref 0), (2, .ref 178), (3, .ref 226), (4, .int (0 : Int32))]) (st' := [.int (1 : Int32)]) rfl ?_
  refine jw.br F jx_i439 (pc' := 1201) (st' := []) rfl (jv_bi_ne.trans (jx_got (by decide))) ?_
  refine jw.steps F jx_i439 5 (pc' := 26) (l' := [(4, .int (6 : Int32)), (6, .int (0 : Int32)), (5, .int (1 : Int32)), (0, .ref 1000002), (1, .ref 0), (2, .ref 178), (3, .ref 226)]) (st' := [.ref 1000002, .int (6 : Int32)]) rfl ?_
  refine jw.slen F jx_i439 hX hbB hE2 (pc' := 27) rfl rfl rfl ?_
  refine jw.steps F jx_i439 2 (pc' := 30) (l' := [(4, .int (6 : Int32)), (6, .int (0 : Int32)), (5, .int (1 : Int32)), (0, .ref 1000002), (1, .ref 0), (2, .ref 178), (3, .ref 226)]) (st' := [.int (0 : Int32), .int (6 : Int32)]) rfl ?_
  refine jw.br F jx_i439 (pc' := 1531) (st' := []) rfl (jv_bc_gt.trans (jx_got (by decide))) ?_
  refine jw.steps F jx_i439 1 (pc' := 1532) (l' := [(4, .int (6 : Int32)), (6, .int (0 : Int32)), (5, .int (1 : Int32)), (0, .ref 1000002), (1, .ref 0), (2, .ref 178), (3, .ref 226)]) (st' := [.int (1 : Int32)]) rfl ?_
  exact hQ _ _ _ _ (by omega) (by omega)

set_option maxRecDepth 100000 in
/-- ProgramBox$Store.map -/
theorem jx_e258 (p0 : Int32) (p1 : Int32) (p2 : Int32) (p3 : Int32) (p4 : Int32) (p5 : Int32) (g1 : p1.toInt64 < (0 : Int64)) (g2 : ¬ p1 < (0 : Int32)) : jv_Ms 126 [.ref 2, .long p1.toInt64] (jv_H (jx_K 227) jx_If jx_L0 (jx_R 227)) 227 1572950 (some (.null), (jv_H (jx_K 227) jx_If jx_L0 (jx_R 227)), 227, 1572950) := by
  show jv_Ev 126 0 [(0, .ref 2), (1, .long p1.toInt64)] [] (jv_H (jx_K 227) jx_If jx_L0 (jx_R 227)) 227 1572950 _
  refine jv_Ev.steps jv_i126 3 (pc' := 3) (l' := [(0, .ref 2), (1, .long p1.toInt64)]) (st' := [.int (lg_cmp p1.toInt64 (0 : Int64))]) rfl ?_
  refine jv_Ev.br jv_i126 (pc' := 16) (st' := []) rfl (jv_bi_lt.trans (jx_got ((lg_cmp_lt p1.toInt64 (0 : Int64)).mpr g1))) ?_
  refine jv_Ev.steps jv_i126 2 (pc' := 27) (l' := [(0, .ref 2), (1, .long p1.toInt64)]) (st' := [.null]) rfl ?_
  exact jv_Ev.ret jv_i126 rfl rfl

set_option maxRecDepth 100000 in
/-- ProgramBox.mapOf: it throws -/
theorem jx_e259 (hTb : jv_TOk jv_Tb) (p0 : Int32) (p1 : Int32) (p2 : Int32) (p3 : Int32) (p4 : Int32) (p5 : Int32) (g1 : p1.toInt64 < (0 : Int64)) (g2 : ¬ p1 < (0 : Int32)) : jx_Th 429 [.ref 0, .int p1] (jv_H (jx_K 227) jx_If jx_L0 (jx_R 227)) 227 1572950 2 (jv_H (jx_K 227) jx_If jx_L0 (jx_R 227)) 228 1572956 := by
  refine jx_Th.of hTb (y := 429) rfl (Nat.le_of_ble_eq_true rfl) ?_
  intro p l e R s m args below meth c E hl F hZ h0 ht hRc hRs
  show jw p l e R s m args below meth c E 3 227 1572950 _ 0 [(0, .ref 0), (1, .int p1)] [] (jv_H (jx_K 227) jx_If jx_L0 (jx_R 227)) 227 1572950
  refine jw.steps F jv_i429 1 (pc' := 1) (l' := [(0, .ref 0), (1, .int p1)]) (st' := [.ref 0]) rfl ?_
  refine jw.me F jv_i429 (pc' := 4) (st' := [.ref 2]) rfl rfl (jv_m_getR rfl rfl rfl rfl) ?_
  refine jw.steps F jv_i429 2 (pc' := 6) (l' := [(0, .ref 0), (1, .int p1)]) (st' := [.long p1.toInt64, .ref 2]) rfl ?_
  refine jw.ca hTb F jv_i429 (pc' := 9) (S' := [.null]) rfl jv_i126 [.ref 2, .long p1.toInt64] rfl rfl rfl rfl (jv_cal rfl (jv_H_at rfl) rfl rfl) rfl (jx_e258 p0 p1 p2 p3 p4 p5 g1 g2) (by omega) (by omega) rfl rfl ?_
  refine jw.steps F jv_i429 2 (pc' := 11) (l' := [(2, .null), (0, .ref 0), (1, .int p1)]) (st' := [.null]) rfl ?_
  refine jw.br F jv_i429 (pc' := 14) (st' := []) rfl rfl ?_
  exact jw.throw hl F hZ h0 rfl jv_i429 ht 2 183 "there is no such map" (List.mem_of_getElem? (i := 11) rfl) (by decide +kernel) (by decide +kernel) (by decide +kernel) (by decide +kernel) (by decide +kernel) rfl (by decide) (by decide) (by decide) (by omega) (by omega)

set_option maxRecDepth 100000 in
/-- ProgramBox.find: it throws -/
theorem jx_e260 (hTb : jv_TOk jv_Tb) (p0 : Int32) (p1 : Int32) (p2 : Int32) (p3 : Int32) (p4 : Int32) (p5 : Int32) (g1 : p1.toInt64 < (0 : Int64)) (g2 : ¬ p1 < (0 : Int32)) : jx_Th 434 [.ref 0, .int p1, .int p2] (jv_H (jx_K 227) jx_If jx_L0 (jx_R 227)) 227 1572950 2 (jv_H (jx_K 227) jx_If jx_L0 (jx_R 227)) 228 1572956 := by
  refine jx_Th.of hTb (y := 434) rfl (Nat.le_of_ble_eq_true rfl) ?_
  intro p l e R s m args below meth c E hl F hZ h0 ht hRc hRs
  show jw p l e R s m args below meth c E 5 227 1572950 _ 0 [(0, .ref 0), (1, .int p1), (2, .int p2)] [] (jv_H (jx_K 227) jx_If jx_L0 (jx_R 227)) 227 1572950
  refine jw.steps F jv_i434 2 (pc' := 2) (l' := [(0, .ref 0), (1, .int p1), (2, .int p2)]) (st' := [.int p1, .ref 0]) rfl ?_
  exact jw.prop hTb hl F hZ jv_i434 ht rfl jv_i429 [.ref 0, .int p1] rfl rfl rfl rfl rfl (jv_cal rfl (jv_H_at rfl) rfl rfl) rfl (jx_e259 hTb p0 p1 p2 p3 p4 p5 g1 g2) (by omega) (by omega) (by omega) (by omega)

set_option maxRecDepth 100000 in
/-- the law's find -/
theorem jx_w261 (hTb : jv_TOk jv_Tb) (hT2 : jx_T2Ok) (p0 : Int32) (p1 : Int32) (p2 : Int32) (p3 : Int32) (p4 : Int32) (p5 : Int32) (g1 : p1.toInt64 < (0 : Int64)) (g2 : ¬ p1 < (0 : Int32)) : jx_Wr 453 [(0, 10, 13, 36)] [.ref 0, .int p1, .int p2, .ref 226] (jv_H (jx_K 227) jx_If jx_L0 (jx_R 227)) 227 1572950 (some (.int (1 : Int32)), (jv_H (jx_K 227) jx_If jx_L0 (jx_R 227)), 228, 1572956) := by
  refine jx_Wr.of hT2 (by decide) rfl (Nat.le_of_ble_eq_true rfl) ?_
  intro p l e R s m args below meth c E hl F hZ htb hRc hRs
  show jw p l e R s m args below meth c E 5 227 1572950 _ 0 [(0, .ref 0), (1, .int p1), (2, .int p2), (3, .ref 226)] [] (jv_H (jx_K 227) jx_If jx_L0 (jx_R 227)) 227 1572950
  have hRc : R.cells = 228 - 227 := hRc
  have hRs : R.slots = 1572956 - 1572950 := hRs
  refine jw.steps F jx_i453 5 (pc' := 5) (l' := [(0, .ref 0), (1, .int p1), (2, .int p2), (3, .ref 226)]) (st' := [.int p2, .int p1, .ref 0, .int (0 : Int32), .ref 226]) rfl ?_
  refine jw.cat hTb hl F hZ rfl jx_i453 htb rfl jv_i434 [.ref 0, .int p1, .int p2] rfl rfl rfl rfl rfl (jx_cal2 rfl (jv_H_at rfl) rfl rfl) rfl (jx_e260 hTb p0 p1 p2 p3 p4 p5 g1 g2) (by omega) (by omega) (by omega) (by omega) [] (0, 10, 13, 36) [] rfl (fun z h => absurd h List.not_mem_nil) (by decide) rfl rfl (Or.inl ⟨rfl, rfl⟩) (by decide) ?_
  refine jw.steps F jx_i453 1 (pc' := 16) (l' := []) (st' := [.int (1 : Int32)]) rfl ?_
  exact jw.ret F jx_i453 rfl rfl

set_option maxRecDepth 100000 in
/-- ProgramBoxModel$Store.noMap -/
theorem jx_e262 (p0 : Int32) (p1 : Int32) (p2 : Int32) (p3 : Int32) (p4 : Int32) (p5 : Int32) (g1 : p1.toInt64 < (0 : Int64)) (g2 : ¬ p1 < (0 : Int32)) : jv_Ms 324 [.ref 180, .int p1] (jv_H (jx_K 227) jx_If jx_L0 (jx_R 227)) 228 1572956 (some (.int (1 : Int32)), (jv_H (jx_K 227) (jv_u jx_If 180 0 (1 : Int32)) jx_L0 (jx_R 227)), 228, 1572956) := by
  show jv_Ev 324 0 [(0, .ref 180), (1, .int p1)] [] (jv_H (jx_K 227) jx_If jx_L0 (jx_R 227)) 228 1572956 _
  refine jv_Ev.steps jv_i324 2 (pc' := 2) (l' := [(0, .ref 180), (1, .int p1)]) (st' := [.int p1, .ref 180]) rfl ?_
  refine jv_Ev.br jv_i324 (pc' := 5) (st' := [.ref 180]) rfl (jv_bi_lt.trans (jx_gof g2)) ?_
  refine jv_Ev.steps jv_i324 2 (pc' := 7) (l' := [(0, .ref 180), (1, .int p1)]) (st' := [.ref 180, .int p1, .ref 180]) rfl ?_
  refine jv_Ev.m jv_i324 (pc' := 10) (st' := [.int (0 : Int32), .int p1, .ref 180]) rfl rfl (jv_m_getI rfl rfl rfl rfl) ?_
  refine jv_Ev.br jv_i324 (pc' := 13) (st' := [.ref 180]) rfl (jv_bc_lt.trans (jx_gof g2)) ?_
  refine jv_Ev.steps jv_i324 2 (pc' := 18) (l' := [(0, .ref 180), (1, .int p1)]) (st' := [.int (1 : Int32), .ref 180]) rfl ?_
  refine jv_Ev.m jv_i324 (pc' := 21) (st' := []) rfl rfl (jv_m_putI rfl rfl rfl rfl rfl) ?_
  refine jv_Ev.steps jv_i324 1 (pc' := 22) (l' := [(0, .ref 180), (1, .int p1)]) (st' := [.ref 180]) rfl ?_
  refine jv_Ev.m jv_i324 (pc' := 25) (st' := [.int (1 : Int32)]) rfl rfl (jv_m_getI rfl rfl rfl rfl) ?_
  refine jv_Ev.br jv_i324 (pc' := 28) (st' := []) rfl (jv_bi_le.trans (jx_gof (by decide))) ?_
  refine jv_Ev.steps jv_i324 2 (pc' := 33) (l' := [(0, .ref 180), (1, .int p1)]) (st' := [.int (1 : Int32)]) rfl ?_
  exact jv_Ev.ret jv_i324 rfl (jv_ret_b (by decide))

set_option maxRecDepth 100000 in
/-- ProgramBoxModel$Store.find -/
theorem jx_e263 (p0 : Int32) (p1 : Int32) (p2 : Int32) (p3 : Int32) (p4 : Int32) (p5 : Int32) (g1 : p1.toInt64 < (0 : Int64)) (g2 : ¬ p1 < (0 : Int32)) : jv_Ms 337 [.ref 180, .int p1, .int p2] (jv_H (jx_K 227) jx_If jx_L0 (jx_R 227)) 228 1572956 (some (.int (0 : Int32)), (jv_H (jx_K 227) (jv_u jx_If 180 0 (1 : Int32)) jx_L0 (jx_R 227)), 228, 1572956) := by
  show jv_Ev 337 0 [(0, .ref 180), (1, .int p1), (2, .int p2)] [] (jv_H (jx_K 227) jx_If jx_L0 (jx_R 227)) 228 1572956 _
  refine jv_Ev.steps jv_i337 2 (pc' := 2) (l' := [(0, .ref 180), (1, .int p1), (2, .int p2)]) (st' := [.int p1, .ref 180]) rfl ?_
  refine jv_Ev.c jv_i337 (pc' := 5) (S' := [.int (1 : Int32)]) jv_i324 [.ref 180, .int p1] rfl rfl rfl rfl (jv_cal rfl (jv_H_at rfl) rfl rfl) rfl (jx_e262 p0 p1 p2 p3 p4 p5 g1 g2) rfl rfl ?_
  refine jv_Ev.br jv_i337 (pc' := 8) (st' := []) rfl (jv_bi_eq.trans (jx_gof (by decide))) ?_
  refine jv_Ev.steps jv_i337 1 (pc' := 9) (l' := [(0, .ref 180), (1, .int p1), (2, .int p2)]) (st' := [.int (0 : Int32)]) rfl ?_
  exact jv_Ev.ret jv_i337 rfl rfl

set_option maxRecDepth 100000 in
/-- ProgramBoxModel$Store.thrown -/
theorem jx_e264 (p0 : Int32) (p1 : Int32) (p2 : Int32) (p3 : Int32) (p4 : Int32) (p5 : Int32) (g1 : p1.toInt64 < (0 : Int64)) (g2 : ¬ p1 < (0 : Int32)) : jv_Ms 318 [.ref 180] (jv_H (jx_K 227) (jv_u jx_If 180 0 (1 : Int32)) jx_L0 (jx_R 227)) 228 1572956 (some (.int (1 : Int32)), (jv_H (jx_K 227) (jv_u jx_If 180 0 (1 : Int32)) jx_L0 (jx_R 227)), 228, 1572956) := by
  show jv_Ev 318 0 [(0, .ref 180)] [] (jv_H (jx_K 227) (jv_u jx_If 180 0 (1 : Int32)) jx_L0 (jx_R 227)) 228 1572956 _
  refine jv_Ev.steps jv_i318 1 (pc' := 1) (l' := [(0, .ref 180)]) (st' := [.ref 180]) rfl ?_
  refine jv_Ev.m jv_i318 (pc' := 4) (st' := [.int (1 : Int32)]) rfl rfl (jv_m_getI rfl rfl rfl rfl) ?_
  exact jv_Ev.ret jv_i318 rfl rfl

set_option maxRecDepth 100000 in
/-- ProgramBoxModel.find -/
theorem jx_e265 (p0 : Int32) (p1 : Int32) (p2 : Int32) (p3 : Int32) (p4 : Int32) (p5 : Int32) (g1 : p1.toInt64 < (0 : Int64)) (g2 : ¬ p1 < (0 : Int32)) : jv_Ms 412 [.ref 178, .int p1, .int p2] (jv_H (jx_K 227) jx_If jx_L0 (jx_R 227)) 228 1572956 (some (.int (0 : Int32)), (jv_H (jx_K 227) (jv_u (jv_u jx_If 180 0 (1 : Int32)) 178 0 (1 : Int32)) jx_L0 (jx_R 227)), 228, 1572956) := by
  show jv_Ev 412 0 [(0, .ref 178), (1, .int p1), (2, .int p2)] [] (jv_H (jx_K 227) jx_If jx_L0 (jx_R 227)) 228 1572956 _
  refine jv_Ev.steps jv_i412 1 (pc' := 1) (l' := [(0, .ref 178), (1, .int p1), (2, .int p2)]) (st' := [.ref 178]) rfl ?_
  refine jv_Ev.m jv_i412 (pc' := 4) (st' := [.ref 180]) rfl rfl (jv_m_getR rfl rfl rfl rfl) ?_
  refine jv_Ev.steps jv_i412 2 (pc' := 6) (l' := [(0, .ref 178), (1, .int p1), (2, .int p2)]) (st' := [.int p2, .int p1, .ref 180]) rfl ?_
  refine jv_Ev.c jv_i412 (pc' := 9) (S' := [.int (0 : Int32)]) jv_i337 [.ref 180, .int p1, .int p2] rfl rfl rfl rfl (jv_cal rfl (jv_H_at rfl) rfl rfl) rfl (jx_e263 p0 p1 p2 p3 p4 p5 g1 g2) rfl rfl ?_
  refine jv_Ev.steps jv_i412 3 (pc' := 12) (l' := [(3, .int (0 : Int32)), (0, .ref 178), (1, .int p1), (2, .int p2)]) (st' := [.ref 178, .ref 178]) rfl ?_
  refine jv_Ev.m jv_i412 (pc' := 15) (st' := [.ref 180, .ref 178]) rfl rfl (jv_m_getR rfl rfl rfl rfl) ?_
  refine jv_Ev.c jv_i412 (pc' := 18) (S' := [.int (1 : Int32), .ref 178]) jv_i318 [.ref 180] rfl rfl rfl rfl (jv_cal rfl (jv_H_at rfl) rfl rfl) rfl (jx_e264 p0 p1 p2 p3 p4 p5 g1 g2) rfl rfl ?_
  refine jv_Ev.m jv_i412 (pc' := 21) (st' := []) rfl rfl (jv_m_putI rfl rfl rfl rfl rfl) ?_
  refine jv_Ev.steps jv_i412 1 (pc' := 22) (l' := [(3, .int (0 : Int32)), (0, .ref 178), (1, .int p1), (2, .int p2)]) (st' := [.int (0 : Int32)]) rfl ?_
  exact jv_Ev.ret jv_i412 rfl rfl

set_option maxRecDepth 100000 in
/-- ProgramBoxModel.thrown -/
theorem jx_e266 (p0 : Int32) (p1 : Int32) (p2 : Int32) (p3 : Int32) (p4 : Int32) (p5 : Int32) (g1 : p1.toInt64 < (0 : Int64)) (g2 : ¬ p1 < (0 : Int32)) : jv_Ms 350 [.ref 178] (jv_H (jx_K 227) (jv_u (jv_u jx_If 180 0 (1 : Int32)) 178 0 (1 : Int32)) jx_L0 (jx_R 227)) 228 1572956 (some (.int (1 : Int32)), (jv_H (jx_K 227) (jv_u (jv_u jx_If 180 0 (1 : Int32)) 178 0 (1 : Int32)) jx_L0 (jx_R 227)), 228, 1572956) := by
  show jv_Ev 350 0 [(0, .ref 178)] [] (jv_H (jx_K 227) (jv_u (jv_u jx_If 180 0 (1 : Int32)) 178 0 (1 : Int32)) jx_L0 (jx_R 227)) 228 1572956 _
  refine jv_Ev.steps jv_i350 1 (pc' := 1) (l' := [(0, .ref 178)]) (st' := [.ref 178]) rfl ?_
  refine jv_Ev.m jv_i350 (pc' := 4) (st' := [.int (1 : Int32)]) rfl rfl (jv_m_getI rfl rfl rfl rfl) ?_
  exact jv_Ev.ret jv_i350 rfl rfl

set_option maxRecDepth 100000 in
/-- the law: case 21, one way -/
theorem jx_l42 (p0 : Int32) (p1 : Int32) (p2 : Int32) (p3 : Int32) (p4 : Int32) (p5 : Int32) (g1 : p1.toInt64 < (0 : Int64)) (g2 : ¬ p1 < (0 : Int32)) (hsw : p0 &&& (31 : Int32) = (21 : Int32)) {p : Program} {l : Launch} {e : Env} {R : Room} {s : State} {m : MethodId} {args : Array Value} {below : List Frame} {meth : Method} {c : Code} {E : jv_Env} {Q : State → Prop} (hTb : jv_TOk jv_Tb) (hT2 : jx_T2Ok) (hl : l.stackTraces = false) (F : jx_F jv_T2 439 E p R s m args meth c) (hZ : jx_Z E s) (hRc : R.cells = 600002) (hRs : R.slots = 7302232) {bb : Nat} {xs : Nat → Int32} (hX : va_X bb 6 xs s E.2.2.2.2) (hbB : bb < E.2.2.2.1) (hE2 : E.1 1000002 = bb) (hQ : ∀ (l0 : jv_L) (G : jv_G) (n sl : Nat), n ≤ 600002 → sl ≤ 7302232 → jw p l e R s m args below meth c E 8 0 0 Q 1532 l0 [.int (1 : Int32)] G n sl) (q0 : xs 0 = p0) (q1 : xs 1 = p1) (q2 : xs 2 = p2) (q3 : xs 3 = p3) (q4 : xs 4 = p4) (q5 : xs 5 = p5) : jw p l e R s m args below meth c E 8 0 0 Q 33 [(0, .ref 1000002), (1, .ref 0), (2, .ref 178), (3, .ref 226), (4, .int (0 : Int32))] [] (jv_H (jx_K 227) jx_If jx_L0 (jx_R 227)) 227 1572950 := by
  refine jw.steps F jx_i439 2 (pc' := 36) (l' := [(0, .ref 1000002), (1, .ref 0), (2, .ref 178), (3, .ref 226), (4, .int (0 : Int32))]) (st' := [.int (0 : Int32), .ref 1000002]) rfl ?_
  refine jw.sld F jx_i439 hX hbB hE2 (pc' := 37) rfl rfl (show vp_in (nI 0) 6 from vp_in_nI (by decide) (by decide)) q0 rfl ?_
  refine jw.steps F jx_i439 2 (pc' := 40) (l' := [(0, .ref 1000002), (1, .ref 0), (2, .ref 178), (3, .ref 226), (4, .int (0 : Int32))]) (st' := [.int (p0 &&& (31 : Int32))]) rfl ?_
  refine jw.br F jx_i439 (pc' := 1136) (st' := []) rfl (by rw [hsw]; rfl) ?_
  refine jw.steps F jx_i439 5 (pc' := 1142) (l' := [(0, .ref 1000002), (1, .ref 0), (2, .ref 178), (3, .ref 226), (4, .int (0 : Int32))]) (st' := [.int (1 : Int32), .ref 1000002, .ref 0]) rfl ?_
  refine jw.sld F jx_i439 hX hbB hE2 (pc' := 1143) rfl rfl (show vp_in (nI 1) 6 from vp_in_nI (by decide) (by decide)) q1 rfl ?_
  refine jw.steps F jx_i439 4 (pc' := 1148) (l' := [(0, .ref 1000002), (1, .ref 0), (2, .ref 178), (3, .ref 226), (4, .int (0 : Int32))]) (st' := [.int (2 : Int32), .ref 1000002, .int p1, .ref 0]) rfl ?_
  refine jw.sld F jx_i439 hX hbB hE2 (pc' := 1149) rfl rfl (show vp_in (nI 2) 6 from vp_in_nI (by decide) (by decide)) q2 rfl ?_
  refine jw.steps F jx_i439 1 (pc' := 1150) (l' := [(0, .ref 1000002), (1, .ref 0), (2, .ref 178), (3, .ref 226), (4, .int (0 : Int32))]) (st' := [.ref 226, .int p2, .int p1, .ref 0]) rfl ?_
  refine jw.wr F hl hZ rfl jx_i439 jx_i453 [.ref 0, .int p1, .int p2, .ref 226] (pc' := 1153) (S' := [.int (1 : Int32)]) rfl (List.mem_of_getElem? (i := 13) rfl) (List.mem_of_getElem? (i := 13) rfl) rfl rfl rfl (jx_w261 hTb hT2 p0 p1 p2 p3 p4 p5 g1 g2) (by omega) (by omega) (by omega) (by omega) rfl rfl ?_
  refine jw.steps F jx_i439 6 (pc' := 1161) (l' := [(5, .int (1 : Int32)), (0, .ref 1000002), (1, .ref 0), (2, .ref 178), (3, .ref 226), (4, .int (0 : Int32))]) (st' := [.int (1 : Int32), .ref 1000002, .ref 178]) rfl ?_
  refine jw.sld F jx_i439 hX hbB hE2 (pc' := 1162) rfl rfl (show vp_in (nI 1) 6 from vp_in_nI (by decide) (by decide)) q1 rfl ?_
  refine jw.steps F jx_i439 4 (pc' := 1167) (l' := [(5, .int (1 : Int32)), (0, .ref 1000002), (1, .ref 0), (2, .ref 178), (3, .ref 226), (4, .int (0 : Int32))]) (st' := [.int (2 : Int32), .ref 1000002, .int p1, .ref 178]) rfl ?_
  refine jw.sld F jx_i439 hX hbB hE2 (pc' := 1168) rfl rfl (show vp_in (nI 2) 6 from vp_in_nI (by decide) (by decide)) q2 rfl ?_
  refine jw.ca hTb F jx_i439 (pc' := 1171) (S' := [.int (0 : Int32)]) rfl jv_i412 [.ref 178, .int p1, .int p2] rfl rfl rfl rfl (jx_cal2 rfl (jv_H_at rfl) rfl rfl) rfl (jx_e265 p0 p1 p2 p3 p4 p5 g1 g2) (by omega) (by omega) rfl rfl ?_
  refine jw.steps F jx_i439 2 (pc' := 1174) (l' := [(6, .int (0 : Int32)), (5, .int (1 : Int32)), (0, .ref 1000002), (1, .ref 0), (2, .ref 178), (3, .ref 226), (4, .int (0 : Int32))]) (st' := [.ref 178]) rfl ?_
  refine jw.ca hTb F jx_i439 (pc' := 1177) (S' := [.int (1 : Int32)]) rfl jv_i350 [.ref 178] rfl rfl rfl rfl (jx_cal2 rfl (jv_H_at rfl) rfl rfl) rfl (jx_e266 p0 p1 p2 p3 p4 p5 g1 g2) (by omega) (by omega) rfl rfl ?_
  refine jw.steps F jx_i439 1 (pc' := 1179) (l' := [(6, .int (0 : Int32)), (5, .int (1 : Int32)), (0, .ref 1000002), (1, .ref 0), (2, .ref 178), (3, .ref 226), (4, .int (0 : Int32))]) (st' := [.int (1 : Int32), .int (1 : Int32)]) rfl ?_
  refine jw.br F jx_i439 (pc' := 1184) (st' := []) rfl (jv_bc_eq.trans (jx_got (by decide))) ?_
  refine jw.steps F jx_i439 1 (pc' := 1186) (l' := [(6, .int (0 : Int32)), (5, .int (1 : Int32)), (0, .ref 1000002), (1, .ref 0), (2, .ref 178), (3, .ref 226), (4, .int (0 : Int32))]) (st' := [.int (1 : Int32)]) rfl ?_
  refine jw.br F jx_i439 (pc' := 1201) (st' := []) rfl (jv_bi_ne.trans (jx_got (by decide))) ?_
  refine jw.steps F jx_i439 5 (pc' := 26) (l' := [(4, .int (6 : Int32)), (6, .int (0 : Int32)), (5, .int (1 : Int32)), (0, .ref 1000002), (1, .ref 0), (2, .ref 178), (3, .ref 226)]) (st' := [.ref 1000002, .int (6 : Int32)]) rfl ?_
  refine jw.slen F jx_i439 hX hbB hE2 (pc' := 27) rfl rfl rfl ?_
  refine jw.steps F jx_i439 2 (pc' := 30) (l' := [(4, .int (6 : Int32)), (6, .int (0 : Int32)), (5, .int (1 : Int32)), (0, .ref 1000002), (1, .ref 0), (2, .ref 178), (3, .ref 226)]) (st' := [.int (0 : Int32), .int (6 : Int32)]) rfl ?_
  refine jw.br F jx_i439 (pc' := 1531) (st' := []) rfl (jv_bc_gt.trans (jx_got (by decide))) ?_
  refine jw.steps F jx_i439 1 (pc' := 1532) (l' := [(4, .int (6 : Int32)), (6, .int (0 : Int32)), (5, .int (1 : Int32)), (0, .ref 1000002), (1, .ref 0), (2, .ref 178), (3, .ref 226)]) (st' := [.int (1 : Int32)]) rfl ?_
  exact hQ _ _ _ _ (by omega) (by omega)

set_option maxRecDepth 100000 in
/-- ProgramBox$Store.map -/
theorem jx_e271 (p0 : Int32) (p1 : Int32) (p2 : Int32) (p3 : Int32) (p4 : Int32) (p5 : Int32) (g1 : ¬ p1.toInt64 < (0 : Int64)) (g2 : p1 < (0 : Int32)) : jv_Ms 126 [.ref 2, .long p1.toInt64] (jv_H (jx_K 227) jx_If jx_L0 (jx_R 227)) 227 1572950 (some (.null), (jv_H (jx_K 227) jx_If jx_L0 (jx_R 227)), 227, 1572950) := by
  show jv_Ev 126 0 [(0, .ref 2), (1, .long p1.toInt64)] [] (jv_H (jx_K 227) jx_If jx_L0 (jx_R 227)) 227 1572950 _
  refine jv_Ev.steps jv_i126 3 (pc' := 3) (l' := [(0, .ref 2), (1, .long p1.toInt64)]) (st' := [.int (lg_cmp p1.toInt64 (0 : Int64))]) rfl ?_
  refine jv_Ev.br jv_i126 (pc' := 6) (st' := []) rfl (jv_bi_lt.trans (jx_gof (fun h => g1 ((lg_cmp_lt p1.toInt64 (0 : Int64)).mp h)))) ?_
  refine jv_Ev.steps jv_i126 2 (pc' := 8) (l' := [(0, .ref 2), (1, .long p1.toInt64)]) (st' := [.ref 2, .long p1.toInt64]) rfl ?_
  refine jv_Ev.m jv_i126 (pc' := 11) (st' := [.int (0 : Int32), .long p1.toInt64]) rfl rfl (jv_m_getI rfl rfl rfl rfl) ?_
  refine jv_Ev.steps jv_i126 2 (pc' := 13) (l' := [(0, .ref 2), (1, .long p1.toInt64)]) (st' := [.int (lg_cmp p1.toInt64 (0 : Int64))]) rfl ?_
  refine jv_Ev.br jv_i126 (pc' := 16) (st' := []) rfl (jv_bi_lt.trans (jx_gof (fun h => g1 ((lg_cmp_lt p1.toInt64 (0 : Int64)).mp h)))) ?_
  refine jv_Ev.steps jv_i126 2 (pc' := 27) (l' := [(0, .ref 2), (1, .long p1.toInt64)]) (st' := [.null]) rfl ?_
  exact jv_Ev.ret jv_i126 rfl rfl

set_option maxRecDepth 100000 in
/-- ProgramBox.mapOf: it throws -/
theorem jx_e272 (hTb : jv_TOk jv_Tb) (p0 : Int32) (p1 : Int32) (p2 : Int32) (p3 : Int32) (p4 : Int32) (p5 : Int32) (g1 : ¬ p1.toInt64 < (0 : Int64)) (g2 : p1 < (0 : Int32)) : jx_Th 429 [.ref 0, .int p1] (jv_H (jx_K 227) jx_If jx_L0 (jx_R 227)) 227 1572950 2 (jv_H (jx_K 227) jx_If jx_L0 (jx_R 227)) 228 1572956 := by
  refine jx_Th.of hTb (y := 429) rfl (Nat.le_of_ble_eq_true rfl) ?_
  intro p l e R s m args below meth c E hl F hZ h0 ht hRc hRs
  show jw p l e R s m args below meth c E 3 227 1572950 _ 0 [(0, .ref 0), (1, .int p1)] [] (jv_H (jx_K 227) jx_If jx_L0 (jx_R 227)) 227 1572950
  refine jw.steps F jv_i429 1 (pc' := 1) (l' := [(0, .ref 0), (1, .int p1)]) (st' := [.ref 0]) rfl ?_
  refine jw.me F jv_i429 (pc' := 4) (st' := [.ref 2]) rfl rfl (jv_m_getR rfl rfl rfl rfl) ?_
  refine jw.steps F jv_i429 2 (pc' := 6) (l' := [(0, .ref 0), (1, .int p1)]) (st' := [.long p1.toInt64, .ref 2]) rfl ?_
  refine jw.ca hTb F jv_i429 (pc' := 9) (S' := [.null]) rfl jv_i126 [.ref 2, .long p1.toInt64] rfl rfl rfl rfl (jv_cal rfl (jv_H_at rfl) rfl rfl) rfl (jx_e271 p0 p1 p2 p3 p4 p5 g1 g2) (by omega) (by omega) rfl rfl ?_
  refine jw.steps F jv_i429 2 (pc' := 11) (l' := [(2, .null), (0, .ref 0), (1, .int p1)]) (st' := [.null]) rfl ?_
  refine jw.br F jv_i429 (pc' := 14) (st' := []) rfl rfl ?_
  exact jw.throw hl F hZ h0 rfl jv_i429 ht 2 183 "there is no such map" (List.mem_of_getElem? (i := 11) rfl) (by decide +kernel) (by decide +kernel) (by decide +kernel) (by decide +kernel) (by decide +kernel) rfl (by decide) (by decide) (by decide) (by omega) (by omega)

set_option maxRecDepth 100000 in
/-- ProgramBox.find: it throws -/
theorem jx_e273 (hTb : jv_TOk jv_Tb) (p0 : Int32) (p1 : Int32) (p2 : Int32) (p3 : Int32) (p4 : Int32) (p5 : Int32) (g1 : ¬ p1.toInt64 < (0 : Int64)) (g2 : p1 < (0 : Int32)) : jx_Th 434 [.ref 0, .int p1, .int p2] (jv_H (jx_K 227) jx_If jx_L0 (jx_R 227)) 227 1572950 2 (jv_H (jx_K 227) jx_If jx_L0 (jx_R 227)) 228 1572956 := by
  refine jx_Th.of hTb (y := 434) rfl (Nat.le_of_ble_eq_true rfl) ?_
  intro p l e R s m args below meth c E hl F hZ h0 ht hRc hRs
  show jw p l e R s m args below meth c E 5 227 1572950 _ 0 [(0, .ref 0), (1, .int p1), (2, .int p2)] [] (jv_H (jx_K 227) jx_If jx_L0 (jx_R 227)) 227 1572950
  refine jw.steps F jv_i434 2 (pc' := 2) (l' := [(0, .ref 0), (1, .int p1), (2, .int p2)]) (st' := [.int p1, .ref 0]) rfl ?_
  exact jw.prop hTb hl F hZ jv_i434 ht rfl jv_i429 [.ref 0, .int p1] rfl rfl rfl rfl rfl (jv_cal rfl (jv_H_at rfl) rfl rfl) rfl (jx_e272 hTb p0 p1 p2 p3 p4 p5 g1 g2) (by omega) (by omega) (by omega) (by omega)

set_option maxRecDepth 100000 in
/-- the law's find -/
theorem jx_w274 (hTb : jv_TOk jv_Tb) (hT2 : jx_T2Ok) (p0 : Int32) (p1 : Int32) (p2 : Int32) (p3 : Int32) (p4 : Int32) (p5 : Int32) (g1 : ¬ p1.toInt64 < (0 : Int64)) (g2 : p1 < (0 : Int32)) : jx_Wr 453 [(0, 10, 13, 36)] [.ref 0, .int p1, .int p2, .ref 226] (jv_H (jx_K 227) jx_If jx_L0 (jx_R 227)) 227 1572950 (some (.int (1 : Int32)), (jv_H (jx_K 227) jx_If jx_L0 (jx_R 227)), 228, 1572956) := by
  refine jx_Wr.of hT2 (by decide) rfl (Nat.le_of_ble_eq_true rfl) ?_
  intro p l e R s m args below meth c E hl F hZ htb hRc hRs
  show jw p l e R s m args below meth c E 5 227 1572950 _ 0 [(0, .ref 0), (1, .int p1), (2, .int p2), (3, .ref 226)] [] (jv_H (jx_K 227) jx_If jx_L0 (jx_R 227)) 227 1572950
  have hRc : R.cells = 228 - 227 := hRc
  have hRs : R.slots = 1572956 - 1572950 := hRs
  refine jw.steps F jx_i453 5 (pc' := 5) (l' := [(0, .ref 0), (1, .int p1), (2, .int p2), (3, .ref 226)]) (st' := [.int p2, .int p1, .ref 0, .int (0 : Int32), .ref 226]) rfl ?_
  refine jw.cat hTb hl F hZ rfl jx_i453 htb rfl jv_i434 [.ref 0, .int p1, .int p2] rfl rfl rfl rfl rfl (jx_cal2 rfl (jv_H_at rfl) rfl rfl) rfl (jx_e273 hTb p0 p1 p2 p3 p4 p5 g1 g2) (by omega) (by omega) (by omega) (by omega) [] (0, 10, 13, 36) [] rfl (fun z h => absurd h List.not_mem_nil) (by decide) rfl rfl (Or.inl ⟨rfl, rfl⟩) (by decide) ?_
  refine jw.steps F jx_i453 1 (pc' := 16) (l' := []) (st' := [.int (1 : Int32)]) rfl ?_
  exact jw.ret F jx_i453 rfl rfl

set_option maxRecDepth 100000 in
/-- ProgramBoxModel$Store.noMap -/
theorem jx_e275 (p0 : Int32) (p1 : Int32) (p2 : Int32) (p3 : Int32) (p4 : Int32) (p5 : Int32) (g1 : ¬ p1.toInt64 < (0 : Int64)) (g2 : p1 < (0 : Int32)) : jv_Ms 324 [.ref 180, .int p1] (jv_H (jx_K 227) jx_If jx_L0 (jx_R 227)) 228 1572956 (some (.int (1 : Int32)), (jv_H (jx_K 227) (jv_u jx_If 180 0 (1 : Int32)) jx_L0 (jx_R 227)), 228, 1572956) := by
  show jv_Ev 324 0 [(0, .ref 180), (1, .int p1)] [] (jv_H (jx_K 227) jx_If jx_L0 (jx_R 227)) 228 1572956 _
  refine jv_Ev.steps jv_i324 2 (pc' := 2) (l' := [(0, .ref 180), (1, .int p1)]) (st' := [.int p1, .ref 180]) rfl ?_
  refine jv_Ev.br jv_i324 (pc' := 13) (st' := [.ref 180]) rfl (jv_bi_lt.trans (jx_got g2)) ?_
  refine jv_Ev.steps jv_i324 2 (pc' := 18) (l' := [(0, .ref 180), (1, .int p1)]) (st' := [.int (1 : Int32), .ref 180]) rfl ?_
  refine jv_Ev.m jv_i324 (pc' := 21) (st' := []) rfl rfl (jv_m_putI rfl rfl rfl rfl rfl) ?_
  refine jv_Ev.steps jv_i324 1 (pc' := 22) (l' := [(0, .ref 180), (1, .int p1)]) (st' := [.ref 180]) rfl ?_
  refine jv_Ev.m jv_i324 (pc' := 25) (st' := [.int (1 : Int32)]) rfl rfl (jv_m_getI rfl rfl rfl rfl) ?_
  refine jv_Ev.br jv_i324 (pc' := 28) (st' := []) rfl (jv_bi_le.trans (jx_gof (by decide))) ?_
  refine jv_Ev.steps jv_i324 2 (pc' := 33) (l' := [(0, .ref 180), (1, .int p1)]) (st' := [.int (1 : Int32)]) rfl ?_
  exact jv_Ev.ret jv_i324 rfl (jv_ret_b (by decide))

set_option maxRecDepth 100000 in
/-- ProgramBoxModel$Store.find -/
theorem jx_e276 (p0 : Int32) (p1 : Int32) (p2 : Int32) (p3 : Int32) (p4 : Int32) (p5 : Int32) (g1 : ¬ p1.toInt64 < (0 : Int64)) (g2 : p1 < (0 : Int32)) : jv_Ms 337 [.ref 180, .int p1, .int p2] (jv_H (jx_K 227) jx_If jx_L0 (jx_R 227)) 228 1572956 (some (.int (0 : Int32)), (jv_H (jx_K 227) (jv_u jx_If 180 0 (1 : Int32)) jx_L0 (jx_R 227)), 228, 1572956) := by
  show jv_Ev 337 0 [(0, .ref 180), (1, .int p1), (2, .int p2)] [] (jv_H (jx_K 227) jx_If jx_L0 (jx_R 227)) 228 1572956 _
  refine jv_Ev.steps jv_i337 2 (pc' := 2) (l' := [(0, .ref 180), (1, .int p1), (2, .int p2)]) (st' := [.int p1, .ref 180]) rfl ?_
  refine jv_Ev.c jv_i337 (pc' := 5) (S' := [.int (1 : Int32)]) jv_i324 [.ref 180, .int p1] rfl rfl rfl rfl (jv_cal rfl (jv_H_at rfl) rfl rfl) rfl (jx_e275 p0 p1 p2 p3 p4 p5 g1 g2) rfl rfl ?_
  refine jv_Ev.br jv_i337 (pc' := 8) (st' := []) rfl (jv_bi_eq.trans (jx_gof (by decide))) ?_
  refine jv_Ev.steps jv_i337 1 (pc' := 9) (l' := [(0, .ref 180), (1, .int p1), (2, .int p2)]) (st' := [.int (0 : Int32)]) rfl ?_
  exact jv_Ev.ret jv_i337 rfl rfl

set_option maxRecDepth 100000 in
/-- ProgramBoxModel$Store.thrown -/
theorem jx_e277 (p0 : Int32) (p1 : Int32) (p2 : Int32) (p3 : Int32) (p4 : Int32) (p5 : Int32) (g1 : ¬ p1.toInt64 < (0 : Int64)) (g2 : p1 < (0 : Int32)) : jv_Ms 318 [.ref 180] (jv_H (jx_K 227) (jv_u jx_If 180 0 (1 : Int32)) jx_L0 (jx_R 227)) 228 1572956 (some (.int (1 : Int32)), (jv_H (jx_K 227) (jv_u jx_If 180 0 (1 : Int32)) jx_L0 (jx_R 227)), 228, 1572956) := by
  show jv_Ev 318 0 [(0, .ref 180)] [] (jv_H (jx_K 227) (jv_u jx_If 180 0 (1 : Int32)) jx_L0 (jx_R 227)) 228 1572956 _
  refine jv_Ev.steps jv_i318 1 (pc' := 1) (l' := [(0, .ref 180)]) (st' := [.ref 180]) rfl ?_
  refine jv_Ev.m jv_i318 (pc' := 4) (st' := [.int (1 : Int32)]) rfl rfl (jv_m_getI rfl rfl rfl rfl) ?_
  exact jv_Ev.ret jv_i318 rfl rfl

set_option maxRecDepth 100000 in
/-- ProgramBoxModel.find -/
theorem jx_e278 (p0 : Int32) (p1 : Int32) (p2 : Int32) (p3 : Int32) (p4 : Int32) (p5 : Int32) (g1 : ¬ p1.toInt64 < (0 : Int64)) (g2 : p1 < (0 : Int32)) : jv_Ms 412 [.ref 178, .int p1, .int p2] (jv_H (jx_K 227) jx_If jx_L0 (jx_R 227)) 228 1572956 (some (.int (0 : Int32)), (jv_H (jx_K 227) (jv_u (jv_u jx_If 180 0 (1 : Int32)) 178 0 (1 : Int32)) jx_L0 (jx_R 227)), 228, 1572956) := by
  show jv_Ev 412 0 [(0, .ref 178), (1, .int p1), (2, .int p2)] [] (jv_H (jx_K 227) jx_If jx_L0 (jx_R 227)) 228 1572956 _
  refine jv_Ev.steps jv_i412 1 (pc' := 1) (l' := [(0, .ref 178), (1, .int p1), (2, .int p2)]) (st' := [.ref 178]) rfl ?_
  refine jv_Ev.m jv_i412 (pc' := 4) (st' := [.ref 180]) rfl rfl (jv_m_getR rfl rfl rfl rfl) ?_
  refine jv_Ev.steps jv_i412 2 (pc' := 6) (l' := [(0, .ref 178), (1, .int p1), (2, .int p2)]) (st' := [.int p2, .int p1, .ref 180]) rfl ?_
  refine jv_Ev.c jv_i412 (pc' := 9) (S' := [.int (0 : Int32)]) jv_i337 [.ref 180, .int p1, .int p2] rfl rfl rfl rfl (jv_cal rfl (jv_H_at rfl) rfl rfl) rfl (jx_e276 p0 p1 p2 p3 p4 p5 g1 g2) rfl rfl ?_
  refine jv_Ev.steps jv_i412 3 (pc' := 12) (l' := [(3, .int (0 : Int32)), (0, .ref 178), (1, .int p1), (2, .int p2)]) (st' := [.ref 178, .ref 178]) rfl ?_
  refine jv_Ev.m jv_i412 (pc' := 15) (st' := [.ref 180, .ref 178]) rfl rfl (jv_m_getR rfl rfl rfl rfl) ?_
  refine jv_Ev.c jv_i412 (pc' := 18) (S' := [.int (1 : Int32), .ref 178]) jv_i318 [.ref 180] rfl rfl rfl rfl (jv_cal rfl (jv_H_at rfl) rfl rfl) rfl (jx_e277 p0 p1 p2 p3 p4 p5 g1 g2) rfl rfl ?_
  refine jv_Ev.m jv_i412 (pc' := 21) (st' := []) rfl rfl (jv_m_putI rfl rfl rfl rfl rfl) ?_
  refine jv_Ev.steps jv_i412 1 (pc' := 22) (l' := [(3, .int (0 : Int32)), (0, .ref 178), (1, .int p1), (2, .int p2)]) (st' := [.int (0 : Int32)]) rfl ?_
  exact jv_Ev.ret jv_i412 rfl rfl

set_option maxRecDepth 100000 in
/-- ProgramBoxModel.thrown -/
theorem jx_e279 (p0 : Int32) (p1 : Int32) (p2 : Int32) (p3 : Int32) (p4 : Int32) (p5 : Int32) (g1 : ¬ p1.toInt64 < (0 : Int64)) (g2 : p1 < (0 : Int32)) : jv_Ms 350 [.ref 178] (jv_H (jx_K 227) (jv_u (jv_u jx_If 180 0 (1 : Int32)) 178 0 (1 : Int32)) jx_L0 (jx_R 227)) 228 1572956 (some (.int (1 : Int32)), (jv_H (jx_K 227) (jv_u (jv_u jx_If 180 0 (1 : Int32)) 178 0 (1 : Int32)) jx_L0 (jx_R 227)), 228, 1572956) := by
  show jv_Ev 350 0 [(0, .ref 178)] [] (jv_H (jx_K 227) (jv_u (jv_u jx_If 180 0 (1 : Int32)) 178 0 (1 : Int32)) jx_L0 (jx_R 227)) 228 1572956 _
  refine jv_Ev.steps jv_i350 1 (pc' := 1) (l' := [(0, .ref 178)]) (st' := [.ref 178]) rfl ?_
  refine jv_Ev.m jv_i350 (pc' := 4) (st' := [.int (1 : Int32)]) rfl rfl (jv_m_getI rfl rfl rfl rfl) ?_
  exact jv_Ev.ret jv_i350 rfl rfl

set_option maxRecDepth 100000 in
/-- the law: case 21, one way -/
theorem jx_l43 (p0 : Int32) (p1 : Int32) (p2 : Int32) (p3 : Int32) (p4 : Int32) (p5 : Int32) (g1 : ¬ p1.toInt64 < (0 : Int64)) (g2 : p1 < (0 : Int32)) (hsw : p0 &&& (31 : Int32) = (21 : Int32)) {p : Program} {l : Launch} {e : Env} {R : Room} {s : State} {m : MethodId} {args : Array Value} {below : List Frame} {meth : Method} {c : Code} {E : jv_Env} {Q : State → Prop} (hTb : jv_TOk jv_Tb) (hT2 : jx_T2Ok) (hl : l.stackTraces = false) (F : jx_F jv_T2 439 E p R s m args meth c) (hZ : jx_Z E s) (hRc : R.cells = 600002) (hRs : R.slots = 7302232) {bb : Nat} {xs : Nat → Int32} (hX : va_X bb 6 xs s E.2.2.2.2) (hbB : bb < E.2.2.2.1) (hE2 : E.1 1000002 = bb) (hQ : ∀ (l0 : jv_L) (G : jv_G) (n sl : Nat), n ≤ 600002 → sl ≤ 7302232 → jw p l e R s m args below meth c E 8 0 0 Q 1532 l0 [.int (1 : Int32)] G n sl) (q0 : xs 0 = p0) (q1 : xs 1 = p1) (q2 : xs 2 = p2) (q3 : xs 3 = p3) (q4 : xs 4 = p4) (q5 : xs 5 = p5) : jw p l e R s m args below meth c E 8 0 0 Q 33 [(0, .ref 1000002), (1, .ref 0), (2, .ref 178), (3, .ref 226), (4, .int (0 : Int32))] [] (jv_H (jx_K 227) jx_If jx_L0 (jx_R 227)) 227 1572950 := by
  refine jw.steps F jx_i439 2 (pc' := 36) (l' := [(0, .ref 1000002), (1, .ref 0), (2, .ref 178), (3, .ref 226), (4, .int (0 : Int32))]) (st' := [.int (0 : Int32), .ref 1000002]) rfl ?_
  refine jw.sld F jx_i439 hX hbB hE2 (pc' := 37) rfl rfl (show vp_in (nI 0) 6 from vp_in_nI (by decide) (by decide)) q0 rfl ?_
  refine jw.steps F jx_i439 2 (pc' := 40) (l' := [(0, .ref 1000002), (1, .ref 0), (2, .ref 178), (3, .ref 226), (4, .int (0 : Int32))]) (st' := [.int (p0 &&& (31 : Int32))]) rfl ?_
  refine jw.br F jx_i439 (pc' := 1136) (st' := []) rfl (by rw [hsw]; rfl) ?_
  refine jw.steps F jx_i439 5 (pc' := 1142) (l' := [(0, .ref 1000002), (1, .ref 0), (2, .ref 178), (3, .ref 226), (4, .int (0 : Int32))]) (st' := [.int (1 : Int32), .ref 1000002, .ref 0]) rfl ?_
  refine jw.sld F jx_i439 hX hbB hE2 (pc' := 1143) rfl rfl (show vp_in (nI 1) 6 from vp_in_nI (by decide) (by decide)) q1 rfl ?_
  refine jw.steps F jx_i439 4 (pc' := 1148) (l' := [(0, .ref 1000002), (1, .ref 0), (2, .ref 178), (3, .ref 226), (4, .int (0 : Int32))]) (st' := [.int (2 : Int32), .ref 1000002, .int p1, .ref 0]) rfl ?_
  refine jw.sld F jx_i439 hX hbB hE2 (pc' := 1149) rfl rfl (show vp_in (nI 2) 6 from vp_in_nI (by decide) (by decide)) q2 rfl ?_
  refine jw.steps F jx_i439 1 (pc' := 1150) (l' := [(0, .ref 1000002), (1, .ref 0), (2, .ref 178), (3, .ref 226), (4, .int (0 : Int32))]) (st' := [.ref 226, .int p2, .int p1, .ref 0]) rfl ?_
  refine jw.wr F hl hZ rfl jx_i439 jx_i453 [.ref 0, .int p1, .int p2, .ref 226] (pc' := 1153) (S' := [.int (1 : Int32)]) rfl (List.mem_of_getElem? (i := 13) rfl) (List.mem_of_getElem? (i := 13) rfl) rfl rfl rfl (jx_w274 hTb hT2 p0 p1 p2 p3 p4 p5 g1 g2) (by omega) (by omega) (by omega) (by omega) rfl rfl ?_
  refine jw.steps F jx_i439 6 (pc' := 1161) (l' := [(5, .int (1 : Int32)), (0, .ref 1000002), (1, .ref 0), (2, .ref 178), (3, .ref 226), (4, .int (0 : Int32))]) (st' := [.int (1 : Int32), .ref 1000002, .ref 178]) rfl ?_
  refine jw.sld F jx_i439 hX hbB hE2 (pc' := 1162) rfl rfl (show vp_in (nI 1) 6 from vp_in_nI (by decide) (by decide)) q1 rfl ?_
  refine jw.steps F jx_i439 4 (pc' := 1167) (l' := [(5, .int (1 : Int32)), (0, .ref 1000002), (1, .ref 0), (2, .ref 178), (3, .ref 226), (4, .int (0 : Int32))]) (st' := [.int (2 : Int32), .ref 1000002, .int p1, .ref 178]) rfl ?_
  refine jw.sld F jx_i439 hX hbB hE2 (pc' := 1168) rfl rfl (show vp_in (nI 2) 6 from vp_in_nI (by decide) (by decide)) q2 rfl ?_
  refine jw.ca hTb F jx_i439 (pc' := 1171) (S' := [.int (0 : Int32)]) rfl jv_i412 [.ref 178, .int p1, .int p2] rfl rfl rfl rfl (jx_cal2 rfl (jv_H_at rfl) rfl rfl) rfl (jx_e278 p0 p1 p2 p3 p4 p5 g1 g2) (by omega) (by omega) rfl rfl ?_
  refine jw.steps F jx_i439 2 (pc' := 1174) (l' := [(6, .int (0 : Int32)), (5, .int (1 : Int32)), (0, .ref 1000002), (1, .ref 0), (2, .ref 178), (3, .ref 226), (4, .int (0 : Int32))]) (st' := [.ref 178]) rfl ?_
  refine jw.ca hTb F jx_i439 (pc' := 1177) (S' := [.int (1 : Int32)]) rfl jv_i350 [.ref 178] rfl rfl rfl rfl (jx_cal2 rfl (jv_H_at rfl) rfl rfl) rfl (jx_e279 p0 p1 p2 p3 p4 p5 g1 g2) (by omega) (by omega) rfl rfl ?_
  refine jw.steps F jx_i439 1 (pc' := 1179) (l' := [(6, .int (0 : Int32)), (5, .int (1 : Int32)), (0, .ref 1000002), (1, .ref 0), (2, .ref 178), (3, .ref 226), (4, .int (0 : Int32))]) (st' := [.int (1 : Int32), .int (1 : Int32)]) rfl ?_
  refine jw.br F jx_i439 (pc' := 1184) (st' := []) rfl (jv_bc_eq.trans (jx_got (by decide))) ?_
  refine jw.steps F jx_i439 1 (pc' := 1186) (l' := [(6, .int (0 : Int32)), (5, .int (1 : Int32)), (0, .ref 1000002), (1, .ref 0), (2, .ref 178), (3, .ref 226), (4, .int (0 : Int32))]) (st' := [.int (1 : Int32)]) rfl ?_
  refine jw.br F jx_i439 (pc' := 1201) (st' := []) rfl (jv_bi_ne.trans (jx_got (by decide))) ?_
  refine jw.steps F jx_i439 5 (pc' := 26) (l' := [(4, .int (6 : Int32)), (6, .int (0 : Int32)), (5, .int (1 : Int32)), (0, .ref 1000002), (1, .ref 0), (2, .ref 178), (3, .ref 226)]) (st' := [.ref 1000002, .int (6 : Int32)]) rfl ?_
  refine jw.slen F jx_i439 hX hbB hE2 (pc' := 27) rfl rfl rfl ?_
  refine jw.steps F jx_i439 2 (pc' := 30) (l' := [(4, .int (6 : Int32)), (6, .int (0 : Int32)), (5, .int (1 : Int32)), (0, .ref 1000002), (1, .ref 0), (2, .ref 178), (3, .ref 226)]) (st' := [.int (0 : Int32), .int (6 : Int32)]) rfl ?_
  refine jw.br F jx_i439 (pc' := 1531) (st' := []) rfl (jv_bc_gt.trans (jx_got (by decide))) ?_
  refine jw.steps F jx_i439 1 (pc' := 1532) (l' := [(4, .int (6 : Int32)), (6, .int (0 : Int32)), (5, .int (1 : Int32)), (0, .ref 1000002), (1, .ref 0), (2, .ref 178), (3, .ref 226)]) (st' := [.int (1 : Int32)]) rfl ?_
  exact hQ _ _ _ _ (by omega) (by omega)

set_option maxRecDepth 100000 in
/-- ProgramBox$Store.map -/
theorem jx_e280 (p0 : Int32) (p1 : Int32) (p2 : Int32) (p3 : Int32) (p4 : Int32) (p5 : Int32) (g1 : ¬ p1.toInt64 < (0 : Int64)) (g2 : ¬ p1 < (0 : Int32)) : jv_Ms 126 [.ref 2, .long p1.toInt64] (jv_H (jx_K 227) jx_If jx_L0 (jx_R 227)) 227 1572950 (some (.null), (jv_H (jx_K 227) jx_If jx_L0 (jx_R 227)), 227, 1572950) := by
  show jv_Ev 126 0 [(0, .ref 2), (1, .long p1.toInt64)] [] (jv_H (jx_K 227) jx_If jx_L0 (jx_R 227)) 227 1572950 _
  refine jv_Ev.steps jv_i126 3 (pc' := 3) (l' := [(0, .ref 2), (1, .long p1.toInt64)]) (st' := [.int (lg_cmp p1.toInt64 (0 : Int64))]) rfl ?_
  refine jv_Ev.br jv_i126 (pc' := 6) (st' := []) rfl (jv_bi_lt.trans (jx_gof (fun h => g1 ((lg_cmp_lt p1.toInt64 (0 : Int64)).mp h)))) ?_
  refine jv_Ev.steps jv_i126 2 (pc' := 8) (l' := [(0, .ref 2), (1, .long p1.toInt64)]) (st' := [.ref 2, .long p1.toInt64]) rfl ?_
  refine jv_Ev.m jv_i126 (pc' := 11) (st' := [.int (0 : Int32), .long p1.toInt64]) rfl rfl (jv_m_getI rfl rfl rfl rfl) ?_
  refine jv_Ev.steps jv_i126 2 (pc' := 13) (l' := [(0, .ref 2), (1, .long p1.toInt64)]) (st' := [.int (lg_cmp p1.toInt64 (0 : Int64))]) rfl ?_
  refine jv_Ev.br jv_i126 (pc' := 16) (st' := []) rfl (jv_bi_lt.trans (jx_gof (fun h => g1 ((lg_cmp_lt p1.toInt64 (0 : Int64)).mp h)))) ?_
  refine jv_Ev.steps jv_i126 2 (pc' := 27) (l' := [(0, .ref 2), (1, .long p1.toInt64)]) (st' := [.null]) rfl ?_
  exact jv_Ev.ret jv_i126 rfl rfl

set_option maxRecDepth 100000 in
/-- ProgramBox.mapOf: it throws -/
theorem jx_e281 (hTb : jv_TOk jv_Tb) (p0 : Int32) (p1 : Int32) (p2 : Int32) (p3 : Int32) (p4 : Int32) (p5 : Int32) (g1 : ¬ p1.toInt64 < (0 : Int64)) (g2 : ¬ p1 < (0 : Int32)) : jx_Th 429 [.ref 0, .int p1] (jv_H (jx_K 227) jx_If jx_L0 (jx_R 227)) 227 1572950 2 (jv_H (jx_K 227) jx_If jx_L0 (jx_R 227)) 228 1572956 := by
  refine jx_Th.of hTb (y := 429) rfl (Nat.le_of_ble_eq_true rfl) ?_
  intro p l e R s m args below meth c E hl F hZ h0 ht hRc hRs
  show jw p l e R s m args below meth c E 3 227 1572950 _ 0 [(0, .ref 0), (1, .int p1)] [] (jv_H (jx_K 227) jx_If jx_L0 (jx_R 227)) 227 1572950
  refine jw.steps F jv_i429 1 (pc' := 1) (l' := [(0, .ref 0), (1, .int p1)]) (st' := [.ref 0]) rfl ?_
  refine jw.me F jv_i429 (pc' := 4) (st' := [.ref 2]) rfl rfl (jv_m_getR rfl rfl rfl rfl) ?_
  refine jw.steps F jv_i429 2 (pc' := 6) (l' := [(0, .ref 0), (1, .int p1)]) (st' := [.long p1.toInt64, .ref 2]) rfl ?_
  refine jw.ca hTb F jv_i429 (pc' := 9) (S' := [.null]) rfl jv_i126 [.ref 2, .long p1.toInt64] rfl rfl rfl rfl (jv_cal rfl (jv_H_at rfl) rfl rfl) rfl (jx_e280 p0 p1 p2 p3 p4 p5 g1 g2) (by omega) (by omega) rfl rfl ?_
  refine jw.steps F jv_i429 2 (pc' := 11) (l' := [(2, .null), (0, .ref 0), (1, .int p1)]) (st' := [.null]) rfl ?_
  refine jw.br F jv_i429 (pc' := 14) (st' := []) rfl rfl ?_
  exact jw.throw hl F hZ h0 rfl jv_i429 ht 2 183 "there is no such map" (List.mem_of_getElem? (i := 11) rfl) (by decide +kernel) (by decide +kernel) (by decide +kernel) (by decide +kernel) (by decide +kernel) rfl (by decide) (by decide) (by decide) (by omega) (by omega)

set_option maxRecDepth 100000 in
/-- ProgramBox.find: it throws -/
theorem jx_e282 (hTb : jv_TOk jv_Tb) (p0 : Int32) (p1 : Int32) (p2 : Int32) (p3 : Int32) (p4 : Int32) (p5 : Int32) (g1 : ¬ p1.toInt64 < (0 : Int64)) (g2 : ¬ p1 < (0 : Int32)) : jx_Th 434 [.ref 0, .int p1, .int p2] (jv_H (jx_K 227) jx_If jx_L0 (jx_R 227)) 227 1572950 2 (jv_H (jx_K 227) jx_If jx_L0 (jx_R 227)) 228 1572956 := by
  refine jx_Th.of hTb (y := 434) rfl (Nat.le_of_ble_eq_true rfl) ?_
  intro p l e R s m args below meth c E hl F hZ h0 ht hRc hRs
  show jw p l e R s m args below meth c E 5 227 1572950 _ 0 [(0, .ref 0), (1, .int p1), (2, .int p2)] [] (jv_H (jx_K 227) jx_If jx_L0 (jx_R 227)) 227 1572950
  refine jw.steps F jv_i434 2 (pc' := 2) (l' := [(0, .ref 0), (1, .int p1), (2, .int p2)]) (st' := [.int p1, .ref 0]) rfl ?_
  exact jw.prop hTb hl F hZ jv_i434 ht rfl jv_i429 [.ref 0, .int p1] rfl rfl rfl rfl rfl (jv_cal rfl (jv_H_at rfl) rfl rfl) rfl (jx_e281 hTb p0 p1 p2 p3 p4 p5 g1 g2) (by omega) (by omega) (by omega) (by omega)

set_option maxRecDepth 100000 in
/-- the law's find -/
theorem jx_w283 (hTb : jv_TOk jv_Tb) (hT2 : jx_T2Ok) (p0 : Int32) (p1 : Int32) (p2 : Int32) (p3 : Int32) (p4 : Int32) (p5 : Int32) (g1 : ¬ p1.toInt64 < (0 : Int64)) (g2 : ¬ p1 < (0 : Int32)) : jx_Wr 453 [(0, 10, 13, 36)] [.ref 0, .int p1, .int p2, .ref 226] (jv_H (jx_K 227) jx_If jx_L0 (jx_R 227)) 227 1572950 (some (.int (1 : Int32)), (jv_H (jx_K 227) jx_If jx_L0 (jx_R 227)), 228, 1572956) := by
  refine jx_Wr.of hT2 (by decide) rfl (Nat.le_of_ble_eq_true rfl) ?_
  intro p l e R s m args below meth c E hl F hZ htb hRc hRs
  show jw p l e R s m args below meth c E 5 227 1572950 _ 0 [(0, .ref 0), (1, .int p1), (2, .int p2), (3, .ref 226)] [] (jv_H (jx_K 227) jx_If jx_L0 (jx_R 227)) 227 1572950
  have hRc : R.cells = 228 - 227 := hRc
  have hRs : R.slots = 1572956 - 1572950 := hRs
  refine jw.steps F jx_i453 5 (pc' := 5) (l' := [(0, .ref 0), (1, .int p1), (2, .int p2), (3, .ref 226)]) (st' := [.int p2, .int p1, .ref 0, .int (0 : Int32), .ref 226]) rfl ?_
  refine jw.cat hTb hl F hZ rfl jx_i453 htb rfl jv_i434 [.ref 0, .int p1, .int p2] rfl rfl rfl rfl rfl (jx_cal2 rfl (jv_H_at rfl) rfl rfl) rfl (jx_e282 hTb p0 p1 p2 p3 p4 p5 g1 g2) (by omega) (by omega) (by omega) (by omega) [] (0, 10, 13, 36) [] rfl (fun z h => absurd h List.not_mem_nil) (by decide) rfl rfl (Or.inl ⟨rfl, rfl⟩) (by decide) ?_
  refine jw.steps F jx_i453 1 (pc' := 16) (l' := []) (st' := [.int (1 : Int32)]) rfl ?_
  exact jw.ret F jx_i453 rfl rfl

set_option maxRecDepth 100000 in
/-- ProgramBoxModel$Store.noMap -/
theorem jx_e284 (p0 : Int32) (p1 : Int32) (p2 : Int32) (p3 : Int32) (p4 : Int32) (p5 : Int32) (g1 : ¬ p1.toInt64 < (0 : Int64)) (g2 : ¬ p1 < (0 : Int32)) : jv_Ms 324 [.ref 180, .int p1] (jv_H (jx_K 227) jx_If jx_L0 (jx_R 227)) 228 1572956 (some (.int (1 : Int32)), (jv_H (jx_K 227) (jv_u jx_If 180 0 (1 : Int32)) jx_L0 (jx_R 227)), 228, 1572956) := by
  show jv_Ev 324 0 [(0, .ref 180), (1, .int p1)] [] (jv_H (jx_K 227) jx_If jx_L0 (jx_R 227)) 228 1572956 _
  refine jv_Ev.steps jv_i324 2 (pc' := 2) (l' := [(0, .ref 180), (1, .int p1)]) (st' := [.int p1, .ref 180]) rfl ?_
  refine jv_Ev.br jv_i324 (pc' := 5) (st' := [.ref 180]) rfl (jv_bi_lt.trans (jx_gof g2)) ?_
  refine jv_Ev.steps jv_i324 2 (pc' := 7) (l' := [(0, .ref 180), (1, .int p1)]) (st' := [.ref 180, .int p1, .ref 180]) rfl ?_
  refine jv_Ev.m jv_i324 (pc' := 10) (st' := [.int (0 : Int32), .int p1, .ref 180]) rfl rfl (jv_m_getI rfl rfl rfl rfl) ?_
  refine jv_Ev.br jv_i324 (pc' := 13) (st' := [.ref 180]) rfl (jv_bc_lt.trans (jx_gof g2)) ?_
  refine jv_Ev.steps jv_i324 2 (pc' := 18) (l' := [(0, .ref 180), (1, .int p1)]) (st' := [.int (1 : Int32), .ref 180]) rfl ?_
  refine jv_Ev.m jv_i324 (pc' := 21) (st' := []) rfl rfl (jv_m_putI rfl rfl rfl rfl rfl) ?_
  refine jv_Ev.steps jv_i324 1 (pc' := 22) (l' := [(0, .ref 180), (1, .int p1)]) (st' := [.ref 180]) rfl ?_
  refine jv_Ev.m jv_i324 (pc' := 25) (st' := [.int (1 : Int32)]) rfl rfl (jv_m_getI rfl rfl rfl rfl) ?_
  refine jv_Ev.br jv_i324 (pc' := 28) (st' := []) rfl (jv_bi_le.trans (jx_gof (by decide))) ?_
  refine jv_Ev.steps jv_i324 2 (pc' := 33) (l' := [(0, .ref 180), (1, .int p1)]) (st' := [.int (1 : Int32)]) rfl ?_
  exact jv_Ev.ret jv_i324 rfl (jv_ret_b (by decide))

set_option maxRecDepth 100000 in
/-- ProgramBoxModel$Store.find -/
theorem jx_e285 (p0 : Int32) (p1 : Int32) (p2 : Int32) (p3 : Int32) (p4 : Int32) (p5 : Int32) (g1 : ¬ p1.toInt64 < (0 : Int64)) (g2 : ¬ p1 < (0 : Int32)) : jv_Ms 337 [.ref 180, .int p1, .int p2] (jv_H (jx_K 227) jx_If jx_L0 (jx_R 227)) 228 1572956 (some (.int (0 : Int32)), (jv_H (jx_K 227) (jv_u jx_If 180 0 (1 : Int32)) jx_L0 (jx_R 227)), 228, 1572956) := by
  show jv_Ev 337 0 [(0, .ref 180), (1, .int p1), (2, .int p2)] [] (jv_H (jx_K 227) jx_If jx_L0 (jx_R 227)) 228 1572956 _
  refine jv_Ev.steps jv_i337 2 (pc' := 2) (l' := [(0, .ref 180), (1, .int p1), (2, .int p2)]) (st' := [.int p1, .ref 180]) rfl ?_
  refine jv_Ev.c jv_i337 (pc' := 5) (S' := [.int (1 : Int32)]) jv_i324 [.ref 180, .int p1] rfl rfl rfl rfl (jv_cal rfl (jv_H_at rfl) rfl rfl) rfl (jx_e284 p0 p1 p2 p3 p4 p5 g1 g2) rfl rfl ?_
  refine jv_Ev.br jv_i337 (pc' := 8) (st' := []) rfl (jv_bi_eq.trans (jx_gof (by decide))) ?_
  refine jv_Ev.steps jv_i337 1 (pc' := 9) (l' := [(0, .ref 180), (1, .int p1), (2, .int p2)]) (st' := [.int (0 : Int32)]) rfl ?_
  exact jv_Ev.ret jv_i337 rfl rfl

set_option maxRecDepth 100000 in
/-- ProgramBoxModel$Store.thrown -/
theorem jx_e286 (p0 : Int32) (p1 : Int32) (p2 : Int32) (p3 : Int32) (p4 : Int32) (p5 : Int32) (g1 : ¬ p1.toInt64 < (0 : Int64)) (g2 : ¬ p1 < (0 : Int32)) : jv_Ms 318 [.ref 180] (jv_H (jx_K 227) (jv_u jx_If 180 0 (1 : Int32)) jx_L0 (jx_R 227)) 228 1572956 (some (.int (1 : Int32)), (jv_H (jx_K 227) (jv_u jx_If 180 0 (1 : Int32)) jx_L0 (jx_R 227)), 228, 1572956) := by
  show jv_Ev 318 0 [(0, .ref 180)] [] (jv_H (jx_K 227) (jv_u jx_If 180 0 (1 : Int32)) jx_L0 (jx_R 227)) 228 1572956 _
  refine jv_Ev.steps jv_i318 1 (pc' := 1) (l' := [(0, .ref 180)]) (st' := [.ref 180]) rfl ?_
  refine jv_Ev.m jv_i318 (pc' := 4) (st' := [.int (1 : Int32)]) rfl rfl (jv_m_getI rfl rfl rfl rfl) ?_
  exact jv_Ev.ret jv_i318 rfl rfl

set_option maxRecDepth 100000 in
/-- ProgramBoxModel.find -/
theorem jx_e287 (p0 : Int32) (p1 : Int32) (p2 : Int32) (p3 : Int32) (p4 : Int32) (p5 : Int32) (g1 : ¬ p1.toInt64 < (0 : Int64)) (g2 : ¬ p1 < (0 : Int32)) : jv_Ms 412 [.ref 178, .int p1, .int p2] (jv_H (jx_K 227) jx_If jx_L0 (jx_R 227)) 228 1572956 (some (.int (0 : Int32)), (jv_H (jx_K 227) (jv_u (jv_u jx_If 180 0 (1 : Int32)) 178 0 (1 : Int32)) jx_L0 (jx_R 227)), 228, 1572956) := by
  show jv_Ev 412 0 [(0, .ref 178), (1, .int p1), (2, .int p2)] [] (jv_H (jx_K 227) jx_If jx_L0 (jx_R 227)) 228 1572956 _
  refine jv_Ev.steps jv_i412 1 (pc' := 1) (l' := [(0, .ref 178), (1, .int p1), (2, .int p2)]) (st' := [.ref 178]) rfl ?_
  refine jv_Ev.m jv_i412 (pc' := 4) (st' := [.ref 180]) rfl rfl (jv_m_getR rfl rfl rfl rfl) ?_
  refine jv_Ev.steps jv_i412 2 (pc' := 6) (l' := [(0, .ref 178), (1, .int p1), (2, .int p2)]) (st' := [.int p2, .int p1, .ref 180]) rfl ?_
  refine jv_Ev.c jv_i412 (pc' := 9) (S' := [.int (0 : Int32)]) jv_i337 [.ref 180, .int p1, .int p2] rfl rfl rfl rfl (jv_cal rfl (jv_H_at rfl) rfl rfl) rfl (jx_e285 p0 p1 p2 p3 p4 p5 g1 g2) rfl rfl ?_
  refine jv_Ev.steps jv_i412 3 (pc' := 12) (l' := [(3, .int (0 : Int32)), (0, .ref 178), (1, .int p1), (2, .int p2)]) (st' := [.ref 178, .ref 178]) rfl ?_
  refine jv_Ev.m jv_i412 (pc' := 15) (st' := [.ref 180, .ref 178]) rfl rfl (jv_m_getR rfl rfl rfl rfl) ?_
  refine jv_Ev.c jv_i412 (pc' := 18) (S' := [.int (1 : Int32), .ref 178]) jv_i318 [.ref 180] rfl rfl rfl rfl (jv_cal rfl (jv_H_at rfl) rfl rfl) rfl (jx_e286 p0 p1 p2 p3 p4 p5 g1 g2) rfl rfl ?_
  refine jv_Ev.m jv_i412 (pc' := 21) (st' := []) rfl rfl (jv_m_putI rfl rfl rfl rfl rfl) ?_
  refine jv_Ev.steps jv_i412 1 (pc' := 22) (l' := [(3, .int (0 : Int32)), (0, .ref 178), (1, .int p1), (2, .int p2)]) (st' := [.int (0 : Int32)]) rfl ?_
  exact jv_Ev.ret jv_i412 rfl rfl

set_option maxRecDepth 100000 in
/-- ProgramBoxModel.thrown -/
theorem jx_e288 (p0 : Int32) (p1 : Int32) (p2 : Int32) (p3 : Int32) (p4 : Int32) (p5 : Int32) (g1 : ¬ p1.toInt64 < (0 : Int64)) (g2 : ¬ p1 < (0 : Int32)) : jv_Ms 350 [.ref 178] (jv_H (jx_K 227) (jv_u (jv_u jx_If 180 0 (1 : Int32)) 178 0 (1 : Int32)) jx_L0 (jx_R 227)) 228 1572956 (some (.int (1 : Int32)), (jv_H (jx_K 227) (jv_u (jv_u jx_If 180 0 (1 : Int32)) 178 0 (1 : Int32)) jx_L0 (jx_R 227)), 228, 1572956) := by
  show jv_Ev 350 0 [(0, .ref 178)] [] (jv_H (jx_K 227) (jv_u (jv_u jx_If 180 0 (1 : Int32)) 178 0 (1 : Int32)) jx_L0 (jx_R 227)) 228 1572956 _
  refine jv_Ev.steps jv_i350 1 (pc' := 1) (l' := [(0, .ref 178)]) (st' := [.ref 178]) rfl ?_
  refine jv_Ev.m jv_i350 (pc' := 4) (st' := [.int (1 : Int32)]) rfl rfl (jv_m_getI rfl rfl rfl rfl) ?_
  exact jv_Ev.ret jv_i350 rfl rfl

set_option maxRecDepth 100000 in
/-- the law: case 21, one way -/
theorem jx_l44 (p0 : Int32) (p1 : Int32) (p2 : Int32) (p3 : Int32) (p4 : Int32) (p5 : Int32) (g1 : ¬ p1.toInt64 < (0 : Int64)) (g2 : ¬ p1 < (0 : Int32)) (hsw : p0 &&& (31 : Int32) = (21 : Int32)) {p : Program} {l : Launch} {e : Env} {R : Room} {s : State} {m : MethodId} {args : Array Value} {below : List Frame} {meth : Method} {c : Code} {E : jv_Env} {Q : State → Prop} (hTb : jv_TOk jv_Tb) (hT2 : jx_T2Ok) (hl : l.stackTraces = false) (F : jx_F jv_T2 439 E p R s m args meth c) (hZ : jx_Z E s) (hRc : R.cells = 600002) (hRs : R.slots = 7302232) {bb : Nat} {xs : Nat → Int32} (hX : va_X bb 6 xs s E.2.2.2.2) (hbB : bb < E.2.2.2.1) (hE2 : E.1 1000002 = bb) (hQ : ∀ (l0 : jv_L) (G : jv_G) (n sl : Nat), n ≤ 600002 → sl ≤ 7302232 → jw p l e R s m args below meth c E 8 0 0 Q 1532 l0 [.int (1 : Int32)] G n sl) (q0 : xs 0 = p0) (q1 : xs 1 = p1) (q2 : xs 2 = p2) (q3 : xs 3 = p3) (q4 : xs 4 = p4) (q5 : xs 5 = p5) : jw p l e R s m args below meth c E 8 0 0 Q 33 [(0, .ref 1000002), (1, .ref 0), (2, .ref 178), (3, .ref 226), (4, .int (0 : Int32))] [] (jv_H (jx_K 227) jx_If jx_L0 (jx_R 227)) 227 1572950 := by
  refine jw.steps F jx_i439 2 (pc' := 36) (l' := [(0, .ref 1000002), (1, .ref 0), (2, .ref 178), (3, .ref 226), (4, .int (0 : Int32))]) (st' := [.int (0 : Int32), .ref 1000002]) rfl ?_
  refine jw.sld F jx_i439 hX hbB hE2 (pc' := 37) rfl rfl (show vp_in (nI 0) 6 from vp_in_nI (by decide) (by decide)) q0 rfl ?_
  refine jw.steps F jx_i439 2 (pc' := 40) (l' := [(0, .ref 1000002), (1, .ref 0), (2, .ref 178), (3, .ref 226), (4, .int (0 : Int32))]) (st' := [.int (p0 &&& (31 : Int32))]) rfl ?_
  refine jw.br F jx_i439 (pc' := 1136) (st' := []) rfl (by rw [hsw]; rfl) ?_
  refine jw.steps F jx_i439 5 (pc' := 1142) (l' := [(0, .ref 1000002), (1, .ref 0), (2, .ref 178), (3, .ref 226), (4, .int (0 : Int32))]) (st' := [.int (1 : Int32), .ref 1000002, .ref 0]) rfl ?_
  refine jw.sld F jx_i439 hX hbB hE2 (pc' := 1143) rfl rfl (show vp_in (nI 1) 6 from vp_in_nI (by decide) (by decide)) q1 rfl ?_
  refine jw.steps F jx_i439 4 (pc' := 1148) (l' := [(0, .ref 1000002), (1, .ref 0), (2, .ref 178), (3, .ref 226), (4, .int (0 : Int32))]) (st' := [.int (2 : Int32), .ref 1000002, .int p1, .ref 0]) rfl ?_
  refine jw.sld F jx_i439 hX hbB hE2 (pc' := 1149) rfl rfl (show vp_in (nI 2) 6 from vp_in_nI (by decide) (by decide)) q2 rfl ?_
  refine jw.steps F jx_i439 1 (pc' := 1150) (l' := [(0, .ref 1000002), (1, .ref 0), (2, .ref 178), (3, .ref 226), (4, .int (0 : Int32))]) (st' := [.ref 226, .int p2, .int p1, .ref 0]) rfl ?_
  refine jw.wr F hl hZ rfl jx_i439 jx_i453 [.ref 0, .int p1, .int p2, .ref 226] (pc' := 1153) (S' := [.int (1 : Int32)]) rfl (List.mem_of_getElem? (i := 13) rfl) (List.mem_of_getElem? (i := 13) rfl) rfl rfl rfl (jx_w283 hTb hT2 p0 p1 p2 p3 p4 p5 g1 g2) (by omega) (by omega) (by omega) (by omega) rfl rfl ?_
  refine jw.steps F jx_i439 6 (pc' := 1161) (l' := [(5, .int (1 : Int32)), (0, .ref 1000002), (1, .ref 0), (2, .ref 178), (3, .ref 226), (4, .int (0 : Int32))]) (st' := [.int (1 : Int32), .ref 1000002, .ref 178]) rfl ?_
  refine jw.sld F jx_i439 hX hbB hE2 (pc' := 1162) rfl rfl (show vp_in (nI 1) 6 from vp_in_nI (by decide) (by decide)) q1 rfl ?_
  refine jw.steps F jx_i439 4 (pc' := 1167) (l' := [(5, .int (1 : Int32)), (0, .ref 1000002), (1, .ref 0), (2, .ref 178), (3, .ref 226), (4, .int (0 : Int32))]) (st' := [.int (2 : Int32), .ref 1000002, .int p1, .ref 178]) rfl ?_
  refine jw.sld F jx_i439 hX hbB hE2 (pc' := 1168) rfl rfl (show vp_in (nI 2) 6 from vp_in_nI (by decide) (by decide)) q2 rfl ?_
  refine jw.ca hTb F jx_i439 (pc' := 1171) (S' := [.int (0 : Int32)]) rfl jv_i412 [.ref 178, .int p1, .int p2] rfl rfl rfl rfl (jx_cal2 rfl (jv_H_at rfl) rfl rfl) rfl (jx_e287 p0 p1 p2 p3 p4 p5 g1 g2) (by omega) (by omega) rfl rfl ?_
  refine jw.steps F jx_i439 2 (pc' := 1174) (l' := [(6, .int (0 : Int32)), (5, .int (1 : Int32)), (0, .ref 1000002), (1, .ref 0), (2, .ref 178), (3, .ref 226), (4, .int (0 : Int32))]) (st' := [.ref 178]) rfl ?_
  refine jw.ca hTb F jx_i439 (pc' := 1177) (S' := [.int (1 : Int32)]) rfl jv_i350 [.ref 178] rfl rfl rfl rfl (jx_cal2 rfl (jv_H_at rfl) rfl rfl) rfl (jx_e288 p0 p1 p2 p3 p4 p5 g1 g2) (by omega) (by omega) rfl rfl ?_
  refine jw.steps F jx_i439 1 (pc' := 1179) (l' := [(6, .int (0 : Int32)), (5, .int (1 : Int32)), (0, .ref 1000002), (1, .ref 0), (2, .ref 178), (3, .ref 226), (4, .int (0 : Int32))]) (st' := [.int (1 : Int32), .int (1 : Int32)]) rfl ?_
  refine jw.br F jx_i439 (pc' := 1184) (st' := []) rfl (jv_bc_eq.trans (jx_got (by decide))) ?_
  refine jw.steps F jx_i439 1 (pc' := 1186) (l' := [(6, .int (0 : Int32)), (5, .int (1 : Int32)), (0, .ref 1000002), (1, .ref 0), (2, .ref 178), (3, .ref 226), (4, .int (0 : Int32))]) (st' := [.int (1 : Int32)]) rfl ?_
  refine jw.br F jx_i439 (pc' := 1201) (st' := []) rfl (jv_bi_ne.trans (jx_got (by decide))) ?_
  refine jw.steps F jx_i439 5 (pc' := 26) (l' := [(4, .int (6 : Int32)), (6, .int (0 : Int32)), (5, .int (1 : Int32)), (0, .ref 1000002), (1, .ref 0), (2, .ref 178), (3, .ref 226)]) (st' := [.ref 1000002, .int (6 : Int32)]) rfl ?_
  refine jw.slen F jx_i439 hX hbB hE2 (pc' := 27) rfl rfl rfl ?_
  refine jw.steps F jx_i439 2 (pc' := 30) (l' := [(4, .int (6 : Int32)), (6, .int (0 : Int32)), (5, .int (1 : Int32)), (0, .ref 1000002), (1, .ref 0), (2, .ref 178), (3, .ref 226)]) (st' := [.int (0 : Int32), .int (6 : Int32)]) rfl ?_
  refine jw.br F jx_i439 (pc' := 1531) (st' := []) rfl (jv_bc_gt.trans (jx_got (by decide))) ?_
  refine jw.steps F jx_i439 1 (pc' := 1532) (l' := [(4, .int (6 : Int32)), (6, .int (0 : Int32)), (5, .int (1 : Int32)), (0, .ref 1000002), (1, .ref 0), (2, .ref 178), (3, .ref 226)]) (st' := [.int (1 : Int32)]) rfl ?_
  exact hQ _ _ _ _ (by omega) (by omega)

set_option maxRecDepth 100000 in
/-- the law: case 21 -/
theorem jx_case21 (p0 : Int32) (p1 : Int32) (p2 : Int32) (p3 : Int32) (p4 : Int32) (p5 : Int32) (hsw : p0 &&& (31 : Int32) = (21 : Int32)) {p : Program} {l : Launch} {e : Env} {R : Room} {s : State} {m : MethodId} {args : Array Value} {below : List Frame} {meth : Method} {c : Code} {E : jv_Env} {Q : State → Prop} (hTb : jv_TOk jv_Tb) (hT2 : jx_T2Ok) (hl : l.stackTraces = false) (F : jx_F jv_T2 439 E p R s m args meth c) (hZ : jx_Z E s) (hRc : R.cells = 600002) (hRs : R.slots = 7302232) {bb : Nat} {xs : Nat → Int32} (hX : va_X bb 6 xs s E.2.2.2.2) (hbB : bb < E.2.2.2.1) (hE2 : E.1 1000002 = bb) (hQ : ∀ (l0 : jv_L) (G : jv_G) (n sl : Nat), n ≤ 600002 → sl ≤ 7302232 → jw p l e R s m args below meth c E 8 0 0 Q 1532 l0 [.int (1 : Int32)] G n sl) (q0 : xs 0 = p0) (q1 : xs 1 = p1) (q2 : xs 2 = p2) (q3 : xs 3 = p3) (q4 : xs 4 = p4) (q5 : xs 5 = p5) : jw p l e R s m args below meth c E 8 0 0 Q 33 [(0, .ref 1000002), (1, .ref 0), (2, .ref 178), (3, .ref 226), (4, .int (0 : Int32))] [] (jv_H (jx_K 227) jx_If jx_L0 (jx_R 227)) 227 1572950 := by
  by_cases g1 : p1.toInt64 < (0 : Int64)
  · by_cases g2 : p1 < (0 : Int32)
    · exact jx_l41 p0 p1 p2 p3 p4 p5 g1 g2 hsw hTb hT2 hl F hZ hRc hRs hX hbB hE2 hQ q0 q1 q2 q3 q4 q5
    · exact jx_l42 p0 p1 p2 p3 p4 p5 g1 g2 hsw hTb hT2 hl F hZ hRc hRs hX hbB hE2 hQ q0 q1 q2 q3 q4 q5
  · by_cases g2 : p1 < (0 : Int32)
    · exact jx_l43 p0 p1 p2 p3 p4 p5 g1 g2 hsw hTb hT2 hl F hZ hRc hRs hX hbB hE2 hQ q0 q1 q2 q3 q4 q5
    · exact jx_l44 p0 p1 p2 p3 p4 p5 g1 g2 hsw hTb hT2 hl F hZ hRc hRs hX hbB hE2 hQ q0 q1 q2 q3 q4 q5

set_option maxRecDepth 100000 in
theorem jx_i454 : jx_I jv_T2 454 7 (some .int) 8 137 jv_c454 := ⟨rfl, rfl, rfl, rfl, rfl⟩
set_option maxRecDepth 100000 in
theorem jv_i435 : jv_I 435 6 (some .int) 7 112 jv_c435 := ⟨rfl, rfl, rfl, rfl, rfl⟩
set_option maxRecDepth 100000 in
/-- ProgramBox$Store.map -/
theorem jx_e293 (p0 : Int32) (p1 : Int32) (p2 : Int32) (p3 : Int32) (p4 : Int32) (p5 : Int32) (g1 : p1.toInt64 < (0 : Int64)) (g2 : p1 < (0 : Int32)) : jv_Ms 126 [.ref 2, .long p1.toInt64] (jv_H (jx_K 227) jx_If jx_L0 (jx_R 227)) 227 1572950 (some (.null), (jv_H (jx_K 227) jx_If jx_L0 (jx_R 227)), 227, 1572950) := by
  show jv_Ev 126 0 [(0, .ref 2), (1, .long p1.toInt64)] [] (jv_H (jx_K 227) jx_If jx_L0 (jx_R 227)) 227 1572950 _
  refine jv_Ev.steps jv_i126 3 (pc' := 3) (l' := [(0, .ref 2), (1, .long p1.toInt64)]) (st' := [.int (lg_cmp p1.toInt64 (0 : Int64))]) rfl ?_
  refine jv_Ev.br jv_i126 (pc' := 16) (st' := []) rfl (jv_bi_lt.trans (jx_got ((lg_cmp_lt p1.toInt64 (0 : Int64)).mpr g1))) ?_
  refine jv_Ev.steps jv_i126 2 (pc' := 27) (l' := [(0, .ref 2), (1, .long p1.toInt64)]) (st' := [.null]) rfl ?_
  exact jv_Ev.ret jv_i126 rfl rfl

set_option maxRecDepth 100000 in
/-- ProgramBox.mapOf: it throws -/
theorem jx_e294 (hTb : jv_TOk jv_Tb) (p0 : Int32) (p1 : Int32) (p2 : Int32) (p3 : Int32) (p4 : Int32) (p5 : Int32) (g1 : p1.toInt64 < (0 : Int64)) (g2 : p1 < (0 : Int32)) : jx_Th 429 [.ref 0, .int p1] (jv_H (jx_K 227) jx_If jx_L0 (jx_R 227)) 227 1572950 2 (jv_H (jx_K 227) jx_If jx_L0 (jx_R 227)) 228 1572956 := by
  refine jx_Th.of hTb (y := 429) rfl (Nat.le_of_ble_eq_true rfl) ?_
  intro p l e R s m args below meth c E hl F hZ h0 ht hRc hRs
  show jw p l e R s m args below meth c E 3 227 1572950 _ 0 [(0, .ref 0), (1, .int p1)] [] (jv_H (jx_K 227) jx_If jx_L0 (jx_R 227)) 227 1572950
  refine jw.steps F jv_i429 1 (pc' := 1) (l' := [(0, .ref 0), (1, .int p1)]) (st' := [.ref 0]) rfl ?_
  refine jw.me F jv_i429 (pc' := 4) (st' := [.ref 2]) rfl rfl (jv_m_getR rfl rfl rfl rfl) ?_
  refine jw.steps F jv_i429 2 (pc' := 6) (l' := [(0, .ref 0), (1, .int p1)]) (st' := [.long p1.toInt64, .ref 2]) rfl ?_
  refine jw.ca hTb F jv_i429 (pc' := 9) (S' := [.null]) rfl jv_i126 [.ref 2, .long p1.toInt64] rfl rfl rfl rfl (jv_cal rfl (jv_H_at rfl) rfl rfl) rfl (jx_e293 p0 p1 p2 p3 p4 p5 g1 g2) (by omega) (by omega) rfl rfl ?_
  refine jw.steps F jv_i429 2 (pc' := 11) (l' := [(2, .null), (0, .ref 0), (1, .int p1)]) (st' := [.null]) rfl ?_
  refine jw.br F jv_i429 (pc' := 14) (st' := []) rfl rfl ?_
  exact jw.throw hl F hZ h0 rfl jv_i429 ht 2 183 "there is no such map" (List.mem_of_getElem? (i := 11) rfl) (by decide +kernel) (by decide +kernel) (by decide +kernel) (by decide +kernel) (by decide +kernel) rfl (by decide) (by decide) (by decide) (by omega) (by omega)

set_option maxRecDepth 100000 in
/-- ProgramBox.update: it throws -/
theorem jx_e295 (hTb : jv_TOk jv_Tb) (p0 : Int32) (p1 : Int32) (p2 : Int32) (p3 : Int32) (p4 : Int32) (p5 : Int32) (g1 : p1.toInt64 < (0 : Int64)) (g2 : p1 < (0 : Int32)) : jx_Th 435 [.ref 0, .int p1, .int p2, .int p3, .int p4] (jv_H (jx_K 227) jx_If jx_L0 (jx_R 227)) 227 1572950 2 (jv_H (jx_K 227) jx_If jx_L0 (jx_R 227)) 228 1572956 := by
  refine jx_Th.of hTb (y := 435) rfl (Nat.le_of_ble_eq_true rfl) ?_
  intro p l e R s m args below meth c E hl F hZ h0 ht hRc hRs
  show jw p l e R s m args below meth c E 6 227 1572950 _ 0 [(0, .ref 0), (1, .int p1), (2, .int p2), (3, .int p3), (4, .int p4)] [] (jv_H (jx_K 227) jx_If jx_L0 (jx_R 227)) 227 1572950
  refine jw.steps F jv_i435 2 (pc' := 2) (l' := [(0, .ref 0), (1, .int p1), (2, .int p2), (3, .int p3), (4, .int p4)]) (st' := [.int p1, .ref 0]) rfl ?_
  exact jw.prop hTb hl F hZ jv_i435 ht rfl jv_i429 [.ref 0, .int p1] rfl rfl rfl rfl rfl (jv_cal rfl (jv_H_at rfl) rfl rfl) rfl (jx_e294 hTb p0 p1 p2 p3 p4 p5 g1 g2) (by omega) (by omega) (by omega) (by omega)

set_option maxRecDepth 100000 in
/-- the law's update -/
theorem jx_w296 (hTb : jv_TOk jv_Tb) (hT2 : jx_T2Ok) (p0 : Int32) (p1 : Int32) (p2 : Int32) (p3 : Int32) (p4 : Int32) (p5 : Int32) (g1 : p1.toInt64 < (0 : Int64)) (g2 : p1 < (0 : Int32)) : jx_Wr 454 [(0, 14, 17, 36)] [.ref 0, .int p1, .int p2, .int p3, .int p4, .ref 226] (jv_H (jx_K 227) jx_If jx_L0 (jx_R 227)) 227 1572950 (some (.int (1 : Int32)), (jv_H (jx_K 227) jx_If jx_L0 (jx_R 227)), 228, 1572956) := by
  refine jx_Wr.of hT2 (by decide) rfl (Nat.le_of_ble_eq_true rfl) ?_
  intro p l e R s m args below meth c E hl F hZ htb hRc hRs
  show jw p l e R s m args below meth c E 7 227 1572950 _ 0 [(0, .ref 0), (1, .int p1), (2, .int p2), (3, .int p3), (4, .int p4), (5, .ref 226)] [] (jv_H (jx_K 227) jx_If jx_L0 (jx_R 227)) 227 1572950
  have hRc : R.cells = 228 - 227 := hRc
  have hRs : R.slots = 1572956 - 1572950 := hRs
  refine jw.steps F jx_i454 7 (pc' := 9) (l' := [(0, .ref 0), (1, .int p1), (2, .int p2), (3, .int p3), (4, .int p4), (5, .ref 226)]) (st' := [.int p4, .int p3, .int p2, .int p1, .ref 0, .int (0 : Int32), .ref 226]) rfl ?_
  refine jw.cat hTb hl F hZ rfl jx_i454 htb rfl jv_i435 [.ref 0, .int p1, .int p2, .int p3, .int p4] rfl rfl rfl rfl rfl (jx_cal2 rfl (jv_H_at rfl) rfl rfl) rfl (jx_e295 hTb p0 p1 p2 p3 p4 p5 g1 g2) (by omega) (by omega) (by omega) (by omega) [] (0, 14, 17, 36) [] rfl (fun z h => absurd h List.not_mem_nil) (by decide) rfl rfl (Or.inl ⟨rfl, rfl⟩) (by decide) ?_
  refine jw.steps F jx_i454 1 (pc' := 20) (l' := []) (st' := [.int (1 : Int32)]) rfl ?_
  exact jw.ret F jx_i454 rfl rfl

set_option maxRecDepth 100000 in
theorem jv_i413 : jv_I 413 6 (some .int) 5 116 jv_c413 := ⟨rfl, rfl, rfl, rfl, rfl⟩
set_option maxRecDepth 100000 in
theorem jv_i341 : jv_I 341 5 (some .int) 4 92 jv_c341 := ⟨rfl, rfl, rfl, rfl, rfl⟩
set_option maxRecDepth 100000 in
/-- ProgramBoxModel$Store.noMap -/
theorem jx_e297 (p0 : Int32) (p1 : Int32) (p2 : Int32) (p3 : Int32) (p4 : Int32) (p5 : Int32) (g1 : p1.toInt64 < (0 : Int64)) (g2 : p1 < (0 : Int32)) : jv_Ms 324 [.ref 180, .int p1] (jv_H (jx_K 227) jx_If jx_L0 (jx_R 227)) 228 1572956 (some (.int (1 : Int32)), (jv_H (jx_K 227) (jv_u jx_If 180 0 (1 : Int32)) jx_L0 (jx_R 227)), 228, 1572956) := by
  show jv_Ev 324 0 [(0, .ref 180), (1, .int p1)] [] (jv_H (jx_K 227) jx_If jx_L0 (jx_R 227)) 228 1572956 _
  refine jv_Ev.steps jv_i324 2 (pc' := 2) (l' := [(0, .ref 180), (1, .int p1)]) (st' := [.int p1, .ref 180]) rfl ?_
  refine jv_Ev.br jv_i324 (pc' := 13) (st' := [.ref 180]) rfl (jv_bi_lt.trans (jx_got g2)) ?_
  refine jv_Ev.steps jv_i324 2 (pc' := 18) (l' := [(0, .ref 180), (1, .int p1)]) (st' := [.int (1 : Int32), .ref 180]) rfl ?_
  refine jv_Ev.m jv_i324 (pc' := 21) (st' := []) rfl rfl (jv_m_putI rfl rfl rfl rfl rfl) ?_
  refine jv_Ev.steps jv_i324 1 (pc' := 22) (l' := [(0, .ref 180), (1, .int p1)]) (st' := [.ref 180]) rfl ?_
  refine jv_Ev.m jv_i324 (pc' := 25) (st' := [.int (1 : Int32)]) rfl rfl (jv_m_getI rfl rfl rfl rfl) ?_
  refine jv_Ev.br jv_i324 (pc' := 28) (st' := []) rfl (jv_bi_le.trans (jx_gof (by decide))) ?_
  refine jv_Ev.steps jv_i324 2 (pc' := 33) (l' := [(0, .ref 180), (1, .int p1)]) (st' := [.int (1 : Int32)]) rfl ?_
  exact jv_Ev.ret jv_i324 rfl (jv_ret_b (by decide))

set_option maxRecDepth 100000 in
/-- ProgramBoxModel$Store.update -/
theorem jx_e298 (p0 : Int32) (p1 : Int32) (p2 : Int32) (p3 : Int32) (p4 : Int32) (p5 : Int32) (g1 : p1.toInt64 < (0 : Int64)) (g2 : p1 < (0 : Int32)) : jv_Ms 341 [.ref 180, .int p1, .int p2, .int p3, .int p4] (jv_H (jx_K 227) jx_If jx_L0 (jx_R 227)) 228 1572956 (some (.int (0 : Int32)), (jv_H (jx_K 227) (jv_u jx_If 180 0 (1 : Int32)) jx_L0 (jx_R 227)), 228, 1572956) := by
  show jv_Ev 341 0 [(0, .ref 180), (1, .int p1), (2, .int p2), (3, .int p3), (4, .int p4)] [] (jv_H (jx_K 227) jx_If jx_L0 (jx_R 227)) 228 1572956 _
  refine jv_Ev.steps jv_i341 2 (pc' := 2) (l' := [(0, .ref 180), (1, .int p1), (2, .int p2), (3, .int p3), (4, .int p4)]) (st' := [.int p1, .ref 180]) rfl ?_
  refine jv_Ev.c jv_i341 (pc' := 5) (S' := [.int (1 : Int32)]) jv_i324 [.ref 180, .int p1] rfl rfl rfl rfl (jv_cal rfl (jv_H_at rfl) rfl rfl) rfl (jx_e297 p0 p1 p2 p3 p4 p5 g1 g2) rfl rfl ?_
  refine jv_Ev.br jv_i341 (pc' := 8) (st' := []) rfl (jv_bi_eq.trans (jx_gof (by decide))) ?_
  refine jv_Ev.steps jv_i341 1 (pc' := 9) (l' := [(0, .ref 180), (1, .int p1), (2, .int p2), (3, .int p3), (4, .int p4)]) (st' := [.int (0 : Int32)]) rfl ?_
  exact jv_Ev.ret jv_i341 rfl rfl

set_option maxRecDepth 100000 in
/-- ProgramBoxModel$Store.thrown -/
theorem jx_e299 (p0 : Int32) (p1 : Int32) (p2 : Int32) (p3 : Int32) (p4 : Int32) (p5 : Int32) (g1 : p1.toInt64 < (0 : Int64)) (g2 : p1 < (0 : Int32)) : jv_Ms 318 [.ref 180] (jv_H (jx_K 227) (jv_u jx_If 180 0 (1 : Int32)) jx_L0 (jx_R 227)) 228 1572956 (some (.int (1 : Int32)), (jv_H (jx_K 227) (jv_u jx_If 180 0 (1 : Int32)) jx_L0 (jx_R 227)), 228, 1572956) := by
  show jv_Ev 318 0 [(0, .ref 180)] [] (jv_H (jx_K 227) (jv_u jx_If 180 0 (1 : Int32)) jx_L0 (jx_R 227)) 228 1572956 _
  refine jv_Ev.steps jv_i318 1 (pc' := 1) (l' := [(0, .ref 180)]) (st' := [.ref 180]) rfl ?_
  refine jv_Ev.m jv_i318 (pc' := 4) (st' := [.int (1 : Int32)]) rfl rfl (jv_m_getI rfl rfl rfl rfl) ?_
  exact jv_Ev.ret jv_i318 rfl rfl

set_option maxRecDepth 100000 in
/-- ProgramBoxModel.update -/
theorem jx_e300 (p0 : Int32) (p1 : Int32) (p2 : Int32) (p3 : Int32) (p4 : Int32) (p5 : Int32) (g1 : p1.toInt64 < (0 : Int64)) (g2 : p1 < (0 : Int32)) : jv_Ms 413 [.ref 178, .int p1, .int p2, .int p3, .int p4] (jv_H (jx_K 227) jx_If jx_L0 (jx_R 227)) 228 1572956 (some (.int (0 : Int32)), (jv_H (jx_K 227) (jv_u (jv_u jx_If 180 0 (1 : Int32)) 178 0 (1 : Int32)) jx_L0 (jx_R 227)), 228, 1572956) := by
  show jv_Ev 413 0 [(0, .ref 178), (1, .int p1), (2, .int p2), (3, .int p3), (4, .int p4)] [] (jv_H (jx_K 227) jx_If jx_L0 (jx_R 227)) 228 1572956 _
  refine jv_Ev.steps jv_i413 1 (pc' := 1) (l' := [(0, .ref 178), (1, .int p1), (2, .int p2), (3, .int p3), (4, .int p4)]) (st' := [.ref 178]) rfl ?_
  refine jv_Ev.m jv_i413 (pc' := 4) (st' := [.ref 180]) rfl rfl (jv_m_getR rfl rfl rfl rfl) ?_
  refine jv_Ev.steps jv_i413 4 (pc' := 9) (l' := [(0, .ref 178), (1, .int p1), (2, .int p2), (3, .int p3), (4, .int p4)]) (st' := [.int p4, .int p3, .int p2, .int p1, .ref 180]) rfl ?_
  refine jv_Ev.c jv_i413 (pc' := 12) (S' := [.int (0 : Int32)]) jv_i341 [.ref 180, .int p1, .int p2, .int p3, .int p4] rfl rfl rfl rfl (jv_cal rfl (jv_H_at rfl) rfl rfl) rfl (jx_e298 p0 p1 p2 p3 p4 p5 g1 g2) rfl rfl ?_
  refine jv_Ev.steps jv_i413 3 (pc' := 16) (l' := [(5, .int (0 : Int32)), (0, .ref 178), (1, .int p1), (2, .int p2), (3, .int p3), (4, .int p4)]) (st' := [.ref 178, .ref 178]) rfl ?_
  refine jv_Ev.m jv_i413 (pc' := 19) (st' := [.ref 180, .ref 178]) rfl rfl (jv_m_getR rfl rfl rfl rfl) ?_
  refine jv_Ev.c jv_i413 (pc' := 22) (S' := [.int (1 : Int32), .ref 178]) jv_i318 [.ref 180] rfl rfl rfl rfl (jv_cal rfl (jv_H_at rfl) rfl rfl) rfl (jx_e299 p0 p1 p2 p3 p4 p5 g1 g2) rfl rfl ?_
  refine jv_Ev.m jv_i413 (pc' := 25) (st' := []) rfl rfl (jv_m_putI rfl rfl rfl rfl rfl) ?_
  refine jv_Ev.steps jv_i413 1 (pc' := 27) (l' := [(5, .int (0 : Int32)), (0, .ref 178), (1, .int p1), (2, .int p2), (3, .int p3), (4, .int p4)]) (st' := [.int (0 : Int32)]) rfl ?_
  exact jv_Ev.ret jv_i413 rfl rfl

set_option maxRecDepth 100000 in
/-- ProgramBoxModel.thrown -/
theorem jx_e301 (p0 : Int32) (p1 : Int32) (p2 : Int32) (p3 : Int32) (p4 : Int32) (p5 : Int32) (g1 : p1.toInt64 < (0 : Int64)) (g2 : p1 < (0 : Int32)) : jv_Ms 350 [.ref 178] (jv_H (jx_K 227) (jv_u (jv_u jx_If 180 0 (1 : Int32)) 178 0 (1 : Int32)) jx_L0 (jx_R 227)) 228 1572956 (some (.int (1 : Int32)), (jv_H (jx_K 227) (jv_u (jv_u jx_If 180 0 (1 : Int32)) 178 0 (1 : Int32)) jx_L0 (jx_R 227)), 228, 1572956) := by
  show jv_Ev 350 0 [(0, .ref 178)] [] (jv_H (jx_K 227) (jv_u (jv_u jx_If 180 0 (1 : Int32)) 178 0 (1 : Int32)) jx_L0 (jx_R 227)) 228 1572956 _
  refine jv_Ev.steps jv_i350 1 (pc' := 1) (l' := [(0, .ref 178)]) (st' := [.ref 178]) rfl ?_
  refine jv_Ev.m jv_i350 (pc' := 4) (st' := [.int (1 : Int32)]) rfl rfl (jv_m_getI rfl rfl rfl rfl) ?_
  exact jv_Ev.ret jv_i350 rfl rfl

set_option maxRecDepth 100000 in
/-- the law: case 22, one way -/
theorem jx_l45 (p0 : Int32) (p1 : Int32) (p2 : Int32) (p3 : Int32) (p4 : Int32) (p5 : Int32) (g1 : p1.toInt64 < (0 : Int64)) (g2 : p1 < (0 : Int32)) (hsw : p0 &&& (31 : Int32) = (22 : Int32)) {p : Program} {l : Launch} {e : Env} {R : Room} {s : State} {m : MethodId} {args : Array Value} {below : List Frame} {meth : Method} {c : Code} {E : jv_Env} {Q : State → Prop} (hTb : jv_TOk jv_Tb) (hT2 : jx_T2Ok) (hl : l.stackTraces = false) (F : jx_F jv_T2 439 E p R s m args meth c) (hZ : jx_Z E s) (hRc : R.cells = 600002) (hRs : R.slots = 7302232) {bb : Nat} {xs : Nat → Int32} (hX : va_X bb 6 xs s E.2.2.2.2) (hbB : bb < E.2.2.2.1) (hE2 : E.1 1000002 = bb) (hQ : ∀ (l0 : jv_L) (G : jv_G) (n sl : Nat), n ≤ 600002 → sl ≤ 7302232 → jw p l e R s m args below meth c E 8 0 0 Q 1532 l0 [.int (1 : Int32)] G n sl) (q0 : xs 0 = p0) (q1 : xs 1 = p1) (q2 : xs 2 = p2) (q3 : xs 3 = p3) (q4 : xs 4 = p4) (q5 : xs 5 = p5) : jw p l e R s m args below meth c E 8 0 0 Q 33 [(0, .ref 1000002), (1, .ref 0), (2, .ref 178), (3, .ref 226), (4, .int (0 : Int32))] [] (jv_H (jx_K 227) jx_If jx_L0 (jx_R 227)) 227 1572950 := by
  refine jw.steps F jx_i439 2 (pc' := 36) (l' := [(0, .ref 1000002), (1, .ref 0), (2, .ref 178), (3, .ref 226), (4, .int (0 : Int32))]) (st' := [.int (0 : Int32), .ref 1000002]) rfl ?_
  refine jw.sld F jx_i439 hX hbB hE2 (pc' := 37) rfl rfl (show vp_in (nI 0) 6 from vp_in_nI (by decide) (by decide)) q0 rfl ?_
  refine jw.steps F jx_i439 2 (pc' := 40) (l' := [(0, .ref 1000002), (1, .ref 0), (2, .ref 178), (3, .ref 226), (4, .int (0 : Int32))]) (st' := [.int (p0 &&& (31 : Int32))]) rfl ?_
  refine jw.br F jx_i439 (pc' := 1204) (st' := []) rfl (by rw [hsw]; rfl) ?_
  refine jw.steps F jx_i439 5 (pc' := 1210) (l' := [(0, .ref 1000002), (1, .ref 0), (2, .ref 178), (3, .ref 226), (4, .int (0 : Int32))]) (st' := [.int (1 : Int32), .ref 1000002, .ref 0]) rfl ?_
  refine jw.sld F jx_i439 hX hbB hE2 (pc' := 1211) rfl rfl (show vp_in (nI 1) 6 from vp_in_nI (by decide) (by decide)) q1 rfl ?_
  refine jw.steps F jx_i439 4 (pc' := 1216) (l' := [(0, .ref 1000002), (1, .ref 0), (2, .ref 178), (3, .ref 226), (4, .int (0 : Int32))]) (st' := [.int (2 : Int32), .ref 1000002, .int p1, .ref 0]) rfl ?_
  refine jw.sld F jx_i439 hX hbB hE2 (pc' := 1217) rfl rfl (show vp_in (nI 2) 6 from vp_in_nI (by decide) (by decide)) q2 rfl ?_
  refine jw.steps F jx_i439 4 (pc' := 1222) (l' := [(0, .ref 1000002), (1, .ref 0), (2, .ref 178), (3, .ref 226), (4, .int (0 : Int32))]) (st' := [.int (3 : Int32), .ref 1000002, .int p2, .int p1, .ref 0]) rfl ?_
  refine jw.sld F jx_i439 hX hbB hE2 (pc' := 1223) rfl rfl (show vp_in (nI 3) 6 from vp_in_nI (by decide) (by decide)) q3 rfl ?_
  refine jw.steps F jx_i439 4 (pc' := 1228) (l' := [(0, .ref 1000002), (1, .ref 0), (2, .ref 178), (3, .ref 226), (4, .int (0 : Int32))]) (st' := [.int (4 : Int32), .ref 1000002, .int p3, .int p2, .int p1, .ref 0]) rfl ?_
  refine jw.sld F jx_i439 hX hbB hE2 (pc' := 1229) rfl rfl (show vp_in (nI 4) 6 from vp_in_nI (by decide) (by decide)) q4 rfl ?_
  refine jw.steps F jx_i439 1 (pc' := 1230) (l' := [(0, .ref 1000002), (1, .ref 0), (2, .ref 178), (3, .ref 226), (4, .int (0 : Int32))]) (st' := [.ref 226, .int p4, .int p3, .int p2, .int p1, .ref 0]) rfl ?_
  refine jw.wr F hl hZ rfl jx_i439 jx_i454 [.ref 0, .int p1, .int p2, .int p3, .int p4, .ref 226] (pc' := 1233) (S' := [.int (1 : Int32)]) rfl (List.mem_of_getElem? (i := 14) rfl) (List.mem_of_getElem? (i := 14) rfl) rfl rfl rfl (jx_w296 hTb hT2 p0 p1 p2 p3 p4 p5 g1 g2) (by omega) (by omega) (by omega) (by omega) rfl rfl ?_
  refine jw.steps F jx_i439 6 (pc' := 1241) (l' := [(5, .int (1 : Int32)), (0, .ref 1000002), (1, .ref 0), (2, .ref 178), (3, .ref 226), (4, .int (0 : Int32))]) (st' := [.int (1 : Int32), .ref 1000002, .ref 178]) rfl ?_
  refine jw.sld F jx_i439 hX hbB hE2 (pc' := 1242) rfl rfl (show vp_in (nI 1) 6 from vp_in_nI (by decide) (by decide)) q1 rfl ?_
  refine jw.steps F jx_i439 4 (pc' := 1247) (l' := [(5, .int (1 : Int32)), (0, .ref 1000002), (1, .ref 0), (2, .ref 178), (3, .ref 226), (4, .int (0 : Int32))]) (st' := [.int (2 : Int32), .ref 1000002, .int p1, .ref 178]) rfl ?_
  refine jw.sld F jx_i439 hX hbB hE2 (pc' := 1248) rfl rfl (show vp_in (nI 2) 6 from vp_in_nI (by decide) (by decide)) q2 rfl ?_
  refine jw.steps F jx_i439 4 (pc' := 1253) (l' := [(5, .int (1 : Int32)), (0, .ref 1000002), (1, .ref 0), (2, .ref 178), (3, .ref 226), (4, .int (0 : Int32))]) (st' := [.int (3 : Int32), .ref 1000002, .int p2, .int p1, .ref 178]) rfl ?_
  refine jw.sld F jx_i439 hX hbB hE2 (pc' := 1254) rfl rfl (show vp_in (nI 3) 6 from vp_in_nI (by decide) (by decide)) q3 rfl ?_
  refine jw.steps F jx_i439 4 (pc' := 1259) (l' := [(5, .int (1 : Int32)), (0, .ref 1000002), (1, .ref 0), (2, .ref 178), (3, .ref 226), (4, .int (0 : Int32))]) (st' := [.int (4 : Int32), .ref 1000002, .int p3, .int p2, .int p1, .ref 178]) rfl ?_
  refine jw.sld F jx_i439 hX hbB hE2 (pc' := 1260) rfl rfl (show vp_in (nI 4) 6 from vp_in_nI (by decide) (by decide)) q4 rfl ?_
  refine jw.ca hTb F jx_i439 (pc' := 1263) (S' := [.int (0 : Int32)]) rfl jv_i413 [.ref 178, .int p1, .int p2, .int p3, .int p4] rfl rfl rfl rfl (jx_cal2 rfl (jv_H_at rfl) rfl rfl) rfl (jx_e300 p0 p1 p2 p3 p4 p5 g1 g2) (by omega) (by omega) rfl rfl ?_
  refine jw.steps F jx_i439 2 (pc' := 1266) (l' := [(6, .int (0 : Int32)), (5, .int (1 : Int32)), (0, .ref 1000002), (1, .ref 0), (2, .ref 178), (3, .ref 226), (4, .int (0 : Int32))]) (st' := [.ref 178]) rfl ?_
  refine jw.ca hTb F jx_i439 (pc' := 1269) (S' := [.int (1 : Int32)]) rfl jv_i350 [.ref 178] rfl rfl rfl rfl (jx_cal2 rfl (jv_H_at rfl) rfl rfl) rfl (jx_e301 p0 p1 p2 p3 p4 p5 g1 g2) (by omega) (by omega) rfl rfl ?_
  refine jw.steps F jx_i439 1 (pc' := 1271) (l' := [(6, .int (0 : Int32)), (5, .int (1 : Int32)), (0, .ref 1000002), (1, .ref 0), (2, .ref 178), (3, .ref 226), (4, .int (0 : Int32))]) (st' := [.int (1 : Int32), .int (1 : Int32)]) rfl ?_
  refine jw.br F jx_i439 (pc' := 1276) (st' := []) rfl (jv_bc_eq.trans (jx_got (by decide))) ?_
  refine jw.steps F jx_i439 1 (pc' := 1278) (l' := [(6, .int (0 : Int32)), (5, .int (1 : Int32)), (0, .ref 1000002), (1, .ref 0), (2, .ref 178), (3, .ref 226), (4, .int (0 : Int32))]) (st' := [.int (1 : Int32)]) rfl ?_
  refine jw.br F jx_i439 (pc' := 1293) (st' := []) rfl (jv_bi_ne.trans (jx_got (by decide))) ?_
  refine jw.steps F jx_i439 5 (pc' := 26) (l' := [(4, .int (6 : Int32)), (6, .int (0 : Int32)), (5, .int (1 : Int32)), (0, .ref 1000002), (1, .ref 0), (2, .ref 178), (3, .ref 226)]) (st' := [.ref 1000002, .int (6 : Int32)]) rfl ?_
  refine jw.slen F jx_i439 hX hbB hE2 (pc' := 27) rfl rfl rfl ?_
  refine jw.steps F jx_i439 2 (pc' := 30) (l' := [(4, .int (6 : Int32)), (6, .int (0 : Int32)), (5, .int (1 : Int32)), (0, .ref 1000002), (1, .ref 0), (2, .ref 178), (3, .ref 226)]) (st' := [.int (0 : Int32), .int (6 : Int32)]) rfl ?_
  refine jw.br F jx_i439 (pc' := 1531) (st' := []) rfl (jv_bc_gt.trans (jx_got (by decide))) ?_
  refine jw.steps F jx_i439 1 (pc' := 1532) (l' := [(4, .int (6 : Int32)), (6, .int (0 : Int32)), (5, .int (1 : Int32)), (0, .ref 1000002), (1, .ref 0), (2, .ref 178), (3, .ref 226)]) (st' := [.int (1 : Int32)]) rfl ?_
  exact hQ _ _ _ _ (by omega) (by omega)

set_option maxRecDepth 100000 in
/-- ProgramBox$Store.map -/
theorem jx_e302 (p0 : Int32) (p1 : Int32) (p2 : Int32) (p3 : Int32) (p4 : Int32) (p5 : Int32) (g1 : p1.toInt64 < (0 : Int64)) (g2 : ¬ p1 < (0 : Int32)) : jv_Ms 126 [.ref 2, .long p1.toInt64] (jv_H (jx_K 227) jx_If jx_L0 (jx_R 227)) 227 1572950 (some (.null), (jv_H (jx_K 227) jx_If jx_L0 (jx_R 227)), 227, 1572950) := by
  show jv_Ev 126 0 [(0, .ref 2), (1, .long p1.toInt64)] [] (jv_H (jx_K 227) jx_If jx_L0 (jx_R 227)) 227 1572950 _
  refine jv_Ev.steps jv_i126 3 (pc' := 3) (l' := [(0, .ref 2), (1, .long p1.toInt64)]) (st' := [.int (lg_cmp p1.toInt64 (0 : Int64))]) rfl ?_
  refine jv_Ev.br jv_i126 (pc' := 16) (st' := []) rfl (jv_bi_lt.trans (jx_got ((lg_cmp_lt p1.toInt64 (0 : Int64)).mpr g1))) ?_
  refine jv_Ev.steps jv_i126 2 (pc' := 27) (l' := [(0, .ref 2), (1, .long p1.toInt64)]) (st' := [.null]) rfl ?_
  exact jv_Ev.ret jv_i126 rfl rfl

set_option maxRecDepth 100000 in
/-- ProgramBox.mapOf: it throws -/
theorem jx_e303 (hTb : jv_TOk jv_Tb) (p0 : Int32) (p1 : Int32) (p2 : Int32) (p3 : Int32) (p4 : Int32) (p5 : Int32) (g1 : p1.toInt64 < (0 : Int64)) (g2 : ¬ p1 < (0 : Int32)) : jx_Th 429 [.ref 0, .int p1] (jv_H (jx_K 227) jx_If jx_L0 (jx_R 227)) 227 1572950 2 (jv_H (jx_K 227) jx_If jx_L0 (jx_R 227)) 228 1572956 := by
  refine jx_Th.of hTb (y := 429) rfl (Nat.le_of_ble_eq_true rfl) ?_
  intro p l e R s m args below meth c E hl F hZ h0 ht hRc hRs
  show jw p l e R s m args below meth c E 3 227 1572950 _ 0 [(0, .ref 0), (1, .int p1)] [] (jv_H (jx_K 227) jx_If jx_L0 (jx_R 227)) 227 1572950
  refine jw.steps F jv_i429 1 (pc' := 1) (l' := [(0, .ref 0), (1, .int p1)]) (st' := [.ref 0]) rfl ?_
  refine jw.me F jv_i429 (pc' := 4) (st' := [.ref 2]) rfl rfl (jv_m_getR rfl rfl rfl rfl) ?_
  refine jw.steps F jv_i429 2 (pc' := 6) (l' := [(0, .ref 0), (1, .int p1)]) (st' := [.long p1.toInt64, .ref 2]) rfl ?_
  refine jw.ca hTb F jv_i429 (pc' := 9) (S' := [.null]) rfl jv_i126 [.ref 2, .long p1.toInt64] rfl rfl rfl rfl (jv_cal rfl (jv_H_at rfl) rfl rfl) rfl (jx_e302 p0 p1 p2 p3 p4 p5 g1 g2) (by omega) (by omega) rfl rfl ?_
  refine jw.steps F jv_i429 2 (pc' := 11) (l' := [(2, .null), (0, .ref 0), (1, .int p1)]) (st' := [.null]) rfl ?_
  refine jw.br F jv_i429 (pc' := 14) (st' := []) rfl rfl ?_
  exact jw.throw hl F hZ h0 rfl jv_i429 ht 2 183 "there is no such map" (List.mem_of_getElem? (i := 11) rfl) (by decide +kernel) (by decide +kernel) (by decide +kernel) (by decide +kernel) (by decide +kernel) rfl (by decide) (by decide) (by decide) (by omega) (by omega)

set_option maxRecDepth 100000 in
/-- ProgramBox.update: it throws -/
theorem jx_e304 (hTb : jv_TOk jv_Tb) (p0 : Int32) (p1 : Int32) (p2 : Int32) (p3 : Int32) (p4 : Int32) (p5 : Int32) (g1 : p1.toInt64 < (0 : Int64)) (g2 : ¬ p1 < (0 : Int32)) : jx_Th 435 [.ref 0, .int p1, .int p2, .int p3, .int p4] (jv_H (jx_K 227) jx_If jx_L0 (jx_R 227)) 227 1572950 2 (jv_H (jx_K 227) jx_If jx_L0 (jx_R 227)) 228 1572956 := by
  refine jx_Th.of hTb (y := 435) rfl (Nat.le_of_ble_eq_true rfl) ?_
  intro p l e R s m args below meth c E hl F hZ h0 ht hRc hRs
  show jw p l e R s m args below meth c E 6 227 1572950 _ 0 [(0, .ref 0), (1, .int p1), (2, .int p2), (3, .int p3), (4, .int p4)] [] (jv_H (jx_K 227) jx_If jx_L0 (jx_R 227)) 227 1572950
  refine jw.steps F jv_i435 2 (pc' := 2) (l' := [(0, .ref 0), (1, .int p1), (2, .int p2), (3, .int p3), (4, .int p4)]) (st' := [.int p1, .ref 0]) rfl ?_
  exact jw.prop hTb hl F hZ jv_i435 ht rfl jv_i429 [.ref 0, .int p1] rfl rfl rfl rfl rfl (jv_cal rfl (jv_H_at rfl) rfl rfl) rfl (jx_e303 hTb p0 p1 p2 p3 p4 p5 g1 g2) (by omega) (by omega) (by omega) (by omega)

set_option maxRecDepth 100000 in
/-- the law's update -/
theorem jx_w305 (hTb : jv_TOk jv_Tb) (hT2 : jx_T2Ok) (p0 : Int32) (p1 : Int32) (p2 : Int32) (p3 : Int32) (p4 : Int32) (p5 : Int32) (g1 : p1.toInt64 < (0 : Int64)) (g2 : ¬ p1 < (0 : Int32)) : jx_Wr 454 [(0, 14, 17, 36)] [.ref 0, .int p1, .int p2, .int p3, .int p4, .ref 226] (jv_H (jx_K 227) jx_If jx_L0 (jx_R 227)) 227 1572950 (some (.int (1 : Int32)), (jv_H (jx_K 227) jx_If jx_L0 (jx_R 227)), 228, 1572956) := by
  refine jx_Wr.of hT2 (by decide) rfl (Nat.le_of_ble_eq_true rfl) ?_
  intro p l e R s m args below meth c E hl F hZ htb hRc hRs
  show jw p l e R s m args below meth c E 7 227 1572950 _ 0 [(0, .ref 0), (1, .int p1), (2, .int p2), (3, .int p3), (4, .int p4), (5, .ref 226)] [] (jv_H (jx_K 227) jx_If jx_L0 (jx_R 227)) 227 1572950
  have hRc : R.cells = 228 - 227 := hRc
  have hRs : R.slots = 1572956 - 1572950 := hRs
  refine jw.steps F jx_i454 7 (pc' := 9) (l' := [(0, .ref 0), (1, .int p1), (2, .int p2), (3, .int p3), (4, .int p4), (5, .ref 226)]) (st' := [.int p4, .int p3, .int p2, .int p1, .ref 0, .int (0 : Int32), .ref 226]) rfl ?_
  refine jw.cat hTb hl F hZ rfl jx_i454 htb rfl jv_i435 [.ref 0, .int p1, .int p2, .int p3, .int p4] rfl rfl rfl rfl rfl (jx_cal2 rfl (jv_H_at rfl) rfl rfl) rfl (jx_e304 hTb p0 p1 p2 p3 p4 p5 g1 g2) (by omega) (by omega) (by omega) (by omega) [] (0, 14, 17, 36) [] rfl (fun z h => absurd h List.not_mem_nil) (by decide) rfl rfl (Or.inl ⟨rfl, rfl⟩) (by decide) ?_
  refine jw.steps F jx_i454 1 (pc' := 20) (l' := []) (st' := [.int (1 : Int32)]) rfl ?_
  exact jw.ret F jx_i454 rfl rfl

set_option maxRecDepth 100000 in
/-- ProgramBoxModel$Store.noMap -/
theorem jx_e306 (p0 : Int32) (p1 : Int32) (p2 : Int32) (p3 : Int32) (p4 : Int32) (p5 : Int32) (g1 : p1.toInt64 < (0 : Int64)) (g2 : ¬ p1 < (0 : Int32)) : jv_Ms 324 [.ref 180, .int p1] (jv_H (jx_K 227) jx_If jx_L0 (jx_R 227)) 228 1572956 (some (.int (1 : Int32)), (jv_H (jx_K 227) (jv_u jx_If 180 0 (1 : Int32)) jx_L0 (jx_R 227)), 228, 1572956) := by
  show jv_Ev 324 0 [(0, .ref 180), (1, .int p1)] [] (jv_H (jx_K 227) jx_If jx_L0 (jx_R 227)) 228 1572956 _
  refine jv_Ev.steps jv_i324 2 (pc' := 2) (l' := [(0, .ref 180), (1, .int p1)]) (st' := [.int p1, .ref 180]) rfl ?_
  refine jv_Ev.br jv_i324 (pc' := 5) (st' := [.ref 180]) rfl (jv_bi_lt.trans (jx_gof g2)) ?_
  refine jv_Ev.steps jv_i324 2 (pc' := 7) (l' := [(0, .ref 180), (1, .int p1)]) (st' := [.ref 180, .int p1, .ref 180]) rfl ?_
  refine jv_Ev.m jv_i324 (pc' := 10) (st' := [.int (0 : Int32), .int p1, .ref 180]) rfl rfl (jv_m_getI rfl rfl rfl rfl) ?_
  refine jv_Ev.br jv_i324 (pc' := 13) (st' := [.ref 180]) rfl (jv_bc_lt.trans (jx_gof g2)) ?_
  refine jv_Ev.steps jv_i324 2 (pc' := 18) (l' := [(0, .ref 180), (1, .int p1)]) (st' := [.int (1 : Int32), .ref 180]) rfl ?_
  refine jv_Ev.m jv_i324 (pc' := 21) (st' := []) rfl rfl (jv_m_putI rfl rfl rfl rfl rfl) ?_
  refine jv_Ev.steps jv_i324 1 (pc' := 22) (l' := [(0, .ref 180), (1, .int p1)]) (st' := [.ref 180]) rfl ?_
  refine jv_Ev.m jv_i324 (pc' := 25) (st' := [.int (1 : Int32)]) rfl rfl (jv_m_getI rfl rfl rfl rfl) ?_
  refine jv_Ev.br jv_i324 (pc' := 28) (st' := []) rfl (jv_bi_le.trans (jx_gof (by decide))) ?_
  refine jv_Ev.steps jv_i324 2 (pc' := 33) (l' := [(0, .ref 180), (1, .int p1)]) (st' := [.int (1 : Int32)]) rfl ?_
  exact jv_Ev.ret jv_i324 rfl (jv_ret_b (by decide))

set_option maxRecDepth 100000 in
/-- ProgramBoxModel$Store.update -/
theorem jx_e307 (p0 : Int32) (p1 : Int32) (p2 : Int32) (p3 : Int32) (p4 : Int32) (p5 : Int32) (g1 : p1.toInt64 < (0 : Int64)) (g2 : ¬ p1 < (0 : Int32)) : jv_Ms 341 [.ref 180, .int p1, .int p2, .int p3, .int p4] (jv_H (jx_K 227) jx_If jx_L0 (jx_R 227)) 228 1572956 (some (.int (0 : Int32)), (jv_H (jx_K 227) (jv_u jx_If 180 0 (1 : Int32)) jx_L0 (jx_R 227)), 228, 1572956) := by
  show jv_Ev 341 0 [(0, .ref 180), (1, .int p1), (2, .int p2), (3, .int p3), (4, .int p4)] [] (jv_H (jx_K 227) jx_If jx_L0 (jx_R 227)) 228 1572956 _
  refine jv_Ev.steps jv_i341 2 (pc' := 2) (l' := [(0, .ref 180), (1, .int p1), (2, .int p2), (3, .int p3), (4, .int p4)]) (st' := [.int p1, .ref 180]) rfl ?_
  refine jv_Ev.c jv_i341 (pc' := 5) (S' := [.int (1 : Int32)]) jv_i324 [.ref 180, .int p1] rfl rfl rfl rfl (jv_cal rfl (jv_H_at rfl) rfl rfl) rfl (jx_e306 p0 p1 p2 p3 p4 p5 g1 g2) rfl rfl ?_
  refine jv_Ev.br jv_i341 (pc' := 8) (st' := []) rfl (jv_bi_eq.trans (jx_gof (by decide))) ?_
  refine jv_Ev.steps jv_i341 1 (pc' := 9) (l' := [(0, .ref 180), (1, .int p1), (2, .int p2), (3, .int p3), (4, .int p4)]) (st' := [.int (0 : Int32)]) rfl ?_
  exact jv_Ev.ret jv_i341 rfl rfl

set_option maxRecDepth 100000 in
/-- ProgramBoxModel$Store.thrown -/
theorem jx_e308 (p0 : Int32) (p1 : Int32) (p2 : Int32) (p3 : Int32) (p4 : Int32) (p5 : Int32) (g1 : p1.toInt64 < (0 : Int64)) (g2 : ¬ p1 < (0 : Int32)) : jv_Ms 318 [.ref 180] (jv_H (jx_K 227) (jv_u jx_If 180 0 (1 : Int32)) jx_L0 (jx_R 227)) 228 1572956 (some (.int (1 : Int32)), (jv_H (jx_K 227) (jv_u jx_If 180 0 (1 : Int32)) jx_L0 (jx_R 227)), 228, 1572956) := by
  show jv_Ev 318 0 [(0, .ref 180)] [] (jv_H (jx_K 227) (jv_u jx_If 180 0 (1 : Int32)) jx_L0 (jx_R 227)) 228 1572956 _
  refine jv_Ev.steps jv_i318 1 (pc' := 1) (l' := [(0, .ref 180)]) (st' := [.ref 180]) rfl ?_
  refine jv_Ev.m jv_i318 (pc' := 4) (st' := [.int (1 : Int32)]) rfl rfl (jv_m_getI rfl rfl rfl rfl) ?_
  exact jv_Ev.ret jv_i318 rfl rfl

set_option maxRecDepth 100000 in
/-- ProgramBoxModel.update -/
theorem jx_e309 (p0 : Int32) (p1 : Int32) (p2 : Int32) (p3 : Int32) (p4 : Int32) (p5 : Int32) (g1 : p1.toInt64 < (0 : Int64)) (g2 : ¬ p1 < (0 : Int32)) : jv_Ms 413 [.ref 178, .int p1, .int p2, .int p3, .int p4] (jv_H (jx_K 227) jx_If jx_L0 (jx_R 227)) 228 1572956 (some (.int (0 : Int32)), (jv_H (jx_K 227) (jv_u (jv_u jx_If 180 0 (1 : Int32)) 178 0 (1 : Int32)) jx_L0 (jx_R 227)), 228, 1572956) := by
  show jv_Ev 413 0 [(0, .ref 178), (1, .int p1), (2, .int p2), (3, .int p3), (4, .int p4)] [] (jv_H (jx_K 227) jx_If jx_L0 (jx_R 227)) 228 1572956 _
  refine jv_Ev.steps jv_i413 1 (pc' := 1) (l' := [(0, .ref 178), (1, .int p1), (2, .int p2), (3, .int p3), (4, .int p4)]) (st' := [.ref 178]) rfl ?_
  refine jv_Ev.m jv_i413 (pc' := 4) (st' := [.ref 180]) rfl rfl (jv_m_getR rfl rfl rfl rfl) ?_
  refine jv_Ev.steps jv_i413 4 (pc' := 9) (l' := [(0, .ref 178), (1, .int p1), (2, .int p2), (3, .int p3), (4, .int p4)]) (st' := [.int p4, .int p3, .int p2, .int p1, .ref 180]) rfl ?_
  refine jv_Ev.c jv_i413 (pc' := 12) (S' := [.int (0 : Int32)]) jv_i341 [.ref 180, .int p1, .int p2, .int p3, .int p4] rfl rfl rfl rfl (jv_cal rfl (jv_H_at rfl) rfl rfl) rfl (jx_e307 p0 p1 p2 p3 p4 p5 g1 g2) rfl rfl ?_
  refine jv_Ev.steps jv_i413 3 (pc' := 16) (l' := [(5, .int (0 : Int32)), (0, .ref 178), (1, .int p1), (2, .int p2), (3, .int p3), (4, .int p4)]) (st' := [.ref 178, .ref 178]) rfl ?_
  refine jv_Ev.m jv_i413 (pc' := 19) (st' := [.ref 180, .ref 178]) rfl rfl (jv_m_getR rfl rfl rfl rfl) ?_
  refine jv_Ev.c jv_i413 (pc' := 22) (S' := [.int (1 : Int32), .ref 178]) jv_i318 [.ref 180] rfl rfl rfl rfl (jv_cal rfl (jv_H_at rfl) rfl rfl) rfl (jx_e308 p0 p1 p2 p3 p4 p5 g1 g2) rfl rfl ?_
  refine jv_Ev.m jv_i413 (pc' := 25) (st' := []) rfl rfl (jv_m_putI rfl rfl rfl rfl rfl) ?_
  refine jv_Ev.steps jv_i413 1 (pc' := 27) (l' := [(5, .int (0 : Int32)), (0, .ref 178), (1, .int p1), (2, .int p2), (3, .int p3), (4, .int p4)]) (st' := [.int (0 : Int32)]) rfl ?_
  exact jv_Ev.ret jv_i413 rfl rfl

set_option maxRecDepth 100000 in
/-- ProgramBoxModel.thrown -/
theorem jx_e310 (p0 : Int32) (p1 : Int32) (p2 : Int32) (p3 : Int32) (p4 : Int32) (p5 : Int32) (g1 : p1.toInt64 < (0 : Int64)) (g2 : ¬ p1 < (0 : Int32)) : jv_Ms 350 [.ref 178] (jv_H (jx_K 227) (jv_u (jv_u jx_If 180 0 (1 : Int32)) 178 0 (1 : Int32)) jx_L0 (jx_R 227)) 228 1572956 (some (.int (1 : Int32)), (jv_H (jx_K 227) (jv_u (jv_u jx_If 180 0 (1 : Int32)) 178 0 (1 : Int32)) jx_L0 (jx_R 227)), 228, 1572956) := by
  show jv_Ev 350 0 [(0, .ref 178)] [] (jv_H (jx_K 227) (jv_u (jv_u jx_If 180 0 (1 : Int32)) 178 0 (1 : Int32)) jx_L0 (jx_R 227)) 228 1572956 _
  refine jv_Ev.steps jv_i350 1 (pc' := 1) (l' := [(0, .ref 178)]) (st' := [.ref 178]) rfl ?_
  refine jv_Ev.m jv_i350 (pc' := 4) (st' := [.int (1 : Int32)]) rfl rfl (jv_m_getI rfl rfl rfl rfl) ?_
  exact jv_Ev.ret jv_i350 rfl rfl

set_option maxRecDepth 100000 in
/-- the law: case 22, one way -/
theorem jx_l46 (p0 : Int32) (p1 : Int32) (p2 : Int32) (p3 : Int32) (p4 : Int32) (p5 : Int32) (g1 : p1.toInt64 < (0 : Int64)) (g2 : ¬ p1 < (0 : Int32)) (hsw : p0 &&& (31 : Int32) = (22 : Int32)) {p : Program} {l : Launch} {e : Env} {R : Room} {s : State} {m : MethodId} {args : Array Value} {below : List Frame} {meth : Method} {c : Code} {E : jv_Env} {Q : State → Prop} (hTb : jv_TOk jv_Tb) (hT2 : jx_T2Ok) (hl : l.stackTraces = false) (F : jx_F jv_T2 439 E p R s m args meth c) (hZ : jx_Z E s) (hRc : R.cells = 600002) (hRs : R.slots = 7302232) {bb : Nat} {xs : Nat → Int32} (hX : va_X bb 6 xs s E.2.2.2.2) (hbB : bb < E.2.2.2.1) (hE2 : E.1 1000002 = bb) (hQ : ∀ (l0 : jv_L) (G : jv_G) (n sl : Nat), n ≤ 600002 → sl ≤ 7302232 → jw p l e R s m args below meth c E 8 0 0 Q 1532 l0 [.int (1 : Int32)] G n sl) (q0 : xs 0 = p0) (q1 : xs 1 = p1) (q2 : xs 2 = p2) (q3 : xs 3 = p3) (q4 : xs 4 = p4) (q5 : xs 5 = p5) : jw p l e R s m args below meth c E 8 0 0 Q 33 [(0, .ref 1000002), (1, .ref 0), (2, .ref 178), (3, .ref 226), (4, .int (0 : Int32))] [] (jv_H (jx_K 227) jx_If jx_L0 (jx_R 227)) 227 1572950 := by
  refine jw.steps F jx_i439 2 (pc' := 36) (l' := [(0, .ref 1000002), (1, .ref 0), (2, .ref 178), (3, .ref 226), (4, .int (0 : Int32))]) (st' := [.int (0 : Int32), .ref 1000002]) rfl ?_
  refine jw.sld F jx_i439 hX hbB hE2 (pc' := 37) rfl rfl (show vp_in (nI 0) 6 from vp_in_nI (by decide) (by decide)) q0 rfl ?_
  refine jw.steps F jx_i439 2 (pc' := 40) (l' := [(0, .ref 1000002), (1, .ref 0), (2, .ref 178), (3, .ref 226), (4, .int (0 : Int32))]) (st' := [.int (p0 &&& (31 : Int32))]) rfl ?_
  refine jw.br F jx_i439 (pc' := 1204) (st' := []) rfl (by rw [hsw]; rfl) ?_
  refine jw.steps F jx_i439 5 (pc' := 1210) (l' := [(0, .ref 1000002), (1, .ref 0), (2, .ref 178), (3, .ref 226), (4, .int (0 : Int32))]) (st' := [.int (1 : Int32), .ref 1000002, .ref 0]) rfl ?_
  refine jw.sld F jx_i439 hX hbB hE2 (pc' := 1211) rfl rfl (show vp_in (nI 1) 6 from vp_in_nI (by decide) (by decide)) q1 rfl ?_
  refine jw.steps F jx_i439 4 (pc' := 1216) (l' := [(0, .ref 1000002), (1, .ref 0), (2, .ref 178), (3, .ref 226), (4, .int (0 : Int32))]) (st' := [.int (2 : Int32), .ref 1000002, .int p1, .ref 0]) rfl ?_
  refine jw.sld F jx_i439 hX hbB hE2 (pc' := 1217) rfl rfl (show vp_in (nI 2) 6 from vp_in_nI (by decide) (by decide)) q2 rfl ?_
  refine jw.steps F jx_i439 4 (pc' := 1222) (l' := [(0, .ref 1000002), (1, .ref 0), (2, .ref 178), (3, .ref 226), (4, .int (0 : Int32))]) (st' := [.int (3 : Int32), .ref 1000002, .int p2, .int p1, .ref 0]) rfl ?_
  refine jw.sld F jx_i439 hX hbB hE2 (pc' := 1223) rfl rfl (show vp_in (nI 3) 6 from vp_in_nI (by decide) (by decide)) q3 rfl ?_
  refine jw.steps F jx_i439 4 (pc' := 1228) (l' := [(0, .ref 1000002), (1, .ref 0), (2, .ref 178), (3, .ref 226), (4, .int (0 : Int32))]) (st' := [.int (4 : Int32), .ref 1000002, .int p3, .int p2, .int p1, .ref 0]) rfl ?_
  refine jw.sld F jx_i439 hX hbB hE2 (pc' := 1229) rfl rfl (show vp_in (nI 4) 6 from vp_in_nI (by decide) (by decide)) q4 rfl ?_
  refine jw.steps F jx_i439 1 (pc' := 1230) (l' := [(0, .ref 1000002), (1, .ref 0), (2, .ref 178), (3, .ref 226), (4, .int (0 : Int32))]) (st' := [.ref 226, .int p4, .int p3, .int p2, .int p1, .ref 0]) rfl ?_
  refine jw.wr F hl hZ rfl jx_i439 jx_i454 [.ref 0, .int p1, .int p2, .int p3, .int p4, .ref 226] (pc' := 1233) (S' := [.int (1 : Int32)]) rfl (List.mem_of_getElem? (i := 14) rfl) (List.mem_of_getElem? (i := 14) rfl) rfl rfl rfl (jx_w305 hTb hT2 p0 p1 p2 p3 p4 p5 g1 g2) (by omega) (by omega) (by omega) (by omega) rfl rfl ?_
  refine jw.steps F jx_i439 6 (pc' := 1241) (l' := [(5, .int (1 : Int32)), (0, .ref 1000002), (1, .ref 0), (2, .ref 178), (3, .ref 226), (4, .int (0 : Int32))]) (st' := [.int (1 : Int32), .ref 1000002, .ref 178]) rfl ?_
  refine jw.sld F jx_i439 hX hbB hE2 (pc' := 1242) rfl rfl (show vp_in (nI 1) 6 from vp_in_nI (by decide) (by decide)) q1 rfl ?_
  refine jw.steps F jx_i439 4 (pc' := 1247) (l' := [(5, .int (1 : Int32)), (0, .ref 1000002), (1, .ref 0), (2, .ref 178), (3, .ref 226), (4, .int (0 : Int32))]) (st' := [.int (2 : Int32), .ref 1000002, .int p1, .ref 178]) rfl ?_
  refine jw.sld F jx_i439 hX hbB hE2 (pc' := 1248) rfl rfl (show vp_in (nI 2) 6 from vp_in_nI (by decide) (by decide)) q2 rfl ?_
  refine jw.steps F jx_i439 4 (pc' := 1253) (l' := [(5, .int (1 : Int32)), (0, .ref 1000002), (1, .ref 0), (2, .ref 178), (3, .ref 226), (4, .int (0 : Int32))]) (st' := [.int (3 : Int32), .ref 1000002, .int p2, .int p1, .ref 178]) rfl ?_
  refine jw.sld F jx_i439 hX hbB hE2 (pc' := 1254) rfl rfl (show vp_in (nI 3) 6 from vp_in_nI (by decide) (by decide)) q3 rfl ?_
  refine jw.steps F jx_i439 4 (pc' := 1259) (l' := [(5, .int (1 : Int32)), (0, .ref 1000002), (1, .ref 0), (2, .ref 178), (3, .ref 226), (4, .int (0 : Int32))]) (st' := [.int (4 : Int32), .ref 1000002, .int p3, .int p2, .int p1, .ref 178]) rfl ?_
  refine jw.sld F jx_i439 hX hbB hE2 (pc' := 1260) rfl rfl (show vp_in (nI 4) 6 from vp_in_nI (by decide) (by decide)) q4 rfl ?_
  refine jw.ca hTb F jx_i439 (pc' := 1263) (S' := [.int (0 : Int32)]) rfl jv_i413 [.ref 178, .int p1, .int p2, .int p3, .int p4] rfl rfl rfl rfl (jx_cal2 rfl (jv_H_at rfl) rfl rfl) rfl (jx_e309 p0 p1 p2 p3 p4 p5 g1 g2) (by omega) (by omega) rfl rfl ?_
  refine jw.steps F jx_i439 2 (pc' := 1266) (l' := [(6, .int (0 : Int32)), (5, .int (1 : Int32)), (0, .ref 1000002), (1, .ref 0), (2, .ref 178), (3, .ref 226), (4, .int (0 : Int32))]) (st' := [.ref 178]) rfl ?_
  refine jw.ca hTb F jx_i439 (pc' := 1269) (S' := [.int (1 : Int32)]) rfl jv_i350 [.ref 178] rfl rfl rfl rfl (jx_cal2 rfl (jv_H_at rfl) rfl rfl) rfl (jx_e310 p0 p1 p2 p3 p4 p5 g1 g2) (by omega) (by omega) rfl rfl ?_
  refine jw.steps F jx_i439 1 (pc' := 1271) (l' := [(6, .int (0 : Int32)), (5, .int (1 : Int32)), (0, .ref 1000002), (1, .ref 0), (2, .ref 178), (3, .ref 226), (4, .int (0 : Int32))]) (st' := [.int (1 : Int32), .int (1 : Int32)]) rfl ?_
  refine jw.br F jx_i439 (pc' := 1276) (st' := []) rfl (jv_bc_eq.trans (jx_got (by decide))) ?_
  refine jw.steps F jx_i439 1 (pc' := 1278) (l' := [(6, .int (0 : Int32)), (5, .int (1 : Int32)), (0, .ref 1000002), (1, .ref 0), (2, .ref 178), (3, .ref 226), (4, .int (0 : Int32))]) (st' := [.int (1 : Int32)]) rfl ?_
  refine jw.br F jx_i439 (pc' := 1293) (st' := []) rfl (jv_bi_ne.trans (jx_got (by decide))) ?_
  refine jw.steps F jx_i439 5 (pc' := 26) (l' := [(4, .int (6 : Int32)), (6, .int (0 : Int32)), (5, .int (1 : Int32)), (0, .ref 1000002), (1, .ref 0), (2, .ref 178), (3, .ref 226)]) (st' := [.ref 1000002, .int (6 : Int32)]) rfl ?_
  refine jw.slen F jx_i439 hX hbB hE2 (pc' := 27) rfl rfl rfl ?_
  refine jw.steps F jx_i439 2 (pc' := 30) (l' := [(4, .int (6 : Int32)), (6, .int (0 : Int32)), (5, .int (1 : Int32)), (0, .ref 1000002), (1, .ref 0), (2, .ref 178), (3, .ref 226)]) (st' := [.int (0 : Int32), .int (6 : Int32)]) rfl ?_
  refine jw.br F jx_i439 (pc' := 1531) (st' := []) rfl (jv_bc_gt.trans (jx_got (by decide))) ?_
  refine jw.steps F jx_i439 1 (pc' := 1532) (l' := [(4, .int (6 : Int32)), (6, .int (0 : Int32)), (5, .int (1 : Int32)), (0, .ref 1000002), (1, .ref 0), (2, .ref 178), (3, .ref 226)]) (st' := [.int (1 : Int32)]) rfl ?_
  exact hQ _ _ _ _ (by omega) (by omega)

set_option maxRecDepth 100000 in
/-- ProgramBox$Store.map -/
theorem jx_e315 (p0 : Int32) (p1 : Int32) (p2 : Int32) (p3 : Int32) (p4 : Int32) (p5 : Int32) (g1 : ¬ p1.toInt64 < (0 : Int64)) (g2 : p1 < (0 : Int32)) : jv_Ms 126 [.ref 2, .long p1.toInt64] (jv_H (jx_K 227) jx_If jx_L0 (jx_R 227)) 227 1572950 (some (.null), (jv_H (jx_K 227) jx_If jx_L0 (jx_R 227)), 227, 1572950) := by
  show jv_Ev 126 0 [(0, .ref 2), (1, .long p1.toInt64)] [] (jv_H (jx_K 227) jx_If jx_L0 (jx_R 227)) 227 1572950 _
  refine jv_Ev.steps jv_i126 3 (pc' := 3) (l' := [(0, .ref 2), (1, .long p1.toInt64)]) (st' := [.int (lg_cmp p1.toInt64 (0 : Int64))]) rfl ?_
  refine jv_Ev.br jv_i126 (pc' := 6) (st' := []) rfl (jv_bi_lt.trans (jx_gof (fun h => g1 ((lg_cmp_lt p1.toInt64 (0 : Int64)).mp h)))) ?_
  refine jv_Ev.steps jv_i126 2 (pc' := 8) (l' := [(0, .ref 2), (1, .long p1.toInt64)]) (st' := [.ref 2, .long p1.toInt64]) rfl ?_
  refine jv_Ev.m jv_i126 (pc' := 11) (st' := [.int (0 : Int32), .long p1.toInt64]) rfl rfl (jv_m_getI rfl rfl rfl rfl) ?_
  refine jv_Ev.steps jv_i126 2 (pc' := 13) (l' := [(0, .ref 2), (1, .long p1.toInt64)]) (st' := [.int (lg_cmp p1.toInt64 (0 : Int64))]) rfl ?_
  refine jv_Ev.br jv_i126 (pc' := 16) (st' := []) rfl (jv_bi_lt.trans (jx_gof (fun h => g1 ((lg_cmp_lt p1.toInt64 (0 : Int64)).mp h)))) ?_
  refine jv_Ev.steps jv_i126 2 (pc' := 27) (l' := [(0, .ref 2), (1, .long p1.toInt64)]) (st' := [.null]) rfl ?_
  exact jv_Ev.ret jv_i126 rfl rfl

set_option maxRecDepth 100000 in
/-- ProgramBox.mapOf: it throws -/
theorem jx_e316 (hTb : jv_TOk jv_Tb) (p0 : Int32) (p1 : Int32) (p2 : Int32) (p3 : Int32) (p4 : Int32) (p5 : Int32) (g1 : ¬ p1.toInt64 < (0 : Int64)) (g2 : p1 < (0 : Int32)) : jx_Th 429 [.ref 0, .int p1] (jv_H (jx_K 227) jx_If jx_L0 (jx_R 227)) 227 1572950 2 (jv_H (jx_K 227) jx_If jx_L0 (jx_R 227)) 228 1572956 := by
  refine jx_Th.of hTb (y := 429) rfl (Nat.le_of_ble_eq_true rfl) ?_
  intro p l e R s m args below meth c E hl F hZ h0 ht hRc hRs
  show jw p l e R s m args below meth c E 3 227 1572950 _ 0 [(0, .ref 0), (1, .int p1)] [] (jv_H (jx_K 227) jx_If jx_L0 (jx_R 227)) 227 1572950
  refine jw.steps F jv_i429 1 (pc' := 1) (l' := [(0, .ref 0), (1, .int p1)]) (st' := [.ref 0]) rfl ?_
  refine jw.me F jv_i429 (pc' := 4) (st' := [.ref 2]) rfl rfl (jv_m_getR rfl rfl rfl rfl) ?_
  refine jw.steps F jv_i429 2 (pc' := 6) (l' := [(0, .ref 0), (1, .int p1)]) (st' := [.long p1.toInt64, .ref 2]) rfl ?_
  refine jw.ca hTb F jv_i429 (pc' := 9) (S' := [.null]) rfl jv_i126 [.ref 2, .long p1.toInt64] rfl rfl rfl rfl (jv_cal rfl (jv_H_at rfl) rfl rfl) rfl (jx_e315 p0 p1 p2 p3 p4 p5 g1 g2) (by omega) (by omega) rfl rfl ?_
  refine jw.steps F jv_i429 2 (pc' := 11) (l' := [(2, .null), (0, .ref 0), (1, .int p1)]) (st' := [.null]) rfl ?_
  refine jw.br F jv_i429 (pc' := 14) (st' := []) rfl rfl ?_
  exact jw.throw hl F hZ h0 rfl jv_i429 ht 2 183 "there is no such map" (List.mem_of_getElem? (i := 11) rfl) (by decide +kernel) (by decide +kernel) (by decide +kernel) (by decide +kernel) (by decide +kernel) rfl (by decide) (by decide) (by decide) (by omega) (by omega)

set_option maxRecDepth 100000 in
/-- ProgramBox.update: it throws -/
theorem jx_e317 (hTb : jv_TOk jv_Tb) (p0 : Int32) (p1 : Int32) (p2 : Int32) (p3 : Int32) (p4 : Int32) (p5 : Int32) (g1 : ¬ p1.toInt64 < (0 : Int64)) (g2 : p1 < (0 : Int32)) : jx_Th 435 [.ref 0, .int p1, .int p2, .int p3, .int p4] (jv_H (jx_K 227) jx_If jx_L0 (jx_R 227)) 227 1572950 2 (jv_H (jx_K 227) jx_If jx_L0 (jx_R 227)) 228 1572956 := by
  refine jx_Th.of hTb (y := 435) rfl (Nat.le_of_ble_eq_true rfl) ?_
  intro p l e R s m args below meth c E hl F hZ h0 ht hRc hRs
  show jw p l e R s m args below meth c E 6 227 1572950 _ 0 [(0, .ref 0), (1, .int p1), (2, .int p2), (3, .int p3), (4, .int p4)] [] (jv_H (jx_K 227) jx_If jx_L0 (jx_R 227)) 227 1572950
  refine jw.steps F jv_i435 2 (pc' := 2) (l' := [(0, .ref 0), (1, .int p1), (2, .int p2), (3, .int p3), (4, .int p4)]) (st' := [.int p1, .ref 0]) rfl ?_
  exact jw.prop hTb hl F hZ jv_i435 ht rfl jv_i429 [.ref 0, .int p1] rfl rfl rfl rfl rfl (jv_cal rfl (jv_H_at rfl) rfl rfl) rfl (jx_e316 hTb p0 p1 p2 p3 p4 p5 g1 g2) (by omega) (by omega) (by omega) (by omega)

set_option maxRecDepth 100000 in
/-- the law's update -/
theorem jx_w318 (hTb : jv_TOk jv_Tb) (hT2 : jx_T2Ok) (p0 : Int32) (p1 : Int32) (p2 : Int32) (p3 : Int32) (p4 : Int32) (p5 : Int32) (g1 : ¬ p1.toInt64 < (0 : Int64)) (g2 : p1 < (0 : Int32)) : jx_Wr 454 [(0, 14, 17, 36)] [.ref 0, .int p1, .int p2, .int p3, .int p4, .ref 226] (jv_H (jx_K 227) jx_If jx_L0 (jx_R 227)) 227 1572950 (some (.int (1 : Int32)), (jv_H (jx_K 227) jx_If jx_L0 (jx_R 227)), 228, 1572956) := by
  refine jx_Wr.of hT2 (by decide) rfl (Nat.le_of_ble_eq_true rfl) ?_
  intro p l e R s m args below meth c E hl F hZ htb hRc hRs
  show jw p l e R s m args below meth c E 7 227 1572950 _ 0 [(0, .ref 0), (1, .int p1), (2, .int p2), (3, .int p3), (4, .int p4), (5, .ref 226)] [] (jv_H (jx_K 227) jx_If jx_L0 (jx_R 227)) 227 1572950
  have hRc : R.cells = 228 - 227 := hRc
  have hRs : R.slots = 1572956 - 1572950 := hRs
  refine jw.steps F jx_i454 7 (pc' := 9) (l' := [(0, .ref 0), (1, .int p1), (2, .int p2), (3, .int p3), (4, .int p4), (5, .ref 226)]) (st' := [.int p4, .int p3, .int p2, .int p1, .ref 0, .int (0 : Int32), .ref 226]) rfl ?_
  refine jw.cat hTb hl F hZ rfl jx_i454 htb rfl jv_i435 [.ref 0, .int p1, .int p2, .int p3, .int p4] rfl rfl rfl rfl rfl (jx_cal2 rfl (jv_H_at rfl) rfl rfl) rfl (jx_e317 hTb p0 p1 p2 p3 p4 p5 g1 g2) (by omega) (by omega) (by omega) (by omega) [] (0, 14, 17, 36) [] rfl (fun z h => absurd h List.not_mem_nil) (by decide) rfl rfl (Or.inl ⟨rfl, rfl⟩) (by decide) ?_
  refine jw.steps F jx_i454 1 (pc' := 20) (l' := []) (st' := [.int (1 : Int32)]) rfl ?_
  exact jw.ret F jx_i454 rfl rfl

set_option maxRecDepth 100000 in
/-- ProgramBoxModel$Store.noMap -/
theorem jx_e319 (p0 : Int32) (p1 : Int32) (p2 : Int32) (p3 : Int32) (p4 : Int32) (p5 : Int32) (g1 : ¬ p1.toInt64 < (0 : Int64)) (g2 : p1 < (0 : Int32)) : jv_Ms 324 [.ref 180, .int p1] (jv_H (jx_K 227) jx_If jx_L0 (jx_R 227)) 228 1572956 (some (.int (1 : Int32)), (jv_H (jx_K 227) (jv_u jx_If 180 0 (1 : Int32)) jx_L0 (jx_R 227)), 228, 1572956) := by
  show jv_Ev 324 0 [(0, .ref 180), (1, .int p1)] [] (jv_H (jx_K 227) jx_If jx_L0 (jx_R 227)) 228 1572956 _
  refine jv_Ev.steps jv_i324 2 (pc' := 2) (l' := [(0, .ref 180), (1, .int p1)]) (st' := [.int p1, .ref 180]) rfl ?_
  refine jv_Ev.br jv_i324 (pc' := 13) (st' := [.ref 180]) rfl (jv_bi_lt.trans (jx_got g2)) ?_
  refine jv_Ev.steps jv_i324 2 (pc' := 18) (l' := [(0, .ref 180), (1, .int p1)]) (st' := [.int (1 : Int32), .ref 180]) rfl ?_
  refine jv_Ev.m jv_i324 (pc' := 21) (st' := []) rfl rfl (jv_m_putI rfl rfl rfl rfl rfl) ?_
  refine jv_Ev.steps jv_i324 1 (pc' := 22) (l' := [(0, .ref 180), (1, .int p1)]) (st' := [.ref 180]) rfl ?_
  refine jv_Ev.m jv_i324 (pc' := 25) (st' := [.int (1 : Int32)]) rfl rfl (jv_m_getI rfl rfl rfl rfl) ?_
  refine jv_Ev.br jv_i324 (pc' := 28) (st' := []) rfl (jv_bi_le.trans (jx_gof (by decide))) ?_
  refine jv_Ev.steps jv_i324 2 (pc' := 33) (l' := [(0, .ref 180), (1, .int p1)]) (st' := [.int (1 : Int32)]) rfl ?_
  exact jv_Ev.ret jv_i324 rfl (jv_ret_b (by decide))

set_option maxRecDepth 100000 in
/-- ProgramBoxModel$Store.update -/
theorem jx_e320 (p0 : Int32) (p1 : Int32) (p2 : Int32) (p3 : Int32) (p4 : Int32) (p5 : Int32) (g1 : ¬ p1.toInt64 < (0 : Int64)) (g2 : p1 < (0 : Int32)) : jv_Ms 341 [.ref 180, .int p1, .int p2, .int p3, .int p4] (jv_H (jx_K 227) jx_If jx_L0 (jx_R 227)) 228 1572956 (some (.int (0 : Int32)), (jv_H (jx_K 227) (jv_u jx_If 180 0 (1 : Int32)) jx_L0 (jx_R 227)), 228, 1572956) := by
  show jv_Ev 341 0 [(0, .ref 180), (1, .int p1), (2, .int p2), (3, .int p3), (4, .int p4)] [] (jv_H (jx_K 227) jx_If jx_L0 (jx_R 227)) 228 1572956 _
  refine jv_Ev.steps jv_i341 2 (pc' := 2) (l' := [(0, .ref 180), (1, .int p1), (2, .int p2), (3, .int p3), (4, .int p4)]) (st' := [.int p1, .ref 180]) rfl ?_
  refine jv_Ev.c jv_i341 (pc' := 5) (S' := [.int (1 : Int32)]) jv_i324 [.ref 180, .int p1] rfl rfl rfl rfl (jv_cal rfl (jv_H_at rfl) rfl rfl) rfl (jx_e319 p0 p1 p2 p3 p4 p5 g1 g2) rfl rfl ?_
  refine jv_Ev.br jv_i341 (pc' := 8) (st' := []) rfl (jv_bi_eq.trans (jx_gof (by decide))) ?_
  refine jv_Ev.steps jv_i341 1 (pc' := 9) (l' := [(0, .ref 180), (1, .int p1), (2, .int p2), (3, .int p3), (4, .int p4)]) (st' := [.int (0 : Int32)]) rfl ?_
  exact jv_Ev.ret jv_i341 rfl rfl

set_option maxRecDepth 100000 in
/-- ProgramBoxModel$Store.thrown -/
theorem jx_e321 (p0 : Int32) (p1 : Int32) (p2 : Int32) (p3 : Int32) (p4 : Int32) (p5 : Int32) (g1 : ¬ p1.toInt64 < (0 : Int64)) (g2 : p1 < (0 : Int32)) : jv_Ms 318 [.ref 180] (jv_H (jx_K 227) (jv_u jx_If 180 0 (1 : Int32)) jx_L0 (jx_R 227)) 228 1572956 (some (.int (1 : Int32)), (jv_H (jx_K 227) (jv_u jx_If 180 0 (1 : Int32)) jx_L0 (jx_R 227)), 228, 1572956) := by
  show jv_Ev 318 0 [(0, .ref 180)] [] (jv_H (jx_K 227) (jv_u jx_If 180 0 (1 : Int32)) jx_L0 (jx_R 227)) 228 1572956 _
  refine jv_Ev.steps jv_i318 1 (pc' := 1) (l' := [(0, .ref 180)]) (st' := [.ref 180]) rfl ?_
  refine jv_Ev.m jv_i318 (pc' := 4) (st' := [.int (1 : Int32)]) rfl rfl (jv_m_getI rfl rfl rfl rfl) ?_
  exact jv_Ev.ret jv_i318 rfl rfl

set_option maxRecDepth 100000 in
/-- ProgramBoxModel.update -/
theorem jx_e322 (p0 : Int32) (p1 : Int32) (p2 : Int32) (p3 : Int32) (p4 : Int32) (p5 : Int32) (g1 : ¬ p1.toInt64 < (0 : Int64)) (g2 : p1 < (0 : Int32)) : jv_Ms 413 [.ref 178, .int p1, .int p2, .int p3, .int p4] (jv_H (jx_K 227) jx_If jx_L0 (jx_R 227)) 228 1572956 (some (.int (0 : Int32)), (jv_H (jx_K 227) (jv_u (jv_u jx_If 180 0 (1 : Int32)) 178 0 (1 : Int32)) jx_L0 (jx_R 227)), 228, 1572956) := by
  show jv_Ev 413 0 [(0, .ref 178), (1, .int p1), (2, .int p2), (3, .int p3), (4, .int p4)] [] (jv_H (jx_K 227) jx_If jx_L0 (jx_R 227)) 228 1572956 _
  refine jv_Ev.steps jv_i413 1 (pc' := 1) (l' := [(0, .ref 178), (1, .int p1), (2, .int p2), (3, .int p3), (4, .int p4)]) (st' := [.ref 178]) rfl ?_
  refine jv_Ev.m jv_i413 (pc' := 4) (st' := [.ref 180]) rfl rfl (jv_m_getR rfl rfl rfl rfl) ?_
  refine jv_Ev.steps jv_i413 4 (pc' := 9) (l' := [(0, .ref 178), (1, .int p1), (2, .int p2), (3, .int p3), (4, .int p4)]) (st' := [.int p4, .int p3, .int p2, .int p1, .ref 180]) rfl ?_
  refine jv_Ev.c jv_i413 (pc' := 12) (S' := [.int (0 : Int32)]) jv_i341 [.ref 180, .int p1, .int p2, .int p3, .int p4] rfl rfl rfl rfl (jv_cal rfl (jv_H_at rfl) rfl rfl) rfl (jx_e320 p0 p1 p2 p3 p4 p5 g1 g2) rfl rfl ?_
  refine jv_Ev.steps jv_i413 3 (pc' := 16) (l' := [(5, .int (0 : Int32)), (0, .ref 178), (1, .int p1), (2, .int p2), (3, .int p3), (4, .int p4)]) (st' := [.ref 178, .ref 178]) rfl ?_
  refine jv_Ev.m jv_i413 (pc' := 19) (st' := [.ref 180, .ref 178]) rfl rfl (jv_m_getR rfl rfl rfl rfl) ?_
  refine jv_Ev.c jv_i413 (pc' := 22) (S' := [.int (1 : Int32), .ref 178]) jv_i318 [.ref 180] rfl rfl rfl rfl (jv_cal rfl (jv_H_at rfl) rfl rfl) rfl (jx_e321 p0 p1 p2 p3 p4 p5 g1 g2) rfl rfl ?_
  refine jv_Ev.m jv_i413 (pc' := 25) (st' := []) rfl rfl (jv_m_putI rfl rfl rfl rfl rfl) ?_
  refine jv_Ev.steps jv_i413 1 (pc' := 27) (l' := [(5, .int (0 : Int32)), (0, .ref 178), (1, .int p1), (2, .int p2), (3, .int p3), (4, .int p4)]) (st' := [.int (0 : Int32)]) rfl ?_
  exact jv_Ev.ret jv_i413 rfl rfl

set_option maxRecDepth 100000 in
/-- ProgramBoxModel.thrown -/
theorem jx_e323 (p0 : Int32) (p1 : Int32) (p2 : Int32) (p3 : Int32) (p4 : Int32) (p5 : Int32) (g1 : ¬ p1.toInt64 < (0 : Int64)) (g2 : p1 < (0 : Int32)) : jv_Ms 350 [.ref 178] (jv_H (jx_K 227) (jv_u (jv_u jx_If 180 0 (1 : Int32)) 178 0 (1 : Int32)) jx_L0 (jx_R 227)) 228 1572956 (some (.int (1 : Int32)), (jv_H (jx_K 227) (jv_u (jv_u jx_If 180 0 (1 : Int32)) 178 0 (1 : Int32)) jx_L0 (jx_R 227)), 228, 1572956) := by
  show jv_Ev 350 0 [(0, .ref 178)] [] (jv_H (jx_K 227) (jv_u (jv_u jx_If 180 0 (1 : Int32)) 178 0 (1 : Int32)) jx_L0 (jx_R 227)) 228 1572956 _
  refine jv_Ev.steps jv_i350 1 (pc' := 1) (l' := [(0, .ref 178)]) (st' := [.ref 178]) rfl ?_
  refine jv_Ev.m jv_i350 (pc' := 4) (st' := [.int (1 : Int32)]) rfl rfl (jv_m_getI rfl rfl rfl rfl) ?_
  exact jv_Ev.ret jv_i350 rfl rfl

set_option maxRecDepth 100000 in
/-- the law: case 22, one way -/
theorem jx_l47 (p0 : Int32) (p1 : Int32) (p2 : Int32) (p3 : Int32) (p4 : Int32) (p5 : Int32) (g1 : ¬ p1.toInt64 < (0 : Int64)) (g2 : p1 < (0 : Int32)) (hsw : p0 &&& (31 : Int32) = (22 : Int32)) {p : Program} {l : Launch} {e : Env} {R : Room} {s : State} {m : MethodId} {args : Array Value} {below : List Frame} {meth : Method} {c : Code} {E : jv_Env} {Q : State → Prop} (hTb : jv_TOk jv_Tb) (hT2 : jx_T2Ok) (hl : l.stackTraces = false) (F : jx_F jv_T2 439 E p R s m args meth c) (hZ : jx_Z E s) (hRc : R.cells = 600002) (hRs : R.slots = 7302232) {bb : Nat} {xs : Nat → Int32} (hX : va_X bb 6 xs s E.2.2.2.2) (hbB : bb < E.2.2.2.1) (hE2 : E.1 1000002 = bb) (hQ : ∀ (l0 : jv_L) (G : jv_G) (n sl : Nat), n ≤ 600002 → sl ≤ 7302232 → jw p l e R s m args below meth c E 8 0 0 Q 1532 l0 [.int (1 : Int32)] G n sl) (q0 : xs 0 = p0) (q1 : xs 1 = p1) (q2 : xs 2 = p2) (q3 : xs 3 = p3) (q4 : xs 4 = p4) (q5 : xs 5 = p5) : jw p l e R s m args below meth c E 8 0 0 Q 33 [(0, .ref 1000002), (1, .ref 0), (2, .ref 178), (3, .ref 226), (4, .int (0 : Int32))] [] (jv_H (jx_K 227) jx_If jx_L0 (jx_R 227)) 227 1572950 := by
  refine jw.steps F jx_i439 2 (pc' := 36) (l' := [(0, .ref 1000002), (1, .ref 0), (2, .ref 178), (3, .ref 226), (4, .int (0 : Int32))]) (st' := [.int (0 : Int32), .ref 1000002]) rfl ?_
  refine jw.sld F jx_i439 hX hbB hE2 (pc' := 37) rfl rfl (show vp_in (nI 0) 6 from vp_in_nI (by decide) (by decide)) q0 rfl ?_
  refine jw.steps F jx_i439 2 (pc' := 40) (l' := [(0, .ref 1000002), (1, .ref 0), (2, .ref 178), (3, .ref 226), (4, .int (0 : Int32))]) (st' := [.int (p0 &&& (31 : Int32))]) rfl ?_
  refine jw.br F jx_i439 (pc' := 1204) (st' := []) rfl (by rw [hsw]; rfl) ?_
  refine jw.steps F jx_i439 5 (pc' := 1210) (l' := [(0, .ref 1000002), (1, .ref 0), (2, .ref 178), (3, .ref 226), (4, .int (0 : Int32))]) (st' := [.int (1 : Int32), .ref 1000002, .ref 0]) rfl ?_
  refine jw.sld F jx_i439 hX hbB hE2 (pc' := 1211) rfl rfl (show vp_in (nI 1) 6 from vp_in_nI (by decide) (by decide)) q1 rfl ?_
  refine jw.steps F jx_i439 4 (pc' := 1216) (l' := [(0, .ref 1000002), (1, .ref 0), (2, .ref 178), (3, .ref 226), (4, .int (0 : Int32))]) (st' := [.int (2 : Int32), .ref 1000002, .int p1, .ref 0]) rfl ?_
  refine jw.sld F jx_i439 hX hbB hE2 (pc' := 1217) rfl rfl (show vp_in (nI 2) 6 from vp_in_nI (by decide) (by decide)) q2 rfl ?_
  refine jw.steps F jx_i439 4 (pc' := 1222) (l' := [(0, .ref 1000002), (1, .ref 0), (2, .ref 178), (3, .ref 226), (4, .int (0 : Int32))]) (st' := [.int (3 : Int32), .ref 1000002, .int p2, .int p1, .ref 0]) rfl ?_
  refine jw.sld F jx_i439 hX hbB hE2 (pc' := 1223) rfl rfl (show vp_in (nI 3) 6 from vp_in_nI (by decide) (by decide)) q3 rfl ?_
  refine jw.steps F jx_i439 4 (pc' := 1228) (l' := [(0, .ref 1000002), (1, .ref 0), (2, .ref 178), (3, .ref 226), (4, .int (0 : Int32))]) (st' := [.int (4 : Int32), .ref 1000002, .int p3, .int p2, .int p1, .ref 0]) rfl ?_
  refine jw.sld F jx_i439 hX hbB hE2 (pc' := 1229) rfl rfl (show vp_in (nI 4) 6 from vp_in_nI (by decide) (by decide)) q4 rfl ?_
  refine jw.steps F jx_i439 1 (pc' := 1230) (l' := [(0, .ref 1000002), (1, .ref 0), (2, .ref 178), (3, .ref 226), (4, .int (0 : Int32))]) (st' := [.ref 226, .int p4, .int p3, .int p2, .int p1, .ref 0]) rfl ?_
  refine jw.wr F hl hZ rfl jx_i439 jx_i454 [.ref 0, .int p1, .int p2, .int p3, .int p4, .ref 226] (pc' := 1233) (S' := [.int (1 : Int32)]) rfl (List.mem_of_getElem? (i := 14) rfl) (List.mem_of_getElem? (i := 14) rfl) rfl rfl rfl (jx_w318 hTb hT2 p0 p1 p2 p3 p4 p5 g1 g2) (by omega) (by omega) (by omega) (by omega) rfl rfl ?_
  refine jw.steps F jx_i439 6 (pc' := 1241) (l' := [(5, .int (1 : Int32)), (0, .ref 1000002), (1, .ref 0), (2, .ref 178), (3, .ref 226), (4, .int (0 : Int32))]) (st' := [.int (1 : Int32), .ref 1000002, .ref 178]) rfl ?_
  refine jw.sld F jx_i439 hX hbB hE2 (pc' := 1242) rfl rfl (show vp_in (nI 1) 6 from vp_in_nI (by decide) (by decide)) q1 rfl ?_
  refine jw.steps F jx_i439 4 (pc' := 1247) (l' := [(5, .int (1 : Int32)), (0, .ref 1000002), (1, .ref 0), (2, .ref 178), (3, .ref 226), (4, .int (0 : Int32))]) (st' := [.int (2 : Int32), .ref 1000002, .int p1, .ref 178]) rfl ?_
  refine jw.sld F jx_i439 hX hbB hE2 (pc' := 1248) rfl rfl (show vp_in (nI 2) 6 from vp_in_nI (by decide) (by decide)) q2 rfl ?_
  refine jw.steps F jx_i439 4 (pc' := 1253) (l' := [(5, .int (1 : Int32)), (0, .ref 1000002), (1, .ref 0), (2, .ref 178), (3, .ref 226), (4, .int (0 : Int32))]) (st' := [.int (3 : Int32), .ref 1000002, .int p2, .int p1, .ref 178]) rfl ?_
  refine jw.sld F jx_i439 hX hbB hE2 (pc' := 1254) rfl rfl (show vp_in (nI 3) 6 from vp_in_nI (by decide) (by decide)) q3 rfl ?_
  refine jw.steps F jx_i439 4 (pc' := 1259) (l' := [(5, .int (1 : Int32)), (0, .ref 1000002), (1, .ref 0), (2, .ref 178), (3, .ref 226), (4, .int (0 : Int32))]) (st' := [.int (4 : Int32), .ref 1000002, .int p3, .int p2, .int p1, .ref 178]) rfl ?_
  refine jw.sld F jx_i439 hX hbB hE2 (pc' := 1260) rfl rfl (show vp_in (nI 4) 6 from vp_in_nI (by decide) (by decide)) q4 rfl ?_
  refine jw.ca hTb F jx_i439 (pc' := 1263) (S' := [.int (0 : Int32)]) rfl jv_i413 [.ref 178, .int p1, .int p2, .int p3, .int p4] rfl rfl rfl rfl (jx_cal2 rfl (jv_H_at rfl) rfl rfl) rfl (jx_e322 p0 p1 p2 p3 p4 p5 g1 g2) (by omega) (by omega) rfl rfl ?_
  refine jw.steps F jx_i439 2 (pc' := 1266) (l' := [(6, .int (0 : Int32)), (5, .int (1 : Int32)), (0, .ref 1000002), (1, .ref 0), (2, .ref 178), (3, .ref 226), (4, .int (0 : Int32))]) (st' := [.ref 178]) rfl ?_
  refine jw.ca hTb F jx_i439 (pc' := 1269) (S' := [.int (1 : Int32)]) rfl jv_i350 [.ref 178] rfl rfl rfl rfl (jx_cal2 rfl (jv_H_at rfl) rfl rfl) rfl (jx_e323 p0 p1 p2 p3 p4 p5 g1 g2) (by omega) (by omega) rfl rfl ?_
  refine jw.steps F jx_i439 1 (pc' := 1271) (l' := [(6, .int (0 : Int32)), (5, .int (1 : Int32)), (0, .ref 1000002), (1, .ref 0), (2, .ref 178), (3, .ref 226), (4, .int (0 : Int32))]) (st' := [.int (1 : Int32), .int (1 : Int32)]) rfl ?_
  refine jw.br F jx_i439 (pc' := 1276) (st' := []) rfl (jv_bc_eq.trans (jx_got (by decide))) ?_
  refine jw.steps F jx_i439 1 (pc' := 1278) (l' := [(6, .int (0 : Int32)), (5, .int (1 : Int32)), (0, .ref 1000002), (1, .ref 0), (2, .ref 178), (3, .ref 226), (4, .int (0 : Int32))]) (st' := [.int (1 : Int32)]) rfl ?_
  refine jw.br F jx_i439 (pc' := 1293) (st' := []) rfl (jv_bi_ne.trans (jx_got (by decide))) ?_
  refine jw.steps F jx_i439 5 (pc' := 26) (l' := [(4, .int (6 : Int32)), (6, .int (0 : Int32)), (5, .int (1 : Int32)), (0, .ref 1000002), (1, .ref 0), (2, .ref 178), (3, .ref 226)]) (st' := [.ref 1000002, .int (6 : Int32)]) rfl ?_
  refine jw.slen F jx_i439 hX hbB hE2 (pc' := 27) rfl rfl rfl ?_
  refine jw.steps F jx_i439 2 (pc' := 30) (l' := [(4, .int (6 : Int32)), (6, .int (0 : Int32)), (5, .int (1 : Int32)), (0, .ref 1000002), (1, .ref 0), (2, .ref 178), (3, .ref 226)]) (st' := [.int (0 : Int32), .int (6 : Int32)]) rfl ?_
  refine jw.br F jx_i439 (pc' := 1531) (st' := []) rfl (jv_bc_gt.trans (jx_got (by decide))) ?_
  refine jw.steps F jx_i439 1 (pc' := 1532) (l' := [(4, .int (6 : Int32)), (6, .int (0 : Int32)), (5, .int (1 : Int32)), (0, .ref 1000002), (1, .ref 0), (2, .ref 178), (3, .ref 226)]) (st' := [.int (1 : Int32)]) rfl ?_
  exact hQ _ _ _ _ (by omega) (by omega)

set_option maxRecDepth 100000 in
/-- ProgramBox$Store.map -/
theorem jx_e324 (p0 : Int32) (p1 : Int32) (p2 : Int32) (p3 : Int32) (p4 : Int32) (p5 : Int32) (g1 : ¬ p1.toInt64 < (0 : Int64)) (g2 : ¬ p1 < (0 : Int32)) : jv_Ms 126 [.ref 2, .long p1.toInt64] (jv_H (jx_K 227) jx_If jx_L0 (jx_R 227)) 227 1572950 (some (.null), (jv_H (jx_K 227) jx_If jx_L0 (jx_R 227)), 227, 1572950) := by
  show jv_Ev 126 0 [(0, .ref 2), (1, .long p1.toInt64)] [] (jv_H (jx_K 227) jx_If jx_L0 (jx_R 227)) 227 1572950 _
  refine jv_Ev.steps jv_i126 3 (pc' := 3) (l' := [(0, .ref 2), (1, .long p1.toInt64)]) (st' := [.int (lg_cmp p1.toInt64 (0 : Int64))]) rfl ?_
  refine jv_Ev.br jv_i126 (pc' := 6) (st' := []) rfl (jv_bi_lt.trans (jx_gof (fun h => g1 ((lg_cmp_lt p1.toInt64 (0 : Int64)).mp h)))) ?_
  refine jv_Ev.steps jv_i126 2 (pc' := 8) (l' := [(0, .ref 2), (1, .long p1.toInt64)]) (st' := [.ref 2, .long p1.toInt64]) rfl ?_
  refine jv_Ev.m jv_i126 (pc' := 11) (st' := [.int (0 : Int32), .long p1.toInt64]) rfl rfl (jv_m_getI rfl rfl rfl rfl) ?_
  refine jv_Ev.steps jv_i126 2 (pc' := 13) (l' := [(0, .ref 2), (1, .long p1.toInt64)]) (st' := [.int (lg_cmp p1.toInt64 (0 : Int64))]) rfl ?_
  refine jv_Ev.br jv_i126 (pc' := 16) (st' := []) rfl (jv_bi_lt.trans (jx_gof (fun h => g1 ((lg_cmp_lt p1.toInt64 (0 : Int64)).mp h)))) ?_
  refine jv_Ev.steps jv_i126 2 (pc' := 27) (l' := [(0, .ref 2), (1, .long p1.toInt64)]) (st' := [.null]) rfl ?_
  exact jv_Ev.ret jv_i126 rfl rfl

set_option maxRecDepth 100000 in
/-- ProgramBox.mapOf: it throws -/
theorem jx_e325 (hTb : jv_TOk jv_Tb) (p0 : Int32) (p1 : Int32) (p2 : Int32) (p3 : Int32) (p4 : Int32) (p5 : Int32) (g1 : ¬ p1.toInt64 < (0 : Int64)) (g2 : ¬ p1 < (0 : Int32)) : jx_Th 429 [.ref 0, .int p1] (jv_H (jx_K 227) jx_If jx_L0 (jx_R 227)) 227 1572950 2 (jv_H (jx_K 227) jx_If jx_L0 (jx_R 227)) 228 1572956 := by
  refine jx_Th.of hTb (y := 429) rfl (Nat.le_of_ble_eq_true rfl) ?_
  intro p l e R s m args below meth c E hl F hZ h0 ht hRc hRs
  show jw p l e R s m args below meth c E 3 227 1572950 _ 0 [(0, .ref 0), (1, .int p1)] [] (jv_H (jx_K 227) jx_If jx_L0 (jx_R 227)) 227 1572950
  refine jw.steps F jv_i429 1 (pc' := 1) (l' := [(0, .ref 0), (1, .int p1)]) (st' := [.ref 0]) rfl ?_
  refine jw.me F jv_i429 (pc' := 4) (st' := [.ref 2]) rfl rfl (jv_m_getR rfl rfl rfl rfl) ?_
  refine jw.steps F jv_i429 2 (pc' := 6) (l' := [(0, .ref 0), (1, .int p1)]) (st' := [.long p1.toInt64, .ref 2]) rfl ?_
  refine jw.ca hTb F jv_i429 (pc' := 9) (S' := [.null]) rfl jv_i126 [.ref 2, .long p1.toInt64] rfl rfl rfl rfl (jv_cal rfl (jv_H_at rfl) rfl rfl) rfl (jx_e324 p0 p1 p2 p3 p4 p5 g1 g2) (by omega) (by omega) rfl rfl ?_
  refine jw.steps F jv_i429 2 (pc' := 11) (l' := [(2, .null), (0, .ref 0), (1, .int p1)]) (st' := [.null]) rfl ?_
  refine jw.br F jv_i429 (pc' := 14) (st' := []) rfl rfl ?_
  exact jw.throw hl F hZ h0 rfl jv_i429 ht 2 183 "there is no such map" (List.mem_of_getElem? (i := 11) rfl) (by decide +kernel) (by decide +kernel) (by decide +kernel) (by decide +kernel) (by decide +kernel) rfl (by decide) (by decide) (by decide) (by omega) (by omega)

set_option maxRecDepth 100000 in
/-- ProgramBox.update: it throws -/
theorem jx_e326 (hTb : jv_TOk jv_Tb) (p0 : Int32) (p1 : Int32) (p2 : Int32) (p3 : Int32) (p4 : Int32) (p5 : Int32) (g1 : ¬ p1.toInt64 < (0 : Int64)) (g2 : ¬ p1 < (0 : Int32)) : jx_Th 435 [.ref 0, .int p1, .int p2, .int p3, .int p4] (jv_H (jx_K 227) jx_If jx_L0 (jx_R 227)) 227 1572950 2 (jv_H (jx_K 227) jx_If jx_L0 (jx_R 227)) 228 1572956 := by
  refine jx_Th.of hTb (y := 435) rfl (Nat.le_of_ble_eq_true rfl) ?_
  intro p l e R s m args below meth c E hl F hZ h0 ht hRc hRs
  show jw p l e R s m args below meth c E 6 227 1572950 _ 0 [(0, .ref 0), (1, .int p1), (2, .int p2), (3, .int p3), (4, .int p4)] [] (jv_H (jx_K 227) jx_If jx_L0 (jx_R 227)) 227 1572950
  refine jw.steps F jv_i435 2 (pc' := 2) (l' := [(0, .ref 0), (1, .int p1), (2, .int p2), (3, .int p3), (4, .int p4)]) (st' := [.int p1, .ref 0]) rfl ?_
  exact jw.prop hTb hl F hZ jv_i435 ht rfl jv_i429 [.ref 0, .int p1] rfl rfl rfl rfl rfl (jv_cal rfl (jv_H_at rfl) rfl rfl) rfl (jx_e325 hTb p0 p1 p2 p3 p4 p5 g1 g2) (by omega) (by omega) (by omega) (by omega)

set_option maxRecDepth 100000 in
/-- the law's update -/
theorem jx_w327 (hTb : jv_TOk jv_Tb) (hT2 : jx_T2Ok) (p0 : Int32) (p1 : Int32) (p2 : Int32) (p3 : Int32) (p4 : Int32) (p5 : Int32) (g1 : ¬ p1.toInt64 < (0 : Int64)) (g2 : ¬ p1 < (0 : Int32)) : jx_Wr 454 [(0, 14, 17, 36)] [.ref 0, .int p1, .int p2, .int p3, .int p4, .ref 226] (jv_H (jx_K 227) jx_If jx_L0 (jx_R 227)) 227 1572950 (some (.int (1 : Int32)), (jv_H (jx_K 227) jx_If jx_L0 (jx_R 227)), 228, 1572956) := by
  refine jx_Wr.of hT2 (by decide) rfl (Nat.le_of_ble_eq_true rfl) ?_
  intro p l e R s m args below meth c E hl F hZ htb hRc hRs
  show jw p l e R s m args below meth c E 7 227 1572950 _ 0 [(0, .ref 0), (1, .int p1), (2, .int p2), (3, .int p3), (4, .int p4), (5, .ref 226)] [] (jv_H (jx_K 227) jx_If jx_L0 (jx_R 227)) 227 1572950
  have hRc : R.cells = 228 - 227 := hRc
  have hRs : R.slots = 1572956 - 1572950 := hRs
  refine jw.steps F jx_i454 7 (pc' := 9) (l' := [(0, .ref 0), (1, .int p1), (2, .int p2), (3, .int p3), (4, .int p4), (5, .ref 226)]) (st' := [.int p4, .int p3, .int p2, .int p1, .ref 0, .int (0 : Int32), .ref 226]) rfl ?_
  refine jw.cat hTb hl F hZ rfl jx_i454 htb rfl jv_i435 [.ref 0, .int p1, .int p2, .int p3, .int p4] rfl rfl rfl rfl rfl (jx_cal2 rfl (jv_H_at rfl) rfl rfl) rfl (jx_e326 hTb p0 p1 p2 p3 p4 p5 g1 g2) (by omega) (by omega) (by omega) (by omega) [] (0, 14, 17, 36) [] rfl (fun z h => absurd h List.not_mem_nil) (by decide) rfl rfl (Or.inl ⟨rfl, rfl⟩) (by decide) ?_
  refine jw.steps F jx_i454 1 (pc' := 20) (l' := []) (st' := [.int (1 : Int32)]) rfl ?_
  exact jw.ret F jx_i454 rfl rfl

set_option maxRecDepth 100000 in
/-- ProgramBoxModel$Store.noMap -/
theorem jx_e328 (p0 : Int32) (p1 : Int32) (p2 : Int32) (p3 : Int32) (p4 : Int32) (p5 : Int32) (g1 : ¬ p1.toInt64 < (0 : Int64)) (g2 : ¬ p1 < (0 : Int32)) : jv_Ms 324 [.ref 180, .int p1] (jv_H (jx_K 227) jx_If jx_L0 (jx_R 227)) 228 1572956 (some (.int (1 : Int32)), (jv_H (jx_K 227) (jv_u jx_If 180 0 (1 : Int32)) jx_L0 (jx_R 227)), 228, 1572956) := by
  show jv_Ev 324 0 [(0, .ref 180), (1, .int p1)] [] (jv_H (jx_K 227) jx_If jx_L0 (jx_R 227)) 228 1572956 _
  refine jv_Ev.steps jv_i324 2 (pc' := 2) (l' := [(0, .ref 180), (1, .int p1)]) (st' := [.int p1, .ref 180]) rfl ?_
  refine jv_Ev.br jv_i324 (pc' := 5) (st' := [.ref 180]) rfl (jv_bi_lt.trans (jx_gof g2)) ?_
  refine jv_Ev.steps jv_i324 2 (pc' := 7) (l' := [(0, .ref 180), (1, .int p1)]) (st' := [.ref 180, .int p1, .ref 180]) rfl ?_
  refine jv_Ev.m jv_i324 (pc' := 10) (st' := [.int (0 : Int32), .int p1, .ref 180]) rfl rfl (jv_m_getI rfl rfl rfl rfl) ?_
  refine jv_Ev.br jv_i324 (pc' := 13) (st' := [.ref 180]) rfl (jv_bc_lt.trans (jx_gof g2)) ?_
  refine jv_Ev.steps jv_i324 2 (pc' := 18) (l' := [(0, .ref 180), (1, .int p1)]) (st' := [.int (1 : Int32), .ref 180]) rfl ?_
  refine jv_Ev.m jv_i324 (pc' := 21) (st' := []) rfl rfl (jv_m_putI rfl rfl rfl rfl rfl) ?_
  refine jv_Ev.steps jv_i324 1 (pc' := 22) (l' := [(0, .ref 180), (1, .int p1)]) (st' := [.ref 180]) rfl ?_
  refine jv_Ev.m jv_i324 (pc' := 25) (st' := [.int (1 : Int32)]) rfl rfl (jv_m_getI rfl rfl rfl rfl) ?_
  refine jv_Ev.br jv_i324 (pc' := 28) (st' := []) rfl (jv_bi_le.trans (jx_gof (by decide))) ?_
  refine jv_Ev.steps jv_i324 2 (pc' := 33) (l' := [(0, .ref 180), (1, .int p1)]) (st' := [.int (1 : Int32)]) rfl ?_
  exact jv_Ev.ret jv_i324 rfl (jv_ret_b (by decide))

set_option maxRecDepth 100000 in
/-- ProgramBoxModel$Store.update -/
theorem jx_e329 (p0 : Int32) (p1 : Int32) (p2 : Int32) (p3 : Int32) (p4 : Int32) (p5 : Int32) (g1 : ¬ p1.toInt64 < (0 : Int64)) (g2 : ¬ p1 < (0 : Int32)) : jv_Ms 341 [.ref 180, .int p1, .int p2, .int p3, .int p4] (jv_H (jx_K 227) jx_If jx_L0 (jx_R 227)) 228 1572956 (some (.int (0 : Int32)), (jv_H (jx_K 227) (jv_u jx_If 180 0 (1 : Int32)) jx_L0 (jx_R 227)), 228, 1572956) := by
  show jv_Ev 341 0 [(0, .ref 180), (1, .int p1), (2, .int p2), (3, .int p3), (4, .int p4)] [] (jv_H (jx_K 227) jx_If jx_L0 (jx_R 227)) 228 1572956 _
  refine jv_Ev.steps jv_i341 2 (pc' := 2) (l' := [(0, .ref 180), (1, .int p1), (2, .int p2), (3, .int p3), (4, .int p4)]) (st' := [.int p1, .ref 180]) rfl ?_
  refine jv_Ev.c jv_i341 (pc' := 5) (S' := [.int (1 : Int32)]) jv_i324 [.ref 180, .int p1] rfl rfl rfl rfl (jv_cal rfl (jv_H_at rfl) rfl rfl) rfl (jx_e328 p0 p1 p2 p3 p4 p5 g1 g2) rfl rfl ?_
  refine jv_Ev.br jv_i341 (pc' := 8) (st' := []) rfl (jv_bi_eq.trans (jx_gof (by decide))) ?_
  refine jv_Ev.steps jv_i341 1 (pc' := 9) (l' := [(0, .ref 180), (1, .int p1), (2, .int p2), (3, .int p3), (4, .int p4)]) (st' := [.int (0 : Int32)]) rfl ?_
  exact jv_Ev.ret jv_i341 rfl rfl

set_option maxRecDepth 100000 in
/-- ProgramBoxModel$Store.thrown -/
theorem jx_e330 (p0 : Int32) (p1 : Int32) (p2 : Int32) (p3 : Int32) (p4 : Int32) (p5 : Int32) (g1 : ¬ p1.toInt64 < (0 : Int64)) (g2 : ¬ p1 < (0 : Int32)) : jv_Ms 318 [.ref 180] (jv_H (jx_K 227) (jv_u jx_If 180 0 (1 : Int32)) jx_L0 (jx_R 227)) 228 1572956 (some (.int (1 : Int32)), (jv_H (jx_K 227) (jv_u jx_If 180 0 (1 : Int32)) jx_L0 (jx_R 227)), 228, 1572956) := by
  show jv_Ev 318 0 [(0, .ref 180)] [] (jv_H (jx_K 227) (jv_u jx_If 180 0 (1 : Int32)) jx_L0 (jx_R 227)) 228 1572956 _
  refine jv_Ev.steps jv_i318 1 (pc' := 1) (l' := [(0, .ref 180)]) (st' := [.ref 180]) rfl ?_
  refine jv_Ev.m jv_i318 (pc' := 4) (st' := [.int (1 : Int32)]) rfl rfl (jv_m_getI rfl rfl rfl rfl) ?_
  exact jv_Ev.ret jv_i318 rfl rfl

set_option maxRecDepth 100000 in
/-- ProgramBoxModel.update -/
theorem jx_e331 (p0 : Int32) (p1 : Int32) (p2 : Int32) (p3 : Int32) (p4 : Int32) (p5 : Int32) (g1 : ¬ p1.toInt64 < (0 : Int64)) (g2 : ¬ p1 < (0 : Int32)) : jv_Ms 413 [.ref 178, .int p1, .int p2, .int p3, .int p4] (jv_H (jx_K 227) jx_If jx_L0 (jx_R 227)) 228 1572956 (some (.int (0 : Int32)), (jv_H (jx_K 227) (jv_u (jv_u jx_If 180 0 (1 : Int32)) 178 0 (1 : Int32)) jx_L0 (jx_R 227)), 228, 1572956) := by
  show jv_Ev 413 0 [(0, .ref 178), (1, .int p1), (2, .int p2), (3, .int p3), (4, .int p4)] [] (jv_H (jx_K 227) jx_If jx_L0 (jx_R 227)) 228 1572956 _
  refine jv_Ev.steps jv_i413 1 (pc' := 1) (l' := [(0, .ref 178), (1, .int p1), (2, .int p2), (3, .int p3), (4, .int p4)]) (st' := [.ref 178]) rfl ?_
  refine jv_Ev.m jv_i413 (pc' := 4) (st' := [.ref 180]) rfl rfl (jv_m_getR rfl rfl rfl rfl) ?_
  refine jv_Ev.steps jv_i413 4 (pc' := 9) (l' := [(0, .ref 178), (1, .int p1), (2, .int p2), (3, .int p3), (4, .int p4)]) (st' := [.int p4, .int p3, .int p2, .int p1, .ref 180]) rfl ?_
  refine jv_Ev.c jv_i413 (pc' := 12) (S' := [.int (0 : Int32)]) jv_i341 [.ref 180, .int p1, .int p2, .int p3, .int p4] rfl rfl rfl rfl (jv_cal rfl (jv_H_at rfl) rfl rfl) rfl (jx_e329 p0 p1 p2 p3 p4 p5 g1 g2) rfl rfl ?_
  refine jv_Ev.steps jv_i413 3 (pc' := 16) (l' := [(5, .int (0 : Int32)), (0, .ref 178), (1, .int p1), (2, .int p2), (3, .int p3), (4, .int p4)]) (st' := [.ref 178, .ref 178]) rfl ?_
  refine jv_Ev.m jv_i413 (pc' := 19) (st' := [.ref 180, .ref 178]) rfl rfl (jv_m_getR rfl rfl rfl rfl) ?_
  refine jv_Ev.c jv_i413 (pc' := 22) (S' := [.int (1 : Int32), .ref 178]) jv_i318 [.ref 180] rfl rfl rfl rfl (jv_cal rfl (jv_H_at rfl) rfl rfl) rfl (jx_e330 p0 p1 p2 p3 p4 p5 g1 g2) rfl rfl ?_
  refine jv_Ev.m jv_i413 (pc' := 25) (st' := []) rfl rfl (jv_m_putI rfl rfl rfl rfl rfl) ?_
  refine jv_Ev.steps jv_i413 1 (pc' := 27) (l' := [(5, .int (0 : Int32)), (0, .ref 178), (1, .int p1), (2, .int p2), (3, .int p3), (4, .int p4)]) (st' := [.int (0 : Int32)]) rfl ?_
  exact jv_Ev.ret jv_i413 rfl rfl

set_option maxRecDepth 100000 in
/-- ProgramBoxModel.thrown -/
theorem jx_e332 (p0 : Int32) (p1 : Int32) (p2 : Int32) (p3 : Int32) (p4 : Int32) (p5 : Int32) (g1 : ¬ p1.toInt64 < (0 : Int64)) (g2 : ¬ p1 < (0 : Int32)) : jv_Ms 350 [.ref 178] (jv_H (jx_K 227) (jv_u (jv_u jx_If 180 0 (1 : Int32)) 178 0 (1 : Int32)) jx_L0 (jx_R 227)) 228 1572956 (some (.int (1 : Int32)), (jv_H (jx_K 227) (jv_u (jv_u jx_If 180 0 (1 : Int32)) 178 0 (1 : Int32)) jx_L0 (jx_R 227)), 228, 1572956) := by
  show jv_Ev 350 0 [(0, .ref 178)] [] (jv_H (jx_K 227) (jv_u (jv_u jx_If 180 0 (1 : Int32)) 178 0 (1 : Int32)) jx_L0 (jx_R 227)) 228 1572956 _
  refine jv_Ev.steps jv_i350 1 (pc' := 1) (l' := [(0, .ref 178)]) (st' := [.ref 178]) rfl ?_
  refine jv_Ev.m jv_i350 (pc' := 4) (st' := [.int (1 : Int32)]) rfl rfl (jv_m_getI rfl rfl rfl rfl) ?_
  exact jv_Ev.ret jv_i350 rfl rfl

set_option maxRecDepth 100000 in
/-- the law: case 22, one way -/
theorem jx_l48 (p0 : Int32) (p1 : Int32) (p2 : Int32) (p3 : Int32) (p4 : Int32) (p5 : Int32) (g1 : ¬ p1.toInt64 < (0 : Int64)) (g2 : ¬ p1 < (0 : Int32)) (hsw : p0 &&& (31 : Int32) = (22 : Int32)) {p : Program} {l : Launch} {e : Env} {R : Room} {s : State} {m : MethodId} {args : Array Value} {below : List Frame} {meth : Method} {c : Code} {E : jv_Env} {Q : State → Prop} (hTb : jv_TOk jv_Tb) (hT2 : jx_T2Ok) (hl : l.stackTraces = false) (F : jx_F jv_T2 439 E p R s m args meth c) (hZ : jx_Z E s) (hRc : R.cells = 600002) (hRs : R.slots = 7302232) {bb : Nat} {xs : Nat → Int32} (hX : va_X bb 6 xs s E.2.2.2.2) (hbB : bb < E.2.2.2.1) (hE2 : E.1 1000002 = bb) (hQ : ∀ (l0 : jv_L) (G : jv_G) (n sl : Nat), n ≤ 600002 → sl ≤ 7302232 → jw p l e R s m args below meth c E 8 0 0 Q 1532 l0 [.int (1 : Int32)] G n sl) (q0 : xs 0 = p0) (q1 : xs 1 = p1) (q2 : xs 2 = p2) (q3 : xs 3 = p3) (q4 : xs 4 = p4) (q5 : xs 5 = p5) : jw p l e R s m args below meth c E 8 0 0 Q 33 [(0, .ref 1000002), (1, .ref 0), (2, .ref 178), (3, .ref 226), (4, .int (0 : Int32))] [] (jv_H (jx_K 227) jx_If jx_L0 (jx_R 227)) 227 1572950 := by
  refine jw.steps F jx_i439 2 (pc' := 36) (l' := [(0, .ref 1000002), (1, .ref 0), (2, .ref 178), (3, .ref 226), (4, .int (0 : Int32))]) (st' := [.int (0 : Int32), .ref 1000002]) rfl ?_
  refine jw.sld F jx_i439 hX hbB hE2 (pc' := 37) rfl rfl (show vp_in (nI 0) 6 from vp_in_nI (by decide) (by decide)) q0 rfl ?_
  refine jw.steps F jx_i439 2 (pc' := 40) (l' := [(0, .ref 1000002), (1, .ref 0), (2, .ref 178), (3, .ref 226), (4, .int (0 : Int32))]) (st' := [.int (p0 &&& (31 : Int32))]) rfl ?_
  refine jw.br F jx_i439 (pc' := 1204) (st' := []) rfl (by rw [hsw]; rfl) ?_
  refine jw.steps F jx_i439 5 (pc' := 1210) (l' := [(0, .ref 1000002), (1, .ref 0), (2, .ref 178), (3, .ref 226), (4, .int (0 : Int32))]) (st' := [.int (1 : Int32), .ref 1000002, .ref 0]) rfl ?_
  refine jw.sld F jx_i439 hX hbB hE2 (pc' := 1211) rfl rfl (show vp_in (nI 1) 6 from vp_in_nI (by decide) (by decide)) q1 rfl ?_
  refine jw.steps F jx_i439 4 (pc' := 1216) (l' := [(0, .ref 1000002), (1, .ref 0), (2, .ref 178), (3, .ref 226), (4, .int (0 : Int32))]) (st' := [.int (2 : Int32), .ref 1000002, .int p1, .ref 0]) rfl ?_
  refine jw.sld F jx_i439 hX hbB hE2 (pc' := 1217) rfl rfl (show vp_in (nI 2) 6 from vp_in_nI (by decide) (by decide)) q2 rfl ?_
  refine jw.steps F jx_i439 4 (pc' := 1222) (l' := [(0, .ref 1000002), (1, .ref 0), (2, .ref 178), (3, .ref 226), (4, .int (0 : Int32))]) (st' := [.int (3 : Int32), .ref 1000002, .int p2, .int p1, .ref 0]) rfl ?_
  refine jw.sld F jx_i439 hX hbB hE2 (pc' := 1223) rfl rfl (show vp_in (nI 3) 6 from vp_in_nI (by decide) (by decide)) q3 rfl ?_
  refine jw.steps F jx_i439 4 (pc' := 1228) (l' := [(0, .ref 1000002), (1, .ref 0), (2, .ref 178), (3, .ref 226), (4, .int (0 : Int32))]) (st' := [.int (4 : Int32), .ref 1000002, .int p3, .int p2, .int p1, .ref 0]) rfl ?_
  refine jw.sld F jx_i439 hX hbB hE2 (pc' := 1229) rfl rfl (show vp_in (nI 4) 6 from vp_in_nI (by decide) (by decide)) q4 rfl ?_
  refine jw.steps F jx_i439 1 (pc' := 1230) (l' := [(0, .ref 1000002), (1, .ref 0), (2, .ref 178), (3, .ref 226), (4, .int (0 : Int32))]) (st' := [.ref 226, .int p4, .int p3, .int p2, .int p1, .ref 0]) rfl ?_
  refine jw.wr F hl hZ rfl jx_i439 jx_i454 [.ref 0, .int p1, .int p2, .int p3, .int p4, .ref 226] (pc' := 1233) (S' := [.int (1 : Int32)]) rfl (List.mem_of_getElem? (i := 14) rfl) (List.mem_of_getElem? (i := 14) rfl) rfl rfl rfl (jx_w327 hTb hT2 p0 p1 p2 p3 p4 p5 g1 g2) (by omega) (by omega) (by omega) (by omega) rfl rfl ?_
  refine jw.steps F jx_i439 6 (pc' := 1241) (l' := [(5, .int (1 : Int32)), (0, .ref 1000002), (1, .ref 0), (2, .ref 178), (3, .ref 226), (4, .int (0 : Int32))]) (st' := [.int (1 : Int32), .ref 1000002, .ref 178]) rfl ?_
  refine jw.sld F jx_i439 hX hbB hE2 (pc' := 1242) rfl rfl (show vp_in (nI 1) 6 from vp_in_nI (by decide) (by decide)) q1 rfl ?_
  refine jw.steps F jx_i439 4 (pc' := 1247) (l' := [(5, .int (1 : Int32)), (0, .ref 1000002), (1, .ref 0), (2, .ref 178), (3, .ref 226), (4, .int (0 : Int32))]) (st' := [.int (2 : Int32), .ref 1000002, .int p1, .ref 178]) rfl ?_
  refine jw.sld F jx_i439 hX hbB hE2 (pc' := 1248) rfl rfl (show vp_in (nI 2) 6 from vp_in_nI (by decide) (by decide)) q2 rfl ?_
  refine jw.steps F jx_i439 4 (pc' := 1253) (l' := [(5, .int (1 : Int32)), (0, .ref 1000002), (1, .ref 0), (2, .ref 178), (3, .ref 226), (4, .int (0 : Int32))]) (st' := [.int (3 : Int32), .ref 1000002, .int p2, .int p1, .ref 178]) rfl ?_
  refine jw.sld F jx_i439 hX hbB hE2 (pc' := 1254) rfl rfl (show vp_in (nI 3) 6 from vp_in_nI (by decide) (by decide)) q3 rfl ?_
  refine jw.steps F jx_i439 4 (pc' := 1259) (l' := [(5, .int (1 : Int32)), (0, .ref 1000002), (1, .ref 0), (2, .ref 178), (3, .ref 226), (4, .int (0 : Int32))]) (st' := [.int (4 : Int32), .ref 1000002, .int p3, .int p2, .int p1, .ref 178]) rfl ?_
  refine jw.sld F jx_i439 hX hbB hE2 (pc' := 1260) rfl rfl (show vp_in (nI 4) 6 from vp_in_nI (by decide) (by decide)) q4 rfl ?_
  refine jw.ca hTb F jx_i439 (pc' := 1263) (S' := [.int (0 : Int32)]) rfl jv_i413 [.ref 178, .int p1, .int p2, .int p3, .int p4] rfl rfl rfl rfl (jx_cal2 rfl (jv_H_at rfl) rfl rfl) rfl (jx_e331 p0 p1 p2 p3 p4 p5 g1 g2) (by omega) (by omega) rfl rfl ?_
  refine jw.steps F jx_i439 2 (pc' := 1266) (l' := [(6, .int (0 : Int32)), (5, .int (1 : Int32)), (0, .ref 1000002), (1, .ref 0), (2, .ref 178), (3, .ref 226), (4, .int (0 : Int32))]) (st' := [.ref 178]) rfl ?_
  refine jw.ca hTb F jx_i439 (pc' := 1269) (S' := [.int (1 : Int32)]) rfl jv_i350 [.ref 178] rfl rfl rfl rfl (jx_cal2 rfl (jv_H_at rfl) rfl rfl) rfl (jx_e332 p0 p1 p2 p3 p4 p5 g1 g2) (by omega) (by omega) rfl rfl ?_
  refine jw.steps F jx_i439 1 (pc' := 1271) (l' := [(6, .int (0 : Int32)), (5, .int (1 : Int32)), (0, .ref 1000002), (1, .ref 0), (2, .ref 178), (3, .ref 226), (4, .int (0 : Int32))]) (st' := [.int (1 : Int32), .int (1 : Int32)]) rfl ?_
  refine jw.br F jx_i439 (pc' := 1276) (st' := []) rfl (jv_bc_eq.trans (jx_got (by decide))) ?_
  refine jw.steps F jx_i439 1 (pc' := 1278) (l' := [(6, .int (0 : Int32)), (5, .int (1 : Int32)), (0, .ref 1000002), (1, .ref 0), (2, .ref 178), (3, .ref 226), (4, .int (0 : Int32))]) (st' := [.int (1 : Int32)]) rfl ?_
  refine jw.br F jx_i439 (pc' := 1293) (st' := []) rfl (jv_bi_ne.trans (jx_got (by decide))) ?_
  refine jw.steps F jx_i439 5 (pc' := 26) (l' := [(4, .int (6 : Int32)), (6, .int (0 : Int32)), (5, .int (1 : Int32)), (0, .ref 1000002), (1, .ref 0), (2, .ref 178), (3, .ref 226)]) (st' := [.ref 1000002, .int (6 : Int32)]) rfl ?_
  refine jw.slen F jx_i439 hX hbB hE2 (pc' := 27) rfl rfl rfl ?_
  refine jw.steps F jx_i439 2 (pc' := 30) (l' := [(4, .int (6 : Int32)), (6, .int (0 : Int32)), (5, .int (1 : Int32)), (0, .ref 1000002), (1, .ref 0), (2, .ref 178), (3, .ref 226)]) (st' := [.int (0 : Int32), .int (6 : Int32)]) rfl ?_
  refine jw.br F jx_i439 (pc' := 1531) (st' := []) rfl (jv_bc_gt.trans (jx_got (by decide))) ?_
  refine jw.steps F jx_i439 1 (pc' := 1532) (l' := [(4, .int (6 : Int32)), (6, .int (0 : Int32)), (5, .int (1 : Int32)), (0, .ref 1000002), (1, .ref 0), (2, .ref 178), (3, .ref 226)]) (st' := [.int (1 : Int32)]) rfl ?_
  exact hQ _ _ _ _ (by omega) (by omega)

set_option maxRecDepth 100000 in
/-- the law: case 22 -/
theorem jx_case22 (p0 : Int32) (p1 : Int32) (p2 : Int32) (p3 : Int32) (p4 : Int32) (p5 : Int32) (hsw : p0 &&& (31 : Int32) = (22 : Int32)) {p : Program} {l : Launch} {e : Env} {R : Room} {s : State} {m : MethodId} {args : Array Value} {below : List Frame} {meth : Method} {c : Code} {E : jv_Env} {Q : State → Prop} (hTb : jv_TOk jv_Tb) (hT2 : jx_T2Ok) (hl : l.stackTraces = false) (F : jx_F jv_T2 439 E p R s m args meth c) (hZ : jx_Z E s) (hRc : R.cells = 600002) (hRs : R.slots = 7302232) {bb : Nat} {xs : Nat → Int32} (hX : va_X bb 6 xs s E.2.2.2.2) (hbB : bb < E.2.2.2.1) (hE2 : E.1 1000002 = bb) (hQ : ∀ (l0 : jv_L) (G : jv_G) (n sl : Nat), n ≤ 600002 → sl ≤ 7302232 → jw p l e R s m args below meth c E 8 0 0 Q 1532 l0 [.int (1 : Int32)] G n sl) (q0 : xs 0 = p0) (q1 : xs 1 = p1) (q2 : xs 2 = p2) (q3 : xs 3 = p3) (q4 : xs 4 = p4) (q5 : xs 5 = p5) : jw p l e R s m args below meth c E 8 0 0 Q 33 [(0, .ref 1000002), (1, .ref 0), (2, .ref 178), (3, .ref 226), (4, .int (0 : Int32))] [] (jv_H (jx_K 227) jx_If jx_L0 (jx_R 227)) 227 1572950 := by
  by_cases g1 : p1.toInt64 < (0 : Int64)
  · by_cases g2 : p1 < (0 : Int32)
    · exact jx_l45 p0 p1 p2 p3 p4 p5 g1 g2 hsw hTb hT2 hl F hZ hRc hRs hX hbB hE2 hQ q0 q1 q2 q3 q4 q5
    · exact jx_l46 p0 p1 p2 p3 p4 p5 g1 g2 hsw hTb hT2 hl F hZ hRc hRs hX hbB hE2 hQ q0 q1 q2 q3 q4 q5
  · by_cases g2 : p1 < (0 : Int32)
    · exact jx_l47 p0 p1 p2 p3 p4 p5 g1 g2 hsw hTb hT2 hl F hZ hRc hRs hX hbB hE2 hQ q0 q1 q2 q3 q4 q5
    · exact jx_l48 p0 p1 p2 p3 p4 p5 g1 g2 hsw hTb hT2 hl F hZ hRc hRs hX hbB hE2 hQ q0 q1 q2 q3 q4 q5
