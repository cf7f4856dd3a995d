/-! part 80.e: the law: cases (gen/gen80.py) -/
set_option maxRecDepth 100000 in
theorem jx_i455 : jx_I jv_T2 455 5 (some .int) 8 135 jv_c455 := ⟨rfl, rfl, rfl, rfl, rfl⟩
set_option maxRecDepth 100000 in
theorem jv_i436 : jv_I 436 4 (some .int) 7 112 jv_c436 := ⟨rfl, rfl, rfl, rfl, rfl⟩
set_option maxRecDepth 100000 in
/-- ProgramBox$Store.map -/
theorem jx_e337 (p0 : Int32) (p1 : Int32) (p2 : Int32) (p3 : Int32) (p4 : Int32) (p5 : Int32) (g1 : p1.toInt64 < (0 : Int64)) (g2 : p1 < (0 : Int32)) : jv_Ms 126 [.ref 2, .long p1.toInt64] (jv_H (jx_K 227) jx_If jx_L0 (jx_R 227)) 227 1572950 (some (.null), (jv_H (jx_K 227) jx_If jx_L0 (jx_R 227)), 227, 1572950) := by
  show jv_Ev 126 0 [(0, .ref 2), (1, .long p1.toInt64)] [] (jv_H (jx_K 227) jx_If jx_L0 (jx_R 227)) 227 1572950 _
  refine jv_Ev.steps jv_i126 3 (pc' := 3) (l' := [(0, .ref 2), (1, .long p1.toInt64)]) (st' := [.int (lg_cmp p1.toInt64 (0 : Int64))]) rfl ?_
  refine jv_Ev.br jv_i126 (pc' := 16) (st' := []) rfl (jv_bi_lt.trans (jx_got ((lg_cmp_lt p1.toInt64 (0 : Int64)).mpr g1))) ?_
  refine jv_Ev.steps jv_i126 2 (pc' := 27) (l' := [(0, .ref 2), (1, .long p1.toInt64)]) (st' := [.null]) rfl ?_
  exact jv_Ev.ret jv_i126 rfl rfl

set_option maxRecDepth 100000 in
/-- ProgramBox.mapOf: it throws -/
theorem jx_e338 (hTb : jv_TOk jv_Tb) (p0 : Int32) (p1 : Int32) (p2 : Int32) (p3 : Int32) (p4 : Int32) (p5 : Int32) (g1 : p1.toInt64 < (0 : Int64)) (g2 : p1 < (0 : Int32)) : jx_Th 429 [.ref 0, .int p1] (jv_H (jx_K 227) jx_If jx_L0 (jx_R 227)) 227 1572950 2 (jv_H (jx_K 227) jx_If jx_L0 (jx_R 227)) 228 1572956 := by
  refine jx_Th.of hTb (y := 429) rfl (Nat.le_of_ble_eq_true rfl) ?_
  intro p l e R s m args below meth c E hl F hZ h0 ht hRc hRs
  show jw p l e R s m args below meth c E 3 227 1572950 _ 0 [(0, .ref 0), (1, .int p1)] [] (jv_H (jx_K 227) jx_If jx_L0 (jx_R 227)) 227 1572950
  refine jw.steps F jv_i429 1 (pc' := 1) (l' := [(0, .ref 0), (1, .int p1)]) (st' := [.ref 0]) rfl ?_
  refine jw.me F jv_i429 (pc' := 4) (st' := [.ref 2]) rfl rfl (jv_m_getR rfl rfl rfl rfl) ?_
  refine jw.steps F jv_i429 2 (pc' := 6) (l' := [(0, .ref 0), (1, .int p1)]) (st' := [.long p1.toInt64, .ref 2]) rfl ?_
  refine jw.ca hTb F jv_i429 (pc' := 9) (S' := [.null]) rfl jv_i126 [.ref 2, .long p1.toInt64] rfl rfl rfl rfl (jv_cal rfl (jv_H_at rfl) rfl rfl) rfl (jx_e337 p0 p1 p2 p3 p4 p5 g1 g2) (by omega) (by omega) rfl rfl ?_
  refine jw.steps F jv_i429 2 (pc' := 11) (l' := [(2, .null), (0, .ref 0), (1, .int p1)]) (st' := [.null]) rfl ?_
  refine jw.br F jv_i429 (pc' := 14) (st' := []) rfl rfl ?_
  exact jw.throw hl F hZ h0 rfl jv_i429 ht 2 183 "there is no such map" (List.mem_of_getElem? (i := 11) rfl) (by decide +kernel) (by decide +kernel) (by decide +kernel) (by decide +kernel) (by decide +kernel) rfl (by decide) (by decide) (by decide) (by omega) (by omega)

set_option maxRecDepth 100000 in
/-- ProgramBox.remove: it throws -/
theorem jx_e339 (hTb : jv_TOk jv_Tb) (p0 : Int32) (p1 : Int32) (p2 : Int32) (p3 : Int32) (p4 : Int32) (p5 : Int32) (g1 : p1.toInt64 < (0 : Int64)) (g2 : p1 < (0 : Int32)) : jx_Th 436 [.ref 0, .int p1, .int p2] (jv_H (jx_K 227) jx_If jx_L0 (jx_R 227)) 227 1572950 2 (jv_H (jx_K 227) jx_If jx_L0 (jx_R 227)) 228 1572956 := by
  refine jx_Th.of hTb (y := 436) rfl (Nat.le_of_ble_eq_true rfl) ?_
  intro p l e R s m args below meth c E hl F hZ h0 ht hRc hRs
  show jw p l e R s m args below meth c E 4 227 1572950 _ 0 [(0, .ref 0), (1, .int p1), (2, .int p2)] [] (jv_H (jx_K 227) jx_If jx_L0 (jx_R 227)) 227 1572950
  refine jw.steps F jv_i436 2 (pc' := 2) (l' := [(0, .ref 0), (1, .int p1), (2, .int p2)]) (st' := [.int p1, .ref 0]) rfl ?_
  exact jw.prop hTb hl F hZ jv_i436 ht rfl jv_i429 [.ref 0, .int p1] rfl rfl rfl rfl rfl (jv_cal rfl (jv_H_at rfl) rfl rfl) rfl (jx_e338 hTb p0 p1 p2 p3 p4 p5 g1 g2) (by omega) (by omega) (by omega) (by omega)

set_option maxRecDepth 100000 in
/-- the law's remove -/
theorem jx_w340 (hTb : jv_TOk jv_Tb) (hT2 : jx_T2Ok) (p0 : Int32) (p1 : Int32) (p2 : Int32) (p3 : Int32) (p4 : Int32) (p5 : Int32) (g1 : p1.toInt64 < (0 : Int64)) (g2 : p1 < (0 : Int32)) : jx_Wr 455 [(0, 10, 13, 36)] [.ref 0, .int p1, .int p2, .ref 226] (jv_H (jx_K 227) jx_If jx_L0 (jx_R 227)) 227 1572950 (some (.int (1 : Int32)), (jv_H (jx_K 227) jx_If jx_L0 (jx_R 227)), 228, 1572956) := by
  refine jx_Wr.of hT2 (by decide) rfl (Nat.le_of_ble_eq_true rfl) ?_
  intro p l e R s m args below meth c E hl F hZ htb hRc hRs
  show jw p l e R s m args below meth c E 5 227 1572950 _ 0 [(0, .ref 0), (1, .int p1), (2, .int p2), (3, .ref 226)] [] (jv_H (jx_K 227) jx_If jx_L0 (jx_R 227)) 227 1572950
  have hRc : R.cells = 228 - 227 := hRc
  have hRs : R.slots = 1572956 - 1572950 := hRs
  refine jw.steps F jx_i455 5 (pc' := 5) (l' := [(0, .ref 0), (1, .int p1), (2, .int p2), (3, .ref 226)]) (st' := [.int p2, .int p1, .ref 0, .int (0 : Int32), .ref 226]) rfl ?_
  refine jw.cat hTb hl F hZ rfl jx_i455 htb rfl jv_i436 [.ref 0, .int p1, .int p2] rfl rfl rfl rfl rfl (jx_cal2 rfl (jv_H_at rfl) rfl rfl) rfl (jx_e339 hTb p0 p1 p2 p3 p4 p5 g1 g2) (by omega) (by omega) (by omega) (by omega) [] (0, 10, 13, 36) [] rfl (fun z h => absurd h List.not_mem_nil) (by decide) rfl rfl (Or.inl ⟨rfl, rfl⟩) (by decide) ?_
  refine jw.steps F jx_i455 1 (pc' := 16) (l' := []) (st' := [.int (1 : Int32)]) rfl ?_
  exact jw.ret F jx_i455 rfl rfl

set_option maxRecDepth 100000 in
theorem jv_i414 : jv_I 414 4 (some .int) 3 72 jv_c414 := ⟨rfl, rfl, rfl, rfl, rfl⟩
set_option maxRecDepth 100000 in
theorem jv_i342 : jv_I 342 4 (some .int) 2 49 jv_c342 := ⟨rfl, rfl, rfl, rfl, rfl⟩
set_option maxRecDepth 100000 in
/-- ProgramBoxModel$Store.noMap -/
theorem jx_e341 (p0 : Int32) (p1 : Int32) (p2 : Int32) (p3 : Int32) (p4 : Int32) (p5 : Int32) (g1 : p1.toInt64 < (0 : Int64)) (g2 : p1 < (0 : Int32)) : jv_Ms 324 [.ref 180, .int p1] (jv_H (jx_K 227) jx_If jx_L0 (jx_R 227)) 228 1572956 (some (.int (1 : Int32)), (jv_H (jx_K 227) (jv_u jx_If 180 0 (1 : Int32)) jx_L0 (jx_R 227)), 228, 1572956) := by
  show jv_Ev 324 0 [(0, .ref 180), (1, .int p1)] [] (jv_H (jx_K 227) jx_If jx_L0 (jx_R 227)) 228 1572956 _
  refine jv_Ev.steps jv_i324 2 (pc' := 2) (l' := [(0, .ref 180), (1, .int p1)]) (st' := [.int p1, .ref 180]) rfl ?_
  refine jv_Ev.br jv_i324 (pc' := 13) (st' := [.ref 180]) rfl (jv_bi_lt.trans (jx_got g2)) ?_
  refine jv_Ev.steps jv_i324 2 (pc' := 18) (l' := [(0, .ref 180), (1, .int p1)]) (st' := [.int (1 : Int32), .ref 180]) rfl ?_
  refine jv_Ev.m jv_i324 (pc' := 21) (st' := []) rfl rfl (jv_m_putI rfl rfl rfl rfl rfl) ?_
  refine jv_Ev.steps jv_i324 1 (pc' := 22) (l' := [(0, .ref 180), (1, .int p1)]) (st' := [.ref 180]) rfl ?_
  refine jv_Ev.m jv_i324 (pc' := 25) (st' := [.int (1 : Int32)]) rfl rfl (jv_m_getI rfl rfl rfl rfl) ?_
  refine jv_Ev.br jv_i324 (pc' := 28) (st' := []) rfl (jv_bi_le.trans (jx_gof (by decide))) ?_
  refine jv_Ev.steps jv_i324 2 (pc' := 33) (l' := [(0, .ref 180), (1, .int p1)]) (st' := [.int (1 : Int32)]) rfl ?_
  exact jv_Ev.ret jv_i324 rfl (jv_ret_b (by decide))

set_option maxRecDepth 100000 in
/-- ProgramBoxModel$Store.remove -/
theorem jx_e342 (p0 : Int32) (p1 : Int32) (p2 : Int32) (p3 : Int32) (p4 : Int32) (p5 : Int32) (g1 : p1.toInt64 < (0 : Int64)) (g2 : p1 < (0 : Int32)) : jv_Ms 342 [.ref 180, .int p1, .int p2] (jv_H (jx_K 227) jx_If jx_L0 (jx_R 227)) 228 1572956 (some (.int (0 : Int32)), (jv_H (jx_K 227) (jv_u jx_If 180 0 (1 : Int32)) jx_L0 (jx_R 227)), 228, 1572956) := by
  show jv_Ev 342 0 [(0, .ref 180), (1, .int p1), (2, .int p2)] [] (jv_H (jx_K 227) jx_If jx_L0 (jx_R 227)) 228 1572956 _
  refine jv_Ev.steps jv_i342 2 (pc' := 2) (l' := [(0, .ref 180), (1, .int p1), (2, .int p2)]) (st' := [.int p1, .ref 180]) rfl ?_
  refine jv_Ev.c jv_i342 (pc' := 5) (S' := [.int (1 : Int32)]) jv_i324 [.ref 180, .int p1] rfl rfl rfl rfl (jv_cal rfl (jv_H_at rfl) rfl rfl) rfl (jx_e341 p0 p1 p2 p3 p4 p5 g1 g2) rfl rfl ?_
  refine jv_Ev.br jv_i342 (pc' := 8) (st' := []) rfl (jv_bi_eq.trans (jx_gof (by decide))) ?_
  refine jv_Ev.steps jv_i342 1 (pc' := 9) (l' := [(0, .ref 180), (1, .int p1), (2, .int p2)]) (st' := [.int (0 : Int32)]) rfl ?_
  exact jv_Ev.ret jv_i342 rfl rfl

set_option maxRecDepth 100000 in
/-- ProgramBoxModel$Store.thrown -/
theorem jx_e343 (p0 : Int32) (p1 : Int32) (p2 : Int32) (p3 : Int32) (p4 : Int32) (p5 : Int32) (g1 : p1.toInt64 < (0 : Int64)) (g2 : p1 < (0 : Int32)) : jv_Ms 318 [.ref 180] (jv_H (jx_K 227) (jv_u jx_If 180 0 (1 : Int32)) jx_L0 (jx_R 227)) 228 1572956 (some (.int (1 : Int32)), (jv_H (jx_K 227) (jv_u jx_If 180 0 (1 : Int32)) jx_L0 (jx_R 227)), 228, 1572956) := by
  show jv_Ev 318 0 [(0, .ref 180)] [] (jv_H (jx_K 227) (jv_u jx_If 180 0 (1 : Int32)) jx_L0 (jx_R 227)) 228 1572956 _
  refine jv_Ev.steps jv_i318 1 (pc' := 1) (l' := [(0, .ref 180)]) (st' := [.ref 180]) rfl ?_
  refine jv_Ev.m jv_i318 (pc' := 4) (st' := [.int (1 : Int32)]) rfl rfl (jv_m_getI rfl rfl rfl rfl) ?_
  exact jv_Ev.ret jv_i318 rfl rfl

set_option maxRecDepth 100000 in
/-- ProgramBoxModel.remove -/
theorem jx_e344 (p0 : Int32) (p1 : Int32) (p2 : Int32) (p3 : Int32) (p4 : Int32) (p5 : Int32) (g1 : p1.toInt64 < (0 : Int64)) (g2 : p1 < (0 : Int32)) : jv_Ms 414 [.ref 178, .int p1, .int p2] (jv_H (jx_K 227) jx_If jx_L0 (jx_R 227)) 228 1572956 (some (.int (0 : Int32)), (jv_H (jx_K 227) (jv_u (jv_u jx_If 180 0 (1 : Int32)) 178 0 (1 : Int32)) jx_L0 (jx_R 227)), 228, 1572956) := by
  show jv_Ev 414 0 [(0, .ref 178), (1, .int p1), (2, .int p2)] [] (jv_H (jx_K 227) jx_If jx_L0 (jx_R 227)) 228 1572956 _
  refine jv_Ev.steps jv_i414 1 (pc' := 1) (l' := [(0, .ref 178), (1, .int p1), (2, .int p2)]) (st' := [.ref 178]) rfl ?_
  refine jv_Ev.m jv_i414 (pc' := 4) (st' := [.ref 180]) rfl rfl (jv_m_getR rfl rfl rfl rfl) ?_
  refine jv_Ev.steps jv_i414 2 (pc' := 6) (l' := [(0, .ref 178), (1, .int p1), (2, .int p2)]) (st' := [.int p2, .int p1, .ref 180]) rfl ?_
  refine jv_Ev.c jv_i414 (pc' := 9) (S' := [.int (0 : Int32)]) jv_i342 [.ref 180, .int p1, .int p2] rfl rfl rfl rfl (jv_cal rfl (jv_H_at rfl) rfl rfl) rfl (jx_e342 p0 p1 p2 p3 p4 p5 g1 g2) rfl rfl ?_
  refine jv_Ev.steps jv_i414 3 (pc' := 12) (l' := [(3, .int (0 : Int32)), (0, .ref 178), (1, .int p1), (2, .int p2)]) (st' := [.ref 178, .ref 178]) rfl ?_
  refine jv_Ev.m jv_i414 (pc' := 15) (st' := [.ref 180, .ref 178]) rfl rfl (jv_m_getR rfl rfl rfl rfl) ?_
  refine jv_Ev.c jv_i414 (pc' := 18) (S' := [.int (1 : Int32), .ref 178]) jv_i318 [.ref 180] rfl rfl rfl rfl (jv_cal rfl (jv_H_at rfl) rfl rfl) rfl (jx_e343 p0 p1 p2 p3 p4 p5 g1 g2) rfl rfl ?_
  refine jv_Ev.m jv_i414 (pc' := 21) (st' := []) rfl rfl (jv_m_putI rfl rfl rfl rfl rfl) ?_
  refine jv_Ev.steps jv_i414 1 (pc' := 22) (l' := [(3, .int (0 : Int32)), (0, .ref 178), (1, .int p1), (2, .int p2)]) (st' := [.int (0 : Int32)]) rfl ?_
  exact jv_Ev.ret jv_i414 rfl rfl

set_option maxRecDepth 100000 in
/-- ProgramBoxModel.thrown -/
theorem jx_e345 (p0 : Int32) (p1 : Int32) (p2 : Int32) (p3 : Int32) (p4 : Int32) (p5 : Int32) (g1 : p1.toInt64 < (0 : Int64)) (g2 : p1 < (0 : Int32)) : jv_Ms 350 [.ref 178] (jv_H (jx_K 227) (jv_u (jv_u jx_If 180 0 (1 : Int32)) 178 0 (1 : Int32)) jx_L0 (jx_R 227)) 228 1572956 (some (.int (1 : Int32)), (jv_H (jx_K 227) (jv_u (jv_u jx_If 180 0 (1 : Int32)) 178 0 (1 : Int32)) jx_L0 (jx_R 227)), 228, 1572956) := by
  show jv_Ev 350 0 [(0, .ref 178)] [] (jv_H (jx_K 227) (jv_u (jv_u jx_If 180 0 (1 : Int32)) 178 0 (1 : Int32)) jx_L0 (jx_R 227)) 228 1572956 _
  refine jv_Ev.steps jv_i350 1 (pc' := 1) (l' := [(0, .ref 178)]) (st' := [.ref 178]) rfl ?_
  refine jv_Ev.m jv_i350 (pc' := 4) (st' := [.int (1 : Int32)]) rfl rfl (jv_m_getI rfl rfl rfl rfl) ?_
  exact jv_Ev.ret jv_i350 rfl rfl

set_option maxRecDepth 100000 in
/-- the law: case 23, one way -/
theorem jx_l49 (p0 : Int32) (p1 : Int32) (p2 : Int32) (p3 : Int32) (p4 : Int32) (p5 : Int32) (g1 : p1.toInt64 < (0 : Int64)) (g2 : p1 < (0 : Int32)) (hsw : p0 &&& (31 : Int32) = (23 : Int32)) {p : Program} {l : Launch} {e : Env} {R : Room} {s : State} {m : MethodId} {args : Array Value} {below : List Frame} {meth : Method} {c : Code} {E : jv_Env} {Q : State → Prop} (hTb : jv_TOk jv_Tb) (hT2 : jx_T2Ok) (hl : l.stackTraces = false) (F : jx_F jv_T2 439 E p R s m args meth c) (hZ : jx_Z E s) (hRc : R.cells = 600002) (hRs : R.slots = 7302232) {bb : Nat} {xs : Nat → Int32} (hX : va_X bb 6 xs s E.2.2.2.2) (hbB : bb < E.2.2.2.1) (hE2 : E.1 1000002 = bb) (hQ : ∀ (l0 : jv_L) (G : jv_G) (n sl : Nat), n ≤ 600002 → sl ≤ 7302232 → jw p l e R s m args below meth c E 8 0 0 Q 1532 l0 [.int (1 : Int32)] G n sl) (q0 : xs 0 = p0) (q1 : xs 1 = p1) (q2 : xs 2 = p2) (q3 : xs 3 = p3) (q4 : xs 4 = p4) (q5 : xs 5 = p5) : jw p l e R s m args below meth c E 8 0 0 Q 33 [(0, .ref 1000002), (1, .ref 0), (2, .ref 178), (3, .ref 226), (4, .int (0 : Int32))] [] (jv_H (jx_K 227) jx_If jx_L0 (jx_R 227)) 227 1572950 := by
  refine jw.steps F jx_i439 2 (pc' := 36) (l' := [(0, .ref 1000002), (1, .ref 0), (2, .ref 178), (3, .ref 226), (4, .int (0 : Int32))]) (st' := [.int (0 : Int32), .ref 1000002]) rfl ?_
  refine jw.sld F jx_i439 hX hbB hE2 (pc' := 37) rfl rfl (show vp_in (nI 0) 6 from vp_in_nI (by decide) (by decide)) q0 rfl ?_
  refine jw.steps F jx_i439 2 (pc' := 40) (l' := [(0, .ref 1000002), (1, .ref 0), (2, .ref 178), (3, .ref 226), (4, .int (0 : Int32))]) (st' := [.int (p0 &&& (31 : Int32))]) rfl ?_
  refine jw.br F jx_i439 (pc' := 1296) (st' := []) rfl (by rw [hsw]; rfl) ?_
  refine jw.steps F jx_i439 5 (pc' := 1302) (l' := [(0, .ref 1000002), (1, .ref 0), (2, .ref 178), (3, .ref 226), (4, .int (0 : Int32))]) (st' := [.int (1 : Int32), .ref 1000002, .ref 0]) rfl ?_
  refine jw.sld F jx_i439 hX hbB hE2 (pc' := 1303) rfl rfl (show vp_in (nI 1) 6 from vp_in_nI (by decide) (by decide)) q1 rfl ?_
  refine jw.steps F jx_i439 4 (pc' := 1308) (l' := [(0, .ref 1000002), (1, .ref 0), (2, .ref 178), (3, .ref 226), (4, .int (0 : Int32))]) (st' := [.int (2 : Int32), .ref 1000002, .int p1, .ref 0]) rfl ?_
  refine jw.sld F jx_i439 hX hbB hE2 (pc' := 1309) rfl rfl (show vp_in (nI 2) 6 from vp_in_nI (by decide) (by decide)) q2 rfl ?_
  refine jw.steps F jx_i439 1 (pc' := 1310) (l' := [(0, .ref 1000002), (1, .ref 0), (2, .ref 178), (3, .ref 226), (4, .int (0 : Int32))]) (st' := [.ref 226, .int p2, .int p1, .ref 0]) rfl ?_
  refine jw.wr F hl hZ rfl jx_i439 jx_i455 [.ref 0, .int p1, .int p2, .ref 226] (pc' := 1313) (S' := [.int (1 : Int32)]) rfl (List.mem_of_getElem? (i := 15) rfl) (List.mem_of_getElem? (i := 15) rfl) rfl rfl rfl (jx_w340 hTb hT2 p0 p1 p2 p3 p4 p5 g1 g2) (by omega) (by omega) (by omega) (by omega) rfl rfl ?_
  refine jw.steps F jx_i439 6 (pc' := 1321) (l' := [(5, .int (1 : Int32)), (0, .ref 1000002), (1, .ref 0), (2, .ref 178), (3, .ref 226), (4, .int (0 : Int32))]) (st' := [.int (1 : Int32), .ref 1000002, .ref 178]) rfl ?_
  refine jw.sld F jx_i439 hX hbB hE2 (pc' := 1322) rfl rfl (show vp_in (nI 1) 6 from vp_in_nI (by decide) (by decide)) q1 rfl ?_
  refine jw.steps F jx_i439 4 (pc' := 1327) (l' := [(5, .int (1 : Int32)), (0, .ref 1000002), (1, .ref 0), (2, .ref 178), (3, .ref 226), (4, .int (0 : Int32))]) (st' := [.int (2 : Int32), .ref 1000002, .int p1, .ref 178]) rfl ?_
  refine jw.sld F jx_i439 hX hbB hE2 (pc' := 1328) rfl rfl (show vp_in (nI 2) 6 from vp_in_nI (by decide) (by decide)) q2 rfl ?_
  refine jw.ca hTb F jx_i439 (pc' := 1331) (S' := [.int (0 : Int32)]) rfl jv_i414 [.ref 178, .int p1, .int p2] rfl rfl rfl rfl (jx_cal2 rfl (jv_H_at rfl) rfl rfl) rfl (jx_e344 p0 p1 p2 p3 p4 p5 g1 g2) (by omega) (by omega) rfl rfl ?_
  refine jw.steps F jx_i439 2 (pc' := 1334) (l' := [(6, .int (0 : Int32)), (5, .int (1 : Int32)), (0, .ref 1000002), (1, .ref 0), (2, .ref 178), (3, .ref 226), (4, .int (0 : Int32))]) (st' := [.ref 178]) rfl ?_
  refine jw.ca hTb F jx_i439 (pc' := 1337) (S' := [.int (1 : Int32)]) rfl jv_i350 [.ref 178] rfl rfl rfl rfl (jx_cal2 rfl (jv_H_at rfl) rfl rfl) rfl (jx_e345 p0 p1 p2 p3 p4 p5 g1 g2) (by omega) (by omega) rfl rfl ?_
  refine jw.steps F jx_i439 1 (pc' := 1339) (l' := [(6, .int (0 : Int32)), (5, .int (1 : Int32)), (0, .ref 1000002), (1, .ref 0), (2, .ref 178), (3, .ref 226), (4, .int (0 : Int32))]) (st' := [.int (1 : Int32), .int (1 : Int32)]) rfl ?_
  refine jw.br F jx_i439 (pc' := 1344) (st' := []) rfl (jv_bc_eq.trans (jx_got (by decide))) ?_
  refine jw.steps F jx_i439 1 (pc' := 1346) (l' := [(6, .int (0 : Int32)), (5, .int (1 : Int32)), (0, .ref 1000002), (1, .ref 0), (2, .ref 178), (3, .ref 226), (4, .int (0 : Int32))]) (st' := [.int (1 : Int32)]) rfl ?_
  refine jw.br F jx_i439 (pc' := 1361) (st' := []) rfl (jv_bi_ne.trans (jx_got (by decide))) ?_
  refine jw.steps F jx_i439 5 (pc' := 26) (l' := [(4, .int (6 : Int32)), (6, .int (0 : Int32)), (5, .int (1 : Int32)), (0, .ref 1000002), (1, .ref 0), (2, .ref 178), (3, .ref 226)]) (st' := [.ref 1000002, .int (6 : Int32)]) rfl ?_
  refine jw.slen F jx_i439 hX hbB hE2 (pc' := 27) rfl rfl rfl ?_
  refine jw.steps F jx_i439 2 (pc' := 30) (l' := [(4, .int (6 : Int32)), (6, .int (0 : Int32)), (5, .int (1 : Int32)), (0, .ref 1000002), (1, .ref 0), (2, .ref 178), (3, .ref 226)]) (st' := [.int (0 : Int32), .int (6 : Int32)]) rfl ?_
  refine jw.br F jx_i439 (pc' := 1531) (st' := []) rfl (jv_bc_gt.trans (jx_got (by decide))) ?_
  refine jw.steps F jx_i439 1 (pc' := 1532) (l' := [(4, .int (6 : Int32)), (6, .int (0 : Int32)), (5, .int (1 : Int32)), (0, .ref 1000002), (1, .ref 0), (2, .ref 178), (3, .ref 226)]) (st' := [.int (1 : Int32)]) rfl ?_
  exact hQ _ _ _ _ (by omega) (by omega)

set_option maxRecDepth 100000 in
/-- ProgramBox$Store.map -/
theorem jx_e346 (p0 : Int32) (p1 : Int32) (p2 : Int32) (p3 : Int32) (p4 : Int32) (p5 : Int32) (g1 : p1.toInt64 < (0 : Int64)) (g2 : ¬ p1 < (0 : Int32)) : jv_Ms 126 [.ref 2, .long p1.toInt64] (jv_H (jx_K 227) jx_If jx_L0 (jx_R 227)) 227 1572950 (some (.null), (jv_H (jx_K 227) jx_If jx_L0 (jx_R 227)), 227, 1572950) := by
  show jv_Ev 126 0 [(0, .ref 2), (1, .long p1.toInt64)] [] (jv_H (jx_K 227) jx_If jx_L0 (jx_R 227)) 227 1572950 _
  refine jv_Ev.steps jv_i126 3 (pc' := 3) (l' := [(0, .ref 2), (1, .long p1.toInt64)]) (st' := [.int (lg_cmp p1.toInt64 (0 : Int64))]) rfl ?_
  refine jv_Ev.br jv_i126 (pc' := 16) (st' := []) rfl (jv_bi_lt.trans (jx_got ((lg_cmp_lt p1.toInt64 (0 : Int64)).mpr g1))) ?_
  refine jv_Ev.steps jv_i126 2 (pc' := 27) (l' := [(0, .ref 2), (1, .long p1.toInt64)]) (st' := [.null]) rfl ?_
  exact jv_Ev.ret jv_i126 rfl rfl

set_option maxRecDepth 100000 in
/-- ProgramBox.mapOf: it throws -/
theorem jx_e347 (hTb : jv_TOk jv_Tb) (p0 : Int32) (p1 : Int32) (p2 : Int32) (p3 : Int32) (p4 : Int32) (p5 : Int32) (g1 : p1.toInt64 < (0 : Int64)) (g2 : ¬ p1 < (0 : Int32)) : jx_Th 429 [.ref 0, .int p1] (jv_H (jx_K 227) jx_If jx_L0 (jx_R 227)) 227 1572950 2 (jv_H (jx_K 227) jx_If jx_L0 (jx_R 227)) 228 1572956 := by
  refine jx_Th.of hTb (y := 429) rfl (Nat.le_of_ble_eq_true rfl) ?_
  intro p l e R s m args below meth c E hl F hZ h0 ht hRc hRs
  show jw p l e R s m args below meth c E 3 227 1572950 _ 0 [(0, .ref 0), (1, .int p1)] [] (jv_H (jx_K 227) jx_If jx_L0 (jx_R 227)) 227 1572950
  refine jw.steps F jv_i429 1 (pc' := 1) (l' := [(0, .ref 0), (1, .int p1)]) (st' := [.ref 0]) rfl ?_
  refine jw.me F jv_i429 (pc' := 4) (st' := [.ref 2]) rfl rfl (jv_m_getR rfl rfl rfl rfl) ?_
  refine jw.steps F jv_i429 2 (pc' := 6) (l' := [(0, .ref 0), (1, .int p1)]) (st' := [.long p1.toInt64, .ref 2]) rfl ?_
  refine jw.ca hTb F jv_i429 (pc' := 9) (S' := [.null]) rfl jv_i126 [.ref 2, .long p1.toInt64] rfl rfl rfl rfl (jv_cal rfl (jv_H_at rfl) rfl rfl) rfl (jx_e346 p0 p1 p2 p3 p4 p5 g1 g2) (by omega) (by omega) rfl rfl ?_
  refine jw.steps F jv_i429 2 (pc' := 11) (l' := [(2, .null), (0, .ref 0), (1, .int p1)]) (st' := [.null]) rfl ?_
  refine jw.br F jv_i429 (pc' := 14) (st' := []) rfl rfl ?_
  exact jw.throw hl F hZ h0 rfl jv_i429 ht 2 183 "there is no such map" (List.mem_of_getElem? (i := 11) rfl) (by decide +kernel) (by decide +kernel) (by decide +kernel) (by decide +kernel) (by decide +kernel) rfl (by decide) (by decide) (by decide) (by omega) (by omega)

set_option maxRecDepth 100000 in
/-- ProgramBox.remove: it throws -/
theorem jx_e348 (hTb : jv_TOk jv_Tb) (p0 : Int32) (p1 : Int32) (p2 : Int32) (p3 : Int32) (p4 : Int32) (p5 : Int32) (g1 : p1.toInt64 < (0 : Int64)) (g2 : ¬ p1 < (0 : Int32)) : jx_Th 436 [.ref 0, .int p1, .int p2] (jv_H (jx_K 227) jx_If jx_L0 (jx_R 227)) 227 1572950 2 (jv_H (jx_K 227) jx_If jx_L0 (jx_R 227)) 228 1572956 := by
  refine jx_Th.of hTb (y := 436) rfl (Nat.le_of_ble_eq_true rfl) ?_
  intro p l e R s m args below meth c E hl F hZ h0 ht hRc hRs
  show jw p l e R s m args below meth c E 4 227 1572950 _ 0 [(0, .ref 0), (1, .int p1), (2, .int p2)] [] (jv_H (jx_K 227) jx_If jx_L0 (jx_R 227)) 227 1572950
  refine jw.steps F jv_i436 2 (pc' := 2) (l' := [(0, .ref 0), (1, .int p1), (2, .int p2)]) (st' := [.int p1, .ref 0]) rfl ?_
  exact jw.prop hTb hl F hZ jv_i436 ht rfl jv_i429 [.ref 0, .int p1] rfl rfl rfl rfl rfl (jv_cal rfl (jv_H_at rfl) rfl rfl) rfl (jx_e347 hTb p0 p1 p2 p3 p4 p5 g1 g2) (by omega) (by omega) (by omega) (by omega)

set_option maxRecDepth 100000 in
/-- the law's remove -/
theorem jx_w349 (hTb : jv_TOk jv_Tb) (hT2 : jx_T2Ok) (p0 : Int32) (p1 : Int32) (p2 : Int32) (p3 : Int32) (p4 : Int32) (p5 : Int32) (g1 : p1.toInt64 < (0 : Int64)) (g2 : ¬ p1 < (0 : Int32)) : jx_Wr 455 [(0, 10, 13, 36)] [.ref 0, .int p1, .int p2, .ref 226] (jv_H (jx_K 227) jx_If jx_L0 (jx_R 227)) 227 1572950 (some (.int (1 : Int32)), (jv_H (jx_K 227) jx_If jx_L0 (jx_R 227)), 228, 1572956) := by
  refine jx_Wr.of hT2 (by decide) rfl (Nat.le_of_ble_eq_true rfl) ?_
  intro p l e R s m args below meth c E hl F hZ htb hRc hRs
  show jw p l e R s m args below meth c E 5 227 1572950 _ 0 [(0, .ref 0), (1, .int p1), (2, .int p2), (3, .ref 226)] [] (jv_H (jx_K 227) jx_If jx_L0 (jx_R 227)) 227 1572950
  have hRc : R.cells = 228 - 227 := hRc
  have hRs : R.slots = 1572956 - 1572950 := hRs
  refine jw.steps F jx_i455 5 (pc' := 5) (l' := [(0, .ref 0), (1, .int p1), (2, .int p2), (3, .ref 226)]) (st' := [.int p2, .int p1, .ref 0, .int (0 : Int32), .ref 226]) rfl ?_
  refine jw.cat hTb hl F hZ rfl jx_i455 htb rfl jv_i436 [.ref 0, .int p1, .int p2] rfl rfl rfl rfl rfl (jx_cal2 rfl (jv_H_at rfl) rfl rfl) rfl (jx_e348 hTb p0 p1 p2 p3 p4 p5 g1 g2) (by omega) (by omega) (by omega) (by omega) [] (0, 10, 13, 36) [] rfl (fun z h => absurd h List.not_mem_nil) (by decide) rfl rfl (Or.inl ⟨rfl, rfl⟩) (by decide) ?_
  refine jw.steps F jx_i455 1 (pc' := 16) (l' := []) (st' := [.int (1 : Int32)]) rfl ?_
  exact jw.ret F jx_i455 rfl rfl

set_option maxRecDepth 100000 in
/-- ProgramBoxModel$Store.noMap -/
theorem jx_e350 (p0 : Int32) (p1 : Int32) (p2 : Int32) (p3 : Int32) (p4 : Int32) (p5 : Int32) (g1 : p1.toInt64 < (0 : Int64)) (g2 : ¬ p1 < (0 : Int32)) : jv_Ms 324 [.ref 180, .int p1] (jv_H (jx_K 227) jx_If jx_L0 (jx_R 227)) 228 1572956 (some (.int (1 : Int32)), (jv_H (jx_K 227) (jv_u jx_If 180 0 (1 : Int32)) jx_L0 (jx_R 227)), 228, 1572956) := by
  show jv_Ev 324 0 [(0, .ref 180), (1, .int p1)] [] (jv_H (jx_K 227) jx_If jx_L0 (jx_R 227)) 228 1572956 _
  refine jv_Ev.steps jv_i324 2 (pc' := 2) (l' := [(0, .ref 180), (1, .int p1)]) (st' := [.int p1, .ref 180]) rfl ?_
  refine jv_Ev.br jv_i324 (pc' := 5) (st' := [.ref 180]) rfl (jv_bi_lt.trans (jx_gof g2)) ?_
  refine jv_Ev.steps jv_i324 2 (pc' := 7) (l' := [(0, .ref 180), (1, .int p1)]) (st' := [.ref 180, .int p1, .ref 180]) rfl ?_
  refine jv_Ev.m jv_i324 (pc' := 10) (st' := [.int (0 : Int32), .int p1, .ref 180]) rfl rfl (jv_m_getI rfl rfl rfl rfl) ?_
  refine jv_Ev.br jv_i324 (pc' := 13) (st' := [.ref 180]) rfl (jv_bc_lt.trans (jx_gof g2)) ?_
  refine jv_Ev.steps jv_i324 2 (pc' := 18) (l' := [(0, .ref 180), (1, .int p1)]) (st' := [.int (1 : Int32), .ref 180]) rfl ?_
  refine jv_Ev.m jv_i324 (pc' := 21) (st' := []) rfl rfl (jv_m_putI rfl rfl rfl rfl rfl) ?_
  refine jv_Ev.steps jv_i324 1 (pc' := 22) (l' := [(0, .ref 180), (1, .int p1)]) (st' := [.ref 180]) rfl ?_
  refine jv_Ev.m jv_i324 (pc' := 25) (st' := [.int (1 : Int32)]) rfl rfl (jv_m_getI rfl rfl rfl rfl) ?_
  refine jv_Ev.br jv_i324 (pc' := 28) (st' := []) rfl (jv_bi_le.trans (jx_gof (by decide))) ?_
  refine jv_Ev.steps jv_i324 2 (pc' := 33) (l' := [(0, .ref 180), (1, .int p1)]) (st' := [.int (1 : Int32)]) rfl ?_
  exact jv_Ev.ret jv_i324 rfl (jv_ret_b (by decide))

set_option maxRecDepth 100000 in
/-- ProgramBoxModel$Store.remove -/
theorem jx_e351 (p0 : Int32) (p1 : Int32) (p2 : Int32) (p3 : Int32) (p4 : Int32) (p5 : Int32) (g1 : p1.toInt64 < (0 : Int64)) (g2 : ¬ p1 < (0 : Int32)) : jv_Ms 342 [.ref 180, .int p1, .int p2] (jv_H (jx_K 227) jx_If jx_L0 (jx_R 227)) 228 1572956 (some (.int (0 : Int32)), (jv_H (jx_K 227) (jv_u jx_If 180 0 (1 : Int32)) jx_L0 (jx_R 227)), 228, 1572956) := by
  show jv_Ev 342 0 [(0, .ref 180), (1, .int p1), (2, .int p2)] [] (jv_H (jx_K 227) jx_If jx_L0 (jx_R 227)) 228 1572956 _
  refine jv_Ev.steps jv_i342 2 (pc' := 2) (l' := [(0, .ref 180), (1, .int p1), (2, .int p2)]) (st' := [.int p1, .ref 180]) rfl ?_
  refine jv_Ev.c jv_i342 (pc' := 5) (S' := [.int (1 : Int32)]) jv_i324 [.ref 180, .int p1] rfl rfl rfl rfl (jv_cal rfl (jv_H_at rfl) rfl rfl) rfl (jx_e350 p0 p1 p2 p3 p4 p5 g1 g2) rfl rfl ?_
  refine jv_Ev.br jv_i342 (pc' := 8) (st' := []) rfl (jv_bi_eq.trans (jx_gof (by decide))) ?_
  refine jv_Ev.steps jv_i342 1 (pc' := 9) (l' := [(0, .ref 180), (1, .int p1), (2, .int p2)]) (st' := [.int (0 : Int32)]) rfl ?_
  exact jv_Ev.ret jv_i342 rfl rfl

set_option maxRecDepth 100000 in
/-- ProgramBoxModel$Store.thrown -/
theorem jx_e352 (p0 : Int32) (p1 : Int32) (p2 : Int32) (p3 : Int32) (p4 : Int32) (p5 : Int32) (g1 : p1.toInt64 < (0 : Int64)) (g2 : ¬ p1 < (0 : Int32)) : jv_Ms 318 [.ref 180] (jv_H (jx_K 227) (jv_u jx_If 180 0 (1 : Int32)) jx_L0 (jx_R 227)) 228 1572956 (some (.int (1 : Int32)), (jv_H (jx_K 227) (jv_u jx_If 180 0 (1 : Int32)) jx_L0 (jx_R 227)), 228, 1572956) := by
  show jv_Ev 318 0 [(0, .ref 180)] [] (jv_H (jx_K 227) (jv_u jx_If 180 0 (1 : Int32)) jx_L0 (jx_R 227)) 228 1572956 _
  refine jv_Ev.steps jv_i318 1 (pc' := 1) (l' := [(0, .ref 180)]) (st' := [.ref 180]) rfl ?_
  refine jv_Ev.m jv_i318 (pc' := 4) (st' := [.int (1 : Int32)]) rfl rfl (jv_m_getI rfl rfl rfl rfl) ?_
  exact jv_Ev.ret jv_i318 rfl rfl

set_option maxRecDepth 100000 in
/-- ProgramBoxModel.remove -/
theorem jx_e353 (p0 : Int32) (p1 : Int32) (p2 : Int32) (p3 : Int32) (p4 : Int32) (p5 : Int32) (g1 : p1.toInt64 < (0 : Int64)) (g2 : ¬ p1 < (0 : Int32)) : jv_Ms 414 [.ref 178, .int p1, .int p2] (jv_H (jx_K 227) jx_If jx_L0 (jx_R 227)) 228 1572956 (some (.int (0 : Int32)), (jv_H (jx_K 227) (jv_u (jv_u jx_If 180 0 (1 : Int32)) 178 0 (1 : Int32)) jx_L0 (jx_R 227)), 228, 1572956) := by
  show jv_Ev 414 0 [(0, .ref 178), (1, .int p1), (2, .int p2)] [] (jv_H (jx_K 227) jx_If jx_L0 (jx_R 227)) 228 1572956 _
  refine jv_Ev.steps jv_i414 1 (pc' := 1) (l' := [(0, .ref 178), (1, .int p1), (2, .int p2)]) (st' := [.ref 178]) rfl ?_
  refine jv_Ev.m jv_i414 (pc' := 4) (st' := [.ref 180]) rfl rfl (jv_m_getR rfl rfl rfl rfl) ?_
  refine jv_Ev.steps jv_i414 2 (pc' := 6) (l' := [(0, .ref 178), (1, .int p1), (2, .int p2)]) (st' := [.int p2, .int p1, .ref 180]) rfl ?_
  refine jv_Ev.c jv_i414 (pc' := 9) (S' := [.int (0 : Int32)]) jv_i342 [.ref 180, .int p1, .int p2] rfl rfl rfl rfl (jv_cal rfl (jv_H_at rfl) rfl rfl) rfl (jx_e351 p0 p1 p2 p3 p4 p5 g1 g2) rfl rfl ?_
  refine jv_Ev.steps jv_i414 3 (pc' := 12) (l' := [(3, .int (0 : Int32)), (0, .ref 178), (1, .int p1), (2, .int p2)]) (st' := [.ref 178, .ref 178]) rfl ?_
  refine jv_Ev.m jv_i414 (pc' := 15) (st' := [.ref 180, .ref 178]) rfl rfl (jv_m_getR rfl rfl rfl rfl) ?_
  refine jv_Ev.c jv_i414 (pc' := 18) (S' := [.int (1 : Int32), .ref 178]) jv_i318 [.ref 180] rfl rfl rfl rfl (jv_cal rfl (jv_H_at rfl) rfl rfl) rfl (jx_e352 p0 p1 p2 p3 p4 p5 g1 g2) rfl rfl ?_
  refine jv_Ev.m jv_i414 (pc' := 21) (st' := []) rfl rfl (jv_m_putI rfl rfl rfl rfl rfl) ?_
  refine jv_Ev.steps jv_i414 1 (pc' := 22) (l' := [(3, .int (0 : Int32)), (0, .ref 178), (1, .int p1), (2, .int p2)]) (st' := [.int (0 : Int32)]) rfl ?_
  exact jv_Ev.ret jv_i414 rfl rfl

set_option maxRecDepth 100000 in
/-- ProgramBoxModel.thrown -/
theorem jx_e354 (p0 : Int32) (p1 : Int32) (p2 : Int32) (p3 : Int32) (p4 : Int32) (p5 : Int32) (g1 : p1.toInt64 < (0 : Int64)) (g2 : ¬ p1 < (0 : Int32)) : jv_Ms 350 [.ref 178] (jv_H (jx_K 227) (jv_u (jv_u jx_If 180 0 (1 : Int32)) 178 0 (1 : Int32)) jx_L0 (jx_R 227)) 228 1572956 (some (.int (1 : Int32)), (jv_H (jx_K 227) (jv_u (jv_u jx_If 180 0 (1 : Int32)) 178 0 (1 : Int32)) jx_L0 (jx_R 227)), 228, 1572956) := by
  show jv_Ev 350 0 [(0, .ref 178)] [] (jv_H (jx_K 227) (jv_u (jv_u jx_If 180 0 (1 : Int32)) 178 0 (1 : Int32)) jx_L0 (jx_R 227)) 228 1572956 _
  refine jv_Ev.steps jv_i350 1 (pc' := 1) (l' := [(0, .ref 178)]) (st' := [.ref 178]) rfl ?_
  refine jv_Ev.m jv_i350 (pc' := 4) (st' := [.int (1 : Int32)]) rfl rfl (jv_m_getI rfl rfl rfl rfl) ?_
  exact jv_Ev.ret jv_i350 rfl rfl

set_option maxRecDepth 100000 in
/-- the law: case 23, one way -/
theorem jx_l50 (p0 : Int32) (p1 : Int32) (p2 : Int32) (p3 : Int32) (p4 : Int32) (p5 : Int32) (g1 : p1.toInt64 < (0 : Int64)) (g2 : ¬ p1 < (0 : Int32)) (hsw : p0 &&& (31 : Int32) = (23 : Int32)) {p : Program} {l : Launch} {e : Env} {R : Room} {s : State} {m : MethodId} {args : Array Value} {below : List Frame} {meth : Method} {c : Code} {E : jv_Env} {Q : State → Prop} (hTb : jv_TOk jv_Tb) (hT2 : jx_T2Ok) (hl : l.stackTraces = false) (F : jx_F jv_T2 439 E p R s m args meth c) (hZ : jx_Z E s) (hRc : R.cells = 600002) (hRs : R.slots = 7302232) {bb : Nat} {xs : Nat → Int32} (hX : va_X bb 6 xs s E.2.2.2.2) (hbB : bb < E.2.2.2.1) (hE2 : E.1 1000002 = bb) (hQ : ∀ (l0 : jv_L) (G : jv_G) (n sl : Nat), n ≤ 600002 → sl ≤ 7302232 → jw p l e R s m args below meth c E 8 0 0 Q 1532 l0 [.int (1 : Int32)] G n sl) (q0 : xs 0 = p0) (q1 : xs 1 = p1) (q2 : xs 2 = p2) (q3 : xs 3 = p3) (q4 : xs 4 = p4) (q5 : xs 5 = p5) : jw p l e R s m args below meth c E 8 0 0 Q 33 [(0, .ref 1000002), (1, .ref 0), (2, .ref 178), (3, .ref 226), (4, .int (0 : Int32))] [] (jv_H (jx_K 227) jx_If jx_L0 (jx_R 227)) 227 1572950 := by
  refine jw.steps F jx_i439 2 (pc' := 36) (l' := [(0, .ref 1000002), (1, .ref 0), (2, .ref 178), (3, .ref 226), (4, .int (0 : Int32))]) (st' := [.int (0 : Int32), .ref 1000002]) rfl ?_
  refine jw.sld F jx_i439 hX hbB hE2 (pc' := 37) rfl rfl (show vp_in (nI 0) 6 from vp_in_nI (by decide) (by decide)) q0 rfl ?_
  refine jw.steps F jx_i439 2 (pc' := 40) (l' := [(0, .ref 1000002), (1, .ref 0), (2, .ref 178), (3, .ref 226), (4, .int (0 : Int32))]) (st' := [.int (p0 &&& (31 : Int32))]) rfl ?_
  refine jw.br F jx_i439 (pc' := 1296) (st' := []) rfl (by rw [hsw]; rfl) ?_
  refine jw.steps F jx_i439 5 (pc' := 1302) (l' := [(0, .ref 1000002), (1, .ref 0), (2, .ref 178), (3, .ref 226), (4, .int (0 : Int32))]) (st' := [.int (1 : Int32), .ref 1000002, .ref 0]) rfl ?_
  refine jw.sld F jx_i439 hX hbB hE2 (pc' := 1303) rfl rfl (show vp_in (nI 1) 6 from vp_in_nI (by decide) (by decide)) q1 rfl ?_
  refine jw.steps F jx_i439 4 (pc' := 1308) (l' := [(0, .ref 1000002), (1, .ref 0), (2, .ref 178), (3, .ref 226), (4, .int (0 : Int32))]) (st' := [.int (2 : Int32), .ref 1000002, .int p1, .ref 0]) rfl ?_
  refine jw.sld F jx_i439 hX hbB hE2 (pc' := 1309) rfl rfl (show vp_in (nI 2) 6 from vp_in_nI (by decide) (by decide)) q2 rfl ?_
  refine jw.steps F jx_i439 1 (pc' := 1310) (l' := [(0, .ref 1000002), (1, .ref 0), (2, .ref 178), (3, .ref 226), (4, .int (0 : Int32))]) (st' := [.ref 226, .int p2, .int p1, .ref 0]) rfl ?_
  refine jw.wr F hl hZ rfl jx_i439 jx_i455 [.ref 0, .int p1, .int p2, .ref 226] (pc' := 1313) (S' := [.int (1 : Int32)]) rfl (List.mem_of_getElem? (i := 15) rfl) (List.mem_of_getElem? (i := 15) rfl) rfl rfl rfl (jx_w349 hTb hT2 p0 p1 p2 p3 p4 p5 g1 g2) (by omega) (by omega) (by omega) (by omega) rfl rfl ?_
  refine jw.steps F jx_i439 6 (pc' := 1321) (l' := [(5, .int (1 : Int32)), (0, .ref 1000002), (1, .ref 0), (2, .ref 178), (3, .ref 226), (4, .int (0 : Int32))]) (st' := [.int (1 : Int32), .ref 1000002, .ref 178]) rfl ?_
  refine jw.sld F jx_i439 hX hbB hE2 (pc' := 1322) rfl rfl (show vp_in (nI 1) 6 from vp_in_nI (by decide) (by decide)) q1 rfl ?_
  refine jw.steps F jx_i439 4 (pc' := 1327) (l' := [(5, .int (1 : Int32)), (0, .ref 1000002), (1, .ref 0), (2, .ref 178), (3, .ref 226), (4, .int (0 : Int32))]) (st' := [.int (2 : Int32), .ref 1000002, .int p1, .ref 178]) rfl ?_
  refine jw.sld F jx_i439 hX hbB hE2 (pc' := 1328) rfl rfl (show vp_in (nI 2) 6 from vp_in_nI (by decide) (by decide)) q2 rfl ?_
  refine jw.ca hTb F jx_i439 (pc' := 1331) (S' := [.int (0 : Int32)]) rfl jv_i414 [.ref 178, .int p1, .int p2] rfl rfl rfl rfl (jx_cal2 rfl (jv_H_at rfl) rfl rfl) rfl (jx_e353 p0 p1 p2 p3 p4 p5 g1 g2) (by omega) (by omega) rfl rfl ?_
  refine jw.steps F jx_i439 2 (pc' := 1334) (l' := [(6, .int (0 : Int32)), (5, .int (1 : Int32)), (0, .ref 1000002), (1, .ref 0), (2, .ref 178), (3, .ref 226), (4, .int (0 : Int32))]) (st' := [.ref 178]) rfl ?_
  refine jw.ca hTb F jx_i439 (pc' := 1337) (S' := [.int (1 : Int32)]) rfl jv_i350 [.ref 178] rfl rfl rfl rfl (jx_cal2 rfl (jv_H_at rfl) rfl rfl) rfl (jx_e354 p0 p1 p2 p3 p4 p5 g1 g2) (by omega) (by omega) rfl rfl ?_
  refine jw.steps F jx_i439 1 (pc' := 1339) (l' := [(6, .int (0 : Int32)), (5, .int (1 : Int32)), (0, .ref 1000002), (1, .ref 0), (2, .ref 178), (3, .ref 226), (4, .int (0 : Int32))]) (st' := [.int (1 : Int32), .int (1 : Int32)]) rfl ?_
  refine jw.br F jx_i439 (pc' := 1344) (st' := []) rfl (jv_bc_eq.trans (jx_got (by decide))) ?_
  refine jw.steps F jx_i439 1 (pc' := 1346) (l' := [(6, .int (0 : Int32)), (5, .int (1 : Int32)), (0, .ref 1000002), (1, .ref 0), (2, .ref 178), (3, .ref 226), (4, .int (0 : Int32))]) (st' := [.int (1 : Int32)]) rfl ?_
  refine jw.br F jx_i439 (pc' := 1361) (st' := []) rfl (jv_bi_ne.trans (jx_got (by decide))) ?_
  refine jw.steps F jx_i439 5 (pc' := 26) (l' := [(4, .int (6 : Int32)), (6, .int (0 : Int32)), (5, .int (1 : Int32)), (0, .ref 1000002), (1, .ref 0), (2, .ref 178), (3, .ref 226)]) (st' := [.ref 1000002, .int (6 : Int32)]) rfl ?_
  refine jw.slen F jx_i439 hX hbB hE2 (pc' := 27) rfl rfl rfl ?_
  refine jw.steps F jx_i439 2 (pc' := 30) (l' := [(4, .int (6 : Int32)), (6, .int (0 : Int32)), (5, .int (1 : Int32)), (0, .ref 1000002), (1, .ref 0), (2, .ref 178), (3, .ref 226)]) (st' := [.int (0 : Int32), .int (6 : Int32)]) rfl ?_
  refine jw.br F jx_i439 (pc' := 1531) (st' := []) rfl (jv_bc_gt.trans (jx_got (by decide))) ?_
  refine jw.steps F jx_i439 1 (pc' := 1532) (l' := [(4, .int (6 : Int32)), (6, .int (0 : Int32)), (5, .int (1 : Int32)), (0, .ref 1000002), (1, .ref 0), (2, .ref 178), (3, .ref 226)]) (st' := [.int (1 : Int32)]) rfl ?_
  exact hQ _ _ _ _ (by omega) (by omega)

set_option maxRecDepth 100000 in
/-- ProgramBox$Store.map -/
theorem jx_e359 (p0 : Int32) (p1 : Int32) (p2 : Int32) (p3 : Int32) (p4 : Int32) (p5 : Int32) (g1 : ¬ p1.toInt64 < (0 : Int64)) (g2 : p1 < (0 : Int32)) : jv_Ms 126 [.ref 2, .long p1.toInt64] (jv_H (jx_K 227) jx_If jx_L0 (jx_R 227)) 227 1572950 (some (.null), (jv_H (jx_K 227) jx_If jx_L0 (jx_R 227)), 227, 1572950) := by
  show jv_Ev 126 0 [(0, .ref 2), (1, .long p1.toInt64)] [] (jv_H (jx_K 227) jx_If jx_L0 (jx_R 227)) 227 1572950 _
  refine jv_Ev.steps jv_i126 3 (pc' := 3) (l' := [(0, .ref 2), (1, .long p1.toInt64)]) (st' := [.int (lg_cmp p1.toInt64 (0 : Int64))]) rfl ?_
  refine jv_Ev.br jv_i126 (pc' := 6) (st' := []) rfl (jv_bi_lt.trans (jx_gof (fun h => g1 ((lg_cmp_lt p1.toInt64 (0 : Int64)).mp h)))) ?_
  refine jv_Ev.steps jv_i126 2 (pc' := 8) (l' := [(0, .ref 2), (1, .long p1.toInt64)]) (st' := [.ref 2, .long p1.toInt64]) rfl ?_
  refine jv_Ev.m jv_i126 (pc' := 11) (st' := [.int (0 : Int32), .long p1.toInt64]) rfl rfl (jv_m_getI rfl rfl rfl rfl) ?_
  refine jv_Ev.steps jv_i126 2 (pc' := 13) (l' := [(0, .ref 2), (1, .long p1.toInt64)]) (st' := [.int (lg_cmp p1.toInt64 (0 : Int64))]) rfl ?_
  refine jv_Ev.br jv_i126 (pc' := 16) (st' := []) rfl (jv_bi_lt.trans (jx_gof (fun h => g1 ((lg_cmp_lt p1.toInt64 (0 : Int64)).mp h)))) ?_
  refine jv_Ev.steps jv_i126 2 (pc' := 27) (l' := [(0, .ref 2), (1, .long p1.toInt64)]) (st' := [.null]) rfl ?_
  exact jv_Ev.ret jv_i126 rfl rfl

set_option maxRecDepth 100000 in
/-- ProgramBox.mapOf: it throws -/
theorem jx_e360 (hTb : jv_TOk jv_Tb) (p0 : Int32) (p1 : Int32) (p2 : Int32) (p3 : Int32) (p4 : Int32) (p5 : Int32) (g1 : ¬ p1.toInt64 < (0 : Int64)) (g2 : p1 < (0 : Int32)) : jx_Th 429 [.ref 0, .int p1] (jv_H (jx_K 227) jx_If jx_L0 (jx_R 227)) 227 1572950 2 (jv_H (jx_K 227) jx_If jx_L0 (jx_R 227)) 228 1572956 := by
  refine jx_Th.of hTb (y := 429) rfl (Nat.le_of_ble_eq_true rfl) ?_
  intro p l e R s m args below meth c E hl F hZ h0 ht hRc hRs
  show jw p l e R s m args below meth c E 3 227 1572950 _ 0 [(0, .ref 0), (1, .int p1)] [] (jv_H (jx_K 227) jx_If jx_L0 (jx_R 227)) 227 1572950
  refine jw.steps F jv_i429 1 (pc' := 1) (l' := [(0, .ref 0), (1, .int p1)]) (st' := [.ref 0]) rfl ?_
  refine jw.me F jv_i429 (pc' := 4) (st' := [.ref 2]) rfl rfl (jv_m_getR rfl rfl rfl rfl) ?_
  refine jw.steps F jv_i429 2 (pc' := 6) (l' := [(0, .ref 0), (1, .int p1)]) (st' := [.long p1.toInt64, .ref 2]) rfl ?_
  refine jw.ca hTb F jv_i429 (pc' := 9) (S' := [.null]) rfl jv_i126 [.ref 2, .long p1.toInt64] rfl rfl rfl rfl (jv_cal rfl (jv_H_at rfl) rfl rfl) rfl (jx_e359 p0 p1 p2 p3 p4 p5 g1 g2) (by omega) (by omega) rfl rfl ?_
  refine jw.steps F jv_i429 2 (pc' := 11) (l' := [(2, .null), (0, .ref 0), (1, .int p1)]) (st' := [.null]) rfl ?_
  refine jw.br F jv_i429 (pc' := 14) (st' := []) rfl rfl ?_
  exact jw.throw hl F hZ h0 rfl jv_i429 ht 2 183 "there is no such map" (List.mem_of_getElem? (i := 11) rfl) (by decide +kernel) (by decide +kernel) (by decide +kernel) (by decide +kernel) (by decide +kernel) rfl (by decide) (by decide) (by decide) (by omega) (by omega)

set_option maxRecDepth 100000 in
/-- ProgramBox.remove: it throws -/
theorem jx_e361 (hTb : jv_TOk jv_Tb) (p0 : Int32) (p1 : Int32) (p2 : Int32) (p3 : Int32) (p4 : Int32) (p5 : Int32) (g1 : ¬ p1.toInt64 < (0 : Int64)) (g2 : p1 < (0 : Int32)) : jx_Th 436 [.ref 0, .int p1, .int p2] (jv_H (jx_K 227) jx_If jx_L0 (jx_R 227)) 227 1572950 2 (jv_H (jx_K 227) jx_If jx_L0 (jx_R 227)) 228 1572956 := by
  refine jx_Th.of hTb (y := 436) rfl (Nat.le_of_ble_eq_true rfl) ?_
  intro p l e R s m args below meth c E hl F hZ h0 ht hRc hRs
  show jw p l e R s m args below meth c E 4 227 1572950 _ 0 [(0, .ref 0), (1, .int p1), (2, .int p2)] [] (jv_H (jx_K 227) jx_If jx_L0 (jx_R 227)) 227 1572950
  refine jw.steps F jv_i436 2 (pc' := 2) (l' := [(0, .ref 0), (1, .int p1), (2, .int p2)]) (st' := [.int p1, .ref 0]) rfl ?_
  exact jw.prop hTb hl F hZ jv_i436 ht rfl jv_i429 [.ref 0, .int p1] rfl rfl rfl rfl rfl (jv_cal rfl (jv_H_at rfl) rfl rfl) rfl (jx_e360 hTb p0 p1 p2 p3 p4 p5 g1 g2) (by omega) (by omega) (by omega) (by omega)

set_option maxRecDepth 100000 in
/-- the law's remove -/
theorem jx_w362 (hTb : jv_TOk jv_Tb) (hT2 : jx_T2Ok) (p0 : Int32) (p1 : Int32) (p2 : Int32) (p3 : Int32) (p4 : Int32) (p5 : Int32) (g1 : ¬ p1.toInt64 < (0 : Int64)) (g2 : p1 < (0 : Int32)) : jx_Wr 455 [(0, 10, 13, 36)] [.ref 0, .int p1, .int p2, .ref 226] (jv_H (jx_K 227) jx_If jx_L0 (jx_R 227)) 227 1572950 (some (.int (1 : Int32)), (jv_H (jx_K 227) jx_If jx_L0 (jx_R 227)), 228, 1572956) := by
  refine jx_Wr.of hT2 (by decide) rfl (Nat.le_of_ble_eq_true rfl) ?_
  intro p l e R s m args below meth c E hl F hZ htb hRc hRs
  show jw p l e R s m args below meth c E 5 227 1572950 _ 0 [(0, .ref 0), (1, .int p1), (2, .int p2), (3, .ref 226)] [] (jv_H (jx_K 227) jx_If jx_L0 (jx_R 227)) 227 1572950
  have hRc : R.cells = 228 - 227 := hRc
  have hRs : R.slots = 1572956 - 1572950 := hRs
  refine jw.steps F jx_i455 5 (pc' := 5) (l' := [(0, .ref 0), (1, .int p1), (2, .int p2), (3, .ref 226)]) (st' := [.int p2, .int p1, .ref 0, .int (0 : Int32), .ref 226]) rfl ?_
  refine jw.cat hTb hl F hZ rfl jx_i455 htb rfl jv_i436 [.ref 0, .int p1, .int p2] rfl rfl rfl rfl rfl (jx_cal2 rfl (jv_H_at rfl) rfl rfl) rfl (jx_e361 hTb p0 p1 p2 p3 p4 p5 g1 g2) (by omega) (by omega) (by omega) (by omega) [] (0, 10, 13, 36) [] rfl (fun z h => absurd h List.not_mem_nil) (by decide) rfl rfl (Or.inl ⟨rfl, rfl⟩) (by decide) ?_
  refine jw.steps F jx_i455 1 (pc' := 16) (l' := []) (st' := [.int (1 : Int32)]) rfl ?_
  exact jw.ret F jx_i455 rfl rfl

set_option maxRecDepth 100000 in
/-- ProgramBoxModel$Store.noMap -/
theorem jx_e363 (p0 : Int32) (p1 : Int32) (p2 : Int32) (p3 : Int32) (p4 : Int32) (p5 : Int32) (g1 : ¬ p1.toInt64 < (0 : Int64)) (g2 : p1 < (0 : Int32)) : jv_Ms 324 [.ref 180, .int p1] (jv_H (jx_K 227) jx_If jx_L0 (jx_R 227)) 228 1572956 (some (.int (1 : Int32)), (jv_H (jx_K 227) (jv_u jx_If 180 0 (1 : Int32)) jx_L0 (jx_R 227)), 228, 1572956) := by
  show jv_Ev 324 0 [(0, .ref 180), (1, .int p1)] [] (jv_H (jx_K 227) jx_If jx_L0 (jx_R 227)) 228 1572956 _
  refine jv_Ev.steps jv_i324 2 (pc' := 2) (l' := [(0, .ref 180), (1, .int p1)]) (st' := [.int p1, .ref 180]) rfl ?_
  refine jv_Ev.br jv_i324 (pc' := 13) (st' := [.ref 180]) rfl (jv_bi_lt.trans (jx_got g2)) ?_
  refine jv_Ev.steps jv_i324 2 (pc' := 18) (l' := [(0, .ref 180), (1, .int p1)]) (st' := [.int (1 : Int32), .ref 180]) rfl ?_
  refine jv_Ev.m jv_i324 (pc' := 21) (st' := []) rfl rfl (jv_m_putI rfl rfl rfl rfl rfl) ?_
  refine jv_Ev.steps jv_i324 1 (pc' := 22) (l' := [(0, .ref 180), (1, .int p1)]) (st' := [.ref 180]) rfl ?_
  refine jv_Ev.m jv_i324 (pc' := 25) (st' := [.int (1 : Int32)]) rfl rfl (jv_m_getI rfl rfl rfl rfl) ?_
  refine jv_Ev.br jv_i324 (pc' := 28) (st' := []) rfl (jv_bi_le.trans (jx_gof (by decide))) ?_
  refine jv_Ev.steps jv_i324 2 (pc' := 33) (l' := [(0, .ref 180), (1, .int p1)]) (st' := [.int (1 : Int32)]) rfl ?_
  exact jv_Ev.ret jv_i324 rfl (jv_ret_b (by decide))

set_option maxRecDepth 100000 in
/-- ProgramBoxModel$Store.remove -/
theorem jx_e364 (p0 : Int32) (p1 : Int32) (p2 : Int32) (p3 : Int32) (p4 : Int32) (p5 : Int32) (g1 : ¬ p1.toInt64 < (0 : Int64)) (g2 : p1 < (0 : Int32)) : jv_Ms 342 [.ref 180, .int p1, .int p2] (jv_H (jx_K 227) jx_If jx_L0 (jx_R 227)) 228 1572956 (some (.int (0 : Int32)), (jv_H (jx_K 227) (jv_u jx_If 180 0 (1 : Int32)) jx_L0 (jx_R 227)), 228, 1572956) := by
  show jv_Ev 342 0 [(0, .ref 180), (1, .int p1), (2, .int p2)] [] (jv_H (jx_K 227) jx_If jx_L0 (jx_R 227)) 228 1572956 _
  refine jv_Ev.steps jv_i342 2 (pc' := 2) (l' := [(0, .ref 180), (1, .int p1), (2, .int p2)]) (st' := [.int p1, .ref 180]) rfl ?_
  refine jv_Ev.c jv_i342 (pc' := 5) (S' := [.int (1 : Int32)]) jv_i324 [.ref 180, .int p1] rfl rfl rfl rfl (jv_cal rfl (jv_H_at rfl) rfl rfl) rfl (jx_e363 p0 p1 p2 p3 p4 p5 g1 g2) rfl rfl ?_
  refine jv_Ev.br jv_i342 (pc' := 8) (st' := []) rfl (jv_bi_eq.trans (jx_gof (by decide))) ?_
  refine jv_Ev.steps jv_i342 1 (pc' := 9) (l' := [(0, .ref 180), (1, .int p1), (2, .int p2)]) (st' := [.int (0 : Int32)]) rfl ?_
  exact jv_Ev.ret jv_i342 rfl rfl

set_option maxRecDepth 100000 in
/-- ProgramBoxModel$Store.thrown -/
theorem jx_e365 (p0 : Int32) (p1 : Int32) (p2 : Int32) (p3 : Int32) (p4 : Int32) (p5 : Int32) (g1 : ¬ p1.toInt64 < (0 : Int64)) (g2 : p1 < (0 : Int32)) : jv_Ms 318 [.ref 180] (jv_H (jx_K 227) (jv_u jx_If 180 0 (1 : Int32)) jx_L0 (jx_R 227)) 228 1572956 (some (.int (1 : Int32)), (jv_H (jx_K 227) (jv_u jx_If 180 0 (1 : Int32)) jx_L0 (jx_R 227)), 228, 1572956) := by
  show jv_Ev 318 0 [(0, .ref 180)] [] (jv_H (jx_K 227) (jv_u jx_If 180 0 (1 : Int32)) jx_L0 (jx_R 227)) 228 1572956 _
  refine jv_Ev.steps jv_i318 1 (pc' := 1) (l' := [(0, .ref 180)]) (st' := [.ref 180]) rfl ?_
  refine jv_Ev.m jv_i318 (pc' := 4) (st' := [.int (1 : Int32)]) rfl rfl (jv_m_getI rfl rfl rfl rfl) ?_
  exact jv_Ev.ret jv_i318 rfl rfl

set_option maxRecDepth 100000 in
/-- ProgramBoxModel.remove -/
theorem jx_e366 (p0 : Int32) (p1 : Int32) (p2 : Int32) (p3 : Int32) (p4 : Int32) (p5 : Int32) (g1 : ¬ p1.toInt64 < (0 : Int64)) (g2 : p1 < (0 : Int32)) : jv_Ms 414 [.ref 178, .int p1, .int p2] (jv_H (jx_K 227) jx_If jx_L0 (jx_R 227)) 228 1572956 (some (.int (0 : Int32)), (jv_H (jx_K 227) (jv_u (jv_u jx_If 180 0 (1 : Int32)) 178 0 (1 : Int32)) jx_L0 (jx_R 227)), 228, 1572956) := by
  show jv_Ev 414 0 [(0, .ref 178), (1, .int p1), (2, .int p2)] [] (jv_H (jx_K 227) jx_If jx_L0 (jx_R 227)) 228 1572956 _
  refine jv_Ev.steps jv_i414 1 (pc' := 1) (l' := [(0, .ref 178), (1, .int p1), (2, .int p2)]) (st' := [.ref 178]) rfl ?_
  refine jv_Ev.m jv_i414 (pc' := 4) (st' := [.ref 180]) rfl rfl (jv_m_getR rfl rfl rfl rfl) ?_
  refine jv_Ev.steps jv_i414 2 (pc' := 6) (l' := [(0, .ref 178), (1, .int p1), (2, .int p2)]) (st' := [.int p2, .int p1, .ref 180]) rfl ?_
  refine jv_Ev.c jv_i414 (pc' := 9) (S' := [.int (0 : Int32)]) jv_i342 [.ref 180, .int p1, .int p2] rfl rfl rfl rfl (jv_cal rfl (jv_H_at rfl) rfl rfl) rfl (jx_e364 p0 p1 p2 p3 p4 p5 g1 g2) rfl rfl ?_
  refine jv_Ev.steps jv_i414 3 (pc' := 12) (l' := [(3, .int (0 : Int32)), (0, .ref 178), (1, .int p1), (2, .int p2)]) (st' := [.ref 178, .ref 178]) rfl ?_
  refine jv_Ev.m jv_i414 (pc' := 15) (st' := [.ref 180, .ref 178]) rfl rfl (jv_m_getR rfl rfl rfl rfl) ?_
  refine jv_Ev.c jv_i414 (pc' := 18) (S' := [.int (1 : Int32), .ref 178]) jv_i318 [.ref 180] rfl rfl rfl rfl (jv_cal rfl (jv_H_at rfl) rfl rfl) rfl (jx_e365 p0 p1 p2 p3 p4 p5 g1 g2) rfl rfl ?_
  refine jv_Ev.m jv_i414 (pc' := 21) (st' := []) rfl rfl (jv_m_putI rfl rfl rfl rfl rfl) ?_
  refine jv_Ev.steps jv_i414 1 (pc' := 22) (l' := [(3, .int (0 : Int32)), (0, .ref 178), (1, .int p1), (2, .int p2)]) (st' := [.int (0 : Int32)]) rfl ?_
  exact jv_Ev.ret jv_i414 rfl rfl

set_option maxRecDepth 100000 in
/-- ProgramBoxModel.thrown -/
theorem jx_e367 (p0 : Int32) (p1 : Int32) (p2 : Int32) (p3 : Int32) (p4 : Int32) (p5 : Int32) (g1 : ¬ p1.toInt64 < (0 : Int64)) (g2 : p1 < (0 : Int32)) : jv_Ms 350 [.ref 178] (jv_H (jx_K 227) (jv_u (jv_u jx_If 180 0 (1 : Int32)) 178 0 (1 : Int32)) jx_L0 (jx_R 227)) 228 1572956 (some (.int (1 : Int32)), (jv_H (jx_K 227) (jv_u (jv_u jx_If 180 0 (1 : Int32)) 178 0 (1 : Int32)) jx_L0 (jx_R 227)), 228, 1572956) := by
  show jv_Ev 350 0 [(0, .ref 178)] [] (jv_H (jx_K 227) (jv_u (jv_u jx_If 180 0 (1 : Int32)) 178 0 (1 : Int32)) jx_L0 (jx_R 227)) 228 1572956 _
  refine jv_Ev.steps jv_i350 1 (pc' := 1) (l' := [(0, .ref 178)]) (st' := [.ref 178]) rfl ?_
  refine jv_Ev.m jv_i350 (pc' := 4) (st' := [.int (1 : Int32)]) rfl rfl (jv_m_getI rfl rfl rfl rfl) ?_
  exact jv_Ev.ret jv_i350 rfl rfl

set_option maxRecDepth 100000 in
/-- the law: case 23, one way -/
theorem jx_l51 (p0 : Int32) (p1 : Int32) (p2 : Int32) (p3 : Int32) (p4 : Int32) (p5 : Int32) (g1 : ¬ p1.toInt64 < (0 : Int64)) (g2 : p1 < (0 : Int32)) (hsw : p0 &&& (31 : Int32) = (23 : Int32)) {p : Program} {l : Launch} {e : Env} {R : Room} {s : State} {m : MethodId} {args : Array Value} {below : List Frame} {meth : Method} {c : Code} {E : jv_Env} {Q : State → Prop} (hTb : jv_TOk jv_Tb) (hT2 : jx_T2Ok) (hl : l.stackTraces = false) (F : jx_F jv_T2 439 E p R s m args meth c) (hZ : jx_Z E s) (hRc : R.cells = 600002) (hRs : R.slots = 7302232) {bb : Nat} {xs : Nat → Int32} (hX : va_X bb 6 xs s E.2.2.2.2) (hbB : bb < E.2.2.2.1) (hE2 : E.1 1000002 = bb) (hQ : ∀ (l0 : jv_L) (G : jv_G) (n sl : Nat), n ≤ 600002 → sl ≤ 7302232 → jw p l e R s m args below meth c E 8 0 0 Q 1532 l0 [.int (1 : Int32)] G n sl) (q0 : xs 0 = p0) (q1 : xs 1 = p1) (q2 : xs 2 = p2) (q3 : xs 3 = p3) (q4 : xs 4 = p4) (q5 : xs 5 = p5) : jw p l e R s m args below meth c E 8 0 0 Q 33 [(0, .ref 1000002), (1, .ref 0), (2, .ref 178), (3, .ref 226), (4, .int (0 : Int32))] [] (jv_H (jx_K 227) jx_If jx_L0 (jx_R 227)) 227 1572950 := by
  refine jw.steps F jx_i439 2 (pc' := 36) (l' := [(0, .ref 1000002), (1, .ref 0), (2, .ref 178), (3, .ref 226), (4, .int (0 : Int32))]) (st' := [.int (0 : Int32), .ref 1000002]) rfl ?_
  refine jw.sld F jx_i439 hX hbB hE2 (pc' := 37) rfl rfl (show vp_in (nI 0) 6 from vp_in_nI (by decide) (by decide)) q0 rfl ?_
  refine jw.steps F jx_i439 2 (pc' := 40) (l' := [(0, .ref 1000002), (1, .ref 0), (2, .ref 178), (3, .ref 226), (4, .int (0 : Int32))]) (st' := [.int (p0 &&& (31 : Int32))]) rfl ?_
  refine jw.br F jx_i439 (pc' := 1296) (st' := []) rfl (by rw [hsw]; rfl) ?_
  refine jw.steps F jx_i439 5 (pc' := 1302) (l' := [(0, .ref 1000002), (1, .ref 0), (2, .ref 178), (3, .ref 226), (4, .int (0 : Int32))]) (st' := [.int (1 : Int32), .ref 1000002, .ref 0]) rfl ?_
  refine jw.sld F jx_i439 hX hbB hE2 (pc' := 1303) rfl rfl (show vp_in (nI 1) 6 from vp_in_nI (by decide) (by decide)) q1 rfl ?_
  refine jw.steps F jx_i439 4 (pc' := 1308) (l' := [(0, .ref 1000002), (1, .ref 0), (2, .ref 178), (3, .ref 226), (4, .int (0 : Int32))]) (st' := [.int (2 : Int32), .ref 1000002, .int p1, .ref 0]) rfl ?_
  refine jw.sld F jx_i439 hX hbB hE2 (pc' := 1309) rfl rfl (show vp_in (nI 2) 6 from vp_in_nI (by decide) (by decide)) q2 rfl ?_
  refine jw.steps F jx_i439 1 (pc' := 1310) (l' := [(0, .ref 1000002), (1, .ref 0), (2, .ref 178), (3, .ref 226), (4, .int (0 : Int32))]) (st' := [.ref 226, .int p2, .int p1, .ref 0]) rfl ?_
  refine jw.wr F hl hZ rfl jx_i439 jx_i455 [.ref 0, .int p1, .int p2, .ref 226] (pc' := 1313) (S' := [.int (1 : Int32)]) rfl (List.mem_of_getElem? (i := 15) rfl) (List.mem_of_getElem? (i := 15) rfl) rfl rfl rfl (jx_w362 hTb hT2 p0 p1 p2 p3 p4 p5 g1 g2) (by omega) (by omega) (by omega) (by omega) rfl rfl ?_
  refine jw.steps F jx_i439 6 (pc' := 1321) (l' := [(5, .int (1 : Int32)), (0, .ref 1000002), (1, .ref 0), (2, .ref 178), (3, .ref 226), (4, .int (0 : Int32))]) (st' := [.int (1 : Int32), .ref 1000002, .ref 178]) rfl ?_
  refine jw.sld F jx_i439 hX hbB hE2 (pc' := 1322) rfl rfl (show vp_in (nI 1) 6 from vp_in_nI (by decide) (by decide)) q1 rfl ?_
  refine jw.steps F jx_i439 4 (pc' := 1327) (l' := [(5, .int (1 : Int32)), (0, .ref 1000002), (1, .ref 0), (2, .ref 178), (3, .ref 226), (4, .int (0 : Int32))]) (st' := [.int (2 : Int32), .ref 1000002, .int p1, .ref 178]) rfl ?_
  refine jw.sld F jx_i439 hX hbB hE2 (pc' := 1328) rfl rfl (show vp_in (nI 2) 6 from vp_in_nI (by decide) (by decide)) q2 rfl ?_
  refine jw.ca hTb F jx_i439 (pc' := 1331) (S' := [.int (0 : Int32)]) rfl jv_i414 [.ref 178, .int p1, .int p2] rfl rfl rfl rfl (jx_cal2 rfl (jv_H_at rfl) rfl rfl) rfl (jx_e366 p0 p1 p2 p3 p4 p5 g1 g2) (by omega) (by omega) rfl rfl ?_
  refine jw.steps F jx_i439 2 (pc' := 1334) (l' := [(6, .int (0 : Int32)), (5, .int (1 : Int32)), (0, .ref 1000002), (1, .ref 0), (2, .ref 178), (3, .ref 226), (4, .int (0 : Int32))]) (st' := [.ref 178]) rfl ?_
  refine jw.ca hTb F jx_i439 (pc' := 1337) (S' := [.int (1 : Int32)]) rfl jv_i350 [.ref 178] rfl rfl rfl rfl (jx_cal2 rfl (jv_H_at rfl) rfl rfl) rfl (jx_e367 p0 p1 p2 p3 p4 p5 g1 g2) (by omega) (by omega) rfl rfl ?_
  refine jw.steps F jx_i439 1 (pc' := 1339) (l' := [(6, .int (0 : Int32)), (5, .int (1 : Int32)), (0, .ref 1000002), (1, .ref 0), (2, .ref 178), (3, .ref 226), (4, .int (0 : Int32))]) (st' := [.int (1 : Int32), .int (1 : Int32)]) rfl ?_
  refine jw.br F jx_i439 (pc' := 1344) (st' := []) rfl (jv_bc_eq.trans (jx_got (by decide))) ?_
  refine jw.steps F jx_i439 1 (pc' := 1346) (l' := [(6, .int (0 : Int32)), (5, .int (1 : Int32)), (0, .ref 1000002), (1, .ref 0), (2, .ref 178), (3, .ref 226), (4, .int (0 : Int32))]) (st' := [.int (1 : Int32)]) rfl ?_
  refine jw.br F jx_i439 (pc' := 1361) (st' := []) rfl (jv_bi_ne.trans (jx_got (by decide))) ?_
  refine jw.steps F jx_i439 5 (pc' := 26) (l' := [(4, .int (6 : Int32)), (6, .int (0 : Int32)), (5, .int (1 : Int32)), (0, .ref 1000002), (1, .ref 0), (2, .ref 178), (3, .ref 226)]) (st' := [.ref 1000002, .int (6 : Int32)]) rfl ?_
  refine jw.slen F jx_i439 hX hbB hE2 (pc' := 27) rfl rfl rfl ?_
  refine jw.steps F jx_i439 2 (pc' := 30) (l' := [(4, .int (6 : Int32)), (6, .int (0 : Int32)), (5, .int (1 : Int32)), (0, .ref 1000002), (1, .ref 0), (2, .ref 178), (3, .ref 226)]) (st' := [.int (0 : Int32), .int (6 : Int32)]) rfl ?_
  refine jw.br F jx_i439 (pc' := 1531) (st' := []) rfl (jv_bc_gt.trans (jx_got (by decide))) ?_
  refine jw.steps F jx_i439 1 (pc' := 1532) (l' := [(4, .int (6 : Int32)), (6, .int (0 : Int32)), (5, .int (1 : Int32)), (0, .ref 1000002), (1, .ref 0), (2, .ref 178), (3, .ref 226)]) (st' := [.int (1 : Int32)]) rfl ?_
  exact hQ _ _ _ _ (by omega) (by omega)

set_option maxRecDepth 100000 in
/-- ProgramBox$Store.map -/
theorem jx_e368 (p0 : Int32) (p1 : Int32) (p2 : Int32) (p3 : Int32) (p4 : Int32) (p5 : Int32) (g1 : ¬ p1.toInt64 < (0 : Int64)) (g2 : ¬ p1 < (0 : Int32)) : jv_Ms 126 [.ref 2, .long p1.toInt64] (jv_H (jx_K 227) jx_If jx_L0 (jx_R 227)) 227 1572950 (some (.null), (jv_H (jx_K 227) jx_If jx_L0 (jx_R 227)), 227, 1572950) := by
  show jv_Ev 126 0 [(0, .ref 2), (1, .long p1.toInt64)] [] (jv_H (jx_K 227) jx_If jx_L0 (jx_R 227)) 227 1572950 _
  refine jv_Ev.steps jv_i126 3 (pc' := 3) (l' := [(0, .ref 2), (1, .long p1.toInt64)]) (st' := [.int (lg_cmp p1.toInt64 (0 : Int64))]) rfl ?_
  refine jv_Ev.br jv_i126 (pc' := 6) (st' := []) rfl (jv_bi_lt.trans (jx_gof (fun h => g1 ((lg_cmp_lt p1.toInt64 (0 : Int64)).mp h)))) ?_
  refine jv_Ev.steps jv_i126 2 (pc' := 8) (l' := [(0, .ref 2), (1, .long p1.toInt64)]) (st' := [.ref 2, .long p1.toInt64]) rfl ?_
  refine jv_Ev.m jv_i126 (pc' := 11) (st' := [.int (0 : Int32), .long p1.toInt64]) rfl rfl (jv_m_getI rfl rfl rfl rfl) ?_
  refine jv_Ev.steps jv_i126 2 (pc' := 13) (l' := [(0, .ref 2), (1, .long p1.toInt64)]) (st' := [.int (lg_cmp p1.toInt64 (0 : Int64))]) rfl ?_
  refine jv_Ev.br jv_i126 (pc' := 16) (st' := []) rfl (jv_bi_lt.trans (jx_gof (fun h => g1 ((lg_cmp_lt p1.toInt64 (0 : Int64)).mp h)))) ?_
  refine jv_Ev.steps jv_i126 2 (pc' := 27) (l' := [(0, .ref 2), (1, .long p1.toInt64)]) (st' := [.null]) rfl ?_
  exact jv_Ev.ret jv_i126 rfl rfl

set_option maxRecDepth 100000 in
/-- ProgramBox.mapOf: it throws -/
theorem jx_e369 (hTb : jv_TOk jv_Tb) (p0 : Int32) (p1 : Int32) (p2 : Int32) (p3 : Int32) (p4 : Int32) (p5 : Int32) (g1 : ¬ p1.toInt64 < (0 : Int64)) (g2 : ¬ p1 < (0 : Int32)) : jx_Th 429 [.ref 0, .int p1] (jv_H (jx_K 227) jx_If jx_L0 (jx_R 227)) 227 1572950 2 (jv_H (jx_K 227) jx_If jx_L0 (jx_R 227)) 228 1572956 := by
  refine jx_Th.of hTb (y := 429) rfl (Nat.le_of_ble_eq_true rfl) ?_
  intro p l e R s m args below meth c E hl F hZ h0 ht hRc hRs
  show jw p l e R s m args below meth c E 3 227 1572950 _ 0 [(0, .ref 0), (1, .int p1)] [] (jv_H (jx_K 227) jx_If jx_L0 (jx_R 227)) 227 1572950
  refine jw.steps F jv_i429 1 (pc' := 1) (l' := [(0, .ref 0), (1, .int p1)]) (st' := [.ref 0]) rfl ?_
  refine jw.me F jv_i429 (pc' := 4) (st' := [.ref 2]) rfl rfl (jv_m_getR rfl rfl rfl rfl) ?_
  refine jw.steps F jv_i429 2 (pc' := 6) (l' := [(0, .ref 0), (1, .int p1)]) (st' := [.long p1.toInt64, .ref 2]) rfl ?_
  refine jw.ca hTb F jv_i429 (pc' := 9) (S' := [.null]) rfl jv_i126 [.ref 2, .long p1.toInt64] rfl rfl rfl rfl (jv_cal rfl (jv_H_at rfl) rfl rfl) rfl (jx_e368 p0 p1 p2 p3 p4 p5 g1 g2) (by omega) (by omega) rfl rfl ?_
  refine jw.steps F jv_i429 2 (pc' := 11) (l' := [(2, .null), (0, .ref 0), (1, .int p1)]) (st' := [.null]) rfl ?_
  refine jw.br F jv_i429 (pc' := 14) (st' := []) rfl rfl ?_
  exact jw.throw hl F hZ h0 rfl jv_i429 ht 2 183 "there is no such map" (List.mem_of_getElem? (i := 11) rfl) (by decide +kernel) (by decide +kernel) (by decide +kernel) (by decide +kernel) (by decide +kernel) rfl (by decide) (by decide) (by decide) (by omega) (by omega)

set_option maxRecDepth 100000 in
/-- ProgramBox.remove: it throws -/
theorem jx_e370 (hTb : jv_TOk jv_Tb) (p0 : Int32) (p1 : Int32) (p2 : Int32) (p3 : Int32) (p4 : Int32) (p5 : Int32) (g1 : ¬ p1.toInt64 < (0 : Int64)) (g2 : ¬ p1 < (0 : Int32)) : jx_Th 436 [.ref 0, .int p1, .int p2] (jv_H (jx_K 227) jx_If jx_L0 (jx_R 227)) 227 1572950 2 (jv_H (jx_K 227) jx_If jx_L0 (jx_R 227)) 228 1572956 := by
  refine jx_Th.of hTb (y := 436) rfl (Nat.le_of_ble_eq_true rfl) ?_
  intro p l e R s m args below meth c E hl F hZ h0 ht hRc hRs
  show jw p l e R s m args below meth c E 4 227 1572950 _ 0 [(0, .ref 0), (1, .int p1), (2, .int p2)] [] (jv_H (jx_K 227) jx_If jx_L0 (jx_R 227)) 227 1572950
  refine jw.steps F jv_i436 2 (pc' := 2) (l' := [(0, .ref 0), (1, .int p1), (2, .int p2)]) (st' := [.int p1, .ref 0]) rfl ?_
  exact jw.prop hTb hl F hZ jv_i436 ht rfl jv_i429 [.ref 0, .int p1] rfl rfl rfl rfl rfl (jv_cal rfl (jv_H_at rfl) rfl rfl) rfl (jx_e369 hTb p0 p1 p2 p3 p4 p5 g1 g2) (by omega) (by omega) (by omega) (by omega)

set_option maxRecDepth 100000 in
/-- the law's remove -/
theorem jx_w371 (hTb : jv_TOk jv_Tb) (hT2 : jx_T2Ok) (p0 : Int32) (p1 : Int32) (p2 : Int32) (p3 : Int32) (p4 : Int32) (p5 : Int32) (g1 : ¬ p1.toInt64 < (0 : Int64)) (g2 : ¬ p1 < (0 : Int32)) : jx_Wr 455 [(0, 10, 13, 36)] [.ref 0, .int p1, .int p2, .ref 226] (jv_H (jx_K 227) jx_If jx_L0 (jx_R 227)) 227 1572950 (some (.int (1 : Int32)), (jv_H (jx_K 227) jx_If jx_L0 (jx_R 227)), 228, 1572956) := by
  refine jx_Wr.of hT2 (by decide) rfl (Nat.le_of_ble_eq_true rfl) ?_
  intro p l e R s m args below meth c E hl F hZ htb hRc hRs
  show jw p l e R s m args below meth c E 5 227 1572950 _ 0 [(0, .ref 0), (1, .int p1), (2, .int p2), (3, .ref 226)] [] (jv_H (jx_K 227) jx_If jx_L0 (jx_R 227)) 227 1572950
  have hRc : R.cells = 228 - 227 := hRc
  have hRs : R.slots = 1572956 - 1572950 := hRs
  refine jw.steps F jx_i455 5 (pc' := 5) (l' := [(0, .ref 0), (1, .int p1), (2, .int p2), (3, .ref 226)]) (st' := [.int p2, .int p1, .ref 0, .int (0 : Int32), .ref 226]) rfl ?_
  refine jw.cat hTb hl F hZ rfl jx_i455 htb rfl jv_i436 [.ref 0, .int p1, .int p2] rfl rfl rfl rfl rfl (jx_cal2 rfl (jv_H_at rfl) rfl rfl) rfl (jx_e370 hTb p0 p1 p2 p3 p4 p5 g1 g2) (by omega) (by omega) (by omega) (by omega) [] (0, 10, 13, 36) [] rfl (fun z h => absurd h List.not_mem_nil) (by decide) rfl rfl (Or.inl ⟨rfl, rfl⟩) (by decide) ?_
  refine jw.steps F jx_i455 1 (pc' := 16) (l' := []) (st' := [.int (1 : Int32)]) rfl ?_
  exact jw.ret F jx_i455 rfl rfl

set_option maxRecDepth 100000 in
/-- ProgramBoxModel$Store.noMap -/
theorem jx_e372 (p0 : Int32) (p1 : Int32) (p2 : Int32) (p3 : Int32) (p4 : Int32) (p5 : Int32) (g1 : ¬ p1.toInt64 < (0 : Int64)) (g2 : ¬ p1 < (0 : Int32)) : jv_Ms 324 [.ref 180, .int p1] (jv_H (jx_K 227) jx_If jx_L0 (jx_R 227)) 228 1572956 (some (.int (1 : Int32)), (jv_H (jx_K 227) (jv_u jx_If 180 0 (1 : Int32)) jx_L0 (jx_R 227)), 228, 1572956) := by
  show jv_Ev 324 0 [(0, .ref 180), (1, .int p1)] [] (jv_H (jx_K 227) jx_If jx_L0 (jx_R 227)) 228 1572956 _
  refine jv_Ev.steps jv_i324 2 (pc' := 2) (l' := [(0, .ref 180), (1, .int p1)]) (st' := [.int p1, .ref 180]) rfl ?_
  refine jv_Ev.br jv_i324 (pc' := 5) (st' := [.ref 180]) rfl (jv_bi_lt.trans (jx_gof g2)) ?_
  refine jv_Ev.steps jv_i324 2 (pc' := 7) (l' := [(0, .ref 180), (1, .int p1)]) (st' := [.ref 180, .int p1, .ref 180]) rfl ?_
  refine jv_Ev.m jv_i324 (pc' := 10) (st' := [.int (0 : Int32), .int p1, .ref 180]) rfl rfl (jv_m_getI rfl rfl rfl rfl) ?_
  refine jv_Ev.br jv_i324 (pc' := 13) (st' := [.ref 180]) rfl (jv_bc_lt.trans (jx_gof g2)) ?_
  refine jv_Ev.steps jv_i324 2 (pc' := 18) (l' := [(0, .ref 180), (1, .int p1)]) (st' := [.int (1 : Int32), .ref 180]) rfl ?_
  refine jv_Ev.m jv_i324 (pc' := 21) (st' := []) rfl rfl (jv_m_putI rfl rfl rfl rfl rfl) ?_
  refine jv_Ev.steps jv_i324 1 (pc' := 22) (l' := [(0, .ref 180), (1, .int p1)]) (st' := [.ref 180]) rfl ?_
  refine jv_Ev.m jv_i324 (pc' := 25) (st' := [.int (1 : Int32)]) rfl rfl (jv_m_getI rfl rfl rfl rfl) ?_
  refine jv_Ev.br jv_i324 (pc' := 28) (st' := []) rfl (jv_bi_le.trans (jx_gof (by decide))) ?_
  refine jv_Ev.steps jv_i324 2 (pc' := 33) (l' := [(0, .ref 180), (1, .int p1)]) (st' := [.int (1 : Int32)]) rfl ?_
  exact jv_Ev.ret jv_i324 rfl (jv_ret_b (by decide))

set_option maxRecDepth 100000 in
/-- ProgramBoxModel$Store.remove -/
theorem jx_e373 (p0 : Int32) (p1 : Int32) (p2 : Int32) (p3 : Int32) (p4 : Int32) (p5 : Int32) (g1 : ¬ p1.toInt64 < (0 : Int64)) (g2 : ¬ p1 < (0 : Int32)) : jv_Ms 342 [.ref 180, .int p1, .int p2] (jv_H (jx_K 227) jx_If jx_L0 (jx_R 227)) 228 1572956 (some (.int (0 : Int32)), (jv_H (jx_K 227) (jv_u jx_If 180 0 (1 : Int32)) jx_L0 (jx_R 227)), 228, 1572956) := by
  show jv_Ev 342 0 [(0, .ref 180), (1, .int p1), (2, .int p2)] [] (jv_H (jx_K 227) jx_If jx_L0 (jx_R 227)) 228 1572956 _
  refine jv_Ev.steps jv_i342 2 (pc' := 2) (l' := [(0, .ref 180), (1, .int p1), (2, .int p2)]) (st' := [.int p1, .ref 180]) rfl ?_
  refine jv_Ev.c jv_i342 (pc' := 5) (S' := [.int (1 : Int32)]) jv_i324 [.ref 180, .int p1] rfl rfl rfl rfl (jv_cal rfl (jv_H_at rfl) rfl rfl) rfl (jx_e372 p0 p1 p2 p3 p4 p5 g1 g2) rfl rfl ?_
  refine jv_Ev.br jv_i342 (pc' := 8) (st' := []) rfl (jv_bi_eq.trans (jx_gof (by decide))) ?_
  refine jv_Ev.steps jv_i342 1 (pc' := 9) (l' := [(0, .ref 180), (1, .int p1), (2, .int p2)]) (st' := [.int (0 : Int32)]) rfl ?_
  exact jv_Ev.ret jv_i342 rfl rfl

set_option maxRecDepth 100000 in
/-- ProgramBoxModel$Store.thrown -/
theorem jx_e374 (p0 : Int32) (p1 : Int32) (p2 : Int32) (p3 : Int32) (p4 : Int32) (p5 : Int32) (g1 : ¬ p1.toInt64 < (0 : Int64)) (g2 : ¬ p1 < (0 : Int32)) : jv_Ms 318 [.ref 180] (jv_H (jx_K 227) (jv_u jx_If 180 0 (1 : Int32)) jx_L0 (jx_R 227)) 228 1572956 (some (.int (1 : Int32)), (jv_H (jx_K 227) (jv_u jx_If 180 0 (1 : Int32)) jx_L0 (jx_R 227)), 228, 1572956) := by
  show jv_Ev 318 0 [(0, .ref 180)] [] (jv_H (jx_K 227) (jv_u jx_If 180 0 (1 : Int32)) jx_L0 (jx_R 227)) 228 1572956 _
  refine jv_Ev.steps jv_i318 1 (pc' := 1) (l' := [(0, .ref 180)]) (st' := [.ref 180]) rfl ?_
  refine jv_Ev.m jv_i318 (pc' := 4) (st' := [.int (1 : Int32)]) rfl rfl (jv_m_getI rfl rfl rfl rfl) ?_
  exact jv_Ev.ret jv_i318 rfl rfl

set_option maxRecDepth 100000 in
/-- ProgramBoxModel.remove -/
theorem jx_e375 (p0 : Int32) (p1 : Int32) (p2 : Int32) (p3 : Int32) (p4 : Int32) (p5 : Int32) (g1 : ¬ p1.toInt64 < (0 : Int64)) (g2 : ¬ p1 < (0 : Int32)) : jv_Ms 414 [.ref 178, .int p1, .int p2] (jv_H (jx_K 227) jx_If jx_L0 (jx_R 227)) 228 1572956 (some (.int (0 : Int32)), (jv_H (jx_K 227) (jv_u (jv_u jx_If 180 0 (1 : Int32)) 178 0 (1 : Int32)) jx_L0 (jx_R 227)), 228, 1572956) := by
  show jv_Ev 414 0 [(0, .ref 178), (1, .int p1), (2, .int p2)] [] (jv_H (jx_K 227) jx_If jx_L0 (jx_R 227)) 228 1572956 _
  refine jv_Ev.steps jv_i414 1 (pc' := 1) (l' := [(0, .ref 178), (1, .int p1), (2, .int p2)]) (st' := [.ref 178]) rfl ?_
  refine jv_Ev.m jv_i414 (pc' := 4) (st' := [.ref 180]) rfl rfl (jv_m_getR rfl rfl rfl rfl) ?_
  refine jv_Ev.steps jv_i414 2 (pc' := 6) (l' := [(0, .ref 178), (1, .int p1), (2, .int p2)]) (st' := [.int p2, .int p1, .ref 180]) rfl ?_
  refine jv_Ev.c jv_i414 (pc' := 9) (S' := [.int (0 : Int32)]) jv_i342 [.ref 180, .int p1, .int p2] rfl rfl rfl rfl (jv_cal rfl (jv_H_at rfl) rfl rfl) rfl (jx_e373 p0 p1 p2 p3 p4 p5 g1 g2) rfl rfl ?_
  refine jv_Ev.steps jv_i414 3 (pc' := 12) (l' := [(3, .int (0 : Int32)), (0, .ref 178), (1, .int p1), (2, .int p2)]) (st' := [.ref 178, .ref 178]) rfl ?_
  refine jv_Ev.m jv_i414 (pc' := 15) (st' := [.ref 180, .ref 178]) rfl rfl (jv_m_getR rfl rfl rfl rfl) ?_
  refine jv_Ev.c jv_i414 (pc' := 18) (S' := [.int (1 : Int32), .ref 178]) jv_i318 [.ref 180] rfl rfl rfl rfl (jv_cal rfl (jv_H_at rfl) rfl rfl) rfl (jx_e374 p0 p1 p2 p3 p4 p5 g1 g2) rfl rfl ?_
  refine jv_Ev.m jv_i414 (pc' := 21) (st' := []) rfl rfl (jv_m_putI rfl rfl rfl rfl rfl) ?_
  refine jv_Ev.steps jv_i414 1 (pc' := 22) (l' := [(3, .int (0 : Int32)), (0, .ref 178), (1, .int p1), (2, .int p2)]) (st' := [.int (0 : Int32)]) rfl ?_
  exact jv_Ev.ret jv_i414 rfl rfl

set_option maxRecDepth 100000 in
/-- ProgramBoxModel.thrown -/
theorem jx_e376 (p0 : Int32) (p1 : Int32) (p2 : Int32) (p3 : Int32) (p4 : Int32) (p5 : Int32) (g1 : ¬ p1.toInt64 < (0 : Int64)) (g2 : ¬ p1 < (0 : Int32)) : jv_Ms 350 [.ref 178] (jv_H (jx_K 227) (jv_u (jv_u jx_If 180 0 (1 : Int32)) 178 0 (1 : Int32)) jx_L0 (jx_R 227)) 228 1572956 (some (.int (1 : Int32)), (jv_H (jx_K 227) (jv_u (jv_u jx_If 180 0 (1 : Int32)) 178 0 (1 : Int32)) jx_L0 (jx_R 227)), 228, 1572956) := by
  show jv_Ev 350 0 [(0, .ref 178)] [] (jv_H (jx_K 227) (jv_u (jv_u jx_If 180 0 (1 : Int32)) 178 0 (1 : Int32)) jx_L0 (jx_R 227)) 228 1572956 _
  refine jv_Ev.steps jv_i350 1 (pc' := 1) (l' := [(0, .ref 178)]) (st' := [.ref 178]) rfl ?_
  refine jv_Ev.m jv_i350 (pc' := 4) (st' := [.int (1 : Int32)]) rfl rfl (jv_m_getI rfl rfl rfl rfl) ?_
  exact jv_Ev.ret jv_i350 rfl rfl

set_option maxRecDepth 100000 in
/-- the law: case 23, one way -/
theorem jx_l52 (p0 : Int32) (p1 : Int32) (p2 : Int32) (p3 : Int32) (p4 : Int32) (p5 : Int32) (g1 : ¬ p1.toInt64 < (0 : Int64)) (g2 : ¬ p1 < (0 : Int32)) (hsw : p0 &&& (31 : Int32) = (23 : Int32)) {p : Program} {l : Launch} {e : Env} {R : Room} {s : State} {m : MethodId} {args : Array Value} {below : List Frame} {meth : Method} {c : Code} {E : jv_Env} {Q : State → Prop} (hTb : jv_TOk jv_Tb) (hT2 : jx_T2Ok) (hl : l.stackTraces = false) (F : jx_F jv_T2 439 E p R s m args meth c) (hZ : jx_Z E s) (hRc : R.cells = 600002) (hRs : R.slots = 7302232) {bb : Nat} {xs : Nat → Int32} (hX : va_X bb 6 xs s E.2.2.2.2) (hbB : bb < E.2.2.2.1) (hE2 : E.1 1000002 = bb) (hQ : ∀ (l0 : jv_L) (G : jv_G) (n sl : Nat), n ≤ 600002 → sl ≤ 7302232 → jw p l e R s m args below meth c E 8 0 0 Q 1532 l0 [.int (1 : Int32)] G n sl) (q0 : xs 0 = p0) (q1 : xs 1 = p1) (q2 : xs 2 = p2) (q3 : xs 3 = p3) (q4 : xs 4 = p4) (q5 : xs 5 = p5) : jw p l e R s m args below meth c E 8 0 0 Q 33 [(0, .ref 1000002), (1, .ref 0), (2, .ref 178), (3, .ref 226), (4, .int (0 : Int32))] [] (jv_H (jx_K 227) jx_If jx_L0 (jx_R 227)) 227 1572950 := by
  refine jw.steps F jx_i439 2 (pc' := 36) (l' := [(0, .ref 1000002), (1, .ref 0), (2, .ref 178), (3, .ref 226), (4, .int (0 : Int32))]) (st' := [.int (0 : Int32), .ref 1000002]) rfl ?_
  refine jw.sld F jx_i439 hX hbB hE2 (pc' := 37) rfl rfl (show vp_in (nI 0) 6 from vp_in_nI (by decide) (by decide)) q0 rfl ?_
  refine jw.steps F jx_i439 2 (pc' := 40) (l' := [(0, .ref 1000002), (1, .ref 0), (2, .ref 178), (3, .ref 226), (4, .int (0 : Int32))]) (st' := [.int (p0 &&& (31 : Int32))]) rfl ?_
  refine jw.br F jx_i439 (pc' := 1296) (st' := []) rfl (by rw [hsw]; rfl) ?_
  refine jw.steps F jx_i439 5 (pc' := 1302) (l' := [(0, .ref 1000002), (1, .ref 0), (2, .ref 178), (3, .ref 226), (4, .int (0 : Int32))]) (st' := [.int (1 : Int32), .ref 1000002, .ref 0]) rfl ?_
  refine jw.sld F jx_i439 hX hbB hE2 (pc' := 1303) rfl rfl (show vp_in (nI 1) 6 from vp_in_nI (by decide) (by decide)) q1 rfl ?_
  refine jw.steps F jx_i439 4 (pc' := 1308) (l' := [(0, .ref 1000002), (1, .ref 0), (2, .ref 178), (3, .ref 226), (4, .int (0 : Int32))]) (st' := [.int (2 : Int32), .ref 1000002, .int p1, .ref 0]) rfl ?_
  refine jw.sld F jx_i439 hX hbB hE2 (pc' := 1309) rfl rfl (show vp_in (nI 2) 6 from vp_in_nI (by decide) (by decide)) q2 rfl ?_
  refine jw.steps F jx_i439 1 (pc' := 1310) (l' := [(0, .ref 1000002), (1, .ref 0), (2, .ref 178), (3, .ref 226), (4, .int (0 : Int32))]) (st' := [.ref 226, .int p2, .int p1, .ref 0]) rfl ?_
  refine jw.wr F hl hZ rfl jx_i439 jx_i455 [.ref 0, .int p1, .int p2, .ref 226] (pc' := 1313) (S' := [.int (1 : Int32)]) rfl (List.mem_of_getElem? (i := 15) rfl) (List.mem_of_getElem? (i := 15) rfl) rfl rfl rfl (jx_w371 hTb hT2 p0 p1 p2 p3 p4 p5 g1 g2) (by omega) (by omega) (by omega) (by omega) rfl rfl ?_
  refine jw.steps F jx_i439 6 (pc' := 1321) (l' := [(5, .int (1 : Int32)), (0, .ref 1000002), (1, .ref 0), (2, .ref 178), (3, .ref 226), (4, .int (0 : Int32))]) (st' := [.int (1 : Int32), .ref 1000002, .ref 178]) rfl ?_
  refine jw.sld F jx_i439 hX hbB hE2 (pc' := 1322) rfl rfl (show vp_in (nI 1) 6 from vp_in_nI (by decide) (by decide)) q1 rfl ?_
  refine jw.steps F jx_i439 4 (pc' := 1327) (l' := [(5, .int (1 : Int32)), (0, .ref 1000002), (1, .ref 0), (2, .ref 178), (3, .ref 226), (4, .int (0 : Int32))]) (st' := [.int (2 : Int32), .ref 1000002, .int p1, .ref 178]) rfl ?_
  refine jw.sld F jx_i439 hX hbB hE2 (pc' := 1328) rfl rfl (show vp_in (nI 2) 6 from vp_in_nI (by decide) (by decide)) q2 rfl ?_
  refine jw.ca hTb F jx_i439 (pc' := 1331) (S' := [.int (0 : Int32)]) rfl jv_i414 [.ref 178, .int p1, .int p2] rfl rfl rfl rfl (jx_cal2 rfl (jv_H_at rfl) rfl rfl) rfl (jx_e375 p0 p1 p2 p3 p4 p5 g1 g2) (by omega) (by omega) rfl rfl ?_
  refine jw.steps F jx_i439 2 (pc' := 1334) (l' := [(6, .int (0 : Int32)), (5, .int (1 : Int32)), (0, .ref 1000002), (1, .ref 0), (2, .ref 178), (3, .ref 226), (4, .int (0 : Int32))]) (st' := [.ref 178]) rfl ?_
  refine jw.ca hTb F jx_i439 (pc' := 1337) (S' := [.int (1 : Int32)]) rfl jv_i350 [.ref 178] rfl rfl rfl rfl (jx_cal2 rfl (jv_H_at rfl) rfl rfl) rfl (jx_e376 p0 p1 p2 p3 p4 p5 g1 g2) (by omega) (by omega) rfl rfl ?_
  refine jw.steps F jx_i439 1 (pc' := 1339) (l' := [(6, .int (0 : Int32)), (5, .int (1 : Int32)), (0, .ref 1000002), (1, .ref 0), (2, .ref 178), (3, .ref 226), (4, .int (0 : Int32))]) (st' := [.int (1 : Int32), .int (1 : Int32)]) rfl ?_
  refine jw.br F jx_i439 (pc' := 1344) (st' := []) rfl (jv_bc_eq.trans (jx_got (by decide))) ?_
  refine jw.steps F jx_i439 1 (pc' := 1346) (l' := [(6, .int (0 : Int32)), (5, .int (1 : Int32)), (0, .ref 1000002), (1, .ref 0), (2, .ref 178), (3, .ref 226), (4, .int (0 : Int32))]) (st' := [.int (1 : Int32)]) rfl ?_
  refine jw.br F jx_i439 (pc' := 1361) (st' := []) rfl (jv_bi_ne.trans (jx_got (by decide))) ?_
  refine jw.steps F jx_i439 5 (pc' := 26) (l' := [(4, .int (6 : Int32)), (6, .int (0 : Int32)), (5, .int (1 : Int32)), (0, .ref 1000002), (1, .ref 0), (2, .ref 178), (3, .ref 226)]) (st' := [.ref 1000002, .int (6 : Int32)]) rfl ?_
  refine jw.slen F jx_i439 hX hbB hE2 (pc' := 27) rfl rfl rfl ?_
  refine jw.steps F jx_i439 2 (pc' := 30) (l' := [(4, .int (6 : Int32)), (6, .int (0 : Int32)), (5, .int (1 : Int32)), (0, .ref 1000002), (1, .ref 0), (2, .ref 178), (3, .ref 226)]) (st' := [.int (0 : Int32), .int (6 : Int32)]) rfl ?_
  refine jw.br F jx_i439 (pc' := 1531) (st' := []) rfl (jv_bc_gt.trans (jx_got (by decide))) ?_
  refine jw.steps F jx_i439 1 (pc' := 1532) (l' := [(4, .int (6 : Int32)), (6, .int (0 : Int32)), (5, .int (1 : Int32)), (0, .ref 1000002), (1, .ref 0), (2, .ref 178), (3, .ref 226)]) (st' := [.int (1 : Int32)]) rfl ?_
  exact hQ _ _ _ _ (by omega) (by omega)

set_option maxRecDepth 100000 in
/-- the law: case 23 -/
theorem jx_case23 (p0 : Int32) (p1 : Int32) (p2 : Int32) (p3 : Int32) (p4 : Int32) (p5 : Int32) (hsw : p0 &&& (31 : Int32) = (23 : Int32)) {p : Program} {l : Launch} {e : Env} {R : Room} {s : State} {m : MethodId} {args : Array Value} {below : List Frame} {meth : Method} {c : Code} {E : jv_Env} {Q : State → Prop} (hTb : jv_TOk jv_Tb) (hT2 : jx_T2Ok) (hl : l.stackTraces = false) (F : jx_F jv_T2 439 E p R s m args meth c) (hZ : jx_Z E s) (hRc : R.cells = 600002) (hRs : R.slots = 7302232) {bb : Nat} {xs : Nat → Int32} (hX : va_X bb 6 xs s E.2.2.2.2) (hbB : bb < E.2.2.2.1) (hE2 : E.1 1000002 = bb) (hQ : ∀ (l0 : jv_L) (G : jv_G) (n sl : Nat), n ≤ 600002 → sl ≤ 7302232 → jw p l e R s m args below meth c E 8 0 0 Q 1532 l0 [.int (1 : Int32)] G n sl) (q0 : xs 0 = p0) (q1 : xs 1 = p1) (q2 : xs 2 = p2) (q3 : xs 3 = p3) (q4 : xs 4 = p4) (q5 : xs 5 = p5) : jw p l e R s m args below meth c E 8 0 0 Q 33 [(0, .ref 1000002), (1, .ref 0), (2, .ref 178), (3, .ref 226), (4, .int (0 : Int32))] [] (jv_H (jx_K 227) jx_If jx_L0 (jx_R 227)) 227 1572950 := by
  by_cases g1 : p1.toInt64 < (0 : Int64)
  · by_cases g2 : p1 < (0 : Int32)
    · exact jx_l49 p0 p1 p2 p3 p4 p5 g1 g2 hsw hTb hT2 hl F hZ hRc hRs hX hbB hE2 hQ q0 q1 q2 q3 q4 q5
    · exact jx_l50 p0 p1 p2 p3 p4 p5 g1 g2 hsw hTb hT2 hl F hZ hRc hRs hX hbB hE2 hQ q0 q1 q2 q3 q4 q5
  · by_cases g2 : p1 < (0 : Int32)
    · exact jx_l51 p0 p1 p2 p3 p4 p5 g1 g2 hsw hTb hT2 hl F hZ hRc hRs hX hbB hE2 hQ q0 q1 q2 q3 q4 q5
    · exact jx_l52 p0 p1 p2 p3 p4 p5 g1 g2 hsw hTb hT2 hl F hZ hRc hRs hX hbB hE2 hQ q0 q1 q2 q3 q4 q5

set_option maxRecDepth 100000 in
theorem jx_i456 : jx_I jv_T2 456 5 (some .int) 8 136 jv_c456 := ⟨rfl, rfl, rfl, rfl, rfl⟩
set_option maxRecDepth 100000 in
theorem jv_i437 : jv_I 437 5 (some .int) 7 112 jv_c437 := ⟨rfl, rfl, rfl, rfl, rfl⟩
set_option maxRecDepth 100000 in
/-- ProgramBox$Store.map -/
theorem jx_e381 (p0 : Int32) (p1 : Int32) (p2 : Int32) (p3 : Int32) (p4 : Int32) (p5 : Int32) (g1 : p1.toInt64 < (0 : Int64)) (g2 : p1 < (0 : Int32)) : jv_Ms 126 [.ref 2, .long p1.toInt64] (jv_H (jx_K 227) jx_If jx_L0 (jx_R 227)) 227 1572950 (some (.null), (jv_H (jx_K 227) jx_If jx_L0 (jx_R 227)), 227, 1572950) := by
  show jv_Ev 126 0 [(0, .ref 2), (1, .long p1.toInt64)] [] (jv_H (jx_K 227) jx_If jx_L0 (jx_R 227)) 227 1572950 _
  refine jv_Ev.steps jv_i126 3 (pc' := 3) (l' := [(0, .ref 2), (1, .long p1.toInt64)]) (st' := [.int (lg_cmp p1.toInt64 (0 : Int64))]) rfl ?_
  refine jv_Ev.br jv_i126 (pc' := 16) (st' := []) rfl (jv_bi_lt.trans (jx_got ((lg_cmp_lt p1.toInt64 (0 : Int64)).mpr g1))) ?_
  refine jv_Ev.steps jv_i126 2 (pc' := 27) (l' := [(0, .ref 2), (1, .long p1.toInt64)]) (st' := [.null]) rfl ?_
  exact jv_Ev.ret jv_i126 rfl rfl

set_option maxRecDepth 100000 in
/-- ProgramBox.mapOf: it throws -/
theorem jx_e382 (hTb : jv_TOk jv_Tb) (p0 : Int32) (p1 : Int32) (p2 : Int32) (p3 : Int32) (p4 : Int32) (p5 : Int32) (g1 : p1.toInt64 < (0 : Int64)) (g2 : p1 < (0 : Int32)) : jx_Th 429 [.ref 0, .int p1] (jv_H (jx_K 227) jx_If jx_L0 (jx_R 227)) 227 1572950 2 (jv_H (jx_K 227) jx_If jx_L0 (jx_R 227)) 228 1572956 := by
  refine jx_Th.of hTb (y := 429) rfl (Nat.le_of_ble_eq_true rfl) ?_
  intro p l e R s m args below meth c E hl F hZ h0 ht hRc hRs
  show jw p l e R s m args below meth c E 3 227 1572950 _ 0 [(0, .ref 0), (1, .int p1)] [] (jv_H (jx_K 227) jx_If jx_L0 (jx_R 227)) 227 1572950
  refine jw.steps F jv_i429 1 (pc' := 1) (l' := [(0, .ref 0), (1, .int p1)]) (st' := [.ref 0]) rfl ?_
  refine jw.me F jv_i429 (pc' := 4) (st' := [.ref 2]) rfl rfl (jv_m_getR rfl rfl rfl rfl) ?_
  refine jw.steps F jv_i429 2 (pc' := 6) (l' := [(0, .ref 0), (1, .int p1)]) (st' := [.long p1.toInt64, .ref 2]) rfl ?_
  refine jw.ca hTb F jv_i429 (pc' := 9) (S' := [.null]) rfl jv_i126 [.ref 2, .long p1.toInt64] rfl rfl rfl rfl (jv_cal rfl (jv_H_at rfl) rfl rfl) rfl (jx_e381 p0 p1 p2 p3 p4 p5 g1 g2) (by omega) (by omega) rfl rfl ?_
  refine jw.steps F jv_i429 2 (pc' := 11) (l' := [(2, .null), (0, .ref 0), (1, .int p1)]) (st' := [.null]) rfl ?_
  refine jw.br F jv_i429 (pc' := 14) (st' := []) rfl rfl ?_
  exact jw.throw hl F hZ h0 rfl jv_i429 ht 2 183 "there is no such map" (List.mem_of_getElem? (i := 11) rfl) (by decide +kernel) (by decide +kernel) (by decide +kernel) (by decide +kernel) (by decide +kernel) rfl (by decide) (by decide) (by decide) (by omega) (by omega)

set_option maxRecDepth 100000 in
/-- ProgramBox.take: it throws -/
theorem jx_e383 (hTb : jv_TOk jv_Tb) (p0 : Int32) (p1 : Int32) (p2 : Int32) (p3 : Int32) (p4 : Int32) (p5 : Int32) (g1 : p1.toInt64 < (0 : Int64)) (g2 : p1 < (0 : Int32)) : jx_Th 437 [.ref 0, .int p1, .int p2] (jv_H (jx_K 227) jx_If jx_L0 (jx_R 227)) 227 1572950 2 (jv_H (jx_K 227) jx_If jx_L0 (jx_R 227)) 228 1572956 := by
  refine jx_Th.of hTb (y := 437) rfl (Nat.le_of_ble_eq_true rfl) ?_
  intro p l e R s m args below meth c E hl F hZ h0 ht hRc hRs
  show jw p l e R s m args below meth c E 5 227 1572950 _ 0 [(0, .ref 0), (1, .int p1), (2, .int p2)] [] (jv_H (jx_K 227) jx_If jx_L0 (jx_R 227)) 227 1572950
  refine jw.steps F jv_i437 2 (pc' := 2) (l' := [(0, .ref 0), (1, .int p1), (2, .int p2)]) (st' := [.int p1, .ref 0]) rfl ?_
  exact jw.prop hTb hl F hZ jv_i437 ht rfl jv_i429 [.ref 0, .int p1] rfl rfl rfl rfl rfl (jv_cal rfl (jv_H_at rfl) rfl rfl) rfl (jx_e382 hTb p0 p1 p2 p3 p4 p5 g1 g2) (by omega) (by omega) (by omega) (by omega)

set_option maxRecDepth 100000 in
/-- the law's take -/
theorem jx_w384 (hTb : jv_TOk jv_Tb) (hT2 : jx_T2Ok) (p0 : Int32) (p1 : Int32) (p2 : Int32) (p3 : Int32) (p4 : Int32) (p5 : Int32) (g1 : p1.toInt64 < (0 : Int64)) (g2 : p1 < (0 : Int32)) : jx_Wr 456 [(0, 10, 13, 36)] [.ref 0, .int p1, .int p2, .ref 226] (jv_H (jx_K 227) jx_If jx_L0 (jx_R 227)) 227 1572950 (some (.int (1 : Int32)), (jv_H (jx_K 227) jx_If jx_L0 (jx_R 227)), 228, 1572956) := by
  refine jx_Wr.of hT2 (by decide) rfl (Nat.le_of_ble_eq_true rfl) ?_
  intro p l e R s m args below meth c E hl F hZ htb hRc hRs
  show jw p l e R s m args below meth c E 5 227 1572950 _ 0 [(0, .ref 0), (1, .int p1), (2, .int p2), (3, .ref 226)] [] (jv_H (jx_K 227) jx_If jx_L0 (jx_R 227)) 227 1572950
  have hRc : R.cells = 228 - 227 := hRc
  have hRs : R.slots = 1572956 - 1572950 := hRs
  refine jw.steps F jx_i456 5 (pc' := 5) (l' := [(0, .ref 0), (1, .int p1), (2, .int p2), (3, .ref 226)]) (st' := [.int p2, .int p1, .ref 0, .int (0 : Int32), .ref 226]) rfl ?_
  refine jw.cat hTb hl F hZ rfl jx_i456 htb rfl jv_i437 [.ref 0, .int p1, .int p2] rfl rfl rfl rfl rfl (jx_cal2 rfl (jv_H_at rfl) rfl rfl) rfl (jx_e383 hTb p0 p1 p2 p3 p4 p5 g1 g2) (by omega) (by omega) (by omega) (by omega) [] (0, 10, 13, 36) [] rfl (fun z h => absurd h List.not_mem_nil) (by decide) rfl rfl (Or.inl ⟨rfl, rfl⟩) (by decide) ?_
  refine jw.steps F jx_i456 1 (pc' := 16) (l' := []) (st' := [.int (1 : Int32)]) rfl ?_
  exact jw.ret F jx_i456 rfl rfl

set_option maxRecDepth 100000 in
theorem jv_i415 : jv_I 415 4 (some .int) 3 75 jv_c415 := ⟨rfl, rfl, rfl, rfl, rfl⟩
set_option maxRecDepth 100000 in
theorem jv_i347 : jv_I 347 7 (some .int) 2 49 jv_c347 := ⟨rfl, rfl, rfl, rfl, rfl⟩
set_option maxRecDepth 100000 in
/-- ProgramBoxModel$Store.noMap -/
theorem jx_e385 (p0 : Int32) (p1 : Int32) (p2 : Int32) (p3 : Int32) (p4 : Int32) (p5 : Int32) (g1 : p1.toInt64 < (0 : Int64)) (g2 : p1 < (0 : Int32)) : jv_Ms 324 [.ref 180, .int p1] (jv_H (jx_K 227) jx_If jx_L0 (jx_R 227)) 228 1572956 (some (.int (1 : Int32)), (jv_H (jx_K 227) (jv_u jx_If 180 0 (1 : Int32)) jx_L0 (jx_R 227)), 228, 1572956) := by
  show jv_Ev 324 0 [(0, .ref 180), (1, .int p1)] [] (jv_H (jx_K 227) jx_If jx_L0 (jx_R 227)) 228 1572956 _
  refine jv_Ev.steps jv_i324 2 (pc' := 2) (l' := [(0, .ref 180), (1, .int p1)]) (st' := [.int p1, .ref 180]) rfl ?_
  refine jv_Ev.br jv_i324 (pc' := 13) (st' := [.ref 180]) rfl (jv_bi_lt.trans (jx_got g2)) ?_
  refine jv_Ev.steps jv_i324 2 (pc' := 18) (l' := [(0, .ref 180), (1, .int p1)]) (st' := [.int (1 : Int32), .ref 180]) rfl ?_
  refine jv_Ev.m jv_i324 (pc' := 21) (st' := []) rfl rfl (jv_m_putI rfl rfl rfl rfl rfl) ?_
  refine jv_Ev.steps jv_i324 1 (pc' := 22) (l' := [(0, .ref 180), (1, .int p1)]) (st' := [.ref 180]) rfl ?_
  refine jv_Ev.m jv_i324 (pc' := 25) (st' := [.int (1 : Int32)]) rfl rfl (jv_m_getI rfl rfl rfl rfl) ?_
  refine jv_Ev.br jv_i324 (pc' := 28) (st' := []) rfl (jv_bi_le.trans (jx_gof (by decide))) ?_
  refine jv_Ev.steps jv_i324 2 (pc' := 33) (l' := [(0, .ref 180), (1, .int p1)]) (st' := [.int (1 : Int32)]) rfl ?_
  exact jv_Ev.ret jv_i324 rfl (jv_ret_b (by decide))

set_option maxRecDepth 100000 in
/-- ProgramBoxModel$Store.take -/
theorem jx_e386 (p0 : Int32) (p1 : Int32) (p2 : Int32) (p3 : Int32) (p4 : Int32) (p5 : Int32) (g1 : p1.toInt64 < (0 : Int64)) (g2 : p1 < (0 : Int32)) : jv_Ms 347 [.ref 180, .int p1, .int p2] (jv_H (jx_K 227) jx_If jx_L0 (jx_R 227)) 228 1572956 (some (.int (0 : Int32)), (jv_H (jx_K 227) (jv_u jx_If 180 0 (1 : Int32)) jx_L0 (jx_R 227)), 228, 1572956) := by
  show jv_Ev 347 0 [(0, .ref 180), (1, .int p1), (2, .int p2)] [] (jv_H (jx_K 227) jx_If jx_L0 (jx_R 227)) 228 1572956 _
  refine jv_Ev.steps jv_i347 2 (pc' := 2) (l' := [(0, .ref 180), (1, .int p1), (2, .int p2)]) (st' := [.int p1, .ref 180]) rfl ?_
  refine jv_Ev.c jv_i347 (pc' := 5) (S' := [.int (1 : Int32)]) jv_i324 [.ref 180, .int p1] rfl rfl rfl rfl (jv_cal rfl (jv_H_at rfl) rfl rfl) rfl (jx_e385 p0 p1 p2 p3 p4 p5 g1 g2) rfl rfl ?_
  refine jv_Ev.br jv_i347 (pc' := 8) (st' := []) rfl (jv_bi_eq.trans (jx_gof (by decide))) ?_
  refine jv_Ev.steps jv_i347 1 (pc' := 9) (l' := [(0, .ref 180), (1, .int p1), (2, .int p2)]) (st' := [.int (0 : Int32)]) rfl ?_
  exact jv_Ev.ret jv_i347 rfl rfl

set_option maxRecDepth 100000 in
/-- ProgramBoxModel$Store.thrown -/
theorem jx_e387 (p0 : Int32) (p1 : Int32) (p2 : Int32) (p3 : Int32) (p4 : Int32) (p5 : Int32) (g1 : p1.toInt64 < (0 : Int64)) (g2 : p1 < (0 : Int32)) : jv_Ms 318 [.ref 180] (jv_H (jx_K 227) (jv_u jx_If 180 0 (1 : Int32)) jx_L0 (jx_R 227)) 228 1572956 (some (.int (1 : Int32)), (jv_H (jx_K 227) (jv_u jx_If 180 0 (1 : Int32)) jx_L0 (jx_R 227)), 228, 1572956) := by
  show jv_Ev 318 0 [(0, .ref 180)] [] (jv_H (jx_K 227) (jv_u jx_If 180 0 (1 : Int32)) jx_L0 (jx_R 227)) 228 1572956 _
  refine jv_Ev.steps jv_i318 1 (pc' := 1) (l' := [(0, .ref 180)]) (st' := [.ref 180]) rfl ?_
  refine jv_Ev.m jv_i318 (pc' := 4) (st' := [.int (1 : Int32)]) rfl rfl (jv_m_getI rfl rfl rfl rfl) ?_
  exact jv_Ev.ret jv_i318 rfl rfl

set_option maxRecDepth 100000 in
/-- ProgramBoxModel.take -/
theorem jx_e388 (p0 : Int32) (p1 : Int32) (p2 : Int32) (p3 : Int32) (p4 : Int32) (p5 : Int32) (g1 : p1.toInt64 < (0 : Int64)) (g2 : p1 < (0 : Int32)) : jv_Ms 415 [.ref 178, .int p1, .int p2] (jv_H (jx_K 227) jx_If jx_L0 (jx_R 227)) 228 1572956 (some (.int (0 : Int32)), (jv_H (jx_K 227) (jv_u (jv_u jx_If 180 0 (1 : Int32)) 178 0 (1 : Int32)) jx_L0 (jx_R 227)), 228, 1572956) := by
  show jv_Ev 415 0 [(0, .ref 178), (1, .int p1), (2, .int p2)] [] (jv_H (jx_K 227) jx_If jx_L0 (jx_R 227)) 228 1572956 _
  refine jv_Ev.steps jv_i415 1 (pc' := 1) (l' := [(0, .ref 178), (1, .int p1), (2, .int p2)]) (st' := [.ref 178]) rfl ?_
  refine jv_Ev.m jv_i415 (pc' := 4) (st' := [.ref 180]) rfl rfl (jv_m_getR rfl rfl rfl rfl) ?_
  refine jv_Ev.steps jv_i415 2 (pc' := 6) (l' := [(0, .ref 178), (1, .int p1), (2, .int p2)]) (st' := [.int p2, .int p1, .ref 180]) rfl ?_
  refine jv_Ev.c jv_i415 (pc' := 9) (S' := [.int (0 : Int32)]) jv_i347 [.ref 180, .int p1, .int p2] rfl rfl rfl rfl (jv_cal rfl (jv_H_at rfl) rfl rfl) rfl (jx_e386 p0 p1 p2 p3 p4 p5 g1 g2) rfl rfl ?_
  refine jv_Ev.steps jv_i415 3 (pc' := 12) (l' := [(3, .int (0 : Int32)), (0, .ref 178), (1, .int p1), (2, .int p2)]) (st' := [.ref 178, .ref 178]) rfl ?_
  refine jv_Ev.m jv_i415 (pc' := 15) (st' := [.ref 180, .ref 178]) rfl rfl (jv_m_getR rfl rfl rfl rfl) ?_
  refine jv_Ev.c jv_i415 (pc' := 18) (S' := [.int (1 : Int32), .ref 178]) jv_i318 [.ref 180] rfl rfl rfl rfl (jv_cal rfl (jv_H_at rfl) rfl rfl) rfl (jx_e387 p0 p1 p2 p3 p4 p5 g1 g2) rfl rfl ?_
  refine jv_Ev.m jv_i415 (pc' := 21) (st' := []) rfl rfl (jv_m_putI rfl rfl rfl rfl rfl) ?_
  refine jv_Ev.steps jv_i415 1 (pc' := 22) (l' := [(3, .int (0 : Int32)), (0, .ref 178), (1, .int p1), (2, .int p2)]) (st' := [.int (0 : Int32)]) rfl ?_
  exact jv_Ev.ret jv_i415 rfl rfl

set_option maxRecDepth 100000 in
/-- ProgramBoxModel.thrown -/
theorem jx_e389 (p0 : Int32) (p1 : Int32) (p2 : Int32) (p3 : Int32) (p4 : Int32) (p5 : Int32) (g1 : p1.toInt64 < (0 : Int64)) (g2 : p1 < (0 : Int32)) : jv_Ms 350 [.ref 178] (jv_H (jx_K 227) (jv_u (jv_u jx_If 180 0 (1 : Int32)) 178 0 (1 : Int32)) jx_L0 (jx_R 227)) 228 1572956 (some (.int (1 : Int32)), (jv_H (jx_K 227) (jv_u (jv_u jx_If 180 0 (1 : Int32)) 178 0 (1 : Int32)) jx_L0 (jx_R 227)), 228, 1572956) := by
  show jv_Ev 350 0 [(0, .ref 178)] [] (jv_H (jx_K 227) (jv_u (jv_u jx_If 180 0 (1 : Int32)) 178 0 (1 : Int32)) jx_L0 (jx_R 227)) 228 1572956 _
  refine jv_Ev.steps jv_i350 1 (pc' := 1) (l' := [(0, .ref 178)]) (st' := [.ref 178]) rfl ?_
  refine jv_Ev.m jv_i350 (pc' := 4) (st' := [.int (1 : Int32)]) rfl rfl (jv_m_getI rfl rfl rfl rfl) ?_
  exact jv_Ev.ret jv_i350 rfl rfl

set_option maxRecDepth 100000 in
/-- the law: case 24, one way -/
theorem jx_l53 (p0 : Int32) (p1 : Int32) (p2 : Int32) (p3 : Int32) (p4 : Int32) (p5 : Int32) (g1 : p1.toInt64 < (0 : Int64)) (g2 : p1 < (0 : Int32)) (hsw : p0 &&& (31 : Int32) = (24 : Int32)) {p : Program} {l : Launch} {e : Env} {R : Room} {s : State} {m : MethodId} {args : Array Value} {below : List Frame} {meth : Method} {c : Code} {E : jv_Env} {Q : State → Prop} (hTb : jv_TOk jv_Tb) (hT2 : jx_T2Ok) (hl : l.stackTraces = false) (F : jx_F jv_T2 439 E p R s m args meth c) (hZ : jx_Z E s) (hRc : R.cells = 600002) (hRs : R.slots = 7302232) {bb : Nat} {xs : Nat → Int32} (hX : va_X bb 6 xs s E.2.2.2.2) (hbB : bb < E.2.2.2.1) (hE2 : E.1 1000002 = bb) (hQ : ∀ (l0 : jv_L) (G : jv_G) (n sl : Nat), n ≤ 600002 → sl ≤ 7302232 → jw p l e R s m args below meth c E 8 0 0 Q 1532 l0 [.int (1 : Int32)] G n sl) (q0 : xs 0 = p0) (q1 : xs 1 = p1) (q2 : xs 2 = p2) (q3 : xs 3 = p3) (q4 : xs 4 = p4) (q5 : xs 5 = p5) : jw p l e R s m args below meth c E 8 0 0 Q 33 [(0, .ref 1000002), (1, .ref 0), (2, .ref 178), (3, .ref 226), (4, .int (0 : Int32))] [] (jv_H (jx_K 227) jx_If jx_L0 (jx_R 227)) 227 1572950 := by
  refine jw.steps F jx_i439 2 (pc' := 36) (l' := [(0, .ref 1000002), (1, .ref 0), (2, .ref 178), (3, .ref 226), (4, .int (0 : Int32))]) (st' := [.int (0 : Int32), .ref 1000002]) rfl ?_
  refine jw.sld F jx_i439 hX hbB hE2 (pc' := 37) rfl rfl (show vp_in (nI 0) 6 from vp_in_nI (by decide) (by decide)) q0 rfl ?_
  refine jw.steps F jx_i439 2 (pc' := 40) (l' := [(0, .ref 1000002), (1, .ref 0), (2, .ref 178), (3, .ref 226), (4, .int (0 : Int32))]) (st' := [.int (p0 &&& (31 : Int32))]) rfl ?_
  refine jw.br F jx_i439 (pc' := 1364) (st' := []) rfl (by rw [hsw]; rfl) ?_
  refine jw.steps F jx_i439 5 (pc' := 1370) (l' := [(0, .ref 1000002), (1, .ref 0), (2, .ref 178), (3, .ref 226), (4, .int (0 : Int32))]) (st' := [.int (1 : Int32), .ref 1000002, .ref 0]) rfl ?_
  refine jw.sld F jx_i439 hX hbB hE2 (pc' := 1371) rfl rfl (show vp_in (nI 1) 6 from vp_in_nI (by decide) (by decide)) q1 rfl ?_
  refine jw.steps F jx_i439 4 (pc' := 1376) (l' := [(0, .ref 1000002), (1, .ref 0), (2, .ref 178), (3, .ref 226), (4, .int (0 : Int32))]) (st' := [.int (2 : Int32), .ref 1000002, .int p1, .ref 0]) rfl ?_
  refine jw.sld F jx_i439 hX hbB hE2 (pc' := 1377) rfl rfl (show vp_in (nI 2) 6 from vp_in_nI (by decide) (by decide)) q2 rfl ?_
  refine jw.steps F jx_i439 1 (pc' := 1378) (l' := [(0, .ref 1000002), (1, .ref 0), (2, .ref 178), (3, .ref 226), (4, .int (0 : Int32))]) (st' := [.ref 226, .int p2, .int p1, .ref 0]) rfl ?_
  refine jw.wr F hl hZ rfl jx_i439 jx_i456 [.ref 0, .int p1, .int p2, .ref 226] (pc' := 1381) (S' := [.int (1 : Int32)]) rfl (List.mem_of_getElem? (i := 16) rfl) (List.mem_of_getElem? (i := 16) rfl) rfl rfl rfl (jx_w384 hTb hT2 p0 p1 p2 p3 p4 p5 g1 g2) (by omega) (by omega) (by omega) (by omega) rfl rfl ?_
  refine jw.steps F jx_i439 6 (pc' := 1389) (l' := [(5, .int (1 : Int32)), (0, .ref 1000002), (1, .ref 0), (2, .ref 178), (3, .ref 226), (4, .int (0 : Int32))]) (st' := [.int (1 : Int32), .ref 1000002, .ref 178]) rfl ?_
  refine jw.sld F jx_i439 hX hbB hE2 (pc' := 1390) rfl rfl (show vp_in (nI 1) 6 from vp_in_nI (by decide) (by decide)) q1 rfl ?_
  refine jw.steps F jx_i439 4 (pc' := 1395) (l' := [(5, .int (1 : Int32)), (0, .ref 1000002), (1, .ref 0), (2, .ref 178), (3, .ref 226), (4, .int (0 : Int32))]) (st' := [.int (2 : Int32), .ref 1000002, .int p1, .ref 178]) rfl ?_
  refine jw.sld F jx_i439 hX hbB hE2 (pc' := 1396) rfl rfl (show vp_in (nI 2) 6 from vp_in_nI (by decide) (by decide)) q2 rfl ?_
  refine jw.ca hTb F jx_i439 (pc' := 1399) (S' := [.int (0 : Int32)]) rfl jv_i415 [.ref 178, .int p1, .int p2] rfl rfl rfl rfl (jx_cal2 rfl (jv_H_at rfl) rfl rfl) rfl (jx_e388 p0 p1 p2 p3 p4 p5 g1 g2) (by omega) (by omega) rfl rfl ?_
  refine jw.steps F jx_i439 2 (pc' := 1402) (l' := [(6, .int (0 : Int32)), (5, .int (1 : Int32)), (0, .ref 1000002), (1, .ref 0), (2, .ref 178), (3, .ref 226), (4, .int (0 : Int32))]) (st' := [.ref 178]) rfl ?_
  refine jw.ca hTb F jx_i439 (pc' := 1405) (S' := [.int (1 : Int32)]) rfl jv_i350 [.ref 178] rfl rfl rfl rfl (jx_cal2 rfl (jv_H_at rfl) rfl rfl) rfl (jx_e389 p0 p1 p2 p3 p4 p5 g1 g2) (by omega) (by omega) rfl rfl ?_
  refine jw.steps F jx_i439 1 (pc' := 1407) (l' := [(6, .int (0 : Int32)), (5, .int (1 : Int32)), (0, .ref 1000002), (1, .ref 0), (2, .ref 178), (3, .ref 226), (4, .int (0 : Int32))]) (st' := [.int (1 : Int32), .int (1 : Int32)]) rfl ?_
  refine jw.br F jx_i439 (pc' := 1412) (st' := []) rfl (jv_bc_eq.trans (jx_got (by decide))) ?_
  refine jw.steps F jx_i439 1 (pc' := 1414) (l' := [(6, .int (0 : Int32)), (5, .int (1 : Int32)), (0, .ref 1000002), (1, .ref 0), (2, .ref 178), (3, .ref 226), (4, .int (0 : Int32))]) (st' := [.int (1 : Int32)]) rfl ?_
  refine jw.br F jx_i439 (pc' := 1429) (st' := []) rfl (jv_bi_ne.trans (jx_got (by decide))) ?_
  refine jw.steps F jx_i439 5 (pc' := 26) (l' := [(4, .int (6 : Int32)), (6, .int (0 : Int32)), (5, .int (1 : Int32)), (0, .ref 1000002), (1, .ref 0), (2, .ref 178), (3, .ref 226)]) (st' := [.ref 1000002, .int (6 : Int32)]) rfl ?_
  refine jw.slen F jx_i439 hX hbB hE2 (pc' := 27) rfl rfl rfl ?_
  refine jw.steps F jx_i439 2 (pc' := 30) (l' := [(4, .int (6 : Int32)), (6, .int (0 : Int32)), (5, .int (1 : Int32)), (0, .ref 1000002), (1, .ref 0), (2, .ref 178), (3, .ref 226)]) (st' := [.int (0 : Int32), .int (6 : Int32)]) rfl ?_
  refine jw.br F jx_i439 (pc' := 1531) (st' := []) rfl (jv_bc_gt.trans (jx_got (by decide))) ?_
  refine jw.steps F jx_i439 1 (pc' := 1532) (l' := [(4, .int (6 : Int32)), (6, .int (0 : Int32)), (5, .int (1 : Int32)), (0, .ref 1000002), (1, .ref 0), (2, .ref 178), (3, .ref 226)]) (st' := [.int (1 : Int32)]) rfl ?_
  exact hQ _ _ _ _ (by omega) (by omega)

set_option maxRecDepth 100000 in
/-- ProgramBox$Store.map -/
theorem jx_e390 (p0 : Int32) (p1 : Int32) (p2 : Int32) (p3 : Int32) (p4 : Int32) (p5 : Int32) (g1 : p1.toInt64 < (0 : Int64)) (g2 : ¬ p1 < (0 : Int32)) : jv_Ms 126 [.ref 2, .long p1.toInt64] (jv_H (jx_K 227) jx_If jx_L0 (jx_R 227)) 227 1572950 (some (.null), (jv_H (jx_K 227) jx_If jx_L0 (jx_R 227)), 227, 1572950) := by
  show jv_Ev 126 0 [(0, .ref 2), (1, .long p1.toInt64)] [] (jv_H (jx_K 227) jx_If jx_L0 (jx_R 227)) 227 1572950 _
  refine jv_Ev.steps jv_i126 3 (pc' := 3) (l' := [(0, .ref 2), (1, .long p1.toInt64)]) (st' := [.int (lg_cmp p1.toInt64 (0 : Int64))]) rfl ?_
  refine jv_Ev.br jv_i126 (pc' := 16) (st' := []) rfl (jv_bi_lt.trans (jx_got ((lg_cmp_lt p1.toInt64 (0 : Int64)).mpr g1))) ?_
  refine jv_Ev.steps jv_i126 2 (pc' := 27) (l' := [(0, .ref 2), (1, .long p1.toInt64)]) (st' := [.null]) rfl ?_
  exact jv_Ev.ret jv_i126 rfl rfl

set_option maxRecDepth 100000 in
/-- ProgramBox.mapOf: it throws -/
theorem jx_e391 (hTb : jv_TOk jv_Tb) (p0 : Int32) (p1 : Int32) (p2 : Int32) (p3 : Int32) (p4 : Int32) (p5 : Int32) (g1 : p1.toInt64 < (0 : Int64)) (g2 : ¬ p1 < (0 : Int32)) : jx_Th 429 [.ref 0, .int p1] (jv_H (jx_K 227) jx_If jx_L0 (jx_R 227)) 227 1572950 2 (jv_H (jx_K 227) jx_If jx_L0 (jx_R 227)) 228 1572956 := by
  refine jx_Th.of hTb (y := 429) rfl (Nat.le_of_ble_eq_true rfl) ?_
  intro p l e R s m args below meth c E hl F hZ h0 ht hRc hRs
  show jw p l e R s m args below meth c E 3 227 1572950 _ 0 [(0, .ref 0), (1, .int p1)] [] (jv_H (jx_K 227) jx_If jx_L0 (jx_R 227)) 227 1572950
  refine jw.steps F jv_i429 1 (pc' := 1) (l' := [(0, .ref 0), (1, .int p1)]) (st' := [.ref 0]) rfl ?_
  refine jw.me F jv_i429 (pc' := 4) (st' := [.ref 2]) rfl rfl (jv_m_getR rfl rfl rfl rfl) ?_
  refine jw.steps F jv_i429 2 (pc' := 6) (l' := [(0, .ref 0), (1, .int p1)]) (st' := [.long p1.toInt64, .ref 2]) rfl ?_
  refine jw.ca hTb F jv_i429 (pc' := 9) (S' := [.null]) rfl jv_i126 [.ref 2, .long p1.toInt64] rfl rfl rfl rfl (jv_cal rfl (jv_H_at rfl) rfl rfl) rfl (jx_e390 p0 p1 p2 p3 p4 p5 g1 g2) (by omega) (by omega) rfl rfl ?_
  refine jw.steps F jv_i429 2 (pc' := 11) (l' := [(2, .null), (0, .ref 0), (1, .int p1)]) (st' := [.null]) rfl ?_
  refine jw.br F jv_i429 (pc' := 14) (st' := []) rfl rfl ?_
  exact jw.throw hl F hZ h0 rfl jv_i429 ht 2 183 "there is no such map" (List.mem_of_getElem? (i := 11) rfl) (by decide +kernel) (by decide +kernel) (by decide +kernel) (by decide +kernel) (by decide +kernel) rfl (by decide) (by decide) (by decide) (by omega) (by omega)

set_option maxRecDepth 100000 in
/-- ProgramBox.take: it throws -/
theorem jx_e392 (hTb : jv_TOk jv_Tb) (p0 : Int32) (p1 : Int32) (p2 : Int32) (p3 : Int32) (p4 : Int32) (p5 : Int32) (g1 : p1.toInt64 < (0 : Int64)) (g2 : ¬ p1 < (0 : Int32)) : jx_Th 437 [.ref 0, .int p1, .int p2] (jv_H (jx_K 227) jx_If jx_L0 (jx_R 227)) 227 1572950 2 (jv_H (jx_K 227) jx_If jx_L0 (jx_R 227)) 228 1572956 := by
  refine jx_Th.of hTb (y := 437) rfl (Nat.le_of_ble_eq_true rfl) ?_
  intro p l e R s m args below meth c E hl F hZ h0 ht hRc hRs
  show jw p l e R s m args below meth c E 5 227 1572950 _ 0 [(0, .ref 0), (1, .int p1), (2, .int p2)] [] (jv_H (jx_K 227) jx_If jx_L0 (jx_R 227)) 227 1572950
  refine jw.steps F jv_i437 2 (pc' := 2) (l' := [(0, .ref 0), (1, .int p1), (2, .int p2)]) (st' := [.int p1, .ref 0]) rfl ?_
  exact jw.prop hTb hl F hZ jv_i437 ht rfl jv_i429 [.ref 0, .int p1] rfl rfl rfl rfl rfl (jv_cal rfl (jv_H_at rfl) rfl rfl) rfl (jx_e391 hTb p0 p1 p2 p3 p4 p5 g1 g2) (by omega) (by omega) (by omega) (by omega)

set_option maxRecDepth 100000 in
/-- the law's take -/
theorem jx_w393 (hTb : jv_TOk jv_Tb) (hT2 : jx_T2Ok) (p0 : Int32) (p1 : Int32) (p2 : Int32) (p3 : Int32) (p4 : Int32) (p5 : Int32) (g1 : p1.toInt64 < (0 : Int64)) (g2 : ¬ p1 < (0 : Int32)) : jx_Wr 456 [(0, 10, 13, 36)] [.ref 0, .int p1, .int p2, .ref 226] (jv_H (jx_K 227) jx_If jx_L0 (jx_R 227)) 227 1572950 (some (.int (1 : Int32)), (jv_H (jx_K 227) jx_If jx_L0 (jx_R 227)), 228, 1572956) := by
  refine jx_Wr.of hT2 (by decide) rfl (Nat.le_of_ble_eq_true rfl) ?_
  intro p l e R s m args below meth c E hl F hZ htb hRc hRs
  show jw p l e R s m args below meth c E 5 227 1572950 _ 0 [(0, .ref 0), (1, .int p1), (2, .int p2), (3, .ref 226)] [] (jv_H (jx_K 227) jx_If jx_L0 (jx_R 227)) 227 1572950
  have hRc : R.cells = 228 - 227 := hRc
  have hRs : R.slots = 1572956 - 1572950 := hRs
  refine jw.steps F jx_i456 5 (pc' := 5) (l' := [(0, .ref 0), (1, .int p1), (2, .int p2), (3, .ref 226)]) (st' := [.int p2, .int p1, .ref 0, .int (0 : Int32), .ref 226]) rfl ?_
  refine jw.cat hTb hl F hZ rfl jx_i456 htb rfl jv_i437 [.ref 0, .int p1, .int p2] rfl rfl rfl rfl rfl (jx_cal2 rfl (jv_H_at rfl) rfl rfl) rfl (jx_e392 hTb p0 p1 p2 p3 p4 p5 g1 g2) (by omega) (by omega) (by omega) (by omega) [] (0, 10, 13, 36) [] rfl (fun z h => absurd h List.not_mem_nil) (by decide) rfl rfl (Or.inl ⟨rfl, rfl⟩) (by decide) ?_
  refine jw.steps F jx_i456 1 (pc' := 16) (l' := []) (st' := [.int (1 : Int32)]) rfl ?_
  exact jw.ret F jx_i456 rfl rfl

set_option maxRecDepth 100000 in
/-- ProgramBoxModel$Store.noMap -/
theorem jx_e394 (p0 : Int32) (p1 : Int32) (p2 : Int32) (p3 : Int32) (p4 : Int32) (p5 : Int32) (g1 : p1.toInt64 < (0 : Int64)) (g2 : ¬ p1 < (0 : Int32)) : jv_Ms 324 [.ref 180, .int p1] (jv_H (jx_K 227) jx_If jx_L0 (jx_R 227)) 228 1572956 (some (.int (1 : Int32)), (jv_H (jx_K 227) (jv_u jx_If 180 0 (1 : Int32)) jx_L0 (jx_R 227)), 228, 1572956) := by
  show jv_Ev 324 0 [(0, .ref 180), (1, .int p1)] [] (jv_H (jx_K 227) jx_If jx_L0 (jx_R 227)) 228 1572956 _
  refine jv_Ev.steps jv_i324 2 (pc' := 2) (l' := [(0, .ref 180), (1, .int p1)]) (st' := [.int p1, .ref 180]) rfl ?_
  refine jv_Ev.br jv_i324 (pc' := 5) (st' := [.ref 180]) rfl (jv_bi_lt.trans (jx_gof g2)) ?_
  refine jv_Ev.steps jv_i324 2 (pc' := 7) (l' := [(0, .ref 180), (1, .int p1)]) (st' := [.ref 180, .int p1, .ref 180]) rfl ?_
  refine jv_Ev.m jv_i324 (pc' := 10) (st' := [.int (0 : Int32), .int p1, .ref 180]) rfl rfl (jv_m_getI rfl rfl rfl rfl) ?_
  refine jv_Ev.br jv_i324 (pc' := 13) (st' := [.ref 180]) rfl (jv_bc_lt.trans (jx_gof g2)) ?_
  refine jv_Ev.steps jv_i324 2 (pc' := 18) (l' := [(0, .ref 180), (1, .int p1)]) (st' := [.int (1 : Int32), .ref 180]) rfl ?_
  refine jv_Ev.m jv_i324 (pc' := 21) (st' := []) rfl rfl (jv_m_putI rfl rfl rfl rfl rfl) ?_
  refine jv_Ev.steps jv_i324 1 (pc' := 22) (l' := [(0, .ref 180), (1, .int p1)]) (st' := [.ref 180]) rfl ?_
  refine jv_Ev.m jv_i324 (pc' := 25) (st' := [.int (1 : Int32)]) rfl rfl (jv_m_getI rfl rfl rfl rfl) ?_
  refine jv_Ev.br jv_i324 (pc' := 28) (st' := []) rfl (jv_bi_le.trans (jx_gof (by decide))) ?_
  refine jv_Ev.steps jv_i324 2 (pc' := 33) (l' := [(0, .ref 180), (1, .int p1)]) (st' := [.int (1 : Int32)]) rfl ?_
  exact jv_Ev.ret jv_i324 rfl (jv_ret_b (by decide))

set_option maxRecDepth 100000 in
/-- ProgramBoxModel$Store.take -/
theorem jx_e395 (p0 : Int32) (p1 : Int32) (p2 : Int32) (p3 : Int32) (p4 : Int32) (p5 : Int32) (g1 : p1.toInt64 < (0 : Int64)) (g2 : ¬ p1 < (0 : Int32)) : jv_Ms 347 [.ref 180, .int p1, .int p2] (jv_H (jx_K 227) jx_If jx_L0 (jx_R 227)) 228 1572956 (some (.int (0 : Int32)), (jv_H (jx_K 227) (jv_u jx_If 180 0 (1 : Int32)) jx_L0 (jx_R 227)), 228, 1572956) := by
  show jv_Ev 347 0 [(0, .ref 180), (1, .int p1), (2, .int p2)] [] (jv_H (jx_K 227) jx_If jx_L0 (jx_R 227)) 228 1572956 _
  refine jv_Ev.steps jv_i347 2 (pc' := 2) (l' := [(0, .ref 180), (1, .int p1), (2, .int p2)]) (st' := [.int p1, .ref 180]) rfl ?_
  refine jv_Ev.c jv_i347 (pc' := 5) (S' := [.int (1 : Int32)]) jv_i324 [.ref 180, .int p1] rfl rfl rfl rfl (jv_cal rfl (jv_H_at rfl) rfl rfl) rfl (jx_e394 p0 p1 p2 p3 p4 p5 g1 g2) rfl rfl ?_
  refine jv_Ev.br jv_i347 (pc' := 8) (st' := []) rfl (jv_bi_eq.trans (jx_gof (by decide))) ?_
  refine jv_Ev.steps jv_i347 1 (pc' := 9) (l' := [(0, .ref 180), (1, .int p1), (2, .int p2)]) (st' := [.int (0 : Int32)]) rfl ?_
  exact jv_Ev.ret jv_i347 rfl rfl

set_option maxRecDepth 100000 in
/-- ProgramBoxModel$Store.thrown -/
theorem jx_e396 (p0 : Int32) (p1 : Int32) (p2 : Int32) (p3 : Int32) (p4 : Int32) (p5 : Int32) (g1 : p1.toInt64 < (0 : Int64)) (g2 : ¬ p1 < (0 : Int32)) : jv_Ms 318 [.ref 180] (jv_H (jx_K 227) (jv_u jx_If 180 0 (1 : Int32)) jx_L0 (jx_R 227)) 228 1572956 (some (.int (1 : Int32)), (jv_H (jx_K 227) (jv_u jx_If 180 0 (1 : Int32)) jx_L0 (jx_R 227)), 228, 1572956) := by
  show jv_Ev 318 0 [(0, .ref 180)] [] (jv_H (jx_K 227) (jv_u jx_If 180 0 (1 : Int32)) jx_L0 (jx_R 227)) 228 1572956 _
  refine jv_Ev.steps jv_i318 1 (pc' := 1) (l' := [(0, .ref 180)]) (st' := [.ref 180]) rfl ?_
  refine jv_Ev.m jv_i318 (pc' := 4) (st' := [.int (1 : Int32)]) rfl rfl (jv_m_getI rfl rfl rfl rfl) ?_
  exact jv_Ev.ret jv_i318 rfl rfl

set_option maxRecDepth 100000 in
/-- ProgramBoxModel.take -/
theorem jx_e397 (p0 : Int32) (p1 : Int32) (p2 : Int32) (p3 : Int32) (p4 : Int32) (p5 : Int32) (g1 : p1.toInt64 < (0 : Int64)) (g2 : ¬ p1 < (0 : Int32)) : jv_Ms 415 [.ref 178, .int p1, .int p2] (jv_H (jx_K 227) jx_If jx_L0 (jx_R 227)) 228 1572956 (some (.int (0 : Int32)), (jv_H (jx_K 227) (jv_u (jv_u jx_If 180 0 (1 : Int32)) 178 0 (1 : Int32)) jx_L0 (jx_R 227)), 228, 1572956) := by
  show jv_Ev 415 0 [(0, .ref 178), (1, .int p1), (2, .int p2)] [] (jv_H (jx_K 227) jx_If jx_L0 (jx_R 227)) 228 1572956 _
  refine jv_Ev.steps jv_i415 1 (pc' := 1) (l' := [(0, .ref 178), (1, .int p1), (2, .int p2)]) (st' := [.ref 178]) rfl ?_
  refine jv_Ev.m jv_i415 (pc' := 4) (st' := [.ref 180]) rfl rfl (jv_m_getR rfl rfl rfl rfl) ?_
  refine jv_Ev.steps jv_i415 2 (pc' := 6) (l' := [(0, .ref 178), (1, .int p1), (2, .int p2)]) (st' := [.int p2, .int p1, .ref 180]) rfl ?_
  refine jv_Ev.c jv_i415 (pc' := 9) (S' := [.int (0 : Int32)]) jv_i347 [.ref 180, .int p1, .int p2] rfl rfl rfl rfl (jv_cal rfl (jv_H_at rfl) rfl rfl) rfl (jx_e395 p0 p1 p2 p3 p4 p5 g1 g2) rfl rfl ?_
  refine jv_Ev.steps jv_i415 3 (pc' := 12) (l' := [(3, .int (0 : Int32)), (0, .ref 178), (1, .int p1), (2, .int p2)]) (st' := [.ref 178, .ref 178]) rfl ?_
  refine jv_Ev.m jv_i415 (pc' := 15) (st' := [.ref 180, .ref 178]) rfl rfl (jv_m_getR rfl rfl rfl rfl) ?_
  refine jv_Ev.c jv_i415 (pc' := 18) (S' := [.int (1 : Int32), .ref 178]) jv_i318 [.ref 180] rfl rfl rfl rfl (jv_cal rfl (jv_H_at rfl) rfl rfl) rfl (jx_e396 p0 p1 p2 p3 p4 p5 g1 g2) rfl rfl ?_
  refine jv_Ev.m jv_i415 (pc' := 21) (st' := []) rfl rfl (jv_m_putI rfl rfl rfl rfl rfl) ?_
  refine jv_Ev.steps jv_i415 1 (pc' := 22) (l' := [(3, .int (0 : Int32)), (0, .ref 178), (1, .int p1), (2, .int p2)]) (st' := [.int (0 : Int32)]) rfl ?_
  exact jv_Ev.ret jv_i415 rfl rfl

set_option maxRecDepth 100000 in
/-- ProgramBoxModel.thrown -/
theorem jx_e398 (p0 : Int32) (p1 : Int32) (p2 : Int32) (p3 : Int32) (p4 : Int32) (p5 : Int32) (g1 : p1.toInt64 < (0 : Int64)) (g2 : ¬ p1 < (0 : Int32)) : jv_Ms 350 [.ref 178] (jv_H (jx_K 227) (jv_u (jv_u jx_If 180 0 (1 : Int32)) 178 0 (1 : Int32)) jx_L0 (jx_R 227)) 228 1572956 (some (.int (1 : Int32)), (jv_H (jx_K 227) (jv_u (jv_u jx_If 180 0 (1 : Int32)) 178 0 (1 : Int32)) jx_L0 (jx_R 227)), 228, 1572956) := by
  show jv_Ev 350 0 [(0, .ref 178)] [] (jv_H (jx_K 227) (jv_u (jv_u jx_If 180 0 (1 : Int32)) 178 0 (1 : Int32)) jx_L0 (jx_R 227)) 228 1572956 _
  refine jv_Ev.steps jv_i350 1 (pc' := 1) (l' := [(0, .ref 178)]) (st' := [.ref 178]) rfl ?_
  refine jv_Ev.m jv_i350 (pc' := 4) (st' := [.int (1 : Int32)]) rfl rfl (jv_m_getI rfl rfl rfl rfl) ?_
  exact jv_Ev.ret jv_i350 rfl rfl

set_option maxRecDepth 100000 in
/-- the law: case 24, one way -/
theorem jx_l54 (p0 : Int32) (p1 : Int32) (p2 : Int32) (p3 : Int32) (p4 : Int32) (p5 : Int32) (g1 : p1.toInt64 < (0 : Int64)) (g2 : ¬ p1 < (0 : Int32)) (hsw : p0 &&& (31 : Int32) = (24 : Int32)) {p : Program} {l : Launch} {e : Env} {R : Room} {s : State} {m : MethodId} {args : Array Value} {below : List Frame} {meth : Method} {c : Code} {E : jv_Env} {Q : State → Prop} (hTb : jv_TOk jv_Tb) (hT2 : jx_T2Ok) (hl : l.stackTraces = false) (F : jx_F jv_T2 439 E p R s m args meth c) (hZ : jx_Z E s) (hRc : R.cells = 600002) (hRs : R.slots = 7302232) {bb : Nat} {xs : Nat → Int32} (hX : va_X bb 6 xs s E.2.2.2.2) (hbB : bb < E.2.2.2.1) (hE2 : E.1 1000002 = bb) (hQ : ∀ (l0 : jv_L) (G : jv_G) (n sl : Nat), n ≤ 600002 → sl ≤ 7302232 → jw p l e R s m args below meth c E 8 0 0 Q 1532 l0 [.int (1 : Int32)] G n sl) (q0 : xs 0 = p0) (q1 : xs 1 = p1) (q2 : xs 2 = p2) (q3 : xs 3 = p3) (q4 : xs 4 = p4) (q5 : xs 5 = p5) : jw p l e R s m args below meth c E 8 0 0 Q 33 [(0, .ref 1000002), (1, .ref 0), (2, .ref 178), (3, .ref 226), (4, .int (0 : Int32))] [] (jv_H (jx_K 227) jx_If jx_L0 (jx_R 227)) 227 1572950 := by
  refine jw.steps F jx_i439 2 (pc' := 36) (l' := [(0, .ref 1000002), (1, .ref 0), (2, .ref 178), (3, .ref 226), (4, .int (0 : Int32))]) (st' := [.int (0 : Int32), .ref 1000002]) rfl ?_
  refine jw.sld F jx_i439 hX hbB hE2 (pc' := 37) rfl rfl (show vp_in (nI 0) 6 from vp_in_nI (by decide) (by decide)) q0 rfl ?_
  refine jw.steps F jx_i439 2 (pc' := 40) (l' := [(0, .ref 1000002), (1, .ref 0), (2, .ref 178), (3, .ref 226), (4, .int (0 : Int32))]) (st' := [.int (p0 &&& (31 : Int32))]) rfl ?_
  refine jw.br F jx_i439 (pc' := 1364) (st' := []) rfl (by rw [hsw]; rfl) ?_
  refine jw.steps F jx_i439 5 (pc' := 1370) (l' := [(0, .ref 1000002), (1, .ref 0), (2, .ref 178), (3, .ref 226), (4, .int (0 : Int32))]) (st' := [.int (1 : Int32), .ref 1000002, .ref 0]) rfl ?_
  refine jw.sld F jx_i439 hX hbB hE2 (pc' := 1371) rfl rfl (show vp_in (nI 1) 6 from vp_in_nI (by decide) (by decide)) q1 rfl ?_
  refine jw.steps F jx_i439 4 (pc' := 1376) (l' := [(0, .ref 1000002), (1, .ref 0), (2, .ref 178), (3, .ref 226), (4, .int (0 : Int32))]) (st' := [.int (2 : Int32), .ref 1000002, .int p1, .ref 0]) rfl ?_
  refine jw.sld F jx_i439 hX hbB hE2 (pc' := 1377) rfl rfl (show vp_in (nI 2) 6 from vp_in_nI (by decide) (by decide)) q2 rfl ?_
  refine jw.steps F jx_i439 1 (pc' := 1378) (l' := [(0, .ref 1000002), (1, .ref 0), (2, .ref 178), (3, .ref 226), (4, .int (0 : Int32))]) (st' := [.ref 226, .int p2, .int p1, .ref 0]) rfl ?_
  refine jw.wr F hl hZ rfl jx_i439 jx_i456 [.ref 0, .int p1, .int p2, .ref 226] (pc' := 1381) (S' := [.int (1 : Int32)]) rfl (List.mem_of_getElem? (i := 16) rfl) (List.mem_of_getElem? (i := 16) rfl) rfl rfl rfl (jx_w393 hTb hT2 p0 p1 p2 p3 p4 p5 g1 g2) (by omega) (by omega) (by omega) (by omega) rfl rfl ?_
  refine jw.steps F jx_i439 6 (pc' := 1389) (l' := [(5, .int (1 : Int32)), (0, .ref 1000002), (1, .ref 0), (2, .ref 178), (3, .ref 226), (4, .int (0 : Int32))]) (st' := [.int (1 : Int32), .ref 1000002, .ref 178]) rfl ?_
  refine jw.sld F jx_i439 hX hbB hE2 (pc' := 1390) rfl rfl (show vp_in (nI 1) 6 from vp_in_nI (by decide) (by decide)) q1 rfl ?_
  refine jw.steps F jx_i439 4 (pc' := 1395) (l' := [(5, .int (1 : Int32)), (0, .ref 1000002), (1, .ref 0), (2, .ref 178), (3, .ref 226), (4, .int (0 : Int32))]) (st' := [.int (2 : Int32), .ref 1000002, .int p1, .ref 178]) rfl ?_
  refine jw.sld F jx_i439 hX hbB hE2 (pc' := 1396) rfl rfl (show vp_in (nI 2) 6 from vp_in_nI (by decide) (by decide)) q2 rfl ?_
  refine jw.ca hTb F jx_i439 (pc' := 1399) (S' := [.int (0 : Int32)]) rfl jv_i415 [.ref 178, .int p1, .int p2] rfl rfl rfl rfl (jx_cal2 rfl (jv_H_at rfl) rfl rfl) rfl (jx_e397 p0 p1 p2 p3 p4 p5 g1 g2) (by omega) (by omega) rfl rfl ?_
  refine jw.steps F jx_i439 2 (pc' := 1402) (l' := [(6, .int (0 : Int32)), (5, .int (1 : Int32)), (0, .ref 1000002), (1, .ref 0), (2, .ref 178), (3, .ref 226), (4, .int (0 : Int32))]) (st' := [.ref 178]) rfl ?_
  refine jw.ca hTb F jx_i439 (pc' := 1405) (S' := [.int (1 : Int32)]) rfl jv_i350 [.ref 178] rfl rfl rfl rfl (jx_cal2 rfl (jv_H_at rfl) rfl rfl) rfl (jx_e398 p0 p1 p2 p3 p4 p5 g1 g2) (by omega) (by omega) rfl rfl ?_
  refine jw.steps F jx_i439 1 (pc' := 1407) (l' := [(6, .int (0 : Int32)), (5, .int (1 : Int32)), (0, .ref 1000002), (1, .ref 0), (2, .ref 178), (3, .ref 226), (4, .int (0 : Int32))]) (st' := [.int (1 : Int32), .int (1 : Int32)]) rfl ?_
  refine jw.br F jx_i439 (pc' := 1412) (st' := []) rfl (jv_bc_eq.trans (jx_got (by decide))) ?_
  refine jw.steps F jx_i439 1 (pc' := 1414) (l' := [(6, .int (0 : Int32)), (5, .int (1 : Int32)), (0, .ref 1000002), (1, .ref 0), (2, .ref 178), (3, .ref 226), (4, .int (0 : Int32))]) (st' := [.int (1 : Int32)]) rfl ?_
  refine jw.br F jx_i439 (pc' := 1429) (st' := []) rfl (jv_bi_ne.trans (jx_got (by decide))) ?_
  refine jw.steps F jx_i439 5 (pc' := 26) (l' := [(4, .int (6 : Int32)), (6, .int (0 : Int32)), (5, .int (1 : Int32)), (0, .ref 1000002), (1, .ref 0), (2, .ref 178), (3, .ref 226)]) (st' := [.ref 1000002, .int (6 : Int32)]) rfl ?_
  refine jw.slen F jx_i439 hX hbB hE2 (pc' := 27) rfl rfl rfl ?_
  refine jw.steps F jx_i439 2 (pc' := 30) (l' := [(4, .int (6 : Int32)), (6, .int (0 : Int32)), (5, .int (1 : Int32)), (0, .ref 1000002), (1, .ref 0), (2, .ref 178), (3, .ref 226)]) (st' := [.int (0 : Int32), .int (6 : Int32)]) rfl ?_
  refine jw.br F jx_i439 (pc' := 1531) (st' := []) rfl (jv_bc_gt.trans (jx_got (by decide))) ?_
  refine jw.steps F jx_i439 1 (pc' := 1532) (l' := [(4, .int (6 : Int32)), (6, .int (0 : Int32)), (5, .int (1 : Int32)), (0, .ref 1000002), (1, .ref 0), (2, .ref 178), (3, .ref 226)]) (st' := [.int (1 : Int32)]) rfl ?_
  exact hQ _ _ _ _ (by omega) (by omega)

set_option maxRecDepth 100000 in
/-- ProgramBox$Store.map -/
theorem jx_e403 (p0 : Int32) (p1 : Int32) (p2 : Int32) (p3 : Int32) (p4 : Int32) (p5 : Int32) (g1 : ¬ p1.toInt64 < (0 : Int64)) (g2 : p1 < (0 : Int32)) : jv_Ms 126 [.ref 2, .long p1.toInt64] (jv_H (jx_K 227) jx_If jx_L0 (jx_R 227)) 227 1572950 (some (.null), (jv_H (jx_K 227) jx_If jx_L0 (jx_R 227)), 227, 1572950) := by
  show jv_Ev 126 0 [(0, .ref 2), (1, .long p1.toInt64)] [] (jv_H (jx_K 227) jx_If jx_L0 (jx_R 227)) 227 1572950 _
  refine jv_Ev.steps jv_i126 3 (pc' := 3) (l' := [(0, .ref 2), (1, .long p1.toInt64)]) (st' := [.int (lg_cmp p1.toInt64 (0 : Int64))]) rfl ?_
  refine jv_Ev.br jv_i126 (pc' := 6) (st' := []) rfl (jv_bi_lt.trans (jx_gof (fun h => g1 ((lg_cmp_lt p1.toInt64 (0 : Int64)).mp h)))) ?_
  refine jv_Ev.steps jv_i126 2 (pc' := 8) (l' := [(0, .ref 2), (1, .long p1.toInt64)]) (st' := [.ref 2, .long p1.toInt64]) rfl ?_
  refine jv_Ev.m jv_i126 (pc' := 11) (st' := [.int (0 : Int32), .long p1.toInt64]) rfl rfl (jv_m_getI rfl rfl rfl rfl) ?_
  refine jv_Ev.steps jv_i126 2 (pc' := 13) (l' := [(0, .ref 2), (1, .long p1.toInt64)]) (st' := [.int (lg_cmp p1.toInt64 (0 : Int64))]) rfl ?_
  refine jv_Ev.br jv_i126 (pc' := 16) (st' := []) rfl (jv_bi_lt.trans (jx_gof (fun h => g1 ((lg_cmp_lt p1.toInt64 (0 : Int64)).mp h)))) ?_
  refine jv_Ev.steps jv_i126 2 (pc' := 27) (l' := [(0, .ref 2), (1, .long p1.toInt64)]) (st' := [.null]) rfl ?_
  exact jv_Ev.ret jv_i126 rfl rfl

set_option maxRecDepth 100000 in
/-- ProgramBox.mapOf: it throws -/
theorem jx_e404 (hTb : jv_TOk jv_Tb) (p0 : Int32) (p1 : Int32) (p2 : Int32) (p3 : Int32) (p4 : Int32) (p5 : Int32) (g1 : ¬ p1.toInt64 < (0 : Int64)) (g2 : p1 < (0 : Int32)) : jx_Th 429 [.ref 0, .int p1] (jv_H (jx_K 227) jx_If jx_L0 (jx_R 227)) 227 1572950 2 (jv_H (jx_K 227) jx_If jx_L0 (jx_R 227)) 228 1572956 := by
  refine jx_Th.of hTb (y := 429) rfl (Nat.le_of_ble_eq_true rfl) ?_
  intro p l e R s m args below meth c E hl F hZ h0 ht hRc hRs
  show jw p l e R s m args below meth c E 3 227 1572950 _ 0 [(0, .ref 0), (1, .int p1)] [] (jv_H (jx_K 227) jx_If jx_L0 (jx_R 227)) 227 1572950
  refine jw.steps F jv_i429 1 (pc' := 1) (l' := [(0, .ref 0), (1, .int p1)]) (st' := [.ref 0]) rfl ?_
  refine jw.me F jv_i429 (pc' := 4) (st' := [.ref 2]) rfl rfl (jv_m_getR rfl rfl rfl rfl) ?_
  refine jw.steps F jv_i429 2 (pc' := 6) (l' := [(0, .ref 0), (1, .int p1)]) (st' := [.long p1.toInt64, .ref 2]) rfl ?_
  refine jw.ca hTb F jv_i429 (pc' := 9) (S' := [.null]) rfl jv_i126 [.ref 2, .long p1.toInt64] rfl rfl rfl rfl (jv_cal rfl (jv_H_at rfl) rfl rfl) rfl (jx_e403 p0 p1 p2 p3 p4 p5 g1 g2) (by omega) (by omega) rfl rfl ?_
  refine jw.steps F jv_i429 2 (pc' := 11) (l' := [(2, .null), (0, .ref 0), (1, .int p1)]) (st' := [.null]) rfl ?_
  refine jw.br F jv_i429 (pc' := 14) (st' := []) rfl rfl ?_
  exact jw.throw hl F hZ h0 rfl jv_i429 ht 2 183 "there is no such map" (List.mem_of_getElem? (i := 11) rfl) (by decide +kernel) (by decide +kernel) (by decide +kernel) (by decide +kernel) (by decide +kernel) rfl (by decide) (by decide) (by decide) (by omega) (by omega)

set_option maxRecDepth 100000 in
/-- ProgramBox.take: it throws -/
theorem jx_e405 (hTb : jv_TOk jv_Tb) (p0 : Int32) (p1 : Int32) (p2 : Int32) (p3 : Int32) (p4 : Int32) (p5 : Int32) (g1 : ¬ p1.toInt64 < (0 : Int64)) (g2 : p1 < (0 : Int32)) : jx_Th 437 [.ref 0, .int p1, .int p2] (jv_H (jx_K 227) jx_If jx_L0 (jx_R 227)) 227 1572950 2 (jv_H (jx_K 227) jx_If jx_L0 (jx_R 227)) 228 1572956 := by
  refine jx_Th.of hTb (y := 437) rfl (Nat.le_of_ble_eq_true rfl) ?_
  intro p l e R s m args below meth c E hl F hZ h0 ht hRc hRs
  show jw p l e R s m args below meth c E 5 227 1572950 _ 0 [(0, .ref 0), (1, .int p1), (2, .int p2)] [] (jv_H (jx_K 227) jx_If jx_L0 (jx_R 227)) 227 1572950
  refine jw.steps F jv_i437 2 (pc' := 2) (l' := [(0, .ref 0), (1, .int p1), (2, .int p2)]) (st' := [.int p1, .ref 0]) rfl ?_
  exact jw.prop hTb hl F hZ jv_i437 ht rfl jv_i429 [.ref 0, .int p1] rfl rfl rfl rfl rfl (jv_cal rfl (jv_H_at rfl) rfl rfl) rfl (jx_e404 hTb p0 p1 p2 p3 p4 p5 g1 g2) (by omega) (by omega) (by omega) (by omega)

set_option maxRecDepth 100000 in
/-- the law's take -/
theorem jx_w406 (hTb : jv_TOk jv_Tb) (hT2 : jx_T2Ok) (p0 : Int32) (p1 : Int32) (p2 : Int32) (p3 : Int32) (p4 : Int32) (p5 : Int32) (g1 : ¬ p1.toInt64 < (0 : Int64)) (g2 : p1 < (0 : Int32)) : jx_Wr 456 [(0, 10, 13, 36)] [.ref 0, .int p1, .int p2, .ref 226] (jv_H (jx_K 227) jx_If jx_L0 (jx_R 227)) 227 1572950 (some (.int (1 : Int32)), (jv_H (jx_K 227) jx_If jx_L0 (jx_R 227)), 228, 1572956) := by
  refine jx_Wr.of hT2 (by decide) rfl (Nat.le_of_ble_eq_true rfl) ?_
  intro p l e R s m args below meth c E hl F hZ htb hRc hRs
  show jw p l e R s m args below meth c E 5 227 1572950 _ 0 [(0, .ref 0), (1, .int p1), (2, .int p2), (3, .ref 226)] [] (jv_H (jx_K 227) jx_If jx_L0 (jx_R 227)) 227 1572950
  have hRc : R.cells = 228 - 227 := hRc
  have hRs : R.slots = 1572956 - 1572950 := hRs
  refine jw.steps F jx_i456 5 (pc' := 5) (l' := [(0, .ref 0), (1, .int p1), (2, .int p2), (3, .ref 226)]) (st' := [.int p2, .int p1, .ref 0, .int (0 : Int32), .ref 226]) rfl ?_
  refine jw.cat hTb hl F hZ rfl jx_i456 htb rfl jv_i437 [.ref 0, .int p1, .int p2] rfl rfl rfl rfl rfl (jx_cal2 rfl (jv_H_at rfl) rfl rfl) rfl (jx_e405 hTb p0 p1 p2 p3 p4 p5 g1 g2) (by omega) (by omega) (by omega) (by omega) [] (0, 10, 13, 36) [] rfl (fun z h => absurd h List.not_mem_nil) (by decide) rfl rfl (Or.inl ⟨rfl, rfl⟩) (by decide) ?_
  refine jw.steps F jx_i456 1 (pc' := 16) (l' := []) (st' := [.int (1 : Int32)]) rfl ?_
  exact jw.ret F jx_i456 rfl rfl

set_option maxRecDepth 100000 in
/-- ProgramBoxModel$Store.noMap -/
theorem jx_e407 (p0 : Int32) (p1 : Int32) (p2 : Int32) (p3 : Int32) (p4 : Int32) (p5 : Int32) (g1 : ¬ p1.toInt64 < (0 : Int64)) (g2 : p1 < (0 : Int32)) : jv_Ms 324 [.ref 180, .int p1] (jv_H (jx_K 227) jx_If jx_L0 (jx_R 227)) 228 1572956 (some (.int (1 : Int32)), (jv_H (jx_K 227) (jv_u jx_If 180 0 (1 : Int32)) jx_L0 (jx_R 227)), 228, 1572956) := by
  show jv_Ev 324 0 [(0, .ref 180), (1, .int p1)] [] (jv_H (jx_K 227) jx_If jx_L0 (jx_R 227)) 228 1572956 _
  refine jv_Ev.steps jv_i324 2 (pc' := 2) (l' := [(0, .ref 180), (1, .int p1)]) (st' := [.int p1, .ref 180]) rfl ?_
  refine jv_Ev.br jv_i324 (pc' := 13) (st' := [.ref 180]) rfl (jv_bi_lt.trans (jx_got g2)) ?_
  refine jv_Ev.steps jv_i324 2 (pc' := 18) (l' := [(0, .ref 180), (1, .int p1)]) (st' := [.int (1 : Int32), .ref 180]) rfl ?_
  refine jv_Ev.m jv_i324 (pc' := 21) (st' := []) rfl rfl (jv_m_putI rfl rfl rfl rfl rfl) ?_
  refine jv_Ev.steps jv_i324 1 (pc' := 22) (l' := [(0, .ref 180), (1, .int p1)]) (st' := [.ref 180]) rfl ?_
  refine jv_Ev.m jv_i324 (pc' := 25) (st' := [.int (1 : Int32)]) rfl rfl (jv_m_getI rfl rfl rfl rfl) ?_
  refine jv_Ev.br jv_i324 (pc' := 28) (st' := []) rfl (jv_bi_le.trans (jx_gof (by decide))) ?_
  refine jv_Ev.steps jv_i324 2 (pc' := 33) (l' := [(0, .ref 180), (1, .int p1)]) (st' := [.int (1 : Int32)]) rfl ?_
  exact jv_Ev.ret jv_i324 rfl (jv_ret_b (by decide))

set_option maxRecDepth 100000 in
/-- ProgramBoxModel$Store.take -/
theorem jx_e408 (p0 : Int32) (p1 : Int32) (p2 : Int32) (p3 : Int32) (p4 : Int32) (p5 : Int32) (g1 : ¬ p1.toInt64 < (0 : Int64)) (g2 : p1 < (0 : Int32)) : jv_Ms 347 [.ref 180, .int p1, .int p2] (jv_H (jx_K 227) jx_If jx_L0 (jx_R 227)) 228 1572956 (some (.int (0 : Int32)), (jv_H (jx_K 227) (jv_u jx_If 180 0 (1 : Int32)) jx_L0 (jx_R 227)), 228, 1572956) := by
  show jv_Ev 347 0 [(0, .ref 180), (1, .int p1), (2, .int p2)] [] (jv_H (jx_K 227) jx_If jx_L0 (jx_R 227)) 228 1572956 _
  refine jv_Ev.steps jv_i347 2 (pc' := 2) (l' := [(0, .ref 180), (1, .int p1), (2, .int p2)]) (st' := [.int p1, .ref 180]) rfl ?_
  refine jv_Ev.c jv_i347 (pc' := 5) (S' := [.int (1 : Int32)]) jv_i324 [.ref 180, .int p1] rfl rfl rfl rfl (jv_cal rfl (jv_H_at rfl) rfl rfl) rfl (jx_e407 p0 p1 p2 p3 p4 p5 g1 g2) rfl rfl ?_
  refine jv_Ev.br jv_i347 (pc' := 8) (st' := []) rfl (jv_bi_eq.trans (jx_gof (by decide))) ?_
  refine jv_Ev.steps jv_i347 1 (pc' := 9) (l' := [(0, .ref 180), (1, .int p1), (2, .int p2)]) (st' := [.int (0 : Int32)]) rfl ?_
  exact jv_Ev.ret jv_i347 rfl rfl

set_option maxRecDepth 100000 in
/-- ProgramBoxModel$Store.thrown -/
theorem jx_e409 (p0 : Int32) (p1 : Int32) (p2 : Int32) (p3 : Int32) (p4 : Int32) (p5 : Int32) (g1 : ¬ p1.toInt64 < (0 : Int64)) (g2 : p1 < (0 : Int32)) : jv_Ms 318 [.ref 180] (jv_H (jx_K 227) (jv_u jx_If 180 0 (1 : Int32)) jx_L0 (jx_R 227)) 228 1572956 (some (.int (1 : Int32)), (jv_H (jx_K 227) (jv_u jx_If 180 0 (1 : Int32)) jx_L0 (jx_R 227)), 228, 1572956) := by
  show jv_Ev 318 0 [(0, .ref 180)] [] (jv_H (jx_K 227) (jv_u jx_If 180 0 (1 : Int32)) jx_L0 (jx_R 227)) 228 1572956 _
  refine jv_Ev.steps jv_i318 1 (pc' := 1) (l' := [(0, .ref 180)]) (st' := [.ref 180]) rfl ?_
  refine jv_Ev.m jv_i318 (pc' := 4) (st' := [.int (1 : Int32)]) rfl rfl (jv_m_getI rfl rfl rfl rfl) ?_
  exact jv_Ev.ret jv_i318 rfl rfl

set_option maxRecDepth 100000 in
/-- ProgramBoxModel.take -/
theorem jx_e410 (p0 : Int32) (p1 : Int32) (p2 : Int32) (p3 : Int32) (p4 : Int32) (p5 : Int32) (g1 : ¬ p1.toInt64 < (0 : Int64)) (g2 : p1 < (0 : Int32)) : jv_Ms 415 [.ref 178, .int p1, .int p2] (jv_H (jx_K 227) jx_If jx_L0 (jx_R 227)) 228 1572956 (some (.int (0 : Int32)), (jv_H (jx_K 227) (jv_u (jv_u jx_If 180 0 (1 : Int32)) 178 0 (1 : Int32)) jx_L0 (jx_R 227)), 228, 1572956) := by
  show jv_Ev 415 0 [(0, .ref 178), (1, .int p1), (2, .int p2)] [] (jv_H (jx_K 227) jx_If jx_L0 (jx_R 227)) 228 1572956 _
  refine jv_Ev.steps jv_i415 1 (pc' := 1) (l' := [(0, .ref 178), (1, .int p1), (2, .int p2)]) (st' := [.ref 178]) rfl ?_
  refine jv_Ev.m jv_i415 (pc' := 4) (st' := [.ref 180]) rfl rfl (jv_m_getR rfl rfl rfl rfl) ?_
  refine jv_Ev.steps jv_i415 2 (pc' := 6) (l' := [(0, .ref 178), (1, .int p1), (2, .int p2)]) (st' := [.int p2, .int p1, .ref 180]) rfl ?_
  refine jv_Ev.c jv_i415 (pc' := 9) (S' := [.int (0 : Int32)]) jv_i347 [.ref 180, .int p1, .int p2] rfl rfl rfl rfl (jv_cal rfl (jv_H_at rfl) rfl rfl) rfl (jx_e408 p0 p1 p2 p3 p4 p5 g1 g2) rfl rfl ?_
  refine jv_Ev.steps jv_i415 3 (pc' := 12) (l' := [(3, .int (0 : Int32)), (0, .ref 178), (1, .int p1), (2, .int p2)]) (st' := [.ref 178, .ref 178]) rfl ?_
  refine jv_Ev.m jv_i415 (pc' := 15) (st' := [.ref 180, .ref 178]) rfl rfl (jv_m_getR rfl rfl rfl rfl) ?_
  refine jv_Ev.c jv_i415 (pc' := 18) (S' := [.int (1 : Int32), .ref 178]) jv_i318 [.ref 180] rfl rfl rfl rfl (jv_cal rfl (jv_H_at rfl) rfl rfl) rfl (jx_e409 p0 p1 p2 p3 p4 p5 g1 g2) rfl rfl ?_
  refine jv_Ev.m jv_i415 (pc' := 21) (st' := []) rfl rfl (jv_m_putI rfl rfl rfl rfl rfl) ?_
  refine jv_Ev.steps jv_i415 1 (pc' := 22) (l' := [(3, .int (0 : Int32)), (0, .ref 178), (1, .int p1), (2, .int p2)]) (st' := [.int (0 : Int32)]) rfl ?_
  exact jv_Ev.ret jv_i415 rfl rfl

set_option maxRecDepth 100000 in
/-- ProgramBoxModel.thrown -/
theorem jx_e411 (p0 : Int32) (p1 : Int32) (p2 : Int32) (p3 : Int32) (p4 : Int32) (p5 : Int32) (g1 : ¬ p1.toInt64 < (0 : Int64)) (g2 : p1 < (0 : Int32)) : jv_Ms 350 [.ref 178] (jv_H (jx_K 227) (jv_u (jv_u jx_If 180 0 (1 : Int32)) 178 0 (1 : Int32)) jx_L0 (jx_R 227)) 228 1572956 (some (.int (1 : Int32)), (jv_H (jx_K 227) (jv_u (jv_u jx_If 180 0 (1 : Int32)) 178 0 (1 : Int32)) jx_L0 (jx_R 227)), 228, 1572956) := by
  show jv_Ev 350 0 [(0, .ref 178)] [] (jv_H (jx_K 227) (jv_u (jv_u jx_If 180 0 (1 : Int32)) 178 0 (1 : Int32)) jx_L0 (jx_R 227)) 228 1572956 _
  refine jv_Ev.steps jv_i350 1 (pc' := 1) (l' := [(0, .ref 178)]) (st' := [.ref 178]) rfl ?_
  refine jv_Ev.m jv_i350 (pc' := 4) (st' := [.int (1 : Int32)]) rfl rfl (jv_m_getI rfl rfl rfl rfl) ?_
  exact jv_Ev.ret jv_i350 rfl rfl

set_option maxRecDepth 100000 in
/-- the law: case 24, one way -/
theorem jx_l55 (p0 : Int32) (p1 : Int32) (p2 : Int32) (p3 : Int32) (p4 : Int32) (p5 : Int32) (g1 : ¬ p1.toInt64 < (0 : Int64)) (g2 : p1 < (0 : Int32)) (hsw : p0 &&& (31 : Int32) = (24 : Int32)) {p : Program} {l : Launch} {e : Env} {R : Room} {s : State} {m : MethodId} {args : Array Value} {below : List Frame} {meth : Method} {c : Code} {E : jv_Env} {Q : State → Prop} (hTb : jv_TOk jv_Tb) (hT2 : jx_T2Ok) (hl : l.stackTraces = false) (F : jx_F jv_T2 439 E p R s m args meth c) (hZ : jx_Z E s) (hRc : R.cells = 600002) (hRs : R.slots = 7302232) {bb : Nat} {xs : Nat → Int32} (hX : va_X bb 6 xs s E.2.2.2.2) (hbB : bb < E.2.2.2.1) (hE2 : E.1 1000002 = bb) (hQ : ∀ (l0 : jv_L) (G : jv_G) (n sl : Nat), n ≤ 600002 → sl ≤ 7302232 → jw p l e R s m args below meth c E 8 0 0 Q 1532 l0 [.int (1 : Int32)] G n sl) (q0 : xs 0 = p0) (q1 : xs 1 = p1) (q2 : xs 2 = p2) (q3 : xs 3 = p3) (q4 : xs 4 = p4) (q5 : xs 5 = p5) : jw p l e R s m args below meth c E 8 0 0 Q 33 [(0, .ref 1000002), (1, .ref 0), (2, .ref 178), (3, .ref 226), (4, .int (0 : Int32))] [] (jv_H (jx_K 227) jx_If jx_L0 (jx_R 227)) 227 1572950 := by
  refine jw.steps F jx_i439 2 (pc' := 36) (l' := [(0, .ref 1000002), (1, .ref 0), (2, .ref 178), (3, .ref 226), (4, .int (0 : Int32))]) (st' := [.int (0 : Int32), .ref 1000002]) rfl ?_
  refine jw.sld F jx_i439 hX hbB hE2 (pc' := 37) rfl rfl (show vp_in (nI 0) 6 from vp_in_nI (by decide) (by decide)) q0 rfl ?_
  refine jw.steps F jx_i439 2 (pc' := 40) (l' := [(0, .ref 1000002), (1, .ref 0), (2, .ref 178), (3, .ref 226), (4, .int (0 : Int32))]) (st' := [.int (p0 &&& (31 : Int32))]) rfl ?_
  refine jw.br F jx_i439 (pc' := 1364) (st' := []) rfl (by rw [hsw]; rfl) ?_
  refine jw.steps F jx_i439 5 (pc' := 1370) (l' := [(0, .ref 1000002), (1, .ref 0), (2, .ref 178), (3, .ref 226), (4, .int (0 : Int32))]) (st' := [.int (1 : Int32), .ref 1000002, .ref 0]) rfl ?_
  refine jw.sld F jx_i439 hX hbB hE2 (pc' := 1371) rfl rfl (show vp_in (nI 1) 6 from vp_in_nI (by decide) (by decide)) q1 rfl ?_
  refine jw.steps F jx_i439 4 (pc' := 1376) (l' := [(0, .ref 1000002), (1, .ref 0), (2, .ref 178), (3, .ref 226), (4, .int (0 : Int32))]) (st' := [.int (2 : Int32), .ref 1000002, .int p1, .ref 0]) rfl ?_
  refine jw.sld F jx_i439 hX hbB hE2 (pc' := 1377) rfl rfl (show vp_in (nI 2) 6 from vp_in_nI (by decide) (by decide)) q2 rfl ?_
  refine jw.steps F jx_i439 1 (pc' := 1378) (l' := [(0, .ref 1000002), (1, .ref 0), (2, .ref 178), (3, .ref 226), (4, .int (0 : Int32))]) (st' := [.ref 226, .int p2, .int p1, .ref 0]) rfl ?_
  refine jw.wr F hl hZ rfl jx_i439 jx_i456 [.ref 0, .int p1, .int p2, .ref 226] (pc' := 1381) (S' := [.int (1 : Int32)]) rfl (List.mem_of_getElem? (i := 16) rfl) (List.mem_of_getElem? (i := 16) rfl) rfl rfl rfl (jx_w406 hTb hT2 p0 p1 p2 p3 p4 p5 g1 g2) (by omega) (by omega) (by omega) (by omega) rfl rfl ?_
  refine jw.steps F jx_i439 6 (pc' := 1389) (l' := [(5, .int (1 : Int32)), (0, .ref 1000002), (1, .ref 0), (2, .ref 178), (3, .ref 226), (4, .int (0 : Int32))]) (st' := [.int (1 : Int32), .ref 1000002, .ref 178]) rfl ?_
  refine jw.sld F jx_i439 hX hbB hE2 (pc' := 1390) rfl rfl (show vp_in (nI 1) 6 from vp_in_nI (by decide) (by decide)) q1 rfl ?_
  refine jw.steps F jx_i439 4 (pc' := 1395) (l' := [(5, .int (1 : Int32)), (0, .ref 1000002), (1, .ref 0), (2, .ref 178), (3, .ref 226), (4, .int (0 : Int32))]) (st' := [.int (2 : Int32), .ref 1000002, .int p1, .ref 178]) rfl ?_
  refine jw.sld F jx_i439 hX hbB hE2 (pc' := 1396) rfl rfl (show vp_in (nI 2) 6 from vp_in_nI (by decide) (by decide)) q2 rfl ?_
  refine jw.ca hTb F jx_i439 (pc' := 1399) (S' := [.int (0 : Int32)]) rfl jv_i415 [.ref 178, .int p1, .int p2] rfl rfl rfl rfl (jx_cal2 rfl (jv_H_at rfl) rfl rfl) rfl (jx_e410 p0 p1 p2 p3 p4 p5 g1 g2) (by omega) (by omega) rfl rfl ?_
  refine jw.steps F jx_i439 2 (pc' := 1402) (l' := [(6, .int (0 : Int32)), (5, .int (1 : Int32)), (0, .ref 1000002), (1, .ref 0), (2, .ref 178), (3, .ref 226), (4, .int (0 : Int32))]) (st' := [.ref 178]) rfl ?_
  refine jw.ca hTb F jx_i439 (pc' := 1405) (S' := [.int (1 : Int32)]) rfl jv_i350 [.ref 178] rfl rfl rfl rfl (jx_cal2 rfl (jv_H_at rfl) rfl rfl) rfl (jx_e411 p0 p1 p2 p3 p4 p5 g1 g2) (by omega) (by omega) rfl rfl ?_
  refine jw.steps F jx_i439 1 (pc' := 1407) (l' := [(6, .int (0 : Int32)), (5, .int (1 : Int32)), (0, .ref 1000002), (1, .ref 0), (2, .ref 178), (3, .ref 226), (4, .int (0 : Int32))]) (st' := [.int (1 : Int32), .int (1 : Int32)]) rfl ?_
  refine jw.br F jx_i439 (pc' := 1412) (st' := []) rfl (jv_bc_eq.trans (jx_got (by decide))) ?_
  refine jw.steps F jx_i439 1 (pc' := 1414) (l' := [(6, .int (0 : Int32)), (5, .int (1 : Int32)), (0, .ref 1000002), (1, .ref 0), (2, .ref 178), (3, .ref 226), (4, .int (0 : Int32))]) (st' := [.int (1 : Int32)]) rfl ?_
  refine jw.br F jx_i439 (pc' := 1429) (st' := []) rfl (jv_bi_ne.trans (jx_got (by decide))) ?_
  refine jw.steps F jx_i439 5 (pc' := 26) (l' := [(4, .int (6 : Int32)), (6, .int (0 : Int32)), (5, .int (1 : Int32)), (0, .ref 1000002), (1, .ref 0), (2, .ref 178), (3, .ref 226)]) (st' := [.ref 1000002, .int (6 : Int32)]) rfl ?_
  refine jw.slen F jx_i439 hX hbB hE2 (pc' := 27) rfl rfl rfl ?_
  refine jw.steps F jx_i439 2 (pc' := 30) (l' := [(4, .int (6 : Int32)), (6, .int (0 : Int32)), (5, .int (1 : Int32)), (0, .ref 1000002), (1, .ref 0), (2, .ref 178), (3, .ref 226)]) (st' := [.int (0 : Int32), .int (6 : Int32)]) rfl ?_
  refine jw.br F jx_i439 (pc' := 1531) (st' := []) rfl (jv_bc_gt.trans (jx_got (by decide))) ?_
  refine jw.steps F jx_i439 1 (pc' := 1532) (l' := [(4, .int (6 : Int32)), (6, .int (0 : Int32)), (5, .int (1 : Int32)), (0, .ref 1000002), (1, .ref 0), (2, .ref 178), (3, .ref 226)]) (st' := [.int (1 : Int32)]) rfl ?_
  exact hQ _ _ _ _ (by omega) (by omega)

set_option maxRecDepth 100000 in
/-- ProgramBox$Store.map -/
theorem jx_e412 (p0 : Int32) (p1 : Int32) (p2 : Int32) (p3 : Int32) (p4 : Int32) (p5 : Int32) (g1 : ¬ p1.toInt64 < (0 : Int64)) (g2 : ¬ p1 < (0 : Int32)) : jv_Ms 126 [.ref 2, .long p1.toInt64] (jv_H (jx_K 227) jx_If jx_L0 (jx_R 227)) 227 1572950 (some (.null), (jv_H (jx_K 227) jx_If jx_L0 (jx_R 227)), 227, 1572950) := by
  show jv_Ev 126 0 [(0, .ref 2), (1, .long p1.toInt64)] [] (jv_H (jx_K 227) jx_If jx_L0 (jx_R 227)) 227 1572950 _
  refine jv_Ev.steps jv_i126 3 (pc' := 3) (l' := [(0, .ref 2), (1, .long p1.toInt64)]) (st' := [.int (lg_cmp p1.toInt64 (0 : Int64))]) rfl ?_
  refine jv_Ev.br jv_i126 (pc' := 6) (st' := []) rfl (jv_bi_lt.trans (jx_gof (fun h => g1 ((lg_cmp_lt p1.toInt64 (0 : Int64)).mp h)))) ?_
  refine jv_Ev.steps jv_i126 2 (pc' := 8) (l' := [(0, .ref 2), (1, .long p1.toInt64)]) (st' := [.ref 2, .long p1.toInt64]) rfl ?_
  refine jv_Ev.m jv_i126 (pc' := 11) (st' := [.int (0 : Int32), .long p1.toInt64]) rfl rfl (jv_m_getI rfl rfl rfl rfl) ?_
  refine jv_Ev.steps jv_i126 2 (pc' := 13) (l' := [(0, .ref 2), (1, .long p1.toInt64)]) (st' := [.int (lg_cmp p1.toInt64 (0 : Int64))]) rfl ?_
  refine jv_Ev.br jv_i126 (pc' := 16) (st' := []) rfl (jv_bi_lt.trans (jx_gof (fun h => g1 ((lg_cmp_lt p1.toInt64 (0 : Int64)).mp h)))) ?_
  refine jv_Ev.steps jv_i126 2 (pc' := 27) (l' := [(0, .ref 2), (1, .long p1.toInt64)]) (st' := [.null]) rfl ?_
  exact jv_Ev.ret jv_i126 rfl rfl

set_option maxRecDepth 100000 in
/-- ProgramBox.mapOf: it throws -/
theorem jx_e413 (hTb : jv_TOk jv_Tb) (p0 : Int32) (p1 : Int32) (p2 : Int32) (p3 : Int32) (p4 : Int32) (p5 : Int32) (g1 : ¬ p1.toInt64 < (0 : Int64)) (g2 : ¬ p1 < (0 : Int32)) : jx_Th 429 [.ref 0, .int p1] (jv_H (jx_K 227) jx_If jx_L0 (jx_R 227)) 227 1572950 2 (jv_H (jx_K 227) jx_If jx_L0 (jx_R 227)) 228 1572956 := by
  refine jx_Th.of hTb (y := 429) rfl (Nat.le_of_ble_eq_true rfl) ?_
  intro p l e R s m args below meth c E hl F hZ h0 ht hRc hRs
  show jw p l e R s m args below meth c E 3 227 1572950 _ 0 [(0, .ref 0), (1, .int p1)] [] (jv_H (jx_K 227) jx_If jx_L0 (jx_R 227)) 227 1572950
  refine jw.steps F jv_i429 1 (pc' := 1) (l' := [(0, .ref 0), (1, .int p1)]) (st' := [.ref 0]) rfl ?_
  refine jw.me F jv_i429 (pc' := 4) (st' := [.ref 2]) rfl rfl (jv_m_getR rfl rfl rfl rfl) ?_
  refine jw.steps F jv_i429 2 (pc' := 6) (l' := [(0, .ref 0), (1, .int p1)]) (st' := [.long p1.toInt64, .ref 2]) rfl ?_
  refine jw.ca hTb F jv_i429 (pc' := 9) (S' := [.null]) rfl jv_i126 [.ref 2, .long p1.toInt64] rfl rfl rfl rfl (jv_cal rfl (jv_H_at rfl) rfl rfl) rfl (jx_e412 p0 p1 p2 p3 p4 p5 g1 g2) (by omega) (by omega) rfl rfl ?_
  refine jw.steps F jv_i429 2 (pc' := 11) (l' := [(2, .null), (0, .ref 0), (1, .int p1)]) (st' := [.null]) rfl ?_
  refine jw.br F jv_i429 (pc' := 14) (st' := []) rfl rfl ?_
  exact jw.throw hl F hZ h0 rfl jv_i429 ht 2 183 "there is no such map" (List.mem_of_getElem? (i := 11) rfl) (by decide +kernel) (by decide +kernel) (by decide +kernel) (by decide +kernel) (by decide +kernel) rfl (by decide) (by decide) (by decide) (by omega) (by omega)

set_option maxRecDepth 100000 in
/-- ProgramBox.take: it throws -/
theorem jx_e414 (hTb : jv_TOk jv_Tb) (p0 : Int32) (p1 : Int32) (p2 : Int32) (p3 : Int32) (p4 : Int32) (p5 : Int32) (g1 : ¬ p1.toInt64 < (0 : Int64)) (g2 : ¬ p1 < (0 : Int32)) : jx_Th 437 [.ref 0, .int p1, .int p2] (jv_H (jx_K 227) jx_If jx_L0 (jx_R 227)) 227 1572950 2 (jv_H (jx_K 227) jx_If jx_L0 (jx_R 227)) 228 1572956 := by
  refine jx_Th.of hTb (y := 437) rfl (Nat.le_of_ble_eq_true rfl) ?_
  intro p l e R s m args below meth c E hl F hZ h0 ht hRc hRs
  show jw p l e R s m args below meth c E 5 227 1572950 _ 0 [(0, .ref 0), (1, .int p1), (2, .int p2)] [] (jv_H (jx_K 227) jx_If jx_L0 (jx_R 227)) 227 1572950
  refine jw.steps F jv_i437 2 (pc' := 2) (l' := [(0, .ref 0), (1, .int p1), (2, .int p2)]) (st' := [.int p1, .ref 0]) rfl ?_
  exact jw.prop hTb hl F hZ jv_i437 ht rfl jv_i429 [.ref 0, .int p1] rfl rfl rfl rfl rfl (jv_cal rfl (jv_H_at rfl) rfl rfl) rfl (jx_e413 hTb p0 p1 p2 p3 p4 p5 g1 g2) (by omega) (by omega) (by omega) (by omega)

set_option maxRecDepth 100000 in
/-- the law's take -/
theorem jx_w415 (hTb : jv_TOk jv_Tb) (hT2 : jx_T2Ok) (p0 : Int32) (p1 : Int32) (p2 : Int32) (p3 : Int32) (p4 : Int32) (p5 : Int32) (g1 : ¬ p1.toInt64 < (0 : Int64)) (g2 : ¬ p1 < (0 : Int32)) : jx_Wr 456 [(0, 10, 13, 36)] [.ref 0, .int p1, .int p2, .ref 226] (jv_H (jx_K 227) jx_If jx_L0 (jx_R 227)) 227 1572950 (some (.int (1 : Int32)), (jv_H (jx_K 227) jx_If jx_L0 (jx_R 227)), 228, 1572956) := by
  refine jx_Wr.of hT2 (by decide) rfl (Nat.le_of_ble_eq_true rfl) ?_
  intro p l e R s m args below meth c E hl F hZ htb hRc hRs
  show jw p l e R s m args below meth c E 5 227 1572950 _ 0 [(0, .ref 0), (1, .int p1), (2, .int p2), (3, .ref 226)] [] (jv_H (jx_K 227) jx_If jx_L0 (jx_R 227)) 227 1572950
  have hRc : R.cells = 228 - 227 := hRc
  have hRs : R.slots = 1572956 - 1572950 := hRs
  refine jw.steps F jx_i456 5 (pc' := 5) (l' := [(0, .ref 0), (1, .int p1), (2, .int p2), (3, .ref 226)]) (st' := [.int p2, .int p1, .ref 0, .int (0 : Int32), .ref 226]) rfl ?_
  refine jw.cat hTb hl F hZ rfl jx_i456 htb rfl jv_i437 [.ref 0, .int p1, .int p2] rfl rfl rfl rfl rfl (jx_cal2 rfl (jv_H_at rfl) rfl rfl) rfl (jx_e414 hTb p0 p1 p2 p3 p4 p5 g1 g2) (by omega) (by omega) (by omega) (by omega) [] (0, 10, 13, 36) [] rfl (fun z h => absurd h List.not_mem_nil) (by decide) rfl rfl (Or.inl ⟨rfl, rfl⟩) (by decide) ?_
  refine jw.steps F jx_i456 1 (pc' := 16) (l' := []) (st' := [.int (1 : Int32)]) rfl ?_
  exact jw.ret F jx_i456 rfl rfl

set_option maxRecDepth 100000 in
/-- ProgramBoxModel$Store.noMap -/
theorem jx_e416 (p0 : Int32) (p1 : Int32) (p2 : Int32) (p3 : Int32) (p4 : Int32) (p5 : Int32) (g1 : ¬ p1.toInt64 < (0 : Int64)) (g2 : ¬ p1 < (0 : Int32)) : jv_Ms 324 [.ref 180, .int p1] (jv_H (jx_K 227) jx_If jx_L0 (jx_R 227)) 228 1572956 (some (.int (1 : Int32)), (jv_H (jx_K 227) (jv_u jx_If 180 0 (1 : Int32)) jx_L0 (jx_R 227)), 228, 1572956) := by
  show jv_Ev 324 0 [(0, .ref 180), (1, .int p1)] [] (jv_H (jx_K 227) jx_If jx_L0 (jx_R 227)) 228 1572956 _
  refine jv_Ev.steps jv_i324 2 (pc' := 2) (l' := [(0, .ref 180), (1, .int p1)]) (st' := [.int p1, .ref 180]) rfl ?_
  refine jv_Ev.br jv_i324 (pc' := 5) (st' := [.ref 180]) rfl (jv_bi_lt.trans (jx_gof g2)) ?_
  refine jv_Ev.steps jv_i324 2 (pc' := 7) (l' := [(0, .ref 180), (1, .int p1)]) (st' := [.ref 180, .int p1, .ref 180]) rfl ?_
  refine jv_Ev.m jv_i324 (pc' := 10) (st' := [.int (0 : Int32), .int p1, .ref 180]) rfl rfl (jv_m_getI rfl rfl rfl rfl) ?_
  refine jv_Ev.br jv_i324 (pc' := 13) (st' := [.ref 180]) rfl (jv_bc_lt.trans (jx_gof g2)) ?_
  refine jv_Ev.steps jv_i324 2 (pc' := 18) (l' := [(0, .ref 180), (1, .int p1)]) (st' := [.int (1 : Int32), .ref 180]) rfl ?_
  refine jv_Ev.m jv_i324 (pc' := 21) (st' := []) rfl rfl (jv_m_putI rfl rfl rfl rfl rfl) ?_
  refine jv_Ev.steps jv_i324 1 (pc' := 22) (l' := [(0, .ref 180), (1, .int p1)]) (st' := [.ref 180]) rfl ?_
  refine jv_Ev.m jv_i324 (pc' := 25) (st' := [.int (1 : Int32)]) rfl rfl (jv_m_getI rfl rfl rfl rfl) ?_
  refine jv_Ev.br jv_i324 (pc' := 28) (st' := []) rfl (jv_bi_le.trans (jx_gof (by decide))) ?_
  refine jv_Ev.steps jv_i324 2 (pc' := 33) (l' := [(0, .ref 180), (1, .int p1)]) (st' := [.int (1 : Int32)]) rfl ?_
  exact jv_Ev.ret jv_i324 rfl (jv_ret_b (by decide))

set_option maxRecDepth 100000 in
/-- ProgramBoxModel$Store.take -/
theorem jx_e417 (p0 : Int32) (p1 : Int32) (p2 : Int32) (p3 : Int32) (p4 : Int32) (p5 : Int32) (g1 : ¬ p1.toInt64 < (0 : Int64)) (g2 : ¬ p1 < (0 : Int32)) : jv_Ms 347 [.ref 180, .int p1, .int p2] (jv_H (jx_K 227) jx_If jx_L0 (jx_R 227)) 228 1572956 (some (.int (0 : Int32)), (jv_H (jx_K 227) (jv_u jx_If 180 0 (1 : Int32)) jx_L0 (jx_R 227)), 228, 1572956) := by
  show jv_Ev 347 0 [(0, .ref 180), (1, .int p1), (2, .int p2)] [] (jv_H (jx_K 227) jx_If jx_L0 (jx_R 227)) 228 1572956 _
  refine jv_Ev.steps jv_i347 2 (pc' := 2) (l' := [(0, .ref 180), (1, .int p1), (2, .int p2)]) (st' := [.int p1, .ref 180]) rfl ?_
  refine jv_Ev.c jv_i347 (pc' := 5) (S' := [.int (1 : Int32)]) jv_i324 [.ref 180, .int p1] rfl rfl rfl rfl (jv_cal rfl (jv_H_at rfl) rfl rfl) rfl (jx_e416 p0 p1 p2 p3 p4 p5 g1 g2) rfl rfl ?_
  refine jv_Ev.br jv_i347 (pc' := 8) (st' := []) rfl (jv_bi_eq.trans (jx_gof (by decide))) ?_
  refine jv_Ev.steps jv_i347 1 (pc' := 9) (l' := [(0, .ref 180), (1, .int p1), (2, .int p2)]) (st' := [.int (0 : Int32)]) rfl ?_
  exact jv_Ev.ret jv_i347 rfl rfl

set_option maxRecDepth 100000 in
/-- ProgramBoxModel$Store.thrown -/
theorem jx_e418 (p0 : Int32) (p1 : Int32) (p2 : Int32) (p3 : Int32) (p4 : Int32) (p5 : Int32) (g1 : ¬ p1.toInt64 < (0 : Int64)) (g2 : ¬ p1 < (0 : Int32)) : jv_Ms 318 [.ref 180] (jv_H (jx_K 227) (jv_u jx_If 180 0 (1 : Int32)) jx_L0 (jx_R 227)) 228 1572956 (some (.int (1 : Int32)), (jv_H (jx_K 227) (jv_u jx_If 180 0 (1 : Int32)) jx_L0 (jx_R 227)), 228, 1572956) := by
  show jv_Ev 318 0 [(0, .ref 180)] [] (jv_H (jx_K 227) (jv_u jx_If 180 0 (1 : Int32)) jx_L0 (jx_R 227)) 228 1572956 _
  refine jv_Ev.steps jv_i318 1 (pc' := 1) (l' := [(0, .ref 180)]) (st' := [.ref 180]) rfl ?_
  refine jv_Ev.m jv_i318 (pc' := 4) (st' := [.int (1 : Int32)]) rfl rfl (jv_m_getI rfl rfl rfl rfl) ?_
  exact jv_Ev.ret jv_i318 rfl rfl

set_option maxRecDepth 100000 in
/-- ProgramBoxModel.take -/
theorem jx_e419 (p0 : Int32) (p1 : Int32) (p2 : Int32) (p3 : Int32) (p4 : Int32) (p5 : Int32) (g1 : ¬ p1.toInt64 < (0 : Int64)) (g2 : ¬ p1 < (0 : Int32)) : jv_Ms 415 [.ref 178, .int p1, .int p2] (jv_H (jx_K 227) jx_If jx_L0 (jx_R 227)) 228 1572956 (some (.int (0 : Int32)), (jv_H (jx_K 227) (jv_u (jv_u jx_If 180 0 (1 : Int32)) 178 0 (1 : Int32)) jx_L0 (jx_R 227)), 228, 1572956) := by
  show jv_Ev 415 0 [(0, .ref 178), (1, .int p1), (2, .int p2)] [] (jv_H (jx_K 227) jx_If jx_L0 (jx_R 227)) 228 1572956 _
  refine jv_Ev.steps jv_i415 1 (pc' := 1) (l' := [(0, .ref 178), (1, .int p1), (2, .int p2)]) (st' := [.ref 178]) rfl ?_
  refine jv_Ev.m jv_i415 (pc' := 4) (st' := [.ref 180]) rfl rfl (jv_m_getR rfl rfl rfl rfl) ?_
  refine jv_Ev.steps jv_i415 2 (pc' := 6) (l' := [(0, .ref 178), (1, .int p1), (2, .int p2)]) (st' := [.int p2, .int p1, .ref 180]) rfl ?_
  refine jv_Ev.c jv_i415 (pc' := 9) (S' := [.int (0 : Int32)]) jv_i347 [.ref 180, .int p1, .int p2] rfl rfl rfl rfl (jv_cal rfl (jv_H_at rfl) rfl rfl) rfl (jx_e417 p0 p1 p2 p3 p4 p5 g1 g2) rfl rfl ?_
  refine jv_Ev.steps jv_i415 3 (pc' := 12) (l' := [(3, .int (0 : Int32)), (0, .ref 178), (1, .int p1), (2, .int p2)]) (st' := [.ref 178, .ref 178]) rfl ?_
  refine jv_Ev.m jv_i415 (pc' := 15) (st' := [.ref 180, .ref 178]) rfl rfl (jv_m_getR rfl rfl rfl rfl) ?_
  refine jv_Ev.c jv_i415 (pc' := 18) (S' := [.int (1 : Int32), .ref 178]) jv_i318 [.ref 180] rfl rfl rfl rfl (jv_cal rfl (jv_H_at rfl) rfl rfl) rfl (jx_e418 p0 p1 p2 p3 p4 p5 g1 g2) rfl rfl ?_
  refine jv_Ev.m jv_i415 (pc' := 21) (st' := []) rfl rfl (jv_m_putI rfl rfl rfl rfl rfl) ?_
  refine jv_Ev.steps jv_i415 1 (pc' := 22) (l' := [(3, .int (0 : Int32)), (0, .ref 178), (1, .int p1), (2, .int p2)]) (st' := [.int (0 : Int32)]) rfl ?_
  exact jv_Ev.ret jv_i415 rfl rfl

set_option maxRecDepth 100000 in
/-- ProgramBoxModel.thrown -/
theorem jx_e420 (p0 : Int32) (p1 : Int32) (p2 : Int32) (p3 : Int32) (p4 : Int32) (p5 : Int32) (g1 : ¬ p1.toInt64 < (0 : Int64)) (g2 : ¬ p1 < (0 : Int32)) : jv_Ms 350 [.ref 178] (jv_H (jx_K 227) (jv_u (jv_u jx_If 180 0 (1 : Int32)) 178 0 (1 : Int32)) jx_L0 (jx_R 227)) 228 1572956 (some (.int (1 : Int32)), (jv_H (jx_K 227) (jv_u (jv_u jx_If 180 0 (1 : Int32)) 178 0 (1 : Int32)) jx_L0 (jx_R 227)), 228, 1572956) := by
  show jv_Ev 350 0 [(0, .ref 178)] [] (jv_H (jx_K 227) (jv_u (jv_u jx_If 180 0 (1 : Int32)) 178 0 (1 : Int32)) jx_L0 (jx_R 227)) 228 1572956 _
  refine jv_Ev.steps jv_i350 1 (pc' := 1) (l' := [(0, .ref 178)]) (st' := [.ref 178]) rfl ?_
  refine jv_Ev.m jv_i350 (pc' := 4) (st' := [.int (1 : Int32)]) rfl rfl (jv_m_getI rfl rfl rfl rfl) ?_
  exact jv_Ev.ret jv_i350 rfl rfl

set_option maxRecDepth 100000 in
/-- the law: case 24, one way -/
theorem jx_l56 (p0 : Int32) (p1 : Int32) (p2 : Int32) (p3 : Int32) (p4 : Int32) (p5 : Int32) (g1 : ¬ p1.toInt64 < (0 : Int64)) (g2 : ¬ p1 < (0 : Int32)) (hsw : p0 &&& (31 : Int32) = (24 : Int32)) {p : Program} {l : Launch} {e : Env} {R : Room} {s : State} {m : MethodId} {args : Array Value} {below : List Frame} {meth : Method} {c : Code} {E : jv_Env} {Q : State → Prop} (hTb : jv_TOk jv_Tb) (hT2 : jx_T2Ok) (hl : l.stackTraces = false) (F : jx_F jv_T2 439 E p R s m args meth c) (hZ : jx_Z E s) (hRc : R.cells = 600002) (hRs : R.slots = 7302232) {bb : Nat} {xs : Nat → Int32} (hX : va_X bb 6 xs s E.2.2.2.2) (hbB : bb < E.2.2.2.1) (hE2 : E.1 1000002 = bb) (hQ : ∀ (l0 : jv_L) (G : jv_G) (n sl : Nat), n ≤ 600002 → sl ≤ 7302232 → jw p l e R s m args below meth c E 8 0 0 Q 1532 l0 [.int (1 : Int32)] G n sl) (q0 : xs 0 = p0) (q1 : xs 1 = p1) (q2 : xs 2 = p2) (q3 : xs 3 = p3) (q4 : xs 4 = p4) (q5 : xs 5 = p5) : jw p l e R s m args below meth c E 8 0 0 Q 33 [(0, .ref 1000002), (1, .ref 0), (2, .ref 178), (3, .ref 226), (4, .int (0 : Int32))] [] (jv_H (jx_K 227) jx_If jx_L0 (jx_R 227)) 227 1572950 := by
  refine jw.steps F jx_i439 2 (pc' := 36) (l' := [(0, .ref 1000002), (1, .ref 0), (2, .ref 178), (3, .ref 226), (4, .int (0 : Int32))]) (st' := [.int (0 : Int32), .ref 1000002]) rfl ?_
  refine jw.sld F jx_i439 hX hbB hE2 (pc' := 37) rfl rfl (show vp_in (nI 0) 6 from vp_in_nI (by decide) (by decide)) q0 rfl ?_
  refine jw.steps F jx_i439 2 (pc' := 40) (l' := [(0, .ref 1000002), (1, .ref 0), (2, .ref 178), (3, .ref 226), (4, .int (0 : Int32))]) (st' := [.int (p0 &&& (31 : Int32))]) rfl ?_
  refine jw.br F jx_i439 (pc' := 1364) (st' := []) rfl (by rw [hsw]; rfl) ?_
  refine jw.steps F jx_i439 5 (pc' := 1370) (l' := [(0, .ref 1000002), (1, .ref 0), (2, .ref 178), (3, .ref 226), (4, .int (0 : Int32))]) (st' := [.int (1 : Int32), .ref 1000002, .ref 0]) rfl ?_
  refine jw.sld F jx_i439 hX hbB hE2 (pc' := 1371) rfl rfl (show vp_in (nI 1) 6 from vp_in_nI (by decide) (by decide)) q1 rfl ?_
  refine jw.steps F jx_i439 4 (pc' := 1376) (l' := [(0, .ref 1000002), (1, .ref 0), (2, .ref 178), (3, .ref 226), (4, .int (0 : Int32))]) (st' := [.int (2 : Int32), .ref 1000002, .int p1, .ref 0]) rfl ?_
  refine jw.sld F jx_i439 hX hbB hE2 (pc' := 1377) rfl rfl (show vp_in (nI 2) 6 from vp_in_nI (by decide) (by decide)) q2 rfl ?_
  refine jw.steps F jx_i439 1 (pc' := 1378) (l' := [(0, .ref 1000002), (1, .ref 0), (2, .ref 178), (3, .ref 226), (4, .int (0 : Int32))]) (st' := [.ref 226, .int p2, .int p1, .ref 0]) rfl ?_
  refine jw.wr F hl hZ rfl jx_i439 jx_i456 [.ref 0, .int p1, .int p2, .ref 226] (pc' := 1381) (S' := [.int (1 : Int32)]) rfl (List.mem_of_getElem? (i := 16) rfl) (List.mem_of_getElem? (i := 16) rfl) rfl rfl rfl (jx_w415 hTb hT2 p0 p1 p2 p3 p4 p5 g1 g2) (by omega) (by omega) (by omega) (by omega) rfl rfl ?_
  refine jw.steps F jx_i439 6 (pc' := 1389) (l' := [(5, .int (1 : Int32)), (0, .ref 1000002), (1, .ref 0), (2, .ref 178), (3, .ref 226), (4, .int (0 : Int32))]) (st' := [.int (1 : Int32), .ref 1000002, .ref 178]) rfl ?_
  refine jw.sld F jx_i439 hX hbB hE2 (pc' := 1390) rfl rfl (show vp_in (nI 1) 6 from vp_in_nI (by decide) (by decide)) q1 rfl ?_
  refine jw.steps F jx_i439 4 (pc' := 1395) (l' := [(5, .int (1 : Int32)), (0, .ref 1000002), (1, .ref 0), (2, .ref 178), (3, .ref 226), (4, .int (0 : Int32))]) (st' := [.int (2 : Int32), .ref 1000002, .int p1, .ref 178]) rfl ?_
  refine jw.sld F jx_i439 hX hbB hE2 (pc' := 1396) rfl rfl (show vp_in (nI 2) 6 from vp_in_nI (by decide) (by decide)) q2 rfl ?_
  refine jw.ca hTb F jx_i439 (pc' := 1399) (S' := [.int (0 : Int32)]) rfl jv_i415 [.ref 178, .int p1, .int p2] rfl rfl rfl rfl (jx_cal2 rfl (jv_H_at rfl) rfl rfl) rfl (jx_e419 p0 p1 p2 p3 p4 p5 g1 g2) (by omega) (by omega) rfl rfl ?_
  refine jw.steps F jx_i439 2 (pc' := 1402) (l' := [(6, .int (0 : Int32)), (5, .int (1 : Int32)), (0, .ref 1000002), (1, .ref 0), (2, .ref 178), (3, .ref 226), (4, .int (0 : Int32))]) (st' := [.ref 178]) rfl ?_
  refine jw.ca hTb F jx_i439 (pc' := 1405) (S' := [.int (1 : Int32)]) rfl jv_i350 [.ref 178] rfl rfl rfl rfl (jx_cal2 rfl (jv_H_at rfl) rfl rfl) rfl (jx_e420 p0 p1 p2 p3 p4 p5 g1 g2) (by omega) (by omega) rfl rfl ?_
  refine jw.steps F jx_i439 1 (pc' := 1407) (l' := [(6, .int (0 : Int32)), (5, .int (1 : Int32)), (0, .ref 1000002), (1, .ref 0), (2, .ref 178), (3, .ref 226), (4, .int (0 : Int32))]) (st' := [.int (1 : Int32), .int (1 : Int32)]) rfl ?_
  refine jw.br F jx_i439 (pc' := 1412) (st' := []) rfl (jv_bc_eq.trans (jx_got (by decide))) ?_
  refine jw.steps F jx_i439 1 (pc' := 1414) (l' := [(6, .int (0 : Int32)), (5, .int (1 : Int32)), (0, .ref 1000002), (1, .ref 0), (2, .ref 178), (3, .ref 226), (4, .int (0 : Int32))]) (st' := [.int (1 : Int32)]) rfl ?_
  refine jw.br F jx_i439 (pc' := 1429) (st' := []) rfl (jv_bi_ne.trans (jx_got (by decide))) ?_
  refine jw.steps F jx_i439 5 (pc' := 26) (l' := [(4, .int (6 : Int32)), (6, .int (0 : Int32)), (5, .int (1 : Int32)), (0, .ref 1000002), (1, .ref 0), (2, .ref 178), (3, .ref 226)]) (st' := [.ref 1000002, .int (6 : Int32)]) rfl ?_
  refine jw.slen F jx_i439 hX hbB hE2 (pc' := 27) rfl rfl rfl ?_
  refine jw.steps F jx_i439 2 (pc' := 30) (l' := [(4, .int (6 : Int32)), (6, .int (0 : Int32)), (5, .int (1 : Int32)), (0, .ref 1000002), (1, .ref 0), (2, .ref 178), (3, .ref 226)]) (st' := [.int (0 : Int32), .int (6 : Int32)]) rfl ?_
  refine jw.br F jx_i439 (pc' := 1531) (st' := []) rfl (jv_bc_gt.trans (jx_got (by decide))) ?_
  refine jw.steps F jx_i439 1 (pc' := 1532) (l' := [(4, .int (6 : Int32)), (6, .int (0 : Int32)), (5, .int (1 : Int32)), (0, .ref 1000002), (1, .ref 0), (2, .ref 178), (3, .ref 226)]) (st' := [.int (1 : Int32)]) rfl ?_
  exact hQ _ _ _ _ (by omega) (by omega)

set_option maxRecDepth 100000 in
/-- the law: case 24 -/
theorem jx_case24 (p0 : Int32) (p1 : Int32) (p2 : Int32) (p3 : Int32) (p4 : Int32) (p5 : Int32) (hsw : p0 &&& (31 : Int32) = (24 : Int32)) {p : Program} {l : Launch} {e : Env} {R : Room} {s : State} {m : MethodId} {args : Array Value} {below : List Frame} {meth : Method} {c : Code} {E : jv_Env} {Q : State → Prop} (hTb : jv_TOk jv_Tb) (hT2 : jx_T2Ok) (hl : l.stackTraces = false) (F : jx_F jv_T2 439 E p R s m args meth c) (hZ : jx_Z E s) (hRc : R.cells = 600002) (hRs : R.slots = 7302232) {bb : Nat} {xs : Nat → Int32} (hX : va_X bb 6 xs s E.2.2.2.2) (hbB : bb < E.2.2.2.1) (hE2 : E.1 1000002 = bb) (hQ : ∀ (l0 : jv_L) (G : jv_G) (n sl : Nat), n ≤ 600002 → sl ≤ 7302232 → jw p l e R s m args below meth c E 8 0 0 Q 1532 l0 [.int (1 : Int32)] G n sl) (q0 : xs 0 = p0) (q1 : xs 1 = p1) (q2 : xs 2 = p2) (q3 : xs 3 = p3) (q4 : xs 4 = p4) (q5 : xs 5 = p5) : jw p l e R s m args below meth c E 8 0 0 Q 33 [(0, .ref 1000002), (1, .ref 0), (2, .ref 178), (3, .ref 226), (4, .int (0 : Int32))] [] (jv_H (jx_K 227) jx_If jx_L0 (jx_R 227)) 227 1572950 := by
  by_cases g1 : p1.toInt64 < (0 : Int64)
  · by_cases g2 : p1 < (0 : Int32)
    · exact jx_l53 p0 p1 p2 p3 p4 p5 g1 g2 hsw hTb hT2 hl F hZ hRc hRs hX hbB hE2 hQ q0 q1 q2 q3 q4 q5
    · exact jx_l54 p0 p1 p2 p3 p4 p5 g1 g2 hsw hTb hT2 hl F hZ hRc hRs hX hbB hE2 hQ q0 q1 q2 q3 q4 q5
  · by_cases g2 : p1 < (0 : Int32)
    · exact jx_l55 p0 p1 p2 p3 p4 p5 g1 g2 hsw hTb hT2 hl F hZ hRc hRs hX hbB hE2 hQ q0 q1 q2 q3 q4 q5
    · exact jx_l56 p0 p1 p2 p3 p4 p5 g1 g2 hsw hTb hT2 hl F hZ hRc hRs hX hbB hE2 hQ q0 q1 q2 q3 q4 q5

set_option maxRecDepth 100000 in
theorem jx_i457 : jx_I jv_T2 457 6 (some .int) 8 137 jv_c457 := ⟨rfl, rfl, rfl, rfl, rfl⟩
set_option maxRecDepth 100000 in
theorem jv_i438 : jv_I 438 6 (some .int) 7 112 jv_c438 := ⟨rfl, rfl, rfl, rfl, rfl⟩
set_option maxRecDepth 100000 in
/-- ProgramBox$Store.map -/
theorem jx_e425 (p0 : Int32) (p1 : Int32) (p2 : Int32) (p3 : Int32) (p4 : Int32) (p5 : Int32) (g1 : p1.toInt64 < (0 : Int64)) (g2 : p1 < (0 : Int32)) : jv_Ms 126 [.ref 2, .long p1.toInt64] (jv_H (jx_K 227) jx_If jx_L0 (jx_R 227)) 227 1572950 (some (.null), (jv_H (jx_K 227) jx_If jx_L0 (jx_R 227)), 227, 1572950) := by
  show jv_Ev 126 0 [(0, .ref 2), (1, .long p1.toInt64)] [] (jv_H (jx_K 227) jx_If jx_L0 (jx_R 227)) 227 1572950 _
  refine jv_Ev.steps jv_i126 3 (pc' := 3) (l' := [(0, .ref 2), (1, .long p1.toInt64)]) (st' := [.int (lg_cmp p1.toInt64 (0 : Int64))]) rfl ?_
  refine jv_Ev.br jv_i126 (pc' := 16) (st' := []) rfl (jv_bi_lt.trans (jx_got ((lg_cmp_lt p1.toInt64 (0 : Int64)).mpr g1))) ?_
  refine jv_Ev.steps jv_i126 2 (pc' := 27) (l' := [(0, .ref 2), (1, .long p1.toInt64)]) (st' := [.null]) rfl ?_
  exact jv_Ev.ret jv_i126 rfl rfl

set_option maxRecDepth 100000 in
/-- ProgramBox.mapOf: it throws -/
theorem jx_e426 (hTb : jv_TOk jv_Tb) (p0 : Int32) (p1 : Int32) (p2 : Int32) (p3 : Int32) (p4 : Int32) (p5 : Int32) (g1 : p1.toInt64 < (0 : Int64)) (g2 : p1 < (0 : Int32)) : jx_Th 429 [.ref 0, .int p1] (jv_H (jx_K 227) jx_If jx_L0 (jx_R 227)) 227 1572950 2 (jv_H (jx_K 227) jx_If jx_L0 (jx_R 227)) 228 1572956 := by
  refine jx_Th.of hTb (y := 429) rfl (Nat.le_of_ble_eq_true rfl) ?_
  intro p l e R s m args below meth c E hl F hZ h0 ht hRc hRs
  show jw p l e R s m args below meth c E 3 227 1572950 _ 0 [(0, .ref 0), (1, .int p1)] [] (jv_H (jx_K 227) jx_If jx_L0 (jx_R 227)) 227 1572950
  refine jw.steps F jv_i429 1 (pc' := 1) (l' := [(0, .ref 0), (1, .int p1)]) (st' := [.ref 0]) rfl ?_
  refine jw.me F jv_i429 (pc' := 4) (st' := [.ref 2]) rfl rfl (jv_m_getR rfl rfl rfl rfl) ?_
  refine jw.steps F jv_i429 2 (pc' := 6) (l' := [(0, .ref 0), (1, .int p1)]) (st' := [.long p1.toInt64, .ref 2]) rfl ?_
  refine jw.ca hTb F jv_i429 (pc' := 9) (S' := [.null]) rfl jv_i126 [.ref 2, .long p1.toInt64] rfl rfl rfl rfl (jv_cal rfl (jv_H_at rfl) rfl rfl) rfl (jx_e425 p0 p1 p2 p3 p4 p5 g1 g2) (by omega) (by omega) rfl rfl ?_
  refine jw.steps F jv_i429 2 (pc' := 11) (l' := [(2, .null), (0, .ref 0), (1, .int p1)]) (st' := [.null]) rfl ?_
  refine jw.br F jv_i429 (pc' := 14) (st' := []) rfl rfl ?_
  exact jw.throw hl F hZ h0 rfl jv_i429 ht 2 183 "there is no such map" (List.mem_of_getElem? (i := 11) rfl) (by decide +kernel) (by decide +kernel) (by decide +kernel) (by decide +kernel) (by decide +kernel) rfl (by decide) (by decide) (by decide) (by omega) (by omega)

set_option maxRecDepth 100000 in
/-- ProgramBox.next: it throws -/
theorem jx_e427 (hTb : jv_TOk jv_Tb) (p0 : Int32) (p1 : Int32) (p2 : Int32) (p3 : Int32) (p4 : Int32) (p5 : Int32) (g1 : p1.toInt64 < (0 : Int64)) (g2 : p1 < (0 : Int32)) : jx_Th 438 [.ref 0, .int p1, .int p2, .int p3] (jv_H (jx_K 227) jx_If jx_L0 (jx_R 227)) 227 1572950 2 (jv_H (jx_K 227) jx_If jx_L0 (jx_R 227)) 228 1572956 := by
  refine jx_Th.of hTb (y := 438) rfl (Nat.le_of_ble_eq_true rfl) ?_
  intro p l e R s m args below meth c E hl F hZ h0 ht hRc hRs
  show jw p l e R s m args below meth c E 6 227 1572950 _ 0 [(0, .ref 0), (1, .int p1), (2, .int p2), (3, .int p3)] [] (jv_H (jx_K 227) jx_If jx_L0 (jx_R 227)) 227 1572950
  refine jw.steps F jv_i438 2 (pc' := 2) (l' := [(0, .ref 0), (1, .int p1), (2, .int p2), (3, .int p3)]) (st' := [.int p1, .ref 0]) rfl ?_
  exact jw.prop hTb hl F hZ jv_i438 ht rfl jv_i429 [.ref 0, .int p1] rfl rfl rfl rfl rfl (jv_cal rfl (jv_H_at rfl) rfl rfl) rfl (jx_e426 hTb p0 p1 p2 p3 p4 p5 g1 g2) (by omega) (by omega) (by omega) (by omega)

set_option maxRecDepth 100000 in
/-- the law's next -/
theorem jx_w428 (hTb : jv_TOk jv_Tb) (hT2 : jx_T2Ok) (p0 : Int32) (p1 : Int32) (p2 : Int32) (p3 : Int32) (p4 : Int32) (p5 : Int32) (g1 : p1.toInt64 < (0 : Int64)) (g2 : p1 < (0 : Int32)) : jx_Wr 457 [(0, 12, 15, 36)] [.ref 0, .int p1, .int p2, .int p3, .ref 226] (jv_H (jx_K 227) jx_If jx_L0 (jx_R 227)) 227 1572950 (some (.int (1 : Int32)), (jv_H (jx_K 227) jx_If jx_L0 (jx_R 227)), 228, 1572956) := by
  refine jx_Wr.of hT2 (by decide) rfl (Nat.le_of_ble_eq_true rfl) ?_
  intro p l e R s m args below meth c E hl F hZ htb hRc hRs
  show jw p l e R s m args below meth c E 6 227 1572950 _ 0 [(0, .ref 0), (1, .int p1), (2, .int p2), (3, .int p3), (4, .ref 226)] [] (jv_H (jx_K 227) jx_If jx_L0 (jx_R 227)) 227 1572950
  have hRc : R.cells = 228 - 227 := hRc
  have hRs : R.slots = 1572956 - 1572950 := hRs
  refine jw.steps F jx_i457 6 (pc' := 7) (l' := [(0, .ref 0), (1, .int p1), (2, .int p2), (3, .int p3), (4, .ref 226)]) (st' := [.int p3, .int p2, .int p1, .ref 0, .int (0 : Int32), .ref 226]) rfl ?_
  refine jw.cat hTb hl F hZ rfl jx_i457 htb rfl jv_i438 [.ref 0, .int p1, .int p2, .int p3] rfl rfl rfl rfl rfl (jx_cal2 rfl (jv_H_at rfl) rfl rfl) rfl (jx_e427 hTb p0 p1 p2 p3 p4 p5 g1 g2) (by omega) (by omega) (by omega) (by omega) [] (0, 12, 15, 36) [] rfl (fun z h => absurd h List.not_mem_nil) (by decide) rfl rfl (Or.inl ⟨rfl, rfl⟩) (by decide) ?_
  refine jw.steps F jx_i457 1 (pc' := 18) (l' := []) (st' := [.int (1 : Int32)]) rfl ?_
  exact jw.ret F jx_i457 rfl rfl

set_option maxRecDepth 100000 in
theorem jv_i416 : jv_I 416 5 (some .int) 3 74 jv_c416 := ⟨rfl, rfl, rfl, rfl, rfl⟩
set_option maxRecDepth 100000 in
theorem jv_i348 : jv_I 348 6 (some .int) 2 49 jv_c348 := ⟨rfl, rfl, rfl, rfl, rfl⟩
set_option maxRecDepth 100000 in
/-- ProgramBoxModel$Store.noMap -/
theorem jx_e429 (p0 : Int32) (p1 : Int32) (p2 : Int32) (p3 : Int32) (p4 : Int32) (p5 : Int32) (g1 : p1.toInt64 < (0 : Int64)) (g2 : p1 < (0 : Int32)) : jv_Ms 324 [.ref 180, .int p1] (jv_H (jx_K 227) jx_If jx_L0 (jx_R 227)) 228 1572956 (some (.int (1 : Int32)), (jv_H (jx_K 227) (jv_u jx_If 180 0 (1 : Int32)) jx_L0 (jx_R 227)), 228, 1572956) := by
  show jv_Ev 324 0 [(0, .ref 180), (1, .int p1)] [] (jv_H (jx_K 227) jx_If jx_L0 (jx_R 227)) 228 1572956 _
  refine jv_Ev.steps jv_i324 2 (pc' := 2) (l' := [(0, .ref 180), (1, .int p1)]) (st' := [.int p1, .ref 180]) rfl ?_
  refine jv_Ev.br jv_i324 (pc' := 13) (st' := [.ref 180]) rfl (jv_bi_lt.trans (jx_got g2)) ?_
  refine jv_Ev.steps jv_i324 2 (pc' := 18) (l' := [(0, .ref 180), (1, .int p1)]) (st' := [.int (1 : Int32), .ref 180]) rfl ?_
  refine jv_Ev.m jv_i324 (pc' := 21) (st' := []) rfl rfl (jv_m_putI rfl rfl rfl rfl rfl) ?_
  refine jv_Ev.steps jv_i324 1 (pc' := 22) (l' := [(0, .ref 180), (1, .int p1)]) (st' := [.ref 180]) rfl ?_
  refine jv_Ev.m jv_i324 (pc' := 25) (st' := [.int (1 : Int32)]) rfl rfl (jv_m_getI rfl rfl rfl rfl) ?_
  refine jv_Ev.br jv_i324 (pc' := 28) (st' := []) rfl (jv_bi_le.trans (jx_gof (by decide))) ?_
  refine jv_Ev.steps jv_i324 2 (pc' := 33) (l' := [(0, .ref 180), (1, .int p1)]) (st' := [.int (1 : Int32)]) rfl ?_
  exact jv_Ev.ret jv_i324 rfl (jv_ret_b (by decide))

set_option maxRecDepth 100000 in
/-- ProgramBoxModel$Store.next -/
theorem jx_e430 (p0 : Int32) (p1 : Int32) (p2 : Int32) (p3 : Int32) (p4 : Int32) (p5 : Int32) (g1 : p1.toInt64 < (0 : Int64)) (g2 : p1 < (0 : Int32)) : jv_Ms 348 [.ref 180, .int p1, .int p2, .int p3] (jv_H (jx_K 227) jx_If jx_L0 (jx_R 227)) 228 1572956 (some (.int (0 : Int32)), (jv_H (jx_K 227) (jv_u jx_If 180 0 (1 : Int32)) jx_L0 (jx_R 227)), 228, 1572956) := by
  show jv_Ev 348 0 [(0, .ref 180), (1, .int p1), (2, .int p2), (3, .int p3)] [] (jv_H (jx_K 227) jx_If jx_L0 (jx_R 227)) 228 1572956 _
  refine jv_Ev.steps jv_i348 2 (pc' := 2) (l' := [(0, .ref 180), (1, .int p1), (2, .int p2), (3, .int p3)]) (st' := [.int p1, .ref 180]) rfl ?_
  refine jv_Ev.c jv_i348 (pc' := 5) (S' := [.int (1 : Int32)]) jv_i324 [.ref 180, .int p1] rfl rfl rfl rfl (jv_cal rfl (jv_H_at rfl) rfl rfl) rfl (jx_e429 p0 p1 p2 p3 p4 p5 g1 g2) rfl rfl ?_
  refine jv_Ev.br jv_i348 (pc' := 8) (st' := []) rfl (jv_bi_eq.trans (jx_gof (by decide))) ?_
  refine jv_Ev.steps jv_i348 1 (pc' := 9) (l' := [(0, .ref 180), (1, .int p1), (2, .int p2), (3, .int p3)]) (st' := [.int (0 : Int32)]) rfl ?_
  exact jv_Ev.ret jv_i348 rfl rfl

set_option maxRecDepth 100000 in
/-- ProgramBoxModel$Store.thrown -/
theorem jx_e431 (p0 : Int32) (p1 : Int32) (p2 : Int32) (p3 : Int32) (p4 : Int32) (p5 : Int32) (g1 : p1.toInt64 < (0 : Int64)) (g2 : p1 < (0 : Int32)) : jv_Ms 318 [.ref 180] (jv_H (jx_K 227) (jv_u jx_If 180 0 (1 : Int32)) jx_L0 (jx_R 227)) 228 1572956 (some (.int (1 : Int32)), (jv_H (jx_K 227) (jv_u jx_If 180 0 (1 : Int32)) jx_L0 (jx_R 227)), 228, 1572956) := by
  show jv_Ev 318 0 [(0, .ref 180)] [] (jv_H (jx_K 227) (jv_u jx_If 180 0 (1 : Int32)) jx_L0 (jx_R 227)) 228 1572956 _
  refine jv_Ev.steps jv_i318 1 (pc' := 1) (l' := [(0, .ref 180)]) (st' := [.ref 180]) rfl ?_
  refine jv_Ev.m jv_i318 (pc' := 4) (st' := [.int (1 : Int32)]) rfl rfl (jv_m_getI rfl rfl rfl rfl) ?_
  exact jv_Ev.ret jv_i318 rfl rfl

set_option maxRecDepth 100000 in
/-- ProgramBoxModel.next -/
theorem jx_e432 (p0 : Int32) (p1 : Int32) (p2 : Int32) (p3 : Int32) (p4 : Int32) (p5 : Int32) (g1 : p1.toInt64 < (0 : Int64)) (g2 : p1 < (0 : Int32)) : jv_Ms 416 [.ref 178, .int p1, .int p2, .int p3] (jv_H (jx_K 227) jx_If jx_L0 (jx_R 227)) 228 1572956 (some (.int (0 : Int32)), (jv_H (jx_K 227) (jv_u (jv_u jx_If 180 0 (1 : Int32)) 178 0 (1 : Int32)) jx_L0 (jx_R 227)), 228, 1572956) := by
  show jv_Ev 416 0 [(0, .ref 178), (1, .int p1), (2, .int p2), (3, .int p3)] [] (jv_H (jx_K 227) jx_If jx_L0 (jx_R 227)) 228 1572956 _
  refine jv_Ev.steps jv_i416 1 (pc' := 1) (l' := [(0, .ref 178), (1, .int p1), (2, .int p2), (3, .int p3)]) (st' := [.ref 178]) rfl ?_
  refine jv_Ev.m jv_i416 (pc' := 4) (st' := [.ref 180]) rfl rfl (jv_m_getR rfl rfl rfl rfl) ?_
  refine jv_Ev.steps jv_i416 3 (pc' := 7) (l' := [(0, .ref 178), (1, .int p1), (2, .int p2), (3, .int p3)]) (st' := [.int p3, .int p2, .int p1, .ref 180]) rfl ?_
  refine jv_Ev.c jv_i416 (pc' := 10) (S' := [.int (0 : Int32)]) jv_i348 [.ref 180, .int p1, .int p2, .int p3] rfl rfl rfl rfl (jv_cal rfl (jv_H_at rfl) rfl rfl) rfl (jx_e430 p0 p1 p2 p3 p4 p5 g1 g2) rfl rfl ?_
  refine jv_Ev.steps jv_i416 3 (pc' := 14) (l' := [(4, .int (0 : Int32)), (0, .ref 178), (1, .int p1), (2, .int p2), (3, .int p3)]) (st' := [.ref 178, .ref 178]) rfl ?_
  refine jv_Ev.m jv_i416 (pc' := 17) (st' := [.ref 180, .ref 178]) rfl rfl (jv_m_getR rfl rfl rfl rfl) ?_
  refine jv_Ev.c jv_i416 (pc' := 20) (S' := [.int (1 : Int32), .ref 178]) jv_i318 [.ref 180] rfl rfl rfl rfl (jv_cal rfl (jv_H_at rfl) rfl rfl) rfl (jx_e431 p0 p1 p2 p3 p4 p5 g1 g2) rfl rfl ?_
  refine jv_Ev.m jv_i416 (pc' := 23) (st' := []) rfl rfl (jv_m_putI rfl rfl rfl rfl rfl) ?_
  refine jv_Ev.steps jv_i416 1 (pc' := 25) (l' := [(4, .int (0 : Int32)), (0, .ref 178), (1, .int p1), (2, .int p2), (3, .int p3)]) (st' := [.int (0 : Int32)]) rfl ?_
  exact jv_Ev.ret jv_i416 rfl rfl

set_option maxRecDepth 100000 in
/-- ProgramBoxModel.thrown -/
theorem jx_e433 (p0 : Int32) (p1 : Int32) (p2 : Int32) (p3 : Int32) (p4 : Int32) (p5 : Int32) (g1 : p1.toInt64 < (0 : Int64)) (g2 : p1 < (0 : Int32)) : jv_Ms 350 [.ref 178] (jv_H (jx_K 227) (jv_u (jv_u jx_If 180 0 (1 : Int32)) 178 0 (1 : Int32)) jx_L0 (jx_R 227)) 228 1572956 (some (.int (1 : Int32)), (jv_H (jx_K 227) (jv_u (jv_u jx_If 180 0 (1 : Int32)) 178 0 (1 : Int32)) jx_L0 (jx_R 227)), 228, 1572956) := by
  show jv_Ev 350 0 [(0, .ref 178)] [] (jv_H (jx_K 227) (jv_u (jv_u jx_If 180 0 (1 : Int32)) 178 0 (1 : Int32)) jx_L0 (jx_R 227)) 228 1572956 _
  refine jv_Ev.steps jv_i350 1 (pc' := 1) (l' := [(0, .ref 178)]) (st' := [.ref 178]) rfl ?_
  refine jv_Ev.m jv_i350 (pc' := 4) (st' := [.int (1 : Int32)]) rfl rfl (jv_m_getI rfl rfl rfl rfl) ?_
  exact jv_Ev.ret jv_i350 rfl rfl

set_option maxRecDepth 100000 in
/-- the law: case 25, one way -/
theorem jx_l57 (p0 : Int32) (p1 : Int32) (p2 : Int32) (p3 : Int32) (p4 : Int32) (p5 : Int32) (g1 : p1.toInt64 < (0 : Int64)) (g2 : p1 < (0 : Int32)) (hsw : p0 &&& (31 : Int32) = (25 : Int32)) {p : Program} {l : Launch} {e : Env} {R : Room} {s : State} {m : MethodId} {args : Array Value} {below : List Frame} {meth : Method} {c : Code} {E : jv_Env} {Q : State → Prop} (hTb : jv_TOk jv_Tb) (hT2 : jx_T2Ok) (hl : l.stackTraces = false) (F : jx_F jv_T2 439 E p R s m args meth c) (hZ : jx_Z E s) (hRc : R.cells = 600002) (hRs : R.slots = 7302232) {bb : Nat} {xs : Nat → Int32} (hX : va_X bb 6 xs s E.2.2.2.2) (hbB : bb < E.2.2.2.1) (hE2 : E.1 1000002 = bb) (hQ : ∀ (l0 : jv_L) (G : jv_G) (n sl : Nat), n ≤ 600002 → sl ≤ 7302232 → jw p l e R s m args below meth c E 8 0 0 Q 1532 l0 [.int (1 : Int32)] G n sl) (q0 : xs 0 = p0) (q1 : xs 1 = p1) (q2 : xs 2 = p2) (q3 : xs 3 = p3) (q4 : xs 4 = p4) (q5 : xs 5 = p5) : jw p l e R s m args below meth c E 8 0 0 Q 33 [(0, .ref 1000002), (1, .ref 0), (2, .ref 178), (3, .ref 226), (4, .int (0 : Int32))] [] (jv_H (jx_K 227) jx_If jx_L0 (jx_R 227)) 227 1572950 := by
  refine jw.steps F jx_i439 2 (pc' := 36) (l' := [(0, .ref 1000002), (1, .ref 0), (2, .ref 178), (3, .ref 226), (4, .int (0 : Int32))]) (st' := [.int (0 : Int32), .ref 1000002]) rfl ?_
  refine jw.sld F jx_i439 hX hbB hE2 (pc' := 37) rfl rfl (show vp_in (nI 0) 6 from vp_in_nI (by decide) (by decide)) q0 rfl ?_
  refine jw.steps F jx_i439 2 (pc' := 40) (l' := [(0, .ref 1000002), (1, .ref 0), (2, .ref 178), (3, .ref 226), (4, .int (0 : Int32))]) (st' := [.int (p0 &&& (31 : Int32))]) rfl ?_
  refine jw.br F jx_i439 (pc' := 1432) (st' := []) rfl (by rw [hsw]; rfl) ?_
  refine jw.steps F jx_i439 5 (pc' := 1438) (l' := [(0, .ref 1000002), (1, .ref 0), (2, .ref 178), (3, .ref 226), (4, .int (0 : Int32))]) (st' := [.int (1 : Int32), .ref 1000002, .ref 0]) rfl ?_
  refine jw.sld F jx_i439 hX hbB hE2 (pc' := 1439) rfl rfl (show vp_in (nI 1) 6 from vp_in_nI (by decide) (by decide)) q1 rfl ?_
  refine jw.steps F jx_i439 4 (pc' := 1444) (l' := [(0, .ref 1000002), (1, .ref 0), (2, .ref 178), (3, .ref 226), (4, .int (0 : Int32))]) (st' := [.int (2 : Int32), .ref 1000002, .int p1, .ref 0]) rfl ?_
  refine jw.sld F jx_i439 hX hbB hE2 (pc' := 1445) rfl rfl (show vp_in (nI 2) 6 from vp_in_nI (by decide) (by decide)) q2 rfl ?_
  refine jw.steps F jx_i439 4 (pc' := 1450) (l' := [(0, .ref 1000002), (1, .ref 0), (2, .ref 178), (3, .ref 226), (4, .int (0 : Int32))]) (st' := [.int (3 : Int32), .ref 1000002, .int p2, .int p1, .ref 0]) rfl ?_
  refine jw.sld F jx_i439 hX hbB hE2 (pc' := 1451) rfl rfl (show vp_in (nI 3) 6 from vp_in_nI (by decide) (by decide)) q3 rfl ?_
  refine jw.steps F jx_i439 1 (pc' := 1452) (l' := [(0, .ref 1000002), (1, .ref 0), (2, .ref 178), (3, .ref 226), (4, .int (0 : Int32))]) (st' := [.ref 226, .int p3, .int p2, .int p1, .ref 0]) rfl ?_
  refine jw.wr F hl hZ rfl jx_i439 jx_i457 [.ref 0, .int p1, .int p2, .int p3, .ref 226] (pc' := 1455) (S' := [.int (1 : Int32)]) rfl (List.mem_of_getElem? (i := 17) rfl) (List.mem_of_getElem? (i := 17) rfl) rfl rfl rfl (jx_w428 hTb hT2 p0 p1 p2 p3 p4 p5 g1 g2) (by omega) (by omega) (by omega) (by omega) rfl rfl ?_
  refine jw.steps F jx_i439 6 (pc' := 1463) (l' := [(5, .int (1 : Int32)), (0, .ref 1000002), (1, .ref 0), (2, .ref 178), (3, .ref 226), (4, .int (0 : Int32))]) (st' := [.int (1 : Int32), .ref 1000002, .ref 178]) rfl ?_
  refine jw.sld F jx_i439 hX hbB hE2 (pc' := 1464) rfl rfl (show vp_in (nI 1) 6 from vp_in_nI (by decide) (by decide)) q1 rfl ?_
  refine jw.steps F jx_i439 4 (pc' := 1469) (l' := [(5, .int (1 : Int32)), (0, .ref 1000002), (1, .ref 0), (2, .ref 178), (3, .ref 226), (4, .int (0 : Int32))]) (st' := [.int (2 : Int32), .ref 1000002, .int p1, .ref 178]) rfl ?_
  refine jw.sld F jx_i439 hX hbB hE2 (pc' := 1470) rfl rfl (show vp_in (nI 2) 6 from vp_in_nI (by decide) (by decide)) q2 rfl ?_
  refine jw.steps F jx_i439 4 (pc' := 1475) (l' := [(5, .int (1 : Int32)), (0, .ref 1000002), (1, .ref 0), (2, .ref 178), (3, .ref 226), (4, .int (0 : Int32))]) (st' := [.int (3 : Int32), .ref 1000002, .int p2, .int p1, .ref 178]) rfl ?_
  refine jw.sld F jx_i439 hX hbB hE2 (pc' := 1476) rfl rfl (show vp_in (nI 3) 6 from vp_in_nI (by decide) (by decide)) q3 rfl ?_
  refine jw.ca hTb F jx_i439 (pc' := 1479) (S' := [.int (0 : Int32)]) rfl jv_i416 [.ref 178, .int p1, .int p2, .int p3] rfl rfl rfl rfl (jx_cal2 rfl (jv_H_at rfl) rfl rfl) rfl (jx_e432 p0 p1 p2 p3 p4 p5 g1 g2) (by omega) (by omega) rfl rfl ?_
  refine jw.steps F jx_i439 2 (pc' := 1482) (l' := [(6, .int (0 : Int32)), (5, .int (1 : Int32)), (0, .ref 1000002), (1, .ref 0), (2, .ref 178), (3, .ref 226), (4, .int (0 : Int32))]) (st' := [.ref 178]) rfl ?_
  refine jw.ca hTb F jx_i439 (pc' := 1485) (S' := [.int (1 : Int32)]) rfl jv_i350 [.ref 178] rfl rfl rfl rfl (jx_cal2 rfl (jv_H_at rfl) rfl rfl) rfl (jx_e433 p0 p1 p2 p3 p4 p5 g1 g2) (by omega) (by omega) rfl rfl ?_
  refine jw.steps F jx_i439 1 (pc' := 1487) (l' := [(6, .int (0 : Int32)), (5, .int (1 : Int32)), (0, .ref 1000002), (1, .ref 0), (2, .ref 178), (3, .ref 226), (4, .int (0 : Int32))]) (st' := [.int (1 : Int32), .int (1 : Int32)]) rfl ?_
  refine jw.br F jx_i439 (pc' := 1492) (st' := []) rfl (jv_bc_eq.trans (jx_got (by decide))) ?_
  refine jw.steps F jx_i439 1 (pc' := 1494) (l' := [(6, .int (0 : Int32)), (5, .int (1 : Int32)), (0, .ref 1000002), (1, .ref 0), (2, .ref 178), (3, .ref 226), (4, .int (0 : Int32))]) (st' := [.int (1 : Int32)]) rfl ?_
  refine jw.br F jx_i439 (pc' := 1509) (st' := []) rfl (jv_bi_ne.trans (jx_got (by decide))) ?_
  refine jw.steps F jx_i439 5 (pc' := 26) (l' := [(4, .int (6 : Int32)), (6, .int (0 : Int32)), (5, .int (1 : Int32)), (0, .ref 1000002), (1, .ref 0), (2, .ref 178), (3, .ref 226)]) (st' := [.ref 1000002, .int (6 : Int32)]) rfl ?_
  refine jw.slen F jx_i439 hX hbB hE2 (pc' := 27) rfl rfl rfl ?_
  refine jw.steps F jx_i439 2 (pc' := 30) (l' := [(4, .int (6 : Int32)), (6, .int (0 : Int32)), (5, .int (1 : Int32)), (0, .ref 1000002), (1, .ref 0), (2, .ref 178), (3, .ref 226)]) (st' := [.int (0 : Int32), .int (6 : Int32)]) rfl ?_
  refine jw.br F jx_i439 (pc' := 1531) (st' := []) rfl (jv_bc_gt.trans (jx_got (by decide))) ?_
  refine jw.steps F jx_i439 1 (pc' := 1532) (l' := [(4, .int (6 : Int32)), (6, .int (0 : Int32)), (5, .int (1 : Int32)), (0, .ref 1000002), (1, .ref 0), (2, .ref 178), (3, .ref 226)]) (st' := [.int (1 : Int32)]) rfl ?_
  exact hQ _ _ _ _ (by omega) (by omega)

set_option maxRecDepth 100000 in
/-- ProgramBox$Store.map -/
theorem jx_e434 (p0 : Int32) (p1 : Int32) (p2 : Int32) (p3 : Int32) (p4 : Int32) (p5 : Int32) (g1 : p1.toInt64 < (0 : Int64)) (g2 : ¬ p1 < (0 : Int32)) : jv_Ms 126 [.ref 2, .long p1.toInt64] (jv_H (jx_K 227) jx_If jx_L0 (jx_R 227)) 227 1572950 (some (.null), (jv_H (jx_K 227) jx_If jx_L0 (jx_R 227)), 227, 1572950) := by
  show jv_Ev 126 0 [(0, .ref 2), (1, .long p1.toInt64)] [] (jv_H (jx_K 227) jx_If jx_L0 (jx_R 227)) 227 1572950 _
  refine jv_Ev.steps jv_i126 3 (pc' := 3) (l' := [(0, .ref 2), (1, .long p1.toInt64)]) (st' := [.int (lg_cmp p1.toInt64 (0 : Int64))]) rfl ?_
  refine jv_Ev.br jv_i126 (pc' := 16) (st' := []) rfl (jv_bi_lt.trans (jx_got ((lg_cmp_lt p1.toInt64 (0 : Int64)).mpr g1))) ?_
  refine jv_Ev.steps jv_i126 2 (pc' := 27) (l' := [(0, .ref 2), (1, .long p1.toInt64)]) (st' := [.null]) rfl ?_
  exact jv_Ev.ret jv_i126 rfl rfl

set_option maxRecDepth 100000 in
/-- ProgramBox.mapOf: it throws -/
theorem jx_e435 (hTb : jv_TOk jv_Tb) (p0 : Int32) (p1 : Int32) (p2 : Int32) (p3 : Int32) (p4 : Int32) (p5 : Int32) (g1 : p1.toInt64 < (0 : Int64)) (g2 : ¬ p1 < (0 : Int32)) : jx_Th 429 [.ref 0, .int p1] (jv_H (jx_K 227) jx_If jx_L0 (jx_R 227)) 227 1572950 2 (jv_H (jx_K 227) jx_If jx_L0 (jx_R 227)) 228 1572956 := by
  refine jx_Th.of hTb (y := 429) rfl (Nat.le_of_ble_eq_true rfl) ?_
  intro p l e R s m args below meth c E hl F hZ h0 ht hRc hRs
  show jw p l e R s m args below meth c E 3 227 1572950 _ 0 [(0, .ref 0), (1, .int p1)] [] (jv_H (jx_K 227) jx_If jx_L0 (jx_R 227)) 227 1572950
  refine jw.steps F jv_i429 1 (pc' := 1) (l' := [(0, .ref 0), (1, .int p1)]) (st' := [.ref 0]) rfl ?_
  refine jw.me F jv_i429 (pc' := 4) (st' := [.ref 2]) rfl rfl (jv_m_getR rfl rfl rfl rfl) ?_
  refine jw.steps F jv_i429 2 (pc' := 6) (l' := [(0, .ref 0), (1, .int p1)]) (st' := [.long p1.toInt64, .ref 2]) rfl ?_
  refine jw.ca hTb F jv_i429 (pc' := 9) (S' := [.null]) rfl jv_i126 [.ref 2, .long p1.toInt64] rfl rfl rfl rfl (jv_cal rfl (jv_H_at rfl) rfl rfl) rfl (jx_e434 p0 p1 p2 p3 p4 p5 g1 g2) (by omega) (by omega) rfl rfl ?_
  refine jw.steps F jv_i429 2 (pc' := 11) (l' := [(2, .null), (0, .ref 0), (1, .int p1)]) (st' := [.null]) rfl ?_
  refine jw.br F jv_i429 (pc' := 14) (st' := []) rfl rfl ?_
  exact jw.throw hl F hZ h0 rfl jv_i429 ht 2 183 "there is no such map" (List.mem_of_getElem? (i := 11) rfl) (by decide +kernel) (by decide +kernel) (by decide +kernel) (by decide +kernel) (by decide +kernel) rfl (by decide) (by decide) (by decide) (by omega) (by omega)

set_option maxRecDepth 100000 in
/-- ProgramBox.next: it throws -/
theorem jx_e436 (hTb : jv_TOk jv_Tb) (p0 : Int32) (p1 : Int32) (p2 : Int32) (p3 : Int32) (p4 : Int32) (p5 : Int32) (g1 : p1.toInt64 < (0 : Int64)) (g2 : ¬ p1 < (0 : Int32)) : jx_Th 438 [.ref 0, .int p1, .int p2, .int p3] (jv_H (jx_K 227) jx_If jx_L0 (jx_R 227)) 227 1572950 2 (jv_H (jx_K 227) jx_If jx_L0 (jx_R 227)) 228 1572956 := by
  refine jx_Th.of hTb (y := 438) rfl (Nat.le_of_ble_eq_true rfl) ?_
  intro p l e R s m args below meth c E hl F hZ h0 ht hRc hRs
  show jw p l e R s m args below meth c E 6 227 1572950 _ 0 [(0, .ref 0), (1, .int p1), (2, .int p2), (3, .int p3)] [] (jv_H (jx_K 227) jx_If jx_L0 (jx_R 227)) 227 1572950
  refine jw.steps F jv_i438 2 (pc' := 2) (l' := [(0, .ref 0), (1, .int p1), (2, .int p2), (3, .int p3)]) (st' := [.int p1, .ref 0]) rfl ?_
  exact jw.prop hTb hl F hZ jv_i438 ht rfl jv_i429 [.ref 0, .int p1] rfl rfl rfl rfl rfl (jv_cal rfl (jv_H_at rfl) rfl rfl) rfl (jx_e435 hTb p0 p1 p2 p3 p4 p5 g1 g2) (by omega) (by omega) (by omega) (by omega)

set_option maxRecDepth 100000 in
/-- the law's next -/
theorem jx_w437 (hTb : jv_TOk jv_Tb) (hT2 : jx_T2Ok) (p0 : Int32) (p1 : Int32) (p2 : Int32) (p3 : Int32) (p4 : Int32) (p5 : Int32) (g1 : p1.toInt64 < (0 : Int64)) (g2 : ¬ p1 < (0 : Int32)) : jx_Wr 457 [(0, 12, 15, 36)] [.ref 0, .int p1, .int p2, .int p3, .ref 226] (jv_H (jx_K 227) jx_If jx_L0 (jx_R 227)) 227 1572950 (some (.int (1 : Int32)), (jv_H (jx_K 227) jx_If jx_L0 (jx_R 227)), 228, 1572956) := by
  refine jx_Wr.of hT2 (by decide) rfl (Nat.le_of_ble_eq_true rfl) ?_
  intro p l e R s m args below meth c E hl F hZ htb hRc hRs
  show jw p l e R s m args below meth c E 6 227 1572950 _ 0 [(0, .ref 0), (1, .int p1), (2, .int p2), (3, .int p3), (4, .ref 226)] [] (jv_H (jx_K 227) jx_If jx_L0 (jx_R 227)) 227 1572950
  have hRc : R.cells = 228 - 227 := hRc
  have hRs : R.slots = 1572956 - 1572950 := hRs
  refine jw.steps F jx_i457 6 (pc' := 7) (l' := [(0, .ref 0), (1, .int p1), (2, .int p2), (3, .int p3), (4, .ref 226)]) (st' := [.int p3, .int p2, .int p1, .ref 0, .int (0 : Int32), .ref 226]) rfl ?_
  refine jw.cat hTb hl F hZ rfl jx_i457 htb rfl jv_i438 [.ref 0, .int p1, .int p2, .int p3] rfl rfl rfl rfl rfl (jx_cal2 rfl (jv_H_at rfl) rfl rfl) rfl (jx_e436 hTb p0 p1 p2 p3 p4 p5 g1 g2) (by omega) (by omega) (by omega) (by omega) [] (0, 12, 15, 36) [] rfl (fun z h => absurd h List.not_mem_nil) (by decide) rfl rfl (Or.inl ⟨rfl, rfl⟩) (by decide) ?_
  refine jw.steps F jx_i457 1 (pc' := 18) (l' := []) (st' := [.int (1 : Int32)]) rfl ?_
  exact jw.ret F jx_i457 rfl rfl

set_option maxRecDepth 100000 in
/-- ProgramBoxModel$Store.noMap -/
theorem jx_e438 (p0 : Int32) (p1 : Int32) (p2 : Int32) (p3 : Int32) (p4 : Int32) (p5 : Int32) (g1 : p1.toInt64 < (0 : Int64)) (g2 : ¬ p1 < (0 : Int32)) : jv_Ms 324 [.ref 180, .int p1] (jv_H (jx_K 227) jx_If jx_L0 (jx_R 227)) 228 1572956 (some (.int (1 : Int32)), (jv_H (jx_K 227) (jv_u jx_If 180 0 (1 : Int32)) jx_L0 (jx_R 227)), 228, 1572956) := by
  show jv_Ev 324 0 [(0, .ref 180), (1, .int p1)] [] (jv_H (jx_K 227) jx_If jx_L0 (jx_R 227)) 228 1572956 _
  refine jv_Ev.steps jv_i324 2 (pc' := 2) (l' := [(0, .ref 180), (1, .int p1)]) (st' := [.int p1, .ref 180]) rfl ?_
  refine jv_Ev.br jv_i324 (pc' := 5) (st' := [.ref 180]) rfl (jv_bi_lt.trans (jx_gof g2)) ?_
  refine jv_Ev.steps jv_i324 2 (pc' := 7) (l' := [(0, .ref 180), (1, .int p1)]) (st' := [.ref 180, .int p1, .ref 180]) rfl ?_
  refine jv_Ev.m jv_i324 (pc' := 10) (st' := [.int (0 : Int32), .int p1, .ref 180]) rfl rfl (jv_m_getI rfl rfl rfl rfl) ?_
  refine jv_Ev.br jv_i324 (pc' := 13) (st' := [.ref 180]) rfl (jv_bc_lt.trans (jx_gof g2)) ?_
  refine jv_Ev.steps jv_i324 2 (pc' := 18) (l' := [(0, .ref 180), (1, .int p1)]) (st' := [.int (1 : Int32), .ref 180]) rfl ?_
  refine jv_Ev.m jv_i324 (pc' := 21) (st' := []) rfl rfl (jv_m_putI rfl rfl rfl rfl rfl) ?_
  refine jv_Ev.steps jv_i324 1 (pc' := 22) (l' := [(0, .ref 180), (1, .int p1)]) (st' := [.ref 180]) rfl ?_
  refine jv_Ev.m jv_i324 (pc' := 25) (st' := [.int (1 : Int32)]) rfl rfl (jv_m_getI rfl rfl rfl rfl) ?_
  refine jv_Ev.br jv_i324 (pc' := 28) (st' := []) rfl (jv_bi_le.trans (jx_gof (by decide))) ?_
  refine jv_Ev.steps jv_i324 2 (pc' := 33) (l' := [(0, .ref 180), (1, .int p1)]) (st' := [.int (1 : Int32)]) rfl ?_
  exact jv_Ev.ret jv_i324 rfl (jv_ret_b (by decide))

set_option maxRecDepth 100000 in
/-- ProgramBoxModel$Store.next -/
theorem jx_e439 (p0 : Int32) (p1 : Int32) (p2 : Int32) (p3 : Int32) (p4 : Int32) (p5 : Int32) (g1 : p1.toInt64 < (0 : Int64)) (g2 : ¬ p1 < (0 : Int32)) : jv_Ms 348 [.ref 180, .int p1, .int p2, .int p3] (jv_H (jx_K 227) jx_If jx_L0 (jx_R 227)) 228 1572956 (some (.int (0 : Int32)), (jv_H (jx_K 227) (jv_u jx_If 180 0 (1 : Int32)) jx_L0 (jx_R 227)), 228, 1572956) := by
  show jv_Ev 348 0 [(0, .ref 180), (1, .int p1), (2, .int p2), (3, .int p3)] [] (jv_H (jx_K 227) jx_If jx_L0 (jx_R 227)) 228 1572956 _
  refine jv_Ev.steps jv_i348 2 (pc' := 2) (l' := [(0, .ref 180), (1, .int p1), (2, .int p2), (3, .int p3)]) (st' := [.int p1, .ref 180]) rfl ?_
  refine jv_Ev.c jv_i348 (pc' := 5) (S' := [.int (1 : Int32)]) jv_i324 [.ref 180, .int p1] rfl rfl rfl rfl (jv_cal rfl (jv_H_at rfl) rfl rfl) rfl (jx_e438 p0 p1 p2 p3 p4 p5 g1 g2) rfl rfl ?_
  refine jv_Ev.br jv_i348 (pc' := 8) (st' := []) rfl (jv_bi_eq.trans (jx_gof (by decide))) ?_
  refine jv_Ev.steps jv_i348 1 (pc' := 9) (l' := [(0, .ref 180), (1, .int p1), (2, .int p2), (3, .int p3)]) (st' := [.int (0 : Int32)]) rfl ?_
  exact jv_Ev.ret jv_i348 rfl rfl

set_option maxRecDepth 100000 in
/-- ProgramBoxModel$Store.thrown -/
theorem jx_e440 (p0 : Int32) (p1 : Int32) (p2 : Int32) (p3 : Int32) (p4 : Int32) (p5 : Int32) (g1 : p1.toInt64 < (0 : Int64)) (g2 : ¬ p1 < (0 : Int32)) : jv_Ms 318 [.ref 180] (jv_H (jx_K 227) (jv_u jx_If 180 0 (1 : Int32)) jx_L0 (jx_R 227)) 228 1572956 (some (.int (1 : Int32)), (jv_H (jx_K 227) (jv_u jx_If 180 0 (1 : Int32)) jx_L0 (jx_R 227)), 228, 1572956) := by
  show jv_Ev 318 0 [(0, .ref 180)] [] (jv_H (jx_K 227) (jv_u jx_If 180 0 (1 : Int32)) jx_L0 (jx_R 227)) 228 1572956 _
  refine jv_Ev.steps jv_i318 1 (pc' := 1) (l' := [(0, .ref 180)]) (st' := [.ref 180]) rfl ?_
  refine jv_Ev.m jv_i318 (pc' := 4) (st' := [.int (1 : Int32)]) rfl rfl (jv_m_getI rfl rfl rfl rfl) ?_
  exact jv_Ev.ret jv_i318 rfl rfl

set_option maxRecDepth 100000 in
/-- ProgramBoxModel.next -/
theorem jx_e441 (p0 : Int32) (p1 : Int32) (p2 : Int32) (p3 : Int32) (p4 : Int32) (p5 : Int32) (g1 : p1.toInt64 < (0 : Int64)) (g2 : ¬ p1 < (0 : Int32)) : jv_Ms 416 [.ref 178, .int p1, .int p2, .int p3] (jv_H (jx_K 227) jx_If jx_L0 (jx_R 227)) 228 1572956 (some (.int (0 : Int32)), (jv_H (jx_K 227) (jv_u (jv_u jx_If 180 0 (1 : Int32)) 178 0 (1 : Int32)) jx_L0 (jx_R 227)), 228, 1572956) := by
  show jv_Ev 416 0 [(0, .ref 178), (1, .int p1), (2, .int p2), (3, .int p3)] [] (jv_H (jx_K 227) jx_If jx_L0 (jx_R 227)) 228 1572956 _
  refine jv_Ev.steps jv_i416 1 (pc' := 1) (l' := [(0, .ref 178), (1, .int p1), (2, .int p2), (3, .int p3)]) (st' := [.ref 178]) rfl ?_
  refine jv_Ev.m jv_i416 (pc' := 4) (st' := [.ref 180]) rfl rfl (jv_m_getR rfl rfl rfl rfl) ?_
  refine jv_Ev.steps jv_i416 3 (pc' := 7) (l' := [(0, .ref 178), (1, .int p1), (2, .int p2), (3, .int p3)]) (st' := [.int p3, .int p2, .int p1, .ref 180]) rfl ?_
  refine jv_Ev.c jv_i416 (pc' := 10) (S' := [.int (0 : Int32)]) jv_i348 [.ref 180, .int p1, .int p2, .int p3] rfl rfl rfl rfl (jv_cal rfl (jv_H_at rfl) rfl rfl) rfl (jx_e439 p0 p1 p2 p3 p4 p5 g1 g2) rfl rfl ?_
  refine jv_Ev.steps jv_i416 3 (pc' := 14) (l' := [(4, .int (0 : Int32)), (0, .ref 178), (1, .int p1), (2, .int p2), (3, .int p3)]) (st' := [.ref 178, .ref 178]) rfl ?_
  refine jv_Ev.m jv_i416 (pc' := 17) (st' := [.ref 180, .ref 178]) rfl rfl (jv_m_getR rfl rfl rfl rfl) ?_
  refine jv_Ev.c jv_i416 (pc' := 20) (S' := [.int (1 : Int32), .ref 178]) jv_i318 [.ref 180] rfl rfl rfl rfl (jv_cal rfl (jv_H_at rfl) rfl rfl) rfl (jx_e440 p0 p1 p2 p3 p4 p5 g1 g2) rfl rfl ?_
  refine jv_Ev.m jv_i416 (pc' := 23) (st' := []) rfl rfl (jv_m_putI rfl rfl rfl rfl rfl) ?_
  refine jv_Ev.steps jv_i416 1 (pc' := 25) (l' := [(4, .int (0 : Int32)), (0, .ref 178), (1, .int p1), (2, .int p2), (3, .int p3)]) (st' := [.int (0 : Int32)]) rfl ?_
  exact jv_Ev.ret jv_i416 rfl rfl

set_option maxRecDepth 100000 in
/-- ProgramBoxModel.thrown -/
theorem jx_e442 (p0 : Int32) (p1 : Int32) (p2 : Int32) (p3 : Int32) (p4 : Int32) (p5 : Int32) (g1 : p1.toInt64 < (0 : Int64)) (g2 : ¬ p1 < (0 : Int32)) : jv_Ms 350 [.ref 178] (jv_H (jx_K 227) (jv_u (jv_u jx_If 180 0 (1 : Int32)) 178 0 (1 : Int32)) jx_L0 (jx_R 227)) 228 1572956 (some (.int (1 : Int32)), (jv_H (jx_K 227) (jv_u (jv_u jx_If 180 0 (1 : Int32)) 178 0 (1 : Int32)) jx_L0 (jx_R 227)), 228, 1572956) := by
  show jv_Ev 350 0 [(0, .ref 178)] [] (jv_H (jx_K 227) (jv_u (jv_u jx_If 180 0 (1 : Int32)) 178 0 (1 : Int32)) jx_L0 (jx_R 227)) 228 1572956 _
  refine jv_Ev.steps jv_i350 1 (pc' := 1) (l' := [(0, .ref 178)]) (st' := [.ref 178]) rfl ?_
  refine jv_Ev.m jv_i350 (pc' := 4) (st' := [.int (1 : Int32)]) rfl rfl (jv_m_getI rfl rfl rfl rfl) ?_
  exact jv_Ev.ret jv_i350 rfl rfl

set_option maxRecDepth 100000 in
/-- the law: case 25, one way -/
theorem jx_l58 (p0 : Int32) (p1 : Int32) (p2 : Int32) (p3 : Int32) (p4 : Int32) (p5 : Int32) (g1 : p1.toInt64 < (0 : Int64)) (g2 : ¬ p1 < (0 : Int32)) (hsw : p0 &&& (31 : Int32) = (25 : Int32)) {p : Program} {l : Launch} {e : Env} {R : Room} {s : State} {m : MethodId} {args : Array Value} {below : List Frame} {meth : Method} {c : Code} {E : jv_Env} {Q : State → Prop} (hTb : jv_TOk jv_Tb) (hT2 : jx_T2Ok) (hl : l.stackTraces = false) (F : jx_F jv_T2 439 E p R s m args meth c) (hZ : jx_Z E s) (hRc : R.cells = 600002) (hRs : R.slots = 7302232) {bb : Nat} {xs : Nat → Int32} (hX : va_X bb 6 xs s E.2.2.2.2) (hbB : bb < E.2.2.2.1) (hE2 : E.1 1000002 = bb) (hQ : ∀ (l0 : jv_L) (G : jv_G) (n sl : Nat), n ≤ 600002 → sl ≤ 7302232 → jw p l e R s m args below meth c E 8 0 0 Q 1532 l0 [.int (1 : Int32)] G n sl) (q0 : xs 0 = p0) (q1 : xs 1 = p1) (q2 : xs 2 = p2) (q3 : xs 3 = p3) (q4 : xs 4 = p4) (q5 : xs 5 = p5) : jw p l e R s m args below meth c E 8 0 0 Q 33 [(0, .ref 1000002), (1, .ref 0), (2, .ref 178), (3, .ref 226), (4, .int (0 : Int32))] [] (jv_H (jx_K 227) jx_If jx_L0 (jx_R 227)) 227 1572950 := by
  refine jw.steps F jx_i439 2 (pc' := 36) (l' := [(0, .ref 1000002), (1, .ref 0), (2, .ref 178), (3, .ref 226), (4, .int (0 : Int32))]) (st' := [.int (0 : Int32), .ref 1000002]) rfl ?_
  refine jw.sld F jx_i439 hX hbB hE2 (pc' := 37) rfl rfl (show vp_in (nI 0) 6 from vp_in_nI (by decide) (by decide)) q0 rfl ?_
  refine jw.steps F jx_i439 2 (pc' := 40) (l' := [(0, .ref 1000002), (1, .ref 0), (2, .ref 178), (3, .ref 226), (4, .int (0 : Int32))]) (st' := [.int (p0 &&& (31 : Int32))]) rfl ?_
  refine jw.br F jx_i439 (pc' := 1432) (st' := []) rfl (by rw [hsw]; rfl) ?_
  refine jw.steps F jx_i439 5 (pc' := 1438) (l' := [(0, .ref 1000002), (1, .ref 0), (2, .ref 178), (3, .ref 226), (4, .int (0 : Int32))]) (st' := [.int (1 : Int32), .ref 1000002, .ref 0]) rfl ?_
  refine jw.sld F jx_i439 hX hbB hE2 (pc' := 1439) rfl rfl (show vp_in (nI 1) 6 from vp_in_nI (by decide) (by decide)) q1 rfl ?_
  refine jw.steps F jx_i439 4 (pc' := 1444) (l' := [(0, .ref 1000002), (1, .ref 0), (2, .ref 178), (3, .ref 226), (4, .int (0 : Int32))]) (st' := [.int (2 : Int32), .ref 1000002, .int p1, .ref 0]) rfl ?_
  refine jw.sld F jx_i439 hX hbB hE2 (pc' := 1445) rfl rfl (show vp_in (nI 2) 6 from vp_in_nI (by decide) (by decide)) q2 rfl ?_
  refine jw.steps F jx_i439 4 (pc' := 1450) (l' := [(0, .ref 1000002), (1, .ref 0), (2, .ref 178), (3, .ref 226), (4, .int (0 : Int32))]) (st' := [.int (3 : Int32), .ref 1000002, .int p2, .int p1, .ref 0]) rfl ?_
  refine jw.sld F jx_i439 hX hbB hE2 (pc' := 1451) rfl rfl (show vp_in (nI 3) 6 from vp_in_nI (by decide) (by decide)) q3 rfl ?_
  refine jw.steps F jx_i439 1 (pc' := 1452) (l' := [(0, .ref 1000002), (1, .ref 0), (2, .ref 178), (3, .ref 226), (4, .int (0 : Int32))]) (st' := [.ref 226, .int p3, .int p2, .int p1, .ref 0]) rfl ?_
  refine jw.wr F hl hZ rfl jx_i439 jx_i457 [.ref 0, .int p1, .int p2, .int p3, .ref 226] (pc' := 1455) (S' := [.int (1 : Int32)]) rfl (List.mem_of_getElem? (i := 17) rfl) (List.mem_of_getElem? (i := 17) rfl) rfl rfl rfl (jx_w437 hTb hT2 p0 p1 p2 p3 p4 p5 g1 g2) (by omega) (by omega) (by omega) (by omega) rfl rfl ?_
  refine jw.steps F jx_i439 6 (pc' := 1463) (l' := [(5, .int (1 : Int32)), (0, .ref 1000002), (1, .ref 0), (2, .ref 178), (3, .ref 226), (4, .int (0 : Int32))]) (st' := [.int (1 : Int32), .ref 1000002, .ref 178]) rfl ?_
  refine jw.sld F jx_i439 hX hbB hE2 (pc' := 1464) rfl rfl (show vp_in (nI 1) 6 from vp_in_nI (by decide) (by decide)) q1 rfl ?_
  refine jw.steps F jx_i439 4 (pc' := 1469) (l' := [(5, .int (1 : Int32)), (0, .ref 1000002), (1, .ref 0), (2, .ref 178), (3, .ref 226), (4, .int (0 : Int32))]) (st' := [.int (2 : Int32), .ref 1000002, .int p1, .ref 178]) rfl ?_
  refine jw.sld F jx_i439 hX hbB hE2 (pc' := 1470) rfl rfl (show vp_in (nI 2) 6 from vp_in_nI (by decide) (by decide)) q2 rfl ?_
  refine jw.steps F jx_i439 4 (pc' := 1475) (l' := [(5, .int (1 : Int32)), (0, .ref 1000002), (1, .ref 0), (2, .ref 178), (3, .ref 226), (4, .int (0 : Int32))]) (st' := [.int (3 : Int32), .ref 1000002, .int p2, .int p1, .ref 178]) rfl ?_
  refine jw.sld F jx_i439 hX hbB hE2 (pc' := 1476) rfl rfl (show vp_in (nI 3) 6 from vp_in_nI (by decide) (by decide)) q3 rfl ?_
  refine jw.ca hTb F jx_i439 (pc' := 1479) (S' := [.int (0 : Int32)]) rfl jv_i416 [.ref 178, .int p1, .int p2, .int p3] rfl rfl rfl rfl (jx_cal2 rfl (jv_H_at rfl) rfl rfl) rfl (jx_e441 p0 p1 p2 p3 p4 p5 g1 g2) (by omega) (by omega) rfl rfl ?_
  refine jw.steps F jx_i439 2 (pc' := 1482) (l' := [(6, .int (0 : Int32)), (5, .int (1 : Int32)), (0, .ref 1000002), (1, .ref 0), (2, .ref 178), (3, .ref 226), (4, .int (0 : Int32))]) (st' := [.ref 178]) rfl ?_
  refine jw.ca hTb F jx_i439 (pc' := 1485) (S' := [.int (1 : Int32)]) rfl jv_i350 [.ref 178] rfl rfl rfl rfl (jx_cal2 rfl (jv_H_at rfl) rfl rfl) rfl (jx_e442 p0 p1 p2 p3 p4 p5 g1 g2) (by omega) (by omega) rfl rfl ?_
  refine jw.steps F jx_i439 1 (pc' := 1487) (l' := [(6, .int (0 : Int32)), (5, .int (1 : Int32)), (0, .ref 1000002), (1, .ref 0), (2, .ref 178), (3, .ref 226), (4, .int (0 : Int32))]) (st' := [.int (1 : Int32), .int (1 : Int32)]) rfl ?_
  refine jw.br F jx_i439 (pc' := 1492) (st' := []) rfl (jv_bc_eq.trans (jx_got (by decide))) ?_
  refine jw.steps F jx_i439 1 (pc' := 1494) (l' := [(6, .int (0 : Int32)), (5, .int (1 : Int32)), (0, .ref 1000002), (1, .ref 0), (2, .ref 178), (3, .ref 226), (4, .int (0 : Int32))]) (st' := [.int (1 : Int32)]) rfl ?_
  refine jw.br F jx_i439 (pc' := 1509) (st' := []) rfl (jv_bi_ne.trans (jx_got (by decide))) ?_
  refine jw.steps F jx_i439 5 (pc' := 26) (l' := [(4, .int (6 : Int32)), (6, .int (0 : Int32)), (5, .int (1 : Int32)), (0, .ref 1000002), (1, .ref 0), (2, .ref 178), (3, .ref 226)]) (st' := [.ref 1000002, .int (6 : Int32)]) rfl ?_
  refine jw.slen F jx_i439 hX hbB hE2 (pc' := 27) rfl rfl rfl ?_
  refine jw.steps F jx_i439 2 (pc' := 30) (l' := [(4, .int (6 : Int32)), (6, .int (0 : Int32)), (5, .int (1 : Int32)), (0, .ref 1000002), (1, .ref 0), (2, .ref 178), (3, .ref 226)]) (st' := [.int (0 : Int32), .int (6 : Int32)]) rfl ?_
  refine jw.br F jx_i439 (pc' := 1531) (st' := []) rfl (jv_bc_gt.trans (jx_got (by decide))) ?_
  refine jw.steps F jx_i439 1 (pc' := 1532) (l' := [(4, .int (6 : Int32)), (6, .int (0 : Int32)), (5, .int (1 : Int32)), (0, .ref 1000002), (1, .ref 0), (2, .ref 178), (3, .ref 226)]) (st' := [.int (1 : Int32)]) rfl ?_
  exact hQ _ _ _ _ (by omega) (by omega)

set_option maxRecDepth 100000 in
/-- ProgramBox$Store.map -/
theorem jx_e447 (p0 : Int32) (p1 : Int32) (p2 : Int32) (p3 : Int32) (p4 : Int32) (p5 : Int32) (g1 : ¬ p1.toInt64 < (0 : Int64)) (g2 : p1 < (0 : Int32)) : jv_Ms 126 [.ref 2, .long p1.toInt64] (jv_H (jx_K 227) jx_If jx_L0 (jx_R 227)) 227 1572950 (some (.null), (jv_H (jx_K 227) jx_If jx_L0 (jx_R 227)), 227, 1572950) := by
  show jv_Ev 126 0 [(0, .ref 2), (1, .long p1.toInt64)] [] (jv_H (jx_K 227) jx_If jx_L0 (jx_R 227)) 227 1572950 _
  refine jv_Ev.steps jv_i126 3 (pc' := 3) (l' := [(0, .ref 2), (1, .long p1.toInt64)]) (st' := [.int (lg_cmp p1.toInt64 (0 : Int64))]) rfl ?_
  refine jv_Ev.br jv_i126 (pc' := 6) (st' := []) rfl (jv_bi_lt.trans (jx_gof (fun h => g1 ((lg_cmp_lt p1.toInt64 (0 : Int64)).mp h)))) ?_
  refine jv_Ev.steps jv_i126 2 (pc' := 8) (l' := [(0, .ref 2), (1, .long p1.toInt64)]) (st' := [.ref 2, .long p1.toInt64]) rfl ?_
  refine jv_Ev.m jv_i126 (pc' := 11) (st' := [.int (0 : Int32), .long p1.toInt64]) rfl rfl (jv_m_getI rfl rfl rfl rfl) ?_
  refine jv_Ev.steps jv_i126 2 (pc' := 13) (l' := [(0, .ref 2), (1, .long p1.toInt64)]) (st' := [.int (lg_cmp p1.toInt64 (0 : Int64))]) rfl ?_
  refine jv_Ev.br jv_i126 (pc' := 16) (st' := []) rfl (jv_bi_lt.trans (jx_gof (fun h => g1 ((lg_cmp_lt p1.toInt64 (0 : Int64)).mp h)))) ?_
  refine jv_Ev.steps jv_i126 2 (pc' := 27) (l' := [(0, .ref 2), (1, .long p1.toInt64)]) (st' := [.null]) rfl ?_
  exact jv_Ev.ret jv_i126 rfl rfl

set_option maxRecDepth 100000 in
/-- ProgramBox.mapOf: it throws -/
theorem jx_e448 (hTb : jv_TOk jv_Tb) (p0 : Int32) (p1 : Int32) (p2 : Int32) (p3 : Int32) (p4 : Int32) (p5 : Int32) (g1 : ¬ p1.toInt64 < (0 : Int64)) (g2 : p1 < (0 : Int32)) : jx_Th 429 [.ref 0, .int p1] (jv_H (jx_K 227) jx_If jx_L0 (jx_R 227)) 227 1572950 2 (jv_H (jx_K 227) jx_If jx_L0 (jx_R 227)) 228 1572956 := by
  refine jx_Th.of hTb (y := 429) rfl (Nat.le_of_ble_eq_true rfl) ?_
  intro p l e R s m args below meth c E hl F hZ h0 ht hRc hRs
  show jw p l e R s m args below meth c E 3 227 1572950 _ 0 [(0, .ref 0), (1, .int p1)] [] (jv_H (jx_K 227) jx_If jx_L0 (jx_R 227)) 227 1572950
  refine jw.steps F jv_i429 1 (pc' := 1) (l' := [(0, .ref 0), (1, .int p1)]) (st' := [.ref 0]) rfl ?_
  refine jw.me F jv_i429 (pc' := 4) (st' := [.ref 2]) rfl rfl (jv_m_getR rfl rfl rfl rfl) ?_
  refine jw.steps F jv_i429 2 (pc' := 6) (l' := [(0, .ref 0), (1, .int p1)]) (st' := [.long p1.toInt64, .ref 2]) rfl ?_
  refine jw.ca hTb F jv_i429 (pc' := 9) (S' := [.null]) rfl jv_i126 [.ref 2, .long p1.toInt64] rfl rfl rfl rfl (jv_cal rfl (jv_H_at rfl) rfl rfl) rfl (jx_e447 p0 p1 p2 p3 p4 p5 g1 g2) (by omega) (by omega) rfl rfl ?_
  refine jw.steps F jv_i429 2 (pc' := 11) (l' := [(2, .null), (0, .ref 0), (1, .int p1)]) (st' := [.null]) rfl ?_
  refine jw.br F jv_i429 (pc' := 14) (st' := []) rfl rfl ?_
  exact jw.throw hl F hZ h0 rfl jv_i429 ht 2 183 "there is no such map" (List.mem_of_getElem? (i := 11) rfl) (by decide +kernel) (by decide +kernel) (by decide +kernel) (by decide +kernel) (by decide +kernel) rfl (by decide) (by decide) (by decide) (by omega) (by omega)

set_option maxRecDepth 100000 in
/-- ProgramBox.next: it throws -/
theorem jx_e449 (hTb : jv_TOk jv_Tb) (p0 : Int32) (p1 : Int32) (p2 : Int32) (p3 : Int32) (p4 : Int32) (p5 : Int32) (g1 : ¬ p1.toInt64 < (0 : Int64)) (g2 : p1 < (0 : Int32)) : jx_Th 438 [.ref 0, .int p1, .int p2, .int p3] (jv_H (jx_K 227) jx_If jx_L0 (jx_R 227)) 227 1572950 2 (jv_H (jx_K 227) jx_If jx_L0 (jx_R 227)) 228 1572956 := by
  refine jx_Th.of hTb (y := 438) rfl (Nat.le_of_ble_eq_true rfl) ?_
  intro p l e R s m args below meth c E hl F hZ h0 ht hRc hRs
  show jw p l e R s m args below meth c E 6 227 1572950 _ 0 [(0, .ref 0), (1, .int p1), (2, .int p2), (3, .int p3)] [] (jv_H (jx_K 227) jx_If jx_L0 (jx_R 227)) 227 1572950
  refine jw.steps F jv_i438 2 (pc' := 2) (l' := [(0, .ref 0), (1, .int p1), (2, .int p2), (3, .int p3)]) (st' := [.int p1, .ref 0]) rfl ?_
  exact jw.prop hTb hl F hZ jv_i438 ht rfl jv_i429 [.ref 0, .int p1] rfl rfl rfl rfl rfl (jv_cal rfl (jv_H_at rfl) rfl rfl) rfl (jx_e448 hTb p0 p1 p2 p3 p4 p5 g1 g2) (by omega) (by omega) (by omega) (by omega)

set_option maxRecDepth 100000 in
/-- the law's next -/
theorem jx_w450 (hTb : jv_TOk jv_Tb) (hT2 : jx_T2Ok) (p0 : Int32) (p1 : Int32) (p2 : Int32) (p3 : Int32) (p4 : Int32) (p5 : Int32) (g1 : ¬ p1.toInt64 < (0 : Int64)) (g2 : p1 < (0 : Int32)) : jx_Wr 457 [(0, 12, 15, 36)] [.ref 0, .int p1, .int p2, .int p3, .ref 226] (jv_H (jx_K 227) jx_If jx_L0 (jx_R 227)) 227 1572950 (some (.int (1 : Int32)), (jv_H (jx_K 227) jx_If jx_L0 (jx_R 227)), 228, 1572956) := by
  refine jx_Wr.of hT2 (by decide) rfl (Nat.le_of_ble_eq_true rfl) ?_
  intro p l e R s m args below meth c E hl F hZ htb hRc hRs
  show jw p l e R s m args below meth c E 6 227 1572950 _ 0 [(0, .ref 0), (1, .int p1), (2, .int p2), (3, .int p3), (4, .ref 226)] [] (jv_H (jx_K 227) jx_If jx_L0 (jx_R 227)) 227 1572950
  have hRc : R.cells = 228 - 227 := hRc
  have hRs : R.slots = 1572956 - 1572950 := hRs
  refine jw.steps F jx_i457 6 (pc' := 7) (l' := [(0, .ref 0), (1, .int p1), (2, .int p2), (3, .int p3), (4, .ref 226)]) (st' := [.int p3, .int p2, .int p1, .ref 0, .int (0 : Int32), .ref 226]) rfl ?_
  refine jw.cat hTb hl F hZ rfl jx_i457 htb rfl jv_i438 [.ref 0, .int p1, .int p2, .int p3] rfl rfl rfl rfl rfl (jx_cal2 rfl (jv_H_at rfl) rfl rfl) rfl (jx_e449 hTb p0 p1 p2 p3 p4 p5 g1 g2) (by omega) (by omega) (by omega) (by omega) [] (0, 12, 15, 36) [] rfl (fun z h => absurd h List.not_mem_nil) (by decide) rfl rfl (Or.inl ⟨rfl, rfl⟩) (by decide) ?_
  refine jw.steps F jx_i457 1 (pc' := 18) (l' := []) (st' := [.int (1 : Int32)]) rfl ?_
  exact jw.ret F jx_i457 rfl rfl

set_option maxRecDepth 100000 in
/-- ProgramBoxModel$Store.noMap -/
theorem jx_e451 (p0 : Int32) (p1 : Int32) (p2 : Int32) (p3 : Int32) (p4 : Int32) (p5 : Int32) (g1 : ¬ p1.toInt64 < (0 : Int64)) (g2 : p1 < (0 : Int32)) : jv_Ms 324 [.ref 180, .int p1] (jv_H (jx_K 227) jx_If jx_L0 (jx_R 227)) 228 1572956 (some (.int (1 : Int32)), (jv_H (jx_K 227) (jv_u jx_If 180 0 (1 : Int32)) jx_L0 (jx_R 227)), 228, 1572956) := by
  show jv_Ev 324 0 [(0, .ref 180), (1, .int p1)] [] (jv_H (jx_K 227) jx_If jx_L0 (jx_R 227)) 228 1572956 _
  refine jv_Ev.steps jv_i324 2 (pc' := 2) (l' := [(0, .ref 180), (1, .int p1)]) (st' := [.int p1, .ref 180]) rfl ?_
  refine jv_Ev.br jv_i324 (pc' := 13) (st' := [.ref 180]) rfl (jv_bi_lt.trans (jx_got g2)) ?_
  refine jv_Ev.steps jv_i324 2 (pc' := 18) (l' := [(0, .ref 180), (1, .int p1)]) (st' := [.int (1 : Int32), .ref 180]) rfl ?_
  refine jv_Ev.m jv_i324 (pc' := 21) (st' := []) rfl rfl (jv_m_putI rfl rfl rfl rfl rfl) ?_
  refine jv_Ev.steps jv_i324 1 (pc' := 22) (l' := [(0, .ref 180), (1, .int p1)]) (st' := [.ref 180]) rfl ?_
  refine jv_Ev.m jv_i324 (pc' := 25) (st' := [.int (1 : Int32)]) rfl rfl (jv_m_getI rfl rfl rfl rfl) ?_
  refine jv_Ev.br jv_i324 (pc' := 28) (st' := []) rfl (jv_bi_le.trans (jx_gof (by decide))) ?_
  refine jv_Ev.steps jv_i324 2 (pc' := 33) (l' := [(0, .ref 180), (1, .int p1)]) (st' := [.int (1 : Int32)]) rfl ?_
  exact jv_Ev.ret jv_i324 rfl (jv_ret_b (by decide))

set_option maxRecDepth 100000 in
/-- ProgramBoxModel$Store.next -/
theorem jx_e452 (p0 : Int32) (p1 : Int32) (p2 : Int32) (p3 : Int32) (p4 : Int32) (p5 : Int32) (g1 : ¬ p1.toInt64 < (0 : Int64)) (g2 : p1 < (0 : Int32)) : jv_Ms 348 [.ref 180, .int p1, .int p2, .int p3] (jv_H (jx_K 227) jx_If jx_L0 (jx_R 227)) 228 1572956 (some (.int (0 : Int32)), (jv_H (jx_K 227) (jv_u jx_If 180 0 (1 : Int32)) jx_L0 (jx_R 227)), 228, 1572956) := by
  show jv_Ev 348 0 [(0, .ref 180), (1, .int p1), (2, .int p2), (3, .int p3)] [] (jv_H (jx_K 227) jx_If jx_L0 (jx_R 227)) 228 1572956 _
  refine jv_Ev.steps jv_i348 2 (pc' := 2) (l' := [(0, .ref 180), (1, .int p1), (2, .int p2), (3, .int p3)]) (st' := [.int p1, .ref 180]) rfl ?_
  refine jv_Ev.c jv_i348 (pc' := 5) (S' := [.int (1 : Int32)]) jv_i324 [.ref 180, .int p1] rfl rfl rfl rfl (jv_cal rfl (jv_H_at rfl) rfl rfl) rfl (jx_e451 p0 p1 p2 p3 p4 p5 g1 g2) rfl rfl ?_
  refine jv_Ev.br jv_i348 (pc' := 8) (st' := []) rfl (jv_bi_eq.trans (jx_gof (by decide))) ?_
  refine jv_Ev.steps jv_i348 1 (pc' := 9) (l' := [(0, .ref 180), (1, .int p1), (2, .int p2), (3, .int p3)]) (st' := [.int (0 : Int32)]) rfl ?_
  exact jv_Ev.ret jv_i348 rfl rfl

set_option maxRecDepth 100000 in
/-- ProgramBoxModel$Store.thrown -/
theorem jx_e453 (p0 : Int32) (p1 : Int32) (p2 : Int32) (p3 : Int32) (p4 : Int32) (p5 : Int32) (g1 : ¬ p1.toInt64 < (0 : Int64)) (g2 : p1 < (0 : Int32)) : jv_Ms 318 [.ref 180] (jv_H (jx_K 227) (jv_u jx_If 180 0 (1 : Int32)) jx_L0 (jx_R 227)) 228 1572956 (some (.int (1 : Int32)), (jv_H (jx_K 227) (jv_u jx_If 180 0 (1 : Int32)) jx_L0 (jx_R 227)), 228, 1572956) := by
  show jv_Ev 318 0 [(0, .ref 180)] [] (jv_H (jx_K 227) (jv_u jx_If 180 0 (1 : Int32)) jx_L0 (jx_R 227)) 228 1572956 _
  refine jv_Ev.steps jv_i318 1 (pc' := 1) (l' := [(0, .ref 180)]) (st' := [.ref 180]) rfl ?_
  refine jv_Ev.m jv_i318 (pc' := 4) (st' := [.int (1 : Int32)]) rfl rfl (jv_m_getI rfl rfl rfl rfl) ?_
  exact jv_Ev.ret jv_i318 rfl rfl

set_option maxRecDepth 100000 in
/-- ProgramBoxModel.next -/
theorem jx_e454 (p0 : Int32) (p1 : Int32) (p2 : Int32) (p3 : Int32) (p4 : Int32) (p5 : Int32) (g1 : ¬ p1.toInt64 < (0 : Int64)) (g2 : p1 < (0 : Int32)) : jv_Ms 416 [.ref 178, .int p1, .int p2, .int p3] (jv_H (jx_K 227) jx_If jx_L0 (jx_R 227)) 228 1572956 (some (.int (0 : Int32)), (jv_H (jx_K 227) (jv_u (jv_u jx_If 180 0 (1 : Int32)) 178 0 (1 : Int32)) jx_L0 (jx_R 227)), 228, 1572956) := by
  show jv_Ev 416 0 [(0, .ref 178), (1, .int p1), (2, .int p2), (3, .int p3)] [] (jv_H (jx_K 227) jx_If jx_L0 (jx_R 227)) 228 1572956 _
  refine jv_Ev.steps jv_i416 1 (pc' := 1) (l' := [(0, .ref 178), (1, .int p1), (2, .int p2), (3, .int p3)]) (st' := [.ref 178]) rfl ?_
  refine jv_Ev.m jv_i416 (pc' := 4) (st' := [.ref 180]) rfl rfl (jv_m_getR rfl rfl rfl rfl) ?_
  refine jv_Ev.steps jv_i416 3 (pc' := 7) (l' := [(0, .ref 178), (1, .int p1), (2, .int p2), (3, .int p3)]) (st' := [.int p3, .int p2, .int p1, .ref 180]) rfl ?_
  refine jv_Ev.c jv_i416 (pc' := 10) (S' := [.int (0 : Int32)]) jv_i348 [.ref 180, .int p1, .int p2, .int p3] rfl rfl rfl rfl (jv_cal rfl (jv_H_at rfl) rfl rfl) rfl (jx_e452 p0 p1 p2 p3 p4 p5 g1 g2) rfl rfl ?_
  refine jv_Ev.steps jv_i416 3 (pc' := 14) (l' := [(4, .int (0 : Int32)), (0, .ref 178), (1, .int p1), (2, .int p2), (3, .int p3)]) (st' := [.ref 178, .ref 178]) rfl ?_
  refine jv_Ev.m jv_i416 (pc' := 17) (st' := [.ref 180, .ref 178]) rfl rfl (jv_m_getR rfl rfl rfl rfl) ?_
  refine jv_Ev.c jv_i416 (pc' := 20) (S' := [.int (1 : Int32), .ref 178]) jv_i318 [.ref 180] rfl rfl rfl rfl (jv_cal rfl (jv_H_at rfl) rfl rfl) rfl (jx_e453 p0 p1 p2 p3 p4 p5 g1 g2) rfl rfl ?_
  refine jv_Ev.m jv_i416 (pc' := 23) (st' := []) rfl rfl (jv_m_putI rfl rfl rfl rfl rfl) ?_
  refine jv_Ev.steps jv_i416 1 (pc' := 25) (l' := [(4, .int (0 : Int32)), (0, .ref 178), (1, .int p1), (2, .int p2), (3, .int p3)]) (st' := [.int (0 : Int32)]) rfl ?_
  exact jv_Ev.ret jv_i416 rfl rfl

set_option maxRecDepth 100000 in
/-- ProgramBoxModel.thrown -/
theorem jx_e455 (p0 : Int32) (p1 : Int32) (p2 : Int32) (p3 : Int32) (p4 : Int32) (p5 : Int32) (g1 : ¬ p1.toInt64 < (0 : Int64)) (g2 : p1 < (0 : Int32)) : jv_Ms 350 [.ref 178] (jv_H (jx_K 227) (jv_u (jv_u jx_If 180 0 (1 : Int32)) 178 0 (1 : Int32)) jx_L0 (jx_R 227)) 228 1572956 (some (.int (1 : Int32)), (jv_H (jx_K 227) (jv_u (jv_u jx_If 180 0 (1 : Int32)) 178 0 (1 : Int32)) jx_L0 (jx_R 227)), 228, 1572956) := by
  show jv_Ev 350 0 [(0, .ref 178)] [] (jv_H (jx_K 227) (jv_u (jv_u jx_If 180 0 (1 : Int32)) 178 0 (1 : Int32)) jx_L0 (jx_R 227)) 228 1572956 _
  refine jv_Ev.steps jv_i350 1 (pc' := 1) (l' := [(0, .ref 178)]) (st' := [.ref 178]) rfl ?_
  refine jv_Ev.m jv_i350 (pc' := 4) (st' := [.int (1 : Int32)]) rfl rfl (jv_m_getI rfl rfl rfl rfl) ?_
  exact jv_Ev.ret jv_i350 rfl rfl

set_option maxRecDepth 100000 in
/-- the law: case 25, one way -/
theorem jx_l59 (p0 : Int32) (p1 : Int32) (p2 : Int32) (p3 : Int32) (p4 : Int32) (p5 : Int32) (g1 : ¬ p1.toInt64 < (0 : Int64)) (g2 : p1 < (0 : Int32)) (hsw : p0 &&& (31 : Int32) = (25 : Int32)) {p : Program} {l : Launch} {e : Env} {R : Room} {s : State} {m : MethodId} {args : Array Value} {below : List Frame} {meth : Method} {c : Code} {E : jv_Env} {Q : State → Prop} (hTb : jv_TOk jv_Tb) (hT2 : jx_T2Ok) (hl : l.stackTraces = false) (F : jx_F jv_T2 439 E p R s m args meth c) (hZ : jx_Z E s) (hRc : R.cells = 600002) (hRs : R.slots = 7302232) {bb : Nat} {xs : Nat → Int32} (hX : va_X bb 6 xs s E.2.2.2.2) (hbB : bb < E.2.2.2.1) (hE2 : E.1 1000002 = bb) (hQ : ∀ (l0 : jv_L) (G : jv_G) (n sl : Nat), n ≤ 600002 → sl ≤ 7302232 → jw p l e R s m args below meth c E 8 0 0 Q 1532 l0 [.int (1 : Int32)] G n sl) (q0 : xs 0 = p0) (q1 : xs 1 = p1) (q2 : xs 2 = p2) (q3 : xs 3 = p3) (q4 : xs 4 = p4) (q5 : xs 5 = p5) : jw p l e R s m args below meth c E 8 0 0 Q 33 [(0, .ref 1000002), (1, .ref 0), (2, .ref 178), (3, .ref 226), (4, .int (0 : Int32))] [] (jv_H (jx_K 227) jx_If jx_L0 (jx_R 227)) 227 1572950 := by
  refine jw.steps F jx_i439 2 (pc' := 36) (l' := [(0, .ref 1000002), (1, .ref 0), (2, .ref 178), (3, .ref 226), (4, .int (0 : Int32))]) (st' := [.int (0 : Int32), .ref 1000002]) rfl ?_
  refine jw.sld F jx_i439 hX hbB hE2 (pc' := 37) rfl rfl (show vp_in (nI 0) 6 from vp_in_nI (by decide) (by decide)) q0 rfl ?_
  refine jw.steps F jx_i439 2 (pc' := 40) (l' := [(0, .ref 1000002), (1, .ref 0), (2, .ref 178), (3, .ref 226), (4, .int (0 : Int32))]) (st' := [.int (p0 &&& (31 : Int32))]) rfl ?_
  refine jw.br F jx_i439 (pc' := 1432) (st' := []) rfl (by rw [hsw]; rfl) ?_
  refine jw.steps F jx_i439 5 (pc' := 1438) (l' := [(0, .ref 1000002), (1, .ref 0), (2, .ref 178), (3, .ref 226), (4, .int (0 : Int32))]) (st' := [.int (1 : Int32), .ref 1000002, .ref 0]) rfl ?_
  refine jw.sld F jx_i439 hX hbB hE2 (pc' := 1439) rfl rfl (show vp_in (nI 1) 6 from vp_in_nI (by decide) (by decide)) q1 rfl ?_
  refine jw.steps F jx_i439 4 (pc' := 1444) (l' := [(0, .ref 1000002), (1, .ref 0), (2, .ref 178), (3, .ref 226), (4, .int (0 : Int32))]) (st' := [.int (2 : Int32), .ref 1000002, .int p1, .ref 0]) rfl ?_
  refine jw.sld F jx_i439 hX hbB hE2 (pc' := 1445) rfl rfl (show vp_in (nI 2) 6 from vp_in_nI (by decide) (by decide)) q2 rfl ?_
  refine jw.steps F jx_i439 4 (pc' := 1450) (l' := [(0, .ref 1000002), (1, .ref 0), (2, .ref 178), (3, .ref 226), (4, .int (0 : Int32))]) (st' := [.int (3 : Int32), .ref 1000002, .int p2, .int p1, .ref 0]) rfl ?_
  refine jw.sld F jx_i439 hX hbB hE2 (pc' := 1451) rfl rfl (show vp_in (nI 3) 6 from vp_in_nI (by decide) (by decide)) q3 rfl ?_
  refine jw.steps F jx_i439 1 (pc' := 1452) (l' := [(0, .ref 1000002), (1, .ref 0), (2, .ref 178), (3, .ref 226), (4, .int (0 : Int32))]) (st' := [.ref 226, .int p3, .int p2, .int p1, .ref 0]) rfl ?_
  refine jw.wr F hl hZ rfl jx_i439 jx_i457 [.ref 0, .int p1, .int p2, .int p3, .ref 226] (pc' := 1455) (S' := [.int (1 : Int32)]) rfl (List.mem_of_getElem? (i := 17) rfl) (List.mem_of_getElem? (i := 17) rfl) rfl rfl rfl (jx_w450 hTb hT2 p0 p1 p2 p3 p4 p5 g1 g2) (by omega) (by omega) (by omega) (by omega) rfl rfl ?_
  refine jw.steps F jx_i439 6 (pc' := 1463) (l' := [(5, .int (1 : Int32)), (0, .ref 1000002), (1, .ref 0), (2, .ref 178), (3, .ref 226), (4, .int (0 : Int32))]) (st' := [.int (1 : Int32), .ref 1000002, .ref 178]) rfl ?_
  refine jw.sld F jx_i439 hX hbB hE2 (pc' := 1464) rfl rfl (show vp_in (nI 1) 6 from vp_in_nI (by decide) (by decide)) q1 rfl ?_
  refine jw.steps F jx_i439 4 (pc' := 1469) (l' := [(5, .int (1 : Int32)), (0, .ref 1000002), (1, .ref 0), (2, .ref 178), (3, .ref 226), (4, .int (0 : Int32))]) (st' := [.int (2 : Int32), .ref 1000002, .int p1, .ref 178]) rfl ?_
  refine jw.sld F jx_i439 hX hbB hE2 (pc' := 1470) rfl rfl (show vp_in (nI 2) 6 from vp_in_nI (by decide) (by decide)) q2 rfl ?_
  refine jw.steps F jx_i439 4 (pc' := 1475) (l' := [(5, .int (1 : Int32)), (0, .ref 1000002), (1, .ref 0), (2, .ref 178), (3, .ref 226), (4, .int (0 : Int32))]) (st' := [.int (3 : Int32), .ref 1000002, .int p2, .int p1, .ref 178]) rfl ?_
  refine jw.sld F jx_i439 hX hbB hE2 (pc' := 1476) rfl rfl (show vp_in (nI 3) 6 from vp_in_nI (by decide) (by decide)) q3 rfl ?_
  refine jw.ca hTb F jx_i439 (pc' := 1479) (S' := [.int (0 : Int32)]) rfl jv_i416 [.ref 178, .int p1, .int p2, .int p3] rfl rfl rfl rfl (jx_cal2 rfl (jv_H_at rfl) rfl rfl) rfl (jx_e454 p0 p1 p2 p3 p4 p5 g1 g2) (by omega) (by omega) rfl rfl ?_
  refine jw.steps F jx_i439 2 (pc' := 1482) (l' := [(6, .int (0 : Int32)), (5, .int (1 : Int32)), (0, .ref 1000002), (1, .ref 0), (2, .ref 178), (3, .ref 226), (4, .int (0 : Int32))]) (st' := [.ref 178]) rfl ?_
  refine jw.ca hTb F jx_i439 (pc' := 1485) (S' := [.int (1 : Int32)]) rfl jv_i350 [.ref 178] rfl rfl rfl rfl (jx_cal2 rfl (jv_H_at rfl) rfl rfl) rfl (jx_e455 p0 p1 p2 p3 p4 p5 g1 g2) (by omega) (by omega) rfl rfl ?_
  refine jw.steps F jx_i439 1 (pc' := 1487) (l' := [(6, .int (0 : Int32)), (5, .int (1 : Int32)), (0, .ref 1000002), (1, .ref 0), (2, .ref 178), (3, .ref 226), (4, .int (0 : Int32))]) (st' := [.int (1 : Int32), .int (1 : Int32)]) rfl ?_
  refine jw.br F jx_i439 (pc' := 1492) (st' := []) rfl (jv_bc_eq.trans (jx_got (by decide))) ?_
  refine jw.steps F jx_i439 1 (pc' := 1494) (l' := [(6, .int (0 : Int32)), (5, .int (1 : Int32)), (0, .ref 1000002), (1, .ref 0), (2, .ref 178), (3, .ref 226), (4, .int (0 : Int32))]) (st' := [.int (1 : Int32)]) rfl ?_
  refine jw.br F jx_i439 (pc' := 1509) (st' := []) rfl (jv_bi_ne.trans (jx_got (by decide))) ?_
  refine jw.steps F jx_i439 5 (pc' := 26) (l' := [(4, .int (6 : Int32)), (6, .int (0 : Int32)), (5, .int (1 : Int32)), (0, .ref 1000002), (1, .ref 0), (2, .ref 178), (3, .ref 226)]) (st' := [.ref 1000002, .int (6 : Int32)]) rfl ?_
  refine jw.slen F jx_i439 hX hbB hE2 (pc' := 27) rfl rfl rfl ?_
  refine jw.steps F jx_i439 2 (pc' := 30) (l' := [(4, .int (6 : Int32)), (6, .int (0 : Int32)), (5, .int (1 : Int32)), (0, .ref 1000002), (1, .ref 0), (2, .ref 178), (3, .ref 226)]) (st' := [.int (0 : Int32), .int (6 : Int32)]) rfl ?_
  refine jw.br F jx_i439 (pc' := 1531) (st' := []) rfl (jv_bc_gt.trans (jx_got (by decide))) ?_
  refine jw.steps F jx_i439 1 (pc' := 1532) (l' := [(4, .int (6 : Int32)), (6, .int (0 : Int32)), (5, .int (1 : Int32)), (0, .ref 1000002), (1, .ref 0), (2, .ref 178), (3, .ref 226)]) (st' := [.int (1 : Int32)]) rfl ?_
  exact hQ _ _ _ _ (by omega) (by omega)

set_option maxRecDepth 100000 in
/-- ProgramBox$Store.map -/
theorem jx_e456 (p0 : Int32) (p1 : Int32) (p2 : Int32) (p3 : Int32) (p4 : Int32) (p5 : Int32) (g1 : ¬ p1.toInt64 < (0 : Int64)) (g2 : ¬ p1 < (0 : Int32)) : jv_Ms 126 [.ref 2, .long p1.toInt64] (jv_H (jx_K 227) jx_If jx_L0 (jx_R 227)) 227 1572950 (some (.null), (jv_H (jx_K 227) jx_If jx_L0 (jx_R 227)), 227, 1572950) := by
  show jv_Ev 126 0 [(0, .ref 2), (1, .long p1.toInt64)] [] (jv_H (jx_K 227) jx_If jx_L0 (jx_R 227)) 227 1572950 _
  refine jv_Ev.steps jv_i126 3 (pc' := 3) (l' := [(0, .ref 2), (1, .long p1.toInt64)]) (st' := [.int (lg_cmp p1.toInt64 (0 : Int64))]) rfl ?_
  refine jv_Ev.br jv_i126 (pc' := 6) (st' := []) rfl (jv_bi_lt.trans (jx_gof (fun h => g1 ((lg_cmp_lt p1.toInt64 (0 : Int64)).mp h)))) ?_
  refine jv_Ev.steps jv_i126 2 (pc' := 8) (l' := [(0, .ref 2), (1, .long p1.toInt64)]) (st' := [.ref 2, .long p1.toInt64]) rfl ?_
  refine jv_Ev.m jv_i126 (pc' := 11) (st' := [.int (0 : Int32), .long p1.toInt64]) rfl rfl (jv_m_getI rfl rfl rfl rfl) ?_
  refine jv_Ev.steps jv_i126 2 (pc' := 13) (l' := [(0, .ref 2), (1, .long p1.toInt64)]) (st' := [.int (lg_cmp p1.toInt64 (0 : Int64))]) rfl ?_
  refine jv_Ev.br jv_i126 (pc' := 16) (st' := []) rfl (jv_bi_lt.trans (jx_gof (fun h => g1 ((lg_cmp_lt p1.toInt64 (0 : Int64)).mp h)))) ?_
  refine jv_Ev.steps jv_i126 2 (pc' := 27) (l' := [(0, .ref 2), (1, .long p1.toInt64)]) (st' := [.null]) rfl ?_
  exact jv_Ev.ret jv_i126 rfl rfl

set_option maxRecDepth 100000 in
/-- ProgramBox.mapOf: it throws -/
theorem jx_e457 (hTb : jv_TOk jv_Tb) (p0 : Int32) (p1 : Int32) (p2 : Int32) (p3 : Int32) (p4 : Int32) (p5 : Int32) (g1 : ¬ p1.toInt64 < (0 : Int64)) (g2 : ¬ p1 < (0 : Int32)) : jx_Th 429 [.ref 0, .int p1] (jv_H (jx_K 227) jx_If jx_L0 (jx_R 227)) 227 1572950 2 (jv_H (jx_K 227) jx_If jx_L0 (jx_R 227)) 228 1572956 := by
  refine jx_Th.of hTb (y := 429) rfl (Nat.le_of_ble_eq_true rfl) ?_
  intro p l e R s m args below meth c E hl F hZ h0 ht hRc hRs
  show jw p l e R s m args below meth c E 3 227 1572950 _ 0 [(0, .ref 0), (1, .int p1)] [] (jv_H (jx_K 227) jx_If jx_L0 (jx_R 227)) 227 1572950
  refine jw.steps F jv_i429 1 (pc' := 1) (l' := [(0, .ref 0), (1, .int p1)]) (st' := [.ref 0]) rfl ?_
  refine jw.me F jv_i429 (pc' := 4) (st' := [.ref 2]) rfl rfl (jv_m_getR rfl rfl rfl rfl) ?_
  refine jw.steps F jv_i429 2 (pc' := 6) (l' := [(0, .ref 0), (1, .int p1)]) (st' := [.long p1.toInt64, .ref 2]) rfl ?_
  refine jw.ca hTb F jv_i429 (pc' := 9) (S' := [.null]) rfl jv_i126 [.ref 2, .long p1.toInt64] rfl rfl rfl rfl (jv_cal rfl (jv_H_at rfl) rfl rfl) rfl (jx_e456 p0 p1 p2 p3 p4 p5 g1 g2) (by omega) (by omega) rfl rfl ?_
  refine jw.steps F jv_i429 2 (pc' := 11) (l' := [(2, .null), (0, .ref 0), (1, .int p1)]) (st' := [.null]) rfl ?_
  refine jw.br F jv_i429 (pc' := 14) (st' := []) rfl rfl ?_
  exact jw.throw hl F hZ h0 rfl jv_i429 ht 2 183 "there is no such map" (List.mem_of_getElem? (i := 11) rfl) (by decide +kernel) (by decide +kernel) (by decide +kernel) (by decide +kernel) (by decide +kernel) rfl (by decide) (by decide) (by decide) (by omega) (by omega)

set_option maxRecDepth 100000 in
/-- ProgramBox.next: it throws -/
theorem jx_e458 (hTb : jv_TOk jv_Tb) (p0 : Int32) (p1 : Int32) (p2 : Int32) (p3 : Int32) (p4 : Int32) (p5 : Int32) (g1 : ¬ p1.toInt64 < (0 : Int64)) (g2 : ¬ p1 < (0 : Int32)) : jx_Th 438 [.ref 0, .int p1, .int p2, .int p3] (jv_H (jx_K 227) jx_If jx_L0 (jx_R 227)) 227 1572950 2 (jv_H (jx_K 227) jx_If jx_L0 (jx_R 227)) 228 1572956 := by
  refine jx_Th.of hTb (y := 438) rfl (Nat.le_of_ble_eq_true rfl) ?_
  intro p l e R s m args below meth c E hl F hZ h0 ht hRc hRs
  show jw p l e R s m args below meth c E 6 227 1572950 _ 0 [(0, .ref 0), (1, .int p1), (2, .int p2), (3, .int p3)] [] (jv_H (jx_K 227) jx_If jx_L0 (jx_R 227)) 227 1572950
  refine jw.steps F jv_i438 2 (pc' := 2) (l' := [(0, .ref 0), (1, .int p1), (2, .int p2), (3, .int p3)]) (st' := [.int p1, .ref 0]) rfl ?_
  exact jw.prop hTb hl F hZ jv_i438 ht rfl jv_i429 [.ref 0, .int p1] rfl rfl rfl rfl rfl (jv_cal rfl (jv_H_at rfl) rfl rfl) rfl (jx_e457 hTb p0 p1 p2 p3 p4 p5 g1 g2) (by omega) (by omega) (by omega) (by omega)

set_option maxRecDepth 100000 in
/-- the law's next -/
theorem jx_w459 (hTb : jv_TOk jv_Tb) (hT2 : jx_T2Ok) (p0 : Int32) (p1 : Int32) (p2 : Int32) (p3 : Int32) (p4 : Int32) (p5 : Int32) (g1 : ¬ p1.toInt64 < (0 : Int64)) (g2 : ¬ p1 < (0 : Int32)) : jx_Wr 457 [(0, 12, 15, 36)] [.ref 0, .int p1, .int p2, .int p3, .ref 226] (jv_H (jx_K 227) jx_If jx_L0 (jx_R 227)) 227 1572950 (some (.int (1 : Int32)), (jv_H (jx_K 227) jx_If jx_L0 (jx_R 227)), 228, 1572956) := by
  refine jx_Wr.of hT2 (by decide) rfl (Nat.le_of_ble_eq_true rfl) ?_
  intro p l e R s m args below meth c E hl F hZ htb hRc hRs
  show jw p l e R s m args below meth c E 6 227 1572950 _ 0 [(0, .ref 0), (1, .int p1), (2, .int p2), (3, .int p3), (4, .ref 226)] [] (jv_H (jx_K 227) jx_If jx_L0 (jx_R 227)) 227 1572950
  have hRc : R.cells = 228 - 227 := hRc
  have hRs : R.slots = 1572956 - 1572950 := hRs
  refine jw.steps F jx_i457 6 (pc' := 7) (l' := [(0, .ref 0), (1, .int p1), (2, .int p2), (3, .int p3), (4, .ref 226)]) (st' := [.int p3, .int p2, .int p1, .ref 0, .int (0 : Int32), .ref 226]) rfl ?_
  refine jw.cat hTb hl F hZ rfl jx_i457 htb rfl jv_i438 [.ref 0, .int p1, .int p2, .int p3] rfl rfl rfl rfl rfl (jx_cal2 rfl (jv_H_at rfl) rfl rfl) rfl (jx_e458 hTb p0 p1 p2 p3 p4 p5 g1 g2) (by omega) (by omega) (by omega) (by omega) [] (0, 12, 15, 36) [] rfl (fun z h => absurd h List.not_mem_nil) (by decide) rfl rfl (Or.inl ⟨rfl, rfl⟩) (by decide) ?_
  refine jw.steps F jx_i457 1 (pc' := 18) (l' := []) (st' := [.int (1 : Int32)]) rfl ?_
  exact jw.ret F jx_i457 rfl rfl

set_option maxRecDepth 100000 in
/-- ProgramBoxModel$Store.noMap -/
theorem jx_e460 (p0 : Int32) (p1 : Int32) (p2 : Int32) (p3 : Int32) (p4 : Int32) (p5 : Int32) (g1 : ¬ p1.toInt64 < (0 : Int64)) (g2 : ¬ p1 < (0 : Int32)) : jv_Ms 324 [.ref 180, .int p1] (jv_H (jx_K 227) jx_If jx_L0 (jx_R 227)) 228 1572956 (some (.int (1 : Int32)), (jv_H (jx_K 227) (jv_u jx_If 180 0 (1 : Int32)) jx_L0 (jx_R 227)), 228, 1572956) := by
  show jv_Ev 324 0 [(0, .ref 180), (1, .int p1)] [] (jv_H (jx_K 227) jx_If jx_L0 (jx_R 227)) 228 1572956 _
  refine jv_Ev.steps jv_i324 2 (pc' := 2) (l' := [(0, .ref 180), (1, .int p1)]) (st' := [.int p1, .ref 180]) rfl ?_
  refine jv_Ev.br jv_i324 (pc' := 5) (st' := [.ref 180]) rfl (jv_bi_lt.trans (jx_gof g2)) ?_
  refine jv_Ev.steps jv_i324 2 (pc' := 7) (l' := [(0, .ref 180), (1, .int p1)]) (st' := [.ref 180, .int p1, .ref 180]) rfl ?_
  refine jv_Ev.m jv_i324 (pc' := 10) (st' := [.int (0 : Int32), .int p1, .ref 180]) rfl rfl (jv_m_getI rfl rfl rfl rfl) ?_
  refine jv_Ev.br jv_i324 (pc' := 13) (st' := [.ref 180]) rfl (jv_bc_lt.trans (jx_gof g2)) ?_
  refine jv_Ev.steps jv_i324 2 (pc' := 18) (l' := [(0, .ref 180), (1, .int p1)]) (st' := [.int (1 : Int32), .ref 180]) rfl ?_
  refine jv_Ev.m jv_i324 (pc' := 21) (st' := []) rfl rfl (jv_m_putI rfl rfl rfl rfl rfl) ?_
  refine jv_Ev.steps jv_i324 1 (pc' := 22) (l' := [(0, .ref 180), (1, .int p1)]) (st' := [.ref 180]) rfl ?_
  refine jv_Ev.m jv_i324 (pc' := 25) (st' := [.int (1 : Int32)]) rfl rfl (jv_m_getI rfl rfl rfl rfl) ?_
  refine jv_Ev.br jv_i324 (pc' := 28) (st' := []) rfl (jv_bi_le.trans (jx_gof (by decide))) ?_
  refine jv_Ev.steps jv_i324 2 (pc' := 33) (l' := [(0, .ref 180), (1, .int p1)]) (st' := [.int (1 : Int32)]) rfl ?_
  exact jv_Ev.ret jv_i324 rfl (jv_ret_b (by decide))

set_option maxRecDepth 100000 in
/-- ProgramBoxModel$Store.next -/
theorem jx_e461 (p0 : Int32) (p1 : Int32) (p2 : Int32) (p3 : Int32) (p4 : Int32) (p5 : Int32) (g1 : ¬ p1.toInt64 < (0 : Int64)) (g2 : ¬ p1 < (0 : Int32)) : jv_Ms 348 [.ref 180, .int p1, .int p2, .int p3] (jv_H (jx_K 227) jx_If jx_L0 (jx_R 227)) 228 1572956 (some (.int (0 : Int32)), (jv_H (jx_K 227) (jv_u jx_If 180 0 (1 : Int32)) jx_L0 (jx_R 227)), 228, 1572956) := by
  show jv_Ev 348 0 [(0, .ref 180), (1, .int p1), (2, .int p2), (3, .int p3)] [] (jv_H (jx_K 227) jx_If jx_L0 (jx_R 227)) 228 1572956 _
  refine jv_Ev.steps jv_i348 2 (pc' := 2) (l' := [(0, .ref 180), (1, .int p1), (2, .int p2), (3, .int p3)]) (st' := [.int p1, .ref 180]) rfl ?_
  refine jv_Ev.c jv_i348 (pc' := 5) (S' := [.int (1 : Int32)]) jv_i324 [.ref 180, .int p1] rfl rfl rfl rfl (jv_cal rfl (jv_H_at rfl) rfl rfl) rfl (jx_e460 p0 p1 p2 p3 p4 p5 g1 g2) rfl rfl ?_
  refine jv_Ev.br jv_i348 (pc' := 8) (st' := []) rfl (jv_bi_eq.trans (jx_gof (by decide))) ?_
  refine jv_Ev.steps jv_i348 1 (pc' := 9) (l' := [(0, .ref 180), (1, .int p1), (2, .int p2), (3, .int p3)]) (st' := [.int (0 : Int32)]) rfl ?_
  exact jv_Ev.ret jv_i348 rfl rfl

set_option maxRecDepth 100000 in
/-- ProgramBoxModel$Store.thrown -/
theorem jx_e462 (p0 : Int32) (p1 : Int32) (p2 : Int32) (p3 : Int32) (p4 : Int32) (p5 : Int32) (g1 : ¬ p1.toInt64 < (0 : Int64)) (g2 : ¬ p1 < (0 : Int32)) : jv_Ms 318 [.ref 180] (jv_H (jx_K 227) (jv_u jx_If 180 0 (1 : Int32)) jx_L0 (jx_R 227)) 228 1572956 (some (.int (1 : Int32)), (jv_H (jx_K 227) (jv_u jx_If 180 0 (1 : Int32)) jx_L0 (jx_R 227)), 228, 1572956) := by
  show jv_Ev 318 0 [(0, .ref 180)] [] (jv_H (jx_K 227) (jv_u jx_If 180 0 (1 : Int32)) jx_L0 (jx_R 227)) 228 1572956 _
  refine jv_Ev.steps jv_i318 1 (pc' := 1) (l' := [(0, .ref 180)]) (st' := [.ref 180]) rfl ?_
  refine jv_Ev.m jv_i318 (pc' := 4) (st' := [.int (1 : Int32)]) rfl rfl (jv_m_getI rfl rfl rfl rfl) ?_
  exact jv_Ev.ret jv_i318 rfl rfl

set_option maxRecDepth 100000 in
/-- ProgramBoxModel.next -/
theorem jx_e463 (p0 : Int32) (p1 : Int32) (p2 : Int32) (p3 : Int32) (p4 : Int32) (p5 : Int32) (g1 : ¬ p1.toInt64 < (0 : Int64)) (g2 : ¬ p1 < (0 : Int32)) : jv_Ms 416 [.ref 178, .int p1, .int p2, .int p3] (jv_H (jx_K 227) jx_If jx_L0 (jx_R 227)) 228 1572956 (some (.int (0 : Int32)), (jv_H (jx_K 227) (jv_u (jv_u jx_If 180 0 (1 : Int32)) 178 0 (1 : Int32)) jx_L0 (jx_R 227)), 228, 1572956) := by
  show jv_Ev 416 0 [(0, .ref 178), (1, .int p1), (2, .int p2), (3, .int p3)] [] (jv_H (jx_K 227) jx_If jx_L0 (jx_R 227)) 228 1572956 _
  refine jv_Ev.steps jv_i416 1 (pc' := 1) (l' := [(0, .ref 178), (1, .int p1), (2, .int p2), (3, .int p3)]) (st' := [.ref 178]) rfl ?_
  refine jv_Ev.m jv_i416 (pc' := 4) (st' := [.ref 180]) rfl rfl (jv_m_getR rfl rfl rfl rfl) ?_
  refine jv_Ev.steps jv_i416 3 (pc' := 7) (l' := [(0, .ref 178), (1, .int p1), (2, .int p2), (3, .int p3)]) (st' := [.int p3, .int p2, .int p1, .ref 180]) rfl ?_
  refine jv_Ev.c jv_i416 (pc' := 10) (S' := [.int (0 : Int32)]) jv_i348 [.ref 180, .int p1, .int p2, .int p3] rfl rfl rfl rfl (jv_cal rfl (jv_H_at rfl) rfl rfl) rfl (jx_e461 p0 p1 p2 p3 p4 p5 g1 g2) rfl rfl ?_
  refine jv_Ev.steps jv_i416 3 (pc' := 14) (l' := [(4, .int (0 : Int32)), (0, .ref 178), (1, .int p1), (2, .int p2), (3, .int p3)]) (st' := [.ref 178, .ref 178]) rfl ?_
  refine jv_Ev.m jv_i416 (pc' := 17) (st' := [.ref 180, .ref 178]) rfl rfl (jv_m_getR rfl rfl rfl rfl) ?_
  refine jv_Ev.c jv_i416 (pc' := 20) (S' := [.int (1 : Int32), .ref 178]) jv_i318 [.ref 180] rfl rfl rfl rfl (jv_cal rfl (jv_H_at rfl) rfl rfl) rfl (jx_e462 p0 p1 p2 p3 p4 p5 g1 g2) rfl rfl ?_
  refine jv_Ev.m jv_i416 (pc' := 23) (st' := []) rfl rfl (jv_m_putI rfl rfl rfl rfl rfl) ?_
  refine jv_Ev.steps jv_i416 1 (pc' := 25) (l' := [(4, .int (0 : Int32)), (0, .ref 178), (1, .int p1), (2, .int p2), (3, .int p3)]) (st' := [.int (0 : Int32)]) rfl ?_
  exact jv_Ev.ret jv_i416 rfl rfl

set_option maxRecDepth 100000 in
/-- ProgramBoxModel.thrown -/
theorem jx_e464 (p0 : Int32) (p1 : Int32) (p2 : Int32) (p3 : Int32) (p4 : Int32) (p5 : Int32) (g1 : ¬ p1.toInt64 < (0 : Int64)) (g2 : ¬ p1 < (0 : Int32)) : jv_Ms 350 [.ref 178] (jv_H (jx_K 227) (jv_u (jv_u jx_If 180 0 (1 : Int32)) 178 0 (1 : Int32)) jx_L0 (jx_R 227)) 228 1572956 (some (.int (1 : Int32)), (jv_H (jx_K 227) (jv_u (jv_u jx_If 180 0 (1 : Int32)) 178 0 (1 : Int32)) jx_L0 (jx_R 227)), 228, 1572956) := by
  show jv_Ev 350 0 [(0, .ref 178)] [] (jv_H (jx_K 227) (jv_u (jv_u jx_If 180 0 (1 : Int32)) 178 0 (1 : Int32)) jx_L0 (jx_R 227)) 228 1572956 _
  refine jv_Ev.steps jv_i350 1 (pc' := 1) (l' := [(0, .ref 178)]) (st' := [.ref 178]) rfl ?_
  refine jv_Ev.m jv_i350 (pc' := 4) (st' := [.int (1 : Int32)]) rfl rfl (jv_m_getI rfl rfl rfl rfl) ?_
  exact jv_Ev.ret jv_i350 rfl rfl

set_option maxRecDepth 100000 in
/-- the law: case 25, one way -/
theorem jx_l60 (p0 : Int32) (p1 : Int32) (p2 : Int32) (p3 : Int32) (p4 : Int32) (p5 : Int32) (g1 : ¬ p1.toInt64 < (0 : Int64)) (g2 : ¬ p1 < (0 : Int32)) (hsw : p0 &&& (31 : Int32) = (25 : Int32)) {p : Program} {l : Launch} {e : Env} {R : Room} {s : State} {m : MethodId} {args : Array Value} {below : List Frame} {meth : Method} {c : Code} {E : jv_Env} {Q : State → Prop} (hTb : jv_TOk jv_Tb) (hT2 : jx_T2Ok) (hl : l.stackTraces = false) (F : jx_F jv_T2 439 E p R s m args meth c) (hZ : jx_Z E s) (hRc : R.cells = 600002) (hRs : R.slots = 7302232) {bb : Nat} {xs : Nat → Int32} (hX : va_X bb 6 xs s E.2.2.2.2) (hbB : bb < E.2.2.2.1) (hE2 : E.1 1000002 = bb) (hQ : ∀ (l0 : jv_L) (G : jv_G) (n sl : Nat), n ≤ 600002 → sl ≤ 7302232 → jw p l e R s m args below meth c E 8 0 0 Q 1532 l0 [.int (1 : Int32)] G n sl) (q0 : xs 0 = p0) (q1 : xs 1 = p1) (q2 : xs 2 = p2) (q3 : xs 3 = p3) (q4 : xs 4 = p4) (q5 : xs 5 = p5) : jw p l e R s m args below meth c E 8 0 0 Q 33 [(0, .ref 1000002), (1, .ref 0), (2, .ref 178), (3, .ref 226), (4, .int (0 : Int32))] [] (jv_H (jx_K 227) jx_If jx_L0 (jx_R 227)) 227 1572950 := by
  refine jw.steps F jx_i439 2 (pc' := 36) (l' := [(0, .ref 1000002), (1, .ref 0), (2, .ref 178), (3, .ref 226), (4, .int (0 : Int32))]) (st' := [.int (0 : Int32), .ref 1000002]) rfl ?_
  refine jw.sld F jx_i439 hX hbB hE2 (pc' := 37) rfl rfl (show vp_in (nI 0) 6 from vp_in_nI (by decide) (by decide)) q0 rfl ?_
  refine jw.steps F jx_i439 2 (pc' := 40) (l' := [(0, .ref 1000002), (1, .ref 0), (2, .ref 178), (3, .ref 226), (4, .int (0 : Int32))]) (st' := [.int (p0 &&& (31 : Int32))]) rfl ?_
  refine jw.br F jx_i439 (pc' := 1432) (st' := []) rfl (by rw [hsw]; rfl) ?_
  refine jw.steps F jx_i439 5 (pc' := 1438) (l' := [(0, .ref 1000002), (1, .ref 0), (2, .ref 178), (3, .ref 226), (4, .int (0 : Int32))]) (st' := [.int (1 : Int32), .ref 1000002, .ref 0]) rfl ?_
  refine jw.sld F jx_i439 hX hbB hE2 (pc' := 1439) rfl rfl (show vp_in (nI 1) 6 from vp_in_nI (by decide) (by decide)) q1 rfl ?_
  refine jw.steps F jx_i439 4 (pc' := 1444) (l' := [(0, .ref 1000002), (1, .ref 0), (2, .ref 178), (3, .ref 226), (4, .int (0 : Int32))]) (st' := [.int (2 : Int32), .ref 1000002, .int p1, .ref 0]) rfl ?_
  refine jw.sld F jx_i439 hX hbB hE2 (pc' := 1445) rfl rfl (show vp_in (nI 2) 6 from vp_in_nI (by decide) (by decide)) q2 rfl ?_
  refine jw.steps F jx_i439 4 (pc' := 1450) (l' := [(0, .ref 1000002), (1, .ref 0), (2, .ref 178), (3, .ref 226), (4, .int (0 : Int32))]) (st' := [.int (3 : Int32), .ref 1000002, .int p2, .int p1, .ref 0]) rfl ?_
  refine jw.sld F jx_i439 hX hbB hE2 (pc' := 1451) rfl rfl (show vp_in (nI 3) 6 from vp_in_nI (by decide) (by decide)) q3 rfl ?_
  refine jw.steps F jx_i439 1 (pc' := 1452) (l' := [(0, .ref 1000002), (1, .ref 0), (2, .ref 178), (3, .ref 226), (4, .int (0 : Int32))]) (st' := [.ref 226, .int p3, .int p2, .int p1, .ref 0]) rfl ?_
  refine jw.wr F hl hZ rfl jx_i439 jx_i457 [.ref 0, .int p1, .int p2, .int p3, .ref 226] (pc' := 1455) (S' := [.int (1 : Int32)]) rfl (List.mem_of_getElem? (i := 17) rfl) (List.mem_of_getElem? (i := 17) rfl) rfl rfl rfl (jx_w459 hTb hT2 p0 p1 p2 p3 p4 p5 g1 g2) (by omega) (by omega) (by omega) (by omega) rfl rfl ?_
  refine jw.steps F jx_i439 6 (pc' := 1463) (l' := [(5, .int (1 : Int32)), (0, .ref 1000002), (1, .ref 0), (2, .ref 178), (3, .ref 226), (4, .int (0 : Int32))]) (st' := [.int (1 : Int32), .ref 1000002, .ref 178]) rfl ?_
  refine jw.sld F jx_i439 hX hbB hE2 (pc' := 1464) rfl rfl (show vp_in (nI 1) 6 from vp_in_nI (by decide) (by decide)) q1 rfl ?_
  refine jw.steps F jx_i439 4 (pc' := 1469) (l' := [(5, .int (1 : Int32)), (0, .ref 1000002), (1, .ref 0), (2, .ref 178), (3, .ref 226), (4, .int (0 : Int32))]) (st' := [.int (2 : Int32), .ref 1000002, .int p1, .ref 178]) rfl ?_
  refine jw.sld F jx_i439 hX hbB hE2 (pc' := 1470) rfl rfl (show vp_in (nI 2) 6 from vp_in_nI (by decide) (by decide)) q2 rfl ?_
  refine jw.steps F jx_i439 4 (pc' := 1475) (l' := [(5, .int (1 : Int32)), (0, .ref 1000002), (1, .ref 0), (2, .ref 178), (3, .ref 226), (4, .int (0 : Int32))]) (st' := [.int (3 : Int32), .ref 1000002, .int p2, .int p1, .ref 178]) rfl ?_
  refine jw.sld F jx_i439 hX hbB hE2 (pc' := 1476) rfl rfl (show vp_in (nI 3) 6 from vp_in_nI (by decide) (by decide)) q3 rfl ?_
  refine jw.ca hTb F jx_i439 (pc' := 1479) (S' := [.int (0 : Int32)]) rfl jv_i416 [.ref 178, .int p1, .int p2, .int p3] rfl rfl rfl rfl (jx_cal2 rfl (jv_H_at rfl) rfl rfl) rfl (jx_e463 p0 p1 p2 p3 p4 p5 g1 g2) (by omega) (by omega) rfl rfl ?_
  refine jw.steps F jx_i439 2 (pc' := 1482) (l' := [(6, .int (0 : Int32)), (5, .int (1 : Int32)), (0, .ref 1000002), (1, .ref 0), (2, .ref 178), (3, .ref 226), (4, .int (0 : Int32))]) (st' := [.ref 178]) rfl ?_
  refine jw.ca hTb F jx_i439 (pc' := 1485) (S' := [.int (1 : Int32)]) rfl jv_i350 [.ref 178] rfl rfl rfl rfl (jx_cal2 rfl (jv_H_at rfl) rfl rfl) rfl (jx_e464 p0 p1 p2 p3 p4 p5 g1 g2) (by omega) (by omega) rfl rfl ?_
  refine jw.steps F jx_i439 1 (pc' := 1487) (l' := [(6, .int (0 : Int32)), (5, .int (1 : Int32)), (0, .ref 1000002), (1, .ref 0), (2, .ref 178), (3, .ref 226), (4, .int (0 : Int32))]) (st' := [.int (1 : Int32), .int (1 : Int32)]) rfl ?_
  refine jw.br F jx_i439 (pc' := 1492) (st' := []) rfl (jv_bc_eq.trans (jx_got (by decide))) ?_
  refine jw.steps F jx_i439 1 (pc' := 1494) (l' := [(6, .int (0 : Int32)), (5, .int (1 : Int32)), (0, .ref 1000002), (1, .ref 0), (2, .ref 178), (3, .ref 226), (4, .int (0 : Int32))]) (st' := [.int (1 : Int32)]) rfl ?_
  refine jw.br F jx_i439 (pc' := 1509) (st' := []) rfl (jv_bi_ne.trans (jx_got (by decide))) ?_
  refine jw.steps F jx_i439 5 (pc' := 26) (l' := [(4, .int (6 : Int32)), (6, .int (0 : Int32)), (5, .int (1 : Int32)), (0, .ref 1000002), (1, .ref 0), (2, .ref 178), (3, .ref 226)]) (st' := [.ref 1000002, .int (6 : Int32)]) rfl ?_
  refine jw.slen F jx_i439 hX hbB hE2 (pc' := 27) rfl rfl rfl ?_
  refine jw.steps F jx_i439 2 (pc' := 30) (l' := [(4, .int (6 : Int32)), (6, .int (0 : Int32)), (5, .int (1 : Int32)), (0, .ref 1000002), (1, .ref 0), (2, .ref 178), (3, .ref 226)]) (st' := [.int (0 : Int32), .int (6 : Int32)]) rfl ?_
  refine jw.br F jx_i439 (pc' := 1531) (st' := []) rfl (jv_bc_gt.trans (jx_got (by decide))) ?_
  refine jw.steps F jx_i439 1 (pc' := 1532) (l' := [(4, .int (6 : Int32)), (6, .int (0 : Int32)), (5, .int (1 : Int32)), (0, .ref 1000002), (1, .ref 0), (2, .ref 178), (3, .ref 226)]) (st' := [.int (1 : Int32)]) rfl ?_
  exact hQ _ _ _ _ (by omega) (by omega)

set_option maxRecDepth 100000 in
/-- the law: case 25 -/
theorem jx_case25 (p0 : Int32) (p1 : Int32) (p2 : Int32) (p3 : Int32) (p4 : Int32) (p5 : Int32) (hsw : p0 &&& (31 : Int32) = (25 : Int32)) {p : Program} {l : Launch} {e : Env} {R : Room} {s : State} {m : MethodId} {args : Array Value} {below : List Frame} {meth : Method} {c : Code} {E : jv_Env} {Q : State → Prop} (hTb : jv_TOk jv_Tb) (hT2 : jx_T2Ok) (hl : l.stackTraces = false) (F : jx_F jv_T2 439 E p R s m args meth c) (hZ : jx_Z E s) (hRc : R.cells = 600002) (hRs : R.slots = 7302232) {bb : Nat} {xs : Nat → Int32} (hX : va_X bb 6 xs s E.2.2.2.2) (hbB : bb < E.2.2.2.1) (hE2 : E.1 1000002 = bb) (hQ : ∀ (l0 : jv_L) (G : jv_G) (n sl : Nat), n ≤ 600002 → sl ≤ 7302232 → jw p l e R s m args below meth c E 8 0 0 Q 1532 l0 [.int (1 : Int32)] G n sl) (q0 : xs 0 = p0) (q1 : xs 1 = p1) (q2 : xs 2 = p2) (q3 : xs 3 = p3) (q4 : xs 4 = p4) (q5 : xs 5 = p5) : jw p l e R s m args below meth c E 8 0 0 Q 33 [(0, .ref 1000002), (1, .ref 0), (2, .ref 178), (3, .ref 226), (4, .int (0 : Int32))] [] (jv_H (jx_K 227) jx_If jx_L0 (jx_R 227)) 227 1572950 := by
  by_cases g1 : p1.toInt64 < (0 : Int64)
  · by_cases g2 : p1 < (0 : Int32)
    · exact jx_l57 p0 p1 p2 p3 p4 p5 g1 g2 hsw hTb hT2 hl F hZ hRc hRs hX hbB hE2 hQ q0 q1 q2 q3 q4 q5
    · exact jx_l58 p0 p1 p2 p3 p4 p5 g1 g2 hsw hTb hT2 hl F hZ hRc hRs hX hbB hE2 hQ q0 q1 q2 q3 q4 q5
  · by_cases g2 : p1 < (0 : Int32)
    · exact jx_l59 p0 p1 p2 p3 p4 p5 g1 g2 hsw hTb hT2 hl F hZ hRc hRs hX hbB hE2 hQ q0 q1 q2 q3 q4 q5
    · exact jx_l60 p0 p1 p2 p3 p4 p5 g1 g2 hsw hTb hT2 hl F hZ hRc hRs hX hbB hE2 hQ q0 q1 q2 q3 q4 q5

set_option maxRecDepth 100000 in
theorem jv_i197 : jv_I 197 1 (some .int) 0 0 jv_c197 := ⟨rfl, rfl, rfl, rfl, rfl⟩
set_option maxRecDepth 100000 in
/-- ProgramBox.breaches -/
theorem jx_e465 (p0 : Int32) (p1 : Int32) (p2 : Int32) (p3 : Int32) (p4 : Int32) (p5 : Int32)  : jv_Ms 197 [.ref 0] (jv_H (jx_K 227) jx_If jx_L0 (jx_R 227)) 227 1572950 (some (.int (0 : Int32)), (jv_H (jx_K 227) jx_If jx_L0 (jx_R 227)), 227, 1572950) := by
  show jv_Ev 197 0 [(0, .ref 0)] [] (jv_H (jx_K 227) jx_If jx_L0 (jx_R 227)) 227 1572950 _
  refine jv_Ev.steps jv_i197 1 (pc' := 1) (l' := [(0, .ref 0)]) (st' := [.ref 0]) rfl ?_
  refine jv_Ev.m jv_i197 (pc' := 4) (st' := [.ref 171]) rfl rfl (jv_m_getR rfl rfl rfl rfl) ?_
  refine jv_Ev.m jv_i197 (pc' := 7) (st' := [.int (0 : Int32)]) rfl rfl (jv_m_getI rfl rfl rfl rfl) ?_
  exact jv_Ev.ret jv_i197 rfl rfl

set_option maxRecDepth 100000 in
theorem jv_i417 : jv_I 417 1 (some .int) 0 0 jv_c417 := ⟨rfl, rfl, rfl, rfl, rfl⟩
set_option maxRecDepth 100000 in
/-- ProgramBoxModel.breaches -/
theorem jx_e466 (p0 : Int32) (p1 : Int32) (p2 : Int32) (p3 : Int32) (p4 : Int32) (p5 : Int32)  : jv_Ms 417 [.ref 178] (jv_H (jx_K 227) jx_If jx_L0 (jx_R 227)) 227 1572950 (some (.int (0 : Int32)), (jv_H (jx_K 227) (jv_u jx_If 178 0 (0 : Int32)) jx_L0 (jx_R 227)), 227, 1572950) := by
  show jv_Ev 417 0 [(0, .ref 178)] [] (jv_H (jx_K 227) jx_If jx_L0 (jx_R 227)) 227 1572950 _
  refine jv_Ev.steps jv_i417 2 (pc' := 2) (l' := [(0, .ref 178)]) (st' := [.int (0 : Int32), .ref 178]) rfl ?_
  refine jv_Ev.m jv_i417 (pc' := 5) (st' := []) rfl rfl (jv_m_putI rfl rfl rfl rfl rfl) ?_
  refine jv_Ev.steps jv_i417 1 (pc' := 6) (l' := [(0, .ref 178)]) (st' := [.ref 178]) rfl ?_
  refine jv_Ev.m jv_i417 (pc' := 9) (st' := [.int (0 : Int32)]) rfl rfl (jv_m_getI rfl rfl rfl rfl) ?_
  refine jv_Ev.steps jv_i417 1 (pc' := 10) (l' := [(0, .ref 178)]) (st' := [.ref 178, .int (0 : Int32)]) rfl ?_
  refine jv_Ev.m jv_i417 (pc' := 13) (st' := [.ref 180, .int (0 : Int32)]) rfl rfl (jv_m_getR rfl rfl rfl rfl) ?_
  refine jv_Ev.m jv_i417 (pc' := 16) (st' := [.int (0 : Int32), .int (0 : Int32)]) rfl rfl (jv_m_getI rfl rfl rfl rfl) ?_
  refine jv_Ev.steps jv_i417 1 (pc' := 17) (l' := [(0, .ref 178)]) (st' := [.int (0 : Int32)]) rfl ?_
  exact jv_Ev.ret jv_i417 rfl rfl

set_option maxRecDepth 100000 in
/-- the law: case 26, one way -/
theorem jx_l61 (p0 : Int32) (p1 : Int32) (p2 : Int32) (p3 : Int32) (p4 : Int32) (p5 : Int32)  (hsw : p0 &&& (31 : Int32) = (26 : Int32)) {p : Program} {l : Launch} {e : Env} {R : Room} {s : State} {m : MethodId} {args : Array Value} {below : List Frame} {meth : Method} {c : Code} {E : jv_Env} {Q : State → Prop} (hTb : jv_TOk jv_Tb) (hT2 : jx_T2Ok) (hl : l.stackTraces = false) (F : jx_F jv_T2 439 E p R s m args meth c) (hZ : jx_Z E s) (hRc : R.cells = 600002) (hRs : R.slots = 7302232) {bb : Nat} {xs : Nat → Int32} (hX : va_X bb 6 xs s E.2.2.2.2) (hbB : bb < E.2.2.2.1) (hE2 : E.1 1000002 = bb) (hQ : ∀ (l0 : jv_L) (G : jv_G) (n sl : Nat), n ≤ 600002 → sl ≤ 7302232 → jw p l e R s m args below meth c E 8 0 0 Q 1532 l0 [.int (1 : Int32)] G n sl) (q0 : xs 0 = p0) (q1 : xs 1 = p1) (q2 : xs 2 = p2) (q3 : xs 3 = p3) (q4 : xs 4 = p4) (q5 : xs 5 = p5) : jw p l e R s m args below meth c E 8 0 0 Q 33 [(0, .ref 1000002), (1, .ref 0), (2, .ref 178), (3, .ref 226), (4, .int (0 : Int32))] [] (jv_H (jx_K 227) jx_If jx_L0 (jx_R 227)) 227 1572950 := by
  refine jw.steps F jx_i439 2 (pc' := 36) (l' := [(0, .ref 1000002), (1, .ref 0), (2, .ref 178), (3, .ref 226), (4, .int (0 : Int32))]) (st' := [.int (0 : Int32), .ref 1000002]) rfl ?_
  refine jw.sld F jx_i439 hX hbB hE2 (pc' := 37) rfl rfl (show vp_in (nI 0) 6 from vp_in_nI (by decide) (by decide)) q0 rfl ?_
  refine jw.steps F jx_i439 2 (pc' := 40) (l' := [(0, .ref 1000002), (1, .ref 0), (2, .ref 178), (3, .ref 226), (4, .int (0 : Int32))]) (st' := [.int (p0 &&& (31 : Int32))]) rfl ?_
  refine jw.br F jx_i439 (pc' := 1512) (st' := []) rfl (by rw [hsw]; rfl) ?_
  refine jw.steps F jx_i439 1 (pc' := 1513) (l' := [(0, .ref 1000002), (1, .ref 0), (2, .ref 178), (3, .ref 226), (4, .int (0 : Int32))]) (st' := [.ref 0]) rfl ?_
  refine jw.ca hTb F jx_i439 (pc' := 1516) (S' := [.int (0 : Int32)]) rfl jv_i197 [.ref 0] rfl rfl rfl rfl (jx_cal2 rfl (jv_H_at rfl) rfl rfl) rfl (jx_e465 p0 p1 p2 p3 p4 p5 ) (by omega) (by omega) rfl rfl ?_
  refine jw.steps F jx_i439 1 (pc' := 1517) (l' := [(0, .ref 1000002), (1, .ref 0), (2, .ref 178), (3, .ref 226), (4, .int (0 : Int32))]) (st' := [.ref 178, .int (0 : Int32)]) rfl ?_
  refine jw.ca hTb F jx_i439 (pc' := 1520) (S' := [.int (0 : Int32), .int (0 : Int32)]) rfl jv_i417 [.ref 178] rfl rfl rfl rfl (jx_cal2 rfl (jv_H_at rfl) rfl rfl) rfl (jx_e466 p0 p1 p2 p3 p4 p5 ) (by omega) (by omega) rfl rfl ?_
  refine jw.br F jx_i439 (pc' := 1525) (st' := []) rfl (jv_bc_eq.trans (jx_got (by decide))) ?_
  refine jw.steps F jx_i439 4 (pc' := 26) (l' := [(4, .int (6 : Int32)), (0, .ref 1000002), (1, .ref 0), (2, .ref 178), (3, .ref 226)]) (st' := [.ref 1000002, .int (6 : Int32)]) rfl ?_
  refine jw.slen F jx_i439 hX hbB hE2 (pc' := 27) rfl rfl rfl ?_
  refine jw.steps F jx_i439 2 (pc' := 30) (l' := [(4, .int (6 : Int32)), (0, .ref 1000002), (1, .ref 0), (2, .ref 178), (3, .ref 226)]) (st' := [.int (0 : Int32), .int (6 : Int32)]) rfl ?_
  refine jw.br F jx_i439 (pc' := 1531) (st' := []) rfl (jv_bc_gt.trans (jx_got (by decide))) ?_
  refine jw.steps F jx_i439 1 (pc' := 1532) (l' := [(4, .int (6 : Int32)), (0, .ref 1000002), (1, .ref 0), (2, .ref 178), (3, .ref 226)]) (st' := [.int (1 : Int32)]) rfl ?_
  exact hQ _ _ _ _ (by omega) (by omega)

set_option maxRecDepth 100000 in
/-- the law: case 26 -/
theorem jx_case26 (p0 : Int32) (p1 : Int32) (p2 : Int32) (p3 : Int32) (p4 : Int32) (p5 : Int32) (hsw : p0 &&& (31 : Int32) = (26 : Int32)) {p : Program} {l : Launch} {e : Env} {R : Room} {s : State} {m : MethodId} {args : Array Value} {below : List Frame} {meth : Method} {c : Code} {E : jv_Env} {Q : State → Prop} (hTb : jv_TOk jv_Tb) (hT2 : jx_T2Ok) (hl : l.stackTraces = false) (F : jx_F jv_T2 439 E p R s m args meth c) (hZ : jx_Z E s) (hRc : R.cells = 600002) (hRs : R.slots = 7302232) {bb : Nat} {xs : Nat → Int32} (hX : va_X bb 6 xs s E.2.2.2.2) (hbB : bb < E.2.2.2.1) (hE2 : E.1 1000002 = bb) (hQ : ∀ (l0 : jv_L) (G : jv_G) (n sl : Nat), n ≤ 600002 → sl ≤ 7302232 → jw p l e R s m args below meth c E 8 0 0 Q 1532 l0 [.int (1 : Int32)] G n sl) (q0 : xs 0 = p0) (q1 : xs 1 = p1) (q2 : xs 2 = p2) (q3 : xs 3 = p3) (q4 : xs 4 = p4) (q5 : xs 5 = p5) : jw p l e R s m args below meth c E 8 0 0 Q 33 [(0, .ref 1000002), (1, .ref 0), (2, .ref 178), (3, .ref 226), (4, .int (0 : Int32))] [] (jv_H (jx_K 227) jx_If jx_L0 (jx_R 227)) 227 1572950 := by
  exact jx_l61 p0 p1 p2 p3 p4 p5  hsw hTb hT2 hl F hZ hRc hRs hX hbB hE2 hQ q0 q1 q2 q3 q4 q5

set_option maxRecDepth 100000 in
/-- the law: case 27, one way -/
theorem jx_l62 (p0 : Int32) (p1 : Int32) (p2 : Int32) (p3 : Int32) (p4 : Int32) (p5 : Int32)  (hsw : p0 &&& (31 : Int32) = (27 : Int32)) {p : Program} {l : Launch} {e : Env} {R : Room} {s : State} {m : MethodId} {args : Array Value} {below : List Frame} {meth : Method} {c : Code} {E : jv_Env} {Q : State → Prop} (hTb : jv_TOk jv_Tb) (hT2 : jx_T2Ok) (hl : l.stackTraces = false) (F : jx_F jv_T2 439 E p R s m args meth c) (hZ : jx_Z E s) (hRc : R.cells = 600002) (hRs : R.slots = 7302232) {bb : Nat} {xs : Nat → Int32} (hX : va_X bb 6 xs s E.2.2.2.2) (hbB : bb < E.2.2.2.1) (hE2 : E.1 1000002 = bb) (hQ : ∀ (l0 : jv_L) (G : jv_G) (n sl : Nat), n ≤ 600002 → sl ≤ 7302232 → jw p l e R s m args below meth c E 8 0 0 Q 1532 l0 [.int (1 : Int32)] G n sl) (q0 : xs 0 = p0) (q1 : xs 1 = p1) (q2 : xs 2 = p2) (q3 : xs 3 = p3) (q4 : xs 4 = p4) (q5 : xs 5 = p5) : jw p l e R s m args below meth c E 8 0 0 Q 33 [(0, .ref 1000002), (1, .ref 0), (2, .ref 178), (3, .ref 226), (4, .int (0 : Int32))] [] (jv_H (jx_K 227) jx_If jx_L0 (jx_R 227)) 227 1572950 := by
  refine jw.steps F jx_i439 2 (pc' := 36) (l' := [(0, .ref 1000002), (1, .ref 0), (2, .ref 178), (3, .ref 226), (4, .int (0 : Int32))]) (st' := [.int (0 : Int32), .ref 1000002]) rfl ?_
  refine jw.sld F jx_i439 hX hbB hE2 (pc' := 37) rfl rfl (show vp_in (nI 0) 6 from vp_in_nI (by decide) (by decide)) q0 rfl ?_
  refine jw.steps F jx_i439 2 (pc' := 40) (l' := [(0, .ref 1000002), (1, .ref 0), (2, .ref 178), (3, .ref 226), (4, .int (0 : Int32))]) (st' := [.int (p0 &&& (31 : Int32))]) rfl ?_
  refine jw.br F jx_i439 (pc' := 1525) (st' := []) rfl (by rw [hsw]; rfl) ?_
  refine jw.steps F jx_i439 4 (pc' := 26) (l' := [(4, .int (6 : Int32)), (0, .ref 1000002), (1, .ref 0), (2, .ref 178), (3, .ref 226)]) (st' := [.ref 1000002, .int (6 : Int32)]) rfl ?_
  refine jw.slen F jx_i439 hX hbB hE2 (pc' := 27) rfl rfl rfl ?_
  refine jw.steps F jx_i439 2 (pc' := 30) (l' := [(4, .int (6 : Int32)), (0, .ref 1000002), (1, .ref 0), (2, .ref 178), (3, .ref 226)]) (st' := [.int (0 : Int32), .int (6 : Int32)]) rfl ?_
  refine jw.br F jx_i439 (pc' := 1531) (st' := []) rfl (jv_bc_gt.trans (jx_got (by decide))) ?_
  refine jw.steps F jx_i439 1 (pc' := 1532) (l' := [(4, .int (6 : Int32)), (0, .ref 1000002), (1, .ref 0), (2, .ref 178), (3, .ref 226)]) (st' := [.int (1 : Int32)]) rfl ?_
  exact hQ _ _ _ _ (by omega) (by omega)

set_option maxRecDepth 100000 in
/-- the law: case 27 -/
theorem jx_case27 (p0 : Int32) (p1 : Int32) (p2 : Int32) (p3 : Int32) (p4 : Int32) (p5 : Int32) (hsw : p0 &&& (31 : Int32) = (27 : Int32)) {p : Program} {l : Launch} {e : Env} {R : Room} {s : State} {m : MethodId} {args : Array Value} {below : List Frame} {meth : Method} {c : Code} {E : jv_Env} {Q : State → Prop} (hTb : jv_TOk jv_Tb) (hT2 : jx_T2Ok) (hl : l.stackTraces = false) (F : jx_F jv_T2 439 E p R s m args meth c) (hZ : jx_Z E s) (hRc : R.cells = 600002) (hRs : R.slots = 7302232) {bb : Nat} {xs : Nat → Int32} (hX : va_X bb 6 xs s E.2.2.2.2) (hbB : bb < E.2.2.2.1) (hE2 : E.1 1000002 = bb) (hQ : ∀ (l0 : jv_L) (G : jv_G) (n sl : Nat), n ≤ 600002 → sl ≤ 7302232 → jw p l e R s m args below meth c E 8 0 0 Q 1532 l0 [.int (1 : Int32)] G n sl) (q0 : xs 0 = p0) (q1 : xs 1 = p1) (q2 : xs 2 = p2) (q3 : xs 3 = p3) (q4 : xs 4 = p4) (q5 : xs 5 = p5) : jw p l e R s m args below meth c E 8 0 0 Q 33 [(0, .ref 1000002), (1, .ref 0), (2, .ref 178), (3, .ref 226), (4, .int (0 : Int32))] [] (jv_H (jx_K 227) jx_If jx_L0 (jx_R 227)) 227 1572950 := by
  exact jx_l62 p0 p1 p2 p3 p4 p5  hsw hTb hT2 hl F hZ hRc hRs hX hbB hE2 hQ q0 q1 q2 q3 q4 q5

set_option maxRecDepth 100000 in
/-- the law: case 28, one way -/
theorem jx_l63 (p0 : Int32) (p1 : Int32) (p2 : Int32) (p3 : Int32) (p4 : Int32) (p5 : Int32)  (hsw : p0 &&& (31 : Int32) = (28 : Int32)) {p : Program} {l : Launch} {e : Env} {R : Room} {s : State} {m : MethodId} {args : Array Value} {below : List Frame} {meth : Method} {c : Code} {E : jv_Env} {Q : State → Prop} (hTb : jv_TOk jv_Tb) (hT2 : jx_T2Ok) (hl : l.stackTraces = false) (F : jx_F jv_T2 439 E p R s m args meth c) (hZ : jx_Z E s) (hRc : R.cells = 600002) (hRs : R.slots = 7302232) {bb : Nat} {xs : Nat → Int32} (hX : va_X bb 6 xs s E.2.2.2.2) (hbB : bb < E.2.2.2.1) (hE2 : E.1 1000002 = bb) (hQ : ∀ (l0 : jv_L) (G : jv_G) (n sl : Nat), n ≤ 600002 → sl ≤ 7302232 → jw p l e R s m args below meth c E 8 0 0 Q 1532 l0 [.int (1 : Int32)] G n sl) (q0 : xs 0 = p0) (q1 : xs 1 = p1) (q2 : xs 2 = p2) (q3 : xs 3 = p3) (q4 : xs 4 = p4) (q5 : xs 5 = p5) : jw p l e R s m args below meth c E 8 0 0 Q 33 [(0, .ref 1000002), (1, .ref 0), (2, .ref 178), (3, .ref 226), (4, .int (0 : Int32))] [] (jv_H (jx_K 227) jx_If jx_L0 (jx_R 227)) 227 1572950 := by
  refine jw.steps F jx_i439 2 (pc' := 36) (l' := [(0, .ref 1000002), (1, .ref 0), (2, .ref 178), (3, .ref 226), (4, .int (0 : Int32))]) (st' := [.int (0 : Int32), .ref 1000002]) rfl ?_
  refine jw.sld F jx_i439 hX hbB hE2 (pc' := 37) rfl rfl (show vp_in (nI 0) 6 from vp_in_nI (by decide) (by decide)) q0 rfl ?_
  refine jw.steps F jx_i439 2 (pc' := 40) (l' := [(0, .ref 1000002), (1, .ref 0), (2, .ref 178), (3, .ref 226), (4, .int (0 : Int32))]) (st' := [.int (p0 &&& (31 : Int32))]) rfl ?_
  refine jw.br F jx_i439 (pc' := 1525) (st' := []) rfl (by rw [hsw]; rfl) ?_
  refine jw.steps F jx_i439 4 (pc' := 26) (l' := [(4, .int (6 : Int32)), (0, .ref 1000002), (1, .ref 0), (2, .ref 178), (3, .ref 226)]) (st' := [.ref 1000002, .int (6 : Int32)]) rfl ?_
  refine jw.slen F jx_i439 hX hbB hE2 (pc' := 27) rfl rfl rfl ?_
  refine jw.steps F jx_i439 2 (pc' := 30) (l' := [(4, .int (6 : Int32)), (0, .ref 1000002), (1, .ref 0), (2, .ref 178), (3, .ref 226)]) (st' := [.int (0 : Int32), .int (6 : Int32)]) rfl ?_
  refine jw.br F jx_i439 (pc' := 1531) (st' := []) rfl (jv_bc_gt.trans (jx_got (by decide))) ?_
  refine jw.steps F jx_i439 1 (pc' := 1532) (l' := [(4, .int (6 : Int32)), (0, .ref 1000002), (1, .ref 0), (2, .ref 178), (3, .ref 226)]) (st' := [.int (1 : Int32)]) rfl ?_
  exact hQ _ _ _ _ (by omega) (by omega)

set_option maxRecDepth 100000 in
/-- the law: case 28 -/
theorem jx_case28 (p0 : Int32) (p1 : Int32) (p2 : Int32) (p3 : Int32) (p4 : Int32) (p5 : Int32) (hsw : p0 &&& (31 : Int32) = (28 : Int32)) {p : Program} {l : Launch} {e : Env} {R : Room} {s : State} {m : MethodId} {args : Array Value} {below : List Frame} {meth : Method} {c : Code} {E : jv_Env} {Q : State → Prop} (hTb : jv_TOk jv_Tb) (hT2 : jx_T2Ok) (hl : l.stackTraces = false) (F : jx_F jv_T2 439 E p R s m args meth c) (hZ : jx_Z E s) (hRc : R.cells = 600002) (hRs : R.slots = 7302232) {bb : Nat} {xs : Nat → Int32} (hX : va_X bb 6 xs s E.2.2.2.2) (hbB : bb < E.2.2.2.1) (hE2 : E.1 1000002 = bb) (hQ : ∀ (l0 : jv_L) (G : jv_G) (n sl : Nat), n ≤ 600002 → sl ≤ 7302232 → jw p l e R s m args below meth c E 8 0 0 Q 1532 l0 [.int (1 : Int32)] G n sl) (q0 : xs 0 = p0) (q1 : xs 1 = p1) (q2 : xs 2 = p2) (q3 : xs 3 = p3) (q4 : xs 4 = p4) (q5 : xs 5 = p5) : jw p l e R s m args below meth c E 8 0 0 Q 33 [(0, .ref 1000002), (1, .ref 0), (2, .ref 178), (3, .ref 226), (4, .int (0 : Int32))] [] (jv_H (jx_K 227) jx_If jx_L0 (jx_R 227)) 227 1572950 := by
  exact jx_l63 p0 p1 p2 p3 p4 p5  hsw hTb hT2 hl F hZ hRc hRs hX hbB hE2 hQ q0 q1 q2 q3 q4 q5

set_option maxRecDepth 100000 in
/-- the law: case 29, one way -/
theorem jx_l64 (p0 : Int32) (p1 : Int32) (p2 : Int32) (p3 : Int32) (p4 : Int32) (p5 : Int32)  (hsw : p0 &&& (31 : Int32) = (29 : Int32)) {p : Program} {l : Launch} {e : Env} {R : Room} {s : State} {m : MethodId} {args : Array Value} {below : List Frame} {meth : Method} {c : Code} {E : jv_Env} {Q : State → Prop} (hTb : jv_TOk jv_Tb) (hT2 : jx_T2Ok) (hl : l.stackTraces = false) (F : jx_F jv_T2 439 E p R s m args meth c) (hZ : jx_Z E s) (hRc : R.cells = 600002) (hRs : R.slots = 7302232) {bb : Nat} {xs : Nat → Int32} (hX : va_X bb 6 xs s E.2.2.2.2) (hbB : bb < E.2.2.2.1) (hE2 : E.1 1000002 = bb) (hQ : ∀ (l0 : jv_L) (G : jv_G) (n sl : Nat), n ≤ 600002 → sl ≤ 7302232 → jw p l e R s m args below meth c E 8 0 0 Q 1532 l0 [.int (1 : Int32)] G n sl) (q0 : xs 0 = p0) (q1 : xs 1 = p1) (q2 : xs 2 = p2) (q3 : xs 3 = p3) (q4 : xs 4 = p4) (q5 : xs 5 = p5) : jw p l e R s m args below meth c E 8 0 0 Q 33 [(0, .ref 1000002), (1, .ref 0), (2, .ref 178), (3, .ref 226), (4, .int (0 : Int32))] [] (jv_H (jx_K 227) jx_If jx_L0 (jx_R 227)) 227 1572950 := by
  refine jw.steps F jx_i439 2 (pc' := 36) (l' := [(0, .ref 1000002), (1, .ref 0), (2, .ref 178), (3, .ref 226), (4, .int (0 : Int32))]) (st' := [.int (0 : Int32), .ref 1000002]) rfl ?_
  refine jw.sld F jx_i439 hX hbB hE2 (pc' := 37) rfl rfl (show vp_in (nI 0) 6 from vp_in_nI (by decide) (by decide)) q0 rfl ?_
  refine jw.steps F jx_i439 2 (pc' := 40) (l' := [(0, .ref 1000002), (1, .ref 0), (2, .ref 178), (3, .ref 226), (4, .int (0 : Int32))]) (st' := [.int (p0 &&& (31 : Int32))]) rfl ?_
  refine jw.br F jx_i439 (pc' := 1525) (st' := []) rfl (by rw [hsw]; rfl) ?_
  refine jw.steps F jx_i439 4 (pc' := 26) (l' := [(4, .int (6 : Int32)), (0, .ref 1000002), (1, .ref 0), (2, .ref 178), (3, .ref 226)]) (st' := [.ref 1000002, .int (6 : Int32)]) rfl ?_
  refine jw.slen F jx_i439 hX hbB hE2 (pc' := 27) rfl rfl rfl ?_
  refine jw.steps F jx_i439 2 (pc' := 30) (l' := [(4, .int (6 : Int32)), (0, .ref 1000002), (1, .ref 0), (2, .ref 178), (3, .ref 226)]) (st' := [.int (0 : Int32), .int (6 : Int32)]) rfl ?_
  refine jw.br F jx_i439 (pc' := 1531) (st' := []) rfl (jv_bc_gt.trans (jx_got (by decide))) ?_
  refine jw.steps F jx_i439 1 (pc' := 1532) (l' := [(4, .int (6 : Int32)), (0, .ref 1000002), (1, .ref 0), (2, .ref 178), (3, .ref 226)]) (st' := [.int (1 : Int32)]) rfl ?_
  exact hQ _ _ _ _ (by omega) (by omega)

set_option maxRecDepth 100000 in
/-- the law: case 29 -/
theorem jx_case29 (p0 : Int32) (p1 : Int32) (p2 : Int32) (p3 : Int32) (p4 : Int32) (p5 : Int32) (hsw : p0 &&& (31 : Int32) = (29 : Int32)) {p : Program} {l : Launch} {e : Env} {R : Room} {s : State} {m : MethodId} {args : Array Value} {below : List Frame} {meth : Method} {c : Code} {E : jv_Env} {Q : State → Prop} (hTb : jv_TOk jv_Tb) (hT2 : jx_T2Ok) (hl : l.stackTraces = false) (F : jx_F jv_T2 439 E p R s m args meth c) (hZ : jx_Z E s) (hRc : R.cells = 600002) (hRs : R.slots = 7302232) {bb : Nat} {xs : Nat → Int32} (hX : va_X bb 6 xs s E.2.2.2.2) (hbB : bb < E.2.2.2.1) (hE2 : E.1 1000002 = bb) (hQ : ∀ (l0 : jv_L) (G : jv_G) (n sl : Nat), n ≤ 600002 → sl ≤ 7302232 → jw p l e R s m args below meth c E 8 0 0 Q 1532 l0 [.int (1 : Int32)] G n sl) (q0 : xs 0 = p0) (q1 : xs 1 = p1) (q2 : xs 2 = p2) (q3 : xs 3 = p3) (q4 : xs 4 = p4) (q5 : xs 5 = p5) : jw p l e R s m args below meth c E 8 0 0 Q 33 [(0, .ref 1000002), (1, .ref 0), (2, .ref 178), (3, .ref 226), (4, .int (0 : Int32))] [] (jv_H (jx_K 227) jx_If jx_L0 (jx_R 227)) 227 1572950 := by
  exact jx_l64 p0 p1 p2 p3 p4 p5  hsw hTb hT2 hl F hZ hRc hRs hX hbB hE2 hQ q0 q1 q2 q3 q4 q5

set_option maxRecDepth 100000 in
/-- the law: case 30, one way -/
theorem jx_l65 (p0 : Int32) (p1 : Int32) (p2 : Int32) (p3 : Int32) (p4 : Int32) (p5 : Int32)  (hsw : p0 &&& (31 : Int32) = (30 : Int32)) {p : Program} {l : Launch} {e : Env} {R : Room} {s : State} {m : MethodId} {args : Array Value} {below : List Frame} {meth : Method} {c : Code} {E : jv_Env} {Q : State → Prop} (hTb : jv_TOk jv_Tb) (hT2 : jx_T2Ok) (hl : l.stackTraces = false) (F : jx_F jv_T2 439 E p R s m args meth c) (hZ : jx_Z E s) (hRc : R.cells = 600002) (hRs : R.slots = 7302232) {bb : Nat} {xs : Nat → Int32} (hX : va_X bb 6 xs s E.2.2.2.2) (hbB : bb < E.2.2.2.1) (hE2 : E.1 1000002 = bb) (hQ : ∀ (l0 : jv_L) (G : jv_G) (n sl : Nat), n ≤ 600002 → sl ≤ 7302232 → jw p l e R s m args below meth c E 8 0 0 Q 1532 l0 [.int (1 : Int32)] G n sl) (q0 : xs 0 = p0) (q1 : xs 1 = p1) (q2 : xs 2 = p2) (q3 : xs 3 = p3) (q4 : xs 4 = p4) (q5 : xs 5 = p5) : jw p l e R s m args below meth c E 8 0 0 Q 33 [(0, .ref 1000002), (1, .ref 0), (2, .ref 178), (3, .ref 226), (4, .int (0 : Int32))] [] (jv_H (jx_K 227) jx_If jx_L0 (jx_R 227)) 227 1572950 := by
  refine jw.steps F jx_i439 2 (pc' := 36) (l' := [(0, .ref 1000002), (1, .ref 0), (2, .ref 178), (3, .ref 226), (4, .int (0 : Int32))]) (st' := [.int (0 : Int32), .ref 1000002]) rfl ?_
  refine jw.sld F jx_i439 hX hbB hE2 (pc' := 37) rfl rfl (show vp_in (nI 0) 6 from vp_in_nI (by decide) (by decide)) q0 rfl ?_
  refine jw.steps F jx_i439 2 (pc' := 40) (l' := [(0, .ref 1000002), (1, .ref 0), (2, .ref 178), (3, .ref 226), (4, .int (0 : Int32))]) (st' := [.int (p0 &&& (31 : Int32))]) rfl ?_
  refine jw.br F jx_i439 (pc' := 1525) (st' := []) rfl (by rw [hsw]; rfl) ?_
  refine jw.steps F jx_i439 4 (pc' := 26) (l' := [(4, .int (6 : Int32)), (0, .ref 1000002), (1, .ref 0), (2, .ref 178), (3, .ref 226)]) (st' := [.ref 1000002, .int (6 : Int32)]) rfl ?_
  refine jw.slen F jx_i439 hX hbB hE2 (pc' := 27) rfl rfl rfl ?_
  refine jw.steps F jx_i439 2 (pc' := 30) (l' := [(4, .int (6 : Int32)), (0, .ref 1000002), (1, .ref 0), (2, .ref 178), (3, .ref 226)]) (st' := [.int (0 : Int32), .int (6 : Int32)]) rfl ?_
  refine jw.br F jx_i439 (pc' := 1531) (st' := []) rfl (jv_bc_gt.trans (jx_got (by decide))) ?_
  refine jw.steps F jx_i439 1 (pc' := 1532) (l' := [(4, .int (6 : Int32)), (0, .ref 1000002), (1, .ref 0), (2, .ref 178), (3, .ref 226)]) (st' := [.int (1 : Int32)]) rfl ?_
  exact hQ _ _ _ _ (by omega) (by omega)

set_option maxRecDepth 100000 in
/-- the law: case 30 -/
theorem jx_case30 (p0 : Int32) (p1 : Int32) (p2 : Int32) (p3 : Int32) (p4 : Int32) (p5 : Int32) (hsw : p0 &&& (31 : Int32) = (30 : Int32)) {p : Program} {l : Launch} {e : Env} {R : Room} {s : State} {m : MethodId} {args : Array Value} {below : List Frame} {meth : Method} {c : Code} {E : jv_Env} {Q : State → Prop} (hTb : jv_TOk jv_Tb) (hT2 : jx_T2Ok) (hl : l.stackTraces = false) (F : jx_F jv_T2 439 E p R s m args meth c) (hZ : jx_Z E s) (hRc : R.cells = 600002) (hRs : R.slots = 7302232) {bb : Nat} {xs : Nat → Int32} (hX : va_X bb 6 xs s E.2.2.2.2) (hbB : bb < E.2.2.2.1) (hE2 : E.1 1000002 = bb) (hQ : ∀ (l0 : jv_L) (G : jv_G) (n sl : Nat), n ≤ 600002 → sl ≤ 7302232 → jw p l e R s m args below meth c E 8 0 0 Q 1532 l0 [.int (1 : Int32)] G n sl) (q0 : xs 0 = p0) (q1 : xs 1 = p1) (q2 : xs 2 = p2) (q3 : xs 3 = p3) (q4 : xs 4 = p4) (q5 : xs 5 = p5) : jw p l e R s m args below meth c E 8 0 0 Q 33 [(0, .ref 1000002), (1, .ref 0), (2, .ref 178), (3, .ref 226), (4, .int (0 : Int32))] [] (jv_H (jx_K 227) jx_If jx_L0 (jx_R 227)) 227 1572950 := by
  exact jx_l65 p0 p1 p2 p3 p4 p5  hsw hTb hT2 hl F hZ hRc hRs hX hbB hE2 hQ q0 q1 q2 q3 q4 q5

set_option maxRecDepth 100000 in
/-- the law: case 31, one way -/
theorem jx_l66 (p0 : Int32) (p1 : Int32) (p2 : Int32) (p3 : Int32) (p4 : Int32) (p5 : Int32)  (hsw : p0 &&& (31 : Int32) = (31 : Int32)) {p : Program} {l : Launch} {e : Env} {R : Room} {s : State} {m : MethodId} {args : Array Value} {below : List Frame} {meth : Method} {c : Code} {E : jv_Env} {Q : State → Prop} (hTb : jv_TOk jv_Tb) (hT2 : jx_T2Ok) (hl : l.stackTraces = false) (F : jx_F jv_T2 439 E p R s m args meth c) (hZ : jx_Z E s) (hRc : R.cells = 600002) (hRs : R.slots = 7302232) {bb : Nat} {xs : Nat → Int32} (hX : va_X bb 6 xs s E.2.2.2.2) (hbB : bb < E.2.2.2.1) (hE2 : E.1 1000002 = bb) (hQ : ∀ (l0 : jv_L) (G : jv_G) (n sl : Nat), n ≤ 600002 → sl ≤ 7302232 → jw p l e R s m args below meth c E 8 0 0 Q 1532 l0 [.int (1 : Int32)] G n sl) (q0 : xs 0 = p0) (q1 : xs 1 = p1) (q2 : xs 2 = p2) (q3 : xs 3 = p3) (q4 : xs 4 = p4) (q5 : xs 5 = p5) : jw p l e R s m args below meth c E 8 0 0 Q 33 [(0, .ref 1000002), (1, .ref 0), (2, .ref 178), (3, .ref 226), (4, .int (0 : Int32))] [] (jv_H (jx_K 227) jx_If jx_L0 (jx_R 227)) 227 1572950 := by
  refine jw.steps F jx_i439 2 (pc' := 36) (l' := [(0, .ref 1000002), (1, .ref 0), (2, .ref 178), (3, .ref 226), (4, .int (0 : Int32))]) (st' := [.int (0 : Int32), .ref 1000002]) rfl ?_
  refine jw.sld F jx_i439 hX hbB hE2 (pc' := 37) rfl rfl (show vp_in (nI 0) 6 from vp_in_nI (by decide) (by decide)) q0 rfl ?_
  refine jw.steps F jx_i439 2 (pc' := 40) (l' := [(0, .ref 1000002), (1, .ref 0), (2, .ref 178), (3, .ref 226), (4, .int (0 : Int32))]) (st' := [.int (p0 &&& (31 : Int32))]) rfl ?_
  refine jw.br F jx_i439 (pc' := 1525) (st' := []) rfl (by rw [hsw]; rfl) ?_
  refine jw.steps F jx_i439 4 (pc' := 26) (l' := [(4, .int (6 : Int32)), (0, .ref 1000002), (1, .ref 0), (2, .ref 178), (3, .ref 226)]) (st' := [.ref 1000002, .int (6 : Int32)]) rfl ?_
  refine jw.slen F jx_i439 hX hbB hE2 (pc' := 27) rfl rfl rfl ?_
  refine jw.steps F jx_i439 2 (pc' := 30) (l' := [(4, .int (6 : Int32)), (0, .ref 1000002), (1, .ref 0), (2, .ref 178), (3, .ref 226)]) (st' := [.int (0 : Int32), .int (6 : Int32)]) rfl ?_
  refine jw.br F jx_i439 (pc' := 1531) (st' := []) rfl (jv_bc_gt.trans (jx_got (by decide))) ?_
  refine jw.steps F jx_i439 1 (pc' := 1532) (l' := [(4, .int (6 : Int32)), (0, .ref 1000002), (1, .ref 0), (2, .ref 178), (3, .ref 226)]) (st' := [.int (1 : Int32)]) rfl ?_
  exact hQ _ _ _ _ (by omega) (by omega)

set_option maxRecDepth 100000 in
/-- the law: case 31 -/
theorem jx_case31 (p0 : Int32) (p1 : Int32) (p2 : Int32) (p3 : Int32) (p4 : Int32) (p5 : Int32) (hsw : p0 &&& (31 : Int32) = (31 : Int32)) {p : Program} {l : Launch} {e : Env} {R : Room} {s : State} {m : MethodId} {args : Array Value} {below : List Frame} {meth : Method} {c : Code} {E : jv_Env} {Q : State → Prop} (hTb : jv_TOk jv_Tb) (hT2 : jx_T2Ok) (hl : l.stackTraces = false) (F : jx_F jv_T2 439 E p R s m args meth c) (hZ : jx_Z E s) (hRc : R.cells = 600002) (hRs : R.slots = 7302232) {bb : Nat} {xs : Nat → Int32} (hX : va_X bb 6 xs s E.2.2.2.2) (hbB : bb < E.2.2.2.1) (hE2 : E.1 1000002 = bb) (hQ : ∀ (l0 : jv_L) (G : jv_G) (n sl : Nat), n ≤ 600002 → sl ≤ 7302232 → jw p l e R s m args below meth c E 8 0 0 Q 1532 l0 [.int (1 : Int32)] G n sl) (q0 : xs 0 = p0) (q1 : xs 1 = p1) (q2 : xs 2 = p2) (q3 : xs 3 = p3) (q4 : xs 4 = p4) (q5 : xs 5 = p5) : jw p l e R s m args below meth c E 8 0 0 Q 33 [(0, .ref 1000002), (1, .ref 0), (2, .ref 178), (3, .ref 226), (4, .int (0 : Int32))] [] (jv_H (jx_K 227) jx_If jx_L0 (jx_R 227)) 227 1572950 := by
  exact jx_l66 p0 p1 p2 p3 p4 p5  hsw hTb hT2 hl F hZ hRc hRs hX hbB hE2 hQ q0 q1 q2 q3 q4 q5
