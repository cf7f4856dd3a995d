/-! part 83.4: the law: make (gen/gen80.py) -/
set_option maxRecDepth 100000 in
/-- the law's make -/
theorem jx_w817 (hTb : jv_TOk jv_Tb) (hT2 : jx_T2Ok) (p0 : Int32) (p1 : Int32) (p2 : Int32) (p3 : Int32) (p4 : Int32) (p5 : Int32) (g1 : ¬ p1 = (2 : Int32)) (g2 : p1 = (0 : Int32)) (g3 : p2 = (4 : Int32)) (g4 : ¬ p3 < (1 : Int32)) (g5 : ¬ (256 : Int32) < p3) (g6 : ¬ p4 < (1 : Int32)) (g7 : ¬ (4096 : Int32) < p4) (g8 : p3 = (0 : Int32)) : jx_Wr 442 [(0, 14, 17, 19), (0, 14, 21, 13)] [.ref 0, .int p1, .int p2, .int p3, .int p4, .ref 226] (jv_H (jx_K 227) jx_If jx_L0 (jx_R 227)) 227 1572950 (some (.int (1 : Int32)), (jv_H (jx_K 227) jx_If jx_L0 (jx_R 227)), 228, 1572956) := by
  refine jx_Wr.of hT2 (by decide) rfl (Nat.le_of_ble_eq_true rfl) ?_
  intro p l e R s m args below meth c E hl F hZ htb hRc hRs
  show jw p l e R s m args below meth c E 7 227 1572950 _ 0 [(0, .ref 0), (1, .int p1), (2, .int p2), (3, .int p3), (4, .int p4), (5, .ref 226)] [] (jv_H (jx_K 227) jx_If jx_L0 (jx_R 227)) 227 1572950
  have hRc : R.cells = 228 - 227 := hRc
  have hRs : R.slots = 1572956 - 1572950 := hRs
  refine jw.steps F jx_i442 7 (pc' := 9) (l' := [(0, .ref 0), (1, .int p1), (2, .int p2), (3, .int p3), (4, .int p4), (5, .ref 226)]) (st' := [.int p4, .int p3, .int p2, .int p1, .ref 0, .int (0 : Int32), .ref 226]) rfl ?_
  refine jw.cat hTb hl F hZ rfl jx_i442 htb rfl jv_i420 [.ref 0, .int p1, .int p2, .int p3, .int p4] rfl rfl rfl rfl rfl (jx_cal2 rfl (jv_H_at rfl) rfl rfl) rfl (jx_e816 hTb p0 p1 p2 p3 p4 p5 g1 g2 g3 g4 g5 g6 g7 g8) (by omega) (by omega) (by omega) (by omega) [] (0, 14, 17, 19) [(0, 14, 21, 13)] rfl (fun z h => absurd h List.not_mem_nil) (by decide) rfl rfl (Or.inl ⟨rfl, rfl⟩) (by decide) ?_
  refine jw.steps F jx_i442 1 (pc' := 20) (l' := []) (st' := [.int (1 : Int32)]) rfl ?_
  exact jw.ret F jx_i442 rfl rfl

set_option maxRecDepth 100000 in
/-- ProgramBoxModel$Store.isIn -/
theorem jx_e818 (p0 : Int32) (p1 : Int32) (p2 : Int32) (p3 : Int32) (p4 : Int32) (p5 : Int32) (g1 : ¬ p1 = (2 : Int32)) (g2 : p1 = (0 : Int32)) (g3 : p2 = (4 : Int32)) (g4 : ¬ p3 < (1 : Int32)) (g5 : ¬ (256 : Int32) < p3) (g6 : ¬ p4 < (1 : Int32)) (g7 : ¬ (4096 : Int32) < p4) (g8 : p3 = (0 : Int32)) : jv_Ms 320 [.int p3, .int (1 : Int32), .int (256 : Int32)] (jv_H (jx_K 227) jx_If jx_L0 (jx_R 227)) 228 1572956 (some (.int (0 : Int32)), (jv_H (jx_K 227) jx_If jx_L0 (jx_R 227)), 228, 1572956) := by
  show jv_Ev 320 0 [(0, .int p3), (1, .int (1 : Int32)), (2, .int (256 : Int32))] [] (jv_H (jx_K 227) jx_If jx_L0 (jx_R 227)) 228 1572956 _
  refine jv_Ev.steps jv_i320 2 (pc' := 2) (l' := [(0, .int p3), (1, .int (1 : Int32)), (2, .int (256 : Int32))]) (st' := [.int (1 : Int32), .int p3]) rfl ?_
  refine jv_Ev.br jv_i320 (pc' := 14) (st' := []) rfl (jv_bc_lt.trans (jx_got (by rw [g8] <;> decide))) ?_
  refine jv_Ev.steps jv_i320 1 (pc' := 15) (l' := [(0, .int p3), (1, .int (1 : Int32)), (2, .int (256 : Int32))]) (st' := [.int (0 : Int32)]) rfl ?_
  exact jv_Ev.ret jv_i320 rfl (jv_ret_b (by decide))

set_option maxRecDepth 100000 in
/-- ProgramBoxModel$Store.isProper -/
theorem jx_e819 (p0 : Int32) (p1 : Int32) (p2 : Int32) (p3 : Int32) (p4 : Int32) (p5 : Int32) (g1 : ¬ p1 = (2 : Int32)) (g2 : p1 = (0 : Int32)) (g3 : p2 = (4 : Int32)) (g4 : ¬ p3 < (1 : Int32)) (g5 : ¬ (256 : Int32) < p3) (g6 : ¬ p4 < (1 : Int32)) (g7 : ¬ (4096 : Int32) < p4) (g8 : p3 = (0 : Int32)) : jv_Ms 322 [.int p1, .int p2, .int p3, .int p4] (jv_H (jx_K 227) jx_If jx_L0 (jx_R 227)) 228 1572956 (some (.int (0 : Int32)), (jv_H (jx_K 227) jx_If jx_L0 (jx_R 227)), 228, 1572956) := by
  show jv_Ev 322 0 [(0, .int p1), (1, .int p2), (2, .int p3), (3, .int p4)] [] (jv_H (jx_K 227) jx_If jx_L0 (jx_R 227)) 228 1572956 _
  refine jv_Ev.steps jv_i322 2 (pc' := 2) (l' := [(0, .int p1), (1, .int p2), (2, .int p3), (3, .int p4)]) (st' := [.int (2 : Int32), .int p1]) rfl ?_
  refine jv_Ev.br jv_i322 (pc' := 38) (st' := []) rfl (jv_bc_ne.trans (jx_got (by rw [g2] <;> decide))) ?_
  refine jv_Ev.steps jv_i322 1 (pc' := 39) (l' := [(0, .int p1), (1, .int p2), (2, .int p3), (3, .int p4)]) (st' := [.int p1]) rfl ?_
  refine jv_Ev.br jv_i322 (pc' := 42) (st' := []) rfl (jv_bi_ne.trans (jx_gof (by rw [g2] <;> decide))) ?_
  refine jv_Ev.steps jv_i322 2 (pc' := 44) (l' := [(0, .int p1), (1, .int p2), (2, .int p3), (3, .int p4)]) (st' := [.int (4 : Int32), .int p2]) rfl ?_
  refine jv_Ev.br jv_i322 (pc' := 47) (st' := []) rfl (jv_bc_ne.trans (jx_gof (by rw [g3] <;> decide))) ?_
  refine jv_Ev.steps jv_i322 4 (pc' := 79) (l' := [(4, .int (1 : Int32)), (0, .int p1), (1, .int p2), (2, .int p3), (3, .int p4)]) (st' := [.int (1 : Int32)]) rfl ?_
  refine jv_Ev.br jv_i322 (pc' := 82) (st' := []) rfl (jv_bi_eq.trans (jx_gof (by decide))) ?_
  refine jv_Ev.steps jv_i322 3 (pc' := 87) (l' := [(4, .int (1 : Int32)), (0, .int p1), (1, .int p2), (2, .int p3), (3, .int p4)]) (st' := [.int (256 : Int32), .int (1 : Int32), .int p3]) rfl ?_
  refine jv_Ev.c jv_i322 (pc' := 90) (S' := [.int (0 : Int32)]) jv_i320 [.int p3, .int (1 : Int32), .int (256 : Int32)] rfl rfl rfl rfl rfl rfl (jx_e818 p0 p1 p2 p3 p4 p5 g1 g2 g3 g4 g5 g6 g7 g8) rfl rfl ?_
  refine jv_Ev.br jv_i322 (pc' := 108) (st' := []) rfl (jv_bi_eq.trans (jx_got (by decide))) ?_
  refine jv_Ev.steps jv_i322 1 (pc' := 109) (l' := [(4, .int (1 : Int32)), (0, .int p1), (1, .int p2), (2, .int p3), (3, .int p4)]) (st' := [.int (0 : Int32)]) rfl ?_
  exact jv_Ev.ret jv_i322 rfl (jv_ret_b (by decide))

set_option maxRecDepth 100000 in
/-- ProgramBoxModel$Store.make -/
theorem jx_e820 (p0 : Int32) (p1 : Int32) (p2 : Int32) (p3 : Int32) (p4 : Int32) (p5 : Int32) (g1 : ¬ p1 = (2 : Int32)) (g2 : p1 = (0 : Int32)) (g3 : p2 = (4 : Int32)) (g4 : ¬ p3 < (1 : Int32)) (g5 : ¬ (256 : Int32) < p3) (g6 : ¬ p4 < (1 : Int32)) (g7 : ¬ (4096 : Int32) < p4) (g8 : p3 = (0 : Int32)) : jv_Ms 323 [.ref 180, .int p1, .int p2, .int p3, .int p4] (jv_H (jx_K 227) jx_If jx_L0 (jx_R 227)) 228 1572956 (some (.int (0 : Int32)), (jv_H (jx_K 227) (jv_u jx_If 180 0 (1 : Int32)) jx_L0 (jx_R 227)), 228, 1572956) := by
  show jv_Ev 323 0 [(0, .ref 180), (1, .int p1), (2, .int p2), (3, .int p3), (4, .int p4)] [] (jv_H (jx_K 227) jx_If jx_L0 (jx_R 227)) 228 1572956 _
  refine jv_Ev.steps jv_i323 5 (pc' := 6) (l' := [(0, .ref 180), (1, .int p1), (2, .int p2), (3, .int p3), (4, .int p4)]) (st' := [.int p4, .int p3, .int p2, .int p1, .ref 180]) rfl ?_
  refine jv_Ev.c jv_i323 (pc' := 9) (S' := [.int (0 : Int32), .ref 180]) jv_i322 [.int p1, .int p2, .int p3, .int p4] rfl rfl rfl rfl rfl rfl (jx_e819 p0 p1 p2 p3 p4 p5 g1 g2 g3 g4 g5 g6 g7 g8) rfl rfl ?_
  refine jv_Ev.br jv_i323 (pc' := 16) (st' := [.ref 180]) rfl (jv_bi_eq.trans (jx_got (by decide))) ?_
  refine jv_Ev.steps jv_i323 1 (pc' := 17) (l' := [(0, .ref 180), (1, .int p1), (2, .int p2), (3, .int p3), (4, .int p4)]) (st' := [.int (1 : Int32), .ref 180]) rfl ?_
  refine jv_Ev.m jv_i323 (pc' := 20) (st' := []) rfl rfl (jv_m_putI rfl rfl rfl rfl rfl) ?_
  refine jv_Ev.steps jv_i323 1 (pc' := 21) (l' := [(0, .ref 180), (1, .int p1), (2, .int p2), (3, .int p3), (4, .int p4)]) (st' := [.ref 180]) rfl ?_
  refine jv_Ev.m jv_i323 (pc' := 24) (st' := [.int (1 : Int32)]) rfl rfl (jv_m_getI rfl rfl rfl rfl) ?_
  refine jv_Ev.br jv_i323 (pc' := 27) (st' := []) rfl (jv_bi_le.trans (jx_gof (by decide))) ?_
  refine jv_Ev.steps jv_i323 1 (pc' := 28) (l' := [(0, .ref 180), (1, .int p1), (2, .int p2), (3, .int p3), (4, .int p4)]) (st' := [.int (0 : Int32)]) rfl ?_
  exact jv_Ev.ret jv_i323 rfl rfl

set_option maxRecDepth 100000 in
/-- ProgramBoxModel$Store.thrown -/
theorem jx_e821 (p0 : Int32) (p1 : Int32) (p2 : Int32) (p3 : Int32) (p4 : Int32) (p5 : Int32) (g1 : ¬ p1 = (2 : Int32)) (g2 : p1 = (0 : Int32)) (g3 : p2 = (4 : Int32)) (g4 : ¬ p3 < (1 : Int32)) (g5 : ¬ (256 : Int32) < p3) (g6 : ¬ p4 < (1 : Int32)) (g7 : ¬ (4096 : Int32) < p4) (g8 : p3 = (0 : Int32)) : jv_Ms 318 [.ref 180] (jv_H (jx_K 227) (jv_u jx_If 180 0 (1 : Int32)) jx_L0 (jx_R 227)) 228 1572956 (some (.int (1 : Int32)), (jv_H (jx_K 227) (jv_u jx_If 180 0 (1 : Int32)) jx_L0 (jx_R 227)), 228, 1572956) := by
  show jv_Ev 318 0 [(0, .ref 180)] [] (jv_H (jx_K 227) (jv_u jx_If 180 0 (1 : Int32)) jx_L0 (jx_R 227)) 228 1572956 _
  refine jv_Ev.steps jv_i318 1 (pc' := 1) (l' := [(0, .ref 180)]) (st' := [.ref 180]) rfl ?_
  refine jv_Ev.m jv_i318 (pc' := 4) (st' := [.int (1 : Int32)]) rfl rfl (jv_m_getI rfl rfl rfl rfl) ?_
  exact jv_Ev.ret jv_i318 rfl rfl

set_option maxRecDepth 100000 in
/-- ProgramBoxModel.make -/
theorem jx_e822 (p0 : Int32) (p1 : Int32) (p2 : Int32) (p3 : Int32) (p4 : Int32) (p5 : Int32) (g1 : ¬ p1 = (2 : Int32)) (g2 : p1 = (0 : Int32)) (g3 : p2 = (4 : Int32)) (g4 : ¬ p3 < (1 : Int32)) (g5 : ¬ (256 : Int32) < p3) (g6 : ¬ p4 < (1 : Int32)) (g7 : ¬ (4096 : Int32) < p4) (g8 : p3 = (0 : Int32)) : jv_Ms 353 [.ref 178, .int p1, .int p2, .int p3, .int p4] (jv_H (jx_K 227) jx_If jx_L0 (jx_R 227)) 228 1572956 (some (.int (0 : Int32)), (jv_H (jx_K 227) (jv_u (jv_u jx_If 180 0 (1 : Int32)) 178 0 (1 : Int32)) jx_L0 (jx_R 227)), 228, 1572956) := by
  show jv_Ev 353 0 [(0, .ref 178), (1, .int p1), (2, .int p2), (3, .int p3), (4, .int p4)] [] (jv_H (jx_K 227) jx_If jx_L0 (jx_R 227)) 228 1572956 _
  refine jv_Ev.steps jv_i353 1 (pc' := 1) (l' := [(0, .ref 178), (1, .int p1), (2, .int p2), (3, .int p3), (4, .int p4)]) (st' := [.ref 178]) rfl ?_
  refine jv_Ev.m jv_i353 (pc' := 4) (st' := [.ref 180]) rfl rfl (jv_m_getR rfl rfl rfl rfl) ?_
  refine jv_Ev.steps jv_i353 4 (pc' := 9) (l' := [(0, .ref 178), (1, .int p1), (2, .int p2), (3, .int p3), (4, .int p4)]) (st' := [.int p4, .int p3, .int p2, .int p1, .ref 180]) rfl ?_
  refine jv_Ev.c jv_i353 (pc' := 12) (S' := [.int (0 : Int32)]) jv_i323 [.ref 180, .int p1, .int p2, .int p3, .int p4] rfl rfl rfl rfl (jv_cal rfl (jv_H_at rfl) rfl rfl) rfl (jx_e820 p0 p1 p2 p3 p4 p5 g1 g2 g3 g4 g5 g6 g7 g8) rfl rfl ?_
  refine jv_Ev.steps jv_i353 3 (pc' := 16) (l' := [(5, .int (0 : Int32)), (0, .ref 178), (1, .int p1), (2, .int p2), (3, .int p3), (4, .int p4)]) (st' := [.ref 178, .ref 178]) rfl ?_
  refine jv_Ev.m jv_i353 (pc' := 19) (st' := [.ref 180, .ref 178]) rfl rfl (jv_m_getR rfl rfl rfl rfl) ?_
  refine jv_Ev.c jv_i353 (pc' := 22) (S' := [.int (1 : Int32), .ref 178]) jv_i318 [.ref 180] rfl rfl rfl rfl (jv_cal rfl (jv_H_at rfl) rfl rfl) rfl (jx_e821 p0 p1 p2 p3 p4 p5 g1 g2 g3 g4 g5 g6 g7 g8) rfl rfl ?_
  refine jv_Ev.m jv_i353 (pc' := 25) (st' := []) rfl rfl (jv_m_putI rfl rfl rfl rfl rfl) ?_
  refine jv_Ev.steps jv_i353 1 (pc' := 26) (l' := [(5, .int (0 : Int32)), (0, .ref 178), (1, .int p1), (2, .int p2), (3, .int p3), (4, .int p4)]) (st' := [.ref 178]) rfl ?_
  refine jv_Ev.m jv_i353 (pc' := 29) (st' := [.int (1 : Int32)]) rfl rfl (jv_m_getI rfl rfl rfl rfl) ?_
  refine jv_Ev.br jv_i353 (pc' := 67) (st' := []) rfl (jv_bi_ne.trans (jx_got (by decide))) ?_
  refine jv_Ev.steps jv_i353 1 (pc' := 69) (l' := [(5, .int (0 : Int32)), (0, .ref 178), (1, .int p1), (2, .int p2), (3, .int p3), (4, .int p4)]) (st' := [.int (0 : Int32)]) rfl ?_
  exact jv_Ev.ret jv_i353 rfl rfl

set_option maxRecDepth 100000 in
/-- ProgramBoxModel.thrown -/
theorem jx_e823 (p0 : Int32) (p1 : Int32) (p2 : Int32) (p3 : Int32) (p4 : Int32) (p5 : Int32) (g1 : ¬ p1 = (2 : Int32)) (g2 : p1 = (0 : Int32)) (g3 : p2 = (4 : Int32)) (g4 : ¬ p3 < (1 : Int32)) (g5 : ¬ (256 : Int32) < p3) (g6 : ¬ p4 < (1 : Int32)) (g7 : ¬ (4096 : Int32) < p4) (g8 : p3 = (0 : Int32)) : jv_Ms 350 [.ref 178] (jv_H (jx_K 227) (jv_u (jv_u jx_If 180 0 (1 : Int32)) 178 0 (1 : Int32)) jx_L0 (jx_R 227)) 228 1572956 (some (.int (1 : Int32)), (jv_H (jx_K 227) (jv_u (jv_u jx_If 180 0 (1 : Int32)) 178 0 (1 : Int32)) jx_L0 (jx_R 227)), 228, 1572956) := by
  show jv_Ev 350 0 [(0, .ref 178)] [] (jv_H (jx_K 227) (jv_u (jv_u jx_If 180 0 (1 : Int32)) 178 0 (1 : Int32)) jx_L0 (jx_R 227)) 228 1572956 _
  refine jv_Ev.steps jv_i350 1 (pc' := 1) (l' := [(0, .ref 178)]) (st' := [.ref 178]) rfl ?_
  refine jv_Ev.m jv_i350 (pc' := 4) (st' := [.int (1 : Int32)]) rfl rfl (jv_m_getI rfl rfl rfl rfl) ?_
  exact jv_Ev.ret jv_i350 rfl rfl

set_option maxRecDepth 100000 in
/-- the law: case 2, one way -/
theorem jx_l94 (p0 : Int32) (p1 : Int32) (p2 : Int32) (p3 : Int32) (p4 : Int32) (p5 : Int32) (g1 : ¬ p1 = (2 : Int32)) (g2 : p1 = (0 : Int32)) (g3 : p2 = (4 : Int32)) (g4 : ¬ p3 < (1 : Int32)) (g5 : ¬ (256 : Int32) < p3) (g6 : ¬ p4 < (1 : Int32)) (g7 : ¬ (4096 : Int32) < p4) (g8 : p3 = (0 : Int32)) (hsw : p0 &&& (31 : Int32) = (2 : Int32)) {p : Program} {l : Launch} {e : Env} {R : Room} {s : State} {m : MethodId} {args : Array Value} {below : List Frame} {meth : Method} {c : Code} {E : jv_Env} {Q : State → Prop} (hTb : jv_TOk jv_Tb) (hT2 : jx_T2Ok) (hl : l.stackTraces = false) (F : jx_F jv_T2 439 E p R s m args meth c) (hZ : jx_Z E s) (hRc : R.cells = 600002) (hRs : R.slots = 7302232) {bb : Nat} {xs : Nat → Int32} (hX : va_X bb 6 xs s E.2.2.2.2) (hbB : bb < E.2.2.2.1) (hE2 : E.1 1000002 = bb) (hQ : ∀ (l0 : jv_L) (G : jv_G) (n sl : Nat), n ≤ 600002 → sl ≤ 7302232 → jw p l e R s m args below meth c E 8 0 0 Q 1532 l0 [.int (1 : Int32)] G n sl) (q0 : xs 0 = p0) (q1 : xs 1 = p1) (q2 : xs 2 = p2) (q3 : xs 3 = p3) (q4 : xs 4 = p4) (q5 : xs 5 = p5) : jw p l e R s m args below meth c E 8 0 0 Q 33 [(0, .ref 1000002), (1, .ref 0), (2, .ref 178), (3, .ref 226), (4, .int (0 : Int32))] [] (jv_H (jx_K 227) jx_If jx_L0 (jx_R 227)) 227 1572950 := by
  refine jw.steps F jx_i439 2 (pc' := 36) (l' := [(0, .ref 1000002), (1, .ref 0), (2, .ref 178), (3, .ref 226), (4, .int (0 : Int32))]) (st' := [.int (0 : Int32), .ref 1000002]) rfl ?_
  refine jw.sld F jx_i439 hX hbB hE2 (pc' := 37) rfl rfl (show vp_in (nI 0) 6 from vp_in_nI (by decide) (by decide)) q0 rfl ?_
  refine jw.steps F jx_i439 2 (pc' := 40) (l' := [(0, .ref 1000002), (1, .ref 0), (2, .ref 178), (3, .ref 226), (4, .int (0 : Int32))]) (st' := [.int (p0 &&& (31 : Int32))]) rfl ?_
  refine jw.br F jx_i439 (pc' := 304) (st' := []) rfl (by rw [hsw]; rfl) ?_
  refine jw.steps F jx_i439 5 (pc' := 310) (l' := [(0, .ref 1000002), (1, .ref 0), (2, .ref 178), (3, .ref 226), (4, .int (0 : Int32))]) (st' := [.int (1 : Int32), .ref 1000002, .ref 0]) rfl ?_
  refine jw.sld F jx_i439 hX hbB hE2 (pc' := 311) rfl rfl (show vp_in (nI 1) 6 from vp_in_nI (by decide) (by decide)) q1 rfl ?_
  refine jw.steps F jx_i439 4 (pc' := 316) (l' := [(0, .ref 1000002), (1, .ref 0), (2, .ref 178), (3, .ref 226), (4, .int (0 : Int32))]) (st' := [.int (2 : Int32), .ref 1000002, .int p1, .ref 0]) rfl ?_
  refine jw.sld F jx_i439 hX hbB hE2 (pc' := 317) rfl rfl (show vp_in (nI 2) 6 from vp_in_nI (by decide) (by decide)) q2 rfl ?_
  refine jw.steps F jx_i439 4 (pc' := 322) (l' := [(0, .ref 1000002), (1, .ref 0), (2, .ref 178), (3, .ref 226), (4, .int (0 : Int32))]) (st' := [.int (3 : Int32), .ref 1000002, .int p2, .int p1, .ref 0]) rfl ?_
  refine jw.sld F jx_i439 hX hbB hE2 (pc' := 323) rfl rfl (show vp_in (nI 3) 6 from vp_in_nI (by decide) (by decide)) q3 rfl ?_
  refine jw.steps F jx_i439 4 (pc' := 328) (l' := [(0, .ref 1000002), (1, .ref 0), (2, .ref 178), (3, .ref 226), (4, .int (0 : Int32))]) (st' := [.int (4 : Int32), .ref 1000002, .int p3, .int p2, .int p1, .ref 0]) rfl ?_
  refine jw.sld F jx_i439 hX hbB hE2 (pc' := 329) rfl rfl (show vp_in (nI 4) 6 from vp_in_nI (by decide) (by decide)) q4 rfl ?_
  refine jw.steps F jx_i439 1 (pc' := 330) (l' := [(0, .ref 1000002), (1, .ref 0), (2, .ref 178), (3, .ref 226), (4, .int (0 : Int32))]) (st' := [.ref 226, .int p4, .int p3, .int p2, .int p1, .ref 0]) rfl ?_
  refine jw.wr F hl hZ rfl jx_i439 jx_i442 [.ref 0, .int p1, .int p2, .int p3, .int p4, .ref 226] (pc' := 333) (S' := [.int (1 : Int32)]) rfl (List.mem_of_getElem? (i := 2) rfl) (List.mem_of_getElem? (i := 2) rfl) rfl rfl rfl (jx_w817 hTb hT2 p0 p1 p2 p3 p4 p5 g1 g2 g3 g4 g5 g6 g7 g8) (by omega) (by omega) (by omega) (by omega) rfl rfl ?_
  refine jw.steps F jx_i439 6 (pc' := 341) (l' := [(5, .int (1 : Int32)), (0, .ref 1000002), (1, .ref 0), (2, .ref 178), (3, .ref 226), (4, .int (0 : Int32))]) (st' := [.int (1 : Int32), .ref 1000002, .ref 178]) rfl ?_
  refine jw.sld F jx_i439 hX hbB hE2 (pc' := 342) rfl rfl (show vp_in (nI 1) 6 from vp_in_nI (by decide) (by decide)) q1 rfl ?_
  refine jw.steps F jx_i439 4 (pc' := 347) (l' := [(5, .int (1 : Int32)), (0, .ref 1000002), (1, .ref 0), (2, .ref 178), (3, .ref 226), (4, .int (0 : Int32))]) (st' := [.int (2 : Int32), .ref 1000002, .int p1, .ref 178]) rfl ?_
  refine jw.sld F jx_i439 hX hbB hE2 (pc' := 348) rfl rfl (show vp_in (nI 2) 6 from vp_in_nI (by decide) (by decide)) q2 rfl ?_
  refine jw.steps F jx_i439 4 (pc' := 353) (l' := [(5, .int (1 : Int32)), (0, .ref 1000002), (1, .ref 0), (2, .ref 178), (3, .ref 226), (4, .int (0 : Int32))]) (st' := [.int (3 : Int32), .ref 1000002, .int p2, .int p1, .ref 178]) rfl ?_
  refine jw.sld F jx_i439 hX hbB hE2 (pc' := 354) rfl rfl (show vp_in (nI 3) 6 from vp_in_nI (by decide) (by decide)) q3 rfl ?_
  refine jw.steps F jx_i439 4 (pc' := 359) (l' := [(5, .int (1 : Int32)), (0, .ref 1000002), (1, .ref 0), (2, .ref 178), (3, .ref 226), (4, .int (0 : Int32))]) (st' := [.int (4 : Int32), .ref 1000002, .int p3, .int p2, .int p1, .ref 178]) rfl ?_
  refine jw.sld F jx_i439 hX hbB hE2 (pc' := 360) rfl rfl (show vp_in (nI 4) 6 from vp_in_nI (by decide) (by decide)) q4 rfl ?_
  refine jw.ca hTb F jx_i439 (pc' := 363) (S' := [.int (0 : Int32)]) rfl jv_i353 [.ref 178, .int p1, .int p2, .int p3, .int p4] rfl rfl rfl rfl (jx_cal2 rfl (jv_H_at rfl) rfl rfl) rfl (jx_e822 p0 p1 p2 p3 p4 p5 g1 g2 g3 g4 g5 g6 g7 g8) (by omega) (by omega) rfl rfl ?_
  refine jw.steps F jx_i439 2 (pc' := 366) (l' := [(6, .int (0 : Int32)), (5, .int (1 : Int32)), (0, .ref 1000002), (1, .ref 0), (2, .ref 178), (3, .ref 226), (4, .int (0 : Int32))]) (st' := [.ref 178]) rfl ?_
  refine jw.ca hTb F jx_i439 (pc' := 369) (S' := [.int (1 : Int32)]) rfl jv_i350 [.ref 178] rfl rfl rfl rfl (jx_cal2 rfl (jv_H_at rfl) rfl rfl) rfl (jx_e823 p0 p1 p2 p3 p4 p5 g1 g2 g3 g4 g5 g6 g7 g8) (by omega) (by omega) rfl rfl ?_
  refine jw.steps F jx_i439 1 (pc' := 371) (l' := [(6, .int (0 : Int32)), (5, .int (1 : Int32)), (0, .ref 1000002), (1, .ref 0), (2, .ref 178), (3, .ref 226), (4, .int (0 : Int32))]) (st' := [.int (1 : Int32), .int (1 : Int32)]) rfl ?_
  refine jw.br F jx_i439 (pc' := 376) (st' := []) rfl (jv_bc_eq.trans (jx_got (by decide))) ?_
  refine jw.steps F jx_i439 1 (pc' := 378) (l' := [(6, .int (0 : Int32)), (5, .int (1 : Int32)), (0, .ref 1000002), (1, .ref 0), (2, .ref 178), (3, .ref 226), (4, .int (0 : Int32))]) (st' := [.int (1 : Int32)]) rfl ?_
  refine jw.br F jx_i439 (pc' := 393) (st' := []) rfl (jv_bi_ne.trans (jx_got (by decide))) ?_
  refine jw.steps F jx_i439 5 (pc' := 26) (l' := [(4, .int (6 : Int32)), (6, .int (0 : Int32)), (5, .int (1 : Int32)), (0, .ref 1000002), (1, .ref 0), (2, .ref 178), (3, .ref 226)]) (st' := [.ref 1000002, .int (6 : Int32)]) rfl ?_
  refine jw.slen F jx_i439 hX hbB hE2 (pc' := 27) rfl rfl rfl ?_
  refine jw.steps F jx_i439 2 (pc' := 30) (l' := [(4, .int (6 : Int32)), (6, .int (0 : Int32)), (5, .int (1 : Int32)), (0, .ref 1000002), (1, .ref 0), (2, .ref 178), (3, .ref 226)]) (st' := [.int (0 : Int32), .int (6 : Int32)]) rfl ?_
  refine jw.br F jx_i439 (pc' := 1531) (st' := []) rfl (jv_bc_gt.trans (jx_got (by decide))) ?_
  refine jw.steps F jx_i439 1 (pc' := 1532) (l' := [(4, .int (6 : Int32)), (6, .int (0 : Int32)), (5, .int (1 : Int32)), (0, .ref 1000002), (1, .ref 0), (2, .ref 178), (3, .ref 226)]) (st' := [.int (1 : Int32)]) rfl ?_
  exact hQ _ _ _ _ (by omega) (by omega)

set_option maxRecDepth 100000 in
/-- ProgramBox$Store.isShape -/
theorem jx_e827 (p0 : Int32) (p1 : Int32) (p2 : Int32) (p3 : Int32) (p4 : Int32) (p5 : Int32) (g1 : ¬ p1 = (2 : Int32)) (g2 : p1 = (0 : Int32)) (g3 : p2 = (4 : Int32)) (g4 : ¬ p3 < (1 : Int32)) (g5 : ¬ (256 : Int32) < p3) (g6 : ¬ p4 < (1 : Int32)) (g7 : ¬ (4096 : Int32) < p4) (g8 : ¬ p3 = (0 : Int32)) (g9 : (65536 : Int32) < (p4 * ((p3 + (7 : Int32)) &&& (-8 : Int32)))) : jv_Ms 123 [.int p1, .int p2, .int p3, .int p4] (jv_H (jx_K 227) jx_If jx_L0 (jx_R 227)) 227 1572950 (some (.int (1 : Int32)), (jv_H (jx_K 227) jx_If jx_L0 (jx_R 227)), 227, 1572950) := by
  show jv_Ev 123 0 [(0, .int p1), (1, .int p2), (2, .int p3), (3, .int p4)] [] (jv_H (jx_K 227) jx_If jx_L0 (jx_R 227)) 227 1572950 _
  refine jv_Ev.steps jv_i123 2 (pc' := 2) (l' := [(0, .int p1), (1, .int p2), (2, .int p3), (3, .int p4)]) (st' := [.int (2 : Int32), .int p1]) rfl ?_
  refine jv_Ev.br jv_i123 (pc' := 40) (st' := []) rfl (jv_bc_ne.trans (jx_got (by rw [g2] <;> decide))) ?_
  refine jv_Ev.steps jv_i123 1 (pc' := 41) (l' := [(0, .int p1), (1, .int p2), (2, .int p3), (3, .int p4)]) (st' := [.int p1]) rfl ?_
  refine jv_Ev.br jv_i123 (pc' := 44) (st' := []) rfl (jv_bi_ne.trans (jx_gof (by rw [g2] <;> decide))) ?_
  refine jv_Ev.steps jv_i123 2 (pc' := 46) (l' := [(0, .int p1), (1, .int p2), (2, .int p3), (3, .int p4)]) (st' := [.int (4 : Int32), .int p2]) rfl ?_
  refine jv_Ev.br jv_i123 (pc' := 49) (st' := []) rfl (jv_bc_ne.trans (jx_gof (by rw [g3] <;> decide))) ?_
  refine jv_Ev.steps jv_i123 4 (pc' := 82) (l' := [(4, .int (1 : Int32)), (0, .int p1), (1, .int p2), (2, .int p3), (3, .int p4)]) (st' := [.int (1 : Int32)]) rfl ?_
  refine jv_Ev.br jv_i123 (pc' := 85) (st' := []) rfl (jv_bi_eq.trans (jx_gof (by decide))) ?_
  refine jv_Ev.steps jv_i123 2 (pc' := 87) (l' := [(4, .int (1 : Int32)), (0, .int p1), (1, .int p2), (2, .int p3), (3, .int p4)]) (st' := [.int (1 : Int32), .int p3]) rfl ?_
  refine jv_Ev.br jv_i123 (pc' := 90) (st' := []) rfl (jv_bc_lt.trans (jx_gof g4)) ?_
  refine jv_Ev.steps jv_i123 2 (pc' := 94) (l' := [(4, .int (1 : Int32)), (0, .int p1), (1, .int p2), (2, .int p3), (3, .int p4)]) (st' := [.int (256 : Int32), .int p3]) rfl ?_
  refine jv_Ev.br jv_i123 (pc' := 97) (st' := []) rfl (jv_bc_gt.trans (jx_gof g5)) ?_
  refine jv_Ev.steps jv_i123 2 (pc' := 99) (l' := [(4, .int (1 : Int32)), (0, .int p1), (1, .int p2), (2, .int p3), (3, .int p4)]) (st' := [.int (1 : Int32), .int p4]) rfl ?_
  refine jv_Ev.br jv_i123 (pc' := 102) (st' := []) rfl (jv_bc_lt.trans (jx_gof g6)) ?_
  refine jv_Ev.steps jv_i123 2 (pc' := 106) (l' := [(4, .int (1 : Int32)), (0, .int p1), (1, .int p2), (2, .int p3), (3, .int p4)]) (st' := [.int (4096 : Int32), .int p4]) rfl ?_
  refine jv_Ev.br jv_i123 (pc' := 109) (st' := []) rfl (jv_bc_gt.trans (jx_gof g7)) ?_
  refine jv_Ev.steps jv_i123 2 (pc' := 114) (l' := [(4, .int (1 : Int32)), (0, .int p1), (1, .int p2), (2, .int p3), (3, .int p4)]) (st' := [.int (1 : Int32)]) rfl ?_
  exact jv_Ev.ret jv_i123 rfl (jv_ret_b (by decide))

set_option maxRecDepth 100000 in
/-- ProgramBox$Store.filledUp -/
theorem jx_e828 (p0 : Int32) (p1 : Int32) (p2 : Int32) (p3 : Int32) (p4 : Int32) (p5 : Int32) (g1 : ¬ p1 = (2 : Int32)) (g2 : p1 = (0 : Int32)) (g3 : p2 = (4 : Int32)) (g4 : ¬ p3 < (1 : Int32)) (g5 : ¬ (256 : Int32) < p3) (g6 : ¬ p4 < (1 : Int32)) (g7 : ¬ (4096 : Int32) < p4) (g8 : ¬ p3 = (0 : Int32)) (g9 : (65536 : Int32) < (p4 * ((p3 + (7 : Int32)) &&& (-8 : Int32)))) : jv_Ms 120 [.int p3] (jv_H (jx_K 227) jx_If jx_L0 (jx_R 227)) 227 1572950 (some (.int ((p3 + (7 : Int32)) &&& (-8 : Int32))), (jv_H (jx_K 227) jx_If jx_L0 (jx_R 227)), 227, 1572950) := by
  show jv_Ev 120 0 [(0, .int p3)] [] (jv_H (jx_K 227) jx_If jx_L0 (jx_R 227)) 227 1572950 _
  refine jv_Ev.steps jv_i120 5 (pc' := 7) (l' := [(0, .int p3)]) (st' := [.int ((p3 + (7 : Int32)) &&& (-8 : Int32))]) rfl ?_
  exact jv_Ev.ret jv_i120 rfl rfl

set_option maxRecDepth 100000 in
/-- ProgramBox$Store.bytesOf -/
theorem jx_e829 (p0 : Int32) (p1 : Int32) (p2 : Int32) (p3 : Int32) (p4 : Int32) (p5 : Int32) (g1 : ¬ p1 = (2 : Int32)) (g2 : p1 = (0 : Int32)) (g3 : p2 = (4 : Int32)) (g4 : ¬ p3 < (1 : Int32)) (g5 : ¬ (256 : Int32) < p3) (g6 : ¬ p4 < (1 : Int32)) (g7 : ¬ (4096 : Int32) < p4) (g8 : ¬ p3 = (0 : Int32)) (g9 : (65536 : Int32) < (p4 * ((p3 + (7 : Int32)) &&& (-8 : Int32)))) : jv_Ms 124 [.int p3, .int p4] (jv_H (jx_K 227) jx_If jx_L0 (jx_R 227)) 227 1572950 (some (.int (p4 * ((p3 + (7 : Int32)) &&& (-8 : Int32)))), (jv_H (jx_K 227) jx_If jx_L0 (jx_R 227)), 227, 1572950) := by
  show jv_Ev 124 0 [(0, .int p3), (1, .int p4)] [] (jv_H (jx_K 227) jx_If jx_L0 (jx_R 227)) 227 1572950 _
  refine jv_Ev.steps jv_i124 1 (pc' := 1) (l' := [(0, .int p3), (1, .int p4)]) (st' := [.int p3]) rfl ?_
  refine jv_Ev.br jv_i124 (pc' := 8) (st' := []) rfl (jv_bi_ne.trans (jx_got g8)) ?_
  refine jv_Ev.steps jv_i124 2 (pc' := 10) (l' := [(0, .int p3), (1, .int p4)]) (st' := [.int p3, .int p4]) rfl ?_
  refine jv_Ev.c jv_i124 (pc' := 13) (S' := [.int ((p3 + (7 : Int32)) &&& (-8 : Int32)), .int p4]) jv_i120 [.int p3] rfl rfl rfl rfl rfl rfl (jx_e828 p0 p1 p2 p3 p4 p5 g1 g2 g3 g4 g5 g6 g7 g8 g9) rfl rfl ?_
  refine jv_Ev.steps jv_i124 1 (pc' := 14) (l' := [(0, .int p3), (1, .int p4)]) (st' := [.int (p4 * ((p3 + (7 : Int32)) &&& (-8 : Int32)))]) rfl ?_
  exact jv_Ev.ret jv_i124 rfl rfl

set_option maxRecDepth 100000 in
/-- ProgramBox.make: it throws -/
theorem jx_e830 (hTb : jv_TOk jv_Tb) (p0 : Int32) (p1 : Int32) (p2 : Int32) (p3 : Int32) (p4 : Int32) (p5 : Int32) (g1 : ¬ p1 = (2 : Int32)) (g2 : p1 = (0 : Int32)) (g3 : p2 = (4 : Int32)) (g4 : ¬ p3 < (1 : Int32)) (g5 : ¬ (256 : Int32) < p3) (g6 : ¬ p4 < (1 : Int32)) (g7 : ¬ (4096 : Int32) < p4) (g8 : ¬ p3 = (0 : Int32)) (g9 : (65536 : Int32) < (p4 * ((p3 + (7 : Int32)) &&& (-8 : Int32)))) : jx_Th 420 [.ref 0, .int p1, .int p2, .int p3, .int p4] (jv_H (jx_K 227) jx_If jx_L0 (jx_R 227)) 227 1572950 0 (jv_H (jx_K 227) jx_If jx_L0 (jx_R 227)) 228 1572956 := by
  refine jx_Th.of hTb (y := 420) rfl (Nat.le_of_ble_eq_true rfl) ?_
  intro p l e R s m args below meth c E hl F hZ h0 ht hRc hRs
  show jw p l e R s m args below meth c E 5 227 1572950 _ 0 [(0, .ref 0), (1, .int p1), (2, .int p2), (3, .int p3), (4, .int p4)] [] (jv_H (jx_K 227) jx_If jx_L0 (jx_R 227)) 227 1572950
  refine jw.steps F jv_i420 4 (pc' := 5) (l' := [(0, .ref 0), (1, .int p1), (2, .int p2), (3, .int p3), (4, .int p4)]) (st' := [.int p4, .int p3, .int p2, .int p1]) rfl ?_
  refine jw.ca hTb F jv_i420 (pc' := 8) (S' := [.int (1 : Int32)]) rfl jv_i123 [.int p1, .int p2, .int p3, .int p4] rfl rfl rfl rfl rfl rfl (jx_e827 p0 p1 p2 p3 p4 p5 g1 g2 g3 g4 g5 g6 g7 g8 g9) (by omega) (by omega) rfl rfl ?_
  refine jw.br F jv_i420 (pc' := 21) (st' := []) rfl (jv_bi_ne.trans (jx_got (by decide))) ?_
  refine jw.steps F jv_i420 1 (pc' := 22) (l' := [(0, .ref 0), (1, .int p1), (2, .int p2), (3, .int p3), (4, .int p4)]) (st' := [.ref 0]) rfl ?_
  refine jw.me F jv_i420 (pc' := 25) (st' := [.ref 2]) rfl rfl (jv_m_getR rfl rfl rfl rfl) ?_
  refine jw.me F jv_i420 (pc' := 28) (st' := [.int (0 : Int32)]) rfl rfl (jv_m_getI rfl rfl rfl rfl) ?_
  refine jw.steps F jv_i420 1 (pc' := 30) (l' := [(0, .ref 0), (1, .int p1), (2, .int p2), (3, .int p3), (4, .int p4)]) (st' := [.int (8 : Int32), .int (0 : Int32)]) rfl ?_
  refine jw.br F jv_i420 (pc' := 33) (st' := []) rfl (jv_bc_ge.trans (jx_gof (by decide))) ?_
  refine jw.steps F jv_i420 2 (pc' := 36) (l' := [(0, .ref 0), (1, .int p1), (2, .int p2), (3, .int p3), (4, .int p4)]) (st' := [.int p4, .int p3]) rfl ?_
  refine jw.ca hTb F jv_i420 (pc' := 39) (S' := [.int (p4 * ((p3 + (7 : Int32)) &&& (-8 : Int32)))]) rfl jv_i124 [.int p3, .int p4] rfl rfl rfl rfl rfl rfl (jx_e829 p0 p1 p2 p3 p4 p5 g1 g2 g3 g4 g5 g6 g7 g8 g9) (by omega) (by omega) rfl rfl ?_
  refine jw.steps F jv_i420 2 (pc' := 42) (l' := [(0, .ref 0), (1, .int p1), (2, .int p2), (3, .int p3), (4, .int p4)]) (st' := [.ref 0, .int (65536 : Int32), .int (p4 * ((p3 + (7 : Int32)) &&& (-8 : Int32)))]) rfl ?_
  refine jw.me F jv_i420 (pc' := 45) (st' := [.ref 2, .int (65536 : Int32), .int (p4 * ((p3 + (7 : Int32)) &&& (-8 : Int32)))]) rfl rfl (jv_m_getR rfl rfl rfl rfl) ?_
  refine jw.me F jv_i420 (pc' := 48) (st' := [.int (0 : Int32), .int (65536 : Int32), .int (p4 * ((p3 + (7 : Int32)) &&& (-8 : Int32)))]) rfl rfl (jv_m_getI rfl rfl rfl rfl) ?_
  refine jw.steps F jv_i420 1 (pc' := 49) (l' := [(0, .ref 0), (1, .int p1), (2, .int p2), (3, .int p3), (4, .int p4)]) (st' := [.int (65536 : Int32), .int (p4 * ((p3 + (7 : Int32)) &&& (-8 : Int32)))]) rfl ?_
  refine jw.br F jv_i420 (pc' := 52) (st' := []) rfl (jv_bc_le.trans (jx_gof (Int32.not_le.mpr g9))) ?_
  exact jw.throw hl F hZ h0 rfl jv_i420 ht 0 82 "too many maps, or too little area" (List.mem_of_getElem? (i := 3) rfl) (by decide +kernel) (by decide +kernel) (by decide +kernel) (by decide +kernel) (by decide +kernel) rfl (by decide) (by decide) (by decide) (by omega) (by omega)

set_option maxRecDepth 100000 in
/-- the law's make -/
theorem jx_w831 (hTb : jv_TOk jv_Tb) (hT2 : jx_T2Ok) (p0 : Int32) (p1 : Int32) (p2 : Int32) (p3 : Int32) (p4 : Int32) (p5 : Int32) (g1 : ¬ p1 = (2 : Int32)) (g2 : p1 = (0 : Int32)) (g3 : p2 = (4 : Int32)) (g4 : ¬ p3 < (1 : Int32)) (g5 : ¬ (256 : Int32) < p3) (g6 : ¬ p4 < (1 : Int32)) (g7 : ¬ (4096 : Int32) < p4) (g8 : ¬ p3 = (0 : Int32)) (g9 : (65536 : Int32) < (p4 * ((p3 + (7 : Int32)) &&& (-8 : Int32)))) : jx_Wr 442 [(0, 14, 17, 19), (0, 14, 21, 13)] [.ref 0, .int p1, .int p2, .int p3, .int p4, .ref 226] (jv_H (jx_K 227) jx_If jx_L0 (jx_R 227)) 227 1572950 (some (.int (2 : Int32)), (jv_H (jx_K 227) jx_If jx_L0 (jx_R 227)), 228, 1572956) := by
  refine jx_Wr.of hT2 (by decide) rfl (Nat.le_of_ble_eq_true rfl) ?_
  intro p l e R s m args below meth c E hl F hZ htb hRc hRs
  show jw p l e R s m args below meth c E 7 227 1572950 _ 0 [(0, .ref 0), (1, .int p1), (2, .int p2), (3, .int p3), (4, .int p4), (5, .ref 226)] [] (jv_H (jx_K 227) jx_If jx_L0 (jx_R 227)) 227 1572950
  have hRc : R.cells = 228 - 227 := hRc
  have hRs : R.slots = 1572956 - 1572950 := hRs
  refine jw.steps F jx_i442 7 (pc' := 9) (l' := [(0, .ref 0), (1, .int p1), (2, .int p2), (3, .int p3), (4, .int p4), (5, .ref 226)]) (st' := [.int p4, .int p3, .int p2, .int p1, .ref 0, .int (0 : Int32), .ref 226]) rfl ?_
  refine jw.cat hTb hl F hZ rfl jx_i442 htb rfl jv_i420 [.ref 0, .int p1, .int p2, .int p3, .int p4] rfl rfl rfl rfl rfl (jx_cal2 rfl (jv_H_at rfl) rfl rfl) rfl (jx_e830 hTb p0 p1 p2 p3 p4 p5 g1 g2 g3 g4 g5 g6 g7 g8 g9) (by omega) (by omega) (by omega) (by omega) [(0, 14, 17, 19)] (0, 14, 21, 13) [] rfl (List.forall_mem_cons.mpr ⟨⟨1, rfl, by decide⟩, fun z h => absurd h List.not_mem_nil⟩) (by decide) rfl rfl (Or.inl ⟨rfl, rfl⟩) (by decide) ?_
  refine jw.steps F jx_i442 1 (pc' := 24) (l' := []) (st' := [.int (2 : Int32)]) rfl ?_
  exact jw.ret F jx_i442 rfl rfl

set_option maxRecDepth 100000 in
/-- ProgramBoxModel$Store.isIn -/
theorem jx_e832 (p0 : Int32) (p1 : Int32) (p2 : Int32) (p3 : Int32) (p4 : Int32) (p5 : Int32) (g1 : ¬ p1 = (2 : Int32)) (g2 : p1 = (0 : Int32)) (g3 : p2 = (4 : Int32)) (g4 : ¬ p3 < (1 : Int32)) (g5 : ¬ (256 : Int32) < p3) (g6 : ¬ p4 < (1 : Int32)) (g7 : ¬ (4096 : Int32) < p4) (g8 : ¬ p3 = (0 : Int32)) (g9 : (65536 : Int32) < (p4 * ((p3 + (7 : Int32)) &&& (-8 : Int32)))) : jv_Ms 320 [.int p3, .int (1 : Int32), .int (256 : Int32)] (jv_H (jx_K 227) jx_If jx_L0 (jx_R 227)) 228 1572956 (some (.int (1 : Int32)), (jv_H (jx_K 227) jx_If jx_L0 (jx_R 227)), 228, 1572956) := by
  show jv_Ev 320 0 [(0, .int p3), (1, .int (1 : Int32)), (2, .int (256 : Int32))] [] (jv_H (jx_K 227) jx_If jx_L0 (jx_R 227)) 228 1572956 _
  refine jv_Ev.steps jv_i320 2 (pc' := 2) (l' := [(0, .int p3), (1, .int (1 : Int32)), (2, .int (256 : Int32))]) (st' := [.int (1 : Int32), .int p3]) rfl ?_
  refine jv_Ev.br jv_i320 (pc' := 5) (st' := []) rfl (jv_bc_lt.trans (jx_gof g4)) ?_
  refine jv_Ev.steps jv_i320 2 (pc' := 7) (l' := [(0, .int p3), (1, .int (1 : Int32)), (2, .int (256 : Int32))]) (st' := [.int (256 : Int32), .int p3]) rfl ?_
  refine jv_Ev.br jv_i320 (pc' := 10) (st' := []) rfl (jv_bc_gt.trans (jx_gof g5)) ?_
  refine jv_Ev.steps jv_i320 2 (pc' := 15) (l' := [(0, .int p3), (1, .int (1 : Int32)), (2, .int (256 : Int32))]) (st' := [.int (1 : Int32)]) rfl ?_
  exact jv_Ev.ret jv_i320 rfl (jv_ret_b (by decide))

set_option maxRecDepth 100000 in
/-- ProgramBoxModel$Store.isIn -/
theorem jx_e833 (p0 : Int32) (p1 : Int32) (p2 : Int32) (p3 : Int32) (p4 : Int32) (p5 : Int32) (g1 : ¬ p1 = (2 : Int32)) (g2 : p1 = (0 : Int32)) (g3 : p2 = (4 : Int32)) (g4 : ¬ p3 < (1 : Int32)) (g5 : ¬ (256 : Int32) < p3) (g6 : ¬ p4 < (1 : Int32)) (g7 : ¬ (4096 : Int32) < p4) (g8 : ¬ p3 = (0 : Int32)) (g9 : (65536 : Int32) < (p4 * ((p3 + (7 : Int32)) &&& (-8 : Int32)))) : jv_Ms 320 [.int p4, .int (1 : Int32), .int (4096 : Int32)] (jv_H (jx_K 227) jx_If jx_L0 (jx_R 227)) 228 1572956 (some (.int (1 : Int32)), (jv_H (jx_K 227) jx_If jx_L0 (jx_R 227)), 228, 1572956) := by
  show jv_Ev 320 0 [(0, .int p4), (1, .int (1 : Int32)), (2, .int (4096 : Int32))] [] (jv_H (jx_K 227) jx_If jx_L0 (jx_R 227)) 228 1572956 _
  refine jv_Ev.steps jv_i320 2 (pc' := 2) (l' := [(0, .int p4), (1, .int (1 : Int32)), (2, .int (4096 : Int32))]) (st' := [.int (1 : Int32), .int p4]) rfl ?_
  refine jv_Ev.br jv_i320 (pc' := 5) (st' := []) rfl (jv_bc_lt.trans (jx_gof g6)) ?_
  refine jv_Ev.steps jv_i320 2 (pc' := 7) (l' := [(0, .int p4), (1, .int (1 : Int32)), (2, .int (4096 : Int32))]) (st' := [.int (4096 : Int32), .int p4]) rfl ?_
  refine jv_Ev.br jv_i320 (pc' := 10) (st' := []) rfl (jv_bc_gt.trans (jx_gof g7)) ?_
  refine jv_Ev.steps jv_i320 2 (pc' := 15) (l' := [(0, .int p4), (1, .int (1 : Int32)), (2, .int (4096 : Int32))]) (st' := [.int (1 : Int32)]) rfl ?_
  exact jv_Ev.ret jv_i320 rfl (jv_ret_b (by decide))

set_option maxRecDepth 100000 in
/-- ProgramBoxModel$Store.isProper -/
theorem jx_e834 (p0 : Int32) (p1 : Int32) (p2 : Int32) (p3 : Int32) (p4 : Int32) (p5 : Int32) (g1 : ¬ p1 = (2 : Int32)) (g2 : p1 = (0 : Int32)) (g3 : p2 = (4 : Int32)) (g4 : ¬ p3 < (1 : Int32)) (g5 : ¬ (256 : Int32) < p3) (g6 : ¬ p4 < (1 : Int32)) (g7 : ¬ (4096 : Int32) < p4) (g8 : ¬ p3 = (0 : Int32)) (g9 : (65536 : Int32) < (p4 * ((p3 + (7 : Int32)) &&& (-8 : Int32)))) : jv_Ms 322 [.int p1, .int p2, .int p3, .int p4] (jv_H (jx_K 227) jx_If jx_L0 (jx_R 227)) 228 1572956 (some (.int (1 : Int32)), (jv_H (jx_K 227) jx_If jx_L0 (jx_R 227)), 228, 1572956) := by
  show jv_Ev 322 0 [(0, .int p1), (1, .int p2), (2, .int p3), (3, .int p4)] [] (jv_H (jx_K 227) jx_If jx_L0 (jx_R 227)) 228 1572956 _
  refine jv_Ev.steps jv_i322 2 (pc' := 2) (l' := [(0, .int p1), (1, .int p2), (2, .int p3), (3, .int p4)]) (st' := [.int (2 : Int32), .int p1]) rfl ?_
  refine jv_Ev.br jv_i322 (pc' := 38) (st' := []) rfl (jv_bc_ne.trans (jx_got (by rw [g2] <;> decide))) ?_
  refine jv_Ev.steps jv_i322 1 (pc' := 39) (l' := [(0, .int p1), (1, .int p2), (2, .int p3), (3, .int p4)]) (st' := [.int p1]) rfl ?_
  refine jv_Ev.br jv_i322 (pc' := 42) (st' := []) rfl (jv_bi_ne.trans (jx_gof (by rw [g2] <;> decide))) ?_
  refine jv_Ev.steps jv_i322 2 (pc' := 44) (l' := [(0, .int p1), (1, .int p2), (2, .int p3), (3, .int p4)]) (st' := [.int (4 : Int32), .int p2]) rfl ?_
  refine jv_Ev.br jv_i322 (pc' := 47) (st' := []) rfl (jv_bc_ne.trans (jx_gof (by rw [g3] <;> decide))) ?_
  refine jv_Ev.steps jv_i322 4 (pc' := 79) (l' := [(4, .int (1 : Int32)), (0, .int p1), (1, .int p2), (2, .int p3), (3, .int p4)]) (st' := [.int (1 : Int32)]) rfl ?_
  refine jv_Ev.br jv_i322 (pc' := 82) (st' := []) rfl (jv_bi_eq.trans (jx_gof (by decide))) ?_
  refine jv_Ev.steps jv_i322 3 (pc' := 87) (l' := [(4, .int (1 : Int32)), (0, .int p1), (1, .int p2), (2, .int p3), (3, .int p4)]) (st' := [.int (256 : Int32), .int (1 : Int32), .int p3]) rfl ?_
  refine jv_Ev.c jv_i322 (pc' := 90) (S' := [.int (1 : Int32)]) jv_i320 [.int p3, .int (1 : Int32), .int (256 : Int32)] rfl rfl rfl rfl rfl rfl (jx_e832 p0 p1 p2 p3 p4 p5 g1 g2 g3 g4 g5 g6 g7 g8 g9) rfl rfl ?_
  refine jv_Ev.br jv_i322 (pc' := 93) (st' := []) rfl (jv_bi_eq.trans (jx_gof (by decide))) ?_
  refine jv_Ev.steps jv_i322 3 (pc' := 98) (l' := [(4, .int (1 : Int32)), (0, .int p1), (1, .int p2), (2, .int p3), (3, .int p4)]) (st' := [.int (4096 : Int32), .int (1 : Int32), .int p4]) rfl ?_
  refine jv_Ev.c jv_i322 (pc' := 101) (S' := [.int (1 : Int32)]) jv_i320 [.int p4, .int (1 : Int32), .int (4096 : Int32)] rfl rfl rfl rfl rfl rfl (jx_e833 p0 p1 p2 p3 p4 p5 g1 g2 g3 g4 g5 g6 g7 g8 g9) rfl rfl ?_
  refine jv_Ev.br jv_i322 (pc' := 104) (st' := []) rfl (jv_bi_eq.trans (jx_gof (by decide))) ?_
  refine jv_Ev.steps jv_i322 2 (pc' := 109) (l' := [(4, .int (1 : Int32)), (0, .int p1), (1, .int p2), (2, .int p3), (3, .int p4)]) (st' := [.int (1 : Int32)]) rfl ?_
  exact jv_Ev.ret jv_i322 rfl (jv_ret_b (by decide))

set_option maxRecDepth 100000 in
theorem jv_i319 : jv_I 319 1 (some .int) 0 0 jv_c319 := ⟨rfl, rfl, rfl, rfl, rfl⟩
set_option maxRecDepth 100000 in
/-- ProgramBoxModel$Store.make -/
theorem jx_e835 (p0 : Int32) (p1 : Int32) (p2 : Int32) (p3 : Int32) (p4 : Int32) (p5 : Int32) (g1 : ¬ p1 = (2 : Int32)) (g2 : p1 = (0 : Int32)) (g3 : p2 = (4 : Int32)) (g4 : ¬ p3 < (1 : Int32)) (g5 : ¬ (256 : Int32) < p3) (g6 : ¬ p4 < (1 : Int32)) (g7 : ¬ (4096 : Int32) < p4) (g8 : ¬ p3 = (0 : Int32)) (g9 : (65536 : Int32) < (p4 * ((p3 + (7 : Int32)) &&& (-8 : Int32)))) : jv_Ms 323 [.ref 180, .int p1, .int p2, .int p3, .int p4] (jv_H (jx_K 227) jx_If jx_L0 (jx_R 227)) 228 1572956 (some (.int (0 : Int32)), (jv_H (jx_K 227) (jv_u (jv_u jx_If 180 0 (0 : Int32)) 180 0 (2 : Int32)) jx_L0 (jx_R 227)), 228, 1572956) := by
  show jv_Ev 323 0 [(0, .ref 180), (1, .int p1), (2, .int p2), (3, .int p3), (4, .int p4)] [] (jv_H (jx_K 227) jx_If jx_L0 (jx_R 227)) 228 1572956 _
  refine jv_Ev.steps jv_i323 5 (pc' := 6) (l' := [(0, .ref 180), (1, .int p1), (2, .int p2), (3, .int p3), (4, .int p4)]) (st' := [.int p4, .int p3, .int p2, .int p1, .ref 180]) rfl ?_
  refine jv_Ev.c jv_i323 (pc' := 9) (S' := [.int (1 : Int32), .ref 180]) jv_i322 [.int p1, .int p2, .int p3, .int p4] rfl rfl rfl rfl rfl rfl (jx_e834 p0 p1 p2 p3 p4 p5 g1 g2 g3 g4 g5 g6 g7 g8 g9) rfl rfl ?_
  refine jv_Ev.br jv_i323 (pc' := 12) (st' := [.ref 180]) rfl (jv_bi_eq.trans (jx_gof (by decide))) ?_
  refine jv_Ev.steps jv_i323 2 (pc' := 17) (l' := [(0, .ref 180), (1, .int p1), (2, .int p2), (3, .int p3), (4, .int p4)]) (st' := [.int (0 : Int32), .ref 180]) rfl ?_
  refine jv_Ev.m jv_i323 (pc' := 20) (st' := []) rfl rfl (jv_m_putI rfl rfl rfl rfl rfl) ?_
  refine jv_Ev.steps jv_i323 1 (pc' := 21) (l' := [(0, .ref 180), (1, .int p1), (2, .int p2), (3, .int p3), (4, .int p4)]) (st' := [.ref 180]) rfl ?_
  refine jv_Ev.m jv_i323 (pc' := 24) (st' := [.int (0 : Int32)]) rfl rfl (jv_m_getI rfl rfl rfl rfl) ?_
  refine jv_Ev.br jv_i323 (pc' := 29) (st' := []) rfl (jv_bi_le.trans (jx_got (by decide))) ?_
  refine jv_Ev.steps jv_i323 2 (pc' := 31) (l' := [(0, .ref 180), (1, .int p1), (2, .int p2), (3, .int p3), (4, .int p4)]) (st' := [.int (2 : Int32), .int p1]) rfl ?_
  refine jv_Ev.br jv_i323 (pc' := 39) (st' := []) rfl (jv_bc_ne.trans (jx_got (by rw [g2] <;> decide))) ?_
  refine jv_Ev.steps jv_i323 2 (pc' := 42) (l' := [(0, .ref 180), (1, .int p1), (2, .int p2), (3, .int p3), (4, .int p4)]) (st' := [.int p3, .int p4]) rfl ?_
  refine jv_Ev.c jv_i323 (pc' := 45) (S' := [.int ((p3 + (7 : Int32)) &&& (-8 : Int32)), .int p4]) jv_i319 [.int p3] rfl rfl rfl rfl rfl rfl (jx_filled_run p3 g4 g5 _ _ _) rfl rfl ?_
  refine jv_Ev.steps jv_i323 4 (pc' := 50) (l' := [(5, .int (p4 * ((p3 + (7 : Int32)) &&& (-8 : Int32)))), (0, .ref 180), (1, .int p1), (2, .int p2), (3, .int p3), (4, .int p4)]) (st' := [.ref 180, .ref 180]) rfl ?_
  refine jv_Ev.m jv_i323 (pc' := 53) (st' := [.int (0 : Int32), .ref 180]) rfl rfl (jv_m_getI rfl rfl rfl rfl) ?_
  refine jv_Ev.steps jv_i323 1 (pc' := 55) (l' := [(5, .int (p4 * ((p3 + (7 : Int32)) &&& (-8 : Int32)))), (0, .ref 180), (1, .int p1), (2, .int p2), (3, .int p3), (4, .int p4)]) (st' := [.int (8 : Int32), .int (0 : Int32), .ref 180]) rfl ?_
  refine jv_Ev.br jv_i323 (pc' := 58) (st' := [.ref 180]) rfl (jv_bc_eq.trans (jx_gof (by decide))) ?_
  refine jv_Ev.steps jv_i323 3 (pc' := 63) (l' := [(5, .int (p4 * ((p3 + (7 : Int32)) &&& (-8 : Int32)))), (0, .ref 180), (1, .int p1), (2, .int p2), (3, .int p3), (4, .int p4)]) (st' := [.ref 180, .int (65536 : Int32), .int (p4 * ((p3 + (7 : Int32)) &&& (-8 : Int32))), .ref 180]) rfl ?_
  refine jv_Ev.m jv_i323 (pc' := 66) (st' := [.int (0 : Int32), .int (65536 : Int32), .int (p4 * ((p3 + (7 : Int32)) &&& (-8 : Int32))), .ref 180]) rfl rfl (jv_m_getI rfl rfl rfl rfl) ?_
  refine jv_Ev.steps jv_i323 1 (pc' := 67) (l' := [(5, .int (p4 * ((p3 + (7 : Int32)) &&& (-8 : Int32)))), (0, .ref 180), (1, .int p1), (2, .int p2), (3, .int p3), (4, .int p4)]) (st' := [.int (65536 : Int32), .int (p4 * ((p3 + (7 : Int32)) &&& (-8 : Int32))), .ref 180]) rfl ?_
  refine jv_Ev.br jv_i323 (pc' := 70) (st' := [.ref 180]) rfl (jv_bc_le.trans (jx_gof (Int32.not_le.mpr g9))) ?_
  refine jv_Ev.steps jv_i323 2 (pc' := 75) (l' := [(5, .int (p4 * ((p3 + (7 : Int32)) &&& (-8 : Int32)))), (0, .ref 180), (1, .int p1), (2, .int p2), (3, .int p3), (4, .int p4)]) (st' := [.int (2 : Int32), .ref 180]) rfl ?_
  refine jv_Ev.m jv_i323 (pc' := 78) (st' := []) rfl rfl (jv_m_putI rfl rfl rfl rfl rfl) ?_
  refine jv_Ev.steps jv_i323 1 (pc' := 79) (l' := [(5, .int (p4 * ((p3 + (7 : Int32)) &&& (-8 : Int32)))), (0, .ref 180), (1, .int p1), (2, .int p2), (3, .int p3), (4, .int p4)]) (st' := [.ref 180]) rfl ?_
  refine jv_Ev.m jv_i323 (pc' := 82) (st' := [.int (2 : Int32)]) rfl rfl (jv_m_getI rfl rfl rfl rfl) ?_
  refine jv_Ev.br jv_i323 (pc' := 85) (st' := []) rfl (jv_bi_le.trans (jx_gof (by decide))) ?_
  refine jv_Ev.steps jv_i323 1 (pc' := 86) (l' := [(5, .int (p4 * ((p3 + (7 : Int32)) &&& (-8 : Int32)))), (0, .ref 180), (1, .int p1), (2, .int p2), (3, .int p3), (4, .int p4)]) (st' := [.int (0 : Int32)]) rfl ?_
  exact jv_Ev.ret jv_i323 rfl rfl

set_option maxRecDepth 100000 in
/-- ProgramBoxModel$Store.thrown -/
theorem jx_e836 (p0 : Int32) (p1 : Int32) (p2 : Int32) (p3 : Int32) (p4 : Int32) (p5 : Int32) (g1 : ¬ p1 = (2 : Int32)) (g2 : p1 = (0 : Int32)) (g3 : p2 = (4 : Int32)) (g4 : ¬ p3 < (1 : Int32)) (g5 : ¬ (256 : Int32) < p3) (g6 : ¬ p4 < (1 : Int32)) (g7 : ¬ (4096 : Int32) < p4) (g8 : ¬ p3 = (0 : Int32)) (g9 : (65536 : Int32) < (p4 * ((p3 + (7 : Int32)) &&& (-8 : Int32)))) : jv_Ms 318 [.ref 180] (jv_H (jx_K 227) (jv_u (jv_u jx_If 180 0 (0 : Int32)) 180 0 (2 : Int32)) jx_L0 (jx_R 227)) 228 1572956 (some (.int (2 : Int32)), (jv_H (jx_K 227) (jv_u (jv_u jx_If 180 0 (0 : Int32)) 180 0 (2 : Int32)) jx_L0 (jx_R 227)), 228, 1572956) := by
  show jv_Ev 318 0 [(0, .ref 180)] [] (jv_H (jx_K 227) (jv_u (jv_u jx_If 180 0 (0 : Int32)) 180 0 (2 : Int32)) jx_L0 (jx_R 227)) 228 1572956 _
  refine jv_Ev.steps jv_i318 1 (pc' := 1) (l' := [(0, .ref 180)]) (st' := [.ref 180]) rfl ?_
  refine jv_Ev.m jv_i318 (pc' := 4) (st' := [.int (2 : Int32)]) rfl rfl (jv_m_getI rfl rfl rfl rfl) ?_
  exact jv_Ev.ret jv_i318 rfl rfl

set_option maxRecDepth 100000 in
/-- ProgramBoxModel.make -/
theorem jx_e837 (p0 : Int32) (p1 : Int32) (p2 : Int32) (p3 : Int32) (p4 : Int32) (p5 : Int32) (g1 : ¬ p1 = (2 : Int32)) (g2 : p1 = (0 : Int32)) (g3 : p2 = (4 : Int32)) (g4 : ¬ p3 < (1 : Int32)) (g5 : ¬ (256 : Int32) < p3) (g6 : ¬ p4 < (1 : Int32)) (g7 : ¬ (4096 : Int32) < p4) (g8 : ¬ p3 = (0 : Int32)) (g9 : (65536 : Int32) < (p4 * ((p3 + (7 : Int32)) &&& (-8 : Int32)))) : jv_Ms 353 [.ref 178, .int p1, .int p2, .int p3, .int p4] (jv_H (jx_K 227) jx_If jx_L0 (jx_R 227)) 228 1572956 (some (.int (0 : Int32)), (jv_H (jx_K 227) (jv_u (jv_u (jv_u jx_If 180 0 (0 : Int32)) 180 0 (2 : Int32)) 178 0 (2 : Int32)) jx_L0 (jx_R 227)), 228, 1572956) := by
  show jv_Ev 353 0 [(0, .ref 178), (1, .int p1), (2, .int p2), (3, .int p3), (4, .int p4)] [] (jv_H (jx_K 227) jx_If jx_L0 (jx_R 227)) 228 1572956 _
  refine jv_Ev.steps jv_i353 1 (pc' := 1) (l' := [(0, .ref 178), (1, .int p1), (2, .int p2), (3, .int p3), (4, .int p4)]) (st' := [.ref 178]) rfl ?_
  refine jv_Ev.m jv_i353 (pc' := 4) (st' := [.ref 180]) rfl rfl (jv_m_getR rfl rfl rfl rfl) ?_
  refine jv_Ev.steps jv_i353 4 (pc' := 9) (l' := [(0, .ref 178), (1, .int p1), (2, .int p2), (3, .int p3), (4, .int p4)]) (st' := [.int p4, .int p3, .int p2, .int p1, .ref 180]) rfl ?_
  refine jv_Ev.c jv_i353 (pc' := 12) (S' := [.int (0 : Int32)]) jv_i323 [.ref 180, .int p1, .int p2, .int p3, .int p4] rfl rfl rfl rfl (jv_cal rfl (jv_H_at rfl) rfl rfl) rfl (jx_e835 p0 p1 p2 p3 p4 p5 g1 g2 g3 g4 g5 g6 g7 g8 g9) rfl rfl ?_
  refine jv_Ev.steps jv_i353 3 (pc' := 16) (l' := [(5, .int (0 : Int32)), (0, .ref 178), (1, .int p1), (2, .int p2), (3, .int p3), (4, .int p4)]) (st' := [.ref 178, .ref 178]) rfl ?_
  refine jv_Ev.m jv_i353 (pc' := 19) (st' := [.ref 180, .ref 178]) rfl rfl (jv_m_getR rfl rfl rfl rfl) ?_
  refine jv_Ev.c jv_i353 (pc' := 22) (S' := [.int (2 : Int32), .ref 178]) jv_i318 [.ref 180] rfl rfl rfl rfl (jv_cal rfl (jv_H_at rfl) rfl rfl) rfl (jx_e836 p0 p1 p2 p3 p4 p5 g1 g2 g3 g4 g5 g6 g7 g8 g9) rfl rfl ?_
  refine jv_Ev.m jv_i353 (pc' := 25) (st' := []) rfl rfl (jv_m_putI rfl rfl rfl rfl rfl) ?_
  refine jv_Ev.steps jv_i353 1 (pc' := 26) (l' := [(5, .int (0 : Int32)), (0, .ref 178), (1, .int p1), (2, .int p2), (3, .int p3), (4, .int p4)]) (st' := [.ref 178]) rfl ?_
  refine jv_Ev.m jv_i353 (pc' := 29) (st' := [.int (2 : Int32)]) rfl rfl (jv_m_getI rfl rfl rfl rfl) ?_
  refine jv_Ev.br jv_i353 (pc' := 67) (st' := []) rfl (jv_bi_ne.trans (jx_got (by decide))) ?_
  refine jv_Ev.steps jv_i353 1 (pc' := 69) (l' := [(5, .int (0 : Int32)), (0, .ref 178), (1, .int p1), (2, .int p2), (3, .int p3), (4, .int p4)]) (st' := [.int (0 : Int32)]) rfl ?_
  exact jv_Ev.ret jv_i353 rfl rfl

set_option maxRecDepth 100000 in
/-- ProgramBoxModel.thrown -/
theorem jx_e838 (p0 : Int32) (p1 : Int32) (p2 : Int32) (p3 : Int32) (p4 : Int32) (p5 : Int32) (g1 : ¬ p1 = (2 : Int32)) (g2 : p1 = (0 : Int32)) (g3 : p2 = (4 : Int32)) (g4 : ¬ p3 < (1 : Int32)) (g5 : ¬ (256 : Int32) < p3) (g6 : ¬ p4 < (1 : Int32)) (g7 : ¬ (4096 : Int32) < p4) (g8 : ¬ p3 = (0 : Int32)) (g9 : (65536 : Int32) < (p4 * ((p3 + (7 : Int32)) &&& (-8 : Int32)))) : jv_Ms 350 [.ref 178] (jv_H (jx_K 227) (jv_u (jv_u (jv_u jx_If 180 0 (0 : Int32)) 180 0 (2 : Int32)) 178 0 (2 : Int32)) jx_L0 (jx_R 227)) 228 1572956 (some (.int (2 : Int32)), (jv_H (jx_K 227) (jv_u (jv_u (jv_u jx_If 180 0 (0 : Int32)) 180 0 (2 : Int32)) 178 0 (2 : Int32)) jx_L0 (jx_R 227)), 228, 1572956) := by
  show jv_Ev 350 0 [(0, .ref 178)] [] (jv_H (jx_K 227) (jv_u (jv_u (jv_u jx_If 180 0 (0 : Int32)) 180 0 (2 : Int32)) 178 0 (2 : Int32)) jx_L0 (jx_R 227)) 228 1572956 _
  refine jv_Ev.steps jv_i350 1 (pc' := 1) (l' := [(0, .ref 178)]) (st' := [.ref 178]) rfl ?_
  refine jv_Ev.m jv_i350 (pc' := 4) (st' := [.int (2 : Int32)]) rfl rfl (jv_m_getI rfl rfl rfl rfl) ?_
  exact jv_Ev.ret jv_i350 rfl rfl

set_option maxRecDepth 100000 in
/-- the law: case 2, one way -/
theorem jx_l95 (p0 : Int32) (p1 : Int32) (p2 : Int32) (p3 : Int32) (p4 : Int32) (p5 : Int32) (g1 : ¬ p1 = (2 : Int32)) (g2 : p1 = (0 : Int32)) (g3 : p2 = (4 : Int32)) (g4 : ¬ p3 < (1 : Int32)) (g5 : ¬ (256 : Int32) < p3) (g6 : ¬ p4 < (1 : Int32)) (g7 : ¬ (4096 : Int32) < p4) (g8 : ¬ p3 = (0 : Int32)) (g9 : (65536 : Int32) < (p4 * ((p3 + (7 : Int32)) &&& (-8 : Int32)))) (hsw : p0 &&& (31 : Int32) = (2 : Int32)) {p : Program} {l : Launch} {e : Env} {R : Room} {s : State} {m : MethodId} {args : Array Value} {below : List Frame} {meth : Method} {c : Code} {E : jv_Env} {Q : State → Prop} (hTb : jv_TOk jv_Tb) (hT2 : jx_T2Ok) (hl : l.stackTraces = false) (F : jx_F jv_T2 439 E p R s m args meth c) (hZ : jx_Z E s) (hRc : R.cells = 600002) (hRs : R.slots = 7302232) {bb : Nat} {xs : Nat → Int32} (hX : va_X bb 6 xs s E.2.2.2.2) (hbB : bb < E.2.2.2.1) (hE2 : E.1 1000002 = bb) (hQ : ∀ (l0 : jv_L) (G : jv_G) (n sl : Nat), n ≤ 600002 → sl ≤ 7302232 → jw p l e R s m args below meth c E 8 0 0 Q 1532 l0 [.int (1 : Int32)] G n sl) (q0 : xs 0 = p0) (q1 : xs 1 = p1) (q2 : xs 2 = p2) (q3 : xs 3 = p3) (q4 : xs 4 = p4) (q5 : xs 5 = p5) : jw p l e R s m args below meth c E 8 0 0 Q 33 [(0, .ref 1000002), (1, .ref 0), (2, .ref 178), (3, .ref 226), (4, .int (0 : Int32))] [] (jv_H (jx_K 227) jx_If jx_L0 (jx_R 227)) 227 1572950 := by
  refine jw.steps F jx_i439 2 (pc' := 36) (l' := [(0, .ref 1000002), (1, .ref 0), (2, .ref 178), (3, .ref 226), (4, .int (0 : Int32))]) (st' := [.int (0 : Int32), .ref 1000002]) rfl ?_
  refine jw.sld F jx_i439 hX hbB hE2 (pc' := 37) rfl rfl (show vp_in (nI 0) 6 from vp_in_nI (by decide) (by decide)) q0 rfl ?_
  refine jw.steps F jx_i439 2 (pc' := 40) (l' := [(0, .ref 1000002), (1, .ref 0), (2, .ref 178), (3, .ref 226), (4, .int (0 : Int32))]) (st' := [.int (p0 &&& (31 : Int32))]) rfl ?_
  refine jw.br F jx_i439 (pc' := 304) (st' := []) rfl (by rw [hsw]; rfl) ?_
  refine jw.steps F jx_i439 5 (pc' := 310) (l' := [(0, .ref 1000002), (1, .ref 0), (2, .ref 178), (3, .ref 226), (4, .int (0 : Int32))]) (st' := [.int (1 : Int32), .ref 1000002, .ref 0]) rfl ?_
  refine jw.sld F jx_i439 hX hbB hE2 (pc' := 311) rfl rfl (show vp_in (nI 1) 6 from vp_in_nI (by decide) (by decide)) q1 rfl ?_
  refine jw.steps F jx_i439 4 (pc' := 316) (l' := [(0, .ref 1000002), (1, .ref 0), (2, .ref 178), (3, .ref 226), (4, .int (0 : Int32))]) (st' := [.int (2 : Int32), .ref 1000002, .int p1, .ref 0]) rfl ?_
  refine jw.sld F jx_i439 hX hbB hE2 (pc' := 317) rfl rfl (show vp_in (nI 2) 6 from vp_in_nI (by decide) (by decide)) q2 rfl ?_
  refine jw.steps F jx_i439 4 (pc' := 322) (l' := [(0, .ref 1000002), (1, .ref 0), (2, .ref 178), (3, .ref 226), (4, .int (0 : Int32))]) (st' := [.int (3 : Int32), .ref 1000002, .int p2, .int p1, .ref 0]) rfl ?_
  refine jw.sld F jx_i439 hX hbB hE2 (pc' := 323) rfl rfl (show vp_in (nI 3) 6 from vp_in_nI (by decide) (by decide)) q3 rfl ?_
  refine jw.steps F jx_i439 4 (pc' := 328) (l' := [(0, .ref 1000002), (1, .ref 0), (2, .ref 178), (3, .ref 226), (4, .int (0 : Int32))]) (st' := [.int (4 : Int32), .ref 1000002, .int p3, .int p2, .int p1, .ref 0]) rfl ?_
  refine jw.sld F jx_i439 hX hbB hE2 (pc' := 329) rfl rfl (show vp_in (nI 4) 6 from vp_in_nI (by decide) (by decide)) q4 rfl ?_
  refine jw.steps F jx_i439 1 (pc' := 330) (l' := [(0, .ref 1000002), (1, .ref 0), (2, .ref 178), (3, .ref 226), (4, .int (0 : Int32))]) (st' := [.ref 226, .int p4, .int p3, .int p2, .int p1, .ref 0]) rfl ?_
  refine jw.wr F hl hZ rfl jx_i439 jx_i442 [.ref 0, .int p1, .int p2, .int p3, .int p4, .ref 226] (pc' := 333) (S' := [.int (2 : Int32)]) rfl (List.mem_of_getElem? (i := 2) rfl) (List.mem_of_getElem? (i := 2) rfl) rfl rfl rfl (jx_w831 hTb hT2 p0 p1 p2 p3 p4 p5 g1 g2 g3 g4 g5 g6 g7 g8 g9) (by omega) (by omega) (by omega) (by omega) rfl rfl ?_
  refine jw.steps F jx_i439 6 (pc' := 341) (l' := [(5, .int (2 : Int32)), (0, .ref 1000002), (1, .ref 0), (2, .ref 178), (3, .ref 226), (4, .int (0 : Int32))]) (st' := [.int (1 : Int32), .ref 1000002, .ref 178]) rfl ?_
  refine jw.sld F jx_i439 hX hbB hE2 (pc' := 342) rfl rfl (show vp_in (nI 1) 6 from vp_in_nI (by decide) (by decide)) q1 rfl ?_
  refine jw.steps F jx_i439 4 (pc' := 347) (l' := [(5, .int (2 : Int32)), (0, .ref 1000002), (1, .ref 0), (2, .ref 178), (3, .ref 226), (4, .int (0 : Int32))]) (st' := [.int (2 : Int32), .ref 1000002, .int p1, .ref 178]) rfl ?_
  refine jw.sld F jx_i439 hX hbB hE2 (pc' := 348) rfl rfl (show vp_in (nI 2) 6 from vp_in_nI (by decide) (by decide)) q2 rfl ?_
  refine jw.steps F jx_i439 4 (pc' := 353) (l' := [(5, .int (2 : Int32)), (0, .ref 1000002), (1, .ref 0), (2, .ref 178), (3, .ref 226), (4, .int (0 : Int32))]) (st' := [.int (3 : Int32), .ref 1000002, .int p2, .int p1, .ref 178]) rfl ?_
  refine jw.sld F jx_i439 hX hbB hE2 (pc' := 354) rfl rfl (show vp_in (nI 3) 6 from vp_in_nI (by decide) (by decide)) q3 rfl ?_
  refine jw.steps F jx_i439 4 (pc' := 359) (l' := [(5, .int (2 : Int32)), (0, .ref 1000002), (1, .ref 0), (2, .ref 178), (3, .ref 226), (4, .int (0 : Int32))]) (st' := [.int (4 : Int32), .ref 1000002, .int p3, .int p2, .int p1, .ref 178]) rfl ?_
  refine jw.sld F jx_i439 hX hbB hE2 (pc' := 360) rfl rfl (show vp_in (nI 4) 6 from vp_in_nI (by decide) (by decide)) q4 rfl ?_
  refine jw.ca hTb F jx_i439 (pc' := 363) (S' := [.int (0 : Int32)]) rfl jv_i353 [.ref 178, .int p1, .int p2, .int p3, .int p4] rfl rfl rfl rfl (jx_cal2 rfl (jv_H_at rfl) rfl rfl) rfl (jx_e837 p0 p1 p2 p3 p4 p5 g1 g2 g3 g4 g5 g6 g7 g8 g9) (by omega) (by omega) rfl rfl ?_
  refine jw.steps F jx_i439 2 (pc' := 366) (l' := [(6, .int (0 : Int32)), (5, .int (2 : Int32)), (0, .ref 1000002), (1, .ref 0), (2, .ref 178), (3, .ref 226), (4, .int (0 : Int32))]) (st' := [.ref 178]) rfl ?_
  refine jw.ca hTb F jx_i439 (pc' := 369) (S' := [.int (2 : Int32)]) rfl jv_i350 [.ref 178] rfl rfl rfl rfl (jx_cal2 rfl (jv_H_at rfl) rfl rfl) rfl (jx_e838 p0 p1 p2 p3 p4 p5 g1 g2 g3 g4 g5 g6 g7 g8 g9) (by omega) (by omega) rfl rfl ?_
  refine jw.steps F jx_i439 1 (pc' := 371) (l' := [(6, .int (0 : Int32)), (5, .int (2 : Int32)), (0, .ref 1000002), (1, .ref 0), (2, .ref 178), (3, .ref 226), (4, .int (0 : Int32))]) (st' := [.int (2 : Int32), .int (2 : Int32)]) rfl ?_
  refine jw.br F jx_i439 (pc' := 376) (st' := []) rfl (jv_bc_eq.trans (jx_got (by decide))) ?_
  refine jw.steps F jx_i439 1 (pc' := 378) (l' := [(6, .int (0 : Int32)), (5, .int (2 : Int32)), (0, .ref 1000002), (1, .ref 0), (2, .ref 178), (3, .ref 226), (4, .int (0 : Int32))]) (st' := [.int (2 : Int32)]) rfl ?_
  refine jw.br F jx_i439 (pc' := 393) (st' := []) rfl (jv_bi_ne.trans (jx_got (by decide))) ?_
  refine jw.steps F jx_i439 5 (pc' := 26) (l' := [(4, .int (6 : Int32)), (6, .int (0 : Int32)), (5, .int (2 : Int32)), (0, .ref 1000002), (1, .ref 0), (2, .ref 178), (3, .ref 226)]) (st' := [.ref 1000002, .int (6 : Int32)]) rfl ?_
  refine jw.slen F jx_i439 hX hbB hE2 (pc' := 27) rfl rfl rfl ?_
  refine jw.steps F jx_i439 2 (pc' := 30) (l' := [(4, .int (6 : Int32)), (6, .int (0 : Int32)), (5, .int (2 : Int32)), (0, .ref 1000002), (1, .ref 0), (2, .ref 178), (3, .ref 226)]) (st' := [.int (0 : Int32), .int (6 : Int32)]) rfl ?_
  refine jw.br F jx_i439 (pc' := 1531) (st' := []) rfl (jv_bc_gt.trans (jx_got (by decide))) ?_
  refine jw.steps F jx_i439 1 (pc' := 1532) (l' := [(4, .int (6 : Int32)), (6, .int (0 : Int32)), (5, .int (2 : Int32)), (0, .ref 1000002), (1, .ref 0), (2, .ref 178), (3, .ref 226)]) (st' := [.int (1 : Int32)]) rfl ?_
  exact hQ _ _ _ _ (by omega) (by omega)

set_option maxRecDepth 100000 in
/-- ProgramBox$Store.isShape -/
theorem jx_e839 (p0 : Int32) (p1 : Int32) (p2 : Int32) (p3 : Int32) (p4 : Int32) (p5 : Int32) (g1 : ¬ p1 = (2 : Int32)) (g2 : p1 = (0 : Int32)) (g3 : p2 = (4 : Int32)) (g4 : ¬ p3 < (1 : Int32)) (g5 : ¬ (256 : Int32) < p3) (g6 : ¬ p4 < (1 : Int32)) (g7 : ¬ (4096 : Int32) < p4) (g8 : ¬ p3 = (0 : Int32)) (g9 : ¬ (65536 : Int32) < (p4 * ((p3 + (7 : Int32)) &&& (-8 : Int32)))) : jv_Ms 123 [.int p1, .int p2, .int p3, .int p4] (jv_H (jx_K 227) jx_If jx_L0 (jx_R 227)) 227 1572950 (some (.int (1 : Int32)), (jv_H (jx_K 227) jx_If jx_L0 (jx_R 227)), 227, 1572950) := by
  show jv_Ev 123 0 [(0, .int p1), (1, .int p2), (2, .int p3), (3, .int p4)] [] (jv_H (jx_K 227) jx_If jx_L0 (jx_R 227)) 227 1572950 _
  refine jv_Ev.steps jv_i123 2 (pc' := 2) (l' := [(0, .int p1), (1, .int p2), (2, .int p3), (3, .int p4)]) (st' := [.int (2 : Int32), .int p1]) rfl ?_
  refine jv_Ev.br jv_i123 (pc' := 40) (st' := []) rfl (jv_bc_ne.trans (jx_got (by rw [g2] <;> decide))) ?_
  refine jv_Ev.steps jv_i123 1 (pc' := 41) (l' := [(0, .int p1), (1, .int p2), (2, .int p3), (3, .int p4)]) (st' := [.int p1]) rfl ?_
  refine jv_Ev.br jv_i123 (pc' := 44) (st' := []) rfl (jv_bi_ne.trans (jx_gof (by rw [g2] <;> decide))) ?_
  refine jv_Ev.steps jv_i123 2 (pc' := 46) (l' := [(0, .int p1), (1, .int p2), (2, .int p3), (3, .int p4)]) (st' := [.int (4 : Int32), .int p2]) rfl ?_
  refine jv_Ev.br jv_i123 (pc' := 49) (st' := []) rfl (jv_bc_ne.trans (jx_gof (by rw [g3] <;> decide))) ?_
  refine jv_Ev.steps jv_i123 4 (pc' := 82) (l' := [(4, .int (1 : Int32)), (0, .int p1), (1, .int p2), (2, .int p3), (3, .int p4)]) (st' := [.int (1 : Int32)]) rfl ?_
  refine jv_Ev.br jv_i123 (pc' := 85) (st' := []) rfl (jv_bi_eq.trans (jx_gof (by decide))) ?_
  refine jv_Ev.steps jv_i123 2 (pc' := 87) (l' := [(4, .int (1 : Int32)), (0, .int p1), (1, .int p2), (2, .int p3), (3, .int p4)]) (st' := [.int (1 : Int32), .int p3]) rfl ?_
  refine jv_Ev.br jv_i123 (pc' := 90) (st' := []) rfl (jv_bc_lt.trans (jx_gof g4)) ?_
  refine jv_Ev.steps jv_i123 2 (pc' := 94) (l' := [(4, .int (1 : Int32)), (0, .int p1), (1, .int p2), (2, .int p3), (3, .int p4)]) (st' := [.int (256 : Int32), .int p3]) rfl ?_
  refine jv_Ev.br jv_i123 (pc' := 97) (st' := []) rfl (jv_bc_gt.trans (jx_gof g5)) ?_
  refine jv_Ev.steps jv_i123 2 (pc' := 99) (l' := [(4, .int (1 : Int32)), (0, .int p1), (1, .int p2), (2, .int p3), (3, .int p4)]) (st' := [.int (1 : Int32), .int p4]) rfl ?_
  refine jv_Ev.br jv_i123 (pc' := 102) (st' := []) rfl (jv_bc_lt.trans (jx_gof g6)) ?_
  refine jv_Ev.steps jv_i123 2 (pc' := 106) (l' := [(4, .int (1 : Int32)), (0, .int p1), (1, .int p2), (2, .int p3), (3, .int p4)]) (st' := [.int (4096 : Int32), .int p4]) rfl ?_
  refine jv_Ev.br jv_i123 (pc' := 109) (st' := []) rfl (jv_bc_gt.trans (jx_gof g7)) ?_
  refine jv_Ev.steps jv_i123 2 (pc' := 114) (l' := [(4, .int (1 : Int32)), (0, .int p1), (1, .int p2), (2, .int p3), (3, .int p4)]) (st' := [.int (1 : Int32)]) rfl ?_
  exact jv_Ev.ret jv_i123 rfl (jv_ret_b (by decide))

set_option maxRecDepth 100000 in
/-- ProgramBox$Store.filledUp -/
theorem jx_e840 (p0 : Int32) (p1 : Int32) (p2 : Int32) (p3 : Int32) (p4 : Int32) (p5 : Int32) (g1 : ¬ p1 = (2 : Int32)) (g2 : p1 = (0 : Int32)) (g3 : p2 = (4 : Int32)) (g4 : ¬ p3 < (1 : Int32)) (g5 : ¬ (256 : Int32) < p3) (g6 : ¬ p4 < (1 : Int32)) (g7 : ¬ (4096 : Int32) < p4) (g8 : ¬ p3 = (0 : Int32)) (g9 : ¬ (65536 : Int32) < (p4 * ((p3 + (7 : Int32)) &&& (-8 : Int32)))) : jv_Ms 120 [.int p3] (jv_H (jx_K 227) jx_If jx_L0 (jx_R 227)) 227 1572950 (some (.int ((p3 + (7 : Int32)) &&& (-8 : Int32))), (jv_H (jx_K 227) jx_If jx_L0 (jx_R 227)), 227, 1572950) := by
  show jv_Ev 120 0 [(0, .int p3)] [] (jv_H (jx_K 227) jx_If jx_L0 (jx_R 227)) 227 1572950 _
  refine jv_Ev.steps jv_i120 5 (pc' := 7) (l' := [(0, .int p3)]) (st' := [.int ((p3 + (7 : Int32)) &&& (-8 : Int32))]) rfl ?_
  exact jv_Ev.ret jv_i120 rfl rfl

set_option maxRecDepth 100000 in
/-- ProgramBox$Store.bytesOf -/
theorem jx_e841 (p0 : Int32) (p1 : Int32) (p2 : Int32) (p3 : Int32) (p4 : Int32) (p5 : Int32) (g1 : ¬ p1 = (2 : Int32)) (g2 : p1 = (0 : Int32)) (g3 : p2 = (4 : Int32)) (g4 : ¬ p3 < (1 : Int32)) (g5 : ¬ (256 : Int32) < p3) (g6 : ¬ p4 < (1 : Int32)) (g7 : ¬ (4096 : Int32) < p4) (g8 : ¬ p3 = (0 : Int32)) (g9 : ¬ (65536 : Int32) < (p4 * ((p3 + (7 : Int32)) &&& (-8 : Int32)))) : jv_Ms 124 [.int p3, .int p4] (jv_H (jx_K 227) jx_If jx_L0 (jx_R 227)) 227 1572950 (some (.int (p4 * ((p3 + (7 : Int32)) &&& (-8 : Int32)))), (jv_H (jx_K 227) jx_If jx_L0 (jx_R 227)), 227, 1572950) := by
  show jv_Ev 124 0 [(0, .int p3), (1, .int p4)] [] (jv_H (jx_K 227) jx_If jx_L0 (jx_R 227)) 227 1572950 _
  refine jv_Ev.steps jv_i124 1 (pc' := 1) (l' := [(0, .int p3), (1, .int p4)]) (st' := [.int p3]) rfl ?_
  refine jv_Ev.br jv_i124 (pc' := 8) (st' := []) rfl (jv_bi_ne.trans (jx_got g8)) ?_
  refine jv_Ev.steps jv_i124 2 (pc' := 10) (l' := [(0, .int p3), (1, .int p4)]) (st' := [.int p3, .int p4]) rfl ?_
  refine jv_Ev.c jv_i124 (pc' := 13) (S' := [.int ((p3 + (7 : Int32)) &&& (-8 : Int32)), .int p4]) jv_i120 [.int p3] rfl rfl rfl rfl rfl rfl (jx_e840 p0 p1 p2 p3 p4 p5 g1 g2 g3 g4 g5 g6 g7 g8 g9) rfl rfl ?_
  refine jv_Ev.steps jv_i124 1 (pc' := 14) (l' := [(0, .int p3), (1, .int p4)]) (st' := [.int (p4 * ((p3 + (7 : Int32)) &&& (-8 : Int32)))]) rfl ?_
  exact jv_Ev.ret jv_i124 rfl rfl

set_option maxRecDepth 100000 in
/-- ProgramBox$Store.filledUp -/
theorem jx_e842 (p0 : Int32) (p1 : Int32) (p2 : Int32) (p3 : Int32) (p4 : Int32) (p5 : Int32) (g1 : ¬ p1 = (2 : Int32)) (g2 : p1 = (0 : Int32)) (g3 : p2 = (4 : Int32)) (g4 : ¬ p3 < (1 : Int32)) (g5 : ¬ (256 : Int32) < p3) (g6 : ¬ p4 < (1 : Int32)) (g7 : ¬ (4096 : Int32) < p4) (g8 : ¬ p3 = (0 : Int32)) (g9 : ¬ (65536 : Int32) < (p4 * ((p3 + (7 : Int32)) &&& (-8 : Int32)))) : jv_Ms 120 [.int p3] (jv_H (jx_kp (jx_K 227) 227 0 7) (jv_u (jv_u (jv_u (jv_u (jv_u jx_If 227 0 (0 : Int32)) 227 1 p2) 227 2 p3) 227 3 p4) 227 5 (0 : Int32)) jx_L0 (jv_u (jx_R 227) 227 4 (.ref 6))) 228 1572957 (some (.int ((p3 + (7 : Int32)) &&& (-8 : Int32))), (jv_H (jx_kp (jx_K 227) 227 0 7) (jv_u (jv_u (jv_u (jv_u (jv_u jx_If 227 0 (0 : Int32)) 227 1 p2) 227 2 p3) 227 3 p4) 227 5 (0 : Int32)) jx_L0 (jv_u (jx_R 227) 227 4 (.ref 6))), 228, 1572957) := by
  show jv_Ev 120 0 [(0, .int p3)] [] (jv_H (jx_kp (jx_K 227) 227 0 7) (jv_u (jv_u (jv_u (jv_u (jv_u jx_If 227 0 (0 : Int32)) 227 1 p2) 227 2 p3) 227 3 p4) 227 5 (0 : Int32)) jx_L0 (jv_u (jx_R 227) 227 4 (.ref 6))) 228 1572957 _
  refine jv_Ev.steps jv_i120 5 (pc' := 7) (l' := [(0, .int p3)]) (st' := [.int ((p3 + (7 : Int32)) &&& (-8 : Int32))]) rfl ?_
  exact jv_Ev.ret jv_i120 rfl rfl

set_option maxRecDepth 100000 in
/-- ProgramBox$BoxMap.<init> -/
theorem jx_e843 (p0 : Int32) (p1 : Int32) (p2 : Int32) (p3 : Int32) (p4 : Int32) (p5 : Int32) (g1 : ¬ p1 = (2 : Int32)) (g2 : p1 = (0 : Int32)) (g3 : p2 = (4 : Int32)) (g4 : ¬ p3 < (1 : Int32)) (g5 : ¬ (256 : Int32) < p3) (g6 : ¬ p4 < (1 : Int32)) (g7 : ¬ (4096 : Int32) < p4) (g8 : ¬ p3 = (0 : Int32)) (g9 : ¬ (65536 : Int32) < (p4 * ((p3 + (7 : Int32)) &&& (-8 : Int32)))) : jv_Ms 10 [.ref 227, .int (0 : Int32), .int p2, .int p3, .int p4, .ref 6, .int (0 : Int32)] (jv_H (jx_kp (jx_K 227) 227 0 7) jx_If jx_L0 (jx_R 227)) 228 1572957 (none, (jv_H (jx_kp (jx_K 227) 227 0 7) (jv_u (jv_u (jv_u (jv_u (jv_u (jv_u jx_If 227 0 (0 : Int32)) 227 1 p2) 227 2 p3) 227 3 p4) 227 5 (0 : Int32)) 227 6 ((p3 + (7 : Int32)) &&& (-8 : Int32))) jx_L0 (jv_u (jx_R 227) 227 4 (.ref 6))), 228, 1572957) := by
  show jv_Ev 10 0 [(0, .ref 227), (1, .int (0 : Int32)), (2, .int p2), (3, .int p3), (4, .int p4), (5, .ref 6), (6, .int (0 : Int32))] [] (jv_H (jx_kp (jx_K 227) 227 0 7) jx_If jx_L0 (jx_R 227)) 228 1572957 _
  refine jv_Ev.steps jv_i10 1 (pc' := 1) (l' := [(0, .ref 227), (1, .int (0 : Int32)), (2, .int p2), (3, .int p3), (4, .int p4), (5, .ref 6), (6, .int (0 : Int32))]) (st' := [.ref 227]) rfl ?_
  refine jv_Ev.obj jv_i10 rfl rfl ?_
  refine jv_Ev.steps jv_i10 2 (pc' := 6) (l' := [(0, .ref 227), (1, .int (0 : Int32)), (2, .int p2), (3, .int p3), (4, .int p4), (5, .ref 6), (6, .int (0 : Int32))]) (st' := [.int (0 : Int32), .ref 227]) rfl ?_
  refine jv_Ev.m jv_i10 (pc' := 9) (st' := []) rfl rfl (jv_m_putI rfl rfl rfl rfl rfl) ?_
  refine jv_Ev.steps jv_i10 2 (pc' := 11) (l' := [(0, .ref 227), (1, .int (0 : Int32)), (2, .int p2), (3, .int p3), (4, .int p4), (5, .ref 6), (6, .int (0 : Int32))]) (st' := [.int p2, .ref 227]) rfl ?_
  refine jv_Ev.m jv_i10 (pc' := 14) (st' := []) rfl rfl (jv_m_putI rfl rfl rfl rfl rfl) ?_
  refine jv_Ev.steps jv_i10 2 (pc' := 16) (l' := [(0, .ref 227), (1, .int (0 : Int32)), (2, .int p2), (3, .int p3), (4, .int p4), (5, .ref 6), (6, .int (0 : Int32))]) (st' := [.int p3, .ref 227]) rfl ?_
  refine jv_Ev.m jv_i10 (pc' := 19) (st' := []) rfl rfl (jv_m_putI rfl rfl rfl rfl rfl) ?_
  refine jv_Ev.steps jv_i10 2 (pc' := 22) (l' := [(0, .ref 227), (1, .int (0 : Int32)), (2, .int p2), (3, .int p3), (4, .int p4), (5, .ref 6), (6, .int (0 : Int32))]) (st' := [.int p4, .ref 227]) rfl ?_
  refine jv_Ev.m jv_i10 (pc' := 25) (st' := []) rfl rfl (jv_m_putI rfl rfl rfl rfl rfl) ?_
  refine jv_Ev.steps jv_i10 2 (pc' := 28) (l' := [(0, .ref 227), (1, .int (0 : Int32)), (2, .int p2), (3, .int p3), (4, .int p4), (5, .ref 6), (6, .int (0 : Int32))]) (st' := [.ref 6, .ref 227]) rfl ?_
  refine jv_Ev.m jv_i10 (pc' := 31) (st' := []) rfl rfl (jv_m_putR rfl rfl rfl rfl rfl) ?_
  refine jv_Ev.steps jv_i10 2 (pc' := 34) (l' := [(0, .ref 227), (1, .int (0 : Int32)), (2, .int p2), (3, .int p3), (4, .int p4), (5, .ref 6), (6, .int (0 : Int32))]) (st' := [.int (0 : Int32), .ref 227]) rfl ?_
  refine jv_Ev.m jv_i10 (pc' := 37) (st' := []) rfl rfl (jv_m_putI rfl rfl rfl rfl rfl) ?_
  refine jv_Ev.steps jv_i10 2 (pc' := 39) (l' := [(0, .ref 227), (1, .int (0 : Int32)), (2, .int p2), (3, .int p3), (4, .int p4), (5, .ref 6), (6, .int (0 : Int32))]) (st' := [.int p3, .ref 227]) rfl ?_
  refine jv_Ev.c jv_i10 (pc' := 42) (S' := [.int ((p3 + (7 : Int32)) &&& (-8 : Int32)), .ref 227]) jv_i120 [.int p3] rfl rfl rfl rfl rfl rfl (jx_e842 p0 p1 p2 p3 p4 p5 g1 g2 g3 g4 g5 g6 g7 g8 g9) rfl rfl ?_
  refine jv_Ev.m jv_i10 (pc' := 45) (st' := []) rfl rfl (jv_m_putI rfl rfl rfl rfl rfl) ?_
  exact jv_Ev.ret jv_i10 rfl rfl

noncomputable def jx_J1 (p0 : Int32) (p1 : Int32) (p2 : Int32) (p3 : Int32) (p4 : Int32) (p5 : Int32) : Nat → Nat → Int32 := Classical.epsilon (fun J => jx_dlP (jx_kp (jx_K 227) 227 0 7) jx_L0 (jv_u (jx_R 227) 227 4 (.ref 6)) 227 p3 p4 p1 (jv_u (jv_u (jv_u (jv_u (jv_u (jv_u jx_If 227 0 (0 : Int32)) 227 1 p2) 227 2 p3) 227 3 p4) 227 5 (0 : Int32)) 227 6 ((p3 + (7 : Int32)) &&& (-8 : Int32))) J)
set_option maxRecDepth 100000 in
theorem jx_J1_ok (p0 : Int32) (p1 : Int32) (p2 : Int32) (p3 : Int32) (p4 : Int32) (p5 : Int32) (g1 : ¬ p1 = (2 : Int32)) (g2 : p1 = (0 : Int32)) (g3 : p2 = (4 : Int32)) (g4 : ¬ p3 < (1 : Int32)) (g5 : ¬ (256 : Int32) < p3) (g6 : ¬ p4 < (1 : Int32)) (g7 : ¬ (4096 : Int32) < p4) (g8 : ¬ p3 = (0 : Int32)) (g9 : ¬ (65536 : Int32) < (p4 * ((p3 + (7 : Int32)) &&& (-8 : Int32)))) : jx_dlP (jx_kp (jx_K 227) 227 0 7) jx_L0 (jv_u (jx_R 227) 227 4 (.ref 6)) 227 p3 p4 p1 (jv_u (jv_u (jv_u (jv_u (jv_u (jv_u jx_If 227 0 (0 : Int32)) 227 1 p2) 227 2 p3) 227 3 p4) 227 5 (0 : Int32)) 227 6 ((p3 + (7 : Int32)) &&& (-8 : Int32))) (jx_J1 p0 p1 p2 p3 p4 p5) := Classical.epsilon_spec (jx_dl (kd := 0) (len := 7) rfl rfl rfl rfl rfl (fun _ _ => jv_cal rfl (jv_H_at rfl) rfl rfl) (by decide) rfl rfl rfl rfl rfl (by rw [g2] <;> decide) g4 g5 g6 g7 g9 _ rfl rfl)
set_option maxRecDepth 100000 in
/-- ProgramBox$Store.filledUp -/
theorem jx_e844 (p0 : Int32) (p1 : Int32) (p2 : Int32) (p3 : Int32) (p4 : Int32) (p5 : Int32) (g1 : ¬ p1 = (2 : Int32)) (g2 : p1 = (0 : Int32)) (g3 : p2 = (4 : Int32)) (g4 : ¬ p3 < (1 : Int32)) (g5 : ¬ (256 : Int32) < p3) (g6 : ¬ p4 < (1 : Int32)) (g7 : ¬ (4096 : Int32) < p4) (g8 : ¬ p3 = (0 : Int32)) (g9 : ¬ (65536 : Int32) < (p4 * ((p3 + (7 : Int32)) &&& (-8 : Int32)))) : jv_Ms 120 [.int p3] (jv_H (jx_kp (jx_K 227) 227 0 7) (jx_J1 p0 p1 p2 p3 p4 p5) jx_L0 (jv_u (jx_R 227) 227 4 (.ref 6))) 228 1572957 (some (.int ((p3 + (7 : Int32)) &&& (-8 : Int32))), (jv_H (jx_kp (jx_K 227) 227 0 7) (jx_J1 p0 p1 p2 p3 p4 p5) jx_L0 (jv_u (jx_R 227) 227 4 (.ref 6))), 228, 1572957) := by
  show jv_Ev 120 0 [(0, .int p3)] [] (jv_H (jx_kp (jx_K 227) 227 0 7) (jx_J1 p0 p1 p2 p3 p4 p5) jx_L0 (jv_u (jx_R 227) 227 4 (.ref 6))) 228 1572957 _
  refine jv_Ev.steps jv_i120 5 (pc' := 7) (l' := [(0, .int p3)]) (st' := [.int ((p3 + (7 : Int32)) &&& (-8 : Int32))]) rfl ?_
  exact jv_Ev.ret jv_i120 rfl rfl

set_option maxRecDepth 100000 in
/-- ProgramBox$Store.bytesOf -/
theorem jx_e845 (p0 : Int32) (p1 : Int32) (p2 : Int32) (p3 : Int32) (p4 : Int32) (p5 : Int32) (g1 : ¬ p1 = (2 : Int32)) (g2 : p1 = (0 : Int32)) (g3 : p2 = (4 : Int32)) (g4 : ¬ p3 < (1 : Int32)) (g5 : ¬ (256 : Int32) < p3) (g6 : ¬ p4 < (1 : Int32)) (g7 : ¬ (4096 : Int32) < p4) (g8 : ¬ p3 = (0 : Int32)) (g9 : ¬ (65536 : Int32) < (p4 * ((p3 + (7 : Int32)) &&& (-8 : Int32)))) : jv_Ms 124 [.int p3, .int p4] (jv_H (jx_kp (jx_K 227) 227 0 7) (jx_J1 p0 p1 p2 p3 p4 p5) jx_L0 (jv_u (jx_R 227) 227 4 (.ref 6))) 228 1572957 (some (.int (p4 * ((p3 + (7 : Int32)) &&& (-8 : Int32)))), (jv_H (jx_kp (jx_K 227) 227 0 7) (jx_J1 p0 p1 p2 p3 p4 p5) jx_L0 (jv_u (jx_R 227) 227 4 (.ref 6))), 228, 1572957) := by
  show jv_Ev 124 0 [(0, .int p3), (1, .int p4)] [] (jv_H (jx_kp (jx_K 227) 227 0 7) (jx_J1 p0 p1 p2 p3 p4 p5) jx_L0 (jv_u (jx_R 227) 227 4 (.ref 6))) 228 1572957 _
  refine jv_Ev.steps jv_i124 1 (pc' := 1) (l' := [(0, .int p3), (1, .int p4)]) (st' := [.int p3]) rfl ?_
  refine jv_Ev.br jv_i124 (pc' := 8) (st' := []) rfl (jv_bi_ne.trans (jx_got g8)) ?_
  refine jv_Ev.steps jv_i124 2 (pc' := 10) (l' := [(0, .int p3), (1, .int p4)]) (st' := [.int p3, .int p4]) rfl ?_
  refine jv_Ev.c jv_i124 (pc' := 13) (S' := [.int ((p3 + (7 : Int32)) &&& (-8 : Int32)), .int p4]) jv_i120 [.int p3] rfl rfl rfl rfl rfl rfl (jx_e844 p0 p1 p2 p3 p4 p5 g1 g2 g3 g4 g5 g6 g7 g8 g9) rfl rfl ?_
  refine jv_Ev.steps jv_i124 1 (pc' := 14) (l' := [(0, .int p3), (1, .int p4)]) (st' := [.int (p4 * ((p3 + (7 : Int32)) &&& (-8 : Int32)))]) rfl ?_
  exact jv_Ev.ret jv_i124 rfl rfl

set_option maxRecDepth 100000 in
/-- ProgramBox$Store.addMap -/
theorem jx_e846 (p0 : Int32) (p1 : Int32) (p2 : Int32) (p3 : Int32) (p4 : Int32) (p5 : Int32) (g1 : ¬ p1 = (2 : Int32)) (g2 : p1 = (0 : Int32)) (g3 : p2 = (4 : Int32)) (g4 : ¬ p3 < (1 : Int32)) (g5 : ¬ (256 : Int32) < p3) (g6 : ¬ p4 < (1 : Int32)) (g7 : ¬ (4096 : Int32) < p4) (g8 : ¬ p3 = (0 : Int32)) (g9 : ¬ (65536 : Int32) < (p4 * ((p3 + (7 : Int32)) &&& (-8 : Int32)))) : jv_Ms 125 [.ref 2, .int p1, .int p2, .int p3, .int p4] (jv_H (jx_K 227) jx_If jx_L0 (jx_R 227)) 227 1572950 (some (.int (0 : Int32)), (jv_H (jx_kp (jx_K 227) 227 0 7) (jv_u (jv_u (jx_J1 p0 p1 p2 p3 p4 p5) 2 5 ((0 : Int32) + (p4 * ((p3 + (7 : Int32)) &&& (-8 : Int32))))) 2 7 (1 : Int32)) jx_L0 (jv_u (jv_u (jx_R 227) 227 4 (.ref 6)) 7 (0 : Int32).toNatClampNeg (.ref 227))), 228, 1572957) := by
  show jv_Ev 125 0 [(0, .ref 2), (1, .int p1), (2, .int p2), (3, .int p3), (4, .int p4)] [] (jv_H (jx_K 227) jx_If jx_L0 (jx_R 227)) 227 1572950 _
  refine jv_Ev.steps jv_i125 2 (pc' := 2) (l' := [(0, .ref 2), (1, .int p1), (2, .int p2), (3, .int p3), (4, .int p4)]) (st' := [.int (2 : Int32), .int p1]) rfl ?_
  refine jv_Ev.br jv_i125 (pc' := 27) (st' := []) rfl (jv_bc_ne.trans (jx_got (by rw [g2] <;> decide))) ?_
  refine jv_Ev.steps jv_i125 2 (pc' := 29) (l' := [(0, .ref 2), (1, .int p1), (2, .int p2), (3, .int p3), (4, .int p4)]) (st' := [.int (1 : Int32), .int p1]) rfl ?_
  refine jv_Ev.br jv_i125 (pc' := 56) (st' := []) rfl (jv_bc_ne.trans (jx_got (by rw [g2] <;> decide))) ?_
  refine jx_Ev_newk jv_i125 (pc' := 59) (n' := 228) (sl' := 1572957) (k := 0) (ln := 7) (kk := 7) (st' := [.ref 227]) rfl rfl (jx_fo 0 rfl (fun _ => rfl) (fun _ => rfl) (fun _ => rfl)) rfl rfl rfl rfl ?_
  refine jv_Ev.steps jv_i125 6 (pc' := 66) (l' := [(0, .ref 2), (1, .int p1), (2, .int p2), (3, .int p3), (4, .int p4)]) (st' := [.ref 2, .int p4, .int p3, .int p2, .int (0 : Int32), .ref 227, .ref 227]) rfl ?_
  refine jv_Ev.m jv_i125 (pc' := 69) (st' := [.ref 6, .int p4, .int p3, .int p2, .int (0 : Int32), .ref 227, .ref 227]) rfl rfl (jv_m_getR rfl rfl rfl rfl) ?_
  refine jv_Ev.steps jv_i125 1 (pc' := 70) (l' := [(0, .ref 2), (1, .int p1), (2, .int p2), (3, .int p3), (4, .int p4)]) (st' := [.ref 2, .ref 6, .int p4, .int p3, .int p2, .int (0 : Int32), .ref 227, .ref 227]) rfl ?_
  refine jv_Ev.m jv_i125 (pc' := 73) (st' := [.int (0 : Int32), .ref 6, .int p4, .int p3, .int p2, .int (0 : Int32), .ref 227, .ref 227]) rfl rfl (jv_m_getI rfl rfl rfl rfl) ?_
  refine jv_Ev.c jv_i125 (pc' := 76) (S' := [.ref 227]) jv_i10 [.ref 227, .int (0 : Int32), .int p2, .int p3, .int p4, .ref 6, .int (0 : Int32)] rfl rfl rfl rfl (by rfl) rfl (jx_e843 p0 p1 p2 p3 p4 p5 g1 g2 g3 g4 g5 g6 g7 g8 g9) rfl rfl ?_
  refine jv_Ev.steps jv_i125 3 (pc' := 81) (l' := [(6, .int (0 : Int32)), (5, .ref 227), (0, .ref 2), (1, .int p1), (2, .int p2), (3, .int p3), (4, .int p4)]) (st' := []) rfl ?_
  refine jv_Ev.loc (l := [(0, .ref 2), (1, .int p1), (3, .int p3), (4, .int p4), (5, .ref 227), (6, .int (0 : Int32))]) ⟨List.forall_mem_cons.mpr ⟨.tail _ (.tail _ (.head _)), List.forall_mem_cons.mpr ⟨.tail _ (.tail _ (.tail _ (.head _))), List.forall_mem_cons.mpr ⟨.tail _ (.tail _ (.tail _ (.tail _ (.tail _ (.head _))))), List.forall_mem_cons.mpr ⟨.tail _ (.tail _ (.tail _ (.tail _ (.tail _ (.tail _ (.head _)))))), List.forall_mem_cons.mpr ⟨.tail _ (.head _), List.forall_mem_cons.mpr ⟨.head _, fun _ h => absurd h List.not_mem_nil⟩⟩⟩⟩⟩⟩, by show List.Nodup [6, 5, 0, 1, 2, 3, 4]; decide⟩ ?_
  refine (jx_J1_ok p0 p1 p2 p3 p4 p5 g1 g2 g3 g4 g5 g6 g7 g8 g9).2 _ _ _ ?_
  refine jv_Ev.steps jv_i125 2 (pc' := 164) (l' := [(0, .ref 2), (3, .int p3), (4, .int p4), (5, .ref 227)]) (st' := [.ref 2, .ref 2]) rfl ?_
  refine jv_Ev.m jv_i125 (pc' := 167) (st' := [.int (0 : Int32), .ref 2]) rfl rfl (jv_m_getI rfl rfl rfl (((jx_J1_ok p0 p1 p2 p3 p4 p5 g1 g2 g3 g4 g5 g6 g7 g8 g9).1 2 5 (by decide) (by decide)).trans rfl)) ?_
  refine jv_Ev.steps jv_i125 2 (pc' := 170) (l' := [(0, .ref 2), (3, .int p3), (4, .int p4), (5, .ref 227)]) (st' := [.int p4, .int p3, .int (0 : Int32), .ref 2]) rfl ?_
  refine jv_Ev.c jv_i125 (pc' := 173) (S' := [.int (p4 * ((p3 + (7 : Int32)) &&& (-8 : Int32))), .int (0 : Int32), .ref 2]) jv_i124 [.int p3, .int p4] rfl rfl rfl rfl rfl rfl (jx_e845 p0 p1 p2 p3 p4 p5 g1 g2 g3 g4 g5 g6 g7 g8 g9) rfl rfl ?_
  refine jv_Ev.steps jv_i125 1 (pc' := 174) (l' := [(0, .ref 2), (3, .int p3), (4, .int p4), (5, .ref 227)]) (st' := [.int ((0 : Int32) + (p4 * ((p3 + (7 : Int32)) &&& (-8 : Int32)))), .ref 2]) rfl ?_
  refine jv_Ev.m jv_i125 (pc' := 177) (st' := []) rfl rfl (jv_m_putI rfl rfl rfl rfl rfl) ?_
  refine jv_Ev.steps jv_i125 1 (pc' := 178) (l' := [(0, .ref 2), (3, .int p3), (4, .int p4), (5, .ref 227)]) (st' := [.ref 2]) rfl ?_
  refine jv_Ev.m jv_i125 (pc' := 181) (st' := [.ref 7]) rfl rfl (jv_m_getR rfl rfl rfl rfl) ?_
  refine jv_Ev.steps jv_i125 1 (pc' := 182) (l' := [(0, .ref 2), (3, .int p3), (4, .int p4), (5, .ref 227)]) (st' := [.ref 2, .ref 7]) rfl ?_
  refine jv_Ev.m jv_i125 (pc' := 185) (st' := [.int (0 : Int32), .ref 7]) rfl rfl (jv_m_getI rfl rfl rfl (((jx_J1_ok p0 p1 p2 p3 p4 p5 g1 g2 g3 g4 g5 g6 g7 g8 g9).1 2 7 (by decide) (by decide)).trans rfl)) ?_
  refine jv_Ev.steps jv_i125 1 (pc' := 187) (l' := [(0, .ref 2), (3, .int p3), (4, .int p4), (5, .ref 227)]) (st' := [.ref 227, .int (0 : Int32), .ref 7]) rfl ?_
  refine jv_Ev.m jv_i125 (pc' := 188) (st' := []) rfl rfl (jv_m_aast rfl rfl rfl rfl rfl rfl (by decide)) ?_
  refine jv_Ev.steps jv_i125 2 (pc' := 190) (l' := [(0, .ref 2), (3, .int p3), (4, .int p4), (5, .ref 227)]) (st' := [.ref 2, .ref 2]) rfl ?_
  refine jv_Ev.m jv_i125 (pc' := 193) (st' := [.int (0 : Int32), .ref 2]) rfl rfl (jv_m_getI rfl rfl rfl (((jx_J1_ok p0 p1 p2 p3 p4 p5 g1 g2 g3 g4 g5 g6 g7 g8 g9).1 2 7 (by decide) (by decide)).trans rfl)) ?_
  refine jv_Ev.steps jv_i125 2 (pc' := 195) (l' := [(0, .ref 2), (3, .int p3), (4, .int p4), (5, .ref 227)]) (st' := [.int (1 : Int32), .ref 2]) rfl ?_
  refine jv_Ev.m jv_i125 (pc' := 198) (st' := []) rfl rfl (jv_m_putI rfl rfl rfl rfl rfl) ?_
  refine jv_Ev.steps jv_i125 1 (pc' := 199) (l' := [(0, .ref 2), (3, .int p3), (4, .int p4), (5, .ref 227)]) (st' := [.ref 2]) rfl ?_
  refine jv_Ev.m jv_i125 (pc' := 202) (st' := [.int (1 : Int32)]) rfl rfl (jv_m_getI rfl rfl rfl rfl) ?_
  refine jv_Ev.steps jv_i125 2 (pc' := 204) (l' := [(0, .ref 2), (3, .int p3), (4, .int p4), (5, .ref 227)]) (st' := [.int (0 : Int32)]) rfl ?_
  exact jv_Ev.ret jv_i125 rfl rfl

set_option maxRecDepth 100000 in
/-- ProgramBox.make -/
theorem jx_e847 (p0 : Int32) (p1 : Int32) (p2 : Int32) (p3 : Int32) (p4 : Int32) (p5 : Int32) (g1 : ¬ p1 = (2 : Int32)) (g2 : p1 = (0 : Int32)) (g3 : p2 = (4 : Int32)) (g4 : ¬ p3 < (1 : Int32)) (g5 : ¬ (256 : Int32) < p3) (g6 : ¬ p4 < (1 : Int32)) (g7 : ¬ (4096 : Int32) < p4) (g8 : ¬ p3 = (0 : Int32)) (g9 : ¬ (65536 : Int32) < (p4 * ((p3 + (7 : Int32)) &&& (-8 : Int32)))) : jv_Ms 420 [.ref 0, .int p1, .int p2, .int p3, .int p4] (jv_H (jx_K 227) jx_If jx_L0 (jx_R 227)) 227 1572950 (some (.int (0 : Int32)), (jv_H (jx_kp (jx_K 227) 227 0 7) (jv_u (jv_u (jx_J1 p0 p1 p2 p3 p4 p5) 2 5 ((0 : Int32) + (p4 * ((p3 + (7 : Int32)) &&& (-8 : Int32))))) 2 7 (1 : Int32)) jx_L0 (jv_u (jv_u (jx_R 227) 227 4 (.ref 6)) 7 (0 : Int32).toNatClampNeg (.ref 227))), 228, 1572957) := by
  show jv_Ev 420 0 [(0, .ref 0), (1, .int p1), (2, .int p2), (3, .int p3), (4, .int p4)] [] (jv_H (jx_K 227) jx_If jx_L0 (jx_R 227)) 227 1572950 _
  refine jv_Ev.steps jv_i420 4 (pc' := 5) (l' := [(0, .ref 0), (1, .int p1), (2, .int p2), (3, .int p3), (4, .int p4)]) (st' := [.int p4, .int p3, .int p2, .int p1]) rfl ?_
  refine jv_Ev.c jv_i420 (pc' := 8) (S' := [.int (1 : Int32)]) jv_i123 [.int p1, .int p2, .int p3, .int p4] rfl rfl rfl rfl rfl rfl (jx_e839 p0 p1 p2 p3 p4 p5 g1 g2 g3 g4 g5 g6 g7 g8 g9) rfl rfl ?_
  refine jv_Ev.br jv_i420 (pc' := 21) (st' := []) rfl (jv_bi_ne.trans (jx_got (by decide))) ?_
  refine jv_Ev.steps jv_i420 1 (pc' := 22) (l' := [(0, .ref 0), (1, .int p1), (2, .int p2), (3, .int p3), (4, .int p4)]) (st' := [.ref 0]) rfl ?_
  refine jv_Ev.m jv_i420 (pc' := 25) (st' := [.ref 2]) rfl rfl (jv_m_getR rfl rfl rfl rfl) ?_
  refine jv_Ev.m jv_i420 (pc' := 28) (st' := [.int (0 : Int32)]) rfl rfl (jv_m_getI rfl rfl rfl rfl) ?_
  refine jv_Ev.steps jv_i420 1 (pc' := 30) (l' := [(0, .ref 0), (1, .int p1), (2, .int p2), (3, .int p3), (4, .int p4)]) (st' := [.int (8 : Int32), .int (0 : Int32)]) rfl ?_
  refine jv_Ev.br jv_i420 (pc' := 33) (st' := []) rfl (jv_bc_ge.trans (jx_gof (by decide))) ?_
  refine jv_Ev.steps jv_i420 2 (pc' := 36) (l' := [(0, .ref 0), (1, .int p1), (2, .int p2), (3, .int p3), (4, .int p4)]) (st' := [.int p4, .int p3]) rfl ?_
  refine jv_Ev.c jv_i420 (pc' := 39) (S' := [.int (p4 * ((p3 + (7 : Int32)) &&& (-8 : Int32)))]) jv_i124 [.int p3, .int p4] rfl rfl rfl rfl rfl rfl (jx_e841 p0 p1 p2 p3 p4 p5 g1 g2 g3 g4 g5 g6 g7 g8 g9) rfl rfl ?_
  refine jv_Ev.steps jv_i420 2 (pc' := 42) (l' := [(0, .ref 0), (1, .int p1), (2, .int p2), (3, .int p3), (4, .int p4)]) (st' := [.ref 0, .int (65536 : Int32), .int (p4 * ((p3 + (7 : Int32)) &&& (-8 : Int32)))]) rfl ?_
  refine jv_Ev.m jv_i420 (pc' := 45) (st' := [.ref 2, .int (65536 : Int32), .int (p4 * ((p3 + (7 : Int32)) &&& (-8 : Int32)))]) rfl rfl (jv_m_getR rfl rfl rfl rfl) ?_
  refine jv_Ev.m jv_i420 (pc' := 48) (st' := [.int (0 : Int32), .int (65536 : Int32), .int (p4 * ((p3 + (7 : Int32)) &&& (-8 : Int32)))]) rfl rfl (jv_m_getI rfl rfl rfl rfl) ?_
  refine jv_Ev.steps jv_i420 1 (pc' := 49) (l' := [(0, .ref 0), (1, .int p1), (2, .int p2), (3, .int p3), (4, .int p4)]) (st' := [.int (65536 : Int32), .int (p4 * ((p3 + (7 : Int32)) &&& (-8 : Int32)))]) rfl ?_
  refine jv_Ev.br jv_i420 (pc' := 62) (st' := []) rfl (jv_bc_le.trans (jx_got (Int32.not_lt.mp g9))) ?_
  refine jv_Ev.steps jv_i420 1 (pc' := 63) (l' := [(0, .ref 0), (1, .int p1), (2, .int p2), (3, .int p3), (4, .int p4)]) (st' := [.ref 0]) rfl ?_
  refine jv_Ev.m jv_i420 (pc' := 66) (st' := [.ref 2]) rfl rfl (jv_m_getR rfl rfl rfl rfl) ?_
  refine jv_Ev.steps jv_i420 4 (pc' := 71) (l' := [(0, .ref 0), (1, .int p1), (2, .int p2), (3, .int p3), (4, .int p4)]) (st' := [.int p4, .int p3, .int p2, .int p1, .ref 2]) rfl ?_
  refine jv_Ev.c jv_i420 (pc' := 74) (S' := [.int (0 : Int32)]) jv_i125 [.ref 2, .int p1, .int p2, .int p3, .int p4] rfl rfl rfl rfl (jv_cal rfl (jv_H_at rfl) rfl rfl) rfl (jx_e846 p0 p1 p2 p3 p4 p5 g1 g2 g3 g4 g5 g6 g7 g8 g9) rfl rfl ?_
  exact jv_Ev.ret jv_i420 rfl rfl

set_option maxRecDepth 100000 in
/-- the law's make -/
theorem jx_w848 (hTb : jv_TOk jv_Tb) (hT2 : jx_T2Ok) (p0 : Int32) (p1 : Int32) (p2 : Int32) (p3 : Int32) (p4 : Int32) (p5 : Int32) (g1 : ¬ p1 = (2 : Int32)) (g2 : p1 = (0 : Int32)) (g3 : p2 = (4 : Int32)) (g4 : ¬ p3 < (1 : Int32)) (g5 : ¬ (256 : Int32) < p3) (g6 : ¬ p4 < (1 : Int32)) (g7 : ¬ (4096 : Int32) < p4) (g8 : ¬ p3 = (0 : Int32)) (g9 : ¬ (65536 : Int32) < (p4 * ((p3 + (7 : Int32)) &&& (-8 : Int32)))) : jx_Wr 442 [(0, 14, 17, 19), (0, 14, 21, 13)] [.ref 0, .int p1, .int p2, .int p3, .int p4, .ref 226] (jv_H (jx_K 227) jx_If jx_L0 (jx_R 227)) 227 1572950 (some (.int (0 : Int32)), (jv_H (jx_kp (jx_K 227) 227 0 7) (jv_u (jv_u (jx_J1 p0 p1 p2 p3 p4 p5) 2 5 ((0 : Int32) + (p4 * ((p3 + (7 : Int32)) &&& (-8 : Int32))))) 2 7 (1 : Int32)) (jv_u jx_L0 226 (0 : Int32).toNatClampNeg (0 : Int64)) (jv_u (jv_u (jx_R 227) 227 4 (.ref 6)) 7 (0 : Int32).toNatClampNeg (.ref 227))), 228, 1572957) := by
  refine jx_Wr.of hT2 (by decide) rfl (Nat.le_of_ble_eq_true rfl) ?_
  intro p l e R s m args below meth c E hl F hZ htb hRc hRs
  show jw p l e R s m args below meth c E 7 227 1572950 _ 0 [(0, .ref 0), (1, .int p1), (2, .int p2), (3, .int p3), (4, .int p4), (5, .ref 226)] [] (jv_H (jx_K 227) jx_If jx_L0 (jx_R 227)) 227 1572950
  have hRc : R.cells = 228 - 227 := hRc
  have hRs : R.slots = 1572957 - 1572950 := hRs
  refine jw.steps F jx_i442 7 (pc' := 9) (l' := [(0, .ref 0), (1, .int p1), (2, .int p2), (3, .int p3), (4, .int p4), (5, .ref 226)]) (st' := [.int p4, .int p3, .int p2, .int p1, .ref 0, .int (0 : Int32), .ref 226]) rfl ?_
  refine jw.ca hTb F jx_i442 (pc' := 12) (S' := [.int (0 : Int32), .int (0 : Int32), .ref 226]) rfl jv_i420 [.ref 0, .int p1, .int p2, .int p3, .int p4] rfl rfl rfl rfl (jx_cal2 rfl (jv_H_at rfl) rfl rfl) rfl (jx_e847 p0 p1 p2 p3 p4 p5 g1 g2 g3 g4 g5 g6 g7 g8 g9) (by omega) (by omega) rfl rfl ?_
  refine jw.steps F jx_i442 1 (pc' := 13) (l' := [(0, .ref 0), (1, .int p1), (2, .int p2), (3, .int p3), (4, .int p4), (5, .ref 226)]) (st' := [.long (0 : Int64), .int (0 : Int32), .ref 226]) rfl ?_
  refine jw.me F jx_i442 (pc' := 14) (st' := []) rfl rfl (jv_m_last rfl (by decide)) ?_
  refine jw.steps F jx_i442 2 (pc' := 26) (l' := [(0, .ref 0), (1, .int p1), (2, .int p2), (3, .int p3), (4, .int p4), (5, .ref 226)]) (st' := [.int (0 : Int32)]) rfl ?_
  exact jw.ret F jx_i442 rfl rfl

set_option maxRecDepth 100000 in
/-- ProgramBoxModel$Store.isIn -/
theorem jx_e849 (p0 : Int32) (p1 : Int32) (p2 : Int32) (p3 : Int32) (p4 : Int32) (p5 : Int32) (g1 : ¬ p1 = (2 : Int32)) (g2 : p1 = (0 : Int32)) (g3 : p2 = (4 : Int32)) (g4 : ¬ p3 < (1 : Int32)) (g5 : ¬ (256 : Int32) < p3) (g6 : ¬ p4 < (1 : Int32)) (g7 : ¬ (4096 : Int32) < p4) (g8 : ¬ p3 = (0 : Int32)) (g9 : ¬ (65536 : Int32) < (p4 * ((p3 + (7 : Int32)) &&& (-8 : Int32)))) : jv_Ms 320 [.int p3, .int (1 : Int32), .int (256 : Int32)] (jv_H (jx_kp (jx_K 227) 227 0 7) (jv_u (jv_u (jx_J1 p0 p1 p2 p3 p4 p5) 2 5 ((0 : Int32) + (p4 * ((p3 + (7 : Int32)) &&& (-8 : Int32))))) 2 7 (1 : Int32)) (jv_u jx_L0 226 (0 : Int32).toNatClampNeg (0 : Int64)) (jv_u (jv_u (jx_R 227) 227 4 (.ref 6)) 7 (0 : Int32).toNatClampNeg (.ref 227))) 228 1572957 (some (.int (1 : Int32)), (jv_H (jx_kp (jx_K 227) 227 0 7) (jv_u (jv_u (jx_J1 p0 p1 p2 p3 p4 p5) 2 5 ((0 : Int32) + (p4 * ((p3 + (7 : Int32)) &&& (-8 : Int32))))) 2 7 (1 : Int32)) (jv_u jx_L0 226 (0 : Int32).toNatClampNeg (0 : Int64)) (jv_u (jv_u (jx_R 227) 227 4 (.ref 6)) 7 (0 : Int32).toNatClampNeg (.ref 227))), 228, 1572957) := by
  show jv_Ev 320 0 [(0, .int p3), (1, .int (1 : Int32)), (2, .int (256 : Int32))] [] (jv_H (jx_kp (jx_K 227) 227 0 7) (jv_u (jv_u (jx_J1 p0 p1 p2 p3 p4 p5) 2 5 ((0 : Int32) + (p4 * ((p3 + (7 : Int32)) &&& (-8 : Int32))))) 2 7 (1 : Int32)) (jv_u jx_L0 226 (0 : Int32).toNatClampNeg (0 : Int64)) (jv_u (jv_u (jx_R 227) 227 4 (.ref 6)) 7 (0 : Int32).toNatClampNeg (.ref 227))) 228 1572957 _
  refine jv_Ev.steps jv_i320 2 (pc' := 2) (l' := [(0, .int p3), (1, .int (1 : Int32)), (2, .int (256 : Int32))]) (st' := [.int (1 : Int32), .int p3]) rfl ?_
  refine jv_Ev.br jv_i320 (pc' := 5) (st' := []) rfl (jv_bc_lt.trans (jx_gof g4)) ?_
  refine jv_Ev.steps jv_i320 2 (pc' := 7) (l' := [(0, .int p3), (1, .int (1 : Int32)), (2, .int (256 : Int32))]) (st' := [.int (256 : Int32), .int p3]) rfl ?_
  refine jv_Ev.br jv_i320 (pc' := 10) (st' := []) rfl (jv_bc_gt.trans (jx_gof g5)) ?_
  refine jv_Ev.steps jv_i320 2 (pc' := 15) (l' := [(0, .int p3), (1, .int (1 : Int32)), (2, .int (256 : Int32))]) (st' := [.int (1 : Int32)]) rfl ?_
  exact jv_Ev.ret jv_i320 rfl (jv_ret_b (by decide))

set_option maxRecDepth 100000 in
/-- ProgramBoxModel$Store.isIn -/
theorem jx_e850 (p0 : Int32) (p1 : Int32) (p2 : Int32) (p3 : Int32) (p4 : Int32) (p5 : Int32) (g1 : ¬ p1 = (2 : Int32)) (g2 : p1 = (0 : Int32)) (g3 : p2 = (4 : Int32)) (g4 : ¬ p3 < (1 : Int32)) (g5 : ¬ (256 : Int32) < p3) (g6 : ¬ p4 < (1 : Int32)) (g7 : ¬ (4096 : Int32) < p4) (g8 : ¬ p3 = (0 : Int32)) (g9 : ¬ (65536 : Int32) < (p4 * ((p3 + (7 : Int32)) &&& (-8 : Int32)))) : jv_Ms 320 [.int p4, .int (1 : Int32), .int (4096 : Int32)] (jv_H (jx_kp (jx_K 227) 227 0 7) (jv_u (jv_u (jx_J1 p0 p1 p2 p3 p4 p5) 2 5 ((0 : Int32) + (p4 * ((p3 + (7 : Int32)) &&& (-8 : Int32))))) 2 7 (1 : Int32)) (jv_u jx_L0 226 (0 : Int32).toNatClampNeg (0 : Int64)) (jv_u (jv_u (jx_R 227) 227 4 (.ref 6)) 7 (0 : Int32).toNatClampNeg (.ref 227))) 228 1572957 (some (.int (1 : Int32)), (jv_H (jx_kp (jx_K 227) 227 0 7) (jv_u (jv_u (jx_J1 p0 p1 p2 p3 p4 p5) 2 5 ((0 : Int32) + (p4 * ((p3 + (7 : Int32)) &&& (-8 : Int32))))) 2 7 (1 : Int32)) (jv_u jx_L0 226 (0 : Int32).toNatClampNeg (0 : Int64)) (jv_u (jv_u (jx_R 227) 227 4 (.ref 6)) 7 (0 : Int32).toNatClampNeg (.ref 227))), 228, 1572957) := by
  show jv_Ev 320 0 [(0, .int p4), (1, .int (1 : Int32)), (2, .int (4096 : Int32))] [] (jv_H (jx_kp (jx_K 227) 227 0 7) (jv_u (jv_u (jx_J1 p0 p1 p2 p3 p4 p5) 2 5 ((0 : Int32) + (p4 * ((p3 + (7 : Int32)) &&& (-8 : Int32))))) 2 7 (1 : Int32)) (jv_u jx_L0 226 (0 : Int32).toNatClampNeg (0 : Int64)) (jv_u (jv_u (jx_R 227) 227 4 (.ref 6)) 7 (0 : Int32).toNatClampNeg (.ref 227))) 228 1572957 _
  refine jv_Ev.steps jv_i320 2 (pc' := 2) (l' := [(0, .int p4), (1, .int (1 : Int32)), (2, .int (4096 : Int32))]) (st' := [.int (1 : Int32), .int p4]) rfl ?_
  refine jv_Ev.br jv_i320 (pc' := 5) (st' := []) rfl (jv_bc_lt.trans (jx_gof g6)) ?_
  refine jv_Ev.steps jv_i320 2 (pc' := 7) (l' := [(0, .int p4), (1, .int (1 : Int32)), (2, .int (4096 : Int32))]) (st' := [.int (4096 : Int32), .int p4]) rfl ?_
  refine jv_Ev.br jv_i320 (pc' := 10) (st' := []) rfl (jv_bc_gt.trans (jx_gof g7)) ?_
  refine jv_Ev.steps jv_i320 2 (pc' := 15) (l' := [(0, .int p4), (1, .int (1 : Int32)), (2, .int (4096 : Int32))]) (st' := [.int (1 : Int32)]) rfl ?_
  exact jv_Ev.ret jv_i320 rfl (jv_ret_b (by decide))

set_option maxRecDepth 100000 in
/-- ProgramBoxModel$Store.isProper -/
theorem jx_e851 (p0 : Int32) (p1 : Int32) (p2 : Int32) (p3 : Int32) (p4 : Int32) (p5 : Int32) (g1 : ¬ p1 = (2 : Int32)) (g2 : p1 = (0 : Int32)) (g3 : p2 = (4 : Int32)) (g4 : ¬ p3 < (1 : Int32)) (g5 : ¬ (256 : Int32) < p3) (g6 : ¬ p4 < (1 : Int32)) (g7 : ¬ (4096 : Int32) < p4) (g8 : ¬ p3 = (0 : Int32)) (g9 : ¬ (65536 : Int32) < (p4 * ((p3 + (7 : Int32)) &&& (-8 : Int32)))) : jv_Ms 322 [.int p1, .int p2, .int p3, .int p4] (jv_H (jx_kp (jx_K 227) 227 0 7) (jv_u (jv_u (jx_J1 p0 p1 p2 p3 p4 p5) 2 5 ((0 : Int32) + (p4 * ((p3 + (7 : Int32)) &&& (-8 : Int32))))) 2 7 (1 : Int32)) (jv_u jx_L0 226 (0 : Int32).toNatClampNeg (0 : Int64)) (jv_u (jv_u (jx_R 227) 227 4 (.ref 6)) 7 (0 : Int32).toNatClampNeg (.ref 227))) 228 1572957 (some (.int (1 : Int32)), (jv_H (jx_kp (jx_K 227) 227 0 7) (jv_u (jv_u (jx_J1 p0 p1 p2 p3 p4 p5) 2 5 ((0 : Int32) + (p4 * ((p3 + (7 : Int32)) &&& (-8 : Int32))))) 2 7 (1 : Int32)) (jv_u jx_L0 226 (0 : Int32).toNatClampNeg (0 : Int64)) (jv_u (jv_u (jx_R 227) 227 4 (.ref 6)) 7 (0 : Int32).toNatClampNeg (.ref 227))), 228, 1572957) := by
  show jv_Ev 322 0 [(0, .int p1), (1, .int p2), (2, .int p3), (3, .int p4)] [] (jv_H (jx_kp (jx_K 227) 227 0 7) (jv_u (jv_u (jx_J1 p0 p1 p2 p3 p4 p5) 2 5 ((0 : Int32) + (p4 * ((p3 + (7 : Int32)) &&& (-8 : Int32))))) 2 7 (1 : Int32)) (jv_u jx_L0 226 (0 : Int32).toNatClampNeg (0 : Int64)) (jv_u (jv_u (jx_R 227) 227 4 (.ref 6)) 7 (0 : Int32).toNatClampNeg (.ref 227))) 228 1572957 _
  refine jv_Ev.steps jv_i322 2 (pc' := 2) (l' := [(0, .int p1), (1, .int p2), (2, .int p3), (3, .int p4)]) (st' := [.int (2 : Int32), .int p1]) rfl ?_
  refine jv_Ev.br jv_i322 (pc' := 38) (st' := []) rfl (jv_bc_ne.trans (jx_got (by rw [g2] <;> decide))) ?_
  refine jv_Ev.steps jv_i322 1 (pc' := 39) (l' := [(0, .int p1), (1, .int p2), (2, .int p3), (3, .int p4)]) (st' := [.int p1]) rfl ?_
  refine jv_Ev.br jv_i322 (pc' := 42) (st' := []) rfl (jv_bi_ne.trans (jx_gof (by rw [g2] <;> decide))) ?_
  refine jv_Ev.steps jv_i322 2 (pc' := 44) (l' := [(0, .int p1), (1, .int p2), (2, .int p3), (3, .int p4)]) (st' := [.int (4 : Int32), .int p2]) rfl ?_
  refine jv_Ev.br jv_i322 (pc' := 47) (st' := []) rfl (jv_bc_ne.trans (jx_gof (by rw [g3] <;> decide))) ?_
  refine jv_Ev.steps jv_i322 4 (pc' := 79) (l' := [(4, .int (1 : Int32)), (0, .int p1), (1, .int p2), (2, .int p3), (3, .int p4)]) (st' := [.int (1 : Int32)]) rfl ?_
  refine jv_Ev.br jv_i322 (pc' := 82) (st' := []) rfl (jv_bi_eq.trans (jx_gof (by decide))) ?_
  refine jv_Ev.steps jv_i322 3 (pc' := 87) (l' := [(4, .int (1 : Int32)), (0, .int p1), (1, .int p2), (2, .int p3), (3, .int p4)]) (st' := [.int (256 : Int32), .int (1 : Int32), .int p3]) rfl ?_
  refine jv_Ev.c jv_i322 (pc' := 90) (S' := [.int (1 : Int32)]) jv_i320 [.int p3, .int (1 : Int32), .int (256 : Int32)] rfl rfl rfl rfl rfl rfl (jx_e849 p0 p1 p2 p3 p4 p5 g1 g2 g3 g4 g5 g6 g7 g8 g9) rfl rfl ?_
  refine jv_Ev.br jv_i322 (pc' := 93) (st' := []) rfl (jv_bi_eq.trans (jx_gof (by decide))) ?_
  refine jv_Ev.steps jv_i322 3 (pc' := 98) (l' := [(4, .int (1 : Int32)), (0, .int p1), (1, .int p2), (2, .int p3), (3, .int p4)]) (st' := [.int (4096 : Int32), .int (1 : Int32), .int p4]) rfl ?_
  refine jv_Ev.c jv_i322 (pc' := 101) (S' := [.int (1 : Int32)]) jv_i320 [.int p4, .int (1 : Int32), .int (4096 : Int32)] rfl rfl rfl rfl rfl rfl (jx_e850 p0 p1 p2 p3 p4 p5 g1 g2 g3 g4 g5 g6 g7 g8 g9) rfl rfl ?_
  refine jv_Ev.br jv_i322 (pc' := 104) (st' := []) rfl (jv_bi_eq.trans (jx_gof (by decide))) ?_
  refine jv_Ev.steps jv_i322 2 (pc' := 109) (l' := [(4, .int (1 : Int32)), (0, .int p1), (1, .int p2), (2, .int p3), (3, .int p4)]) (st' := [.int (1 : Int32)]) rfl ?_
  exact jv_Ev.ret jv_i322 rfl (jv_ret_b (by decide))

set_option maxRecDepth 100000 in
/-- ProgramBoxModel$Store.make -/
theorem jx_e852 (p0 : Int32) (p1 : Int32) (p2 : Int32) (p3 : Int32) (p4 : Int32) (p5 : Int32) (g1 : ¬ p1 = (2 : Int32)) (g2 : p1 = (0 : Int32)) (g3 : p2 = (4 : Int32)) (g4 : ¬ p3 < (1 : Int32)) (g5 : ¬ (256 : Int32) < p3) (g6 : ¬ p4 < (1 : Int32)) (g7 : ¬ (4096 : Int32) < p4) (g8 : ¬ p3 = (0 : Int32)) (g9 : ¬ (65536 : Int32) < (p4 * ((p3 + (7 : Int32)) &&& (-8 : Int32)))) : jv_Ms 323 [.ref 180, .int p1, .int p2, .int p3, .int p4] (jv_H (jx_kp (jx_K 227) 227 0 7) (jv_u (jv_u (jx_J1 p0 p1 p2 p3 p4 p5) 2 5 ((0 : Int32) + (p4 * ((p3 + (7 : Int32)) &&& (-8 : Int32))))) 2 7 (1 : Int32)) (jv_u jx_L0 226 (0 : Int32).toNatClampNeg (0 : Int64)) (jv_u (jv_u (jx_R 227) 227 4 (.ref 6)) 7 (0 : Int32).toNatClampNeg (.ref 227))) 228 1572957 (some (.int (0 : Int32)), (jv_H (jx_kp (jx_K 227) 227 0 7) (jv_u (jv_u (jv_u (jv_u (jv_u (jv_u (jv_u (jv_u (jv_u (jv_u (jv_u (jx_J1 p0 p1 p2 p3 p4 p5) 2 5 ((0 : Int32) + (p4 * ((p3 + (7 : Int32)) &&& (-8 : Int32))))) 2 7 (1 : Int32)) 180 0 (0 : Int32)) 180 0 (0 : Int32)) 183 (0 : Int32).toNatClampNeg p1) 184 (0 : Int32).toNatClampNeg p2) 185 (0 : Int32).toNatClampNeg p3) 186 (0 : Int32).toNatClampNeg p4) 187 (0 : Int32).toNatClampNeg (0 : Int32)) 180 4 ((0 : Int32) + (p4 * ((p3 + (7 : Int32)) &&& (-8 : Int32))))) 180 5 (1 : Int32)) (jv_u jx_L0 226 (0 : Int32).toNatClampNeg (0 : Int64)) (jv_u (jv_u (jx_R 227) 227 4 (.ref 6)) 7 (0 : Int32).toNatClampNeg (.ref 227))), 228, 1572957) := by
  show jv_Ev 323 0 [(0, .ref 180), (1, .int p1), (2, .int p2), (3, .int p3), (4, .int p4)] [] (jv_H (jx_kp (jx_K 227) 227 0 7) (jv_u (jv_u (jx_J1 p0 p1 p2 p3 p4 p5) 2 5 ((0 : Int32) + (p4 * ((p3 + (7 : Int32)) &&& (-8 : Int32))))) 2 7 (1 : Int32)) (jv_u jx_L0 226 (0 : Int32).toNatClampNeg (0 : Int64)) (jv_u (jv_u (jx_R 227) 227 4 (.ref 6)) 7 (0 : Int32).toNatClampNeg (.ref 227))) 228 1572957 _
  refine jv_Ev.steps jv_i323 5 (pc' := 6) (l' := [(0, .ref 180), (1, .int p1), (2, .int p2), (3, .int p3), (4, .int p4)]) (st' := [.int p4, .int p3, .int p2, .int p1, .ref 180]) rfl ?_
  refine jv_Ev.c jv_i323 (pc' := 9) (S' := [.int (1 : Int32), .ref 180]) jv_i322 [.int p1, .int p2, .int p3, .int p4] rfl rfl rfl rfl rfl rfl (jx_e851 p0 p1 p2 p3 p4 p5 g1 g2 g3 g4 g5 g6 g7 g8 g9) rfl rfl ?_
  refine jv_Ev.br jv_i323 (pc' := 12) (st' := [.ref 180]) rfl (jv_bi_eq.trans (jx_gof (by decide))) ?_
  refine jv_Ev.steps jv_i323 2 (pc' := 17) (l' := [(0, .ref 180), (1, .int p1), (2, .int p2), (3, .int p3), (4, .int p4)]) (st' := [.int (0 : Int32), .ref 180]) rfl ?_
  refine jv_Ev.m jv_i323 (pc' := 20) (st' := []) rfl rfl (jv_m_putI rfl rfl rfl rfl rfl) ?_
  refine jv_Ev.steps jv_i323 1 (pc' := 21) (l' := [(0, .ref 180), (1, .int p1), (2, .int p2), (3, .int p3), (4, .int p4)]) (st' := [.ref 180]) rfl ?_
  refine jv_Ev.m jv_i323 (pc' := 24) (st' := [.int (0 : Int32)]) rfl rfl (jv_m_getI rfl rfl rfl rfl) ?_
  refine jv_Ev.br jv_i323 (pc' := 29) (st' := []) rfl (jv_bi_le.trans (jx_got (by decide))) ?_
  refine jv_Ev.steps jv_i323 2 (pc' := 31) (l' := [(0, .ref 180), (1, .int p1), (2, .int p2), (3, .int p3), (4, .int p4)]) (st' := [.int (2 : Int32), .int p1]) rfl ?_
  refine jv_Ev.br jv_i323 (pc' := 39) (st' := []) rfl (jv_bc_ne.trans (jx_got (by rw [g2] <;> decide))) ?_
  refine jv_Ev.steps jv_i323 2 (pc' := 42) (l' := [(0, .ref 180), (1, .int p1), (2, .int p2), (3, .int p3), (4, .int p4)]) (st' := [.int p3, .int p4]) rfl ?_
  refine jv_Ev.c jv_i323 (pc' := 45) (S' := [.int ((p3 + (7 : Int32)) &&& (-8 : Int32)), .int p4]) jv_i319 [.int p3] rfl rfl rfl rfl rfl rfl (jx_filled_run p3 g4 g5 _ _ _) rfl rfl ?_
  refine jv_Ev.steps jv_i323 4 (pc' := 50) (l' := [(5, .int (p4 * ((p3 + (7 : Int32)) &&& (-8 : Int32)))), (0, .ref 180), (1, .int p1), (2, .int p2), (3, .int p3), (4, .int p4)]) (st' := [.ref 180, .ref 180]) rfl ?_
  refine jv_Ev.m jv_i323 (pc' := 53) (st' := [.int (0 : Int32), .ref 180]) rfl rfl (jv_m_getI rfl rfl rfl (((jx_J1_ok p0 p1 p2 p3 p4 p5 g1 g2 g3 g4 g5 g6 g7 g8 g9).1 180 5 (by decide) (by decide)).trans rfl)) ?_
  refine jv_Ev.steps jv_i323 1 (pc' := 55) (l' := [(5, .int (p4 * ((p3 + (7 : Int32)) &&& (-8 : Int32)))), (0, .ref 180), (1, .int p1), (2, .int p2), (3, .int p3), (4, .int p4)]) (st' := [.int (8 : Int32), .int (0 : Int32), .ref 180]) rfl ?_
  refine jv_Ev.br jv_i323 (pc' := 58) (st' := [.ref 180]) rfl (jv_bc_eq.trans (jx_gof (by decide))) ?_
  refine jv_Ev.steps jv_i323 3 (pc' := 63) (l' := [(5, .int (p4 * ((p3 + (7 : Int32)) &&& (-8 : Int32)))), (0, .ref 180), (1, .int p1), (2, .int p2), (3, .int p3), (4, .int p4)]) (st' := [.ref 180, .int (65536 : Int32), .int (p4 * ((p3 + (7 : Int32)) &&& (-8 : Int32))), .ref 180]) rfl ?_
  refine jv_Ev.m jv_i323 (pc' := 66) (st' := [.int (0 : Int32), .int (65536 : Int32), .int (p4 * ((p3 + (7 : Int32)) &&& (-8 : Int32))), .ref 180]) rfl rfl (jv_m_getI rfl rfl rfl (((jx_J1_ok p0 p1 p2 p3 p4 p5 g1 g2 g3 g4 g5 g6 g7 g8 g9).1 180 4 (by decide) (by decide)).trans rfl)) ?_
  refine jv_Ev.steps jv_i323 1 (pc' := 67) (l' := [(5, .int (p4 * ((p3 + (7 : Int32)) &&& (-8 : Int32)))), (0, .ref 180), (1, .int p1), (2, .int p2), (3, .int p3), (4, .int p4)]) (st' := [.int (65536 : Int32), .int (p4 * ((p3 + (7 : Int32)) &&& (-8 : Int32))), .ref 180]) rfl ?_
  refine jv_Ev.br jv_i323 (pc' := 74) (st' := [.ref 180]) rfl (jv_bc_le.trans (jx_got (Int32.not_lt.mp g9))) ?_
  refine jv_Ev.steps jv_i323 1 (pc' := 75) (l' := [(5, .int (p4 * ((p3 + (7 : Int32)) &&& (-8 : Int32)))), (0, .ref 180), (1, .int p1), (2, .int p2), (3, .int p3), (4, .int p4)]) (st' := [.int (0 : Int32), .ref 180]) rfl ?_
  refine jv_Ev.m jv_i323 (pc' := 78) (st' := []) rfl rfl (jv_m_putI rfl rfl rfl rfl rfl) ?_
  refine jv_Ev.steps jv_i323 1 (pc' := 79) (l' := [(5, .int (p4 * ((p3 + (7 : Int32)) &&& (-8 : Int32)))), (0, .ref 180), (1, .int p1), (2, .int p2), (3, .int p3), (4, .int p4)]) (st' := [.ref 180]) rfl ?_
  refine jv_Ev.m jv_i323 (pc' := 82) (st' := [.int (0 : Int32)]) rfl rfl (jv_m_getI rfl rfl rfl rfl) ?_
  refine jv_Ev.br jv_i323 (pc' := 87) (st' := []) rfl (jv_bi_le.trans (jx_got (by decide))) ?_
  refine jv_Ev.steps jv_i323 1 (pc' := 88) (l' := [(5, .int (p4 * ((p3 + (7 : Int32)) &&& (-8 : Int32)))), (0, .ref 180), (1, .int p1), (2, .int p2), (3, .int p3), (4, .int p4)]) (st' := [.ref 180]) rfl ?_
  refine jv_Ev.m jv_i323 (pc' := 91) (st' := [.ref 183]) rfl rfl (jv_m_getR rfl rfl rfl rfl) ?_
  refine jv_Ev.steps jv_i323 1 (pc' := 92) (l' := [(5, .int (p4 * ((p3 + (7 : Int32)) &&& (-8 : Int32)))), (0, .ref 180), (1, .int p1), (2, .int p2), (3, .int p3), (4, .int p4)]) (st' := [.ref 180, .ref 183]) rfl ?_
  refine jv_Ev.m jv_i323 (pc' := 95) (st' := [.int (0 : Int32), .ref 183]) rfl rfl (jv_m_getI rfl rfl rfl (((jx_J1_ok p0 p1 p2 p3 p4 p5 g1 g2 g3 g4 g5 g6 g7 g8 g9).1 180 5 (by decide) (by decide)).trans rfl)) ?_
  refine jv_Ev.steps jv_i323 1 (pc' := 96) (l' := [(5, .int (p4 * ((p3 + (7 : Int32)) &&& (-8 : Int32)))), (0, .ref 180), (1, .int p1), (2, .int p2), (3, .int p3), (4, .int p4)]) (st' := [.int p1, .int (0 : Int32), .ref 183]) rfl ?_
  refine jv_Ev.m jv_i323 (pc' := 97) (st' := []) rfl rfl (jv_m_iast rfl (by decide)) ?_
  refine jv_Ev.steps jv_i323 1 (pc' := 98) (l' := [(5, .int (p4 * ((p3 + (7 : Int32)) &&& (-8 : Int32)))), (0, .ref 180), (1, .int p1), (2, .int p2), (3, .int p3), (4, .int p4)]) (st' := [.ref 180]) rfl ?_
  refine jv_Ev.m jv_i323 (pc' := 101) (st' := [.ref 184]) rfl rfl (jv_m_getR rfl rfl rfl rfl) ?_
  refine jv_Ev.steps jv_i323 1 (pc' := 102) (l' := [(5, .int (p4 * ((p3 + (7 : Int32)) &&& (-8 : Int32)))), (0, .ref 180), (1, .int p1), (2, .int p2), (3, .int p3), (4, .int p4)]) (st' := [.ref 180, .ref 184]) rfl ?_
  refine jv_Ev.m jv_i323 (pc' := 105) (st' := [.int (0 : Int32), .ref 184]) rfl rfl (jv_m_getI rfl rfl rfl (((jx_J1_ok p0 p1 p2 p3 p4 p5 g1 g2 g3 g4 g5 g6 g7 g8 g9).1 180 5 (by decide) (by decide)).trans rfl)) ?_
  refine jv_Ev.steps jv_i323 1 (pc' := 106) (l' := [(5, .int (p4 * ((p3 + (7 : Int32)) &&& (-8 : Int32)))), (0, .ref 180), (1, .int p1), (2, .int p2), (3, .int p3), (4, .int p4)]) (st' := [.int p2, .int (0 : Int32), .ref 184]) rfl ?_
  refine jv_Ev.m jv_i323 (pc' := 107) (st' := []) rfl rfl (jv_m_iast rfl (by decide)) ?_
  refine jv_Ev.steps jv_i323 1 (pc' := 108) (l' := [(5, .int (p4 * ((p3 + (7 : Int32)) &&& (-8 : Int32)))), (0, .ref 180), (1, .int p1), (2, .int p2), (3, .int p3), (4, .int p4)]) (st' := [.ref 180]) rfl ?_
  refine jv_Ev.m jv_i323 (pc' := 111) (st' := [.ref 185]) rfl rfl (jv_m_getR rfl rfl rfl rfl) ?_
  refine jv_Ev.steps jv_i323 1 (pc' := 112) (l' := [(5, .int (p4 * ((p3 + (7 : Int32)) &&& (-8 : Int32)))), (0, .ref 180), (1, .int p1), (2, .int p2), (3, .int p3), (4, .int p4)]) (st' := [.ref 180, .ref 185]) rfl ?_
  refine jv_Ev.m jv_i323 (pc' := 115) (st' := [.int (0 : Int32), .ref 185]) rfl rfl (jv_m_getI rfl rfl rfl (((jx_J1_ok p0 p1 p2 p3 p4 p5 g1 g2 g3 g4 g5 g6 g7 g8 g9).1 180 5 (by decide) (by decide)).trans rfl)) ?_
  refine jv_Ev.steps jv_i323 1 (pc' := 116) (l' := [(5, .int (p4 * ((p3 + (7 : Int32)) &&& (-8 : Int32)))), (0, .ref 180), (1, .int p1), (2, .int p2), (3, .int p3), (4, .int p4)]) (st' := [.int p3, .int (0 : Int32), .ref 185]) rfl ?_
  refine jv_Ev.m jv_i323 (pc' := 117) (st' := []) rfl rfl (jv_m_iast rfl (by decide)) ?_
  refine jv_Ev.steps jv_i323 1 (pc' := 118) (l' := [(5, .int (p4 * ((p3 + (7 : Int32)) &&& (-8 : Int32)))), (0, .ref 180), (1, .int p1), (2, .int p2), (3, .int p3), (4, .int p4)]) (st' := [.ref 180]) rfl ?_
  refine jv_Ev.m jv_i323 (pc' := 121) (st' := [.ref 186]) rfl rfl (jv_m_getR rfl rfl rfl rfl) ?_
  refine jv_Ev.steps jv_i323 1 (pc' := 122) (l' := [(5, .int (p4 * ((p3 + (7 : Int32)) &&& (-8 : Int32)))), (0, .ref 180), (1, .int p1), (2, .int p2), (3, .int p3), (4, .int p4)]) (st' := [.ref 180, .ref 186]) rfl ?_
  refine jv_Ev.m jv_i323 (pc' := 125) (st' := [.int (0 : Int32), .ref 186]) rfl rfl (jv_m_getI rfl rfl rfl (((jx_J1_ok p0 p1 p2 p3 p4 p5 g1 g2 g3 g4 g5 g6 g7 g8 g9).1 180 5 (by decide) (by decide)).trans rfl)) ?_
  refine jv_Ev.steps jv_i323 1 (pc' := 127) (l' := [(5, .int (p4 * ((p3 + (7 : Int32)) &&& (-8 : Int32)))), (0, .ref 180), (1, .int p1), (2, .int p2), (3, .int p3), (4, .int p4)]) (st' := [.int p4, .int (0 : Int32), .ref 186]) rfl ?_
  refine jv_Ev.m jv_i323 (pc' := 128) (st' := []) rfl rfl (jv_m_iast rfl (by decide)) ?_
  refine jv_Ev.steps jv_i323 1 (pc' := 129) (l' := [(5, .int (p4 * ((p3 + (7 : Int32)) &&& (-8 : Int32)))), (0, .ref 180), (1, .int p1), (2, .int p2), (3, .int p3), (4, .int p4)]) (st' := [.ref 180]) rfl ?_
  refine jv_Ev.m jv_i323 (pc' := 132) (st' := [.ref 187]) rfl rfl (jv_m_getR rfl rfl rfl rfl) ?_
  refine jv_Ev.steps jv_i323 1 (pc' := 133) (l' := [(5, .int (p4 * ((p3 + (7 : Int32)) &&& (-8 : Int32)))), (0, .ref 180), (1, .int p1), (2, .int p2), (3, .int p3), (4, .int p4)]) (st' := [.ref 180, .ref 187]) rfl ?_
  refine jv_Ev.m jv_i323 (pc' := 136) (st' := [.int (0 : Int32), .ref 187]) rfl rfl (jv_m_getI rfl rfl rfl (((jx_J1_ok p0 p1 p2 p3 p4 p5 g1 g2 g3 g4 g5 g6 g7 g8 g9).1 180 5 (by decide) (by decide)).trans rfl)) ?_
  refine jv_Ev.steps jv_i323 1 (pc' := 137) (l' := [(5, .int (p4 * ((p3 + (7 : Int32)) &&& (-8 : Int32)))), (0, .ref 180), (1, .int p1), (2, .int p2), (3, .int p3), (4, .int p4)]) (st' := [.ref 180, .int (0 : Int32), .ref 187]) rfl ?_
  refine jv_Ev.m jv_i323 (pc' := 140) (st' := [.int (0 : Int32), .int (0 : Int32), .ref 187]) rfl rfl (jv_m_getI rfl rfl rfl (((jx_J1_ok p0 p1 p2 p3 p4 p5 g1 g2 g3 g4 g5 g6 g7 g8 g9).1 180 4 (by decide) (by decide)).trans rfl)) ?_
  refine jv_Ev.m jv_i323 (pc' := 141) (st' := []) rfl rfl (jv_m_iast rfl (by decide)) ?_
  refine jv_Ev.steps jv_i323 2 (pc' := 143) (l' := [(5, .int (p4 * ((p3 + (7 : Int32)) &&& (-8 : Int32)))), (0, .ref 180), (1, .int p1), (2, .int p2), (3, .int p3), (4, .int p4)]) (st' := [.ref 180, .ref 180]) rfl ?_
  refine jv_Ev.m jv_i323 (pc' := 146) (st' := [.int (0 : Int32), .ref 180]) rfl rfl (jv_m_getI rfl rfl rfl (((jx_J1_ok p0 p1 p2 p3 p4 p5 g1 g2 g3 g4 g5 g6 g7 g8 g9).1 180 4 (by decide) (by decide)).trans rfl)) ?_
  refine jv_Ev.steps jv_i323 2 (pc' := 149) (l' := [(5, .int (p4 * ((p3 + (7 : Int32)) &&& (-8 : Int32)))), (0, .ref 180), (1, .int p1), (2, .int p2), (3, .int p3), (4, .int p4)]) (st' := [.int ((0 : Int32) + (p4 * ((p3 + (7 : Int32)) &&& (-8 : Int32)))), .ref 180]) rfl ?_
  refine jv_Ev.m jv_i323 (pc' := 152) (st' := []) rfl rfl (jv_m_putI rfl rfl rfl rfl rfl) ?_
  refine jv_Ev.steps jv_i323 2 (pc' := 154) (l' := [(5, .int (p4 * ((p3 + (7 : Int32)) &&& (-8 : Int32)))), (0, .ref 180), (1, .int p1), (2, .int p2), (3, .int p3), (4, .int p4)]) (st' := [.int (1 : Int32), .int p1]) rfl ?_
  refine jv_Ev.br jv_i323 (pc' := 207) (st' := []) rfl (jv_bc_ne.trans (jx_got (by rw [g2] <;> decide))) ?_
  refine jv_Ev.steps jv_i323 2 (pc' := 209) (l' := [(5, .int (p4 * ((p3 + (7 : Int32)) &&& (-8 : Int32)))), (0, .ref 180), (1, .int p1), (2, .int p2), (3, .int p3), (4, .int p4)]) (st' := [.ref 180, .ref 180]) rfl ?_
  refine jv_Ev.m jv_i323 (pc' := 212) (st' := [.int (0 : Int32), .ref 180]) rfl rfl (jv_m_getI rfl rfl rfl (((jx_J1_ok p0 p1 p2 p3 p4 p5 g1 g2 g3 g4 g5 g6 g7 g8 g9).1 180 5 (by decide) (by decide)).trans rfl)) ?_
  refine jv_Ev.steps jv_i323 2 (pc' := 214) (l' := [(5, .int (p4 * ((p3 + (7 : Int32)) &&& (-8 : Int32)))), (0, .ref 180), (1, .int p1), (2, .int p2), (3, .int p3), (4, .int p4)]) (st' := [.int (1 : Int32), .ref 180]) rfl ?_
  refine jv_Ev.m jv_i323 (pc' := 217) (st' := []) rfl rfl (jv_m_putI rfl rfl rfl rfl rfl) ?_
  refine jv_Ev.steps jv_i323 1 (pc' := 218) (l' := [(5, .int (p4 * ((p3 + (7 : Int32)) &&& (-8 : Int32)))), (0, .ref 180), (1, .int p1), (2, .int p2), (3, .int p3), (4, .int p4)]) (st' := [.ref 180]) rfl ?_
  refine jv_Ev.m jv_i323 (pc' := 221) (st' := [.int (1 : Int32)]) rfl rfl (jv_m_getI rfl rfl rfl rfl) ?_
  refine jv_Ev.steps jv_i323 2 (pc' := 223) (l' := [(5, .int (p4 * ((p3 + (7 : Int32)) &&& (-8 : Int32)))), (0, .ref 180), (1, .int p1), (2, .int p2), (3, .int p3), (4, .int p4)]) (st' := [.int (0 : Int32)]) rfl ?_
  exact jv_Ev.ret jv_i323 rfl rfl

set_option maxRecDepth 100000 in
/-- ProgramBoxModel$Store.thrown -/
theorem jx_e853 (p0 : Int32) (p1 : Int32) (p2 : Int32) (p3 : Int32) (p4 : Int32) (p5 : Int32) (g1 : ¬ p1 = (2 : Int32)) (g2 : p1 = (0 : Int32)) (g3 : p2 = (4 : Int32)) (g4 : ¬ p3 < (1 : Int32)) (g5 : ¬ (256 : Int32) < p3) (g6 : ¬ p4 < (1 : Int32)) (g7 : ¬ (4096 : Int32) < p4) (g8 : ¬ p3 = (0 : Int32)) (g9 : ¬ (65536 : Int32) < (p4 * ((p3 + (7 : Int32)) &&& (-8 : Int32)))) : jv_Ms 318 [.ref 180] (jv_H (jx_kp (jx_K 227) 227 0 7) (jv_u (jv_u (jv_u (jv_u (jv_u (jv_u (jv_u (jv_u (jv_u (jv_u (jv_u (jx_J1 p0 p1 p2 p3 p4 p5) 2 5 ((0 : Int32) + (p4 * ((p3 + (7 : Int32)) &&& (-8 : Int32))))) 2 7 (1 : Int32)) 180 0 (0 : Int32)) 180 0 (0 : Int32)) 183 (0 : Int32).toNatClampNeg p1) 184 (0 : Int32).toNatClampNeg p2) 185 (0 : Int32).toNatClampNeg p3) 186 (0 : Int32).toNatClampNeg p4) 187 (0 : Int32).toNatClampNeg (0 : Int32)) 180 4 ((0 : Int32) + (p4 * ((p3 + (7 : Int32)) &&& (-8 : Int32))))) 180 5 (1 : Int32)) (jv_u jx_L0 226 (0 : Int32).toNatClampNeg (0 : Int64)) (jv_u (jv_u (jx_R 227) 227 4 (.ref 6)) 7 (0 : Int32).toNatClampNeg (.ref 227))) 228 1572957 (some (.int (0 : Int32)), (jv_H (jx_kp (jx_K 227) 227 0 7) (jv_u (jv_u (jv_u (jv_u (jv_u (jv_u (jv_u (jv_u (jv_u (jv_u (jv_u (jx_J1 p0 p1 p2 p3 p4 p5) 2 5 ((0 : Int32) + (p4 * ((p3 + (7 : Int32)) &&& (-8 : Int32))))) 2 7 (1 : Int32)) 180 0 (0 : Int32)) 180 0 (0 : Int32)) 183 (0 : Int32).toNatClampNeg p1) 184 (0 : Int32).toNatClampNeg p2) 185 (0 : Int32).toNatClampNeg p3) 186 (0 : Int32).toNatClampNeg p4) 187 (0 : Int32).toNatClampNeg (0 : Int32)) 180 4 ((0 : Int32) + (p4 * ((p3 + (7 : Int32)) &&& (-8 : Int32))))) 180 5 (1 : Int32)) (jv_u jx_L0 226 (0 : Int32).toNatClampNeg (0 : Int64)) (jv_u (jv_u (jx_R 227) 227 4 (.ref 6)) 7 (0 : Int32).toNatClampNeg (.ref 227))), 228, 1572957) := by
  show jv_Ev 318 0 [(0, .ref 180)] [] (jv_H (jx_kp (jx_K 227) 227 0 7) (jv_u (jv_u (jv_u (jv_u (jv_u (jv_u (jv_u (jv_u (jv_u (jv_u (jv_u (jx_J1 p0 p1 p2 p3 p4 p5) 2 5 ((0 : Int32) + (p4 * ((p3 + (7 : Int32)) &&& (-8 : Int32))))) 2 7 (1 : Int32)) 180 0 (0 : Int32)) 180 0 (0 : Int32)) 183 (0 : Int32).toNatClampNeg p1) 184 (0 : Int32).toNatClampNeg p2) 185 (0 : Int32).toNatClampNeg p3) 186 (0 : Int32).toNatClampNeg p4) 187 (0 : Int32).toNatClampNeg (0 : Int32)) 180 4 ((0 : Int32) + (p4 * ((p3 + (7 : Int32)) &&& (-8 : Int32))))) 180 5 (1 : Int32)) (jv_u jx_L0 226 (0 : Int32).toNatClampNeg (0 : Int64)) (jv_u (jv_u (jx_R 227) 227 4 (.ref 6)) 7 (0 : Int32).toNatClampNeg (.ref 227))) 228 1572957 _
  refine jv_Ev.steps jv_i318 1 (pc' := 1) (l' := [(0, .ref 180)]) (st' := [.ref 180]) rfl ?_
  refine jv_Ev.m jv_i318 (pc' := 4) (st' := [.int (0 : Int32)]) rfl rfl (jv_m_getI rfl rfl rfl rfl) ?_
  exact jv_Ev.ret jv_i318 rfl rfl

set_option maxRecDepth 100000 in
/-- ProgramBoxModel.make -/
theorem jx_e854 (p0 : Int32) (p1 : Int32) (p2 : Int32) (p3 : Int32) (p4 : Int32) (p5 : Int32) (g1 : ¬ p1 = (2 : Int32)) (g2 : p1 = (0 : Int32)) (g3 : p2 = (4 : Int32)) (g4 : ¬ p3 < (1 : Int32)) (g5 : ¬ (256 : Int32) < p3) (g6 : ¬ p4 < (1 : Int32)) (g7 : ¬ (4096 : Int32) < p4) (g8 : ¬ p3 = (0 : Int32)) (g9 : ¬ (65536 : Int32) < (p4 * ((p3 + (7 : Int32)) &&& (-8 : Int32)))) : jv_Ms 353 [.ref 178, .int p1, .int p2, .int p3, .int p4] (jv_H (jx_kp (jx_K 227) 227 0 7) (jv_u (jv_u (jx_J1 p0 p1 p2 p3 p4 p5) 2 5 ((0 : Int32) + (p4 * ((p3 + (7 : Int32)) &&& (-8 : Int32))))) 2 7 (1 : Int32)) (jv_u jx_L0 226 (0 : Int32).toNatClampNeg (0 : Int64)) (jv_u (jv_u (jx_R 227) 227 4 (.ref 6)) 7 (0 : Int32).toNatClampNeg (.ref 227))) 228 1572957 (some (.int (0 : Int32)), (jv_H (jx_kp (jx_K 227) 227 0 7) (jv_u (jv_u (jv_u (jv_u (jv_u (jv_u (jv_u (jv_u (jv_u (jv_u (jv_u (jv_u (jv_u (jv_u (jv_u (jx_J1 p0 p1 p2 p3 p4 p5) 2 5 ((0 : Int32) + (p4 * ((p3 + (7 : Int32)) &&& (-8 : Int32))))) 2 7 (1 : Int32)) 180 0 (0 : Int32)) 180 0 (0 : Int32)) 183 (0 : Int32).toNatClampNeg p1) 184 (0 : Int32).toNatClampNeg p2) 185 (0 : Int32).toNatClampNeg p3) 186 (0 : Int32).toNatClampNeg p4) 187 (0 : Int32).toNatClampNeg (0 : Int32)) 180 4 ((0 : Int32) + (p4 * ((p3 + (7 : Int32)) &&& (-8 : Int32))))) 180 5 (1 : Int32)) 178 0 (0 : Int32)) 199 (0 : Int32).toNatClampNeg (p1 + (1 : Int32))) 200 (0 : Int32).toNatClampNeg p2) 201 (0 : Int32).toNatClampNeg p3) (jv_u jx_L0 226 (0 : Int32).toNatClampNeg (0 : Int64)) (jv_u (jv_u (jx_R 227) 227 4 (.ref 6)) 7 (0 : Int32).toNatClampNeg (.ref 227))), 228, 1572957) := by
  show jv_Ev 353 0 [(0, .ref 178), (1, .int p1), (2, .int p2), (3, .int p3), (4, .int p4)] [] (jv_H (jx_kp (jx_K 227) 227 0 7) (jv_u (jv_u (jx_J1 p0 p1 p2 p3 p4 p5) 2 5 ((0 : Int32) + (p4 * ((p3 + (7 : Int32)) &&& (-8 : Int32))))) 2 7 (1 : Int32)) (jv_u jx_L0 226 (0 : Int32).toNatClampNeg (0 : Int64)) (jv_u (jv_u (jx_R 227) 227 4 (.ref 6)) 7 (0 : Int32).toNatClampNeg (.ref 227))) 228 1572957 _
  refine jv_Ev.steps jv_i353 1 (pc' := 1) (l' := [(0, .ref 178), (1, .int p1), (2, .int p2), (3, .int p3), (4, .int p4)]) (st' := [.ref 178]) rfl ?_
  refine jv_Ev.m jv_i353 (pc' := 4) (st' := [.ref 180]) rfl rfl (jv_m_getR rfl rfl rfl rfl) ?_
  refine jv_Ev.steps jv_i353 4 (pc' := 9) (l' := [(0, .ref 178), (1, .int p1), (2, .int p2), (3, .int p3), (4, .int p4)]) (st' := [.int p4, .int p3, .int p2, .int p1, .ref 180]) rfl ?_
  refine jv_Ev.c jv_i353 (pc' := 12) (S' := [.int (0 : Int32)]) jv_i323 [.ref 180, .int p1, .int p2, .int p3, .int p4] rfl rfl rfl rfl (jv_cal rfl (jv_H_at rfl) rfl rfl) rfl (jx_e852 p0 p1 p2 p3 p4 p5 g1 g2 g3 g4 g5 g6 g7 g8 g9) rfl rfl ?_
  refine jv_Ev.steps jv_i353 3 (pc' := 16) (l' := [(5, .int (0 : Int32)), (0, .ref 178), (1, .int p1), (2, .int p2), (3, .int p3), (4, .int p4)]) (st' := [.ref 178, .ref 178]) rfl ?_
  refine jv_Ev.m jv_i353 (pc' := 19) (st' := [.ref 180, .ref 178]) rfl rfl (jv_m_getR rfl rfl rfl rfl) ?_
  refine jv_Ev.c jv_i353 (pc' := 22) (S' := [.int (0 : Int32), .ref 178]) jv_i318 [.ref 180] rfl rfl rfl rfl (jv_cal rfl (jv_H_at rfl) rfl rfl) rfl (jx_e853 p0 p1 p2 p3 p4 p5 g1 g2 g3 g4 g5 g6 g7 g8 g9) rfl rfl ?_
  refine jv_Ev.m jv_i353 (pc' := 25) (st' := []) rfl rfl (jv_m_putI rfl rfl rfl rfl rfl) ?_
  refine jv_Ev.steps jv_i353 1 (pc' := 26) (l' := [(5, .int (0 : Int32)), (0, .ref 178), (1, .int p1), (2, .int p2), (3, .int p3), (4, .int p4)]) (st' := [.ref 178]) rfl ?_
  refine jv_Ev.m jv_i353 (pc' := 29) (st' := [.int (0 : Int32)]) rfl rfl (jv_m_getI rfl rfl rfl rfl) ?_
  refine jv_Ev.br jv_i353 (pc' := 32) (st' := []) rfl (jv_bi_ne.trans (jx_gof (by decide))) ?_
  refine jv_Ev.steps jv_i353 1 (pc' := 33) (l' := [(5, .int (0 : Int32)), (0, .ref 178), (1, .int p1), (2, .int p2), (3, .int p3), (4, .int p4)]) (st' := [.ref 178]) rfl ?_
  refine jv_Ev.m jv_i353 (pc' := 36) (st' := [.ref 196]) rfl rfl (jv_m_getR rfl rfl rfl rfl) ?_
  refine jv_Ev.m jv_i353 (pc' := 39) (st' := [.ref 199]) rfl rfl (jv_m_getR rfl rfl rfl rfl) ?_
  refine jv_Ev.steps jv_i353 4 (pc' := 44) (l' := [(5, .int (0 : Int32)), (0, .ref 178), (1, .int p1), (2, .int p2), (3, .int p3), (4, .int p4)]) (st' := [.int (p1 + (1 : Int32)), .int (0 : Int32), .ref 199]) rfl ?_
  refine jv_Ev.m jv_i353 (pc' := 45) (st' := []) rfl rfl (jv_m_iast rfl (by decide)) ?_
  refine jv_Ev.steps jv_i353 1 (pc' := 46) (l' := [(5, .int (0 : Int32)), (0, .ref 178), (1, .int p1), (2, .int p2), (3, .int p3), (4, .int p4)]) (st' := [.ref 178]) rfl ?_
  refine jv_Ev.m jv_i353 (pc' := 49) (st' := [.ref 196]) rfl rfl (jv_m_getR rfl rfl rfl rfl) ?_
  refine jv_Ev.m jv_i353 (pc' := 52) (st' := [.ref 200]) rfl rfl (jv_m_getR rfl rfl rfl rfl) ?_
  refine jv_Ev.steps jv_i353 2 (pc' := 55) (l' := [(5, .int (0 : Int32)), (0, .ref 178), (1, .int p1), (2, .int p2), (3, .int p3), (4, .int p4)]) (st' := [.int p2, .int (0 : Int32), .ref 200]) rfl ?_
  refine jv_Ev.m jv_i353 (pc' := 56) (st' := []) rfl rfl (jv_m_iast rfl (by decide)) ?_
  refine jv_Ev.steps jv_i353 1 (pc' := 57) (l' := [(5, .int (0 : Int32)), (0, .ref 178), (1, .int p1), (2, .int p2), (3, .int p3), (4, .int p4)]) (st' := [.ref 178]) rfl ?_
  refine jv_Ev.m jv_i353 (pc' := 60) (st' := [.ref 196]) rfl rfl (jv_m_getR rfl rfl rfl rfl) ?_
  refine jv_Ev.m jv_i353 (pc' := 63) (st' := [.ref 201]) rfl rfl (jv_m_getR rfl rfl rfl rfl) ?_
  refine jv_Ev.steps jv_i353 2 (pc' := 66) (l' := [(5, .int (0 : Int32)), (0, .ref 178), (1, .int p1), (2, .int p2), (3, .int p3), (4, .int p4)]) (st' := [.int p3, .int (0 : Int32), .ref 201]) rfl ?_
  refine jv_Ev.m jv_i353 (pc' := 67) (st' := []) rfl rfl (jv_m_iast rfl (by decide)) ?_
  refine jv_Ev.steps jv_i353 1 (pc' := 69) (l' := [(5, .int (0 : Int32)), (0, .ref 178), (1, .int p1), (2, .int p2), (3, .int p3), (4, .int p4)]) (st' := [.int (0 : Int32)]) rfl ?_
  exact jv_Ev.ret jv_i353 rfl rfl

set_option maxRecDepth 100000 in
/-- ProgramBoxModel.thrown -/
theorem jx_e855 (p0 : Int32) (p1 : Int32) (p2 : Int32) (p3 : Int32) (p4 : Int32) (p5 : Int32) (g1 : ¬ p1 = (2 : Int32)) (g2 : p1 = (0 : Int32)) (g3 : p2 = (4 : Int32)) (g4 : ¬ p3 < (1 : Int32)) (g5 : ¬ (256 : Int32) < p3) (g6 : ¬ p4 < (1 : Int32)) (g7 : ¬ (4096 : Int32) < p4) (g8 : ¬ p3 = (0 : Int32)) (g9 : ¬ (65536 : Int32) < (p4 * ((p3 + (7 : Int32)) &&& (-8 : Int32)))) : jv_Ms 350 [.ref 178] (jv_H (jx_kp (jx_K 227) 227 0 7) (jv_u (jv_u (jv_u (jv_u (jv_u (jv_u (jv_u (jv_u (jv_u (jv_u (jv_u (jv_u (jv_u (jv_u (jv_u (jx_J1 p0 p1 p2 p3 p4 p5) 2 5 ((0 : Int32) + (p4 * ((p3 + (7 : Int32)) &&& (-8 : Int32))))) 2 7 (1 : Int32)) 180 0 (0 : Int32)) 180 0 (0 : Int32)) 183 (0 : Int32).toNatClampNeg p1) 184 (0 : Int32).toNatClampNeg p2) 185 (0 : Int32).toNatClampNeg p3) 186 (0 : Int32).toNatClampNeg p4) 187 (0 : Int32).toNatClampNeg (0 : Int32)) 180 4 ((0 : Int32) + (p4 * ((p3 + (7 : Int32)) &&& (-8 : Int32))))) 180 5 (1 : Int32)) 178 0 (0 : Int32)) 199 (0 : Int32).toNatClampNeg (p1 + (1 : Int32))) 200 (0 : Int32).toNatClampNeg p2) 201 (0 : Int32).toNatClampNeg p3) (jv_u jx_L0 226 (0 : Int32).toNatClampNeg (0 : Int64)) (jv_u (jv_u (jx_R 227) 227 4 (.ref 6)) 7 (0 : Int32).toNatClampNeg (.ref 227))) 228 1572957 (some (.int (0 : Int32)), (jv_H (jx_kp (jx_K 227) 227 0 7) (jv_u (jv_u (jv_u (jv_u (jv_u (jv_u (jv_u (jv_u (jv_u (jv_u (jv_u (jv_u (jv_u (jv_u (jv_u (jx_J1 p0 p1 p2 p3 p4 p5) 2 5 ((0 : Int32) + (p4 * ((p3 + (7 : Int32)) &&& (-8 : Int32))))) 2 7 (1 : Int32)) 180 0 (0 : Int32)) 180 0 (0 : Int32)) 183 (0 : Int32).toNatClampNeg p1) 184 (0 : Int32).toNatClampNeg p2) 185 (0 : Int32).toNatClampNeg p3) 186 (0 : Int32).toNatClampNeg p4) 187 (0 : Int32).toNatClampNeg (0 : Int32)) 180 4 ((0 : Int32) + (p4 * ((p3 + (7 : Int32)) &&& (-8 : Int32))))) 180 5 (1 : Int32)) 178 0 (0 : Int32)) 199 (0 : Int32).toNatClampNeg (p1 + (1 : Int32))) 200 (0 : Int32).toNatClampNeg p2) 201 (0 : Int32).toNatClampNeg p3) (jv_u jx_L0 226 (0 : Int32).toNatClampNeg (0 : Int64)) (jv_u (jv_u (jx_R 227) 227 4 (.ref 6)) 7 (0 : Int32).toNatClampNeg (.ref 227))), 228, 1572957) := by
  show jv_Ev 350 0 [(0, .ref 178)] [] (jv_H (jx_kp (jx_K 227) 227 0 7) (jv_u (jv_u (jv_u (jv_u (jv_u (jv_u (jv_u (jv_u (jv_u (jv_u (jv_u (jv_u (jv_u (jv_u (jv_u (jx_J1 p0 p1 p2 p3 p4 p5) 2 5 ((0 : Int32) + (p4 * ((p3 + (7 : Int32)) &&& (-8 : Int32))))) 2 7 (1 : Int32)) 180 0 (0 : Int32)) 180 0 (0 : Int32)) 183 (0 : Int32).toNatClampNeg p1) 184 (0 : Int32).toNatClampNeg p2) 185 (0 : Int32).toNatClampNeg p3) 186 (0 : Int32).toNatClampNeg p4) 187 (0 : Int32).toNatClampNeg (0 : Int32)) 180 4 ((0 : Int32) + (p4 * ((p3 + (7 : Int32)) &&& (-8 : Int32))))) 180 5 (1 : Int32)) 178 0 (0 : Int32)) 199 (0 : Int32).toNatClampNeg (p1 + (1 : Int32))) 200 (0 : Int32).toNatClampNeg p2) 201 (0 : Int32).toNatClampNeg p3) (jv_u jx_L0 226 (0 : Int32).toNatClampNeg (0 : Int64)) (jv_u (jv_u (jx_R 227) 227 4 (.ref 6)) 7 (0 : Int32).toNatClampNeg (.ref 227))) 228 1572957 _
  refine jv_Ev.steps jv_i350 1 (pc' := 1) (l' := [(0, .ref 178)]) (st' := [.ref 178]) rfl ?_
  refine jv_Ev.m jv_i350 (pc' := 4) (st' := [.int (0 : Int32)]) rfl rfl (jv_m_getI rfl rfl rfl rfl) ?_
  exact jv_Ev.ret jv_i350 rfl rfl

set_option maxRecDepth 100000 in
/-- the law: case 2, one way -/
theorem jx_l96 (p0 : Int32) (p1 : Int32) (p2 : Int32) (p3 : Int32) (p4 : Int32) (p5 : Int32) (g1 : ¬ p1 = (2 : Int32)) (g2 : p1 = (0 : Int32)) (g3 : p2 = (4 : Int32)) (g4 : ¬ p3 < (1 : Int32)) (g5 : ¬ (256 : Int32) < p3) (g6 : ¬ p4 < (1 : Int32)) (g7 : ¬ (4096 : Int32) < p4) (g8 : ¬ p3 = (0 : Int32)) (g9 : ¬ (65536 : Int32) < (p4 * ((p3 + (7 : Int32)) &&& (-8 : Int32)))) (hsw : p0 &&& (31 : Int32) = (2 : Int32)) {p : Program} {l : Launch} {e : Env} {R : Room} {s : State} {m : MethodId} {args : Array Value} {below : List Frame} {meth : Method} {c : Code} {E : jv_Env} {Q : State → Prop} (hTb : jv_TOk jv_Tb) (hT2 : jx_T2Ok) (hl : l.stackTraces = false) (F : jx_F jv_T2 439 E p R s m args meth c) (hZ : jx_Z E s) (hRc : R.cells = 600002) (hRs : R.slots = 7302232) {bb : Nat} {xs : Nat → Int32} (hX : va_X bb 6 xs s E.2.2.2.2) (hbB : bb < E.2.2.2.1) (hE2 : E.1 1000002 = bb) (hQ : ∀ (l0 : jv_L) (G : jv_G) (n sl : Nat), n ≤ 600002 → sl ≤ 7302232 → jw p l e R s m args below meth c E 8 0 0 Q 1532 l0 [.int (1 : Int32)] G n sl) (q0 : xs 0 = p0) (q1 : xs 1 = p1) (q2 : xs 2 = p2) (q3 : xs 3 = p3) (q4 : xs 4 = p4) (q5 : xs 5 = p5) : jw p l e R s m args below meth c E 8 0 0 Q 33 [(0, .ref 1000002), (1, .ref 0), (2, .ref 178), (3, .ref 226), (4, .int (0 : Int32))] [] (jv_H (jx_K 227) jx_If jx_L0 (jx_R 227)) 227 1572950 := by
  refine jw.steps F jx_i439 2 (pc' := 36) (l' := [(0, .ref 1000002), (1, .ref 0), (2, .ref 178), (3, .ref 226), (4, .int (0 : Int32))]) (st' := [.int (0 : Int32), .ref 1000002]) rfl ?_
  refine jw.sld F jx_i439 hX hbB hE2 (pc' := 37) rfl rfl (show vp_in (nI 0) 6 from vp_in_nI (by decide) (by decide)) q0 rfl ?_
  refine jw.steps F jx_i439 2 (pc' := 40) (l' := [(0, .ref 1000002), (1, .ref 0), (2, .ref 178), (3, .ref 226), (4, .int (0 : Int32))]) (st' := [.int (p0 &&& (31 : Int32))]) rfl ?_
  refine jw.br F jx_i439 (pc' := 304) (st' := []) rfl (by rw [hsw]; rfl) ?_
  refine jw.steps F jx_i439 5 (pc' := 310) (l' := [(0, .ref 1000002), (1, .ref 0), (2, .ref 178), (3, .ref 226), (4, .int (0 : Int32))]) (st' := [.int (1 : Int32), .ref 1000002, .ref 0]) rfl ?_
  refine jw.sld F jx_i439 hX hbB hE2 (pc' := 311) rfl rfl (show vp_in (nI 1) 6 from vp_in_nI (by decide) (by decide)) q1 rfl ?_
  refine jw.steps F jx_i439 4 (pc' := 316) (l' := [(0, .ref 1000002), (1, .ref 0), (2, .ref 178), (3, .ref 226), (4, .int (0 : Int32))]) (st' := [.int (2 : Int32), .ref 1000002, .int p1, .ref 0]) rfl ?_
  refine jw.sld F jx_i439 hX hbB hE2 (pc' := 317) rfl rfl (show vp_in (nI 2) 6 from vp_in_nI (by decide) (by decide)) q2 rfl ?_
  refine jw.steps F jx_i439 4 (pc' := 322) (l' := [(0, .ref 1000002), (1, .ref 0), (2, .ref 178), (3, .ref 226), (4, .int (0 : Int32))]) (st' := [.int (3 : Int32), .ref 1000002, .int p2, .int p1, .ref 0]) rfl ?_
  refine jw.sld F jx_i439 hX hbB hE2 (pc' := 323) rfl rfl (show vp_in (nI 3) 6 from vp_in_nI (by decide) (by decide)) q3 rfl ?_
  refine jw.steps F jx_i439 4 (pc' := 328) (l' := [(0, .ref 1000002), (1, .ref 0), (2, .ref 178), (3, .ref 226), (4, .int (0 : Int32))]) (st' := [.int (4 : Int32), .ref 1000002, .int p3, .int p2, .int p1, .ref 0]) rfl ?_
  refine jw.sld F jx_i439 hX hbB hE2 (pc' := 329) rfl rfl (show vp_in (nI 4) 6 from vp_in_nI (by decide) (by decide)) q4 rfl ?_
  refine jw.steps F jx_i439 1 (pc' := 330) (l' := [(0, .ref 1000002), (1, .ref 0), (2, .ref 178), (3, .ref 226), (4, .int (0 : Int32))]) (st' := [.ref 226, .int p4, .int p3, .int p2, .int p1, .ref 0]) rfl ?_
  refine jw.wr F hl hZ rfl jx_i439 jx_i442 [.ref 0, .int p1, .int p2, .int p3, .int p4, .ref 226] (pc' := 333) (S' := [.int (0 : Int32)]) rfl (List.mem_of_getElem? (i := 2) rfl) (List.mem_of_getElem? (i := 2) rfl) rfl rfl rfl (jx_w848 hTb hT2 p0 p1 p2 p3 p4 p5 g1 g2 g3 g4 g5 g6 g7 g8 g9) (by omega) (by omega) (by omega) (by omega) rfl rfl ?_
  refine jw.steps F jx_i439 6 (pc' := 341) (l' := [(5, .int (0 : Int32)), (0, .ref 1000002), (1, .ref 0), (2, .ref 178), (3, .ref 226), (4, .int (0 : Int32))]) (st' := [.int (1 : Int32), .ref 1000002, .ref 178]) rfl ?_
  refine jw.sld F jx_i439 hX hbB hE2 (pc' := 342) rfl rfl (show vp_in (nI 1) 6 from vp_in_nI (by decide) (by decide)) q1 rfl ?_
  refine jw.steps F jx_i439 4 (pc' := 347) (l' := [(5, .int (0 : Int32)), (0, .ref 1000002), (1, .ref 0), (2, .ref 178), (3, .ref 226), (4, .int (0 : Int32))]) (st' := [.int (2 : Int32), .ref 1000002, .int p1, .ref 178]) rfl ?_
  refine jw.sld F jx_i439 hX hbB hE2 (pc' := 348) rfl rfl (show vp_in (nI 2) 6 from vp_in_nI (by decide) (by decide)) q2 rfl ?_
  refine jw.steps F jx_i439 4 (pc' := 353) (l' := [(5, .int (0 : Int32)), (0, .ref 1000002), (1, .ref 0), (2, .ref 178), (3, .ref 226), (4, .int (0 : Int32))]) (st' := [.int (3 : Int32), .ref 1000002, .int p2, .int p1, .ref 178]) rfl ?_
  refine jw.sld F jx_i439 hX hbB hE2 (pc' := 354) rfl rfl (show vp_in (nI 3) 6 from vp_in_nI (by decide) (by decide)) q3 rfl ?_
  refine jw.steps F jx_i439 4 (pc' := 359) (l' := [(5, .int (0 : Int32)), (0, .ref 1000002), (1, .ref 0), (2, .ref 178), (3, .ref 226), (4, .int (0 : Int32))]) (st' := [.int (4 : Int32), .ref 1000002, .int p3, .int p2, .int p1, .ref 178]) rfl ?_
  refine jw.sld F jx_i439 hX hbB hE2 (pc' := 360) rfl rfl (show vp_in (nI 4) 6 from vp_in_nI (by decide) (by decide)) q4 rfl ?_
  refine jw.ca hTb F jx_i439 (pc' := 363) (S' := [.int (0 : Int32)]) rfl jv_i353 [.ref 178, .int p1, .int p2, .int p3, .int p4] rfl rfl rfl rfl (jx_cal2 rfl (jv_H_at rfl) rfl rfl) rfl (jx_e854 p0 p1 p2 p3 p4 p5 g1 g2 g3 g4 g5 g6 g7 g8 g9) (by omega) (by omega) rfl rfl ?_
  refine jw.steps F jx_i439 2 (pc' := 366) (l' := [(6, .int (0 : Int32)), (5, .int (0 : Int32)), (0, .ref 1000002), (1, .ref 0), (2, .ref 178), (3, .ref 226), (4, .int (0 : Int32))]) (st' := [.ref 178]) rfl ?_
  refine jw.ca hTb F jx_i439 (pc' := 369) (S' := [.int (0 : Int32)]) rfl jv_i350 [.ref 178] rfl rfl rfl rfl (jx_cal2 rfl (jv_H_at rfl) rfl rfl) rfl (jx_e855 p0 p1 p2 p3 p4 p5 g1 g2 g3 g4 g5 g6 g7 g8 g9) (by omega) (by omega) rfl rfl ?_
  refine jw.steps F jx_i439 1 (pc' := 371) (l' := [(6, .int (0 : Int32)), (5, .int (0 : Int32)), (0, .ref 1000002), (1, .ref 0), (2, .ref 178), (3, .ref 226), (4, .int (0 : Int32))]) (st' := [.int (0 : Int32), .int (0 : Int32)]) rfl ?_
  refine jw.br F jx_i439 (pc' := 376) (st' := []) rfl (jv_bc_eq.trans (jx_got (by decide))) ?_
  refine jw.steps F jx_i439 1 (pc' := 378) (l' := [(6, .int (0 : Int32)), (5, .int (0 : Int32)), (0, .ref 1000002), (1, .ref 0), (2, .ref 178), (3, .ref 226), (4, .int (0 : Int32))]) (st' := [.int (0 : Int32)]) rfl ?_
  refine jw.br F jx_i439 (pc' := 381) (st' := []) rfl (jv_bi_ne.trans (jx_gof (by decide))) ?_
  refine jw.steps F jx_i439 2 (pc' := 383) (l' := [(6, .int (0 : Int32)), (5, .int (0 : Int32)), (0, .ref 1000002), (1, .ref 0), (2, .ref 178), (3, .ref 226), (4, .int (0 : Int32))]) (st' := [.int (0 : Int32), .ref 226]) rfl ?_
  refine jw.me F jx_i439 (pc' := 384) (st' := [.long (0 : Int64)]) rfl rfl (jv_m_laldv rfl rfl (by decide) rfl rfl) ?_
  refine jw.steps F jx_i439 3 (pc' := 388) (l' := [(6, .int (0 : Int32)), (5, .int (0 : Int32)), (0, .ref 1000002), (1, .ref 0), (2, .ref 178), (3, .ref 226), (4, .int (0 : Int32))]) (st' := [.int (0 : Int32)]) rfl ?_
  refine jw.br F jx_i439 (pc' := 393) (st' := []) rfl (jv_bi_eq.trans (jx_got (by decide))) ?_
  refine jw.steps F jx_i439 5 (pc' := 26) (l' := [(4, .int (6 : Int32)), (6, .int (0 : Int32)), (5, .int (0 : Int32)), (0, .ref 1000002), (1, .ref 0), (2, .ref 178), (3, .ref 226)]) (st' := [.ref 1000002, .int (6 : Int32)]) rfl ?_
  refine jw.slen F jx_i439 hX hbB hE2 (pc' := 27) rfl rfl rfl ?_
  refine jw.steps F jx_i439 2 (pc' := 30) (l' := [(4, .int (6 : Int32)), (6, .int (0 : Int32)), (5, .int (0 : Int32)), (0, .ref 1000002), (1, .ref 0), (2, .ref 178), (3, .ref 226)]) (st' := [.int (0 : Int32), .int (6 : Int32)]) rfl ?_
  refine jw.br F jx_i439 (pc' := 1531) (st' := []) rfl (jv_bc_gt.trans (jx_got (by decide))) ?_
  refine jw.steps F jx_i439 1 (pc' := 1532) (l' := [(4, .int (6 : Int32)), (6, .int (0 : Int32)), (5, .int (0 : Int32)), (0, .ref 1000002), (1, .ref 0), (2, .ref 178), (3, .ref 226)]) (st' := [.int (1 : Int32)]) rfl ?_
  exact hQ _ _ _ _ (by omega) (by omega)

set_option maxRecDepth 100000 in
/-- ProgramBox$Store.isShape -/
theorem jx_e856 (p0 : Int32) (p1 : Int32) (p2 : Int32) (p3 : Int32) (p4 : Int32) (p5 : Int32) (g1 : ¬ p1 = (2 : Int32)) (g2 : p1 = (0 : Int32)) (g3 : ¬ p2 = (4 : Int32)) : jv_Ms 123 [.int p1, .int p2, .int p3, .int p4] (jv_H (jx_K 227) jx_If jx_L0 (jx_R 227)) 227 1572950 (some (.int (0 : Int32)), (jv_H (jx_K 227) jx_If jx_L0 (jx_R 227)), 227, 1572950) := by
  show jv_Ev 123 0 [(0, .int p1), (1, .int p2), (2, .int p3), (3, .int p4)] [] (jv_H (jx_K 227) jx_If jx_L0 (jx_R 227)) 227 1572950 _
  refine jv_Ev.steps jv_i123 2 (pc' := 2) (l' := [(0, .int p1), (1, .int p2), (2, .int p3), (3, .int p4)]) (st' := [.int (2 : Int32), .int p1]) rfl ?_
  refine jv_Ev.br jv_i123 (pc' := 40) (st' := []) rfl (jv_bc_ne.trans (jx_got (by rw [g2] <;> decide))) ?_
  refine jv_Ev.steps jv_i123 1 (pc' := 41) (l' := [(0, .int p1), (1, .int p2), (2, .int p3), (3, .int p4)]) (st' := [.int p1]) rfl ?_
  refine jv_Ev.br jv_i123 (pc' := 44) (st' := []) rfl (jv_bi_ne.trans (jx_gof (by rw [g2] <;> decide))) ?_
  refine jv_Ev.steps jv_i123 2 (pc' := 46) (l' := [(0, .int p1), (1, .int p2), (2, .int p3), (3, .int p4)]) (st' := [.int (4 : Int32), .int p2]) rfl ?_
  refine jv_Ev.br jv_i123 (pc' := 53) (st' := []) rfl (jv_bc_ne.trans (jx_got g3)) ?_
  refine jv_Ev.steps jv_i123 4 (pc' := 82) (l' := [(4, .int (0 : Int32)), (0, .int p1), (1, .int p2), (2, .int p3), (3, .int p4)]) (st' := [.int (0 : Int32)]) rfl ?_
  refine jv_Ev.br jv_i123 (pc' := 113) (st' := []) rfl (jv_bi_eq.trans (jx_got (by decide))) ?_
  refine jv_Ev.steps jv_i123 1 (pc' := 114) (l' := [(4, .int (0 : Int32)), (0, .int p1), (1, .int p2), (2, .int p3), (3, .int p4)]) (st' := [.int (0 : Int32)]) rfl ?_
  exact jv_Ev.ret jv_i123 rfl (jv_ret_b (by decide))

set_option maxRecDepth 100000 in
/-- ProgramBox.make: it throws -/
theorem jx_e857 (hTb : jv_TOk jv_Tb) (p0 : Int32) (p1 : Int32) (p2 : Int32) (p3 : Int32) (p4 : Int32) (p5 : Int32) (g1 : ¬ p1 = (2 : Int32)) (g2 : p1 = (0 : Int32)) (g3 : ¬ p2 = (4 : Int32)) : jx_Th 420 [.ref 0, .int p1, .int p2, .int p3, .int p4] (jv_H (jx_K 227) jx_If jx_L0 (jx_R 227)) 227 1572950 1 (jv_H (jx_K 227) jx_If jx_L0 (jx_R 227)) 228 1572956 := by
  refine jx_Th.of hTb (y := 420) rfl (Nat.le_of_ble_eq_true rfl) ?_
  intro p l e R s m args below meth c E hl F hZ h0 ht hRc hRs
  show jw p l e R s m args below meth c E 5 227 1572950 _ 0 [(0, .ref 0), (1, .int p1), (2, .int p2), (3, .int p3), (4, .int p4)] [] (jv_H (jx_K 227) jx_If jx_L0 (jx_R 227)) 227 1572950
  refine jw.steps F jv_i420 4 (pc' := 5) (l' := [(0, .ref 0), (1, .int p1), (2, .int p2), (3, .int p3), (4, .int p4)]) (st' := [.int p4, .int p3, .int p2, .int p1]) rfl ?_
  refine jw.ca hTb F jv_i420 (pc' := 8) (S' := [.int (0 : Int32)]) rfl jv_i123 [.int p1, .int p2, .int p3, .int p4] rfl rfl rfl rfl rfl rfl (jx_e856 p0 p1 p2 p3 p4 p5 g1 g2 g3) (by omega) (by omega) rfl rfl ?_
  refine jw.br F jv_i420 (pc' := 11) (st' := []) rfl (jv_bi_ne.trans (jx_gof (by decide))) ?_
  exact jw.throw hl F hZ h0 rfl jv_i420 ht 1 69 "no map is like this" (List.mem_of_getElem? (i := 2) rfl) (by decide +kernel) (by decide +kernel) (by decide +kernel) (by decide +kernel) (by decide +kernel) rfl (by decide) (by decide) (by decide) (by omega) (by omega)

set_option maxRecDepth 100000 in
/-- the law's make -/
theorem jx_w858 (hTb : jv_TOk jv_Tb) (hT2 : jx_T2Ok) (p0 : Int32) (p1 : Int32) (p2 : Int32) (p3 : Int32) (p4 : Int32) (p5 : Int32) (g1 : ¬ p1 = (2 : Int32)) (g2 : p1 = (0 : Int32)) (g3 : ¬ p2 = (4 : Int32)) : jx_Wr 442 [(0, 14, 17, 19), (0, 14, 21, 13)] [.ref 0, .int p1, .int p2, .int p3, .int p4, .ref 226] (jv_H (jx_K 227) jx_If jx_L0 (jx_R 227)) 227 1572950 (some (.int (1 : Int32)), (jv_H (jx_K 227) jx_If jx_L0 (jx_R 227)), 228, 1572956) := by
  refine jx_Wr.of hT2 (by decide) rfl (Nat.le_of_ble_eq_true rfl) ?_
  intro p l e R s m args below meth c E hl F hZ htb hRc hRs
  show jw p l e R s m args below meth c E 7 227 1572950 _ 0 [(0, .ref 0), (1, .int p1), (2, .int p2), (3, .int p3), (4, .int p4), (5, .ref 226)] [] (jv_H (jx_K 227) jx_If jx_L0 (jx_R 227)) 227 1572950
  have hRc : R.cells = 228 - 227 := hRc
  have hRs : R.slots = 1572956 - 1572950 := hRs
  refine jw.steps F jx_i442 7 (pc' := 9) (l' := [(0, .ref 0), (1, .int p1), (2, .int p2), (3, .int p3), (4, .int p4), (5, .ref 226)]) (st' := [.int p4, .int p3, .int p2, .int p1, .ref 0, .int (0 : Int32), .ref 226]) rfl ?_
  refine jw.cat hTb hl F hZ rfl jx_i442 htb rfl jv_i420 [.ref 0, .int p1, .int p2, .int p3, .int p4] rfl rfl rfl rfl rfl (jx_cal2 rfl (jv_H_at rfl) rfl rfl) rfl (jx_e857 hTb p0 p1 p2 p3 p4 p5 g1 g2 g3) (by omega) (by omega) (by omega) (by omega) [] (0, 14, 17, 19) [(0, 14, 21, 13)] rfl (fun z h => absurd h List.not_mem_nil) (by decide) rfl rfl (Or.inl ⟨rfl, rfl⟩) (by decide) ?_
  refine jw.steps F jx_i442 1 (pc' := 20) (l' := []) (st' := [.int (1 : Int32)]) rfl ?_
  exact jw.ret F jx_i442 rfl rfl

set_option maxRecDepth 100000 in
/-- ProgramBoxModel$Store.isProper -/
theorem jx_e859 (p0 : Int32) (p1 : Int32) (p2 : Int32) (p3 : Int32) (p4 : Int32) (p5 : Int32) (g1 : ¬ p1 = (2 : Int32)) (g2 : p1 = (0 : Int32)) (g3 : ¬ p2 = (4 : Int32)) : jv_Ms 322 [.int p1, .int p2, .int p3, .int p4] (jv_H (jx_K 227) jx_If jx_L0 (jx_R 227)) 228 1572956 (some (.int (0 : Int32)), (jv_H (jx_K 227) jx_If jx_L0 (jx_R 227)), 228, 1572956) := by
  show jv_Ev 322 0 [(0, .int p1), (1, .int p2), (2, .int p3), (3, .int p4)] [] (jv_H (jx_K 227) jx_If jx_L0 (jx_R 227)) 228 1572956 _
  refine jv_Ev.steps jv_i322 2 (pc' := 2) (l' := [(0, .int p1), (1, .int p2), (2, .int p3), (3, .int p4)]) (st' := [.int (2 : Int32), .int p1]) rfl ?_
  refine jv_Ev.br jv_i322 (pc' := 38) (st' := []) rfl (jv_bc_ne.trans (jx_got (by rw [g2] <;> decide))) ?_
  refine jv_Ev.steps jv_i322 1 (pc' := 39) (l' := [(0, .int p1), (1, .int p2), (2, .int p3), (3, .int p4)]) (st' := [.int p1]) rfl ?_
  refine jv_Ev.br jv_i322 (pc' := 42) (st' := []) rfl (jv_bi_ne.trans (jx_gof (by rw [g2] <;> decide))) ?_
  refine jv_Ev.steps jv_i322 2 (pc' := 44) (l' := [(0, .int p1), (1, .int p2), (2, .int p3), (3, .int p4)]) (st' := [.int (4 : Int32), .int p2]) rfl ?_
  refine jv_Ev.br jv_i322 (pc' := 51) (st' := []) rfl (jv_bc_ne.trans (jx_got g3)) ?_
  refine jv_Ev.steps jv_i322 4 (pc' := 79) (l' := [(4, .int (0 : Int32)), (0, .int p1), (1, .int p2), (2, .int p3), (3, .int p4)]) (st' := [.int (0 : Int32)]) rfl ?_
  refine jv_Ev.br jv_i322 (pc' := 108) (st' := []) rfl (jv_bi_eq.trans (jx_got (by decide))) ?_
  refine jv_Ev.steps jv_i322 1 (pc' := 109) (l' := [(4, .int (0 : Int32)), (0, .int p1), (1, .int p2), (2, .int p3), (3, .int p4)]) (st' := [.int (0 : Int32)]) rfl ?_
  exact jv_Ev.ret jv_i322 rfl (jv_ret_b (by decide))

set_option maxRecDepth 100000 in
/-- ProgramBoxModel$Store.make -/
theorem jx_e860 (p0 : Int32) (p1 : Int32) (p2 : Int32) (p3 : Int32) (p4 : Int32) (p5 : Int32) (g1 : ¬ p1 = (2 : Int32)) (g2 : p1 = (0 : Int32)) (g3 : ¬ p2 = (4 : Int32)) : jv_Ms 323 [.ref 180, .int p1, .int p2, .int p3, .int p4] (jv_H (jx_K 227) jx_If jx_L0 (jx_R 227)) 228 1572956 (some (.int (0 : Int32)), (jv_H (jx_K 227) (jv_u jx_If 180 0 (1 : Int32)) jx_L0 (jx_R 227)), 228, 1572956) := by
  show jv_Ev 323 0 [(0, .ref 180), (1, .int p1), (2, .int p2), (3, .int p3), (4, .int p4)] [] (jv_H (jx_K 227) jx_If jx_L0 (jx_R 227)) 228 1572956 _
  refine jv_Ev.steps jv_i323 5 (pc' := 6) (l' := [(0, .ref 180), (1, .int p1), (2, .int p2), (3, .int p3), (4, .int p4)]) (st' := [.int p4, .int p3, .int p2, .int p1, .ref 180]) rfl ?_
  refine jv_Ev.c jv_i323 (pc' := 9) (S' := [.int (0 : Int32), .ref 180]) jv_i322 [.int p1, .int p2, .int p3, .int p4] rfl rfl rfl rfl rfl rfl (jx_e859 p0 p1 p2 p3 p4 p5 g1 g2 g3) rfl rfl ?_
  refine jv_Ev.br jv_i323 (pc' := 16) (st' := [.ref 180]) rfl (jv_bi_eq.trans (jx_got (by decide))) ?_
  refine jv_Ev.steps jv_i323 1 (pc' := 17) (l' := [(0, .ref 180), (1, .int p1), (2, .int p2), (3, .int p3), (4, .int p4)]) (st' := [.int (1 : Int32), .ref 180]) rfl ?_
  refine jv_Ev.m jv_i323 (pc' := 20) (st' := []) rfl rfl (jv_m_putI rfl rfl rfl rfl rfl) ?_
  refine jv_Ev.steps jv_i323 1 (pc' := 21) (l' := [(0, .ref 180), (1, .int p1), (2, .int p2), (3, .int p3), (4, .int p4)]) (st' := [.ref 180]) rfl ?_
  refine jv_Ev.m jv_i323 (pc' := 24) (st' := [.int (1 : Int32)]) rfl rfl (jv_m_getI rfl rfl rfl rfl) ?_
  refine jv_Ev.br jv_i323 (pc' := 27) (st' := []) rfl (jv_bi_le.trans (jx_gof (by decide))) ?_
  refine jv_Ev.steps jv_i323 1 (pc' := 28) (l' := [(0, .ref 180), (1, .int p1), (2, .int p2), (3, .int p3), (4, .int p4)]) (st' := [.int (0 : Int32)]) rfl ?_
  exact jv_Ev.ret jv_i323 rfl rfl

set_option maxRecDepth 100000 in
/-- ProgramBoxModel$Store.thrown -/
theorem jx_e861 (p0 : Int32) (p1 : Int32) (p2 : Int32) (p3 : Int32) (p4 : Int32) (p5 : Int32) (g1 : ¬ p1 = (2 : Int32)) (g2 : p1 = (0 : Int32)) (g3 : ¬ p2 = (4 : Int32)) : jv_Ms 318 [.ref 180] (jv_H (jx_K 227) (jv_u jx_If 180 0 (1 : Int32)) jx_L0 (jx_R 227)) 228 1572956 (some (.int (1 : Int32)), (jv_H (jx_K 227) (jv_u jx_If 180 0 (1 : Int32)) jx_L0 (jx_R 227)), 228, 1572956) := by
  show jv_Ev 318 0 [(0, .ref 180)] [] (jv_H (jx_K 227) (jv_u jx_If 180 0 (1 : Int32)) jx_L0 (jx_R 227)) 228 1572956 _
  refine jv_Ev.steps jv_i318 1 (pc' := 1) (l' := [(0, .ref 180)]) (st' := [.ref 180]) rfl ?_
  refine jv_Ev.m jv_i318 (pc' := 4) (st' := [.int (1 : Int32)]) rfl rfl (jv_m_getI rfl rfl rfl rfl) ?_
  exact jv_Ev.ret jv_i318 rfl rfl

set_option maxRecDepth 100000 in
/-- ProgramBoxModel.make -/
theorem jx_e862 (p0 : Int32) (p1 : Int32) (p2 : Int32) (p3 : Int32) (p4 : Int32) (p5 : Int32) (g1 : ¬ p1 = (2 : Int32)) (g2 : p1 = (0 : Int32)) (g3 : ¬ p2 = (4 : Int32)) : jv_Ms 353 [.ref 178, .int p1, .int p2, .int p3, .int p4] (jv_H (jx_K 227) jx_If jx_L0 (jx_R 227)) 228 1572956 (some (.int (0 : Int32)), (jv_H (jx_K 227) (jv_u (jv_u jx_If 180 0 (1 : Int32)) 178 0 (1 : Int32)) jx_L0 (jx_R 227)), 228, 1572956) := by
  show jv_Ev 353 0 [(0, .ref 178), (1, .int p1), (2, .int p2), (3, .int p3), (4, .int p4)] [] (jv_H (jx_K 227) jx_If jx_L0 (jx_R 227)) 228 1572956 _
  refine jv_Ev.steps jv_i353 1 (pc' := 1) (l' := [(0, .ref 178), (1, .int p1), (2, .int p2), (3, .int p3), (4, .int p4)]) (st' := [.ref 178]) rfl ?_
  refine jv_Ev.m jv_i353 (pc' := 4) (st' := [.ref 180]) rfl rfl (jv_m_getR rfl rfl rfl rfl) ?_
  refine jv_Ev.steps jv_i353 4 (pc' := 9) (l' := [(0, .ref 178), (1, .int p1), (2, .int p2), (3, .int p3), (4, .int p4)]) (st' := [.int p4, .int p3, .int p2, .int p1, .ref 180]) rfl ?_
  refine jv_Ev.c jv_i353 (pc' := 12) (S' := [.int (0 : Int32)]) jv_i323 [.ref 180, .int p1, .int p2, .int p3, .int p4] rfl rfl rfl rfl (jv_cal rfl (jv_H_at rfl) rfl rfl) rfl (jx_e860 p0 p1 p2 p3 p4 p5 g1 g2 g3) rfl rfl ?_
  refine jv_Ev.steps jv_i353 3 (pc' := 16) (l' := [(5, .int (0 : Int32)), (0, .ref 178), (1, .int p1), (2, .int p2), (3, .int p3), (4, .int p4)]) (st' := [.ref 178, .ref 178]) rfl ?_
  refine jv_Ev.m jv_i353 (pc' := 19) (st' := [.ref 180, .ref 178]) rfl rfl (jv_m_getR rfl rfl rfl rfl) ?_
  refine jv_Ev.c jv_i353 (pc' := 22) (S' := [.int (1 : Int32), .ref 178]) jv_i318 [.ref 180] rfl rfl rfl rfl (jv_cal rfl (jv_H_at rfl) rfl rfl) rfl (jx_e861 p0 p1 p2 p3 p4 p5 g1 g2 g3) rfl rfl ?_
  refine jv_Ev.m jv_i353 (pc' := 25) (st' := []) rfl rfl (jv_m_putI rfl rfl rfl rfl rfl) ?_
  refine jv_Ev.steps jv_i353 1 (pc' := 26) (l' := [(5, .int (0 : Int32)), (0, .ref 178), (1, .int p1), (2, .int p2), (3, .int p3), (4, .int p4)]) (st' := [.ref 178]) rfl ?_
  refine jv_Ev.m jv_i353 (pc' := 29) (st' := [.int (1 : Int32)]) rfl rfl (jv_m_getI rfl rfl rfl rfl) ?_
  refine jv_Ev.br jv_i353 (pc' := 67) (st' := []) rfl (jv_bi_ne.trans (jx_got (by decide))) ?_
  refine jv_Ev.steps jv_i353 1 (pc' := 69) (l' := [(5, .int (0 : Int32)), (0, .ref 178), (1, .int p1), (2, .int p2), (3, .int p3), (4, .int p4)]) (st' := [.int (0 : Int32)]) rfl ?_
  exact jv_Ev.ret jv_i353 rfl rfl

set_option maxRecDepth 100000 in
/-- ProgramBoxModel.thrown -/
theorem jx_e863 (p0 : Int32) (p1 : Int32) (p2 : Int32) (p3 : Int32) (p4 : Int32) (p5 : Int32) (g1 : ¬ p1 = (2 : Int32)) (g2 : p1 = (0 : Int32)) (g3 : ¬ p2 = (4 : Int32)) : jv_Ms 350 [.ref 178] (jv_H (jx_K 227) (jv_u (jv_u jx_If 180 0 (1 : Int32)) 178 0 (1 : Int32)) jx_L0 (jx_R 227)) 228 1572956 (some (.int (1 : Int32)), (jv_H (jx_K 227) (jv_u (jv_u jx_If 180 0 (1 : Int32)) 178 0 (1 : Int32)) jx_L0 (jx_R 227)), 228, 1572956) := by
  show jv_Ev 350 0 [(0, .ref 178)] [] (jv_H (jx_K 227) (jv_u (jv_u jx_If 180 0 (1 : Int32)) 178 0 (1 : Int32)) jx_L0 (jx_R 227)) 228 1572956 _
  refine jv_Ev.steps jv_i350 1 (pc' := 1) (l' := [(0, .ref 178)]) (st' := [.ref 178]) rfl ?_
  refine jv_Ev.m jv_i350 (pc' := 4) (st' := [.int (1 : Int32)]) rfl rfl (jv_m_getI rfl rfl rfl rfl) ?_
  exact jv_Ev.ret jv_i350 rfl rfl

set_option maxRecDepth 100000 in
/-- the law: case 2, one way -/
theorem jx_l97 (p0 : Int32) (p1 : Int32) (p2 : Int32) (p3 : Int32) (p4 : Int32) (p5 : Int32) (g1 : ¬ p1 = (2 : Int32)) (g2 : p1 = (0 : Int32)) (g3 : ¬ p2 = (4 : Int32)) (hsw : p0 &&& (31 : Int32) = (2 : Int32)) {p : Program} {l : Launch} {e : Env} {R : Room} {s : State} {m : MethodId} {args : Array Value} {below : List Frame} {meth : Method} {c : Code} {E : jv_Env} {Q : State → Prop} (hTb : jv_TOk jv_Tb) (hT2 : jx_T2Ok) (hl : l.stackTraces = false) (F : jx_F jv_T2 439 E p R s m args meth c) (hZ : jx_Z E s) (hRc : R.cells = 600002) (hRs : R.slots = 7302232) {bb : Nat} {xs : Nat → Int32} (hX : va_X bb 6 xs s E.2.2.2.2) (hbB : bb < E.2.2.2.1) (hE2 : E.1 1000002 = bb) (hQ : ∀ (l0 : jv_L) (G : jv_G) (n sl : Nat), n ≤ 600002 → sl ≤ 7302232 → jw p l e R s m args below meth c E 8 0 0 Q 1532 l0 [.int (1 : Int32)] G n sl) (q0 : xs 0 = p0) (q1 : xs 1 = p1) (q2 : xs 2 = p2) (q3 : xs 3 = p3) (q4 : xs 4 = p4) (q5 : xs 5 = p5) : jw p l e R s m args below meth c E 8 0 0 Q 33 [(0, .ref 1000002), (1, .ref 0), (2, .ref 178), (3, .ref 226), (4, .int (0 : Int32))] [] (jv_H (jx_K 227) jx_If jx_L0 (jx_R 227)) 227 1572950 := by
  refine jw.steps F jx_i439 2 (pc' := 36) (l' := [(0, .ref 1000002), (1, .ref 0), (2, .ref 178), (3, .ref 226), (4, .int (0 : Int32))]) (st' := [.int (0 : Int32), .ref 1000002]) rfl ?_
  refine jw.sld F jx_i439 hX hbB hE2 (pc' := 37) rfl rfl (show vp_in (nI 0) 6 from vp_in_nI (by decide) (by decide)) q0 rfl ?_
  refine jw.steps F jx_i439 2 (pc' := 40) (l' := [(0, .ref 1000002), (1, .ref 0), (2, .ref 178), (3, .ref 226), (4, .int (0 : Int32))]) (st' := [.int (p0 &&& (31 : Int32))]) rfl ?_
  refine jw.br F jx_i439 (pc' := 304) (st' := []) rfl (by rw [hsw]; rfl) ?_
  refine jw.steps F jx_i439 5 (pc' := 310) (l' := [(0, .ref 1000002), (1, .ref 0), (2, .ref 178), (3, .ref 226), (4, .int (0 : Int32))]) (st' := [.int (1 : Int32), .ref 1000002, .ref 0]) rfl ?_
  refine jw.sld F jx_i439 hX hbB hE2 (pc' := 311) rfl rfl (show vp_in (nI 1) 6 from vp_in_nI (by decide) (by decide)) q1 rfl ?_
  refine jw.steps F jx_i439 4 (pc' := 316) (l' := [(0, .ref 1000002), (1, .ref 0), (2, .ref 178), (3, .ref 226), (4, .int (0 : Int32))]) (st' := [.int (2 : Int32), .ref 1000002, .int p1, .ref 0]) rfl ?_
  refine jw.sld F jx_i439 hX hbB hE2 (pc' := 317) rfl rfl (show vp_in (nI 2) 6 from vp_in_nI (by decide) (by decide)) q2 rfl ?_
  refine jw.steps F jx_i439 4 (pc' := 322) (l' := [(0, .ref 1000002), (1, .ref 0), (2, .ref 178), (3, .ref 226), (4, .int (0 : Int32))]) (st' := [.int (3 : Int32), .ref 1000002, .int p2, .int p1, .ref 0]) rfl ?_
  refine jw.sld F jx_i439 hX hbB hE2 (pc' := 323) rfl rfl (show vp_in (nI 3) 6 from vp_in_nI (by decide) (by decide)) q3 rfl ?_
  refine jw.steps F jx_i439 4 (pc' := 328) (l' := [(0, .ref 1000002), (1, .ref 0), (2, .ref 178), (3, .ref 226), (4, .int (0 : Int32))]) (st' := [.int (4 : Int32), .ref 1000002, .int p3, .int p2, .int p1, .ref 0]) rfl ?_
  refine jw.sld F jx_i439 hX hbB hE2 (pc' := 329) rfl rfl (show vp_in (nI 4) 6 from vp_in_nI (by decide) (by decide)) q4 rfl ?_
  refine jw.steps F jx_i439 1 (pc' := 330) (l' := [(0, .ref 1000002), (1, .ref 0), (2, .ref 178), (3, .ref 226), (4, .int (0 : Int32))]) (st' := [.ref 226, .int p4, .int p3, .int p2, .int p1, .ref 0]) rfl ?_
  refine jw.wr F hl hZ rfl jx_i439 jx_i442 [.ref 0, .int p1, .int p2, .int p3, .int p4, .ref 226] (pc' := 333) (S' := [.int (1 : Int32)]) rfl (List.mem_of_getElem? (i := 2) rfl) (List.mem_of_getElem? (i := 2) rfl) rfl rfl rfl (jx_w858 hTb hT2 p0 p1 p2 p3 p4 p5 g1 g2 g3) (by omega) (by omega) (by omega) (by omega) rfl rfl ?_
  refine jw.steps F jx_i439 6 (pc' := 341) (l' := [(5, .int (1 : Int32)), (0, .ref 1000002), (1, .ref 0), (2, .ref 178), (3, .ref 226), (4, .int (0 : Int32))]) (st' := [.int (1 : Int32), .ref 1000002, .ref 178]) rfl ?_
  refine jw.sld F jx_i439 hX hbB hE2 (pc' := 342) rfl rfl (show vp_in (nI 1) 6 from vp_in_nI (by decide) (by decide)) q1 rfl ?_
  refine jw.steps F jx_i439 4 (pc' := 347) (l' := [(5, .int (1 : Int32)), (0, .ref 1000002), (1, .ref 0), (2, .ref 178), (3, .ref 226), (4, .int (0 : Int32))]) (st' := [.int (2 : Int32), .ref 1000002, .int p1, .ref 178]) rfl ?_
  refine jw.sld F jx_i439 hX hbB hE2 (pc' := 348) rfl rfl (show vp_in (nI 2) 6 from vp_in_nI (by decide) (by decide)) q2 rfl ?_
  refine jw.steps F jx_i439 4 (pc' := 353) (l' := [(5, .int (1 : Int32)), (0, .ref 1000002), (1, .ref 0), (2, .ref 178), (3, .ref 226), (4, .int (0 : Int32))]) (st' := [.int (3 : Int32), .ref 1000002, .int p2, .int p1, .ref 178]) rfl ?_
  refine jw.sld F jx_i439 hX hbB hE2 (pc' := 354) rfl rfl (show vp_in (nI 3) 6 from vp_in_nI (by decide) (by decide)) q3 rfl ?_
  refine jw.steps F jx_i439 4 (pc' := 359) (l' := [(5, .int (1 : Int32)), (0, .ref 1000002), (1, .ref 0), (2, .ref 178), (3, .ref 226), (4, .int (0 : Int32))]) (st' := [.int (4 : Int32), .ref 1000002, .int p3, .int p2, .int p1, .ref 178]) rfl ?_
  refine jw.sld F jx_i439 hX hbB hE2 (pc' := 360) rfl rfl (show vp_in (nI 4) 6 from vp_in_nI (by decide) (by decide)) q4 rfl ?_
  refine jw.ca hTb F jx_i439 (pc' := 363) (S' := [.int (0 : Int32)]) rfl jv_i353 [.ref 178, .int p1, .int p2, .int p3, .int p4] rfl rfl rfl rfl (jx_cal2 rfl (jv_H_at rfl) rfl rfl) rfl (jx_e862 p0 p1 p2 p3 p4 p5 g1 g2 g3) (by omega) (by omega) rfl rfl ?_
  refine jw.steps F jx_i439 2 (pc' := 366) (l' := [(6, .int (0 : Int32)), (5, .int (1 : Int32)), (0, .ref 1000002), (1, .ref 0), (2, .ref 178), (3, .ref 226), (4, .int (0 : Int32))]) (st' := [.ref 178]) rfl ?_
  refine jw.ca hTb F jx_i439 (pc' := 369) (S' := [.int (1 : Int32)]) rfl jv_i350 [.ref 178] rfl rfl rfl rfl (jx_cal2 rfl (jv_H_at rfl) rfl rfl) rfl (jx_e863 p0 p1 p2 p3 p4 p5 g1 g2 g3) (by omega) (by omega) rfl rfl ?_
  refine jw.steps F jx_i439 1 (pc' := 371) (l' := [(6, .int (0 : Int32)), (5, .int (1 : Int32)), (0, .ref 1000002), (1, .ref 0), (2, .ref 178), (3, .ref 226), (4, .int (0 : Int32))]) (st' := [.int (1 : Int32), .int (1 : Int32)]) rfl ?_
  refine jw.br F jx_i439 (pc' := 376) (st' := []) rfl (jv_bc_eq.trans (jx_got (by decide))) ?_
  refine jw.steps F jx_i439 1 (pc' := 378) (l' := [(6, .int (0 : Int32)), (5, .int (1 : Int32)), (0, .ref 1000002), (1, .ref 0), (2, .ref 178), (3, .ref 226), (4, .int (0 : Int32))]) (st' := [.int (1 : Int32)]) rfl ?_
  refine jw.br F jx_i439 (pc' := 393) (st' := []) rfl (jv_bi_ne.trans (jx_got (by decide))) ?_
  refine jw.steps F jx_i439 5 (pc' := 26) (l' := [(4, .int (6 : Int32)), (6, .int (0 : Int32)), (5, .int (1 : Int32)), (0, .ref 1000002), (1, .ref 0), (2, .ref 178), (3, .ref 226)]) (st' := [.ref 1000002, .int (6 : Int32)]) rfl ?_
  refine jw.slen F jx_i439 hX hbB hE2 (pc' := 27) rfl rfl rfl ?_
  refine jw.steps F jx_i439 2 (pc' := 30) (l' := [(4, .int (6 : Int32)), (6, .int (0 : Int32)), (5, .int (1 : Int32)), (0, .ref 1000002), (1, .ref 0), (2, .ref 178), (3, .ref 226)]) (st' := [.int (0 : Int32), .int (6 : Int32)]) rfl ?_
  refine jw.br F jx_i439 (pc' := 1531) (st' := []) rfl (jv_bc_gt.trans (jx_got (by decide))) ?_
  refine jw.steps F jx_i439 1 (pc' := 1532) (l' := [(4, .int (6 : Int32)), (6, .int (0 : Int32)), (5, .int (1 : Int32)), (0, .ref 1000002), (1, .ref 0), (2, .ref 178), (3, .ref 226)]) (st' := [.int (1 : Int32)]) rfl ?_
  exact hQ _ _ _ _ (by omega) (by omega)

set_option maxRecDepth 100000 in
/-- ProgramBox$Store.isShape -/
theorem jx_e864 (p0 : Int32) (p1 : Int32) (p2 : Int32) (p3 : Int32) (p4 : Int32) (p5 : Int32) (g1 : ¬ p1 = (2 : Int32)) (g2 : ¬ p1 = (0 : Int32)) (g3 : p1 = (1 : Int32)) (g4 : p2 < (1 : Int32)) : jv_Ms 123 [.int p1, .int p2, .int p3, .int p4] (jv_H (jx_K 227) jx_If jx_L0 (jx_R 227)) 227 1572950 (some (.int (0 : Int32)), (jv_H (jx_K 227) jx_If jx_L0 (jx_R 227)), 227, 1572950) := by
  show jv_Ev 123 0 [(0, .int p1), (1, .int p2), (2, .int p3), (3, .int p4)] [] (jv_H (jx_K 227) jx_If jx_L0 (jx_R 227)) 227 1572950 _
  refine jv_Ev.steps jv_i123 2 (pc' := 2) (l' := [(0, .int p1), (1, .int p2), (2, .int p3), (3, .int p4)]) (st' := [.int (2 : Int32), .int p1]) rfl ?_
  refine jv_Ev.br jv_i123 (pc' := 40) (st' := []) rfl (jv_bc_ne.trans (jx_got (by rw [g3] <;> decide))) ?_
  refine jv_Ev.steps jv_i123 1 (pc' := 41) (l' := [(0, .int p1), (1, .int p2), (2, .int p3), (3, .int p4)]) (st' := [.int p1]) rfl ?_
  refine jv_Ev.br jv_i123 (pc' := 57) (st' := []) rfl (jv_bi_ne.trans (jx_got (by rw [g3] <;> decide))) ?_
  refine jv_Ev.steps jv_i123 2 (pc' := 59) (l' := [(0, .int p1), (1, .int p2), (2, .int p3), (3, .int p4)]) (st' := [.int (1 : Int32), .int p1]) rfl ?_
  refine jv_Ev.br jv_i123 (pc' := 62) (st' := []) rfl (jv_bc_ne.trans (jx_gof (by rw [g3] <;> decide))) ?_
  refine jv_Ev.steps jv_i123 2 (pc' := 64) (l' := [(0, .int p1), (1, .int p2), (2, .int p3), (3, .int p4)]) (st' := [.int (1 : Int32), .int p2]) rfl ?_
  refine jv_Ev.br jv_i123 (pc' := 77) (st' := []) rfl (jv_bc_lt.trans (jx_got g4)) ?_
  refine jv_Ev.steps jv_i123 3 (pc' := 82) (l' := [(4, .int (0 : Int32)), (0, .int p1), (1, .int p2), (2, .int p3), (3, .int p4)]) (st' := [.int (0 : Int32)]) rfl ?_
  refine jv_Ev.br jv_i123 (pc' := 113) (st' := []) rfl (jv_bi_eq.trans (jx_got (by decide))) ?_
  refine jv_Ev.steps jv_i123 1 (pc' := 114) (l' := [(4, .int (0 : Int32)), (0, .int p1), (1, .int p2), (2, .int p3), (3, .int p4)]) (st' := [.int (0 : Int32)]) rfl ?_
  exact jv_Ev.ret jv_i123 rfl (jv_ret_b (by decide))

set_option maxRecDepth 100000 in
/-- ProgramBox.make: it throws -/
theorem jx_e865 (hTb : jv_TOk jv_Tb) (p0 : Int32) (p1 : Int32) (p2 : Int32) (p3 : Int32) (p4 : Int32) (p5 : Int32) (g1 : ¬ p1 = (2 : Int32)) (g2 : ¬ p1 = (0 : Int32)) (g3 : p1 = (1 : Int32)) (g4 : p2 < (1 : Int32)) : jx_Th 420 [.ref 0, .int p1, .int p2, .int p3, .int p4] (jv_H (jx_K 227) jx_If jx_L0 (jx_R 227)) 227 1572950 1 (jv_H (jx_K 227) jx_If jx_L0 (jx_R 227)) 228 1572956 := by
  refine jx_Th.of hTb (y := 420) rfl (Nat.le_of_ble_eq_true rfl) ?_
  intro p l e R s m args below meth c E hl F hZ h0 ht hRc hRs
  show jw p l e R s m args below meth c E 5 227 1572950 _ 0 [(0, .ref 0), (1, .int p1), (2, .int p2), (3, .int p3), (4, .int p4)] [] (jv_H (jx_K 227) jx_If jx_L0 (jx_R 227)) 227 1572950
  refine jw.steps F jv_i420 4 (pc' := 5) (l' := [(0, .ref 0), (1, .int p1), (2, .int p2), (3, .int p3), (4, .int p4)]) (st' := [.int p4, .int p3, .int p2, .int p1]) rfl ?_
  refine jw.ca hTb F jv_i420 (pc' := 8) (S' := [.int (0 : Int32)]) rfl jv_i123 [.int p1, .int p2, .int p3, .int p4] rfl rfl rfl rfl rfl rfl (jx_e864 p0 p1 p2 p3 p4 p5 g1 g2 g3 g4) (by omega) (by omega) rfl rfl ?_
  refine jw.br F jv_i420 (pc' := 11) (st' := []) rfl (jv_bi_ne.trans (jx_gof (by decide))) ?_
  exact jw.throw hl F hZ h0 rfl jv_i420 ht 1 69 "no map is like this" (List.mem_of_getElem? (i := 2) rfl) (by decide +kernel) (by decide +kernel) (by decide +kernel) (by decide +kernel) (by decide +kernel) rfl (by decide) (by decide) (by decide) (by omega) (by omega)

set_option maxRecDepth 100000 in
/-- the law's make -/
theorem jx_w866 (hTb : jv_TOk jv_Tb) (hT2 : jx_T2Ok) (p0 : Int32) (p1 : Int32) (p2 : Int32) (p3 : Int32) (p4 : Int32) (p5 : Int32) (g1 : ¬ p1 = (2 : Int32)) (g2 : ¬ p1 = (0 : Int32)) (g3 : p1 = (1 : Int32)) (g4 : p2 < (1 : Int32)) : jx_Wr 442 [(0, 14, 17, 19), (0, 14, 21, 13)] [.ref 0, .int p1, .int p2, .int p3, .int p4, .ref 226] (jv_H (jx_K 227) jx_If jx_L0 (jx_R 227)) 227 1572950 (some (.int (1 : Int32)), (jv_H (jx_K 227) jx_If jx_L0 (jx_R 227)), 228, 1572956) := by
  refine jx_Wr.of hT2 (by decide) rfl (Nat.le_of_ble_eq_true rfl) ?_
  intro p l e R s m args below meth c E hl F hZ htb hRc hRs
  show jw p l e R s m args below meth c E 7 227 1572950 _ 0 [(0, .ref 0), (1, .int p1), (2, .int p2), (3, .int p3), (4, .int p4), (5, .ref 226)] [] (jv_H (jx_K 227) jx_If jx_L0 (jx_R 227)) 227 1572950
  have hRc : R.cells = 228 - 227 := hRc
  have hRs : R.slots = 1572956 - 1572950 := hRs
  refine jw.steps F jx_i442 7 (pc' := 9) (l' := [(0, .ref 0), (1, .int p1), (2, .int p2), (3, .int p3), (4, .int p4), (5, .ref 226)]) (st' := [.int p4, .int p3, .int p2, .int p1, .ref 0, .int (0 : Int32), .ref 226]) rfl ?_
  refine jw.cat hTb hl F hZ rfl jx_i442 htb rfl jv_i420 [.ref 0, .int p1, .int p2, .int p3, .int p4] rfl rfl rfl rfl rfl (jx_cal2 rfl (jv_H_at rfl) rfl rfl) rfl (jx_e865 hTb p0 p1 p2 p3 p4 p5 g1 g2 g3 g4) (by omega) (by omega) (by omega) (by omega) [] (0, 14, 17, 19) [(0, 14, 21, 13)] rfl (fun z h => absurd h List.not_mem_nil) (by decide) rfl rfl (Or.inl ⟨rfl, rfl⟩) (by decide) ?_
  refine jw.steps F jx_i442 1 (pc' := 20) (l' := []) (st' := [.int (1 : Int32)]) rfl ?_
  exact jw.ret F jx_i442 rfl rfl

set_option maxRecDepth 100000 in
/-- ProgramBoxModel$Store.isIn -/
theorem jx_e867 (p0 : Int32) (p1 : Int32) (p2 : Int32) (p3 : Int32) (p4 : Int32) (p5 : Int32) (g1 : ¬ p1 = (2 : Int32)) (g2 : ¬ p1 = (0 : Int32)) (g3 : p1 = (1 : Int32)) (g4 : p2 < (1 : Int32)) : jv_Ms 320 [.int p2, .int (1 : Int32), .int (32 : Int32)] (jv_H (jx_K 227) jx_If jx_L0 (jx_R 227)) 228 1572956 (some (.int (0 : Int32)), (jv_H (jx_K 227) jx_If jx_L0 (jx_R 227)), 228, 1572956) := by
  show jv_Ev 320 0 [(0, .int p2), (1, .int (1 : Int32)), (2, .int (32 : Int32))] [] (jv_H (jx_K 227) jx_If jx_L0 (jx_R 227)) 228 1572956 _
  refine jv_Ev.steps jv_i320 2 (pc' := 2) (l' := [(0, .int p2), (1, .int (1 : Int32)), (2, .int (32 : Int32))]) (st' := [.int (1 : Int32), .int p2]) rfl ?_
  refine jv_Ev.br jv_i320 (pc' := 14) (st' := []) rfl (jv_bc_lt.trans (jx_got g4)) ?_
  refine jv_Ev.steps jv_i320 1 (pc' := 15) (l' := [(0, .int p2), (1, .int (1 : Int32)), (2, .int (32 : Int32))]) (st' := [.int (0 : Int32)]) rfl ?_
  exact jv_Ev.ret jv_i320 rfl (jv_ret_b (by decide))

set_option maxRecDepth 100000 in
/-- ProgramBoxModel$Store.isProper -/
theorem jx_e868 (p0 : Int32) (p1 : Int32) (p2 : Int32) (p3 : Int32) (p4 : Int32) (p5 : Int32) (g1 : ¬ p1 = (2 : Int32)) (g2 : ¬ p1 = (0 : Int32)) (g3 : p1 = (1 : Int32)) (g4 : p2 < (1 : Int32)) : jv_Ms 322 [.int p1, .int p2, .int p3, .int p4] (jv_H (jx_K 227) jx_If jx_L0 (jx_R 227)) 228 1572956 (some (.int (0 : Int32)), (jv_H (jx_K 227) jx_If jx_L0 (jx_R 227)), 228, 1572956) := by
  show jv_Ev 322 0 [(0, .int p1), (1, .int p2), (2, .int p3), (3, .int p4)] [] (jv_H (jx_K 227) jx_If jx_L0 (jx_R 227)) 228 1572956 _
  refine jv_Ev.steps jv_i322 2 (pc' := 2) (l' := [(0, .int p1), (1, .int p2), (2, .int p3), (3, .int p4)]) (st' := [.int (2 : Int32), .int p1]) rfl ?_
  refine jv_Ev.br jv_i322 (pc' := 38) (st' := []) rfl (jv_bc_ne.trans (jx_got (by rw [g3] <;> decide))) ?_
  refine jv_Ev.steps jv_i322 1 (pc' := 39) (l' := [(0, .int p1), (1, .int p2), (2, .int p3), (3, .int p4)]) (st' := [.int p1]) rfl ?_
  refine jv_Ev.br jv_i322 (pc' := 55) (st' := []) rfl (jv_bi_ne.trans (jx_got (by rw [g3] <;> decide))) ?_
  refine jv_Ev.steps jv_i322 2 (pc' := 57) (l' := [(0, .int p1), (1, .int p2), (2, .int p3), (3, .int p4)]) (st' := [.int (1 : Int32), .int p1]) rfl ?_
  refine jv_Ev.br jv_i322 (pc' := 60) (st' := []) rfl (jv_bc_ne.trans (jx_gof (by rw [g3] <;> decide))) ?_
  refine jv_Ev.steps jv_i322 3 (pc' := 64) (l' := [(0, .int p1), (1, .int p2), (2, .int p3), (3, .int p4)]) (st' := [.int (32 : Int32), .int (1 : Int32), .int p2]) rfl ?_
  refine jv_Ev.c jv_i322 (pc' := 67) (S' := [.int (0 : Int32)]) jv_i320 [.int p2, .int (1 : Int32), .int (32 : Int32)] rfl rfl rfl rfl rfl rfl (jx_e867 p0 p1 p2 p3 p4 p5 g1 g2 g3 g4) rfl rfl ?_
  refine jv_Ev.br jv_i322 (pc' := 74) (st' := []) rfl (jv_bi_eq.trans (jx_got (by decide))) ?_
  refine jv_Ev.steps jv_i322 3 (pc' := 79) (l' := [(4, .int (0 : Int32)), (0, .int p1), (1, .int p2), (2, .int p3), (3, .int p4)]) (st' := [.int (0 : Int32)]) rfl ?_
  refine jv_Ev.br jv_i322 (pc' := 108) (st' := []) rfl (jv_bi_eq.trans (jx_got (by decide))) ?_
  refine jv_Ev.steps jv_i322 1 (pc' := 109) (l' := [(4, .int (0 : Int32)), (0, .int p1), (1, .int p2), (2, .int p3), (3, .int p4)]) (st' := [.int (0 : Int32)]) rfl ?_
  exact jv_Ev.ret jv_i322 rfl (jv_ret_b (by decide))

set_option maxRecDepth 100000 in
/-- ProgramBoxModel$Store.make -/
theorem jx_e869 (p0 : Int32) (p1 : Int32) (p2 : Int32) (p3 : Int32) (p4 : Int32) (p5 : Int32) (g1 : ¬ p1 = (2 : Int32)) (g2 : ¬ p1 = (0 : Int32)) (g3 : p1 = (1 : Int32)) (g4 : p2 < (1 : Int32)) : jv_Ms 323 [.ref 180, .int p1, .int p2, .int p3, .int p4] (jv_H (jx_K 227) jx_If jx_L0 (jx_R 227)) 228 1572956 (some (.int (0 : Int32)), (jv_H (jx_K 227) (jv_u jx_If 180 0 (1 : Int32)) jx_L0 (jx_R 227)), 228, 1572956) := by
  show jv_Ev 323 0 [(0, .ref 180), (1, .int p1), (2, .int p2), (3, .int p3), (4, .int p4)] [] (jv_H (jx_K 227) jx_If jx_L0 (jx_R 227)) 228 1572956 _
  refine jv_Ev.steps jv_i323 5 (pc' := 6) (l' := [(0, .ref 180), (1, .int p1), (2, .int p2), (3, .int p3), (4, .int p4)]) (st' := [.int p4, .int p3, .int p2, .int p1, .ref 180]) rfl ?_
  refine jv_Ev.c jv_i323 (pc' := 9) (S' := [.int (0 : Int32), .ref 180]) jv_i322 [.int p1, .int p2, .int p3, .int p4] rfl rfl rfl rfl rfl rfl (jx_e868 p0 p1 p2 p3 p4 p5 g1 g2 g3 g4) rfl rfl ?_
  refine jv_Ev.br jv_i323 (pc' := 16) (st' := [.ref 180]) rfl (jv_bi_eq.trans (jx_got (by decide))) ?_
  refine jv_Ev.steps jv_i323 1 (pc' := 17) (l' := [(0, .ref 180), (1, .int p1), (2, .int p2), (3, .int p3), (4, .int p4)]) (st' := [.int (1 : Int32), .ref 180]) rfl ?_
  refine jv_Ev.m jv_i323 (pc' := 20) (st' := []) rfl rfl (jv_m_putI rfl rfl rfl rfl rfl) ?_
  refine jv_Ev.steps jv_i323 1 (pc' := 21) (l' := [(0, .ref 180), (1, .int p1), (2, .int p2), (3, .int p3), (4, .int p4)]) (st' := [.ref 180]) rfl ?_
  refine jv_Ev.m jv_i323 (pc' := 24) (st' := [.int (1 : Int32)]) rfl rfl (jv_m_getI rfl rfl rfl rfl) ?_
  refine jv_Ev.br jv_i323 (pc' := 27) (st' := []) rfl (jv_bi_le.trans (jx_gof (by decide))) ?_
  refine jv_Ev.steps jv_i323 1 (pc' := 28) (l' := [(0, .ref 180), (1, .int p1), (2, .int p2), (3, .int p3), (4, .int p4)]) (st' := [.int (0 : Int32)]) rfl ?_
  exact jv_Ev.ret jv_i323 rfl rfl

set_option maxRecDepth 100000 in
/-- ProgramBoxModel$Store.thrown -/
theorem jx_e870 (p0 : Int32) (p1 : Int32) (p2 : Int32) (p3 : Int32) (p4 : Int32) (p5 : Int32) (g1 : ¬ p1 = (2 : Int32)) (g2 : ¬ p1 = (0 : Int32)) (g3 : p1 = (1 : Int32)) (g4 : p2 < (1 : Int32)) : jv_Ms 318 [.ref 180] (jv_H (jx_K 227) (jv_u jx_If 180 0 (1 : Int32)) jx_L0 (jx_R 227)) 228 1572956 (some (.int (1 : Int32)), (jv_H (jx_K 227) (jv_u jx_If 180 0 (1 : Int32)) jx_L0 (jx_R 227)), 228, 1572956) := by
  show jv_Ev 318 0 [(0, .ref 180)] [] (jv_H (jx_K 227) (jv_u jx_If 180 0 (1 : Int32)) jx_L0 (jx_R 227)) 228 1572956 _
  refine jv_Ev.steps jv_i318 1 (pc' := 1) (l' := [(0, .ref 180)]) (st' := [.ref 180]) rfl ?_
  refine jv_Ev.m jv_i318 (pc' := 4) (st' := [.int (1 : Int32)]) rfl rfl (jv_m_getI rfl rfl rfl rfl) ?_
  exact jv_Ev.ret jv_i318 rfl rfl

set_option maxRecDepth 100000 in
/-- ProgramBoxModel.make -/
theorem jx_e871 (p0 : Int32) (p1 : Int32) (p2 : Int32) (p3 : Int32) (p4 : Int32) (p5 : Int32) (g1 : ¬ p1 = (2 : Int32)) (g2 : ¬ p1 = (0 : Int32)) (g3 : p1 = (1 : Int32)) (g4 : p2 < (1 : Int32)) : jv_Ms 353 [.ref 178, .int p1, .int p2, .int p3, .int p4] (jv_H (jx_K 227) jx_If jx_L0 (jx_R 227)) 228 1572956 (some (.int (0 : Int32)), (jv_H (jx_K 227) (jv_u (jv_u jx_If 180 0 (1 : Int32)) 178 0 (1 : Int32)) jx_L0 (jx_R 227)), 228, 1572956) := by
  show jv_Ev 353 0 [(0, .ref 178), (1, .int p1), (2, .int p2), (3, .int p3), (4, .int p4)] [] (jv_H (jx_K 227) jx_If jx_L0 (jx_R 227)) 228 1572956 _
  refine jv_Ev.steps jv_i353 1 (pc' := 1) (l' := [(0, .ref 178), (1, .int p1), (2, .int p2), (3, .int p3), (4, .int p4)]) (st' := [.ref 178]) rfl ?_
  refine jv_Ev.m jv_i353 (pc' := 4) (st' := [.ref 180]) rfl rfl (jv_m_getR rfl rfl rfl rfl) ?_
  refine jv_Ev.steps jv_i353 4 (pc' := 9) (l' := [(0, .ref 178), (1, .int p1), (2, .int p2), (3, .int p3), (4, .int p4)]) (st' := [.int p4, .int p3, .int p2, .int p1, .ref 180]) rfl ?_
  refine jv_Ev.c jv_i353 (pc' := 12) (S' := [.int (0 : Int32)]) jv_i323 [.ref 180, .int p1, .int p2, .int p3, .int p4] rfl rfl rfl rfl (jv_cal rfl (jv_H_at rfl) rfl rfl) rfl (jx_e869 p0 p1 p2 p3 p4 p5 g1 g2 g3 g4) rfl rfl ?_
  refine jv_Ev.steps jv_i353 3 (pc' := 16) (l' := [(5, .int (0 : Int32)), (0, .ref 178), (1, .int p1), (2, .int p2), (3, .int p3), (4, .int p4)]) (st' := [.ref 178, .ref 178]) rfl ?_
  refine jv_Ev.m jv_i353 (pc' := 19) (st' := [.ref 180, .ref 178]) rfl rfl (jv_m_getR rfl rfl rfl rfl) ?_
  refine jv_Ev.c jv_i353 (pc' := 22) (S' := [.int (1 : Int32), .ref 178]) jv_i318 [.ref 180] rfl rfl rfl rfl (jv_cal rfl (jv_H_at rfl) rfl rfl) rfl (jx_e870 p0 p1 p2 p3 p4 p5 g1 g2 g3 g4) rfl rfl ?_
  refine jv_Ev.m jv_i353 (pc' := 25) (st' := []) rfl rfl (jv_m_putI rfl rfl rfl rfl rfl) ?_
  refine jv_Ev.steps jv_i353 1 (pc' := 26) (l' := [(5, .int (0 : Int32)), (0, .ref 178), (1, .int p1), (2, .int p2), (3, .int p3), (4, .int p4)]) (st' := [.ref 178]) rfl ?_
  refine jv_Ev.m jv_i353 (pc' := 29) (st' := [.int (1 : Int32)]) rfl rfl (jv_m_getI rfl rfl rfl rfl) ?_
  refine jv_Ev.br jv_i353 (pc' := 67) (st' := []) rfl (jv_bi_ne.trans (jx_got (by decide))) ?_
  refine jv_Ev.steps jv_i353 1 (pc' := 69) (l' := [(5, .int (0 : Int32)), (0, .ref 178), (1, .int p1), (2, .int p2), (3, .int p3), (4, .int p4)]) (st' := [.int (0 : Int32)]) rfl ?_
  exact jv_Ev.ret jv_i353 rfl rfl

set_option maxRecDepth 100000 in
/-- ProgramBoxModel.thrown -/
theorem jx_e872 (p0 : Int32) (p1 : Int32) (p2 : Int32) (p3 : Int32) (p4 : Int32) (p5 : Int32) (g1 : ¬ p1 = (2 : Int32)) (g2 : ¬ p1 = (0 : Int32)) (g3 : p1 = (1 : Int32)) (g4 : p2 < (1 : Int32)) : jv_Ms 350 [.ref 178] (jv_H (jx_K 227) (jv_u (jv_u jx_If 180 0 (1 : Int32)) 178 0 (1 : Int32)) jx_L0 (jx_R 227)) 228 1572956 (some (.int (1 : Int32)), (jv_H (jx_K 227) (jv_u (jv_u jx_If 180 0 (1 : Int32)) 178 0 (1 : Int32)) jx_L0 (jx_R 227)), 228, 1572956) := by
  show jv_Ev 350 0 [(0, .ref 178)] [] (jv_H (jx_K 227) (jv_u (jv_u jx_If 180 0 (1 : Int32)) 178 0 (1 : Int32)) jx_L0 (jx_R 227)) 228 1572956 _
  refine jv_Ev.steps jv_i350 1 (pc' := 1) (l' := [(0, .ref 178)]) (st' := [.ref 178]) rfl ?_
  refine jv_Ev.m jv_i350 (pc' := 4) (st' := [.int (1 : Int32)]) rfl rfl (jv_m_getI rfl rfl rfl rfl) ?_
  exact jv_Ev.ret jv_i350 rfl rfl

set_option maxRecDepth 100000 in
/-- the law: case 2, one way -/
theorem jx_l98 (p0 : Int32) (p1 : Int32) (p2 : Int32) (p3 : Int32) (p4 : Int32) (p5 : Int32) (g1 : ¬ p1 = (2 : Int32)) (g2 : ¬ p1 = (0 : Int32)) (g3 : p1 = (1 : Int32)) (g4 : p2 < (1 : Int32)) (hsw : p0 &&& (31 : Int32) = (2 : Int32)) {p : Program} {l : Launch} {e : Env} {R : Room} {s : State} {m : MethodId} {args : Array Value} {below : List Frame} {meth : Method} {c : Code} {E : jv_Env} {Q : State → Prop} (hTb : jv_TOk jv_Tb) (hT2 : jx_T2Ok) (hl : l.stackTraces = false) (F : jx_F jv_T2 439 E p R s m args meth c) (hZ : jx_Z E s) (hRc : R.cells = 600002) (hRs : R.slots = 7302232) {bb : Nat} {xs : Nat → Int32} (hX : va_X bb 6 xs s E.2.2.2.2) (hbB : bb < E.2.2.2.1) (hE2 : E.1 1000002 = bb) (hQ : ∀ (l0 : jv_L) (G : jv_G) (n sl : Nat), n ≤ 600002 → sl ≤ 7302232 → jw p l e R s m args below meth c E 8 0 0 Q 1532 l0 [.int (1 : Int32)] G n sl) (q0 : xs 0 = p0) (q1 : xs 1 = p1) (q2 : xs 2 = p2) (q3 : xs 3 = p3) (q4 : xs 4 = p4) (q5 : xs 5 = p5) : jw p l e R s m args below meth c E 8 0 0 Q 33 [(0, .ref 1000002), (1, .ref 0), (2, .ref 178), (3, .ref 226), (4, .int (0 : Int32))] [] (jv_H (jx_K 227) jx_If jx_L0 (jx_R 227)) 227 1572950 := by
  refine jw.steps F jx_i439 2 (pc' := 36) (l' := [(0, .ref 1000002), (1, .ref 0), (2, .ref 178), (3, .ref 226), (4, .int (0 : Int32))]) (st' := [.int (0 : Int32), .ref 1000002]) rfl ?_
  refine jw.sld F jx_i439 hX hbB hE2 (pc' := 37) rfl rfl (show vp_in (nI 0) 6 from vp_in_nI (by decide) (by decide)) q0 rfl ?_
  refine jw.steps F jx_i439 2 (pc' := 40) (l' := [(0, .ref 1000002), (1, .ref 0), (2, .ref 178), (3, .ref 226), (4, .int (0 : Int32))]) (st' := [.int (p0 &&& (31 : Int32))]) rfl ?_
  refine jw.br F jx_i439 (pc' := 304) (st' := []) rfl (by rw [hsw]; rfl) ?_
  refine jw.steps F jx_i439 5 (pc' := 310) (l' := [(0, .ref 1000002), (1, .ref 0), (2, .ref 178), (3, .ref 226), (4, .int (0 : Int32))]) (st' := [.int (1 : Int32), .ref 1000002, .ref 0]) rfl ?_
  refine jw.sld F jx_i439 hX hbB hE2 (pc' := 311) rfl rfl (show vp_in (nI 1) 6 from vp_in_nI (by decide) (by decide)) q1 rfl ?_
  refine jw.steps F jx_i439 4 (pc' := 316) (l' := [(0, .ref 1000002), (1, .ref 0), (2, .ref 178), (3, .ref 226), (4, .int (0 : Int32))]) (st' := [.int (2 : Int32), .ref 1000002, .int p1, .ref 0]) rfl ?_
  refine jw.sld F jx_i439 hX hbB hE2 (pc' := 317) rfl rfl (show vp_in (nI 2) 6 from vp_in_nI (by decide) (by decide)) q2 rfl ?_
  refine jw.steps F jx_i439 4 (pc' := 322) (l' := [(0, .ref 1000002), (1, .ref 0), (2, .ref 178), (3, .ref 226), (4, .int (0 : Int32))]) (st' := [.int (3 : Int32), .ref 1000002, .int p2, .int p1, .ref 0]) rfl ?_
  refine jw.sld F jx_i439 hX hbB hE2 (pc' := 323) rfl rfl (show vp_in (nI 3) 6 from vp_in_nI (by decide) (by decide)) q3 rfl ?_
  refine jw.steps F jx_i439 4 (pc' := 328) (l' := [(0, .ref 1000002), (1, .ref 0), (2, .ref 178), (3, .ref 226), (4, .int (0 : Int32))]) (st' := [.int (4 : Int32), .ref 1000002, .int p3, .int p2, .int p1, .ref 0]) rfl ?_
  refine jw.sld F jx_i439 hX hbB hE2 (pc' := 329) rfl rfl (show vp_in (nI 4) 6 from vp_in_nI (by decide) (by decide)) q4 rfl ?_
  refine jw.steps F jx_i439 1 (pc' := 330) (l' := [(0, .ref 1000002), (1, .ref 0), (2, .ref 178), (3, .ref 226), (4, .int (0 : Int32))]) (st' := [.ref 226, .int p4, .int p3, .int p2, .int p1, .ref 0]) rfl ?_
  refine jw.wr F hl hZ rfl jx_i439 jx_i442 [.ref 0, .int p1, .int p2, .int p3, .int p4, .ref 226] (pc' := 333) (S' := [.int (1 : Int32)]) rfl (List.mem_of_getElem? (i := 2) rfl) (List.mem_of_getElem? (i := 2) rfl) rfl rfl rfl (jx_w866 hTb hT2 p0 p1 p2 p3 p4 p5 g1 g2 g3 g4) (by omega) (by omega) (by omega) (by omega) rfl rfl ?_
  refine jw.steps F jx_i439 6 (pc' := 341) (l' := [(5, .int (1 : Int32)), (0, .ref 1000002), (1, .ref 0), (2, .ref 178), (3, .ref 226), (4, .int (0 : Int32))]) (st' := [.int (1 : Int32), .ref 1000002, .ref 178]) rfl ?_
  refine jw.sld F jx_i439 hX hbB hE2 (pc' := 342) rfl rfl (show vp_in (nI 1) 6 from vp_in_nI (by decide) (by decide)) q1 rfl ?_
  refine jw.steps F jx_i439 4 (pc' := 347) (l' := [(5, .int (1 : Int32)), (0, .ref 1000002), (1, .ref 0), (2, .ref 178), (3, .ref 226), (4, .int (0 : Int32))]) (st' := [.int (2 : Int32), .ref 1000002, .int p1, .ref 178]) rfl ?_
  refine jw.sld F jx_i439 hX hbB hE2 (pc' := 348) rfl rfl (show vp_in (nI 2) 6 from vp_in_nI (by decide) (by decide)) q2 rfl ?_
  refine jw.steps F jx_i439 4 (pc' := 353) (l' := [(5, .int (1 : Int32)), (0, .ref 1000002), (1, .ref 0), (2, .ref 178), (3, .ref 226), (4, .int (0 : Int32))]) (st' := [.int (3 : Int32), .ref 1000002, .int p2, .int p1, .ref 178]) rfl ?_
  refine jw.sld F jx_i439 hX hbB hE2 (pc' := 354) rfl rfl (show vp_in (nI 3) 6 from vp_in_nI (by decide) (by decide)) q3 rfl ?_
  refine jw.steps F jx_i439 4 (pc' := 359) (l' := [(5, .int (1 : Int32)), (0, .ref 1000002), (1, .ref 0), (2, .ref 178), (3, .ref 226), (4, .int (0 : Int32))]) (st' := [.int (4 : Int32), .ref 1000002, .int p3, .int p2, .int p1, .ref 178]) rfl ?_
  refine jw.sld F jx_i439 hX hbB hE2 (pc' := 360) rfl rfl (show vp_in (nI 4) 6 from vp_in_nI (by decide) (by decide)) q4 rfl ?_
  refine jw.ca hTb F jx_i439 (pc' := 363) (S' := [.int (0 : Int32)]) rfl jv_i353 [.ref 178, .int p1, .int p2, .int p3, .int p4] rfl rfl rfl rfl (jx_cal2 rfl (jv_H_at rfl) rfl rfl) rfl (jx_e871 p0 p1 p2 p3 p4 p5 g1 g2 g3 g4) (by omega) (by omega) rfl rfl ?_
  refine jw.steps F jx_i439 2 (pc' := 366) (l' := [(6, .int (0 : Int32)), (5, .int (1 : Int32)), (0, .ref 1000002), (1, .ref 0), (2, .ref 178), (3, .ref 226), (4, .int (0 : Int32))]) (st' := [.ref 178]) rfl ?_
  refine jw.ca hTb F jx_i439 (pc' := 369) (S' := [.int (1 : Int32)]) rfl jv_i350 [.ref 178] rfl rfl rfl rfl (jx_cal2 rfl (jv_H_at rfl) rfl rfl) rfl (jx_e872 p0 p1 p2 p3 p4 p5 g1 g2 g3 g4) (by omega) (by omega) rfl rfl ?_
  refine jw.steps F jx_i439 1 (pc' := 371) (l' := [(6, .int (0 : Int32)), (5, .int (1 : Int32)), (0, .ref 1000002), (1, .ref 0), (2, .ref 178), (3, .ref 226), (4, .int (0 : Int32))]) (st' := [.int (1 : Int32), .int (1 : Int32)]) rfl ?_
  refine jw.br F jx_i439 (pc' := 376) (st' := []) rfl (jv_bc_eq.trans (jx_got (by decide))) ?_
  refine jw.steps F jx_i439 1 (pc' := 378) (l' := [(6, .int (0 : Int32)), (5, .int (1 : Int32)), (0, .ref 1000002), (1, .ref 0), (2, .ref 178), (3, .ref 226), (4, .int (0 : Int32))]) (st' := [.int (1 : Int32)]) rfl ?_
  refine jw.br F jx_i439 (pc' := 393) (st' := []) rfl (jv_bi_ne.trans (jx_got (by decide))) ?_
  refine jw.steps F jx_i439 5 (pc' := 26) (l' := [(4, .int (6 : Int32)), (6, .int (0 : Int32)), (5, .int (1 : Int32)), (0, .ref 1000002), (1, .ref 0), (2, .ref 178), (3, .ref 226)]) (st' := [.ref 1000002, .int (6 : Int32)]) rfl ?_
  refine jw.slen F jx_i439 hX hbB hE2 (pc' := 27) rfl rfl rfl ?_
  refine jw.steps F jx_i439 2 (pc' := 30) (l' := [(4, .int (6 : Int32)), (6, .int (0 : Int32)), (5, .int (1 : Int32)), (0, .ref 1000002), (1, .ref 0), (2, .ref 178), (3, .ref 226)]) (st' := [.int (0 : Int32), .int (6 : Int32)]) rfl ?_
  refine jw.br F jx_i439 (pc' := 1531) (st' := []) rfl (jv_bc_gt.trans (jx_got (by decide))) ?_
  refine jw.steps F jx_i439 1 (pc' := 1532) (l' := [(4, .int (6 : Int32)), (6, .int (0 : Int32)), (5, .int (1 : Int32)), (0, .ref 1000002), (1, .ref 0), (2, .ref 178), (3, .ref 226)]) (st' := [.int (1 : Int32)]) rfl ?_
  exact hQ _ _ _ _ (by omega) (by omega)

set_option maxRecDepth 100000 in
/-- ProgramBox$Store.isShape -/
theorem jx_e873 (p0 : Int32) (p1 : Int32) (p2 : Int32) (p3 : Int32) (p4 : Int32) (p5 : Int32) (g1 : ¬ p1 = (2 : Int32)) (g2 : ¬ p1 = (0 : Int32)) (g3 : p1 = (1 : Int32)) (g4 : ¬ p2 < (1 : Int32)) (g5 : (32 : Int32) < p2) : jv_Ms 123 [.int p1, .int p2, .int p3, .int p4] (jv_H (jx_K 227) jx_If jx_L0 (jx_R 227)) 227 1572950 (some (.int (0 : Int32)), (jv_H (jx_K 227) jx_If jx_L0 (jx_R 227)), 227, 1572950) := by
  show jv_Ev 123 0 [(0, .int p1), (1, .int p2), (2, .int p3), (3, .int p4)] [] (jv_H (jx_K 227) jx_If jx_L0 (jx_R 227)) 227 1572950 _
  refine jv_Ev.steps jv_i123 2 (pc' := 2) (l' := [(0, .int p1), (1, .int p2), (2, .int p3), (3, .int p4)]) (st' := [.int (2 : Int32), .int p1]) rfl ?_
  refine jv_Ev.br jv_i123 (pc' := 40) (st' := []) rfl (jv_bc_ne.trans (jx_got (by rw [g3] <;> decide))) ?_
  refine jv_Ev.steps jv_i123 1 (pc' := 41) (l' := [(0, .int p1), (1, .int p2), (2, .int p3), (3, .int p4)]) (st' := [.int p1]) rfl ?_
  refine jv_Ev.br jv_i123 (pc' := 57) (st' := []) rfl (jv_bi_ne.trans (jx_got (by rw [g3] <;> decide))) ?_
  refine jv_Ev.steps jv_i123 2 (pc' := 59) (l' := [(0, .int p1), (1, .int p2), (2, .int p3), (3, .int p4)]) (st' := [.int (1 : Int32), .int p1]) rfl ?_
  refine jv_Ev.br jv_i123 (pc' := 62) (st' := []) rfl (jv_bc_ne.trans (jx_gof (by rw [g3] <;> decide))) ?_
  refine jv_Ev.steps jv_i123 2 (pc' := 64) (l' := [(0, .int p1), (1, .int p2), (2, .int p3), (3, .int p4)]) (st' := [.int (1 : Int32), .int p2]) rfl ?_
  refine jv_Ev.br jv_i123 (pc' := 67) (st' := []) rfl (jv_bc_lt.trans (jx_gof g4)) ?_
  refine jv_Ev.steps jv_i123 2 (pc' := 70) (l' := [(0, .int p1), (1, .int p2), (2, .int p3), (3, .int p4)]) (st' := [.int (32 : Int32), .int p2]) rfl ?_
  refine jv_Ev.br jv_i123 (pc' := 77) (st' := []) rfl (jv_bc_gt.trans (jx_got g5)) ?_
  refine jv_Ev.steps jv_i123 3 (pc' := 82) (l' := [(4, .int (0 : Int32)), (0, .int p1), (1, .int p2), (2, .int p3), (3, .int p4)]) (st' := [.int (0 : Int32)]) rfl ?_
  refine jv_Ev.br jv_i123 (pc' := 113) (st' := []) rfl (jv_bi_eq.trans (jx_got (by decide))) ?_
  refine jv_Ev.steps jv_i123 1 (pc' := 114) (l' := [(4, .int (0 : Int32)), (0, .int p1), (1, .int p2), (2, .int p3), (3, .int p4)]) (st' := [.int (0 : Int32)]) rfl ?_
  exact jv_Ev.ret jv_i123 rfl (jv_ret_b (by decide))

set_option maxRecDepth 100000 in
/-- ProgramBox.make: it throws -/
theorem jx_e874 (hTb : jv_TOk jv_Tb) (p0 : Int32) (p1 : Int32) (p2 : Int32) (p3 : Int32) (p4 : Int32) (p5 : Int32) (g1 : ¬ p1 = (2 : Int32)) (g2 : ¬ p1 = (0 : Int32)) (g3 : p1 = (1 : Int32)) (g4 : ¬ p2 < (1 : Int32)) (g5 : (32 : Int32) < p2) : jx_Th 420 [.ref 0, .int p1, .int p2, .int p3, .int p4] (jv_H (jx_K 227) jx_If jx_L0 (jx_R 227)) 227 1572950 1 (jv_H (jx_K 227) jx_If jx_L0 (jx_R 227)) 228 1572956 := by
  refine jx_Th.of hTb (y := 420) rfl (Nat.le_of_ble_eq_true rfl) ?_
  intro p l e R s m args below meth c E hl F hZ h0 ht hRc hRs
  show jw p l e R s m args below meth c E 5 227 1572950 _ 0 [(0, .ref 0), (1, .int p1), (2, .int p2), (3, .int p3), (4, .int p4)] [] (jv_H (jx_K 227) jx_If jx_L0 (jx_R 227)) 227 1572950
  refine jw.steps F jv_i420 4 (pc' := 5) (l' := [(0, .ref 0), (1, .int p1), (2, .int p2), (3, .int p3), (4, .int p4)]) (st' := [.int p4, .int p3, .int p2, .int p1]) rfl ?_
  refine jw.ca hTb F jv_i420 (pc' := 8) (S' := [.int (0 : Int32)]) rfl jv_i123 [.int p1, .int p2, .int p3, .int p4] rfl rfl rfl rfl rfl rfl (jx_e873 p0 p1 p2 p3 p4 p5 g1 g2 g3 g4 g5) (by omega) (by omega) rfl rfl ?_
  refine jw.br F jv_i420 (pc' := 11) (st' := []) rfl (jv_bi_ne.trans (jx_gof (by decide))) ?_
  exact jw.throw hl F hZ h0 rfl jv_i420 ht 1 69 "no map is like this" (List.mem_of_getElem? (i := 2) rfl) (by decide +kernel) (by decide +kernel) (by decide +kernel) (by decide +kernel) (by decide +kernel) rfl (by decide) (by decide) (by decide) (by omega) (by omega)

set_option maxRecDepth 100000 in
/-- the law's make -/
theorem jx_w875 (hTb : jv_TOk jv_Tb) (hT2 : jx_T2Ok) (p0 : Int32) (p1 : Int32) (p2 : Int32) (p3 : Int32) (p4 : Int32) (p5 : Int32) (g1 : ¬ p1 = (2 : Int32)) (g2 : ¬ p1 = (0 : Int32)) (g3 : p1 = (1 : Int32)) (g4 : ¬ p2 < (1 : Int32)) (g5 : (32 : Int32) < p2) : jx_Wr 442 [(0, 14, 17, 19), (0, 14, 21, 13)] [.ref 0, .int p1, .int p2, .int p3, .int p4, .ref 226] (jv_H (jx_K 227) jx_If jx_L0 (jx_R 227)) 227 1572950 (some (.int (1 : Int32)), (jv_H (jx_K 227) jx_If jx_L0 (jx_R 227)), 228, 1572956) := by
  refine jx_Wr.of hT2 (by decide) rfl (Nat.le_of_ble_eq_true rfl) ?_
  intro p l e R s m args below meth c E hl F hZ htb hRc hRs
  show jw p l e R s m args below meth c E 7 227 1572950 _ 0 [(0, .ref 0), (1, .int p1), (2, .int p2), (3, .int p3), (4, .int p4), (5, .ref 226)] [] (jv_H (jx_K 227) jx_If jx_L0 (jx_R 227)) 227 1572950
  have hRc : R.cells = 228 - 227 := hRc
  have hRs : R.slots = 1572956 - 1572950 := hRs
  refine jw.steps F jx_i442 7 (pc' := 9) (l' := [(0, .ref 0), (1, .int p1), (2, .int p2), (3, .int p3), (4, .int p4), (5, .ref 226)]) (st' := [.int p4, .int p3, .int p2, .int p1, .ref 0, .int (0 : Int32), .ref 226]) rfl ?_
  refine jw.cat hTb hl F hZ rfl jx_i442 htb rfl jv_i420 [.ref 0, .int p1, .int p2, .int p3, .int p4] rfl rfl rfl rfl rfl (jx_cal2 rfl (jv_H_at rfl) rfl rfl) rfl (jx_e874 hTb p0 p1 p2 p3 p4 p5 g1 g2 g3 g4 g5) (by omega) (by omega) (by omega) (by omega) [] (0, 14, 17, 19) [(0, 14, 21, 13)] rfl (fun z h => absurd h List.not_mem_nil) (by decide) rfl rfl (Or.inl ⟨rfl, rfl⟩) (by decide) ?_
  refine jw.steps F jx_i442 1 (pc' := 20) (l' := []) (st' := [.int (1 : Int32)]) rfl ?_
  exact jw.ret F jx_i442 rfl rfl

set_option maxRecDepth 100000 in
/-- ProgramBoxModel$Store.isIn -/
theorem jx_e876 (p0 : Int32) (p1 : Int32) (p2 : Int32) (p3 : Int32) (p4 : Int32) (p5 : Int32) (g1 : ¬ p1 = (2 : Int32)) (g2 : ¬ p1 = (0 : Int32)) (g3 : p1 = (1 : Int32)) (g4 : ¬ p2 < (1 : Int32)) (g5 : (32 : Int32) < p2) : jv_Ms 320 [.int p2, .int (1 : Int32), .int (32 : Int32)] (jv_H (jx_K 227) jx_If jx_L0 (jx_R 227)) 228 1572956 (some (.int (0 : Int32)), (jv_H (jx_K 227) jx_If jx_L0 (jx_R 227)), 228, 1572956) := by
  show jv_Ev 320 0 [(0, .int p2), (1, .int (1 : Int32)), (2, .int (32 : Int32))] [] (jv_H (jx_K 227) jx_If jx_L0 (jx_R 227)) 228 1572956 _
  refine jv_Ev.steps jv_i320 2 (pc' := 2) (l' := [(0, .int p2), (1, .int (1 : Int32)), (2, .int (32 : Int32))]) (st' := [.int (1 : Int32), .int p2]) rfl ?_
  refine jv_Ev.br jv_i320 (pc' := 5) (st' := []) rfl (jv_bc_lt.trans (jx_gof g4)) ?_
  refine jv_Ev.steps jv_i320 2 (pc' := 7) (l' := [(0, .int p2), (1, .int (1 : Int32)), (2, .int (32 : Int32))]) (st' := [.int (32 : Int32), .int p2]) rfl ?_
  refine jv_Ev.br jv_i320 (pc' := 14) (st' := []) rfl (jv_bc_gt.trans (jx_got g5)) ?_
  refine jv_Ev.steps jv_i320 1 (pc' := 15) (l' := [(0, .int p2), (1, .int (1 : Int32)), (2, .int (32 : Int32))]) (st' := [.int (0 : Int32)]) rfl ?_
  exact jv_Ev.ret jv_i320 rfl (jv_ret_b (by decide))

set_option maxRecDepth 100000 in
/-- ProgramBoxModel$Store.isProper -/
theorem jx_e877 (p0 : Int32) (p1 : Int32) (p2 : Int32) (p3 : Int32) (p4 : Int32) (p5 : Int32) (g1 : ¬ p1 = (2 : Int32)) (g2 : ¬ p1 = (0 : Int32)) (g3 : p1 = (1 : Int32)) (g4 : ¬ p2 < (1 : Int32)) (g5 : (32 : Int32) < p2) : jv_Ms 322 [.int p1, .int p2, .int p3, .int p4] (jv_H (jx_K 227) jx_If jx_L0 (jx_R 227)) 228 1572956 (some (.int (0 : Int32)), (jv_H (jx_K 227) jx_If jx_L0 (jx_R 227)), 228, 1572956) := by
  show jv_Ev 322 0 [(0, .int p1), (1, .int p2), (2, .int p3), (3, .int p4)] [] (jv_H (jx_K 227) jx_If jx_L0 (jx_R 227)) 228 1572956 _
  refine jv_Ev.steps jv_i322 2 (pc' := 2) (l' := [(0, .int p1), (1, .int p2), (2, .int p3), (3, .int p4)]) (st' := [.int (2 : Int32), .int p1]) rfl ?_
  refine jv_Ev.br jv_i322 (pc' := 38) (st' := []) rfl (jv_bc_ne.trans (jx_got (by rw [g3] <;> decide))) ?_
  refine jv_Ev.steps jv_i322 1 (pc' := 39) (l' := [(0, .int p1), (1, .int p2), (2, .int p3), (3, .int p4)]) (st' := [.int p1]) rfl ?_
  refine jv_Ev.br jv_i322 (pc' := 55) (st' := []) rfl (jv_bi_ne.trans (jx_got (by rw [g3] <;> decide))) ?_
  refine jv_Ev.steps jv_i322 2 (pc' := 57) (l' := [(0, .int p1), (1, .int p2), (2, .int p3), (3, .int p4)]) (st' := [.int (1 : Int32), .int p1]) rfl ?_
  refine jv_Ev.br jv_i322 (pc' := 60) (st' := []) rfl (jv_bc_ne.trans (jx_gof (by rw [g3] <;> decide))) ?_
  refine jv_Ev.steps jv_i322 3 (pc' := 64) (l' := [(0, .int p1), (1, .int p2), (2, .int p3), (3, .int p4)]) (st' := [.int (32 : Int32), .int (1 : Int32), .int p2]) rfl ?_
  refine jv_Ev.c jv_i322 (pc' := 67) (S' := [.int (0 : Int32)]) jv_i320 [.int p2, .int (1 : Int32), .int (32 : Int32)] rfl rfl rfl rfl rfl rfl (jx_e876 p0 p1 p2 p3 p4 p5 g1 g2 g3 g4 g5) rfl rfl ?_
  refine jv_Ev.br jv_i322 (pc' := 74) (st' := []) rfl (jv_bi_eq.trans (jx_got (by decide))) ?_
  refine jv_Ev.steps jv_i322 3 (pc' := 79) (l' := [(4, .int (0 : Int32)), (0, .int p1), (1, .int p2), (2, .int p3), (3, .int p4)]) (st' := [.int (0 : Int32)]) rfl ?_
  refine jv_Ev.br jv_i322 (pc' := 108) (st' := []) rfl (jv_bi_eq.trans (jx_got (by decide))) ?_
  refine jv_Ev.steps jv_i322 1 (pc' := 109) (l' := [(4, .int (0 : Int32)), (0, .int p1), (1, .int p2), (2, .int p3), (3, .int p4)]) (st' := [.int (0 : Int32)]) rfl ?_
  exact jv_Ev.ret jv_i322 rfl (jv_ret_b (by decide))

set_option maxRecDepth 100000 in
/-- ProgramBoxModel$Store.make -/
theorem jx_e878 (p0 : Int32) (p1 : Int32) (p2 : Int32) (p3 : Int32) (p4 : Int32) (p5 : Int32) (g1 : ¬ p1 = (2 : Int32)) (g2 : ¬ p1 = (0 : Int32)) (g3 : p1 = (1 : Int32)) (g4 : ¬ p2 < (1 : Int32)) (g5 : (32 : Int32) < p2) : jv_Ms 323 [.ref 180, .int p1, .int p2, .int p3, .int p4] (jv_H (jx_K 227) jx_If jx_L0 (jx_R 227)) 228 1572956 (some (.int (0 : Int32)), (jv_H (jx_K 227) (jv_u jx_If 180 0 (1 : Int32)) jx_L0 (jx_R 227)), 228, 1572956) := by
  show jv_Ev 323 0 [(0, .ref 180), (1, .int p1), (2, .int p2), (3, .int p3), (4, .int p4)] [] (jv_H (jx_K 227) jx_If jx_L0 (jx_R 227)) 228 1572956 _
  refine jv_Ev.steps jv_i323 5 (pc' := 6) (l' := [(0, .ref 180), (1, .int p1), (2, .int p2), (3, .int p3), (4, .int p4)]) (st' := [.int p4, .int p3, .int p2, .int p1, .ref 180]) rfl ?_
  refine jv_Ev.c jv_i323 (pc' := 9) (S' := [.int (0 : Int32), .ref 180]) jv_i322 [.int p1, .int p2, .int p3, .int p4] rfl rfl rfl rfl rfl rfl (jx_e877 p0 p1 p2 p3 p4 p5 g1 g2 g3 g4 g5) rfl rfl ?_
  refine jv_Ev.br jv_i323 (pc' := 16) (st' := [.ref 180]) rfl (jv_bi_eq.trans (jx_got (by decide))) ?_
  refine jv_Ev.steps jv_i323 1 (pc' := 17) (l' := [(0, .ref 180), (1, .int p1), (2, .int p2), (3, .int p3), (4, .int p4)]) (st' := [.int (1 : Int32), .ref 180]) rfl ?_
  refine jv_Ev.m jv_i323 (pc' := 20) (st' := []) rfl rfl (jv_m_putI rfl rfl rfl rfl rfl) ?_
  refine jv_Ev.steps jv_i323 1 (pc' := 21) (l' := [(0, .ref 180), (1, .int p1), (2, .int p2), (3, .int p3), (4, .int p4)]) (st' := [.ref 180]) rfl ?_
  refine jv_Ev.m jv_i323 (pc' := 24) (st' := [.int (1 : Int32)]) rfl rfl (jv_m_getI rfl rfl rfl rfl) ?_
  refine jv_Ev.br jv_i323 (pc' := 27) (st' := []) rfl (jv_bi_le.trans (jx_gof (by decide))) ?_
  refine jv_Ev.steps jv_i323 1 (pc' := 28) (l' := [(0, .ref 180), (1, .int p1), (2, .int p2), (3, .int p3), (4, .int p4)]) (st' := [.int (0 : Int32)]) rfl ?_
  exact jv_Ev.ret jv_i323 rfl rfl

set_option maxRecDepth 100000 in
/-- ProgramBoxModel$Store.thrown -/
theorem jx_e879 (p0 : Int32) (p1 : Int32) (p2 : Int32) (p3 : Int32) (p4 : Int32) (p5 : Int32) (g1 : ¬ p1 = (2 : Int32)) (g2 : ¬ p1 = (0 : Int32)) (g3 : p1 = (1 : Int32)) (g4 : ¬ p2 < (1 : Int32)) (g5 : (32 : Int32) < p2) : jv_Ms 318 [.ref 180] (jv_H (jx_K 227) (jv_u jx_If 180 0 (1 : Int32)) jx_L0 (jx_R 227)) 228 1572956 (some (.int (1 : Int32)), (jv_H (jx_K 227) (jv_u jx_If 180 0 (1 : Int32)) jx_L0 (jx_R 227)), 228, 1572956) := by
  show jv_Ev 318 0 [(0, .ref 180)] [] (jv_H (jx_K 227) (jv_u jx_If 180 0 (1 : Int32)) jx_L0 (jx_R 227)) 228 1572956 _
  refine jv_Ev.steps jv_i318 1 (pc' := 1) (l' := [(0, .ref 180)]) (st' := [.ref 180]) rfl ?_
  refine jv_Ev.m jv_i318 (pc' := 4) (st' := [.int (1 : Int32)]) rfl rfl (jv_m_getI rfl rfl rfl rfl) ?_
  exact jv_Ev.ret jv_i318 rfl rfl

set_option maxRecDepth 100000 in
/-- ProgramBoxModel.make -/
theorem jx_e880 (p0 : Int32) (p1 : Int32) (p2 : Int32) (p3 : Int32) (p4 : Int32) (p5 : Int32) (g1 : ¬ p1 = (2 : Int32)) (g2 : ¬ p1 = (0 : Int32)) (g3 : p1 = (1 : Int32)) (g4 : ¬ p2 < (1 : Int32)) (g5 : (32 : Int32) < p2) : jv_Ms 353 [.ref 178, .int p1, .int p2, .int p3, .int p4] (jv_H (jx_K 227) jx_If jx_L0 (jx_R 227)) 228 1572956 (some (.int (0 : Int32)), (jv_H (jx_K 227) (jv_u (jv_u jx_If 180 0 (1 : Int32)) 178 0 (1 : Int32)) jx_L0 (jx_R 227)), 228, 1572956) := by
  show jv_Ev 353 0 [(0, .ref 178), (1, .int p1), (2, .int p2), (3, .int p3), (4, .int p4)] [] (jv_H (jx_K 227) jx_If jx_L0 (jx_R 227)) 228 1572956 _
  refine jv_Ev.steps jv_i353 1 (pc' := 1) (l' := [(0, .ref 178), (1, .int p1), (2, .int p2), (3, .int p3), (4, .int p4)]) (st' := [.ref 178]) rfl ?_
  refine jv_Ev.m jv_i353 (pc' := 4) (st' := [.ref 180]) rfl rfl (jv_m_getR rfl rfl rfl rfl) ?_
  refine jv_Ev.steps jv_i353 4 (pc' := 9) (l' := [(0, .ref 178), (1, .int p1), (2, .int p2), (3, .int p3), (4, .int p4)]) (st' := [.int p4, .int p3, .int p2, .int p1, .ref 180]) rfl ?_
  refine jv_Ev.c jv_i353 (pc' := 12) (S' := [.int (0 : Int32)]) jv_i323 [.ref 180, .int p1, .int p2, .int p3, .int p4] rfl rfl rfl rfl (jv_cal rfl (jv_H_at rfl) rfl rfl) rfl (jx_e878 p0 p1 p2 p3 p4 p5 g1 g2 g3 g4 g5) rfl rfl ?_
  refine jv_Ev.steps jv_i353 3 (pc' := 16) (l' := [(5, .int (0 : Int32)), (0, .ref 178), (1, .int p1), (2, .int p2), (3, .int p3), (4, .int p4)]) (st' := [.ref 178, .ref 178]) rfl ?_
  refine jv_Ev.m jv_i353 (pc' := 19) (st' := [.ref 180, .ref 178]) rfl rfl (jv_m_getR rfl rfl rfl rfl) ?_
  refine jv_Ev.c jv_i353 (pc' := 22) (S' := [.int (1 : Int32), .ref 178]) jv_i318 [.ref 180] rfl rfl rfl rfl (jv_cal rfl (jv_H_at rfl) rfl rfl) rfl (jx_e879 p0 p1 p2 p3 p4 p5 g1 g2 g3 g4 g5) rfl rfl ?_
  refine jv_Ev.m jv_i353 (pc' := 25) (st' := []) rfl rfl (jv_m_putI rfl rfl rfl rfl rfl) ?_
  refine jv_Ev.steps jv_i353 1 (pc' := 26) (l' := [(5, .int (0 : Int32)), (0, .ref 178), (1, .int p1), (2, .int p2), (3, .int p3), (4, .int p4)]) (st' := [.ref 178]) rfl ?_
  refine jv_Ev.m jv_i353 (pc' := 29) (st' := [.int (1 : Int32)]) rfl rfl (jv_m_getI rfl rfl rfl rfl) ?_
  refine jv_Ev.br jv_i353 (pc' := 67) (st' := []) rfl (jv_bi_ne.trans (jx_got (by decide))) ?_
  refine jv_Ev.steps jv_i353 1 (pc' := 69) (l' := [(5, .int (0 : Int32)), (0, .ref 178), (1, .int p1), (2, .int p2), (3, .int p3), (4, .int p4)]) (st' := [.int (0 : Int32)]) rfl ?_
  exact jv_Ev.ret jv_i353 rfl rfl

set_option maxRecDepth 100000 in
/-- ProgramBoxModel.thrown -/
theorem jx_e881 (p0 : Int32) (p1 : Int32) (p2 : Int32) (p3 : Int32) (p4 : Int32) (p5 : Int32) (g1 : ¬ p1 = (2 : Int32)) (g2 : ¬ p1 = (0 : Int32)) (g3 : p1 = (1 : Int32)) (g4 : ¬ p2 < (1 : Int32)) (g5 : (32 : Int32) < p2) : jv_Ms 350 [.ref 178] (jv_H (jx_K 227) (jv_u (jv_u jx_If 180 0 (1 : Int32)) 178 0 (1 : Int32)) jx_L0 (jx_R 227)) 228 1572956 (some (.int (1 : Int32)), (jv_H (jx_K 227) (jv_u (jv_u jx_If 180 0 (1 : Int32)) 178 0 (1 : Int32)) jx_L0 (jx_R 227)), 228, 1572956) := by
  show jv_Ev 350 0 [(0, .ref 178)] [] (jv_H (jx_K 227) (jv_u (jv_u jx_If 180 0 (1 : Int32)) 178 0 (1 : Int32)) jx_L0 (jx_R 227)) 228 1572956 _
  refine jv_Ev.steps jv_i350 1 (pc' := 1) (l' := [(0, .ref 178)]) (st' := [.ref 178]) rfl ?_
  refine jv_Ev.m jv_i350 (pc' := 4) (st' := [.int (1 : Int32)]) rfl rfl (jv_m_getI rfl rfl rfl rfl) ?_
  exact jv_Ev.ret jv_i350 rfl rfl

set_option maxRecDepth 100000 in
/-- the law: case 2, one way -/
theorem jx_l99 (p0 : Int32) (p1 : Int32) (p2 : Int32) (p3 : Int32) (p4 : Int32) (p5 : Int32) (g1 : ¬ p1 = (2 : Int32)) (g2 : ¬ p1 = (0 : Int32)) (g3 : p1 = (1 : Int32)) (g4 : ¬ p2 < (1 : Int32)) (g5 : (32 : Int32) < p2) (hsw : p0 &&& (31 : Int32) = (2 : Int32)) {p : Program} {l : Launch} {e : Env} {R : Room} {s : State} {m : MethodId} {args : Array Value} {below : List Frame} {meth : Method} {c : Code} {E : jv_Env} {Q : State → Prop} (hTb : jv_TOk jv_Tb) (hT2 : jx_T2Ok) (hl : l.stackTraces = false) (F : jx_F jv_T2 439 E p R s m args meth c) (hZ : jx_Z E s) (hRc : R.cells = 600002) (hRs : R.slots = 7302232) {bb : Nat} {xs : Nat → Int32} (hX : va_X bb 6 xs s E.2.2.2.2) (hbB : bb < E.2.2.2.1) (hE2 : E.1 1000002 = bb) (hQ : ∀ (l0 : jv_L) (G : jv_G) (n sl : Nat), n ≤ 600002 → sl ≤ 7302232 → jw p l e R s m args below meth c E 8 0 0 Q 1532 l0 [.int (1 : Int32)] G n sl) (q0 : xs 0 = p0) (q1 : xs 1 = p1) (q2 : xs 2 = p2) (q3 : xs 3 = p3) (q4 : xs 4 = p4) (q5 : xs 5 = p5) : jw p l e R s m args below meth c E 8 0 0 Q 33 [(0, .ref 1000002), (1, .ref 0), (2, .ref 178), (3, .ref 226), (4, .int (0 : Int32))] [] (jv_H (jx_K 227) jx_If jx_L0 (jx_R 227)) 227 1572950 := by
  refine jw.steps F jx_i439 2 (pc' := 36) (l' := [(0, .ref 1000002), (1, .ref 0), (2, .ref 178), (3, .ref 226), (4, .int (0 : Int32))]) (st' := [.int (0 : Int32), .ref 1000002]) rfl ?_
  refine jw.sld F jx_i439 hX hbB hE2 (pc' := 37) rfl rfl (show vp_in (nI 0) 6 from vp_in_nI (by decide) (by decide)) q0 rfl ?_
  refine jw.steps F jx_i439 2 (pc' := 40) (l' := [(0, .ref 1000002), (1, .ref 0), (2, .ref 178), (3, .ref 226), (4, .int (0 : Int32))]) (st' := [.int (p0 &&& (31 : Int32))]) rfl ?_
  refine jw.br F jx_i439 (pc' := 304) (st' := []) rfl (by rw [hsw]; rfl) ?_
  refine jw.steps F jx_i439 5 (pc' := 310) (l' := [(0, .ref 1000002), (1, .ref 0), (2, .ref 178), (3, .ref 226), (4, .int (0 : Int32))]) (st' := [.int (1 : Int32), .ref 1000002, .ref 0]) rfl ?_
  refine jw.sld F jx_i439 hX hbB hE2 (pc' := 311) rfl rfl (show vp_in (nI 1) 6 from vp_in_nI (by decide) (by decide)) q1 rfl ?_
  refine jw.steps F jx_i439 4 (pc' := 316) (l' := [(0, .ref 1000002), (1, .ref 0), (2, .ref 178), (3, .ref 226), (4, .int (0 : Int32))]) (st' := [.int (2 : Int32), .ref 1000002, .int p1, .ref 0]) rfl ?_
  refine jw.sld F jx_i439 hX hbB hE2 (pc' := 317) rfl rfl (show vp_in (nI 2) 6 from vp_in_nI (by decide) (by decide)) q2 rfl ?_
  refine jw.steps F jx_i439 4 (pc' := 322) (l' := [(0, .ref 1000002), (1, .ref 0), (2, .ref 178), (3, .ref 226), (4, .int (0 : Int32))]) (st' := [.int (3 : Int32), .ref 1000002, .int p2, .int p1, .ref 0]) rfl ?_
  refine jw.sld F jx_i439 hX hbB hE2 (pc' := 323) rfl rfl (show vp_in (nI 3) 6 from vp_in_nI (by decide) (by decide)) q3 rfl ?_
  refine jw.steps F jx_i439 4 (pc' := 328) (l' := [(0, .ref 1000002), (1, .ref 0), (2, .ref 178), (3, .ref 226), (4, .int (0 : Int32))]) (st' := [.int (4 : Int32), .ref 1000002, .int p3, .int p2, .int p1, .ref 0]) rfl ?_
  refine jw.sld F jx_i439 hX hbB hE2 (pc' := 329) rfl rfl (show vp_in (nI 4) 6 from vp_in_nI (by decide) (by decide)) q4 rfl ?_
  refine jw.steps F jx_i439 1 (pc' := 330) (l' := [(0, .ref 1000002), (1, .ref 0), (2, .ref 178), (3, .ref 226), (4, .int (0 : Int32))]) (st' := [.ref 226, .int p4, .int p3, .int p2, .int p1, .ref 0]) rfl ?_
  refine jw.wr F hl hZ rfl jx_i439 jx_i442 [.ref 0, .int p1, .int p2, .int p3, .int p4, .ref 226] (pc' := 333) (S' := [.int (1 : Int32)]) rfl (List.mem_of_getElem? (i := 2) rfl) (List.mem_of_getElem? (i := 2) rfl) rfl rfl rfl (jx_w875 hTb hT2 p0 p1 p2 p3 p4 p5 g1 g2 g3 g4 g5) (by omega) (by omega) (by omega) (by omega) rfl rfl ?_
  refine jw.steps F jx_i439 6 (pc' := 341) (l' := [(5, .int (1 : Int32)), (0, .ref 1000002), (1, .ref 0), (2, .ref 178), (3, .ref 226), (4, .int (0 : Int32))]) (st' := [.int (1 : Int32), .ref 1000002, .ref 178]) rfl ?_
  refine jw.sld F jx_i439 hX hbB hE2 (pc' := 342) rfl rfl (show vp_in (nI 1) 6 from vp_in_nI (by decide) (by decide)) q1 rfl ?_
  refine jw.steps F jx_i439 4 (pc' := 347) (l' := [(5, .int (1 : Int32)), (0, .ref 1000002), (1, .ref 0), (2, .ref 178), (3, .ref 226), (4, .int (0 : Int32))]) (st' := [.int (2 : Int32), .ref 1000002, .int p1, .ref 178]) rfl ?_
  refine jw.sld F jx_i439 hX hbB hE2 (pc' := 348) rfl rfl (show vp_in (nI 2) 6 from vp_in_nI (by decide) (by decide)) q2 rfl ?_
  refine jw.steps F jx_i439 4 (pc' := 353) (l' := [(5, .int (1 : Int32)), (0, .ref 1000002), (1, .ref 0), (2, .ref 178), (3, .ref 226), (4, .int (0 : Int32))]) (st' := [.int (3 : Int32), .ref 1000002, .int p2, .int p1, .ref 178]) rfl ?_
  refine jw.sld F jx_i439 hX hbB hE2 (pc' := 354) rfl rfl (show vp_in (nI 3) 6 from vp_in_nI (by decide) (by decide)) q3 rfl ?_
  refine jw.steps F jx_i439 4 (pc' := 359) (l' := [(5, .int (1 : Int32)), (0, .ref 1000002), (1, .ref 0), (2, .ref 178), (3, .ref 226), (4, .int (0 : Int32))]) (st' := [.int (4 : Int32), .ref 1000002, .int p3, .int p2, .int p1, .ref 178]) rfl ?_
  refine jw.sld F jx_i439 hX hbB hE2 (pc' := 360) rfl rfl (show vp_in (nI 4) 6 from vp_in_nI (by decide) (by decide)) q4 rfl ?_
  refine jw.ca hTb F jx_i439 (pc' := 363) (S' := [.int (0 : Int32)]) rfl jv_i353 [.ref 178, .int p1, .int p2, .int p3, .int p4] rfl rfl rfl rfl (jx_cal2 rfl (jv_H_at rfl) rfl rfl) rfl (jx_e880 p0 p1 p2 p3 p4 p5 g1 g2 g3 g4 g5) (by omega) (by omega) rfl rfl ?_
  refine jw.steps F jx_i439 2 (pc' := 366) (l' := [(6, .int (0 : Int32)), (5, .int (1 : Int32)), (0, .ref 1000002), (1, .ref 0), (2, .ref 178), (3, .ref 226), (4, .int (0 : Int32))]) (st' := [.ref 178]) rfl ?_
  refine jw.ca hTb F jx_i439 (pc' := 369) (S' := [.int (1 : Int32)]) rfl jv_i350 [.ref 178] rfl rfl rfl rfl (jx_cal2 rfl (jv_H_at rfl) rfl rfl) rfl (jx_e881 p0 p1 p2 p3 p4 p5 g1 g2 g3 g4 g5) (by omega) (by omega) rfl rfl ?_
  refine jw.steps F jx_i439 1 (pc' := 371) (l' := [(6, .int (0 : Int32)), (5, .int (1 : Int32)), (0, .ref 1000002), (1, .ref 0), (2, .ref 178), (3, .ref 226), (4, .int (0 : Int32))]) (st' := [.int (1 : Int32), .int (1 : Int32)]) rfl ?_
  refine jw.br F jx_i439 (pc' := 376) (st' := []) rfl (jv_bc_eq.trans (jx_got (by decide))) ?_
  refine jw.steps F jx_i439 1 (pc' := 378) (l' := [(6, .int (0 : Int32)), (5, .int (1 : Int32)), (0, .ref 1000002), (1, .ref 0), (2, .ref 178), (3, .ref 226), (4, .int (0 : Int32))]) (st' := [.int (1 : Int32)]) rfl ?_
  refine jw.br F jx_i439 (pc' := 393) (st' := []) rfl (jv_bi_ne.trans (jx_got (by decide))) ?_
  refine jw.steps F jx_i439 5 (pc' := 26) (l' := [(4, .int (6 : Int32)), (6, .int (0 : Int32)), (5, .int (1 : Int32)), (0, .ref 1000002), (1, .ref 0), (2, .ref 178), (3, .ref 226)]) (st' := [.ref 1000002, .int (6 : Int32)]) rfl ?_
  refine jw.slen F jx_i439 hX hbB hE2 (pc' := 27) rfl rfl rfl ?_
  refine jw.steps F jx_i439 2 (pc' := 30) (l' := [(4, .int (6 : Int32)), (6, .int (0 : Int32)), (5, .int (1 : Int32)), (0, .ref 1000002), (1, .ref 0), (2, .ref 178), (3, .ref 226)]) (st' := [.int (0 : Int32), .int (6 : Int32)]) rfl ?_
  refine jw.br F jx_i439 (pc' := 1531) (st' := []) rfl (jv_bc_gt.trans (jx_got (by decide))) ?_
  refine jw.steps F jx_i439 1 (pc' := 1532) (l' := [(4, .int (6 : Int32)), (6, .int (0 : Int32)), (5, .int (1 : Int32)), (0, .ref 1000002), (1, .ref 0), (2, .ref 178), (3, .ref 226)]) (st' := [.int (1 : Int32)]) rfl ?_
  exact hQ _ _ _ _ (by omega) (by omega)

set_option maxRecDepth 100000 in
/-- ProgramBox$Store.isShape -/
theorem jx_e882 (p0 : Int32) (p1 : Int32) (p2 : Int32) (p3 : Int32) (p4 : Int32) (p5 : Int32) (g1 : ¬ p1 = (2 : Int32)) (g2 : ¬ p1 = (0 : Int32)) (g3 : p1 = (1 : Int32)) (g4 : ¬ p2 < (1 : Int32)) (g5 : ¬ (32 : Int32) < p2) (g6 : p3 < (1 : Int32)) : jv_Ms 123 [.int p1, .int p2, .int p3, .int p4] (jv_H (jx_K 227) jx_If jx_L0 (jx_R 227)) 227 1572950 (some (.int (0 : Int32)), (jv_H (jx_K 227) jx_If jx_L0 (jx_R 227)), 227, 1572950) := by
  show jv_Ev 123 0 [(0, .int p1), (1, .int p2), (2, .int p3), (3, .int p4)] [] (jv_H (jx_K 227) jx_If jx_L0 (jx_R 227)) 227 1572950 _
  refine jv_Ev.steps jv_i123 2 (pc' := 2) (l' := [(0, .int p1), (1, .int p2), (2, .int p3), (3, .int p4)]) (st' := [.int (2 : Int32), .int p1]) rfl ?_
  refine jv_Ev.br jv_i123 (pc' := 40) (st' := []) rfl (jv_bc_ne.trans (jx_got (by rw [g3] <;> decide))) ?_
  refine jv_Ev.steps jv_i123 1 (pc' := 41) (l' := [(0, .int p1), (1, .int p2), (2, .int p3), (3, .int p4)]) (st' := [.int p1]) rfl ?_
  refine jv_Ev.br jv_i123 (pc' := 57) (st' := []) rfl (jv_bi_ne.trans (jx_got (by rw [g3] <;> decide))) ?_
  refine jv_Ev.steps jv_i123 2 (pc' := 59) (l' := [(0, .int p1), (1, .int p2), (2, .int p3), (3, .int p4)]) (st' := [.int (1 : Int32), .int p1]) rfl ?_
  refine jv_Ev.br jv_i123 (pc' := 62) (st' := []) rfl (jv_bc_ne.trans (jx_gof (by rw [g3] <;> decide))) ?_
  refine jv_Ev.steps jv_i123 2 (pc' := 64) (l' := [(0, .int p1), (1, .int p2), (2, .int p3), (3, .int p4)]) (st' := [.int (1 : Int32), .int p2]) rfl ?_
  refine jv_Ev.br jv_i123 (pc' := 67) (st' := []) rfl (jv_bc_lt.trans (jx_gof g4)) ?_
  refine jv_Ev.steps jv_i123 2 (pc' := 70) (l' := [(0, .int p1), (1, .int p2), (2, .int p3), (3, .int p4)]) (st' := [.int (32 : Int32), .int p2]) rfl ?_
  refine jv_Ev.br jv_i123 (pc' := 73) (st' := []) rfl (jv_bc_gt.trans (jx_gof g5)) ?_
  refine jv_Ev.steps jv_i123 4 (pc' := 82) (l' := [(4, .int (1 : Int32)), (0, .int p1), (1, .int p2), (2, .int p3), (3, .int p4)]) (st' := [.int (1 : Int32)]) rfl ?_
  refine jv_Ev.br jv_i123 (pc' := 85) (st' := []) rfl (jv_bi_eq.trans (jx_gof (by decide))) ?_
  refine jv_Ev.steps jv_i123 2 (pc' := 87) (l' := [(4, .int (1 : Int32)), (0, .int p1), (1, .int p2), (2, .int p3), (3, .int p4)]) (st' := [.int (1 : Int32), .int p3]) rfl ?_
  refine jv_Ev.br jv_i123 (pc' := 113) (st' := []) rfl (jv_bc_lt.trans (jx_got g6)) ?_
  refine jv_Ev.steps jv_i123 1 (pc' := 114) (l' := [(4, .int (1 : Int32)), (0, .int p1), (1, .int p2), (2, .int p3), (3, .int p4)]) (st' := [.int (0 : Int32)]) rfl ?_
  exact jv_Ev.ret jv_i123 rfl (jv_ret_b (by decide))

set_option maxRecDepth 100000 in
/-- ProgramBox.make: it throws -/
theorem jx_e883 (hTb : jv_TOk jv_Tb) (p0 : Int32) (p1 : Int32) (p2 : Int32) (p3 : Int32) (p4 : Int32) (p5 : Int32) (g1 : ¬ p1 = (2 : Int32)) (g2 : ¬ p1 = (0 : Int32)) (g3 : p1 = (1 : Int32)) (g4 : ¬ p2 < (1 : Int32)) (g5 : ¬ (32 : Int32) < p2) (g6 : p3 < (1 : Int32)) : jx_Th 420 [.ref 0, .int p1, .int p2, .int p3, .int p4] (jv_H (jx_K 227) jx_If jx_L0 (jx_R 227)) 227 1572950 1 (jv_H (jx_K 227) jx_If jx_L0 (jx_R 227)) 228 1572956 := by
  refine jx_Th.of hTb (y := 420) rfl (Nat.le_of_ble_eq_true rfl) ?_
  intro p l e R s m args below meth c E hl F hZ h0 ht hRc hRs
  show jw p l e R s m args below meth c E 5 227 1572950 _ 0 [(0, .ref 0), (1, .int p1), (2, .int p2), (3, .int p3), (4, .int p4)] [] (jv_H (jx_K 227) jx_If jx_L0 (jx_R 227)) 227 1572950
  refine jw.steps F jv_i420 4 (pc' := 5) (l' := [(0, .ref 0), (1, .int p1), (2, .int p2), (3, .int p3), (4, .int p4)]) (st' := [.int p4, .int p3, .int p2, .int p1]) rfl ?_
  refine jw.ca hTb F jv_i420 (pc' := 8) (S' := [.int (0 : Int32)]) rfl jv_i123 [.int p1, .int p2, .int p3, .int p4] rfl rfl rfl rfl rfl rfl (jx_e882 p0 p1 p2 p3 p4 p5 g1 g2 g3 g4 g5 g6) (by omega) (by omega) rfl rfl ?_
  refine jw.br F jv_i420 (pc' := 11) (st' := []) rfl (jv_bi_ne.trans (jx_gof (by decide))) ?_
  exact jw.throw hl F hZ h0 rfl jv_i420 ht 1 69 "no map is like this" (List.mem_of_getElem? (i := 2) rfl) (by decide +kernel) (by decide +kernel) (by decide +kernel) (by decide +kernel) (by decide +kernel) rfl (by decide) (by decide) (by decide) (by omega) (by omega)

set_option maxRecDepth 100000 in
/-- the law's make -/
theorem jx_w884 (hTb : jv_TOk jv_Tb) (hT2 : jx_T2Ok) (p0 : Int32) (p1 : Int32) (p2 : Int32) (p3 : Int32) (p4 : Int32) (p5 : Int32) (g1 : ¬ p1 = (2 : Int32)) (g2 : ¬ p1 = (0 : Int32)) (g3 : p1 = (1 : Int32)) (g4 : ¬ p2 < (1 : Int32)) (g5 : ¬ (32 : Int32) < p2) (g6 : p3 < (1 : Int32)) : jx_Wr 442 [(0, 14, 17, 19), (0, 14, 21, 13)] [.ref 0, .int p1, .int p2, .int p3, .int p4, .ref 226] (jv_H (jx_K 227) jx_If jx_L0 (jx_R 227)) 227 1572950 (some (.int (1 : Int32)), (jv_H (jx_K 227) jx_If jx_L0 (jx_R 227)), 228, 1572956) := by
  refine jx_Wr.of hT2 (by decide) rfl (Nat.le_of_ble_eq_true rfl) ?_
  intro p l e R s m args below meth c E hl F hZ htb hRc hRs
  show jw p l e R s m args below meth c E 7 227 1572950 _ 0 [(0, .ref 0), (1, .int p1), (2, .int p2), (3, .int p3), (4, .int p4), (5, .ref 226)] [] (jv_H (jx_K 227) jx_If jx_L0 (jx_R 227)) 227 1572950
  have hRc : R.cells = 228 - 227 := hRc
  have hRs : R.slots = 1572956 - 1572950 := hRs
  refine jw.steps F jx_i442 7 (pc' := 9) (l' := [(0, .ref 0), (1, .int p1), (2, .int p2), (3, .int p3), (4, .int p4), (5, .ref 226)]) (st' := [.int p4, .int p3, .int p2, .int p1, .ref 0, .int (0 : Int32), .ref 226]) rfl ?_
  refine jw.cat hTb hl F hZ rfl jx_i442 htb rfl jv_i420 [.ref 0, .int p1, .int p2, .int p3, .int p4] rfl rfl rfl rfl rfl (jx_cal2 rfl (jv_H_at rfl) rfl rfl) rfl (jx_e883 hTb p0 p1 p2 p3 p4 p5 g1 g2 g3 g4 g5 g6) (by omega) (by omega) (by omega) (by omega) [] (0, 14, 17, 19) [(0, 14, 21, 13)] rfl (fun z h => absurd h List.not_mem_nil) (by decide) rfl rfl (Or.inl ⟨rfl, rfl⟩) (by decide) ?_
  refine jw.steps F jx_i442 1 (pc' := 20) (l' := []) (st' := [.int (1 : Int32)]) rfl ?_
  exact jw.ret F jx_i442 rfl rfl

set_option maxRecDepth 100000 in
/-- ProgramBoxModel$Store.isIn -/
theorem jx_e885 (p0 : Int32) (p1 : Int32) (p2 : Int32) (p3 : Int32) (p4 : Int32) (p5 : Int32) (g1 : ¬ p1 = (2 : Int32)) (g2 : ¬ p1 = (0 : Int32)) (g3 : p1 = (1 : Int32)) (g4 : ¬ p2 < (1 : Int32)) (g5 : ¬ (32 : Int32) < p2) (g6 : p3 < (1 : Int32)) : jv_Ms 320 [.int p2, .int (1 : Int32), .int (32 : Int32)] (jv_H (jx_K 227) jx_If jx_L0 (jx_R 227)) 228 1572956 (some (.int (1 : Int32)), (jv_H (jx_K 227) jx_If jx_L0 (jx_R 227)), 228, 1572956) := by
  show jv_Ev 320 0 [(0, .int p2), (1, .int (1 : Int32)), (2, .int (32 : Int32))] [] (jv_H (jx_K 227) jx_If jx_L0 (jx_R 227)) 228 1572956 _
  refine jv_Ev.steps jv_i320 2 (pc' := 2) (l' := [(0, .int p2), (1, .int (1 : Int32)), (2, .int (32 : Int32))]) (st' := [.int (1 : Int32), .int p2]) rfl ?_
  refine jv_Ev.br jv_i320 (pc' := 5) (st' := []) rfl (jv_bc_lt.trans (jx_gof g4)) ?_
  refine jv_Ev.steps jv_i320 2 (pc' := 7) (l' := [(0, .int p2), (1, .int (1 : Int32)), (2, .int (32 : Int32))]) (st' := [.int (32 : Int32), .int p2]) rfl ?_
  refine jv_Ev.br jv_i320 (pc' := 10) (st' := []) rfl (jv_bc_gt.trans (jx_gof g5)) ?_
  refine jv_Ev.steps jv_i320 2 (pc' := 15) (l' := [(0, .int p2), (1, .int (1 : Int32)), (2, .int (32 : Int32))]) (st' := [.int (1 : Int32)]) rfl ?_
  exact jv_Ev.ret jv_i320 rfl (jv_ret_b (by decide))

set_option maxRecDepth 100000 in
/-- ProgramBoxModel$Store.isIn -/
theorem jx_e886 (p0 : Int32) (p1 : Int32) (p2 : Int32) (p3 : Int32) (p4 : Int32) (p5 : Int32) (g1 : ¬ p1 = (2 : Int32)) (g2 : ¬ p1 = (0 : Int32)) (g3 : p1 = (1 : Int32)) (g4 : ¬ p2 < (1 : Int32)) (g5 : ¬ (32 : Int32) < p2) (g6 : p3 < (1 : Int32)) : jv_Ms 320 [.int p3, .int (1 : Int32), .int (256 : Int32)] (jv_H (jx_K 227) jx_If jx_L0 (jx_R 227)) 228 1572956 (some (.int (0 : Int32)), (jv_H (jx_K 227) jx_If jx_L0 (jx_R 227)), 228, 1572956) := by
  show jv_Ev 320 0 [(0, .int p3), (1, .int (1 : Int32)), (2, .int (256 : Int32))] [] (jv_H (jx_K 227) jx_If jx_L0 (jx_R 227)) 228 1572956 _
  refine jv_Ev.steps jv_i320 2 (pc' := 2) (l' := [(0, .int p3), (1, .int (1 : Int32)), (2, .int (256 : Int32))]) (st' := [.int (1 : Int32), .int p3]) rfl ?_
  refine jv_Ev.br jv_i320 (pc' := 14) (st' := []) rfl (jv_bc_lt.trans (jx_got g6)) ?_
  refine jv_Ev.steps jv_i320 1 (pc' := 15) (l' := [(0, .int p3), (1, .int (1 : Int32)), (2, .int (256 : Int32))]) (st' := [.int (0 : Int32)]) rfl ?_
  exact jv_Ev.ret jv_i320 rfl (jv_ret_b (by decide))

set_option maxRecDepth 100000 in
/-- ProgramBoxModel$Store.isProper -/
theorem jx_e887 (p0 : Int32) (p1 : Int32) (p2 : Int32) (p3 : Int32) (p4 : Int32) (p5 : Int32) (g1 : ¬ p1 = (2 : Int32)) (g2 : ¬ p1 = (0 : Int32)) (g3 : p1 = (1 : Int32)) (g4 : ¬ p2 < (1 : Int32)) (g5 : ¬ (32 : Int32) < p2) (g6 : p3 < (1 : Int32)) : jv_Ms 322 [.int p1, .int p2, .int p3, .int p4] (jv_H (jx_K 227) jx_If jx_L0 (jx_R 227)) 228 1572956 (some (.int (0 : Int32)), (jv_H (jx_K 227) jx_If jx_L0 (jx_R 227)), 228, 1572956) := by
  show jv_Ev 322 0 [(0, .int p1), (1, .int p2), (2, .int p3), (3, .int p4)] [] (jv_H (jx_K 227) jx_If jx_L0 (jx_R 227)) 228 1572956 _
  refine jv_Ev.steps jv_i322 2 (pc' := 2) (l' := [(0, .int p1), (1, .int p2), (2, .int p3), (3, .int p4)]) (st' := [.int (2 : Int32), .int p1]) rfl ?_
  refine jv_Ev.br jv_i322 (pc' := 38) (st' := []) rfl (jv_bc_ne.trans (jx_got (by rw [g3] <;> decide))) ?_
  refine jv_Ev.steps jv_i322 1 (pc' := 39) (l' := [(0, .int p1), (1, .int p2), (2, .int p3), (3, .int p4)]) (st' := [.int p1]) rfl ?_
  refine jv_Ev.br jv_i322 (pc' := 55) (st' := []) rfl (jv_bi_ne.trans (jx_got (by rw [g3] <;> decide))) ?_
  refine jv_Ev.steps jv_i322 2 (pc' := 57) (l' := [(0, .int p1), (1, .int p2), (2, .int p3), (3, .int p4)]) (st' := [.int (1 : Int32), .int p1]) rfl ?_
  refine jv_Ev.br jv_i322 (pc' := 60) (st' := []) rfl (jv_bc_ne.trans (jx_gof (by rw [g3] <;> decide))) ?_
  refine jv_Ev.steps jv_i322 3 (pc' := 64) (l' := [(0, .int p1), (1, .int p2), (2, .int p3), (3, .int p4)]) (st' := [.int (32 : Int32), .int (1 : Int32), .int p2]) rfl ?_
  refine jv_Ev.c jv_i322 (pc' := 67) (S' := [.int (1 : Int32)]) jv_i320 [.int p2, .int (1 : Int32), .int (32 : Int32)] rfl rfl rfl rfl rfl rfl (jx_e885 p0 p1 p2 p3 p4 p5 g1 g2 g3 g4 g5 g6) rfl rfl ?_
  refine jv_Ev.br jv_i322 (pc' := 70) (st' := []) rfl (jv_bi_eq.trans (jx_gof (by decide))) ?_
  refine jv_Ev.steps jv_i322 4 (pc' := 79) (l' := [(4, .int (1 : Int32)), (0, .int p1), (1, .int p2), (2, .int p3), (3, .int p4)]) (st' := [.int (1 : Int32)]) rfl ?_
  refine jv_Ev.br jv_i322 (pc' := 82) (st' := []) rfl (jv_bi_eq.trans (jx_gof (by decide))) ?_
  refine jv_Ev.steps jv_i322 3 (pc' := 87) (l' := [(4, .int (1 : Int32)), (0, .int p1), (1, .int p2), (2, .int p3), (3, .int p4)]) (st' := [.int (256 : Int32), .int (1 : Int32), .int p3]) rfl ?_
  refine jv_Ev.c jv_i322 (pc' := 90) (S' := [.int (0 : Int32)]) jv_i320 [.int p3, .int (1 : Int32), .int (256 : Int32)] rfl rfl rfl rfl rfl rfl (jx_e886 p0 p1 p2 p3 p4 p5 g1 g2 g3 g4 g5 g6) rfl rfl ?_
  refine jv_Ev.br jv_i322 (pc' := 108) (st' := []) rfl (jv_bi_eq.trans (jx_got (by decide))) ?_
  refine jv_Ev.steps jv_i322 1 (pc' := 109) (l' := [(4, .int (1 : Int32)), (0, .int p1), (1, .int p2), (2, .int p3), (3, .int p4)]) (st' := [.int (0 : Int32)]) rfl ?_
  exact jv_Ev.ret jv_i322 rfl (jv_ret_b (by decide))

set_option maxRecDepth 100000 in
/-- ProgramBoxModel$Store.make -/
theorem jx_e888 (p0 : Int32) (p1 : Int32) (p2 : Int32) (p3 : Int32) (p4 : Int32) (p5 : Int32) (g1 : ¬ p1 = (2 : Int32)) (g2 : ¬ p1 = (0 : Int32)) (g3 : p1 = (1 : Int32)) (g4 : ¬ p2 < (1 : Int32)) (g5 : ¬ (32 : Int32) < p2) (g6 : p3 < (1 : Int32)) : jv_Ms 323 [.ref 180, .int p1, .int p2, .int p3, .int p4] (jv_H (jx_K 227) jx_If jx_L0 (jx_R 227)) 228 1572956 (some (.int (0 : Int32)), (jv_H (jx_K 227) (jv_u jx_If 180 0 (1 : Int32)) jx_L0 (jx_R 227)), 228, 1572956) := by
  show jv_Ev 323 0 [(0, .ref 180), (1, .int p1), (2, .int p2), (3, .int p3), (4, .int p4)] [] (jv_H (jx_K 227) jx_If jx_L0 (jx_R 227)) 228 1572956 _
  refine jv_Ev.steps jv_i323 5 (pc' := 6) (l' := [(0, .ref 180), (1, .int p1), (2, .int p2), (3, .int p3), (4, .int p4)]) (st' := [.int p4, .int p3, .int p2, .int p1, .ref 180]) rfl ?_
  refine jv_Ev.c jv_i323 (pc' := 9) (S' := [.int (0 : Int32), .ref 180]) jv_i322 [.int p1, .int p2, .int p3, .int p4] rfl rfl rfl rfl rfl rfl (jx_e887 p0 p1 p2 p3 p4 p5 g1 g2 g3 g4 g5 g6) rfl rfl ?_
  refine jv_Ev.br jv_i323 (pc' := 16) (st' := [.ref 180]) rfl (jv_bi_eq.trans (jx_got (by decide))) ?_
  refine jv_Ev.steps jv_i323 1 (pc' := 17) (l' := [(0, .ref 180), (1, .int p1), (2, .int p2), (3, .int p3), (4, .int p4)]) (st' := [.int (1 : Int32), .ref 180]) rfl ?_
  refine jv_Ev.m jv_i323 (pc' := 20) (st' := []) rfl rfl (jv_m_putI rfl rfl rfl rfl rfl) ?_
  refine jv_Ev.steps jv_i323 1 (pc' := 21) (l' := [(0, .ref 180), (1, .int p1), (2, .int p2), (3, .int p3), (4, .int p4)]) (st' := [.ref 180]) rfl ?_
  refine jv_Ev.m jv_i323 (pc' := 24) (st' := [.int (1 : Int32)]) rfl rfl (jv_m_getI rfl rfl rfl rfl) ?_
  refine jv_Ev.br jv_i323 (pc' := 27) (st' := []) rfl (jv_bi_le.trans (jx_gof (by decide))) ?_
  refine jv_Ev.steps jv_i323 1 (pc' := 28) (l' := [(0, .ref 180), (1, .int p1), (2, .int p2), (3, .int p3), (4, .int p4)]) (st' := [.int (0 : Int32)]) rfl ?_
  exact jv_Ev.ret jv_i323 rfl rfl

set_option maxRecDepth 100000 in
/-- ProgramBoxModel$Store.thrown -/
theorem jx_e889 (p0 : Int32) (p1 : Int32) (p2 : Int32) (p3 : Int32) (p4 : Int32) (p5 : Int32) (g1 : ¬ p1 = (2 : Int32)) (g2 : ¬ p1 = (0 : Int32)) (g3 : p1 = (1 : Int32)) (g4 : ¬ p2 < (1 : Int32)) (g5 : ¬ (32 : Int32) < p2) (g6 : p3 < (1 : Int32)) : jv_Ms 318 [.ref 180] (jv_H (jx_K 227) (jv_u jx_If 180 0 (1 : Int32)) jx_L0 (jx_R 227)) 228 1572956 (some (.int (1 : Int32)), (jv_H (jx_K 227) (jv_u jx_If 180 0 (1 : Int32)) jx_L0 (jx_R 227)), 228, 1572956) := by
  show jv_Ev 318 0 [(0, .ref 180)] [] (jv_H (jx_K 227) (jv_u jx_If 180 0 (1 : Int32)) jx_L0 (jx_R 227)) 228 1572956 _
  refine jv_Ev.steps jv_i318 1 (pc' := 1) (l' := [(0, .ref 180)]) (st' := [.ref 180]) rfl ?_
  refine jv_Ev.m jv_i318 (pc' := 4) (st' := [.int (1 : Int32)]) rfl rfl (jv_m_getI rfl rfl rfl rfl) ?_
  exact jv_Ev.ret jv_i318 rfl rfl

set_option maxRecDepth 100000 in
/-- ProgramBoxModel.make -/
theorem jx_e890 (p0 : Int32) (p1 : Int32) (p2 : Int32) (p3 : Int32) (p4 : Int32) (p5 : Int32) (g1 : ¬ p1 = (2 : Int32)) (g2 : ¬ p1 = (0 : Int32)) (g3 : p1 = (1 : Int32)) (g4 : ¬ p2 < (1 : Int32)) (g5 : ¬ (32 : Int32) < p2) (g6 : p3 < (1 : Int32)) : jv_Ms 353 [.ref 178, .int p1, .int p2, .int p3, .int p4] (jv_H (jx_K 227) jx_If jx_L0 (jx_R 227)) 228 1572956 (some (.int (0 : Int32)), (jv_H (jx_K 227) (jv_u (jv_u jx_If 180 0 (1 : Int32)) 178 0 (1 : Int32)) jx_L0 (jx_R 227)), 228, 1572956) := by
  show jv_Ev 353 0 [(0, .ref 178), (1, .int p1), (2, .int p2), (3, .int p3), (4, .int p4)] [] (jv_H (jx_K 227) jx_If jx_L0 (jx_R 227)) 228 1572956 _
  refine jv_Ev.steps jv_i353 1 (pc' := 1) (l' := [(0, .ref 178), (1, .int p1), (2, .int p2), (3, .int p3), (4, .int p4)]) (st' := [.ref 178]) rfl ?_
  refine jv_Ev.m jv_i353 (pc' := 4) (st' := [.ref 180]) rfl rfl (jv_m_getR rfl rfl rfl rfl) ?_
  refine jv_Ev.steps jv_i353 4 (pc' := 9) (l' := [(0, .ref 178), (1, .int p1), (2, .int p2), (3, .int p3), (4, .int p4)]) (st' := [.int p4, .int p3, .int p2, .int p1, .ref 180]) rfl ?_
  refine jv_Ev.c jv_i353 (pc' := 12) (S' := [.int (0 : Int32)]) jv_i323 [.ref 180, .int p1, .int p2, .int p3, .int p4] rfl rfl rfl rfl (jv_cal rfl (jv_H_at rfl) rfl rfl) rfl (jx_e888 p0 p1 p2 p3 p4 p5 g1 g2 g3 g4 g5 g6) rfl rfl ?_
  refine jv_Ev.steps jv_i353 3 (pc' := 16) (l' := [(5, .int (0 : Int32)), (0, .ref 178), (1, .int p1), (2, .int p2), (3, .int p3), (4, .int p4)]) (st' := [.ref 178, .ref 178]) rfl ?_
  refine jv_Ev.m jv_i353 (pc' := 19) (st' := [.ref 180, .ref 178]) rfl rfl (jv_m_getR rfl rfl rfl rfl) ?_
  refine jv_Ev.c jv_i353 (pc' := 22) (S' := [.int (1 : Int32), .ref 178]) jv_i318 [.ref 180] rfl rfl rfl rfl (jv_cal rfl (jv_H_at rfl) rfl rfl) rfl (jx_e889 p0 p1 p2 p3 p4 p5 g1 g2 g3 g4 g5 g6) rfl rfl ?_
  refine jv_Ev.m jv_i353 (pc' := 25) (st' := []) rfl rfl (jv_m_putI rfl rfl rfl rfl rfl) ?_
  refine jv_Ev.steps jv_i353 1 (pc' := 26) (l' := [(5, .int (0 : Int32)), (0, .ref 178), (1, .int p1), (2, .int p2), (3, .int p3), (4, .int p4)]) (st' := [.ref 178]) rfl ?_
  refine jv_Ev.m jv_i353 (pc' := 29) (st' := [.int (1 : Int32)]) rfl rfl (jv_m_getI rfl rfl rfl rfl) ?_
  refine jv_Ev.br jv_i353 (pc' := 67) (st' := []) rfl (jv_bi_ne.trans (jx_got (by decide))) ?_
  refine jv_Ev.steps jv_i353 1 (pc' := 69) (l' := [(5, .int (0 : Int32)), (0, .ref 178), (1, .int p1), (2, .int p2), (3, .int p3), (4, .int p4)]) (st' := [.int (0 : Int32)]) rfl ?_
  exact jv_Ev.ret jv_i353 rfl rfl

set_option maxRecDepth 100000 in
/-- ProgramBoxModel.thrown -/
theorem jx_e891 (p0 : Int32) (p1 : Int32) (p2 : Int32) (p3 : Int32) (p4 : Int32) (p5 : Int32) (g1 : ¬ p1 = (2 : Int32)) (g2 : ¬ p1 = (0 : Int32)) (g3 : p1 = (1 : Int32)) (g4 : ¬ p2 < (1 : Int32)) (g5 : ¬ (32 : Int32) < p2) (g6 : p3 < (1 : Int32)) : jv_Ms 350 [.ref 178] (jv_H (jx_K 227) (jv_u (jv_u jx_If 180 0 (1 : Int32)) 178 0 (1 : Int32)) jx_L0 (jx_R 227)) 228 1572956 (some (.int (1 : Int32)), (jv_H (jx_K 227) (jv_u (jv_u jx_If 180 0 (1 : Int32)) 178 0 (1 : Int32)) jx_L0 (jx_R 227)), 228, 1572956) := by
  show jv_Ev 350 0 [(0, .ref 178)] [] (jv_H (jx_K 227) (jv_u (jv_u jx_If 180 0 (1 : Int32)) 178 0 (1 : Int32)) jx_L0 (jx_R 227)) 228 1572956 _
  refine jv_Ev.steps jv_i350 1 (pc' := 1) (l' := [(0, .ref 178)]) (st' := [.ref 178]) rfl ?_
  refine jv_Ev.m jv_i350 (pc' := 4) (st' := [.int (1 : Int32)]) rfl rfl (jv_m_getI rfl rfl rfl rfl) ?_
  exact jv_Ev.ret jv_i350 rfl rfl

set_option maxRecDepth 100000 in
/-- the law: case 2, one way -/
theorem jx_l100 (p0 : Int32) (p1 : Int32) (p2 : Int32) (p3 : Int32) (p4 : Int32) (p5 : Int32) (g1 : ¬ p1 = (2 : Int32)) (g2 : ¬ p1 = (0 : Int32)) (g3 : p1 = (1 : Int32)) (g4 : ¬ p2 < (1 : Int32)) (g5 : ¬ (32 : Int32) < p2) (g6 : p3 < (1 : Int32)) (hsw : p0 &&& (31 : Int32) = (2 : Int32)) {p : Program} {l : Launch} {e : Env} {R : Room} {s : State} {m : MethodId} {args : Array Value} {below : List Frame} {meth : Method} {c : Code} {E : jv_Env} {Q : State → Prop} (hTb : jv_TOk jv_Tb) (hT2 : jx_T2Ok) (hl : l.stackTraces = false) (F : jx_F jv_T2 439 E p R s m args meth c) (hZ : jx_Z E s) (hRc : R.cells = 600002) (hRs : R.slots = 7302232) {bb : Nat} {xs : Nat → Int32} (hX : va_X bb 6 xs s E.2.2.2.2) (hbB : bb < E.2.2.2.1) (hE2 : E.1 1000002 = bb) (hQ : ∀ (l0 : jv_L) (G : jv_G) (n sl : Nat), n ≤ 600002 → sl ≤ 7302232 → jw p l e R s m args below meth c E 8 0 0 Q 1532 l0 [.int (1 : Int32)] G n sl) (q0 : xs 0 = p0) (q1 : xs 1 = p1) (q2 : xs 2 = p2) (q3 : xs 3 = p3) (q4 : xs 4 = p4) (q5 : xs 5 = p5) : jw p l e R s m args below meth c E 8 0 0 Q 33 [(0, .ref 1000002), (1, .ref 0), (2, .ref 178), (3, .ref 226), (4, .int (0 : Int32))] [] (jv_H (jx_K 227) jx_If jx_L0 (jx_R 227)) 227 1572950 := by
  refine jw.steps F jx_i439 2 (pc' := 36) (l' := [(0, .ref 1000002), (1, .ref 0), (2, .ref 178), (3, .ref 226), (4, .int (0 : Int32))]) (st' := [.int (0 : Int32), .ref 1000002]) rfl ?_
  refine jw.sld F jx_i439 hX hbB hE2 (pc' := 37) rfl rfl (show vp_in (nI 0) 6 from vp_in_nI (by decide) (by decide)) q0 rfl ?_
  refine jw.steps F jx_i439 2 (pc' := 40) (l' := [(0, .ref 1000002), (1, .ref 0), (2, .ref 178), (3, .ref 226), (4, .int (0 : Int32))]) (st' := [.int (p0 &&& (31 : Int32))]) rfl ?_
  refine jw.br F jx_i439 (pc' := 304) (st' := []) rfl (by rw [hsw]; rfl) ?_
  refine jw.steps F jx_i439 5 (pc' := 310) (l' := [(0, .ref 1000002), (1, .ref 0), (2, .ref 178), (3, .ref 226), (4, .int (0 : Int32))]) (st' := [.int (1 : Int32), .ref 1000002, .ref 0]) rfl ?_
  refine jw.sld F jx_i439 hX hbB hE2 (pc' := 311) rfl rfl (show vp_in (nI 1) 6 from vp_in_nI (by decide) (by decide)) q1 rfl ?_
  refine jw.steps F jx_i439 4 (pc' := 316) (l' := [(0, .ref 1000002), (1, .ref 0), (2, .ref 178), (3, .ref 226), (4, .int (0 : Int32))]) (st' := [.int (2 : Int32), .ref 1000002, .int p1, .ref 0]) rfl ?_
  refine jw.sld F jx_i439 hX hbB hE2 (pc' := 317) rfl rfl (show vp_in (nI 2) 6 from vp_in_nI (by decide) (by decide)) q2 rfl ?_
  refine jw.steps F jx_i439 4 (pc' := 322) (l' := [(0, .ref 1000002), (1, .ref 0), (2, .ref 178), (3, .ref 226), (4, .int (0 : Int32))]) (st' := [.int (3 : Int32), .ref 1000002, .int p2, .int p1, .ref 0]) rfl ?_
  refine jw.sld F jx_i439 hX hbB hE2 (pc' := 323) rfl rfl (show vp_in (nI 3) 6 from vp_in_nI (by decide) (by decide)) q3 rfl ?_
  refine jw.steps F jx_i439 4 (pc' := 328) (l' := [(0, .ref 1000002), (1, .ref 0), (2, .ref 178), (3, .ref 226), (4, .int (0 : Int32))]) (st' := [.int (4 : Int32), .ref 1000002, .int p3, .int p2, .int p1, .ref 0]) rfl ?_
  refine jw.sld F jx_i439 hX hbB hE2 (pc' := 329) rfl rfl (show vp_in (nI 4) 6 from vp_in_nI (by decide) (by decide)) q4 rfl ?_
  refine jw.steps F jx_i439 1 (pc' := 330) (l' := [(0, .ref 1000002), (1, .ref 0), (2, .ref 178), (3, .ref 226), (4, .int (0 : Int32))]) (st' := [.ref 226, .int p4, .int p3, .int p2, .int p1, .ref 0]) rfl ?_
  refine jw.wr F hl hZ rfl jx_i439 jx_i442 [.ref 0, .int p1, .int p2, .int p3, .int p4, .ref 226] (pc' := 333) (S' := [.int (1 : Int32)]) rfl (List.mem_of_getElem? (i := 2) rfl) (List.mem_of_getElem? (i := 2) rfl) rfl rfl rfl (jx_w884 hTb hT2 p0 p1 p2 p3 p4 p5 g1 g2 g3 g4 g5 g6) (by omega) (by omega) (by omega) (by omega) rfl rfl ?_
  refine jw.steps F jx_i439 6 (pc' := 341) (l' := [(5, .int (1 : Int32)), (0, .ref 1000002), (1, .ref 0), (2, .ref 178), (3, .ref 226), (4, .int (0 : Int32))]) (st' := [.int (1 : Int32), .ref 1000002, .ref 178]) rfl ?_
  refine jw.sld F jx_i439 hX hbB hE2 (pc' := 342) rfl rfl (show vp_in (nI 1) 6 from vp_in_nI (by decide) (by decide)) q1 rfl ?_
  refine jw.steps F jx_i439 4 (pc' := 347) (l' := [(5, .int (1 : Int32)), (0, .ref 1000002), (1, .ref 0), (2, .ref 178), (3, .ref 226), (4, .int (0 : Int32))]) (st' := [.int (2 : Int32), .ref 1000002, .int p1, .ref 178]) rfl ?_
  refine jw.sld F jx_i439 hX hbB hE2 (pc' := 348) rfl rfl (show vp_in (nI 2) 6 from vp_in_nI (by decide) (by decide)) q2 rfl ?_
  refine jw.steps F jx_i439 4 (pc' := 353) (l' := [(5, .int (1 : Int32)), (0, .ref 1000002), (1, .ref 0), (2, .ref 178), (3, .ref 226), (4, .int (0 : Int32))]) (st' := [.int (3 : Int32), .ref 1000002, .int p2, .int p1, .ref 178]) rfl ?_
  refine jw.sld F jx_i439 hX hbB hE2 (pc' := 354) rfl rfl (show vp_in (nI 3) 6 from vp_in_nI (by decide) (by decide)) q3 rfl ?_
  refine jw.steps F jx_i439 4 (pc' := 359) (l' := [(5, .int (1 : Int32)), (0, .ref 1000002), (1, .ref 0), (2, .ref 178), (3, .ref 226), (4, .int (0 : Int32))]) (st' := [.int (4 : Int32), .ref 1000002, .int p3, .int p2, .int p1, .ref 178]) rfl ?_
  refine jw.sld F jx_i439 hX hbB hE2 (pc' := 360) rfl rfl (show vp_in (nI 4) 6 from vp_in_nI (by decide) (by decide)) q4 rfl ?_
  refine jw.ca hTb F jx_i439 (pc' := 363) (S' := [.int (0 : Int32)]) rfl jv_i353 [.ref 178, .int p1, .int p2, .int p3, .int p4] rfl rfl rfl rfl (jx_cal2 rfl (jv_H_at rfl) rfl rfl) rfl (jx_e890 p0 p1 p2 p3 p4 p5 g1 g2 g3 g4 g5 g6) (by omega) (by omega) rfl rfl ?_
  refine jw.steps F jx_i439 2 (pc' := 366) (l' := [(6, .int (0 : Int32)), (5, .int (1 : Int32)), (0, .ref 1000002), (1, .ref 0), (2, .ref 178), (3, .ref 226), (4, .int (0 : Int32))]) (st' := [.ref 178]) rfl ?_
  refine jw.ca hTb F jx_i439 (pc' := 369) (S' := [.int (1 : Int32)]) rfl jv_i350 [.ref 178] rfl rfl rfl rfl (jx_cal2 rfl (jv_H_at rfl) rfl rfl) rfl (jx_e891 p0 p1 p2 p3 p4 p5 g1 g2 g3 g4 g5 g6) (by omega) (by omega) rfl rfl ?_
  refine jw.steps F jx_i439 1 (pc' := 371) (l' := [(6, .int (0 : Int32)), (5, .int (1 : Int32)), (0, .ref 1000002), (1, .ref 0), (2, .ref 178), (3, .ref 226), (4, .int (0 : Int32))]) (st' := [.int (1 : Int32), .int (1 : Int32)]) rfl ?_
  refine jw.br F jx_i439 (pc' := 376) (st' := []) rfl (jv_bc_eq.trans (jx_got (by decide))) ?_
  refine jw.steps F jx_i439 1 (pc' := 378) (l' := [(6, .int (0 : Int32)), (5, .int (1 : Int32)), (0, .ref 1000002), (1, .ref 0), (2, .ref 178), (3, .ref 226), (4, .int (0 : Int32))]) (st' := [.int (1 : Int32)]) rfl ?_
  refine jw.br F jx_i439 (pc' := 393) (st' := []) rfl (jv_bi_ne.trans (jx_got (by decide))) ?_
  refine jw.steps F jx_i439 5 (pc' := 26) (l' := [(4, .int (6 : Int32)), (6, .int (0 : Int32)), (5, .int (1 : Int32)), (0, .ref 1000002), (1, .ref 0), (2, .ref 178), (3, .ref 226)]) (st' := [.ref 1000002, .int (6 : Int32)]) rfl ?_
  refine jw.slen F jx_i439 hX hbB hE2 (pc' := 27) rfl rfl rfl ?_
  refine jw.steps F jx_i439 2 (pc' := 30) (l' := [(4, .int (6 : Int32)), (6, .int (0 : Int32)), (5, .int (1 : Int32)), (0, .ref 1000002), (1, .ref 0), (2, .ref 178), (3, .ref 226)]) (st' := [.int (0 : Int32), .int (6 : Int32)]) rfl ?_
  refine jw.br F jx_i439 (pc' := 1531) (st' := []) rfl (jv_bc_gt.trans (jx_got (by decide))) ?_
  refine jw.steps F jx_i439 1 (pc' := 1532) (l' := [(4, .int (6 : Int32)), (6, .int (0 : Int32)), (5, .int (1 : Int32)), (0, .ref 1000002), (1, .ref 0), (2, .ref 178), (3, .ref 226)]) (st' := [.int (1 : Int32)]) rfl ?_
  exact hQ _ _ _ _ (by omega) (by omega)

set_option maxRecDepth 100000 in
/-- ProgramBox$Store.isShape -/
theorem jx_e892 (p0 : Int32) (p1 : Int32) (p2 : Int32) (p3 : Int32) (p4 : Int32) (p5 : Int32) (g1 : ¬ p1 = (2 : Int32)) (g2 : ¬ p1 = (0 : Int32)) (g3 : p1 = (1 : Int32)) (g4 : ¬ p2 < (1 : Int32)) (g5 : ¬ (32 : Int32) < p2) (g6 : ¬ p3 < (1 : Int32)) (g7 : (256 : Int32) < p3) : jv_Ms 123 [.int p1, .int p2, .int p3, .int p4] (jv_H (jx_K 227) jx_If jx_L0 (jx_R 227)) 227 1572950 (some (.int (0 : Int32)), (jv_H (jx_K 227) jx_If jx_L0 (jx_R 227)), 227, 1572950) := by
  show jv_Ev 123 0 [(0, .int p1), (1, .int p2), (2, .int p3), (3, .int p4)] [] (jv_H (jx_K 227) jx_If jx_L0 (jx_R 227)) 227 1572950 _
  refine jv_Ev.steps jv_i123 2 (pc' := 2) (l' := [(0, .int p1), (1, .int p2), (2, .int p3), (3, .int p4)]) (st' := [.int (2 : Int32), .int p1]) rfl ?_
  refine jv_Ev.br jv_i123 (pc' := 40) (st' := []) rfl (jv_bc_ne.trans (jx_got (by rw [g3] <;> decide))) ?_
  refine jv_Ev.steps jv_i123 1 (pc' := 41) (l' := [(0, .int p1), (1, .int p2), (2, .int p3), (3, .int p4)]) (st' := [.int p1]) rfl ?_
  refine jv_Ev.br jv_i123 (pc' := 57) (st' := []) rfl (jv_bi_ne.trans (jx_got (by rw [g3] <;> decide))) ?_
  refine jv_Ev.steps jv_i123 2 (pc' := 59) (l' := [(0, .int p1), (1, .int p2), (2, .int p3), (3, .int p4)]) (st' := [.int (1 : Int32), .int p1]) rfl ?_
  refine jv_Ev.br jv_i123 (pc' := 62) (st' := []) rfl (jv_bc_ne.trans (jx_gof (by rw [g3] <;> decide))) ?_
  refine jv_Ev.steps jv_i123 2 (pc' := 64) (l' := [(0, .int p1), (1, .int p2), (2, .int p3), (3, .int p4)]) (st' := [.int (1 : Int32), .int p2]) rfl ?_
  refine jv_Ev.br jv_i123 (pc' := 67) (st' := []) rfl (jv_bc_lt.trans (jx_gof g4)) ?_
  refine jv_Ev.steps jv_i123 2 (pc' := 70) (l' := [(0, .int p1), (1, .int p2), (2, .int p3), (3, .int p4)]) (st' := [.int (32 : Int32), .int p2]) rfl ?_
  refine jv_Ev.br jv_i123 (pc' := 73) (st' := []) rfl (jv_bc_gt.trans (jx_gof g5)) ?_
  refine jv_Ev.steps jv_i123 4 (pc' := 82) (l' := [(4, .int (1 : Int32)), (0, .int p1), (1, .int p2), (2, .int p3), (3, .int p4)]) (st' := [.int (1 : Int32)]) rfl ?_
  refine jv_Ev.br jv_i123 (pc' := 85) (st' := []) rfl (jv_bi_eq.trans (jx_gof (by decide))) ?_
  refine jv_Ev.steps jv_i123 2 (pc' := 87) (l' := [(4, .int (1 : Int32)), (0, .int p1), (1, .int p2), (2, .int p3), (3, .int p4)]) (st' := [.int (1 : Int32), .int p3]) rfl ?_
  refine jv_Ev.br jv_i123 (pc' := 90) (st' := []) rfl (jv_bc_lt.trans (jx_gof g6)) ?_
  refine jv_Ev.steps jv_i123 2 (pc' := 94) (l' := [(4, .int (1 : Int32)), (0, .int p1), (1, .int p2), (2, .int p3), (3, .int p4)]) (st' := [.int (256 : Int32), .int p3]) rfl ?_
  refine jv_Ev.br jv_i123 (pc' := 113) (st' := []) rfl (jv_bc_gt.trans (jx_got g7)) ?_
  refine jv_Ev.steps jv_i123 1 (pc' := 114) (l' := [(4, .int (1 : Int32)), (0, .int p1), (1, .int p2), (2, .int p3), (3, .int p4)]) (st' := [.int (0 : Int32)]) rfl ?_
  exact jv_Ev.ret jv_i123 rfl (jv_ret_b (by decide))

set_option maxRecDepth 100000 in
/-- ProgramBox.make: it throws -/
theorem jx_e893 (hTb : jv_TOk jv_Tb) (p0 : Int32) (p1 : Int32) (p2 : Int32) (p3 : Int32) (p4 : Int32) (p5 : Int32) (g1 : ¬ p1 = (2 : Int32)) (g2 : ¬ p1 = (0 : Int32)) (g3 : p1 = (1 : Int32)) (g4 : ¬ p2 < (1 : Int32)) (g5 : ¬ (32 : Int32) < p2) (g6 : ¬ p3 < (1 : Int32)) (g7 : (256 : Int32) < p3) : jx_Th 420 [.ref 0, .int p1, .int p2, .int p3, .int p4] (jv_H (jx_K 227) jx_If jx_L0 (jx_R 227)) 227 1572950 1 (jv_H (jx_K 227) jx_If jx_L0 (jx_R 227)) 228 1572956 := by
  refine jx_Th.of hTb (y := 420) rfl (Nat.le_of_ble_eq_true rfl) ?_
  intro p l e R s m args below meth c E hl F hZ h0 ht hRc hRs
  show jw p l e R s m args below meth c E 5 227 1572950 _ 0 [(0, .ref 0), (1, .int p1), (2, .int p2), (3, .int p3), (4, .int p4)] [] (jv_H (jx_K 227) jx_If jx_L0 (jx_R 227)) 227 1572950
  refine jw.steps F jv_i420 4 (pc' := 5) (l' := [(0, .ref 0), (1, .int p1), (2, .int p2), (3, .int p3), (4, .int p4)]) (st' := [.int p4, .int p3, .int p2, .int p1]) rfl ?_
  refine jw.ca hTb F jv_i420 (pc' := 8) (S' := [.int (0 : Int32)]) rfl jv_i123 [.int p1, .int p2, .int p3, .int p4] rfl rfl rfl rfl rfl rfl (jx_e892 p0 p1 p2 p3 p4 p5 g1 g2 g3 g4 g5 g6 g7) (by omega) (by omega) rfl rfl ?_
  refine jw.br F jv_i420 (pc' := 11) (st' := []) rfl (jv_bi_ne.trans (jx_gof (by decide))) ?_
  exact jw.throw hl F hZ h0 rfl jv_i420 ht 1 69 "no map is like this" (List.mem_of_getElem? (i := 2) rfl) (by decide +kernel) (by decide +kernel) (by decide +kernel) (by decide +kernel) (by decide +kernel) rfl (by decide) (by decide) (by decide) (by omega) (by omega)

set_option maxRecDepth 100000 in
/-- the law's make -/
theorem jx_w894 (hTb : jv_TOk jv_Tb) (hT2 : jx_T2Ok) (p0 : Int32) (p1 : Int32) (p2 : Int32) (p3 : Int32) (p4 : Int32) (p5 : Int32) (g1 : ¬ p1 = (2 : Int32)) (g2 : ¬ p1 = (0 : Int32)) (g3 : p1 = (1 : Int32)) (g4 : ¬ p2 < (1 : Int32)) (g5 : ¬ (32 : Int32) < p2) (g6 : ¬ p3 < (1 : Int32)) (g7 : (256 : Int32) < p3) : jx_Wr 442 [(0, 14, 17, 19), (0, 14, 21, 13)] [.ref 0, .int p1, .int p2, .int p3, .int p4, .ref 226] (jv_H (jx_K 227) jx_If jx_L0 (jx_R 227)) 227 1572950 (some (.int (1 : Int32)), (jv_H (jx_K 227) jx_If jx_L0 (jx_R 227)), 228, 1572956) := by
  refine jx_Wr.of hT2 (by decide) rfl (Nat.le_of_ble_eq_true rfl) ?_
  intro p l e R s m args below meth c E hl F hZ htb hRc hRs
  show jw p l e R s m args below meth c E 7 227 1572950 _ 0 [(0, .ref 0), (1, .int p1), (2, .int p2), (3, .int p3), (4, .int p4), (5, .ref 226)] [] (jv_H (jx_K 227) jx_If jx_L0 (jx_R 227)) 227 1572950
  have hRc : R.cells = 228 - 227 := hRc
  have hRs : R.slots = 1572956 - 1572950 := hRs
  refine jw.steps F jx_i442 7 (pc' := 9) (l' := [(0, .ref 0), (1, .int p1), (2, .int p2), (3, .int p3), (4, .int p4), (5, .ref 226)]) (st' := [.int p4, .int p3, .int p2, .int p1, .ref 0, .int (0 : Int32), .ref 226]) rfl ?_
  refine jw.cat hTb hl F hZ rfl jx_i442 htb rfl jv_i420 [.ref 0, .int p1, .int p2, .int p3, .int p4] rfl rfl rfl rfl rfl (jx_cal2 rfl (jv_H_at rfl) rfl rfl) rfl (jx_e893 hTb p0 p1 p2 p3 p4 p5 g1 g2 g3 g4 g5 g6 g7) (by omega) (by omega) (by omega) (by omega) [] (0, 14, 17, 19) [(0, 14, 21, 13)] rfl (fun z h => absurd h List.not_mem_nil) (by decide) rfl rfl (Or.inl ⟨rfl, rfl⟩) (by decide) ?_
  refine jw.steps F jx_i442 1 (pc' := 20) (l' := []) (st' := [.int (1 : Int32)]) rfl ?_
  exact jw.ret F jx_i442 rfl rfl

set_option maxRecDepth 100000 in
/-- ProgramBoxModel$Store.isIn -/
theorem jx_e895 (p0 : Int32) (p1 : Int32) (p2 : Int32) (p3 : Int32) (p4 : Int32) (p5 : Int32) (g1 : ¬ p1 = (2 : Int32)) (g2 : ¬ p1 = (0 : Int32)) (g3 : p1 = (1 : Int32)) (g4 : ¬ p2 < (1 : Int32)) (g5 : ¬ (32 : Int32) < p2) (g6 : ¬ p3 < (1 : Int32)) (g7 : (256 : Int32) < p3) : jv_Ms 320 [.int p2, .int (1 : Int32), .int (32 : Int32)] (jv_H (jx_K 227) jx_If jx_L0 (jx_R 227)) 228 1572956 (some (.int (1 : Int32)), (jv_H (jx_K 227) jx_If jx_L0 (jx_R 227)), 228, 1572956) := by
  show jv_Ev 320 0 [(0, .int p2), (1, .int (1 : Int32)), (2, .int (32 : Int32))] [] (jv_H (jx_K 227) jx_If jx_L0 (jx_R 227)) 228 1572956 _
  refine jv_Ev.steps jv_i320 2 (pc' := 2) (l' := [(0, .int p2), (1, .int (1 : Int32)), (2, .int (32 : Int32))]) (st' := [.int (1 : Int32), .int p2]) rfl ?_
  refine jv_Ev.br jv_i320 (pc' := 5) (st' := []) rfl (jv_bc_lt.trans (jx_gof g4)) ?_
  refine jv_Ev.steps jv_i320 2 (pc' := 7) (l' := [(0, .int p2), (1, .int (1 : Int32)), (2, .int (32 : Int32))]) (st' := [.int (32 : Int32), .int p2]) rfl ?_
  refine jv_Ev.br jv_i320 (pc' := 10) (st' := []) rfl (jv_bc_gt.trans (jx_gof g5)) ?_
  refine jv_Ev.steps jv_i320 2 (pc' := 15) (l' := [(0, .int p2), (1, .int (1 : Int32)), (2, .int (32 : Int32))]) (st' := [.int (1 : Int32)]) rfl ?_
  exact jv_Ev.ret jv_i320 rfl (jv_ret_b (by decide))

set_option maxRecDepth 100000 in
/-- ProgramBoxModel$Store.isIn -/
theorem jx_e896 (p0 : Int32) (p1 : Int32) (p2 : Int32) (p3 : Int32) (p4 : Int32) (p5 : Int32) (g1 : ¬ p1 = (2 : Int32)) (g2 : ¬ p1 = (0 : Int32)) (g3 : p1 = (1 : Int32)) (g4 : ¬ p2 < (1 : Int32)) (g5 : ¬ (32 : Int32) < p2) (g6 : ¬ p3 < (1 : Int32)) (g7 : (256 : Int32) < p3) : jv_Ms 320 [.int p3, .int (1 : Int32), .int (256 : Int32)] (jv_H (jx_K 227) jx_If jx_L0 (jx_R 227)) 228 1572956 (some (.int (0 : Int32)), (jv_H (jx_K 227) jx_If jx_L0 (jx_R 227)), 228, 1572956) := by
  show jv_Ev 320 0 [(0, .int p3), (1, .int (1 : Int32)), (2, .int (256 : Int32))] [] (jv_H (jx_K 227) jx_If jx_L0 (jx_R 227)) 228 1572956 _
  refine jv_Ev.steps jv_i320 2 (pc' := 2) (l' := [(0, .int p3), (1, .int (1 : Int32)), (2, .int (256 : Int32))]) (st' := [.int (1 : Int32), .int p3]) rfl ?_
  refine jv_Ev.br jv_i320 (pc' := 5) (st' := []) rfl (jv_bc_lt.trans (jx_gof g6)) ?_
  refine jv_Ev.steps jv_i320 2 (pc' := 7) (l' := [(0, .int p3), (1, .int (1 : Int32)), (2, .int (256 : Int32))]) (st' := [.int (256 : Int32), .int p3]) rfl ?_
  refine jv_Ev.br jv_i320 (pc' := 14) (st' := []) rfl (jv_bc_gt.trans (jx_got g7)) ?_
  refine jv_Ev.steps jv_i320 1 (pc' := 15) (l' := [(0, .int p3), (1, .int (1 : Int32)), (2, .int (256 : Int32))]) (st' := [.int (0 : Int32)]) rfl ?_
  exact jv_Ev.ret jv_i320 rfl (jv_ret_b (by decide))

set_option maxRecDepth 100000 in
/-- ProgramBoxModel$Store.isProper -/
theorem jx_e897 (p0 : Int32) (p1 : Int32) (p2 : Int32) (p3 : Int32) (p4 : Int32) (p5 : Int32) (g1 : ¬ p1 = (2 : Int32)) (g2 : ¬ p1 = (0 : Int32)) (g3 : p1 = (1 : Int32)) (g4 : ¬ p2 < (1 : Int32)) (g5 : ¬ (32 : Int32) < p2) (g6 : ¬ p3 < (1 : Int32)) (g7 : (256 : Int32) < p3) : jv_Ms 322 [.int p1, .int p2, .int p3, .int p4] (jv_H (jx_K 227) jx_If jx_L0 (jx_R 227)) 228 1572956 (some (.int (0 : Int32)), (jv_H (jx_K 227) jx_If jx_L0 (jx_R 227)), 228, 1572956) := by
  show jv_Ev 322 0 [(0, .int p1), (1, .int p2), (2, .int p3), (3, .int p4)] [] (jv_H (jx_K 227) jx_If jx_L0 (jx_R 227)) 228 1572956 _
  refine jv_Ev.steps jv_i322 2 (pc' := 2) (l' := [(0, .int p1), (1, .int p2), (2, .int p3), (3, .int p4)]) (st' := [.int (2 : Int32), .int p1]) rfl ?_
  refine jv_Ev.br jv_i322 (pc' := 38) (st' := []) rfl (jv_bc_ne.trans (jx_got (by rw [g3] <;> decide))) ?_
  refine jv_Ev.steps jv_i322 1 (pc' := 39) (l' := [(0, .int p1), (1, .int p2), (2, .int p3), (3, .int p4)]) (st' := [.int p1]) rfl ?_
  refine jv_Ev.br jv_i322 (pc' := 55) (st' := []) rfl (jv_bi_ne.trans (jx_got (by rw [g3] <;> decide))) ?_
  refine jv_Ev.steps jv_i322 2 (pc' := 57) (l' := [(0, .int p1), (1, .int p2), (2, .int p3), (3, .int p4)]) (st' := [.int (1 : Int32), .int p1]) rfl ?_
  refine jv_Ev.br jv_i322 (pc' := 60) (st' := []) rfl (jv_bc_ne.trans (jx_gof (by rw [g3] <;> decide))) ?_
  refine jv_Ev.steps jv_i322 3 (pc' := 64) (l' := [(0, .int p1), (1, .int p2), (2, .int p3), (3, .int p4)]) (st' := [.int (32 : Int32), .int (1 : Int32), .int p2]) rfl ?_
  refine jv_Ev.c jv_i322 (pc' := 67) (S' := [.int (1 : Int32)]) jv_i320 [.int p2, .int (1 : Int32), .int (32 : Int32)] rfl rfl rfl rfl rfl rfl (jx_e895 p0 p1 p2 p3 p4 p5 g1 g2 g3 g4 g5 g6 g7) rfl rfl ?_
  refine jv_Ev.br jv_i322 (pc' := 70) (st' := []) rfl (jv_bi_eq.trans (jx_gof (by decide))) ?_
  refine jv_Ev.steps jv_i322 4 (pc' := 79) (l' := [(4, .int (1 : Int32)), (0, .int p1), (1, .int p2), (2, .int p3), (3, .int p4)]) (st' := [.int (1 : Int32)]) rfl ?_
  refine jv_Ev.br jv_i322 (pc' := 82) (st' := []) rfl (jv_bi_eq.trans (jx_gof (by decide))) ?_
  refine jv_Ev.steps jv_i322 3 (pc' := 87) (l' := [(4, .int (1 : Int32)), (0, .int p1), (1, .int p2), (2, .int p3), (3, .int p4)]) (st' := [.int (256 : Int32), .int (1 : Int32), .int p3]) rfl ?_
  refine jv_Ev.c jv_i322 (pc' := 90) (S' := [.int (0 : Int32)]) jv_i320 [.int p3, .int (1 : Int32), .int (256 : Int32)] rfl rfl rfl rfl rfl rfl (jx_e896 p0 p1 p2 p3 p4 p5 g1 g2 g3 g4 g5 g6 g7) rfl rfl ?_
  refine jv_Ev.br jv_i322 (pc' := 108) (st' := []) rfl (jv_bi_eq.trans (jx_got (by decide))) ?_
  refine jv_Ev.steps jv_i322 1 (pc' := 109) (l' := [(4, .int (1 : Int32)), (0, .int p1), (1, .int p2), (2, .int p3), (3, .int p4)]) (st' := [.int (0 : Int32)]) rfl ?_
  exact jv_Ev.ret jv_i322 rfl (jv_ret_b (by decide))

set_option maxRecDepth 100000 in
/-- ProgramBoxModel$Store.make -/
theorem jx_e898 (p0 : Int32) (p1 : Int32) (p2 : Int32) (p3 : Int32) (p4 : Int32) (p5 : Int32) (g1 : ¬ p1 = (2 : Int32)) (g2 : ¬ p1 = (0 : Int32)) (g3 : p1 = (1 : Int32)) (g4 : ¬ p2 < (1 : Int32)) (g5 : ¬ (32 : Int32) < p2) (g6 : ¬ p3 < (1 : Int32)) (g7 : (256 : Int32) < p3) : jv_Ms 323 [.ref 180, .int p1, .int p2, .int p3, .int p4] (jv_H (jx_K 227) jx_If jx_L0 (jx_R 227)) 228 1572956 (some (.int (0 : Int32)), (jv_H (jx_K 227) (jv_u jx_If 180 0 (1 : Int32)) jx_L0 (jx_R 227)), 228, 1572956) := by
  show jv_Ev 323 0 [(0, .ref 180), (1, .int p1), (2, .int p2), (3, .int p3), (4, .int p4)] [] (jv_H (jx_K 227) jx_If jx_L0 (jx_R 227)) 228 1572956 _
  refine jv_Ev.steps jv_i323 5 (pc' := 6) (l' := [(0, .ref 180), (1, .int p1), (2, .int p2), (3, .int p3), (4, .int p4)]) (st' := [.int p4, .int p3, .int p2, .int p1, .ref 180]) rfl ?_
  refine jv_Ev.c jv_i323 (pc' := 9) (S' := [.int (0 : Int32), .ref 180]) jv_i322 [.int p1, .int p2, .int p3, .int p4] rfl rfl rfl rfl rfl rfl (jx_e897 p0 p1 p2 p3 p4 p5 g1 g2 g3 g4 g5 g6 g7) rfl rfl ?_
  refine jv_Ev.br jv_i323 (pc' := 16) (st' := [.ref 180]) rfl (jv_bi_eq.trans (jx_got (by decide))) ?_
  refine jv_Ev.steps jv_i323 1 (pc' := 17) (l' := [(0, .ref 180), (1, .int p1), (2, .int p2), (3, .int p3), (4, .int p4)]) (st' := [.int (1 : Int32), .ref 180]) rfl ?_
  refine jv_Ev.m jv_i323 (pc' := 20) (st' := []) rfl rfl (jv_m_putI rfl rfl rfl rfl rfl) ?_
  refine jv_Ev.steps jv_i323 1 (pc' := 21) (l' := [(0, .ref 180), (1, .int p1), (2, .int p2), (3, .int p3), (4, .int p4)]) (st' := [.ref 180]) rfl ?_
  refine jv_Ev.m jv_i323 (pc' := 24) (st' := [.int (1 : Int32)]) rfl rfl (jv_m_getI rfl rfl rfl rfl) ?_
  refine jv_Ev.br jv_i323 (pc' := 27) (st' := []) rfl (jv_bi_le.trans (jx_gof (by decide))) ?_
  refine jv_Ev.steps jv_i323 1 (pc' := 28) (l' := [(0, .ref 180), (1, .int p1), (2, .int p2), (3, .int p3), (4, .int p4)]) (st' := [.int (0 : Int32)]) rfl ?_
  exact jv_Ev.ret jv_i323 rfl rfl

set_option maxRecDepth 100000 in
/-- ProgramBoxModel$Store.thrown -/
theorem jx_e899 (p0 : Int32) (p1 : Int32) (p2 : Int32) (p3 : Int32) (p4 : Int32) (p5 : Int32) (g1 : ¬ p1 = (2 : Int32)) (g2 : ¬ p1 = (0 : Int32)) (g3 : p1 = (1 : Int32)) (g4 : ¬ p2 < (1 : Int32)) (g5 : ¬ (32 : Int32) < p2) (g6 : ¬ p3 < (1 : Int32)) (g7 : (256 : Int32) < p3) : jv_Ms 318 [.ref 180] (jv_H (jx_K 227) (jv_u jx_If 180 0 (1 : Int32)) jx_L0 (jx_R 227)) 228 1572956 (some (.int (1 : Int32)), (jv_H (jx_K 227) (jv_u jx_If 180 0 (1 : Int32)) jx_L0 (jx_R 227)), 228, 1572956) := by
  show jv_Ev 318 0 [(0, .ref 180)] [] (jv_H (jx_K 227) (jv_u jx_If 180 0 (1 : Int32)) jx_L0 (jx_R 227)) 228 1572956 _
  refine jv_Ev.steps jv_i318 1 (pc' := 1) (l' := [(0, .ref 180)]) (st' := [.ref 180]) rfl ?_
  refine jv_Ev.m jv_i318 (pc' := 4) (st' := [.int (1 : Int32)]) rfl rfl (jv_m_getI rfl rfl rfl rfl) ?_
  exact jv_Ev.ret jv_i318 rfl rfl

set_option maxRecDepth 100000 in
/-- ProgramBoxModel.make -/
theorem jx_e900 (p0 : Int32) (p1 : Int32) (p2 : Int32) (p3 : Int32) (p4 : Int32) (p5 : Int32) (g1 : ¬ p1 = (2 : Int32)) (g2 : ¬ p1 = (0 : Int32)) (g3 : p1 = (1 : Int32)) (g4 : ¬ p2 < (1 : Int32)) (g5 : ¬ (32 : Int32) < p2) (g6 : ¬ p3 < (1 : Int32)) (g7 : (256 : Int32) < p3) : jv_Ms 353 [.ref 178, .int p1, .int p2, .int p3, .int p4] (jv_H (jx_K 227) jx_If jx_L0 (jx_R 227)) 228 1572956 (some (.int (0 : Int32)), (jv_H (jx_K 227) (jv_u (jv_u jx_If 180 0 (1 : Int32)) 178 0 (1 : Int32)) jx_L0 (jx_R 227)), 228, 1572956) := by
  show jv_Ev 353 0 [(0, .ref 178), (1, .int p1), (2, .int p2), (3, .int p3), (4, .int p4)] [] (jv_H (jx_K 227) jx_If jx_L0 (jx_R 227)) 228 1572956 _
  refine jv_Ev.steps jv_i353 1 (pc' := 1) (l' := [(0, .ref 178), (1, .int p1), (2, .int p2), (3, .int p3), (4, .int p4)]) (st' := [.ref 178]) rfl ?_
  refine jv_Ev.m jv_i353 (pc' := 4) (st' := [.ref 180]) rfl rfl (jv_m_getR rfl rfl rfl rfl) ?_
  refine jv_Ev.steps jv_i353 4 (pc' := 9) (l' := [(0, .ref 178), (1, .int p1), (2, .int p2), (3, .int p3), (4, .int p4)]) (st' := [.int p4, .int p3, .int p2, .int p1, .ref 180]) rfl ?_
  refine jv_Ev.c jv_i353 (pc' := 12) (S' := [.int (0 : Int32)]) jv_i323 [.ref 180, .int p1, .int p2, .int p3, .int p4] rfl rfl rfl rfl (jv_cal rfl (jv_H_at rfl) rfl rfl) rfl (jx_e898 p0 p1 p2 p3 p4 p5 g1 g2 g3 g4 g5 g6 g7) rfl rfl ?_
  refine jv_Ev.steps jv_i353 3 (pc' := 16) (l' := [(5, .int (0 : Int32)), (0, .ref 178), (1, .int p1), (2, .int p2), (3, .int p3), (4, .int p4)]) (st' := [.ref 178, .ref 178]) rfl ?_
  refine jv_Ev.m jv_i353 (pc' := 19) (st' := [.ref 180, .ref 178]) rfl rfl (jv_m_getR rfl rfl rfl rfl) ?_
  refine jv_Ev.c jv_i353 (pc' := 22) (S' := [.int (1 : Int32), .ref 178]) jv_i318 [.ref 180] rfl rfl rfl rfl (jv_cal rfl (jv_H_at rfl) rfl rfl) rfl (jx_e899 p0 p1 p2 p3 p4 p5 g1 g2 g3 g4 g5 g6 g7) rfl rfl ?_
  refine jv_Ev.m jv_i353 (pc' := 25) (st' := []) rfl rfl (jv_m_putI rfl rfl rfl rfl rfl) ?_
  refine jv_Ev.steps jv_i353 1 (pc' := 26) (l' := [(5, .int (0 : Int32)), (0, .ref 178), (1, .int p1), (2, .int p2), (3, .int p3), (4, .int p4)]) (st' := [.ref 178]) rfl ?_
  refine jv_Ev.m jv_i353 (pc' := 29) (st' := [.int (1 : Int32)]) rfl rfl (jv_m_getI rfl rfl rfl rfl) ?_
  refine jv_Ev.br jv_i353 (pc' := 67) (st' := []) rfl (jv_bi_ne.trans (jx_got (by decide))) ?_
  refine jv_Ev.steps jv_i353 1 (pc' := 69) (l' := [(5, .int (0 : Int32)), (0, .ref 178), (1, .int p1), (2, .int p2), (3, .int p3), (4, .int p4)]) (st' := [.int (0 : Int32)]) rfl ?_
  exact jv_Ev.ret jv_i353 rfl rfl

set_option maxRecDepth 100000 in
/-- ProgramBoxModel.thrown -/
theorem jx_e901 (p0 : Int32) (p1 : Int32) (p2 : Int32) (p3 : Int32) (p4 : Int32) (p5 : Int32) (g1 : ¬ p1 = (2 : Int32)) (g2 : ¬ p1 = (0 : Int32)) (g3 : p1 = (1 : Int32)) (g4 : ¬ p2 < (1 : Int32)) (g5 : ¬ (32 : Int32) < p2) (g6 : ¬ p3 < (1 : Int32)) (g7 : (256 : Int32) < p3) : jv_Ms 350 [.ref 178] (jv_H (jx_K 227) (jv_u (jv_u jx_If 180 0 (1 : Int32)) 178 0 (1 : Int32)) jx_L0 (jx_R 227)) 228 1572956 (some (.int (1 : Int32)), (jv_H (jx_K 227) (jv_u (jv_u jx_If 180 0 (1 : Int32)) 178 0 (1 : Int32)) jx_L0 (jx_R 227)), 228, 1572956) := by
  show jv_Ev 350 0 [(0, .ref 178)] [] (jv_H (jx_K 227) (jv_u (jv_u jx_If 180 0 (1 : Int32)) 178 0 (1 : Int32)) jx_L0 (jx_R 227)) 228 1572956 _
  refine jv_Ev.steps jv_i350 1 (pc' := 1) (l' := [(0, .ref 178)]) (st' := [.ref 178]) rfl ?_
  refine jv_Ev.m jv_i350 (pc' := 4) (st' := [.int (1 : Int32)]) rfl rfl (jv_m_getI rfl rfl rfl rfl) ?_
  exact jv_Ev.ret jv_i350 rfl rfl

set_option maxRecDepth 100000 in
/-- the law: case 2, one way -/
theorem jx_l101 (p0 : Int32) (p1 : Int32) (p2 : Int32) (p3 : Int32) (p4 : Int32) (p5 : Int32) (g1 : ¬ p1 = (2 : Int32)) (g2 : ¬ p1 = (0 : Int32)) (g3 : p1 = (1 : Int32)) (g4 : ¬ p2 < (1 : Int32)) (g5 : ¬ (32 : Int32) < p2) (g6 : ¬ p3 < (1 : Int32)) (g7 : (256 : Int32) < p3) (hsw : p0 &&& (31 : Int32) = (2 : Int32)) {p : Program} {l : Launch} {e : Env} {R : Room} {s : State} {m : MethodId} {args : Array Value} {below : List Frame} {meth : Method} {c : Code} {E : jv_Env} {Q : State → Prop} (hTb : jv_TOk jv_Tb) (hT2 : jx_T2Ok) (hl : l.stackTraces = false) (F : jx_F jv_T2 439 E p R s m args meth c) (hZ : jx_Z E s) (hRc : R.cells = 600002) (hRs : R.slots = 7302232) {bb : Nat} {xs : Nat → Int32} (hX : va_X bb 6 xs s E.2.2.2.2) (hbB : bb < E.2.2.2.1) (hE2 : E.1 1000002 = bb) (hQ : ∀ (l0 : jv_L) (G : jv_G) (n sl : Nat), n ≤ 600002 → sl ≤ 7302232 → jw p l e R s m args below meth c E 8 0 0 Q 1532 l0 [.int (1 : Int32)] G n sl) (q0 : xs 0 = p0) (q1 : xs 1 = p1) (q2 : xs 2 = p2) (q3 : xs 3 = p3) (q4 : xs 4 = p4) (q5 : xs 5 = p5) : jw p l e R s m args below meth c E 8 0 0 Q 33 [(0, .ref 1000002), (1, .ref 0), (2, .ref 178), (3, .ref 226), (4, .int (0 : Int32))] [] (jv_H (jx_K 227) jx_If jx_L0 (jx_R 227)) 227 1572950 := by
  refine jw.steps F jx_i439 2 (pc' := 36) (l' := [(0, .ref 1000002), (1, .ref 0), (2, .ref 178), (3, .ref 226), (4, .int (0 : Int32))]) (st' := [.int (0 : Int32), .ref 1000002]) rfl ?_
  refine jw.sld F jx_i439 hX hbB hE2 (pc' := 37) rfl rfl (show vp_in (nI 0) 6 from vp_in_nI (by decide) (by decide)) q0 rfl ?_
  refine jw.steps F jx_i439 2 (pc' := 40) (l' := [(0, .ref 1000002), (1, .ref 0), (2, .ref 178), (3, .ref 226), (4, .int (0 : Int32))]) (st' := [.int (p0 &&& (31 : Int32))]) rfl ?_
  refine jw.br F jx_i439 (pc' := 304) (st' := []) rfl (by rw [hsw]; rfl) ?_
  refine jw.steps F jx_i439 5 (pc' := 310) (l' := [(0, .ref 1000002), (1, .ref 0), (2, .ref 178), (3, .ref 226), (4, .int (0 : Int32))]) (st' := [.int (1 : Int32), .ref 1000002, .ref 0]) rfl ?_
  refine jw.sld F jx_i439 hX hbB hE2 (pc' := 311) rfl rfl (show vp_in (nI 1) 6 from vp_in_nI (by decide) (by decide)) q1 rfl ?_
  refine jw.steps F jx_i439 4 (pc' := 316) (l' := [(0, .ref 1000002), (1, .ref 0), (2, .ref 178), (3, .ref 226), (4, .int (0 : Int32))]) (st' := [.int (2 : Int32), .ref 1000002, .int p1, .ref 0]) rfl ?_
  refine jw.sld F jx_i439 hX hbB hE2 (pc' := 317) rfl rfl (show vp_in (nI 2) 6 from vp_in_nI (by decide) (by decide)) q2 rfl ?_
  refine jw.steps F jx_i439 4 (pc' := 322) (l' := [(0, .ref 1000002), (1, .ref 0), (2, .ref 178), (3, .ref 226), (4, .int (0 : Int32))]) (st' := [.int (3 : Int32), .ref 1000002, .int p2, .int p1, .ref 0]) rfl ?_
  refine jw.sld F jx_i439 hX hbB hE2 (pc' := 323) rfl rfl (show vp_in (nI 3) 6 from vp_in_nI (by decide) (by decide)) q3 rfl ?_
  refine jw.steps F jx_i439 4 (pc' := 328) (l' := [(0, .ref 1000002), (1, .ref 0), (2, .ref 178), (3, .ref 226), (4, .int (0 : Int32))]) (st' := [.int (4 : Int32), .ref 1000002, .int p3, .int p2, .int p1, .ref 0]) rfl ?_
  refine jw.sld F jx_i439 hX hbB hE2 (pc' := 329) rfl rfl (show vp_in (nI 4) 6 from vp_in_nI (by decide) (by decide)) q4 rfl ?_
  refine jw.steps F jx_i439 1 (pc' := 330) (l' := [(0, .ref 1000002), (1, .ref 0), (2, .ref 178), (3, .ref 226), (4, .int (0 : Int32))]) (st' := [.ref 226, .int p4, .int p3, .int p2, .int p1, .ref 0]) rfl ?_
  refine jw.wr F hl hZ rfl jx_i439 jx_i442 [.ref 0, .int p1, .int p2, .int p3, .int p4, .ref 226] (pc' := 333) (S' := [.int (1 : Int32)]) rfl (List.mem_of_getElem? (i := 2) rfl) (List.mem_of_getElem? (i := 2) rfl) rfl rfl rfl (jx_w894 hTb hT2 p0 p1 p2 p3 p4 p5 g1 g2 g3 g4 g5 g6 g7) (by omega) (by omega) (by omega) (by omega) rfl rfl ?_
  refine jw.steps F jx_i439 6 (pc' := 341) (l' := [(5, .int (1 : Int32)), (0, .ref 1000002), (1, .ref 0), (2, .ref 178), (3, .ref 226), (4, .int (0 : Int32))]) (st' := [.int (1 : Int32), .ref 1000002, .ref 178]) rfl ?_
  refine jw.sld F jx_i439 hX hbB hE2 (pc' := 342) rfl rfl (show vp_in (nI 1) 6 from vp_in_nI (by decide) (by decide)) q1 rfl ?_
  refine jw.steps F jx_i439 4 (pc' := 347) (l' := [(5, .int (1 : Int32)), (0, .ref 1000002), (1, .ref 0), (2, .ref 178), (3, .ref 226), (4, .int (0 : Int32))]) (st' := [.int (2 : Int32), .ref 1000002, .int p1, .ref 178]) rfl ?_
  refine jw.sld F jx_i439 hX hbB hE2 (pc' := 348) rfl rfl (show vp_in (nI 2) 6 from vp_in_nI (by decide) (by decide)) q2 rfl ?_
  refine jw.steps F jx_i439 4 (pc' := 353) (l' := [(5, .int (1 : Int32)), (0, .ref 1000002), (1, .ref 0), (2, .ref 178), (3, .ref 226), (4, .int (0 : Int32))]) (st' := [.int (3 : Int32), .ref 1000002, .int p2, .int p1, .ref 178]) rfl ?_
  refine jw.sld F jx_i439 hX hbB hE2 (pc' := 354) rfl rfl (show vp_in (nI 3) 6 from vp_in_nI (by decide) (by decide)) q3 rfl ?_
  refine jw.steps F jx_i439 4 (pc' := 359) (l' := [(5, .int (1 : Int32)), (0, .ref 1000002), (1, .ref 0), (2, .ref 178), (3, .ref 226), (4, .int (0 : Int32))]) (st' := [.int (4 : Int32), .ref 1000002, .int p3, .int p2, .int p1, .ref 178]) rfl ?_
  refine jw.sld F jx_i439 hX hbB hE2 (pc' := 360) rfl rfl (show vp_in (nI 4) 6 from vp_in_nI (by decide) (by decide)) q4 rfl ?_
  refine jw.ca hTb F jx_i439 (pc' := 363) (S' := [.int (0 : Int32)]) rfl jv_i353 [.ref 178, .int p1, .int p2, .int p3, .int p4] rfl rfl rfl rfl (jx_cal2 rfl (jv_H_at rfl) rfl rfl) rfl (jx_e900 p0 p1 p2 p3 p4 p5 g1 g2 g3 g4 g5 g6 g7) (by omega) (by omega) rfl rfl ?_
  refine jw.steps F jx_i439 2 (pc' := 366) (l' := [(6, .int (0 : Int32)), (5, .int (1 : Int32)), (0, .ref 1000002), (1, .ref 0), (2, .ref 178), (3, .ref 226), (4, .int (0 : Int32))]) (st' := [.ref 178]) rfl ?_
  refine jw.ca hTb F jx_i439 (pc' := 369) (S' := [.int (1 : Int32)]) rfl jv_i350 [.ref 178] rfl rfl rfl rfl (jx_cal2 rfl (jv_H_at rfl) rfl rfl) rfl (jx_e901 p0 p1 p2 p3 p4 p5 g1 g2 g3 g4 g5 g6 g7) (by omega) (by omega) rfl rfl ?_
  refine jw.steps F jx_i439 1 (pc' := 371) (l' := [(6, .int (0 : Int32)), (5, .int (1 : Int32)), (0, .ref 1000002), (1, .ref 0), (2, .ref 178), (3, .ref 226), (4, .int (0 : Int32))]) (st' := [.int (1 : Int32), .int (1 : Int32)]) rfl ?_
  refine jw.br F jx_i439 (pc' := 376) (st' := []) rfl (jv_bc_eq.trans (jx_got (by decide))) ?_
  refine jw.steps F jx_i439 1 (pc' := 378) (l' := [(6, .int (0 : Int32)), (5, .int (1 : Int32)), (0, .ref 1000002), (1, .ref 0), (2, .ref 178), (3, .ref 226), (4, .int (0 : Int32))]) (st' := [.int (1 : Int32)]) rfl ?_
  refine jw.br F jx_i439 (pc' := 393) (st' := []) rfl (jv_bi_ne.trans (jx_got (by decide))) ?_
  refine jw.steps F jx_i439 5 (pc' := 26) (l' := [(4, .int (6 : Int32)), (6, .int (0 : Int32)), (5, .int (1 : Int32)), (0, .ref 1000002), (1, .ref 0), (2, .ref 178), (3, .ref 226)]) (st' := [.ref 1000002, .int (6 : Int32)]) rfl ?_
  refine jw.slen F jx_i439 hX hbB hE2 (pc' := 27) rfl rfl rfl ?_
  refine jw.steps F jx_i439 2 (pc' := 30) (l' := [(4, .int (6 : Int32)), (6, .int (0 : Int32)), (5, .int (1 : Int32)), (0, .ref 1000002), (1, .ref 0), (2, .ref 178), (3, .ref 226)]) (st' := [.int (0 : Int32), .int (6 : Int32)]) rfl ?_
  refine jw.br F jx_i439 (pc' := 1531) (st' := []) rfl (jv_bc_gt.trans (jx_got (by decide))) ?_
  refine jw.steps F jx_i439 1 (pc' := 1532) (l' := [(4, .int (6 : Int32)), (6, .int (0 : Int32)), (5, .int (1 : Int32)), (0, .ref 1000002), (1, .ref 0), (2, .ref 178), (3, .ref 226)]) (st' := [.int (1 : Int32)]) rfl ?_
  exact hQ _ _ _ _ (by omega) (by omega)

set_option maxRecDepth 100000 in
/-- ProgramBox$Store.isShape -/
theorem jx_e902 (p0 : Int32) (p1 : Int32) (p2 : Int32) (p3 : Int32) (p4 : Int32) (p5 : Int32) (g1 : ¬ p1 = (2 : Int32)) (g2 : ¬ p1 = (0 : Int32)) (g3 : p1 = (1 : Int32)) (g4 : ¬ p2 < (1 : Int32)) (g5 : ¬ (32 : Int32) < p2) (g6 : ¬ p3 < (1 : Int32)) (g7 : ¬ (256 : Int32) < p3) (g8 : p4 < (1 : Int32)) : jv_Ms 123 [.int p1, .int p2, .int p3, .int p4] (jv_H (jx_K 227) jx_If jx_L0 (jx_R 227)) 227 1572950 (some (.int (0 : Int32)), (jv_H (jx_K 227) jx_If jx_L0 (jx_R 227)), 227, 1572950) := by
  show jv_Ev 123 0 [(0, .int p1), (1, .int p2), (2, .int p3), (3, .int p4)] [] (jv_H (jx_K 227) jx_If jx_L0 (jx_R 227)) 227 1572950 _
  refine jv_Ev.steps jv_i123 2 (pc' := 2) (l' := [(0, .int p1), (1, .int p2), (2, .int p3), (3, .int p4)]) (st' := [.int (2 : Int32), .int p1]) rfl ?_
  refine jv_Ev.br jv_i123 (pc' := 40) (st' := []) rfl (jv_bc_ne.trans (jx_got (by rw [g3] <;> decide))) ?_
  refine jv_Ev.steps jv_i123 1 (pc' := 41) (l' := [(0, .int p1), (1, .int p2), (2, .int p3), (3, .int p4)]) (st' := [.int p1]) rfl ?_
  refine jv_Ev.br jv_i123 (pc' := 57) (st' := []) rfl (jv_bi_ne.trans (jx_got (by rw [g3] <;> decide))) ?_
  refine jv_Ev.steps jv_i123 2 (pc' := 59) (l' := [(0, .int p1), (1, .int p2), (2, .int p3), (3, .int p4)]) (st' := [.int (1 : Int32), .int p1]) rfl ?_
  refine jv_Ev.br jv_i123 (pc' := 62) (st' := []) rfl (jv_bc_ne.trans (jx_gof (by rw [g3] <;> decide))) ?_
  refine jv_Ev.steps jv_i123 2 (pc' := 64) (l' := [(0, .int p1), (1, .int p2), (2, .int p3), (3, .int p4)]) (st' := [.int (1 : Int32), .int p2]) rfl ?_
  refine jv_Ev.br jv_i123 (pc' := 67) (st' := []) rfl (jv_bc_lt.trans (jx_gof g4)) ?_
  refine jv_Ev.steps jv_i123 2 (pc' := 70) (l' := [(0, .int p1), (1, .int p2), (2, .int p3), (3, .int p4)]) (st' := [.int (32 : Int32), .int p2]) rfl ?_
  refine jv_Ev.br jv_i123 (pc' := 73) (st' := []) rfl (jv_bc_gt.trans (jx_gof g5)) ?_
  refine jv_Ev.steps jv_i123 4 (pc' := 82) (l' := [(4, .int (1 : Int32)), (0, .int p1), (1, .int p2), (2, .int p3), (3, .int p4)]) (st' := [.int (1 : Int32)]) rfl ?_
  refine jv_Ev.br jv_i123 (pc' := 85) (st' := []) rfl (jv_bi_eq.trans (jx_gof (by decide))) ?_
  refine jv_Ev.steps jv_i123 2 (pc' := 87) (l' := [(4, .int (1 : Int32)), (0, .int p1), (1, .int p2), (2, .int p3), (3, .int p4)]) (st' := [.int (1 : Int32), .int p3]) rfl ?_
  refine jv_Ev.br jv_i123 (pc' := 90) (st' := []) rfl (jv_bc_lt.trans (jx_gof g6)) ?_
  refine jv_Ev.steps jv_i123 2 (pc' := 94) (l' := [(4, .int (1 : Int32)), (0, .int p1), (1, .int p2), (2, .int p3), (3, .int p4)]) (st' := [.int (256 : Int32), .int p3]) rfl ?_
  refine jv_Ev.br jv_i123 (pc' := 97) (st' := []) rfl (jv_bc_gt.trans (jx_gof g7)) ?_
  refine jv_Ev.steps jv_i123 2 (pc' := 99) (l' := [(4, .int (1 : Int32)), (0, .int p1), (1, .int p2), (2, .int p3), (3, .int p4)]) (st' := [.int (1 : Int32), .int p4]) rfl ?_
  refine jv_Ev.br jv_i123 (pc' := 113) (st' := []) rfl (jv_bc_lt.trans (jx_got g8)) ?_
  refine jv_Ev.steps jv_i123 1 (pc' := 114) (l' := [(4, .int (1 : Int32)), (0, .int p1), (1, .int p2), (2, .int p3), (3, .int p4)]) (st' := [.int (0 : Int32)]) rfl ?_
  exact jv_Ev.ret jv_i123 rfl (jv_ret_b (by decide))

set_option maxRecDepth 100000 in
/-- ProgramBox.make: it throws -/
theorem jx_e903 (hTb : jv_TOk jv_Tb) (p0 : Int32) (p1 : Int32) (p2 : Int32) (p3 : Int32) (p4 : Int32) (p5 : Int32) (g1 : ¬ p1 = (2 : Int32)) (g2 : ¬ p1 = (0 : Int32)) (g3 : p1 = (1 : Int32)) (g4 : ¬ p2 < (1 : Int32)) (g5 : ¬ (32 : Int32) < p2) (g6 : ¬ p3 < (1 : Int32)) (g7 : ¬ (256 : Int32) < p3) (g8 : p4 < (1 : Int32)) : jx_Th 420 [.ref 0, .int p1, .int p2, .int p3, .int p4] (jv_H (jx_K 227) jx_If jx_L0 (jx_R 227)) 227 1572950 1 (jv_H (jx_K 227) jx_If jx_L0 (jx_R 227)) 228 1572956 := by
  refine jx_Th.of hTb (y := 420) rfl (Nat.le_of_ble_eq_true rfl) ?_
  intro p l e R s m args below meth c E hl F hZ h0 ht hRc hRs
  show jw p l e R s m args below meth c E 5 227 1572950 _ 0 [(0, .ref 0), (1, .int p1), (2, .int p2), (3, .int p3), (4, .int p4)] [] (jv_H (jx_K 227) jx_If jx_L0 (jx_R 227)) 227 1572950
  refine jw.steps F jv_i420 4 (pc' := 5) (l' := [(0, .ref 0), (1, .int p1), (2, .int p2), (3, .int p3), (4, .int p4)]) (st' := [.int p4, .int p3, .int p2, .int p1]) rfl ?_
  refine jw.ca hTb F jv_i420 (pc' := 8) (S' := [.int (0 : Int32)]) rfl jv_i123 [.int p1, .int p2, .int p3, .int p4] rfl rfl rfl rfl rfl rfl (jx_e902 p0 p1 p2 p3 p4 p5 g1 g2 g3 g4 g5 g6 g7 g8) (by omega) (by omega) rfl rfl ?_
  refine jw.br F jv_i420 (pc' := 11) (st' := []) rfl (jv_bi_ne.trans (jx_gof (by decide))) ?_
  exact jw.throw hl F hZ h0 rfl jv_i420 ht 1 69 "no map is like this" (List.mem_of_getElem? (i := 2) rfl) (by decide +kernel) (by decide +kernel) (by decide +kernel) (by decide +kernel) (by decide +kernel) rfl (by decide) (by decide) (by decide) (by omega) (by omega)

set_option maxRecDepth 100000 in
/-- the law's make -/
theorem jx_w904 (hTb : jv_TOk jv_Tb) (hT2 : jx_T2Ok) (p0 : Int32) (p1 : Int32) (p2 : Int32) (p3 : Int32) (p4 : Int32) (p5 : Int32) (g1 : ¬ p1 = (2 : Int32)) (g2 : ¬ p1 = (0 : Int32)) (g3 : p1 = (1 : Int32)) (g4 : ¬ p2 < (1 : Int32)) (g5 : ¬ (32 : Int32) < p2) (g6 : ¬ p3 < (1 : Int32)) (g7 : ¬ (256 : Int32) < p3) (g8 : p4 < (1 : Int32)) : jx_Wr 442 [(0, 14, 17, 19), (0, 14, 21, 13)] [.ref 0, .int p1, .int p2, .int p3, .int p4, .ref 226] (jv_H (jx_K 227) jx_If jx_L0 (jx_R 227)) 227 1572950 (some (.int (1 : Int32)), (jv_H (jx_K 227) jx_If jx_L0 (jx_R 227)), 228, 1572956) := by
  refine jx_Wr.of hT2 (by decide) rfl (Nat.le_of_ble_eq_true rfl) ?_
  intro p l e R s m args below meth c E hl F hZ htb hRc hRs
  show jw p l e R s m args below meth c E 7 227 1572950 _ 0 [(0, .ref 0), (1, .int p1), (2, .int p2), (3, .int p3), (4, .int p4), (5, .ref 226)] [] (jv_H (jx_K 227) jx_If jx_L0 (jx_R 227)) 227 1572950
  have hRc : R.cells = 228 - 227 := hRc
  have hRs : R.slots = 1572956 - 1572950 := hRs
  refine jw.steps F jx_i442 7 (pc' := 9) (l' := [(0, .ref 0), (1, .int p1), (2, .int p2), (3, .int p3), (4, .int p4), (5, .ref 226)]) (st' := [.int p4, .int p3, .int p2, .int p1, .ref 0, .int (0 : Int32), .ref 226]) rfl ?_
  refine jw.cat hTb hl F hZ rfl jx_i442 htb rfl jv_i420 [.ref 0, .int p1, .int p2, .int p3, .int p4] rfl rfl rfl rfl rfl (jx_cal2 rfl (jv_H_at rfl) rfl rfl) rfl (jx_e903 hTb p0 p1 p2 p3 p4 p5 g1 g2 g3 g4 g5 g6 g7 g8) (by omega) (by omega) (by omega) (by omega) [] (0, 14, 17, 19) [(0, 14, 21, 13)] rfl (fun z h => absurd h List.not_mem_nil) (by decide) rfl rfl (Or.inl ⟨rfl, rfl⟩) (by decide) ?_
  refine jw.steps F jx_i442 1 (pc' := 20) (l' := []) (st' := [.int (1 : Int32)]) rfl ?_
  exact jw.ret F jx_i442 rfl rfl

set_option maxRecDepth 100000 in
/-- ProgramBoxModel$Store.isIn -/
theorem jx_e905 (p0 : Int32) (p1 : Int32) (p2 : Int32) (p3 : Int32) (p4 : Int32) (p5 : Int32) (g1 : ¬ p1 = (2 : Int32)) (g2 : ¬ p1 = (0 : Int32)) (g3 : p1 = (1 : Int32)) (g4 : ¬ p2 < (1 : Int32)) (g5 : ¬ (32 : Int32) < p2) (g6 : ¬ p3 < (1 : Int32)) (g7 : ¬ (256 : Int32) < p3) (g8 : p4 < (1 : Int32)) : jv_Ms 320 [.int p2, .int (1 : Int32), .int (32 : Int32)] (jv_H (jx_K 227) jx_If jx_L0 (jx_R 227)) 228 1572956 (some (.int (1 : Int32)), (jv_H (jx_K 227) jx_If jx_L0 (jx_R 227)), 228, 1572956) := by
  show jv_Ev 320 0 [(0, .int p2), (1, .int (1 : Int32)), (2, .int (32 : Int32))] [] (jv_H (jx_K 227) jx_If jx_L0 (jx_R 227)) 228 1572956 _
  refine jv_Ev.steps jv_i320 2 (pc' := 2) (l' := [(0, .int p2), (1, .int (1 : Int32)), (2, .int (32 : Int32))]) (st' := [.int (1 : Int32), .int p2]) rfl ?_
  refine jv_Ev.br jv_i320 (pc' := 5) (st' := []) rfl (jv_bc_lt.trans (jx_gof g4)) ?_
  refine jv_Ev.steps jv_i320 2 (pc' := 7) (l' := [(0, .int p2), (1, .int (1 : Int32)), (2, .int (32 : Int32))]) (st' := [.int (32 : Int32), .int p2]) rfl ?_
  refine jv_Ev.br jv_i320 (pc' := 10) (st' := []) rfl (jv_bc_gt.trans (jx_gof g5)) ?_
  refine jv_Ev.steps jv_i320 2 (pc' := 15) (l' := [(0, .int p2), (1, .int (1 : Int32)), (2, .int (32 : Int32))]) (st' := [.int (1 : Int32)]) rfl ?_
  exact jv_Ev.ret jv_i320 rfl (jv_ret_b (by decide))

set_option maxRecDepth 100000 in
/-- ProgramBoxModel$Store.isIn -/
theorem jx_e906 (p0 : Int32) (p1 : Int32) (p2 : Int32) (p3 : Int32) (p4 : Int32) (p5 : Int32) (g1 : ¬ p1 = (2 : Int32)) (g2 : ¬ p1 = (0 : Int32)) (g3 : p1 = (1 : Int32)) (g4 : ¬ p2 < (1 : Int32)) (g5 : ¬ (32 : Int32) < p2) (g6 : ¬ p3 < (1 : Int32)) (g7 : ¬ (256 : Int32) < p3) (g8 : p4 < (1 : Int32)) : jv_Ms 320 [.int p3, .int (1 : Int32), .int (256 : Int32)] (jv_H (jx_K 227) jx_If jx_L0 (jx_R 227)) 228 1572956 (some (.int (1 : Int32)), (jv_H (jx_K 227) jx_If jx_L0 (jx_R 227)), 228, 1572956) := by
  show jv_Ev 320 0 [(0, .int p3), (1, .int (1 : Int32)), (2, .int (256 : Int32))] [] (jv_H (jx_K 227) jx_If jx_L0 (jx_R 227)) 228 1572956 _
  refine jv_Ev.steps jv_i320 2 (pc' := 2) (l' := [(0, .int p3), (1, .int (1 : Int32)), (2, .int (256 : Int32))]) (st' := [.int (1 : Int32), .int p3]) rfl ?_
  refine jv_Ev.br jv_i320 (pc' := 5) (st' := []) rfl (jv_bc_lt.trans (jx_gof g6)) ?_
  refine jv_Ev.steps jv_i320 2 (pc' := 7) (l' := [(0, .int p3), (1, .int (1 : Int32)), (2, .int (256 : Int32))]) (st' := [.int (256 : Int32), .int p3]) rfl ?_
  refine jv_Ev.br jv_i320 (pc' := 10) (st' := []) rfl (jv_bc_gt.trans (jx_gof g7)) ?_
  refine jv_Ev.steps jv_i320 2 (pc' := 15) (l' := [(0, .int p3), (1, .int (1 : Int32)), (2, .int (256 : Int32))]) (st' := [.int (1 : Int32)]) rfl ?_
  exact jv_Ev.ret jv_i320 rfl (jv_ret_b (by decide))

set_option maxRecDepth 100000 in
/-- ProgramBoxModel$Store.isIn -/
theorem jx_e907 (p0 : Int32) (p1 : Int32) (p2 : Int32) (p3 : Int32) (p4 : Int32) (p5 : Int32) (g1 : ¬ p1 = (2 : Int32)) (g2 : ¬ p1 = (0 : Int32)) (g3 : p1 = (1 : Int32)) (g4 : ¬ p2 < (1 : Int32)) (g5 : ¬ (32 : Int32) < p2) (g6 : ¬ p3 < (1 : Int32)) (g7 : ¬ (256 : Int32) < p3) (g8 : p4 < (1 : Int32)) : jv_Ms 320 [.int p4, .int (1 : Int32), .int (4096 : Int32)] (jv_H (jx_K 227) jx_If jx_L0 (jx_R 227)) 228 1572956 (some (.int (0 : Int32)), (jv_H (jx_K 227) jx_If jx_L0 (jx_R 227)), 228, 1572956) := by
  show jv_Ev 320 0 [(0, .int p4), (1, .int (1 : Int32)), (2, .int (4096 : Int32))] [] (jv_H (jx_K 227) jx_If jx_L0 (jx_R 227)) 228 1572956 _
  refine jv_Ev.steps jv_i320 2 (pc' := 2) (l' := [(0, .int p4), (1, .int (1 : Int32)), (2, .int (4096 : Int32))]) (st' := [.int (1 : Int32), .int p4]) rfl ?_
  refine jv_Ev.br jv_i320 (pc' := 14) (st' := []) rfl (jv_bc_lt.trans (jx_got g8)) ?_
  refine jv_Ev.steps jv_i320 1 (pc' := 15) (l' := [(0, .int p4), (1, .int (1 : Int32)), (2, .int (4096 : Int32))]) (st' := [.int (0 : Int32)]) rfl ?_
  exact jv_Ev.ret jv_i320 rfl (jv_ret_b (by decide))

set_option maxRecDepth 100000 in
/-- ProgramBoxModel$Store.isProper -/
theorem jx_e908 (p0 : Int32) (p1 : Int32) (p2 : Int32) (p3 : Int32) (p4 : Int32) (p5 : Int32) (g1 : ¬ p1 = (2 : Int32)) (g2 : ¬ p1 = (0 : Int32)) (g3 : p1 = (1 : Int32)) (g4 : ¬ p2 < (1 : Int32)) (g5 : ¬ (32 : Int32) < p2) (g6 : ¬ p3 < (1 : Int32)) (g7 : ¬ (256 : Int32) < p3) (g8 : p4 < (1 : Int32)) : jv_Ms 322 [.int p1, .int p2, .int p3, .int p4] (jv_H (jx_K 227) jx_If jx_L0 (jx_R 227)) 228 1572956 (some (.int (0 : Int32)), (jv_H (jx_K 227) jx_If jx_L0 (jx_R 227)), 228, 1572956) := by
  show jv_Ev 322 0 [(0, .int p1), (1, .int p2), (2, .int p3), (3, .int p4)] [] (jv_H (jx_K 227) jx_If jx_L0 (jx_R 227)) 228 1572956 _
  refine jv_Ev.steps jv_i322 2 (pc' := 2) (l' := [(0, .int p1), (1, .int p2), (2, .int p3), (3, .int p4)]) (st' := [.int (2 : Int32), .int p1]) rfl ?_
  refine jv_Ev.br jv_i322 (pc' := 38) (st' := []) rfl (jv_bc_ne.trans (jx_got (by rw [g3] <;> decide))) ?_
  refine jv_Ev.steps jv_i322 1 (pc' := 39) (l' := [(0, .int p1), (1, .int p2), (2, .int p3), (3, .int p4)]) (st' := [.int p1]) rfl ?_
  refine jv_Ev.br jv_i322 (pc' := 55) (st' := []) rfl (jv_bi_ne.trans (jx_got (by rw [g3] <;> decide))) ?_
  refine jv_Ev.steps jv_i322 2 (pc' := 57) (l' := [(0, .int p1), (1, .int p2), (2, .int p3), (3, .int p4)]) (st' := [.int (1 : Int32), .int p1]) rfl ?_
  refine jv_Ev.br jv_i322 (pc' := 60) (st' := []) rfl (jv_bc_ne.trans (jx_gof (by rw [g3] <;> decide))) ?_
  refine jv_Ev.steps jv_i322 3 (pc' := 64) (l' := [(0, .int p1), (1, .int p2), (2, .int p3), (3, .int p4)]) (st' := [.int (32 : Int32), .int (1 : Int32), .int p2]) rfl ?_
  refine jv_Ev.c jv_i322 (pc' := 67) (S' := [.int (1 : Int32)]) jv_i320 [.int p2, .int (1 : Int32), .int (32 : Int32)] rfl rfl rfl rfl rfl rfl (jx_e905 p0 p1 p2 p3 p4 p5 g1 g2 g3 g4 g5 g6 g7 g8) rfl rfl ?_
  refine jv_Ev.br jv_i322 (pc' := 70) (st' := []) rfl (jv_bi_eq.trans (jx_gof (by decide))) ?_
  refine jv_Ev.steps jv_i322 4 (pc' := 79) (l' := [(4, .int (1 : Int32)), (0, .int p1), (1, .int p2), (2, .int p3), (3, .int p4)]) (st' := [.int (1 : Int32)]) rfl ?_
  refine jv_Ev.br jv_i322 (pc' := 82) (st' := []) rfl (jv_bi_eq.trans (jx_gof (by decide))) ?_
  refine jv_Ev.steps jv_i322 3 (pc' := 87) (l' := [(4, .int (1 : Int32)), (0, .int p1), (1, .int p2), (2, .int p3), (3, .int p4)]) (st' := [.int (256 : Int32), .int (1 : Int32), .int p3]) rfl ?_
  refine jv_Ev.c jv_i322 (pc' := 90) (S' := [.int (1 : Int32)]) jv_i320 [.int p3, .int (1 : Int32), .int (256 : Int32)] rfl rfl rfl rfl rfl rfl (jx_e906 p0 p1 p2 p3 p4 p5 g1 g2 g3 g4 g5 g6 g7 g8) rfl rfl ?_
  refine jv_Ev.br jv_i322 (pc' := 93) (st' := []) rfl (jv_bi_eq.trans (jx_gof (by decide))) ?_
  refine jv_Ev.steps jv_i322 3 (pc' := 98) (l' := [(4, .int (1 : Int32)), (0, .int p1), (1, .int p2), (2, .int p3), (3, .int p4)]) (st' := [.int (4096 : Int32), .int (1 : Int32), .int p4]) rfl ?_
  refine jv_Ev.c jv_i322 (pc' := 101) (S' := [.int (0 : Int32)]) jv_i320 [.int p4, .int (1 : Int32), .int (4096 : Int32)] rfl rfl rfl rfl rfl rfl (jx_e907 p0 p1 p2 p3 p4 p5 g1 g2 g3 g4 g5 g6 g7 g8) rfl rfl ?_
  refine jv_Ev.br jv_i322 (pc' := 108) (st' := []) rfl (jv_bi_eq.trans (jx_got (by decide))) ?_
  refine jv_Ev.steps jv_i322 1 (pc' := 109) (l' := [(4, .int (1 : Int32)), (0, .int p1), (1, .int p2), (2, .int p3), (3, .int p4)]) (st' := [.int (0 : Int32)]) rfl ?_
  exact jv_Ev.ret jv_i322 rfl (jv_ret_b (by decide))

set_option maxRecDepth 100000 in
/-- ProgramBoxModel$Store.make -/
theorem jx_e909 (p0 : Int32) (p1 : Int32) (p2 : Int32) (p3 : Int32) (p4 : Int32) (p5 : Int32) (g1 : ¬ p1 = (2 : Int32)) (g2 : ¬ p1 = (0 : Int32)) (g3 : p1 = (1 : Int32)) (g4 : ¬ p2 < (1 : Int32)) (g5 : ¬ (32 : Int32) < p2) (g6 : ¬ p3 < (1 : Int32)) (g7 : ¬ (256 : Int32) < p3) (g8 : p4 < (1 : Int32)) : jv_Ms 323 [.ref 180, .int p1, .int p2, .int p3, .int p4] (jv_H (jx_K 227) jx_If jx_L0 (jx_R 227)) 228 1572956 (some (.int (0 : Int32)), (jv_H (jx_K 227) (jv_u jx_If 180 0 (1 : Int32)) jx_L0 (jx_R 227)), 228, 1572956) := by
  show jv_Ev 323 0 [(0, .ref 180), (1, .int p1), (2, .int p2), (3, .int p3), (4, .int p4)] [] (jv_H (jx_K 227) jx_If jx_L0 (jx_R 227)) 228 1572956 _
  refine jv_Ev.steps jv_i323 5 (pc' := 6) (l' := [(0, .ref 180), (1, .int p1), (2, .int p2), (3, .int p3), (4, .int p4)]) (st' := [.int p4, .int p3, .int p2, .int p1, .ref 180]) rfl ?_
  refine jv_Ev.c jv_i323 (pc' := 9) (S' := [.int (0 : Int32), .ref 180]) jv_i322 [.int p1, .int p2, .int p3, .int p4] rfl rfl rfl rfl rfl rfl (jx_e908 p0 p1 p2 p3 p4 p5 g1 g2 g3 g4 g5 g6 g7 g8) rfl rfl ?_
  refine jv_Ev.br jv_i323 (pc' := 16) (st' := [.ref 180]) rfl (jv_bi_eq.trans (jx_got (by decide))) ?_
  refine jv_Ev.steps jv_i323 1 (pc' := 17) (l' := [(0, .ref 180), (1, .int p1), (2, .int p2), (3, .int p3), (4, .int p4)]) (st' := [.int (1 : Int32), .ref 180]) rfl ?_
  refine jv_Ev.m jv_i323 (pc' := 20) (st' := []) rfl rfl (jv_m_putI rfl rfl rfl rfl rfl) ?_
  refine jv_Ev.steps jv_i323 1 (pc' := 21) (l' := [(0, .ref 180), (1, .int p1), (2, .int p2), (3, .int p3), (4, .int p4)]) (st' := [.ref 180]) rfl ?_
  refine jv_Ev.m jv_i323 (pc' := 24) (st' := [.int (1 : Int32)]) rfl rfl (jv_m_getI rfl rfl rfl rfl) ?_
  refine jv_Ev.br jv_i323 (pc' := 27) (st' := []) rfl (jv_bi_le.trans (jx_gof (by decide))) ?_
  refine jv_Ev.steps jv_i323 1 (pc' := 28) (l' := [(0, .ref 180), (1, .int p1), (2, .int p2), (3, .int p3), (4, .int p4)]) (st' := [.int (0 : Int32)]) rfl ?_
  exact jv_Ev.ret jv_i323 rfl rfl

set_option maxRecDepth 100000 in
/-- ProgramBoxModel$Store.thrown -/
theorem jx_e910 (p0 : Int32) (p1 : Int32) (p2 : Int32) (p3 : Int32) (p4 : Int32) (p5 : Int32) (g1 : ¬ p1 = (2 : Int32)) (g2 : ¬ p1 = (0 : Int32)) (g3 : p1 = (1 : Int32)) (g4 : ¬ p2 < (1 : Int32)) (g5 : ¬ (32 : Int32) < p2) (g6 : ¬ p3 < (1 : Int32)) (g7 : ¬ (256 : Int32) < p3) (g8 : p4 < (1 : Int32)) : jv_Ms 318 [.ref 180] (jv_H (jx_K 227) (jv_u jx_If 180 0 (1 : Int32)) jx_L0 (jx_R 227)) 228 1572956 (some (.int (1 : Int32)), (jv_H (jx_K 227) (jv_u jx_If 180 0 (1 : Int32)) jx_L0 (jx_R 227)), 228, 1572956) := by
  show jv_Ev 318 0 [(0, .ref 180)] [] (jv_H (jx_K 227) (jv_u jx_If 180 0 (1 : Int32)) jx_L0 (jx_R 227)) 228 1572956 _
  refine jv_Ev.steps jv_i318 1 (pc' := 1) (l' := [(0, .ref 180)]) (st' := [.ref 180]) rfl ?_
  refine jv_Ev.m jv_i318 (pc' := 4) (st' := [.int (1 : Int32)]) rfl rfl (jv_m_getI rfl rfl rfl rfl) ?_
  exact jv_Ev.ret jv_i318 rfl rfl

set_option maxRecDepth 100000 in
/-- ProgramBoxModel.make -/
theorem jx_e911 (p0 : Int32) (p1 : Int32) (p2 : Int32) (p3 : Int32) (p4 : Int32) (p5 : Int32) (g1 : ¬ p1 = (2 : Int32)) (g2 : ¬ p1 = (0 : Int32)) (g3 : p1 = (1 : Int32)) (g4 : ¬ p2 < (1 : Int32)) (g5 : ¬ (32 : Int32) < p2) (g6 : ¬ p3 < (1 : Int32)) (g7 : ¬ (256 : Int32) < p3) (g8 : p4 < (1 : Int32)) : jv_Ms 353 [.ref 178, .int p1, .int p2, .int p3, .int p4] (jv_H (jx_K 227) jx_If jx_L0 (jx_R 227)) 228 1572956 (some (.int (0 : Int32)), (jv_H (jx_K 227) (jv_u (jv_u jx_If 180 0 (1 : Int32)) 178 0 (1 : Int32)) jx_L0 (jx_R 227)), 228, 1572956) := by
  show jv_Ev 353 0 [(0, .ref 178), (1, .int p1), (2, .int p2), (3, .int p3), (4, .int p4)] [] (jv_H (jx_K 227) jx_If jx_L0 (jx_R 227)) 228 1572956 _
  refine jv_Ev.steps jv_i353 1 (pc' := 1) (l' := [(0, .ref 178), (1, .int p1), (2, .int p2), (3, .int p3), (4, .int p4)]) (st' := [.ref 178]) rfl ?_
  refine jv_Ev.m jv_i353 (pc' := 4) (st' := [.ref 180]) rfl rfl (jv_m_getR rfl rfl rfl rfl) ?_
  refine jv_Ev.steps jv_i353 4 (pc' := 9) (l' := [(0, .ref 178), (1, .int p1), (2, .int p2), (3, .int p3), (4, .int p4)]) (st' := [.int p4, .int p3, .int p2, .int p1, .ref 180]) rfl ?_
  refine jv_Ev.c jv_i353 (pc' := 12) (S' := [.int (0 : Int32)]) jv_i323 [.ref 180, .int p1, .int p2, .int p3, .int p4] rfl rfl rfl rfl (jv_cal rfl (jv_H_at rfl) rfl rfl) rfl (jx_e909 p0 p1 p2 p3 p4 p5 g1 g2 g3 g4 g5 g6 g7 g8) rfl rfl ?_
  refine jv_Ev.steps jv_i353 3 (pc' := 16) (l' := [(5, .int (0 : Int32)), (0, .ref 178), (1, .int p1), (2, .int p2), (3, .int p3), (4, .int p4)]) (st' := [.ref 178, .ref 178]) rfl ?_
  refine jv_Ev.m jv_i353 (pc' := 19) (st' := [.ref 180, .ref 178]) rfl rfl (jv_m_getR rfl rfl rfl rfl) ?_
  refine jv_Ev.c jv_i353 (pc' := 22) (S' := [.int (1 : Int32), .ref 178]) jv_i318 [.ref 180] rfl rfl rfl rfl (jv_cal rfl (jv_H_at rfl) rfl rfl) rfl (jx_e910 p0 p1 p2 p3 p4 p5 g1 g2 g3 g4 g5 g6 g7 g8) rfl rfl ?_
  refine jv_Ev.m jv_i353 (pc' := 25) (st' := []) rfl rfl (jv_m_putI rfl rfl rfl rfl rfl) ?_
  refine jv_Ev.steps jv_i353 1 (pc' := 26) (l' := [(5, .int (0 : Int32)), (0, .ref 178), (1, .int p1), (2, .int p2), (3, .int p3), (4, .int p4)]) (st' := [.ref 178]) rfl ?_
  refine jv_Ev.m jv_i353 (pc' := 29) (st' := [.int (1 : Int32)]) rfl rfl (jv_m_getI rfl rfl rfl rfl) ?_
  refine jv_Ev.br jv_i353 (pc' := 67) (st' := []) rfl (jv_bi_ne.trans (jx_got (by decide))) ?_
  refine jv_Ev.steps jv_i353 1 (pc' := 69) (l' := [(5, .int (0 : Int32)), (0, .ref 178), (1, .int p1), (2, .int p2), (3, .int p3), (4, .int p4)]) (st' := [.int (0 : Int32)]) rfl ?_
  exact jv_Ev.ret jv_i353 rfl rfl

set_option maxRecDepth 100000 in
/-- ProgramBoxModel.thrown -/
theorem jx_e912 (p0 : Int32) (p1 : Int32) (p2 : Int32) (p3 : Int32) (p4 : Int32) (p5 : Int32) (g1 : ¬ p1 = (2 : Int32)) (g2 : ¬ p1 = (0 : Int32)) (g3 : p1 = (1 : Int32)) (g4 : ¬ p2 < (1 : Int32)) (g5 : ¬ (32 : Int32) < p2) (g6 : ¬ p3 < (1 : Int32)) (g7 : ¬ (256 : Int32) < p3) (g8 : p4 < (1 : Int32)) : jv_Ms 350 [.ref 178] (jv_H (jx_K 227) (jv_u (jv_u jx_If 180 0 (1 : Int32)) 178 0 (1 : Int32)) jx_L0 (jx_R 227)) 228 1572956 (some (.int (1 : Int32)), (jv_H (jx_K 227) (jv_u (jv_u jx_If 180 0 (1 : Int32)) 178 0 (1 : Int32)) jx_L0 (jx_R 227)), 228, 1572956) := by
  show jv_Ev 350 0 [(0, .ref 178)] [] (jv_H (jx_K 227) (jv_u (jv_u jx_If 180 0 (1 : Int32)) 178 0 (1 : Int32)) jx_L0 (jx_R 227)) 228 1572956 _
  refine jv_Ev.steps jv_i350 1 (pc' := 1) (l' := [(0, .ref 178)]) (st' := [.ref 178]) rfl ?_
  refine jv_Ev.m jv_i350 (pc' := 4) (st' := [.int (1 : Int32)]) rfl rfl (jv_m_getI rfl rfl rfl rfl) ?_
  exact jv_Ev.ret jv_i350 rfl rfl
