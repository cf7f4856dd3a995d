/-! part 83.3: the law: make (gen/gen80.py) -/
set_option maxRecDepth 100000 in
/-- ProgramBoxModel.thrown -/
theorem jx_e719 (p0 : Int32) (p1 : Int32) (p2 : Int32) (p3 : Int32) (p4 : Int32) (p5 : Int32) (g1 : p1 = (2 : Int32)) (g2 : p2 = (0 : Int32)) (g3 : p3 = (0 : Int32)) (g4 : ¬ p4 < (64 : Int32)) (g5 : ¬ (16384 : Int32) < p4) (g6 : ¬ p4 = (64 : Int32)) (g7 : ¬ p4 = (128 : Int32)) (g8 : ¬ p4 = (256 : Int32)) (g9 : ¬ p4 = (512 : Int32)) (g10 : ¬ p4 = (1024 : Int32)) (g11 : ¬ p4 = (2048 : Int32)) (g12 : ¬ p4 = (4096 : Int32)) (g13 : ¬ p4 = (8192 : Int32)) (g14 : ¬ p4 = (16384 : Int32)) (g15 : (64 : Int32) < p4) (g16 : (128 : Int32) < p4) (g17 : (256 : Int32) < p4) (g18 : (512 : Int32) < p4) (g19 : ¬ (1024 : Int32) < p4) : jv_Ms 350 [.ref 178] (jv_H (jx_K 227) (jv_u (jv_u jx_If 180 0 (1 : Int32)) 178 0 (1 : Int32)) jx_L0 (jx_R 227)) 228 1572956 (some (.int (1 : Int32)), (jv_H (jx_K 227) (jv_u (jv_u jx_If 180 0 (1 : Int32)) 178 0 (1 : Int32)) jx_L0 (jx_R 227)), 228, 1572956) := by
  show jv_Ev 350 0 [(0, .ref 178)] [] (jv_H (jx_K 227) (jv_u (jv_u jx_If 180 0 (1 : Int32)) 178 0 (1 : Int32)) jx_L0 (jx_R 227)) 228 1572956 _
  refine jv_Ev.steps jv_i350 1 (pc' := 1) (l' := [(0, .ref 178)]) (st' := [.ref 178]) rfl ?_
  refine jv_Ev.m jv_i350 (pc' := 4) (st' := [.int (1 : Int32)]) rfl rfl (jv_m_getI rfl rfl rfl rfl) ?_
  exact jv_Ev.ret jv_i350 rfl rfl

set_option maxRecDepth 100000 in
/-- the law: case 2, one way -/
theorem jx_l83 (p0 : Int32) (p1 : Int32) (p2 : Int32) (p3 : Int32) (p4 : Int32) (p5 : Int32) (g1 : p1 = (2 : Int32)) (g2 : p2 = (0 : Int32)) (g3 : p3 = (0 : Int32)) (g4 : ¬ p4 < (64 : Int32)) (g5 : ¬ (16384 : Int32) < p4) (g6 : ¬ p4 = (64 : Int32)) (g7 : ¬ p4 = (128 : Int32)) (g8 : ¬ p4 = (256 : Int32)) (g9 : ¬ p4 = (512 : Int32)) (g10 : ¬ p4 = (1024 : Int32)) (g11 : ¬ p4 = (2048 : Int32)) (g12 : ¬ p4 = (4096 : Int32)) (g13 : ¬ p4 = (8192 : Int32)) (g14 : ¬ p4 = (16384 : Int32)) (g15 : (64 : Int32) < p4) (g16 : (128 : Int32) < p4) (g17 : (256 : Int32) < p4) (g18 : (512 : Int32) < p4) (g19 : ¬ (1024 : Int32) < p4) (hsw : p0 &&& (31 : Int32) = (2 : Int32)) {p : Program} {l : Launch} {e : Env} {R : Room} {s : State} {m : MethodId} {args : Array Value} {below : List Frame} {meth : Method} {c : Code} {E : jv_Env} {Q : State → Prop} (hTb : jv_TOk jv_Tb) (hT2 : jx_T2Ok) (hl : l.stackTraces = false) (F : jx_F jv_T2 439 E p R s m args meth c) (hZ : jx_Z E s) (hRc : R.cells = 600002) (hRs : R.slots = 7302232) {bb : Nat} {xs : Nat → Int32} (hX : va_X bb 6 xs s E.2.2.2.2) (hbB : bb < E.2.2.2.1) (hE2 : E.1 1000002 = bb) (hQ : ∀ (l0 : jv_L) (G : jv_G) (n sl : Nat), n ≤ 600002 → sl ≤ 7302232 → jw p l e R s m args below meth c E 8 0 0 Q 1532 l0 [.int (1 : Int32)] G n sl) (q0 : xs 0 = p0) (q1 : xs 1 = p1) (q2 : xs 2 = p2) (q3 : xs 3 = p3) (q4 : xs 4 = p4) (q5 : xs 5 = p5) : jw p l e R s m args below meth c E 8 0 0 Q 33 [(0, .ref 1000002), (1, .ref 0), (2, .ref 178), (3, .ref 226), (4, .int (0 : Int32))] [] (jv_H (jx_K 227) jx_If jx_L0 (jx_R 227)) 227 1572950 := by
  refine jw.steps F jx_i439 2 (pc' := 36) (l' := [(0, .ref 1000002), (1, .ref 0), (2, .ref 178), (3, .ref 226), (4, .int (0 : Int32))]) (st' := [.int (0 : Int32), .ref 1000002]) rfl ?_
  refine jw.sld F jx_i439 hX hbB hE2 (pc' := 37) rfl rfl (show vp_in (nI 0) 6 from vp_in_nI (by decide) (by decide)) q0 rfl ?_
  refine jw.steps F jx_i439 2 (pc' := 40) (l' := [(0, .ref 1000002), (1, .ref 0), (2, .ref 178), (3, .ref 226), (4, .int (0 : Int32))]) (st' := [.int (p0 &&& (31 : Int32))]) rfl ?_
  refine jw.br F jx_i439 (pc' := 304) (st' := []) rfl (by rw [hsw]; rfl) ?_
  refine jw.steps F jx_i439 5 (pc' := 310) (l' := [(0, .ref 1000002), (1, .ref 0), (2, .ref 178), (3, .ref 226), (4, .int (0 : Int32))]) (st' := [.int (1 : Int32), .ref 1000002, .ref 0]) rfl ?_
  refine jw.sld F jx_i439 hX hbB hE2 (pc' := 311) rfl rfl (show vp_in (nI 1) 6 from vp_in_nI (by decide) (by decide)) q1 rfl ?_
  refine jw.steps F jx_i439 4 (pc' := 316) (l' := [(0, .ref 1000002), (1, .ref 0), (2, .ref 178), (3, .ref 226), (4, .int (0 : Int32))]) (st' := [.int (2 : Int32), .ref 1000002, .int p1, .ref 0]) rfl ?_
  refine jw.sld F jx_i439 hX hbB hE2 (pc' := 317) rfl rfl (show vp_in (nI 2) 6 from vp_in_nI (by decide) (by decide)) q2 rfl ?_
  refine jw.steps F jx_i439 4 (pc' := 322) (l' := [(0, .ref 1000002), (1, .ref 0), (2, .ref 178), (3, .ref 226), (4, .int (0 : Int32))]) (st' := [.int (3 : Int32), .ref 1000002, .int p2, .int p1, .ref 0]) rfl ?_
  refine jw.sld F jx_i439 hX hbB hE2 (pc' := 323) rfl rfl (show vp_in (nI 3) 6 from vp_in_nI (by decide) (by decide)) q3 rfl ?_
  refine jw.steps F jx_i439 4 (pc' := 328) (l' := [(0, .ref 1000002), (1, .ref 0), (2, .ref 178), (3, .ref 226), (4, .int (0 : Int32))]) (st' := [.int (4 : Int32), .ref 1000002, .int p3, .int p2, .int p1, .ref 0]) rfl ?_
  refine jw.sld F jx_i439 hX hbB hE2 (pc' := 329) rfl rfl (show vp_in (nI 4) 6 from vp_in_nI (by decide) (by decide)) q4 rfl ?_
  refine jw.steps F jx_i439 1 (pc' := 330) (l' := [(0, .ref 1000002), (1, .ref 0), (2, .ref 178), (3, .ref 226), (4, .int (0 : Int32))]) (st' := [.ref 226, .int p4, .int p3, .int p2, .int p1, .ref 0]) rfl ?_
  refine jw.wr F hl hZ rfl jx_i439 jx_i442 [.ref 0, .int p1, .int p2, .int p3, .int p4, .ref 226] (pc' := 333) (S' := [.int (1 : Int32)]) rfl (List.mem_of_getElem? (i := 2) rfl) (List.mem_of_getElem? (i := 2) rfl) rfl rfl rfl (jx_w712 hTb hT2 p0 p1 p2 p3 p4 p5 g1 g2 g3 g4 g5 g6 g7 g8 g9 g10 g11 g12 g13 g14 g15 g16 g17 g18 g19) (by omega) (by omega) (by omega) (by omega) rfl rfl ?_
  refine jw.steps F jx_i439 6 (pc' := 341) (l' := [(5, .int (1 : Int32)), (0, .ref 1000002), (1, .ref 0), (2, .ref 178), (3, .ref 226), (4, .int (0 : Int32))]) (st' := [.int (1 : Int32), .ref 1000002, .ref 178]) rfl ?_
  refine jw.sld F jx_i439 hX hbB hE2 (pc' := 342) rfl rfl (show vp_in (nI 1) 6 from vp_in_nI (by decide) (by decide)) q1 rfl ?_
  refine jw.steps F jx_i439 4 (pc' := 347) (l' := [(5, .int (1 : Int32)), (0, .ref 1000002), (1, .ref 0), (2, .ref 178), (3, .ref 226), (4, .int (0 : Int32))]) (st' := [.int (2 : Int32), .ref 1000002, .int p1, .ref 178]) rfl ?_
  refine jw.sld F jx_i439 hX hbB hE2 (pc' := 348) rfl rfl (show vp_in (nI 2) 6 from vp_in_nI (by decide) (by decide)) q2 rfl ?_
  refine jw.steps F jx_i439 4 (pc' := 353) (l' := [(5, .int (1 : Int32)), (0, .ref 1000002), (1, .ref 0), (2, .ref 178), (3, .ref 226), (4, .int (0 : Int32))]) (st' := [.int (3 : Int32), .ref 1000002, .int p2, .int p1, .ref 178]) rfl ?_
  refine jw.sld F jx_i439 hX hbB hE2 (pc' := 354) rfl rfl (show vp_in (nI 3) 6 from vp_in_nI (by decide) (by decide)) q3 rfl ?_
  refine jw.steps F jx_i439 4 (pc' := 359) (l' := [(5, .int (1 : Int32)), (0, .ref 1000002), (1, .ref 0), (2, .ref 178), (3, .ref 226), (4, .int (0 : Int32))]) (st' := [.int (4 : Int32), .ref 1000002, .int p3, .int p2, .int p1, .ref 178]) rfl ?_
  refine jw.sld F jx_i439 hX hbB hE2 (pc' := 360) rfl rfl (show vp_in (nI 4) 6 from vp_in_nI (by decide) (by decide)) q4 rfl ?_
  refine jw.ca hTb F jx_i439 (pc' := 363) (S' := [.int (0 : Int32)]) rfl jv_i353 [.ref 178, .int p1, .int p2, .int p3, .int p4] rfl rfl rfl rfl (jx_cal2 rfl (jv_H_at rfl) rfl rfl) rfl (jx_e718 p0 p1 p2 p3 p4 p5 g1 g2 g3 g4 g5 g6 g7 g8 g9 g10 g11 g12 g13 g14 g15 g16 g17 g18 g19) (by omega) (by omega) rfl rfl ?_
  refine jw.steps F jx_i439 2 (pc' := 366) (l' := [(6, .int (0 : Int32)), (5, .int (1 : Int32)), (0, .ref 1000002), (1, .ref 0), (2, .ref 178), (3, .ref 226), (4, .int (0 : Int32))]) (st' := [.ref 178]) rfl ?_
  refine jw.ca hTb F jx_i439 (pc' := 369) (S' := [.int (1 : Int32)]) rfl jv_i350 [.ref 178] rfl rfl rfl rfl (jx_cal2 rfl (jv_H_at rfl) rfl rfl) rfl (jx_e719 p0 p1 p2 p3 p4 p5 g1 g2 g3 g4 g5 g6 g7 g8 g9 g10 g11 g12 g13 g14 g15 g16 g17 g18 g19) (by omega) (by omega) rfl rfl ?_
  refine jw.steps F jx_i439 1 (pc' := 371) (l' := [(6, .int (0 : Int32)), (5, .int (1 : Int32)), (0, .ref 1000002), (1, .ref 0), (2, .ref 178), (3, .ref 226), (4, .int (0 : Int32))]) (st' := [.int (1 : Int32), .int (1 : Int32)]) rfl ?_
  refine jw.br F jx_i439 (pc' := 376) (st' := []) rfl (jv_bc_eq.trans (jx_got (by decide))) ?_
  refine jw.steps F jx_i439 1 (pc' := 378) (l' := [(6, .int (0 : Int32)), (5, .int (1 : Int32)), (0, .ref 1000002), (1, .ref 0), (2, .ref 178), (3, .ref 226), (4, .int (0 : Int32))]) (st' := [.int (1 : Int32)]) rfl ?_
  refine jw.br F jx_i439 (pc' := 393) (st' := []) rfl (jv_bi_ne.trans (jx_got (by decide))) ?_
  refine jw.steps F jx_i439 5 (pc' := 26) (l' := [(4, .int (6 : Int32)), (6, .int (0 : Int32)), (5, .int (1 : Int32)), (0, .ref 1000002), (1, .ref 0), (2, .ref 178), (3, .ref 226)]) (st' := [.ref 1000002, .int (6 : Int32)]) rfl ?_
  refine jw.slen F jx_i439 hX hbB hE2 (pc' := 27) rfl rfl rfl ?_
  refine jw.steps F jx_i439 2 (pc' := 30) (l' := [(4, .int (6 : Int32)), (6, .int (0 : Int32)), (5, .int (1 : Int32)), (0, .ref 1000002), (1, .ref 0), (2, .ref 178), (3, .ref 226)]) (st' := [.int (0 : Int32), .int (6 : Int32)]) rfl ?_
  refine jw.br F jx_i439 (pc' := 1531) (st' := []) rfl (jv_bc_gt.trans (jx_got (by decide))) ?_
  refine jw.steps F jx_i439 1 (pc' := 1532) (l' := [(4, .int (6 : Int32)), (6, .int (0 : Int32)), (5, .int (1 : Int32)), (0, .ref 1000002), (1, .ref 0), (2, .ref 178), (3, .ref 226)]) (st' := [.int (1 : Int32)]) rfl ?_
  exact hQ _ _ _ _ (by omega) (by omega)

set_option maxRecDepth 100000 in
/-- ProgramBox$Store.isShape -/
theorem jx_e720 (p0 : Int32) (p1 : Int32) (p2 : Int32) (p3 : Int32) (p4 : Int32) (p5 : Int32) (g1 : p1 = (2 : Int32)) (g2 : p2 = (0 : Int32)) (g3 : p3 = (0 : Int32)) (g4 : ¬ p4 < (64 : Int32)) (g5 : ¬ (16384 : Int32) < p4) (g6 : ¬ p4 = (64 : Int32)) (g7 : ¬ p4 = (128 : Int32)) (g8 : ¬ p4 = (256 : Int32)) (g9 : ¬ p4 = (512 : Int32)) (g10 : ¬ p4 = (1024 : Int32)) (g11 : ¬ p4 = (2048 : Int32)) (g12 : ¬ p4 = (4096 : Int32)) (g13 : ¬ p4 = (8192 : Int32)) (g14 : ¬ p4 = (16384 : Int32)) (g15 : (64 : Int32) < p4) (g16 : (128 : Int32) < p4) (g17 : (256 : Int32) < p4) (g18 : ¬ (512 : Int32) < p4) : jv_Ms 123 [.int p1, .int p2, .int p3, .int p4] (jv_H (jx_K 227) jx_If jx_L0 (jx_R 227)) 227 1572950 (some (.int (0 : Int32)), (jv_H (jx_K 227) jx_If jx_L0 (jx_R 227)), 227, 1572950) := by
  show jv_Ev 123 0 [(0, .int p1), (1, .int p2), (2, .int p3), (3, .int p4)] [] (jv_H (jx_K 227) jx_If jx_L0 (jx_R 227)) 227 1572950 _
  refine jv_Ev.steps jv_i123 2 (pc' := 2) (l' := [(0, .int p1), (1, .int p2), (2, .int p3), (3, .int p4)]) (st' := [.int (2 : Int32), .int p1]) rfl ?_
  refine jv_Ev.br jv_i123 (pc' := 5) (st' := []) rfl (jv_bc_ne.trans (jx_gof (by rw [g1] <;> decide))) ?_
  refine jv_Ev.steps jv_i123 1 (pc' := 6) (l' := [(0, .int p1), (1, .int p2), (2, .int p3), (3, .int p4)]) (st' := [.int p2]) rfl ?_
  refine jv_Ev.br jv_i123 (pc' := 9) (st' := []) rfl (jv_bi_ne.trans (jx_gof (by rw [g2] <;> decide))) ?_
  refine jv_Ev.steps jv_i123 1 (pc' := 10) (l' := [(0, .int p1), (1, .int p2), (2, .int p3), (3, .int p4)]) (st' := [.int p3]) rfl ?_
  refine jv_Ev.br jv_i123 (pc' := 13) (st' := []) rfl (jv_bi_ne.trans (jx_gof (by rw [g3] <;> decide))) ?_
  refine jv_Ev.steps jv_i123 2 (pc' := 16) (l' := [(0, .int p1), (1, .int p2), (2, .int p3), (3, .int p4)]) (st' := [.int (64 : Int32), .int p4]) rfl ?_
  refine jv_Ev.br jv_i123 (pc' := 19) (st' := []) rfl (jv_bc_lt.trans (jx_gof g4)) ?_
  refine jv_Ev.steps jv_i123 2 (pc' := 23) (l' := [(0, .int p1), (1, .int p2), (2, .int p3), (3, .int p4)]) (st' := [.int (16384 : Int32), .int p4]) rfl ?_
  refine jv_Ev.br jv_i123 (pc' := 26) (st' := []) rfl (jv_bc_gt.trans (jx_gof g5)) ?_
  refine jv_Ev.steps jv_i123 1 (pc' := 27) (l' := [(0, .int p1), (1, .int p2), (2, .int p3), (3, .int p4)]) (st' := [.int p4]) rfl ?_
  refine jv_Ev.c jv_i123 (pc' := 30) (S' := [.int (jx_bc p4)]) jv_i0 [.int p4] rfl rfl rfl rfl rfl rfl (jx_bc_run p4 _ _ _) rfl rfl ?_
  refine jv_Ev.steps jv_i123 1 (pc' := 31) (l' := [(0, .int p1), (1, .int p2), (2, .int p3), (3, .int p4)]) (st' := [.int (1 : Int32), .int (jx_bc p4)]) rfl ?_
  refine jv_Ev.br jv_i123 (pc' := 38) (st' := []) rfl (jv_bc_ne.trans (jx_got (jx_bc_no p4 g4 g5 g6 g7 g8 g9 g10 g11 g12 g13 g14))) ?_
  refine jv_Ev.steps jv_i123 1 (pc' := 39) (l' := [(0, .int p1), (1, .int p2), (2, .int p3), (3, .int p4)]) (st' := [.int (0 : Int32)]) rfl ?_
  exact jv_Ev.ret jv_i123 rfl (jv_ret_b (by decide))

set_option maxRecDepth 100000 in
/-- ProgramBox.make: it throws -/
theorem jx_e721 (hTb : jv_TOk jv_Tb) (p0 : Int32) (p1 : Int32) (p2 : Int32) (p3 : Int32) (p4 : Int32) (p5 : Int32) (g1 : p1 = (2 : Int32)) (g2 : p2 = (0 : Int32)) (g3 : p3 = (0 : Int32)) (g4 : ¬ p4 < (64 : Int32)) (g5 : ¬ (16384 : Int32) < p4) (g6 : ¬ p4 = (64 : Int32)) (g7 : ¬ p4 = (128 : Int32)) (g8 : ¬ p4 = (256 : Int32)) (g9 : ¬ p4 = (512 : Int32)) (g10 : ¬ p4 = (1024 : Int32)) (g11 : ¬ p4 = (2048 : Int32)) (g12 : ¬ p4 = (4096 : Int32)) (g13 : ¬ p4 = (8192 : Int32)) (g14 : ¬ p4 = (16384 : Int32)) (g15 : (64 : Int32) < p4) (g16 : (128 : Int32) < p4) (g17 : (256 : Int32) < p4) (g18 : ¬ (512 : Int32) < p4) : jx_Th 420 [.ref 0, .int p1, .int p2, .int p3, .int p4] (jv_H (jx_K 227) jx_If jx_L0 (jx_R 227)) 227 1572950 1 (jv_H (jx_K 227) jx_If jx_L0 (jx_R 227)) 228 1572956 := by
  refine jx_Th.of hTb (y := 420) rfl (Nat.le_of_ble_eq_true rfl) ?_
  intro p l e R s m args below meth c E hl F hZ h0 ht hRc hRs
  show jw p l e R s m args below meth c E 5 227 1572950 _ 0 [(0, .ref 0), (1, .int p1), (2, .int p2), (3, .int p3), (4, .int p4)] [] (jv_H (jx_K 227) jx_If jx_L0 (jx_R 227)) 227 1572950
  refine jw.steps F jv_i420 4 (pc' := 5) (l' := [(0, .ref 0), (1, .int p1), (2, .int p2), (3, .int p3), (4, .int p4)]) (st' := [.int p4, .int p3, .int p2, .int p1]) rfl ?_
  refine jw.ca hTb F jv_i420 (pc' := 8) (S' := [.int (0 : Int32)]) rfl jv_i123 [.int p1, .int p2, .int p3, .int p4] rfl rfl rfl rfl rfl rfl (jx_e720 p0 p1 p2 p3 p4 p5 g1 g2 g3 g4 g5 g6 g7 g8 g9 g10 g11 g12 g13 g14 g15 g16 g17 g18) (by omega) (by omega) rfl rfl ?_
  refine jw.br F jv_i420 (pc' := 11) (st' := []) rfl (jv_bi_ne.trans (jx_gof (by decide))) ?_
  exact jw.throw hl F hZ h0 rfl jv_i420 ht 1 69 "no map is like this" (List.mem_of_getElem? (i := 2) rfl) (by decide +kernel) (by decide +kernel) (by decide +kernel) (by decide +kernel) (by decide +kernel) rfl (by decide) (by decide) (by decide) (by omega) (by omega)

set_option maxRecDepth 100000 in
/-- the law's make -/
theorem jx_w722 (hTb : jv_TOk jv_Tb) (hT2 : jx_T2Ok) (p0 : Int32) (p1 : Int32) (p2 : Int32) (p3 : Int32) (p4 : Int32) (p5 : Int32) (g1 : p1 = (2 : Int32)) (g2 : p2 = (0 : Int32)) (g3 : p3 = (0 : Int32)) (g4 : ¬ p4 < (64 : Int32)) (g5 : ¬ (16384 : Int32) < p4) (g6 : ¬ p4 = (64 : Int32)) (g7 : ¬ p4 = (128 : Int32)) (g8 : ¬ p4 = (256 : Int32)) (g9 : ¬ p4 = (512 : Int32)) (g10 : ¬ p4 = (1024 : Int32)) (g11 : ¬ p4 = (2048 : Int32)) (g12 : ¬ p4 = (4096 : Int32)) (g13 : ¬ p4 = (8192 : Int32)) (g14 : ¬ p4 = (16384 : Int32)) (g15 : (64 : Int32) < p4) (g16 : (128 : Int32) < p4) (g17 : (256 : Int32) < p4) (g18 : ¬ (512 : Int32) < p4) : jx_Wr 442 [(0, 14, 17, 19), (0, 14, 21, 13)] [.ref 0, .int p1, .int p2, .int p3, .int p4, .ref 226] (jv_H (jx_K 227) jx_If jx_L0 (jx_R 227)) 227 1572950 (some (.int (1 : Int32)), (jv_H (jx_K 227) jx_If jx_L0 (jx_R 227)), 228, 1572956) := by
  refine jx_Wr.of hT2 (by decide) rfl (Nat.le_of_ble_eq_true rfl) ?_
  intro p l e R s m args below meth c E hl F hZ htb hRc hRs
  show jw p l e R s m args below meth c E 7 227 1572950 _ 0 [(0, .ref 0), (1, .int p1), (2, .int p2), (3, .int p3), (4, .int p4), (5, .ref 226)] [] (jv_H (jx_K 227) jx_If jx_L0 (jx_R 227)) 227 1572950
  have hRc : R.cells = 228 - 227 := hRc
  have hRs : R.slots = 1572956 - 1572950 := hRs
  refine jw.steps F jx_i442 7 (pc' := 9) (l' := [(0, .ref 0), (1, .int p1), (2, .int p2), (3, .int p3), (4, .int p4), (5, .ref 226)]) (st' := [.int p4, .int p3, .int p2, .int p1, .ref 0, .int (0 : Int32), .ref 226]) rfl ?_
  refine jw.cat hTb hl F hZ rfl jx_i442 htb rfl jv_i420 [.ref 0, .int p1, .int p2, .int p3, .int p4] rfl rfl rfl rfl rfl (jx_cal2 rfl (jv_H_at rfl) rfl rfl) rfl (jx_e721 hTb p0 p1 p2 p3 p4 p5 g1 g2 g3 g4 g5 g6 g7 g8 g9 g10 g11 g12 g13 g14 g15 g16 g17 g18) (by omega) (by omega) (by omega) (by omega) [] (0, 14, 17, 19) [(0, 14, 21, 13)] rfl (fun z h => absurd h List.not_mem_nil) (by decide) rfl rfl (Or.inl ⟨rfl, rfl⟩) (by decide) ?_
  refine jw.steps F jx_i442 1 (pc' := 20) (l' := []) (st' := [.int (1 : Int32)]) rfl ?_
  exact jw.ret F jx_i442 rfl rfl

set_option maxRecDepth 100000 in
/-- ProgramBoxModel$Store.isIn -/
theorem jx_e723 (p0 : Int32) (p1 : Int32) (p2 : Int32) (p3 : Int32) (p4 : Int32) (p5 : Int32) (g1 : p1 = (2 : Int32)) (g2 : p2 = (0 : Int32)) (g3 : p3 = (0 : Int32)) (g4 : ¬ p4 < (64 : Int32)) (g5 : ¬ (16384 : Int32) < p4) (g6 : ¬ p4 = (64 : Int32)) (g7 : ¬ p4 = (128 : Int32)) (g8 : ¬ p4 = (256 : Int32)) (g9 : ¬ p4 = (512 : Int32)) (g10 : ¬ p4 = (1024 : Int32)) (g11 : ¬ p4 = (2048 : Int32)) (g12 : ¬ p4 = (4096 : Int32)) (g13 : ¬ p4 = (8192 : Int32)) (g14 : ¬ p4 = (16384 : Int32)) (g15 : (64 : Int32) < p4) (g16 : (128 : Int32) < p4) (g17 : (256 : Int32) < p4) (g18 : ¬ (512 : Int32) < p4) : jv_Ms 320 [.int p4, .int (64 : Int32), .int (16384 : Int32)] (jv_H (jx_K 227) jx_If jx_L0 (jx_R 227)) 228 1572956 (some (.int (1 : Int32)), (jv_H (jx_K 227) jx_If jx_L0 (jx_R 227)), 228, 1572956) := by
  show jv_Ev 320 0 [(0, .int p4), (1, .int (64 : Int32)), (2, .int (16384 : Int32))] [] (jv_H (jx_K 227) jx_If jx_L0 (jx_R 227)) 228 1572956 _
  refine jv_Ev.steps jv_i320 2 (pc' := 2) (l' := [(0, .int p4), (1, .int (64 : Int32)), (2, .int (16384 : Int32))]) (st' := [.int (64 : Int32), .int p4]) rfl ?_
  refine jv_Ev.br jv_i320 (pc' := 5) (st' := []) rfl (jv_bc_lt.trans (jx_gof g4)) ?_
  refine jv_Ev.steps jv_i320 2 (pc' := 7) (l' := [(0, .int p4), (1, .int (64 : Int32)), (2, .int (16384 : Int32))]) (st' := [.int (16384 : Int32), .int p4]) rfl ?_
  refine jv_Ev.br jv_i320 (pc' := 10) (st' := []) rfl (jv_bc_gt.trans (jx_gof g5)) ?_
  refine jv_Ev.steps jv_i320 2 (pc' := 15) (l' := [(0, .int p4), (1, .int (64 : Int32)), (2, .int (16384 : Int32))]) (st' := [.int (1 : Int32)]) rfl ?_
  exact jv_Ev.ret jv_i320 rfl (jv_ret_b (by decide))

set_option maxRecDepth 100000 in
/-- ProgramBoxModel$Store.isPower -/
theorem jx_e724 (p0 : Int32) (p1 : Int32) (p2 : Int32) (p3 : Int32) (p4 : Int32) (p5 : Int32) (g1 : p1 = (2 : Int32)) (g2 : p2 = (0 : Int32)) (g3 : p3 = (0 : Int32)) (g4 : ¬ p4 < (64 : Int32)) (g5 : ¬ (16384 : Int32) < p4) (g6 : ¬ p4 = (64 : Int32)) (g7 : ¬ p4 = (128 : Int32)) (g8 : ¬ p4 = (256 : Int32)) (g9 : ¬ p4 = (512 : Int32)) (g10 : ¬ p4 = (1024 : Int32)) (g11 : ¬ p4 = (2048 : Int32)) (g12 : ¬ p4 = (4096 : Int32)) (g13 : ¬ p4 = (8192 : Int32)) (g14 : ¬ p4 = (16384 : Int32)) (g15 : (64 : Int32) < p4) (g16 : (128 : Int32) < p4) (g17 : (256 : Int32) < p4) (g18 : ¬ (512 : Int32) < p4) : jv_Ms 321 [.int p4] (jv_H (jx_K 227) jx_If jx_L0 (jx_R 227)) 228 1572956 (some (.int (0 : Int32)), (jv_H (jx_K 227) jx_If jx_L0 (jx_R 227)), 228, 1572956) := by
  show jv_Ev 321 0 [(0, .int p4)] [] (jv_H (jx_K 227) jx_If jx_L0 (jx_R 227)) 228 1572956 _
  refine jv_Ev.steps jv_i321 4 (pc' := 5) (l' := [(1, .int (64 : Int32)), (0, .int p4)]) (st' := [.int p4, .int (64 : Int32)]) rfl ?_
  refine jv_Ev.br jv_i321 (pc' := 8) (st' := []) rfl (jv_bc_ge.trans (jx_gof (Int32.not_le.mpr g15))) ?_
  refine jv_Ev.steps jv_i321 7 (pc' := 5) (l' := [(1, .int (128 : Int32)), (0, .int p4)]) (st' := [.int p4, .int (128 : Int32)]) rfl ?_
  refine jv_Ev.br jv_i321 (pc' := 8) (st' := []) rfl (jv_bc_ge.trans (jx_gof (Int32.not_le.mpr g16))) ?_
  refine jv_Ev.steps jv_i321 7 (pc' := 5) (l' := [(1, .int (256 : Int32)), (0, .int p4)]) (st' := [.int p4, .int (256 : Int32)]) rfl ?_
  refine jv_Ev.br jv_i321 (pc' := 8) (st' := []) rfl (jv_bc_ge.trans (jx_gof (Int32.not_le.mpr g17))) ?_
  refine jv_Ev.steps jv_i321 7 (pc' := 5) (l' := [(1, .int (512 : Int32)), (0, .int p4)]) (st' := [.int p4, .int (512 : Int32)]) rfl ?_
  refine jv_Ev.br jv_i321 (pc' := 15) (st' := []) rfl (jv_bc_ge.trans (jx_got (Int32.not_lt.mp g18))) ?_
  refine jv_Ev.steps jv_i321 2 (pc' := 17) (l' := [(1, .int (512 : Int32)), (0, .int p4)]) (st' := [.int p4, .int (512 : Int32)]) rfl ?_
  refine jv_Ev.br jv_i321 (pc' := 24) (st' := []) rfl (jv_bc_ne.trans (jx_got (fun h => g9 h.symm))) ?_
  refine jv_Ev.steps jv_i321 1 (pc' := 25) (l' := [(1, .int (512 : Int32)), (0, .int p4)]) (st' := [.int (0 : Int32)]) rfl ?_
  exact jv_Ev.ret jv_i321 rfl (jv_ret_b (by decide))

set_option maxRecDepth 100000 in
/-- ProgramBoxModel$Store.isProper -/
theorem jx_e725 (p0 : Int32) (p1 : Int32) (p2 : Int32) (p3 : Int32) (p4 : Int32) (p5 : Int32) (g1 : p1 = (2 : Int32)) (g2 : p2 = (0 : Int32)) (g3 : p3 = (0 : Int32)) (g4 : ¬ p4 < (64 : Int32)) (g5 : ¬ (16384 : Int32) < p4) (g6 : ¬ p4 = (64 : Int32)) (g7 : ¬ p4 = (128 : Int32)) (g8 : ¬ p4 = (256 : Int32)) (g9 : ¬ p4 = (512 : Int32)) (g10 : ¬ p4 = (1024 : Int32)) (g11 : ¬ p4 = (2048 : Int32)) (g12 : ¬ p4 = (4096 : Int32)) (g13 : ¬ p4 = (8192 : Int32)) (g14 : ¬ p4 = (16384 : Int32)) (g15 : (64 : Int32) < p4) (g16 : (128 : Int32) < p4) (g17 : (256 : Int32) < p4) (g18 : ¬ (512 : Int32) < p4) : jv_Ms 322 [.int p1, .int p2, .int p3, .int p4] (jv_H (jx_K 227) jx_If jx_L0 (jx_R 227)) 228 1572956 (some (.int (0 : Int32)), (jv_H (jx_K 227) jx_If jx_L0 (jx_R 227)), 228, 1572956) := by
  show jv_Ev 322 0 [(0, .int p1), (1, .int p2), (2, .int p3), (3, .int p4)] [] (jv_H (jx_K 227) jx_If jx_L0 (jx_R 227)) 228 1572956 _
  refine jv_Ev.steps jv_i322 2 (pc' := 2) (l' := [(0, .int p1), (1, .int p2), (2, .int p3), (3, .int p4)]) (st' := [.int (2 : Int32), .int p1]) rfl ?_
  refine jv_Ev.br jv_i322 (pc' := 5) (st' := []) rfl (jv_bc_ne.trans (jx_gof (by rw [g1] <;> decide))) ?_
  refine jv_Ev.steps jv_i322 1 (pc' := 6) (l' := [(0, .int p1), (1, .int p2), (2, .int p3), (3, .int p4)]) (st' := [.int p2]) rfl ?_
  refine jv_Ev.br jv_i322 (pc' := 9) (st' := []) rfl (jv_bi_ne.trans (jx_gof (by rw [g2] <;> decide))) ?_
  refine jv_Ev.steps jv_i322 1 (pc' := 10) (l' := [(0, .int p1), (1, .int p2), (2, .int p3), (3, .int p4)]) (st' := [.int p3]) rfl ?_
  refine jv_Ev.br jv_i322 (pc' := 13) (st' := []) rfl (jv_bi_ne.trans (jx_gof (by rw [g3] <;> decide))) ?_
  refine jv_Ev.steps jv_i322 3 (pc' := 19) (l' := [(0, .int p1), (1, .int p2), (2, .int p3), (3, .int p4)]) (st' := [.int (16384 : Int32), .int (64 : Int32), .int p4]) rfl ?_
  refine jv_Ev.c jv_i322 (pc' := 22) (S' := [.int (1 : Int32)]) jv_i320 [.int p4, .int (64 : Int32), .int (16384 : Int32)] rfl rfl rfl rfl rfl rfl (jx_e723 p0 p1 p2 p3 p4 p5 g1 g2 g3 g4 g5 g6 g7 g8 g9 g10 g11 g12 g13 g14 g15 g16 g17 g18) rfl rfl ?_
  refine jv_Ev.br jv_i322 (pc' := 25) (st' := []) rfl (jv_bi_eq.trans (jx_gof (by decide))) ?_
  refine jv_Ev.steps jv_i322 1 (pc' := 26) (l' := [(0, .int p1), (1, .int p2), (2, .int p3), (3, .int p4)]) (st' := [.int p4]) rfl ?_
  refine jv_Ev.c jv_i322 (pc' := 29) (S' := [.int (0 : Int32)]) jv_i321 [.int p4] rfl rfl rfl rfl rfl rfl (jx_e724 p0 p1 p2 p3 p4 p5 g1 g2 g3 g4 g5 g6 g7 g8 g9 g10 g11 g12 g13 g14 g15 g16 g17 g18) rfl rfl ?_
  refine jv_Ev.br jv_i322 (pc' := 36) (st' := []) rfl (jv_bi_eq.trans (jx_got (by decide))) ?_
  refine jv_Ev.steps jv_i322 1 (pc' := 37) (l' := [(0, .int p1), (1, .int p2), (2, .int p3), (3, .int p4)]) (st' := [.int (0 : Int32)]) rfl ?_
  exact jv_Ev.ret jv_i322 rfl (jv_ret_b (by decide))

set_option maxRecDepth 100000 in
/-- ProgramBoxModel$Store.make -/
theorem jx_e726 (p0 : Int32) (p1 : Int32) (p2 : Int32) (p3 : Int32) (p4 : Int32) (p5 : Int32) (g1 : p1 = (2 : Int32)) (g2 : p2 = (0 : Int32)) (g3 : p3 = (0 : Int32)) (g4 : ¬ p4 < (64 : Int32)) (g5 : ¬ (16384 : Int32) < p4) (g6 : ¬ p4 = (64 : Int32)) (g7 : ¬ p4 = (128 : Int32)) (g8 : ¬ p4 = (256 : Int32)) (g9 : ¬ p4 = (512 : Int32)) (g10 : ¬ p4 = (1024 : Int32)) (g11 : ¬ p4 = (2048 : Int32)) (g12 : ¬ p4 = (4096 : Int32)) (g13 : ¬ p4 = (8192 : Int32)) (g14 : ¬ p4 = (16384 : Int32)) (g15 : (64 : Int32) < p4) (g16 : (128 : Int32) < p4) (g17 : (256 : Int32) < p4) (g18 : ¬ (512 : Int32) < p4) : jv_Ms 323 [.ref 180, .int p1, .int p2, .int p3, .int p4] (jv_H (jx_K 227) jx_If jx_L0 (jx_R 227)) 228 1572956 (some (.int (0 : Int32)), (jv_H (jx_K 227) (jv_u jx_If 180 0 (1 : Int32)) jx_L0 (jx_R 227)), 228, 1572956) := by
  show jv_Ev 323 0 [(0, .ref 180), (1, .int p1), (2, .int p2), (3, .int p3), (4, .int p4)] [] (jv_H (jx_K 227) jx_If jx_L0 (jx_R 227)) 228 1572956 _
  refine jv_Ev.steps jv_i323 5 (pc' := 6) (l' := [(0, .ref 180), (1, .int p1), (2, .int p2), (3, .int p3), (4, .int p4)]) (st' := [.int p4, .int p3, .int p2, .int p1, .ref 180]) rfl ?_
  refine jv_Ev.c jv_i323 (pc' := 9) (S' := [.int (0 : Int32), .ref 180]) jv_i322 [.int p1, .int p2, .int p3, .int p4] rfl rfl rfl rfl rfl rfl (jx_e725 p0 p1 p2 p3 p4 p5 g1 g2 g3 g4 g5 g6 g7 g8 g9 g10 g11 g12 g13 g14 g15 g16 g17 g18) rfl rfl ?_
  refine jv_Ev.br jv_i323 (pc' := 16) (st' := [.ref 180]) rfl (jv_bi_eq.trans (jx_got (by decide))) ?_
  refine jv_Ev.steps jv_i323 1 (pc' := 17) (l' := [(0, .ref 180), (1, .int p1), (2, .int p2), (3, .int p3), (4, .int p4)]) (st' := [.int (1 : Int32), .ref 180]) rfl ?_
  refine jv_Ev.m jv_i323 (pc' := 20) (st' := []) rfl rfl (jv_m_putI rfl rfl rfl rfl rfl) ?_
  refine jv_Ev.steps jv_i323 1 (pc' := 21) (l' := [(0, .ref 180), (1, .int p1), (2, .int p2), (3, .int p3), (4, .int p4)]) (st' := [.ref 180]) rfl ?_
  refine jv_Ev.m jv_i323 (pc' := 24) (st' := [.int (1 : Int32)]) rfl rfl (jv_m_getI rfl rfl rfl rfl) ?_
  refine jv_Ev.br jv_i323 (pc' := 27) (st' := []) rfl (jv_bi_le.trans (jx_gof (by decide))) ?_
  refine jv_Ev.steps jv_i323 1 (pc' := 28) (l' := [(0, .ref 180), (1, .int p1), (2, .int p2), (3, .int p3), (4, .int p4)]) (st' := [.int (0 : Int32)]) rfl ?_
  exact jv_Ev.ret jv_i323 rfl rfl

set_option maxRecDepth 100000 in
/-- ProgramBoxModel$Store.thrown -/
theorem jx_e727 (p0 : Int32) (p1 : Int32) (p2 : Int32) (p3 : Int32) (p4 : Int32) (p5 : Int32) (g1 : p1 = (2 : Int32)) (g2 : p2 = (0 : Int32)) (g3 : p3 = (0 : Int32)) (g4 : ¬ p4 < (64 : Int32)) (g5 : ¬ (16384 : Int32) < p4) (g6 : ¬ p4 = (64 : Int32)) (g7 : ¬ p4 = (128 : Int32)) (g8 : ¬ p4 = (256 : Int32)) (g9 : ¬ p4 = (512 : Int32)) (g10 : ¬ p4 = (1024 : Int32)) (g11 : ¬ p4 = (2048 : Int32)) (g12 : ¬ p4 = (4096 : Int32)) (g13 : ¬ p4 = (8192 : Int32)) (g14 : ¬ p4 = (16384 : Int32)) (g15 : (64 : Int32) < p4) (g16 : (128 : Int32) < p4) (g17 : (256 : Int32) < p4) (g18 : ¬ (512 : Int32) < p4) : jv_Ms 318 [.ref 180] (jv_H (jx_K 227) (jv_u jx_If 180 0 (1 : Int32)) jx_L0 (jx_R 227)) 228 1572956 (some (.int (1 : Int32)), (jv_H (jx_K 227) (jv_u jx_If 180 0 (1 : Int32)) jx_L0 (jx_R 227)), 228, 1572956) := by
  show jv_Ev 318 0 [(0, .ref 180)] [] (jv_H (jx_K 227) (jv_u jx_If 180 0 (1 : Int32)) jx_L0 (jx_R 227)) 228 1572956 _
  refine jv_Ev.steps jv_i318 1 (pc' := 1) (l' := [(0, .ref 180)]) (st' := [.ref 180]) rfl ?_
  refine jv_Ev.m jv_i318 (pc' := 4) (st' := [.int (1 : Int32)]) rfl rfl (jv_m_getI rfl rfl rfl rfl) ?_
  exact jv_Ev.ret jv_i318 rfl rfl

set_option maxRecDepth 100000 in
/-- ProgramBoxModel.make -/
theorem jx_e728 (p0 : Int32) (p1 : Int32) (p2 : Int32) (p3 : Int32) (p4 : Int32) (p5 : Int32) (g1 : p1 = (2 : Int32)) (g2 : p2 = (0 : Int32)) (g3 : p3 = (0 : Int32)) (g4 : ¬ p4 < (64 : Int32)) (g5 : ¬ (16384 : Int32) < p4) (g6 : ¬ p4 = (64 : Int32)) (g7 : ¬ p4 = (128 : Int32)) (g8 : ¬ p4 = (256 : Int32)) (g9 : ¬ p4 = (512 : Int32)) (g10 : ¬ p4 = (1024 : Int32)) (g11 : ¬ p4 = (2048 : Int32)) (g12 : ¬ p4 = (4096 : Int32)) (g13 : ¬ p4 = (8192 : Int32)) (g14 : ¬ p4 = (16384 : Int32)) (g15 : (64 : Int32) < p4) (g16 : (128 : Int32) < p4) (g17 : (256 : Int32) < p4) (g18 : ¬ (512 : Int32) < p4) : jv_Ms 353 [.ref 178, .int p1, .int p2, .int p3, .int p4] (jv_H (jx_K 227) jx_If jx_L0 (jx_R 227)) 228 1572956 (some (.int (0 : Int32)), (jv_H (jx_K 227) (jv_u (jv_u jx_If 180 0 (1 : Int32)) 178 0 (1 : Int32)) jx_L0 (jx_R 227)), 228, 1572956) := by
  show jv_Ev 353 0 [(0, .ref 178), (1, .int p1), (2, .int p2), (3, .int p3), (4, .int p4)] [] (jv_H (jx_K 227) jx_If jx_L0 (jx_R 227)) 228 1572956 _
  refine jv_Ev.steps jv_i353 1 (pc' := 1) (l' := [(0, .ref 178), (1, .int p1), (2, .int p2), (3, .int p3), (4, .int p4)]) (st' := [.ref 178]) rfl ?_
  refine jv_Ev.m jv_i353 (pc' := 4) (st' := [.ref 180]) rfl rfl (jv_m_getR rfl rfl rfl rfl) ?_
  refine jv_Ev.steps jv_i353 4 (pc' := 9) (l' := [(0, .ref 178), (1, .int p1), (2, .int p2), (3, .int p3), (4, .int p4)]) (st' := [.int p4, .int p3, .int p2, .int p1, .ref 180]) rfl ?_
  refine jv_Ev.c jv_i353 (pc' := 12) (S' := [.int (0 : Int32)]) jv_i323 [.ref 180, .int p1, .int p2, .int p3, .int p4] rfl rfl rfl rfl (jv_cal rfl (jv_H_at rfl) rfl rfl) rfl (jx_e726 p0 p1 p2 p3 p4 p5 g1 g2 g3 g4 g5 g6 g7 g8 g9 g10 g11 g12 g13 g14 g15 g16 g17 g18) rfl rfl ?_
  refine jv_Ev.steps jv_i353 3 (pc' := 16) (l' := [(5, .int (0 : Int32)), (0, .ref 178), (1, .int p1), (2, .int p2), (3, .int p3), (4, .int p4)]) (st' := [.ref 178, .ref 178]) rfl ?_
  refine jv_Ev.m jv_i353 (pc' := 19) (st' := [.ref 180, .ref 178]) rfl rfl (jv_m_getR rfl rfl rfl rfl) ?_
  refine jv_Ev.c jv_i353 (pc' := 22) (S' := [.int (1 : Int32), .ref 178]) jv_i318 [.ref 180] rfl rfl rfl rfl (jv_cal rfl (jv_H_at rfl) rfl rfl) rfl (jx_e727 p0 p1 p2 p3 p4 p5 g1 g2 g3 g4 g5 g6 g7 g8 g9 g10 g11 g12 g13 g14 g15 g16 g17 g18) rfl rfl ?_
  refine jv_Ev.m jv_i353 (pc' := 25) (st' := []) rfl rfl (jv_m_putI rfl rfl rfl rfl rfl) ?_
  refine jv_Ev.steps jv_i353 1 (pc' := 26) (l' := [(5, .int (0 : Int32)), (0, .ref 178), (1, .int p1), (2, .int p2), (3, .int p3), (4, .int p4)]) (st' := [.ref 178]) rfl ?_
  refine jv_Ev.m jv_i353 (pc' := 29) (st' := [.int (1 : Int32)]) rfl rfl (jv_m_getI rfl rfl rfl rfl) ?_
  refine jv_Ev.br jv_i353 (pc' := 67) (st' := []) rfl (jv_bi_ne.trans (jx_got (by decide))) ?_
  refine jv_Ev.steps jv_i353 1 (pc' := 69) (l' := [(5, .int (0 : Int32)), (0, .ref 178), (1, .int p1), (2, .int p2), (3, .int p3), (4, .int p4)]) (st' := [.int (0 : Int32)]) rfl ?_
  exact jv_Ev.ret jv_i353 rfl rfl

set_option maxRecDepth 100000 in
/-- ProgramBoxModel.thrown -/
theorem jx_e729 (p0 : Int32) (p1 : Int32) (p2 : Int32) (p3 : Int32) (p4 : Int32) (p5 : Int32) (g1 : p1 = (2 : Int32)) (g2 : p2 = (0 : Int32)) (g3 : p3 = (0 : Int32)) (g4 : ¬ p4 < (64 : Int32)) (g5 : ¬ (16384 : Int32) < p4) (g6 : ¬ p4 = (64 : Int32)) (g7 : ¬ p4 = (128 : Int32)) (g8 : ¬ p4 = (256 : Int32)) (g9 : ¬ p4 = (512 : Int32)) (g10 : ¬ p4 = (1024 : Int32)) (g11 : ¬ p4 = (2048 : Int32)) (g12 : ¬ p4 = (4096 : Int32)) (g13 : ¬ p4 = (8192 : Int32)) (g14 : ¬ p4 = (16384 : Int32)) (g15 : (64 : Int32) < p4) (g16 : (128 : Int32) < p4) (g17 : (256 : Int32) < p4) (g18 : ¬ (512 : Int32) < p4) : jv_Ms 350 [.ref 178] (jv_H (jx_K 227) (jv_u (jv_u jx_If 180 0 (1 : Int32)) 178 0 (1 : Int32)) jx_L0 (jx_R 227)) 228 1572956 (some (.int (1 : Int32)), (jv_H (jx_K 227) (jv_u (jv_u jx_If 180 0 (1 : Int32)) 178 0 (1 : Int32)) jx_L0 (jx_R 227)), 228, 1572956) := by
  show jv_Ev 350 0 [(0, .ref 178)] [] (jv_H (jx_K 227) (jv_u (jv_u jx_If 180 0 (1 : Int32)) 178 0 (1 : Int32)) jx_L0 (jx_R 227)) 228 1572956 _
  refine jv_Ev.steps jv_i350 1 (pc' := 1) (l' := [(0, .ref 178)]) (st' := [.ref 178]) rfl ?_
  refine jv_Ev.m jv_i350 (pc' := 4) (st' := [.int (1 : Int32)]) rfl rfl (jv_m_getI rfl rfl rfl rfl) ?_
  exact jv_Ev.ret jv_i350 rfl rfl

set_option maxRecDepth 100000 in
/-- the law: case 2, one way -/
theorem jx_l84 (p0 : Int32) (p1 : Int32) (p2 : Int32) (p3 : Int32) (p4 : Int32) (p5 : Int32) (g1 : p1 = (2 : Int32)) (g2 : p2 = (0 : Int32)) (g3 : p3 = (0 : Int32)) (g4 : ¬ p4 < (64 : Int32)) (g5 : ¬ (16384 : Int32) < p4) (g6 : ¬ p4 = (64 : Int32)) (g7 : ¬ p4 = (128 : Int32)) (g8 : ¬ p4 = (256 : Int32)) (g9 : ¬ p4 = (512 : Int32)) (g10 : ¬ p4 = (1024 : Int32)) (g11 : ¬ p4 = (2048 : Int32)) (g12 : ¬ p4 = (4096 : Int32)) (g13 : ¬ p4 = (8192 : Int32)) (g14 : ¬ p4 = (16384 : Int32)) (g15 : (64 : Int32) < p4) (g16 : (128 : Int32) < p4) (g17 : (256 : Int32) < p4) (g18 : ¬ (512 : Int32) < p4) (hsw : p0 &&& (31 : Int32) = (2 : Int32)) {p : Program} {l : Launch} {e : Env} {R : Room} {s : State} {m : MethodId} {args : Array Value} {below : List Frame} {meth : Method} {c : Code} {E : jv_Env} {Q : State → Prop} (hTb : jv_TOk jv_Tb) (hT2 : jx_T2Ok) (hl : l.stackTraces = false) (F : jx_F jv_T2 439 E p R s m args meth c) (hZ : jx_Z E s) (hRc : R.cells = 600002) (hRs : R.slots = 7302232) {bb : Nat} {xs : Nat → Int32} (hX : va_X bb 6 xs s E.2.2.2.2) (hbB : bb < E.2.2.2.1) (hE2 : E.1 1000002 = bb) (hQ : ∀ (l0 : jv_L) (G : jv_G) (n sl : Nat), n ≤ 600002 → sl ≤ 7302232 → jw p l e R s m args below meth c E 8 0 0 Q 1532 l0 [.int (1 : Int32)] G n sl) (q0 : xs 0 = p0) (q1 : xs 1 = p1) (q2 : xs 2 = p2) (q3 : xs 3 = p3) (q4 : xs 4 = p4) (q5 : xs 5 = p5) : jw p l e R s m args below meth c E 8 0 0 Q 33 [(0, .ref 1000002), (1, .ref 0), (2, .ref 178), (3, .ref 226), (4, .int (0 : Int32))] [] (jv_H (jx_K 227) jx_If jx_L0 (jx_R 227)) 227 1572950 := by
  refine jw.steps F jx_i439 2 (pc' := 36) (l' := [(0, .ref 1000002), (1, .ref 0), (2, .ref 178), (3, .ref 226), (4, .int (0 : Int32))]) (st' := [.int (0 : Int32), .ref 1000002]) rfl ?_
  refine jw.sld F jx_i439 hX hbB hE2 (pc' := 37) rfl rfl (show vp_in (nI 0) 6 from vp_in_nI (by decide) (by decide)) q0 rfl ?_
  refine jw.steps F jx_i439 2 (pc' := 40) (l' := [(0, .ref 1000002), (1, .ref 0), (2, .ref 178), (3, .ref 226), (4, .int (0 : Int32))]) (st' := [.int (p0 &&& (31 : Int32))]) rfl ?_
  refine jw.br F jx_i439 (pc' := 304) (st' := []) rfl (by rw [hsw]; rfl) ?_
  refine jw.steps F jx_i439 5 (pc' := 310) (l' := [(0, .ref 1000002), (1, .ref 0), (2, .ref 178), (3, .ref 226), (4, .int (0 : Int32))]) (st' := [.int (1 : Int32), .ref 1000002, .ref 0]) rfl ?_
  refine jw.sld F jx_i439 hX hbB hE2 (pc' := 311) rfl rfl (show vp_in (nI 1) 6 from vp_in_nI (by decide) (by decide)) q1 rfl ?_
  refine jw.steps F jx_i439 4 (pc' := 316) (l' := [(0, .ref 1000002), (1, .ref 0), (2, .ref 178), (3, .ref 226), (4, .int (0 : Int32))]) (st' := [.int (2 : Int32), .ref 1000002, .int p1, .ref 0]) rfl ?_
  refine jw.sld F jx_i439 hX hbB hE2 (pc' := 317) rfl rfl (show vp_in (nI 2) 6 from vp_in_nI (by decide) (by decide)) q2 rfl ?_
  refine jw.steps F jx_i439 4 (pc' := 322) (l' := [(0, .ref 1000002), (1, .ref 0), (2, .ref 178), (3, .ref 226), (4, .int (0 : Int32))]) (st' := [.int (3 : Int32), .ref 1000002, .int p2, .int p1, .ref 0]) rfl ?_
  refine jw.sld F jx_i439 hX hbB hE2 (pc' := 323) rfl rfl (show vp_in (nI 3) 6 from vp_in_nI (by decide) (by decide)) q3 rfl ?_
  refine jw.steps F jx_i439 4 (pc' := 328) (l' := [(0, .ref 1000002), (1, .ref 0), (2, .ref 178), (3, .ref 226), (4, .int (0 : Int32))]) (st' := [.int (4 : Int32), .ref 1000002, .int p3, .int p2, .int p1, .ref 0]) rfl ?_
  refine jw.sld F jx_i439 hX hbB hE2 (pc' := 329) rfl rfl (show vp_in (nI 4) 6 from vp_in_nI (by decide) (by decide)) q4 rfl ?_
  refine jw.steps F jx_i439 1 (pc' := 330) (l' := [(0, .ref 1000002), (1, .ref 0), (2, .ref 178), (3, .ref 226), (4, .int (0 : Int32))]) (st' := [.ref 226, .int p4, .int p3, .int p2, .int p1, .ref 0]) rfl ?_
  refine jw.wr F hl hZ rfl jx_i439 jx_i442 [.ref 0, .int p1, .int p2, .int p3, .int p4, .ref 226] (pc' := 333) (S' := [.int (1 : Int32)]) rfl (List.mem_of_getElem? (i := 2) rfl) (List.mem_of_getElem? (i := 2) rfl) rfl rfl rfl (jx_w722 hTb hT2 p0 p1 p2 p3 p4 p5 g1 g2 g3 g4 g5 g6 g7 g8 g9 g10 g11 g12 g13 g14 g15 g16 g17 g18) (by omega) (by omega) (by omega) (by omega) rfl rfl ?_
  refine jw.steps F jx_i439 6 (pc' := 341) (l' := [(5, .int (1 : Int32)), (0, .ref 1000002), (1, .ref 0), (2, .ref 178), (3, .ref 226), (4, .int (0 : Int32))]) (st' := [.int (1 : Int32), .ref 1000002, .ref 178]) rfl ?_
  refine jw.sld F jx_i439 hX hbB hE2 (pc' := 342) rfl rfl (show vp_in (nI 1) 6 from vp_in_nI (by decide) (by decide)) q1 rfl ?_
  refine jw.steps F jx_i439 4 (pc' := 347) (l' := [(5, .int (1 : Int32)), (0, .ref 1000002), (1, .ref 0), (2, .ref 178), (3, .ref 226), (4, .int (0 : Int32))]) (st' := [.int (2 : Int32), .ref 1000002, .int p1, .ref 178]) rfl ?_
  refine jw.sld F jx_i439 hX hbB hE2 (pc' := 348) rfl rfl (show vp_in (nI 2) 6 from vp_in_nI (by decide) (by decide)) q2 rfl ?_
  refine jw.steps F jx_i439 4 (pc' := 353) (l' := [(5, .int (1 : Int32)), (0, .ref 1000002), (1, .ref 0), (2, .ref 178), (3, .ref 226), (4, .int (0 : Int32))]) (st' := [.int (3 : Int32), .ref 1000002, .int p2, .int p1, .ref 178]) rfl ?_
  refine jw.sld F jx_i439 hX hbB hE2 (pc' := 354) rfl rfl (show vp_in (nI 3) 6 from vp_in_nI (by decide) (by decide)) q3 rfl ?_
  refine jw.steps F jx_i439 4 (pc' := 359) (l' := [(5, .int (1 : Int32)), (0, .ref 1000002), (1, .ref 0), (2, .ref 178), (3, .ref 226), (4, .int (0 : Int32))]) (st' := [.int (4 : Int32), .ref 1000002, .int p3, .int p2, .int p1, .ref 178]) rfl ?_
  refine jw.sld F jx_i439 hX hbB hE2 (pc' := 360) rfl rfl (show vp_in (nI 4) 6 from vp_in_nI (by decide) (by decide)) q4 rfl ?_
  refine jw.ca hTb F jx_i439 (pc' := 363) (S' := [.int (0 : Int32)]) rfl jv_i353 [.ref 178, .int p1, .int p2, .int p3, .int p4] rfl rfl rfl rfl (jx_cal2 rfl (jv_H_at rfl) rfl rfl) rfl (jx_e728 p0 p1 p2 p3 p4 p5 g1 g2 g3 g4 g5 g6 g7 g8 g9 g10 g11 g12 g13 g14 g15 g16 g17 g18) (by omega) (by omega) rfl rfl ?_
  refine jw.steps F jx_i439 2 (pc' := 366) (l' := [(6, .int (0 : Int32)), (5, .int (1 : Int32)), (0, .ref 1000002), (1, .ref 0), (2, .ref 178), (3, .ref 226), (4, .int (0 : Int32))]) (st' := [.ref 178]) rfl ?_
  refine jw.ca hTb F jx_i439 (pc' := 369) (S' := [.int (1 : Int32)]) rfl jv_i350 [.ref 178] rfl rfl rfl rfl (jx_cal2 rfl (jv_H_at rfl) rfl rfl) rfl (jx_e729 p0 p1 p2 p3 p4 p5 g1 g2 g3 g4 g5 g6 g7 g8 g9 g10 g11 g12 g13 g14 g15 g16 g17 g18) (by omega) (by omega) rfl rfl ?_
  refine jw.steps F jx_i439 1 (pc' := 371) (l' := [(6, .int (0 : Int32)), (5, .int (1 : Int32)), (0, .ref 1000002), (1, .ref 0), (2, .ref 178), (3, .ref 226), (4, .int (0 : Int32))]) (st' := [.int (1 : Int32), .int (1 : Int32)]) rfl ?_
  refine jw.br F jx_i439 (pc' := 376) (st' := []) rfl (jv_bc_eq.trans (jx_got (by decide))) ?_
  refine jw.steps F jx_i439 1 (pc' := 378) (l' := [(6, .int (0 : Int32)), (5, .int (1 : Int32)), (0, .ref 1000002), (1, .ref 0), (2, .ref 178), (3, .ref 226), (4, .int (0 : Int32))]) (st' := [.int (1 : Int32)]) rfl ?_
  refine jw.br F jx_i439 (pc' := 393) (st' := []) rfl (jv_bi_ne.trans (jx_got (by decide))) ?_
  refine jw.steps F jx_i439 5 (pc' := 26) (l' := [(4, .int (6 : Int32)), (6, .int (0 : Int32)), (5, .int (1 : Int32)), (0, .ref 1000002), (1, .ref 0), (2, .ref 178), (3, .ref 226)]) (st' := [.ref 1000002, .int (6 : Int32)]) rfl ?_
  refine jw.slen F jx_i439 hX hbB hE2 (pc' := 27) rfl rfl rfl ?_
  refine jw.steps F jx_i439 2 (pc' := 30) (l' := [(4, .int (6 : Int32)), (6, .int (0 : Int32)), (5, .int (1 : Int32)), (0, .ref 1000002), (1, .ref 0), (2, .ref 178), (3, .ref 226)]) (st' := [.int (0 : Int32), .int (6 : Int32)]) rfl ?_
  refine jw.br F jx_i439 (pc' := 1531) (st' := []) rfl (jv_bc_gt.trans (jx_got (by decide))) ?_
  refine jw.steps F jx_i439 1 (pc' := 1532) (l' := [(4, .int (6 : Int32)), (6, .int (0 : Int32)), (5, .int (1 : Int32)), (0, .ref 1000002), (1, .ref 0), (2, .ref 178), (3, .ref 226)]) (st' := [.int (1 : Int32)]) rfl ?_
  exact hQ _ _ _ _ (by omega) (by omega)

set_option maxRecDepth 100000 in
/-- ProgramBox$Store.isShape -/
theorem jx_e730 (p0 : Int32) (p1 : Int32) (p2 : Int32) (p3 : Int32) (p4 : Int32) (p5 : Int32) (g1 : p1 = (2 : Int32)) (g2 : p2 = (0 : Int32)) (g3 : p3 = (0 : Int32)) (g4 : ¬ p4 < (64 : Int32)) (g5 : ¬ (16384 : Int32) < p4) (g6 : ¬ p4 = (64 : Int32)) (g7 : ¬ p4 = (128 : Int32)) (g8 : ¬ p4 = (256 : Int32)) (g9 : ¬ p4 = (512 : Int32)) (g10 : ¬ p4 = (1024 : Int32)) (g11 : ¬ p4 = (2048 : Int32)) (g12 : ¬ p4 = (4096 : Int32)) (g13 : ¬ p4 = (8192 : Int32)) (g14 : ¬ p4 = (16384 : Int32)) (g15 : (64 : Int32) < p4) (g16 : (128 : Int32) < p4) (g17 : ¬ (256 : Int32) < p4) : jv_Ms 123 [.int p1, .int p2, .int p3, .int p4] (jv_H (jx_K 227) jx_If jx_L0 (jx_R 227)) 227 1572950 (some (.int (0 : Int32)), (jv_H (jx_K 227) jx_If jx_L0 (jx_R 227)), 227, 1572950) := by
  show jv_Ev 123 0 [(0, .int p1), (1, .int p2), (2, .int p3), (3, .int p4)] [] (jv_H (jx_K 227) jx_If jx_L0 (jx_R 227)) 227 1572950 _
  refine jv_Ev.steps jv_i123 2 (pc' := 2) (l' := [(0, .int p1), (1, .int p2), (2, .int p3), (3, .int p4)]) (st' := [.int (2 : Int32), .int p1]) rfl ?_
  refine jv_Ev.br jv_i123 (pc' := 5) (st' := []) rfl (jv_bc_ne.trans (jx_gof (by rw [g1] <;> decide))) ?_
  refine jv_Ev.steps jv_i123 1 (pc' := 6) (l' := [(0, .int p1), (1, .int p2), (2, .int p3), (3, .int p4)]) (st' := [.int p2]) rfl ?_
  refine jv_Ev.br jv_i123 (pc' := 9) (st' := []) rfl (jv_bi_ne.trans (jx_gof (by rw [g2] <;> decide))) ?_
  refine jv_Ev.steps jv_i123 1 (pc' := 10) (l' := [(0, .int p1), (1, .int p2), (2, .int p3), (3, .int p4)]) (st' := [.int p3]) rfl ?_
  refine jv_Ev.br jv_i123 (pc' := 13) (st' := []) rfl (jv_bi_ne.trans (jx_gof (by rw [g3] <;> decide))) ?_
  refine jv_Ev.steps jv_i123 2 (pc' := 16) (l' := [(0, .int p1), (1, .int p2), (2, .int p3), (3, .int p4)]) (st' := [.int (64 : Int32), .int p4]) rfl ?_
  refine jv_Ev.br jv_i123 (pc' := 19) (st' := []) rfl (jv_bc_lt.trans (jx_gof g4)) ?_
  refine jv_Ev.steps jv_i123 2 (pc' := 23) (l' := [(0, .int p1), (1, .int p2), (2, .int p3), (3, .int p4)]) (st' := [.int (16384 : Int32), .int p4]) rfl ?_
  refine jv_Ev.br jv_i123 (pc' := 26) (st' := []) rfl (jv_bc_gt.trans (jx_gof g5)) ?_
  refine jv_Ev.steps jv_i123 1 (pc' := 27) (l' := [(0, .int p1), (1, .int p2), (2, .int p3), (3, .int p4)]) (st' := [.int p4]) rfl ?_
  refine jv_Ev.c jv_i123 (pc' := 30) (S' := [.int (jx_bc p4)]) jv_i0 [.int p4] rfl rfl rfl rfl rfl rfl (jx_bc_run p4 _ _ _) rfl rfl ?_
  refine jv_Ev.steps jv_i123 1 (pc' := 31) (l' := [(0, .int p1), (1, .int p2), (2, .int p3), (3, .int p4)]) (st' := [.int (1 : Int32), .int (jx_bc p4)]) rfl ?_
  refine jv_Ev.br jv_i123 (pc' := 38) (st' := []) rfl (jv_bc_ne.trans (jx_got (jx_bc_no p4 g4 g5 g6 g7 g8 g9 g10 g11 g12 g13 g14))) ?_
  refine jv_Ev.steps jv_i123 1 (pc' := 39) (l' := [(0, .int p1), (1, .int p2), (2, .int p3), (3, .int p4)]) (st' := [.int (0 : Int32)]) rfl ?_
  exact jv_Ev.ret jv_i123 rfl (jv_ret_b (by decide))

set_option maxRecDepth 100000 in
/-- ProgramBox.make: it throws -/
theorem jx_e731 (hTb : jv_TOk jv_Tb) (p0 : Int32) (p1 : Int32) (p2 : Int32) (p3 : Int32) (p4 : Int32) (p5 : Int32) (g1 : p1 = (2 : Int32)) (g2 : p2 = (0 : Int32)) (g3 : p3 = (0 : Int32)) (g4 : ¬ p4 < (64 : Int32)) (g5 : ¬ (16384 : Int32) < p4) (g6 : ¬ p4 = (64 : Int32)) (g7 : ¬ p4 = (128 : Int32)) (g8 : ¬ p4 = (256 : Int32)) (g9 : ¬ p4 = (512 : Int32)) (g10 : ¬ p4 = (1024 : Int32)) (g11 : ¬ p4 = (2048 : Int32)) (g12 : ¬ p4 = (4096 : Int32)) (g13 : ¬ p4 = (8192 : Int32)) (g14 : ¬ p4 = (16384 : Int32)) (g15 : (64 : Int32) < p4) (g16 : (128 : Int32) < p4) (g17 : ¬ (256 : Int32) < p4) : jx_Th 420 [.ref 0, .int p1, .int p2, .int p3, .int p4] (jv_H (jx_K 227) jx_If jx_L0 (jx_R 227)) 227 1572950 1 (jv_H (jx_K 227) jx_If jx_L0 (jx_R 227)) 228 1572956 := by
  refine jx_Th.of hTb (y := 420) rfl (Nat.le_of_ble_eq_true rfl) ?_
  intro p l e R s m args below meth c E hl F hZ h0 ht hRc hRs
  show jw p l e R s m args below meth c E 5 227 1572950 _ 0 [(0, .ref 0), (1, .int p1), (2, .int p2), (3, .int p3), (4, .int p4)] [] (jv_H (jx_K 227) jx_If jx_L0 (jx_R 227)) 227 1572950
  refine jw.steps F jv_i420 4 (pc' := 5) (l' := [(0, .ref 0), (1, .int p1), (2, .int p2), (3, .int p3), (4, .int p4)]) (st' := [.int p4, .int p3, .int p2, .int p1]) rfl ?_
  refine jw.ca hTb F jv_i420 (pc' := 8) (S' := [.int (0 : Int32)]) rfl jv_i123 [.int p1, .int p2, .int p3, .int p4] rfl rfl rfl rfl rfl rfl (jx_e730 p0 p1 p2 p3 p4 p5 g1 g2 g3 g4 g5 g6 g7 g8 g9 g10 g11 g12 g13 g14 g15 g16 g17) (by omega) (by omega) rfl rfl ?_
  refine jw.br F jv_i420 (pc' := 11) (st' := []) rfl (jv_bi_ne.trans (jx_gof (by decide))) ?_
  exact jw.throw hl F hZ h0 rfl jv_i420 ht 1 69 "no map is like this" (List.mem_of_getElem? (i := 2) rfl) (by decide +kernel) (by decide +kernel) (by decide +kernel) (by decide +kernel) (by decide +kernel) rfl (by decide) (by decide) (by decide) (by omega) (by omega)

set_option maxRecDepth 100000 in
/-- the law's make -/
theorem jx_w732 (hTb : jv_TOk jv_Tb) (hT2 : jx_T2Ok) (p0 : Int32) (p1 : Int32) (p2 : Int32) (p3 : Int32) (p4 : Int32) (p5 : Int32) (g1 : p1 = (2 : Int32)) (g2 : p2 = (0 : Int32)) (g3 : p3 = (0 : Int32)) (g4 : ¬ p4 < (64 : Int32)) (g5 : ¬ (16384 : Int32) < p4) (g6 : ¬ p4 = (64 : Int32)) (g7 : ¬ p4 = (128 : Int32)) (g8 : ¬ p4 = (256 : Int32)) (g9 : ¬ p4 = (512 : Int32)) (g10 : ¬ p4 = (1024 : Int32)) (g11 : ¬ p4 = (2048 : Int32)) (g12 : ¬ p4 = (4096 : Int32)) (g13 : ¬ p4 = (8192 : Int32)) (g14 : ¬ p4 = (16384 : Int32)) (g15 : (64 : Int32) < p4) (g16 : (128 : Int32) < p4) (g17 : ¬ (256 : Int32) < p4) : jx_Wr 442 [(0, 14, 17, 19), (0, 14, 21, 13)] [.ref 0, .int p1, .int p2, .int p3, .int p4, .ref 226] (jv_H (jx_K 227) jx_If jx_L0 (jx_R 227)) 227 1572950 (some (.int (1 : Int32)), (jv_H (jx_K 227) jx_If jx_L0 (jx_R 227)), 228, 1572956) := by
  refine jx_Wr.of hT2 (by decide) rfl (Nat.le_of_ble_eq_true rfl) ?_
  intro p l e R s m args below meth c E hl F hZ htb hRc hRs
  show jw p l e R s m args below meth c E 7 227 1572950 _ 0 [(0, .ref 0), (1, .int p1), (2, .int p2), (3, .int p3), (4, .int p4), (5, .ref 226)] [] (jv_H (jx_K 227) jx_If jx_L0 (jx_R 227)) 227 1572950
  have hRc : R.cells = 228 - 227 := hRc
  have hRs : R.slots = 1572956 - 1572950 := hRs
  refine jw.steps F jx_i442 7 (pc' := 9) (l' := [(0, .ref 0), (1, .int p1), (2, .int p2), (3, .int p3), (4, .int p4), (5, .ref 226)]) (st' := [.int p4, .int p3, .int p2, .int p1, .ref 0, .int (0 : Int32), .ref 226]) rfl ?_
  refine jw.cat hTb hl F hZ rfl jx_i442 htb rfl jv_i420 [.ref 0, .int p1, .int p2, .int p3, .int p4] rfl rfl rfl rfl rfl (jx_cal2 rfl (jv_H_at rfl) rfl rfl) rfl (jx_e731 hTb p0 p1 p2 p3 p4 p5 g1 g2 g3 g4 g5 g6 g7 g8 g9 g10 g11 g12 g13 g14 g15 g16 g17) (by omega) (by omega) (by omega) (by omega) [] (0, 14, 17, 19) [(0, 14, 21, 13)] rfl (fun z h => absurd h List.not_mem_nil) (by decide) rfl rfl (Or.inl ⟨rfl, rfl⟩) (by decide) ?_
  refine jw.steps F jx_i442 1 (pc' := 20) (l' := []) (st' := [.int (1 : Int32)]) rfl ?_
  exact jw.ret F jx_i442 rfl rfl

set_option maxRecDepth 100000 in
/-- ProgramBoxModel$Store.isIn -/
theorem jx_e733 (p0 : Int32) (p1 : Int32) (p2 : Int32) (p3 : Int32) (p4 : Int32) (p5 : Int32) (g1 : p1 = (2 : Int32)) (g2 : p2 = (0 : Int32)) (g3 : p3 = (0 : Int32)) (g4 : ¬ p4 < (64 : Int32)) (g5 : ¬ (16384 : Int32) < p4) (g6 : ¬ p4 = (64 : Int32)) (g7 : ¬ p4 = (128 : Int32)) (g8 : ¬ p4 = (256 : Int32)) (g9 : ¬ p4 = (512 : Int32)) (g10 : ¬ p4 = (1024 : Int32)) (g11 : ¬ p4 = (2048 : Int32)) (g12 : ¬ p4 = (4096 : Int32)) (g13 : ¬ p4 = (8192 : Int32)) (g14 : ¬ p4 = (16384 : Int32)) (g15 : (64 : Int32) < p4) (g16 : (128 : Int32) < p4) (g17 : ¬ (256 : Int32) < p4) : jv_Ms 320 [.int p4, .int (64 : Int32), .int (16384 : Int32)] (jv_H (jx_K 227) jx_If jx_L0 (jx_R 227)) 228 1572956 (some (.int (1 : Int32)), (jv_H (jx_K 227) jx_If jx_L0 (jx_R 227)), 228, 1572956) := by
  show jv_Ev 320 0 [(0, .int p4), (1, .int (64 : Int32)), (2, .int (16384 : Int32))] [] (jv_H (jx_K 227) jx_If jx_L0 (jx_R 227)) 228 1572956 _
  refine jv_Ev.steps jv_i320 2 (pc' := 2) (l' := [(0, .int p4), (1, .int (64 : Int32)), (2, .int (16384 : Int32))]) (st' := [.int (64 : Int32), .int p4]) rfl ?_
  refine jv_Ev.br jv_i320 (pc' := 5) (st' := []) rfl (jv_bc_lt.trans (jx_gof g4)) ?_
  refine jv_Ev.steps jv_i320 2 (pc' := 7) (l' := [(0, .int p4), (1, .int (64 : Int32)), (2, .int (16384 : Int32))]) (st' := [.int (16384 : Int32), .int p4]) rfl ?_
  refine jv_Ev.br jv_i320 (pc' := 10) (st' := []) rfl (jv_bc_gt.trans (jx_gof g5)) ?_
  refine jv_Ev.steps jv_i320 2 (pc' := 15) (l' := [(0, .int p4), (1, .int (64 : Int32)), (2, .int (16384 : Int32))]) (st' := [.int (1 : Int32)]) rfl ?_
  exact jv_Ev.ret jv_i320 rfl (jv_ret_b (by decide))

set_option maxRecDepth 100000 in
/-- ProgramBoxModel$Store.isPower -/
theorem jx_e734 (p0 : Int32) (p1 : Int32) (p2 : Int32) (p3 : Int32) (p4 : Int32) (p5 : Int32) (g1 : p1 = (2 : Int32)) (g2 : p2 = (0 : Int32)) (g3 : p3 = (0 : Int32)) (g4 : ¬ p4 < (64 : Int32)) (g5 : ¬ (16384 : Int32) < p4) (g6 : ¬ p4 = (64 : Int32)) (g7 : ¬ p4 = (128 : Int32)) (g8 : ¬ p4 = (256 : Int32)) (g9 : ¬ p4 = (512 : Int32)) (g10 : ¬ p4 = (1024 : Int32)) (g11 : ¬ p4 = (2048 : Int32)) (g12 : ¬ p4 = (4096 : Int32)) (g13 : ¬ p4 = (8192 : Int32)) (g14 : ¬ p4 = (16384 : Int32)) (g15 : (64 : Int32) < p4) (g16 : (128 : Int32) < p4) (g17 : ¬ (256 : Int32) < p4) : jv_Ms 321 [.int p4] (jv_H (jx_K 227) jx_If jx_L0 (jx_R 227)) 228 1572956 (some (.int (0 : Int32)), (jv_H (jx_K 227) jx_If jx_L0 (jx_R 227)), 228, 1572956) := by
  show jv_Ev 321 0 [(0, .int p4)] [] (jv_H (jx_K 227) jx_If jx_L0 (jx_R 227)) 228 1572956 _
  refine jv_Ev.steps jv_i321 4 (pc' := 5) (l' := [(1, .int (64 : Int32)), (0, .int p4)]) (st' := [.int p4, .int (64 : Int32)]) rfl ?_
  refine jv_Ev.br jv_i321 (pc' := 8) (st' := []) rfl (jv_bc_ge.trans (jx_gof (Int32.not_le.mpr g15))) ?_
  refine jv_Ev.steps jv_i321 7 (pc' := 5) (l' := [(1, .int (128 : Int32)), (0, .int p4)]) (st' := [.int p4, .int (128 : Int32)]) rfl ?_
  refine jv_Ev.br jv_i321 (pc' := 8) (st' := []) rfl (jv_bc_ge.trans (jx_gof (Int32.not_le.mpr g16))) ?_
  refine jv_Ev.steps jv_i321 7 (pc' := 5) (l' := [(1, .int (256 : Int32)), (0, .int p4)]) (st' := [.int p4, .int (256 : Int32)]) rfl ?_
  refine jv_Ev.br jv_i321 (pc' := 15) (st' := []) rfl (jv_bc_ge.trans (jx_got (Int32.not_lt.mp g17))) ?_
  refine jv_Ev.steps jv_i321 2 (pc' := 17) (l' := [(1, .int (256 : Int32)), (0, .int p4)]) (st' := [.int p4, .int (256 : Int32)]) rfl ?_
  refine jv_Ev.br jv_i321 (pc' := 24) (st' := []) rfl (jv_bc_ne.trans (jx_got (fun h => g8 h.symm))) ?_
  refine jv_Ev.steps jv_i321 1 (pc' := 25) (l' := [(1, .int (256 : Int32)), (0, .int p4)]) (st' := [.int (0 : Int32)]) rfl ?_
  exact jv_Ev.ret jv_i321 rfl (jv_ret_b (by decide))

set_option maxRecDepth 100000 in
/-- ProgramBoxModel$Store.isProper -/
theorem jx_e735 (p0 : Int32) (p1 : Int32) (p2 : Int32) (p3 : Int32) (p4 : Int32) (p5 : Int32) (g1 : p1 = (2 : Int32)) (g2 : p2 = (0 : Int32)) (g3 : p3 = (0 : Int32)) (g4 : ¬ p4 < (64 : Int32)) (g5 : ¬ (16384 : Int32) < p4) (g6 : ¬ p4 = (64 : Int32)) (g7 : ¬ p4 = (128 : Int32)) (g8 : ¬ p4 = (256 : Int32)) (g9 : ¬ p4 = (512 : Int32)) (g10 : ¬ p4 = (1024 : Int32)) (g11 : ¬ p4 = (2048 : Int32)) (g12 : ¬ p4 = (4096 : Int32)) (g13 : ¬ p4 = (8192 : Int32)) (g14 : ¬ p4 = (16384 : Int32)) (g15 : (64 : Int32) < p4) (g16 : (128 : Int32) < p4) (g17 : ¬ (256 : Int32) < p4) : jv_Ms 322 [.int p1, .int p2, .int p3, .int p4] (jv_H (jx_K 227) jx_If jx_L0 (jx_R 227)) 228 1572956 (some (.int (0 : Int32)), (jv_H (jx_K 227) jx_If jx_L0 (jx_R 227)), 228, 1572956) := by
  show jv_Ev 322 0 [(0, .int p1), (1, .int p2), (2, .int p3), (3, .int p4)] [] (jv_H (jx_K 227) jx_If jx_L0 (jx_R 227)) 228 1572956 _
  refine jv_Ev.steps jv_i322 2 (pc' := 2) (l' := [(0, .int p1), (1, .int p2), (2, .int p3), (3, .int p4)]) (st' := [.int (2 : Int32), .int p1]) rfl ?_
  refine jv_Ev.br jv_i322 (pc' := 5) (st' := []) rfl (jv_bc_ne.trans (jx_gof (by rw [g1] <;> decide))) ?_
  refine jv_Ev.steps jv_i322 1 (pc' := 6) (l' := [(0, .int p1), (1, .int p2), (2, .int p3), (3, .int p4)]) (st' := [.int p2]) rfl ?_
  refine jv_Ev.br jv_i322 (pc' := 9) (st' := []) rfl (jv_bi_ne.trans (jx_gof (by rw [g2] <;> decide))) ?_
  refine jv_Ev.steps jv_i322 1 (pc' := 10) (l' := [(0, .int p1), (1, .int p2), (2, .int p3), (3, .int p4)]) (st' := [.int p3]) rfl ?_
  refine jv_Ev.br jv_i322 (pc' := 13) (st' := []) rfl (jv_bi_ne.trans (jx_gof (by rw [g3] <;> decide))) ?_
  refine jv_Ev.steps jv_i322 3 (pc' := 19) (l' := [(0, .int p1), (1, .int p2), (2, .int p3), (3, .int p4)]) (st' := [.int (16384 : Int32), .int (64 : Int32), .int p4]) rfl ?_
  refine jv_Ev.c jv_i322 (pc' := 22) (S' := [.int (1 : Int32)]) jv_i320 [.int p4, .int (64 : Int32), .int (16384 : Int32)] rfl rfl rfl rfl rfl rfl (jx_e733 p0 p1 p2 p3 p4 p5 g1 g2 g3 g4 g5 g6 g7 g8 g9 g10 g11 g12 g13 g14 g15 g16 g17) rfl rfl ?_
  refine jv_Ev.br jv_i322 (pc' := 25) (st' := []) rfl (jv_bi_eq.trans (jx_gof (by decide))) ?_
  refine jv_Ev.steps jv_i322 1 (pc' := 26) (l' := [(0, .int p1), (1, .int p2), (2, .int p3), (3, .int p4)]) (st' := [.int p4]) rfl ?_
  refine jv_Ev.c jv_i322 (pc' := 29) (S' := [.int (0 : Int32)]) jv_i321 [.int p4] rfl rfl rfl rfl rfl rfl (jx_e734 p0 p1 p2 p3 p4 p5 g1 g2 g3 g4 g5 g6 g7 g8 g9 g10 g11 g12 g13 g14 g15 g16 g17) rfl rfl ?_
  refine jv_Ev.br jv_i322 (pc' := 36) (st' := []) rfl (jv_bi_eq.trans (jx_got (by decide))) ?_
  refine jv_Ev.steps jv_i322 1 (pc' := 37) (l' := [(0, .int p1), (1, .int p2), (2, .int p3), (3, .int p4)]) (st' := [.int (0 : Int32)]) rfl ?_
  exact jv_Ev.ret jv_i322 rfl (jv_ret_b (by decide))

set_option maxRecDepth 100000 in
/-- ProgramBoxModel$Store.make -/
theorem jx_e736 (p0 : Int32) (p1 : Int32) (p2 : Int32) (p3 : Int32) (p4 : Int32) (p5 : Int32) (g1 : p1 = (2 : Int32)) (g2 : p2 = (0 : Int32)) (g3 : p3 = (0 : Int32)) (g4 : ¬ p4 < (64 : Int32)) (g5 : ¬ (16384 : Int32) < p4) (g6 : ¬ p4 = (64 : Int32)) (g7 : ¬ p4 = (128 : Int32)) (g8 : ¬ p4 = (256 : Int32)) (g9 : ¬ p4 = (512 : Int32)) (g10 : ¬ p4 = (1024 : Int32)) (g11 : ¬ p4 = (2048 : Int32)) (g12 : ¬ p4 = (4096 : Int32)) (g13 : ¬ p4 = (8192 : Int32)) (g14 : ¬ p4 = (16384 : Int32)) (g15 : (64 : Int32) < p4) (g16 : (128 : Int32) < p4) (g17 : ¬ (256 : Int32) < p4) : jv_Ms 323 [.ref 180, .int p1, .int p2, .int p3, .int p4] (jv_H (jx_K 227) jx_If jx_L0 (jx_R 227)) 228 1572956 (some (.int (0 : Int32)), (jv_H (jx_K 227) (jv_u jx_If 180 0 (1 : Int32)) jx_L0 (jx_R 227)), 228, 1572956) := by
  show jv_Ev 323 0 [(0, .ref 180), (1, .int p1), (2, .int p2), (3, .int p3), (4, .int p4)] [] (jv_H (jx_K 227) jx_If jx_L0 (jx_R 227)) 228 1572956 _
  refine jv_Ev.steps jv_i323 5 (pc' := 6) (l' := [(0, .ref 180), (1, .int p1), (2, .int p2), (3, .int p3), (4, .int p4)]) (st' := [.int p4, .int p3, .int p2, .int p1, .ref 180]) rfl ?_
  refine jv_Ev.c jv_i323 (pc' := 9) (S' := [.int (0 : Int32), .ref 180]) jv_i322 [.int p1, .int p2, .int p3, .int p4] rfl rfl rfl rfl rfl rfl (jx_e735 p0 p1 p2 p3 p4 p5 g1 g2 g3 g4 g5 g6 g7 g8 g9 g10 g11 g12 g13 g14 g15 g16 g17) rfl rfl ?_
  refine jv_Ev.br jv_i323 (pc' := 16) (st' := [.ref 180]) rfl (jv_bi_eq.trans (jx_got (by decide))) ?_
  refine jv_Ev.steps jv_i323 1 (pc' := 17) (l' := [(0, .ref 180), (1, .int p1), (2, .int p2), (3, .int p3), (4, .int p4)]) (st' := [.int (1 : Int32), .ref 180]) rfl ?_
  refine jv_Ev.m jv_i323 (pc' := 20) (st' := []) rfl rfl (jv_m_putI rfl rfl rfl rfl rfl) ?_
  refine jv_Ev.steps jv_i323 1 (pc' := 21) (l' := [(0, .ref 180), (1, .int p1), (2, .int p2), (3, .int p3), (4, .int p4)]) (st' := [.ref 180]) rfl ?_
  refine jv_Ev.m jv_i323 (pc' := 24) (st' := [.int (1 : Int32)]) rfl rfl (jv_m_getI rfl rfl rfl rfl) ?_
  refine jv_Ev.br jv_i323 (pc' := 27) (st' := []) rfl (jv_bi_le.trans (jx_gof (by decide))) ?_
  refine jv_Ev.steps jv_i323 1 (pc' := 28) (l' := [(0, .ref 180), (1, .int p1), (2, .int p2), (3, .int p3), (4, .int p4)]) (st' := [.int (0 : Int32)]) rfl ?_
  exact jv_Ev.ret jv_i323 rfl rfl

set_option maxRecDepth 100000 in
/-- ProgramBoxModel$Store.thrown -/
theorem jx_e737 (p0 : Int32) (p1 : Int32) (p2 : Int32) (p3 : Int32) (p4 : Int32) (p5 : Int32) (g1 : p1 = (2 : Int32)) (g2 : p2 = (0 : Int32)) (g3 : p3 = (0 : Int32)) (g4 : ¬ p4 < (64 : Int32)) (g5 : ¬ (16384 : Int32) < p4) (g6 : ¬ p4 = (64 : Int32)) (g7 : ¬ p4 = (128 : Int32)) (g8 : ¬ p4 = (256 : Int32)) (g9 : ¬ p4 = (512 : Int32)) (g10 : ¬ p4 = (1024 : Int32)) (g11 : ¬ p4 = (2048 : Int32)) (g12 : ¬ p4 = (4096 : Int32)) (g13 : ¬ p4 = (8192 : Int32)) (g14 : ¬ p4 = (16384 : Int32)) (g15 : (64 : Int32) < p4) (g16 : (128 : Int32) < p4) (g17 : ¬ (256 : Int32) < p4) : jv_Ms 318 [.ref 180] (jv_H (jx_K 227) (jv_u jx_If 180 0 (1 : Int32)) jx_L0 (jx_R 227)) 228 1572956 (some (.int (1 : Int32)), (jv_H (jx_K 227) (jv_u jx_If 180 0 (1 : Int32)) jx_L0 (jx_R 227)), 228, 1572956) := by
  show jv_Ev 318 0 [(0, .ref 180)] [] (jv_H (jx_K 227) (jv_u jx_If 180 0 (1 : Int32)) jx_L0 (jx_R 227)) 228 1572956 _
  refine jv_Ev.steps jv_i318 1 (pc' := 1) (l' := [(0, .ref 180)]) (st' := [.ref 180]) rfl ?_
  refine jv_Ev.m jv_i318 (pc' := 4) (st' := [.int (1 : Int32)]) rfl rfl (jv_m_getI rfl rfl rfl rfl) ?_
  exact jv_Ev.ret jv_i318 rfl rfl

set_option maxRecDepth 100000 in
/-- ProgramBoxModel.make -/
theorem jx_e738 (p0 : Int32) (p1 : Int32) (p2 : Int32) (p3 : Int32) (p4 : Int32) (p5 : Int32) (g1 : p1 = (2 : Int32)) (g2 : p2 = (0 : Int32)) (g3 : p3 = (0 : Int32)) (g4 : ¬ p4 < (64 : Int32)) (g5 : ¬ (16384 : Int32) < p4) (g6 : ¬ p4 = (64 : Int32)) (g7 : ¬ p4 = (128 : Int32)) (g8 : ¬ p4 = (256 : Int32)) (g9 : ¬ p4 = (512 : Int32)) (g10 : ¬ p4 = (1024 : Int32)) (g11 : ¬ p4 = (2048 : Int32)) (g12 : ¬ p4 = (4096 : Int32)) (g13 : ¬ p4 = (8192 : Int32)) (g14 : ¬ p4 = (16384 : Int32)) (g15 : (64 : Int32) < p4) (g16 : (128 : Int32) < p4) (g17 : ¬ (256 : Int32) < p4) : jv_Ms 353 [.ref 178, .int p1, .int p2, .int p3, .int p4] (jv_H (jx_K 227) jx_If jx_L0 (jx_R 227)) 228 1572956 (some (.int (0 : Int32)), (jv_H (jx_K 227) (jv_u (jv_u jx_If 180 0 (1 : Int32)) 178 0 (1 : Int32)) jx_L0 (jx_R 227)), 228, 1572956) := by
  show jv_Ev 353 0 [(0, .ref 178), (1, .int p1), (2, .int p2), (3, .int p3), (4, .int p4)] [] (jv_H (jx_K 227) jx_If jx_L0 (jx_R 227)) 228 1572956 _
  refine jv_Ev.steps jv_i353 1 (pc' := 1) (l' := [(0, .ref 178), (1, .int p1), (2, .int p2), (3, .int p3), (4, .int p4)]) (st' := [.ref 178]) rfl ?_
  refine jv_Ev.m jv_i353 (pc' := 4) (st' := [.ref 180]) rfl rfl (jv_m_getR rfl rfl rfl rfl) ?_
  refine jv_Ev.steps jv_i353 4 (pc' := 9) (l' := [(0, .ref 178), (1, .int p1), (2, .int p2), (3, .int p3), (4, .int p4)]) (st' := [.int p4, .int p3, .int p2, .int p1, .ref 180]) rfl ?_
  refine jv_Ev.c jv_i353 (pc' := 12) (S' := [.int (0 : Int32)]) jv_i323 [.ref 180, .int p1, .int p2, .int p3, .int p4] rfl rfl rfl rfl (jv_cal rfl (jv_H_at rfl) rfl rfl) rfl (jx_e736 p0 p1 p2 p3 p4 p5 g1 g2 g3 g4 g5 g6 g7 g8 g9 g10 g11 g12 g13 g14 g15 g16 g17) rfl rfl ?_
  refine jv_Ev.steps jv_i353 3 (pc' := 16) (l' := [(5, .int (0 : Int32)), (0, .ref 178), (1, .int p1), (2, .int p2), (3, .int p3), (4, .int p4)]) (st' := [.ref 178, .ref 178]) rfl ?_
  refine jv_Ev.m jv_i353 (pc' := 19) (st' := [.ref 180, .ref 178]) rfl rfl (jv_m_getR rfl rfl rfl rfl) ?_
  refine jv_Ev.c jv_i353 (pc' := 22) (S' := [.int (1 : Int32), .ref 178]) jv_i318 [.ref 180] rfl rfl rfl rfl (jv_cal rfl (jv_H_at rfl) rfl rfl) rfl (jx_e737 p0 p1 p2 p3 p4 p5 g1 g2 g3 g4 g5 g6 g7 g8 g9 g10 g11 g12 g13 g14 g15 g16 g17) rfl rfl ?_
  refine jv_Ev.m jv_i353 (pc' := 25) (st' := []) rfl rfl (jv_m_putI rfl rfl rfl rfl rfl) ?_
  refine jv_Ev.steps jv_i353 1 (pc' := 26) (l' := [(5, .int (0 : Int32)), (0, .ref 178), (1, .int p1), (2, .int p2), (3, .int p3), (4, .int p4)]) (st' := [.ref 178]) rfl ?_
  refine jv_Ev.m jv_i353 (pc' := 29) (st' := [.int (1 : Int32)]) rfl rfl (jv_m_getI rfl rfl rfl rfl) ?_
  refine jv_Ev.br jv_i353 (pc' := 67) (st' := []) rfl (jv_bi_ne.trans (jx_got (by decide))) ?_
  refine jv_Ev.steps jv_i353 1 (pc' := 69) (l' := [(5, .int (0 : Int32)), (0, .ref 178), (1, .int p1), (2, .int p2), (3, .int p3), (4, .int p4)]) (st' := [.int (0 : Int32)]) rfl ?_
  exact jv_Ev.ret jv_i353 rfl rfl

set_option maxRecDepth 100000 in
/-- ProgramBoxModel.thrown -/
theorem jx_e739 (p0 : Int32) (p1 : Int32) (p2 : Int32) (p3 : Int32) (p4 : Int32) (p5 : Int32) (g1 : p1 = (2 : Int32)) (g2 : p2 = (0 : Int32)) (g3 : p3 = (0 : Int32)) (g4 : ¬ p4 < (64 : Int32)) (g5 : ¬ (16384 : Int32) < p4) (g6 : ¬ p4 = (64 : Int32)) (g7 : ¬ p4 = (128 : Int32)) (g8 : ¬ p4 = (256 : Int32)) (g9 : ¬ p4 = (512 : Int32)) (g10 : ¬ p4 = (1024 : Int32)) (g11 : ¬ p4 = (2048 : Int32)) (g12 : ¬ p4 = (4096 : Int32)) (g13 : ¬ p4 = (8192 : Int32)) (g14 : ¬ p4 = (16384 : Int32)) (g15 : (64 : Int32) < p4) (g16 : (128 : Int32) < p4) (g17 : ¬ (256 : Int32) < p4) : jv_Ms 350 [.ref 178] (jv_H (jx_K 227) (jv_u (jv_u jx_If 180 0 (1 : Int32)) 178 0 (1 : Int32)) jx_L0 (jx_R 227)) 228 1572956 (some (.int (1 : Int32)), (jv_H (jx_K 227) (jv_u (jv_u jx_If 180 0 (1 : Int32)) 178 0 (1 : Int32)) jx_L0 (jx_R 227)), 228, 1572956) := by
  show jv_Ev 350 0 [(0, .ref 178)] [] (jv_H (jx_K 227) (jv_u (jv_u jx_If 180 0 (1 : Int32)) 178 0 (1 : Int32)) jx_L0 (jx_R 227)) 228 1572956 _
  refine jv_Ev.steps jv_i350 1 (pc' := 1) (l' := [(0, .ref 178)]) (st' := [.ref 178]) rfl ?_
  refine jv_Ev.m jv_i350 (pc' := 4) (st' := [.int (1 : Int32)]) rfl rfl (jv_m_getI rfl rfl rfl rfl) ?_
  exact jv_Ev.ret jv_i350 rfl rfl

set_option maxRecDepth 100000 in
/-- the law: case 2, one way -/
theorem jx_l85 (p0 : Int32) (p1 : Int32) (p2 : Int32) (p3 : Int32) (p4 : Int32) (p5 : Int32) (g1 : p1 = (2 : Int32)) (g2 : p2 = (0 : Int32)) (g3 : p3 = (0 : Int32)) (g4 : ¬ p4 < (64 : Int32)) (g5 : ¬ (16384 : Int32) < p4) (g6 : ¬ p4 = (64 : Int32)) (g7 : ¬ p4 = (128 : Int32)) (g8 : ¬ p4 = (256 : Int32)) (g9 : ¬ p4 = (512 : Int32)) (g10 : ¬ p4 = (1024 : Int32)) (g11 : ¬ p4 = (2048 : Int32)) (g12 : ¬ p4 = (4096 : Int32)) (g13 : ¬ p4 = (8192 : Int32)) (g14 : ¬ p4 = (16384 : Int32)) (g15 : (64 : Int32) < p4) (g16 : (128 : Int32) < p4) (g17 : ¬ (256 : Int32) < p4) (hsw : p0 &&& (31 : Int32) = (2 : Int32)) {p : Program} {l : Launch} {e : Env} {R : Room} {s : State} {m : MethodId} {args : Array Value} {below : List Frame} {meth : Method} {c : Code} {E : jv_Env} {Q : State → Prop} (hTb : jv_TOk jv_Tb) (hT2 : jx_T2Ok) (hl : l.stackTraces = false) (F : jx_F jv_T2 439 E p R s m args meth c) (hZ : jx_Z E s) (hRc : R.cells = 600002) (hRs : R.slots = 7302232) {bb : Nat} {xs : Nat → Int32} (hX : va_X bb 6 xs s E.2.2.2.2) (hbB : bb < E.2.2.2.1) (hE2 : E.1 1000002 = bb) (hQ : ∀ (l0 : jv_L) (G : jv_G) (n sl : Nat), n ≤ 600002 → sl ≤ 7302232 → jw p l e R s m args below meth c E 8 0 0 Q 1532 l0 [.int (1 : Int32)] G n sl) (q0 : xs 0 = p0) (q1 : xs 1 = p1) (q2 : xs 2 = p2) (q3 : xs 3 = p3) (q4 : xs 4 = p4) (q5 : xs 5 = p5) : jw p l e R s m args below meth c E 8 0 0 Q 33 [(0, .ref 1000002), (1, .ref 0), (2, .ref 178), (3, .ref 226), (4, .int (0 : Int32))] [] (jv_H (jx_K 227) jx_If jx_L0 (jx_R 227)) 227 1572950 := by
  refine jw.steps F jx_i439 2 (pc' := 36) (l' := [(0, .ref 1000002), (1, .ref 0), (2, .ref 178), (3, .ref 226), (4, .int (0 : Int32))]) (st' := [.int (0 : Int32), .ref 1000002]) rfl ?_
  refine jw.sld F jx_i439 hX hbB hE2 (pc' := 37) rfl rfl (show vp_in (nI 0) 6 from vp_in_nI (by decide) (by decide)) q0 rfl ?_
  refine jw.steps F jx_i439 2 (pc' := 40) (l' := [(0, .ref 1000002), (1, .ref 0), (2, .ref 178), (3, .ref 226), (4, .int (0 : Int32))]) (st' := [.int (p0 &&& (31 : Int32))]) rfl ?_
  refine jw.br F jx_i439 (pc' := 304) (st' := []) rfl (by rw [hsw]; rfl) ?_
  refine jw.steps F jx_i439 5 (pc' := 310) (l' := [(0, .ref 1000002), (1, .ref 0), (2, .ref 178), (3, .ref 226), (4, .int (0 : Int32))]) (st' := [.int (1 : Int32), .ref 1000002, .ref 0]) rfl ?_
  refine jw.sld F jx_i439 hX hbB hE2 (pc' := 311) rfl rfl (show vp_in (nI 1) 6 from vp_in_nI (by decide) (by decide)) q1 rfl ?_
  refine jw.steps F jx_i439 4 (pc' := 316) (l' := [(0, .ref 1000002), (1, .ref 0), (2, .ref 178), (3, .ref 226), (4, .int (0 : Int32))]) (st' := [.int (2 : Int32), .ref 1000002, .int p1, .ref 0]) rfl ?_
  refine jw.sld F jx_i439 hX hbB hE2 (pc' := 317) rfl rfl (show vp_in (nI 2) 6 from vp_in_nI (by decide) (by decide)) q2 rfl ?_
  refine jw.steps F jx_i439 4 (pc' := 322) (l' := [(0, .ref 1000002), (1, .ref 0), (2, .ref 178), (3, .ref 226), (4, .int (0 : Int32))]) (st' := [.int (3 : Int32), .ref 1000002, .int p2, .int p1, .ref 0]) rfl ?_
  refine jw.sld F jx_i439 hX hbB hE2 (pc' := 323) rfl rfl (show vp_in (nI 3) 6 from vp_in_nI (by decide) (by decide)) q3 rfl ?_
  refine jw.steps F jx_i439 4 (pc' := 328) (l' := [(0, .ref 1000002), (1, .ref 0), (2, .ref 178), (3, .ref 226), (4, .int (0 : Int32))]) (st' := [.int (4 : Int32), .ref 1000002, .int p3, .int p2, .int p1, .ref 0]) rfl ?_
  refine jw.sld F jx_i439 hX hbB hE2 (pc' := 329) rfl rfl (show vp_in (nI 4) 6 from vp_in_nI (by decide) (by decide)) q4 rfl ?_
  refine jw.steps F jx_i439 1 (pc' := 330) (l' := [(0, .ref 1000002), (1, .ref 0), (2, .ref 178), (3, .ref 226), (4, .int (0 : Int32))]) (st' := [.ref 226, .int p4, .int p3, .int p2, .int p1, .ref 0]) rfl ?_
  refine jw.wr F hl hZ rfl jx_i439 jx_i442 [.ref 0, .int p1, .int p2, .int p3, .int p4, .ref 226] (pc' := 333) (S' := [.int (1 : Int32)]) rfl (List.mem_of_getElem? (i := 2) rfl) (List.mem_of_getElem? (i := 2) rfl) rfl rfl rfl (jx_w732 hTb hT2 p0 p1 p2 p3 p4 p5 g1 g2 g3 g4 g5 g6 g7 g8 g9 g10 g11 g12 g13 g14 g15 g16 g17) (by omega) (by omega) (by omega) (by omega) rfl rfl ?_
  refine jw.steps F jx_i439 6 (pc' := 341) (l' := [(5, .int (1 : Int32)), (0, .ref 1000002), (1, .ref 0), (2, .ref 178), (3, .ref 226), (4, .int (0 : Int32))]) (st' := [.int (1 : Int32), .ref 1000002, .ref 178]) rfl ?_
  refine jw.sld F jx_i439 hX hbB hE2 (pc' := 342) rfl rfl (show vp_in (nI 1) 6 from vp_in_nI (by decide) (by decide)) q1 rfl ?_
  refine jw.steps F jx_i439 4 (pc' := 347) (l' := [(5, .int (1 : Int32)), (0, .ref 1000002), (1, .ref 0), (2, .ref 178), (3, .ref 226), (4, .int (0 : Int32))]) (st' := [.int (2 : Int32), .ref 1000002, .int p1, .ref 178]) rfl ?_
  refine jw.sld F jx_i439 hX hbB hE2 (pc' := 348) rfl rfl (show vp_in (nI 2) 6 from vp_in_nI (by decide) (by decide)) q2 rfl ?_
  refine jw.steps F jx_i439 4 (pc' := 353) (l' := [(5, .int (1 : Int32)), (0, .ref 1000002), (1, .ref 0), (2, .ref 178), (3, .ref 226), (4, .int (0 : Int32))]) (st' := [.int (3 : Int32), .ref 1000002, .int p2, .int p1, .ref 178]) rfl ?_
  refine jw.sld F jx_i439 hX hbB hE2 (pc' := 354) rfl rfl (show vp_in (nI 3) 6 from vp_in_nI (by decide) (by decide)) q3 rfl ?_
  refine jw.steps F jx_i439 4 (pc' := 359) (l' := [(5, .int (1 : Int32)), (0, .ref 1000002), (1, .ref 0), (2, .ref 178), (3, .ref 226), (4, .int (0 : Int32))]) (st' := [.int (4 : Int32), .ref 1000002, .int p3, .int p2, .int p1, .ref 178]) rfl ?_
  refine jw.sld F jx_i439 hX hbB hE2 (pc' := 360) rfl rfl (show vp_in (nI 4) 6 from vp_in_nI (by decide) (by decide)) q4 rfl ?_
  refine jw.ca hTb F jx_i439 (pc' := 363) (S' := [.int (0 : Int32)]) rfl jv_i353 [.ref 178, .int p1, .int p2, .int p3, .int p4] rfl rfl rfl rfl (jx_cal2 rfl (jv_H_at rfl) rfl rfl) rfl (jx_e738 p0 p1 p2 p3 p4 p5 g1 g2 g3 g4 g5 g6 g7 g8 g9 g10 g11 g12 g13 g14 g15 g16 g17) (by omega) (by omega) rfl rfl ?_
  refine jw.steps F jx_i439 2 (pc' := 366) (l' := [(6, .int (0 : Int32)), (5, .int (1 : Int32)), (0, .ref 1000002), (1, .ref 0), (2, .ref 178), (3, .ref 226), (4, .int (0 : Int32))]) (st' := [.ref 178]) rfl ?_
  refine jw.ca hTb F jx_i439 (pc' := 369) (S' := [.int (1 : Int32)]) rfl jv_i350 [.ref 178] rfl rfl rfl rfl (jx_cal2 rfl (jv_H_at rfl) rfl rfl) rfl (jx_e739 p0 p1 p2 p3 p4 p5 g1 g2 g3 g4 g5 g6 g7 g8 g9 g10 g11 g12 g13 g14 g15 g16 g17) (by omega) (by omega) rfl rfl ?_
  refine jw.steps F jx_i439 1 (pc' := 371) (l' := [(6, .int (0 : Int32)), (5, .int (1 : Int32)), (0, .ref 1000002), (1, .ref 0), (2, .ref 178), (3, .ref 226), (4, .int (0 : Int32))]) (st' := [.int (1 : Int32), .int (1 : Int32)]) rfl ?_
  refine jw.br F jx_i439 (pc' := 376) (st' := []) rfl (jv_bc_eq.trans (jx_got (by decide))) ?_
  refine jw.steps F jx_i439 1 (pc' := 378) (l' := [(6, .int (0 : Int32)), (5, .int (1 : Int32)), (0, .ref 1000002), (1, .ref 0), (2, .ref 178), (3, .ref 226), (4, .int (0 : Int32))]) (st' := [.int (1 : Int32)]) rfl ?_
  refine jw.br F jx_i439 (pc' := 393) (st' := []) rfl (jv_bi_ne.trans (jx_got (by decide))) ?_
  refine jw.steps F jx_i439 5 (pc' := 26) (l' := [(4, .int (6 : Int32)), (6, .int (0 : Int32)), (5, .int (1 : Int32)), (0, .ref 1000002), (1, .ref 0), (2, .ref 178), (3, .ref 226)]) (st' := [.ref 1000002, .int (6 : Int32)]) rfl ?_
  refine jw.slen F jx_i439 hX hbB hE2 (pc' := 27) rfl rfl rfl ?_
  refine jw.steps F jx_i439 2 (pc' := 30) (l' := [(4, .int (6 : Int32)), (6, .int (0 : Int32)), (5, .int (1 : Int32)), (0, .ref 1000002), (1, .ref 0), (2, .ref 178), (3, .ref 226)]) (st' := [.int (0 : Int32), .int (6 : Int32)]) rfl ?_
  refine jw.br F jx_i439 (pc' := 1531) (st' := []) rfl (jv_bc_gt.trans (jx_got (by decide))) ?_
  refine jw.steps F jx_i439 1 (pc' := 1532) (l' := [(4, .int (6 : Int32)), (6, .int (0 : Int32)), (5, .int (1 : Int32)), (0, .ref 1000002), (1, .ref 0), (2, .ref 178), (3, .ref 226)]) (st' := [.int (1 : Int32)]) rfl ?_
  exact hQ _ _ _ _ (by omega) (by omega)

set_option maxRecDepth 100000 in
/-- ProgramBox$Store.isShape -/
theorem jx_e740 (p0 : Int32) (p1 : Int32) (p2 : Int32) (p3 : Int32) (p4 : Int32) (p5 : Int32) (g1 : p1 = (2 : Int32)) (g2 : p2 = (0 : Int32)) (g3 : p3 = (0 : Int32)) (g4 : ¬ p4 < (64 : Int32)) (g5 : ¬ (16384 : Int32) < p4) (g6 : ¬ p4 = (64 : Int32)) (g7 : ¬ p4 = (128 : Int32)) (g8 : ¬ p4 = (256 : Int32)) (g9 : ¬ p4 = (512 : Int32)) (g10 : ¬ p4 = (1024 : Int32)) (g11 : ¬ p4 = (2048 : Int32)) (g12 : ¬ p4 = (4096 : Int32)) (g13 : ¬ p4 = (8192 : Int32)) (g14 : ¬ p4 = (16384 : Int32)) (g15 : (64 : Int32) < p4) (g16 : ¬ (128 : Int32) < p4) : jv_Ms 123 [.int p1, .int p2, .int p3, .int p4] (jv_H (jx_K 227) jx_If jx_L0 (jx_R 227)) 227 1572950 (some (.int (0 : Int32)), (jv_H (jx_K 227) jx_If jx_L0 (jx_R 227)), 227, 1572950) := by
  show jv_Ev 123 0 [(0, .int p1), (1, .int p2), (2, .int p3), (3, .int p4)] [] (jv_H (jx_K 227) jx_If jx_L0 (jx_R 227)) 227 1572950 _
  refine jv_Ev.steps jv_i123 2 (pc' := 2) (l' := [(0, .int p1), (1, .int p2), (2, .int p3), (3, .int p4)]) (st' := [.int (2 : Int32), .int p1]) rfl ?_
  refine jv_Ev.br jv_i123 (pc' := 5) (st' := []) rfl (jv_bc_ne.trans (jx_gof (by rw [g1] <;> decide))) ?_
  refine jv_Ev.steps jv_i123 1 (pc' := 6) (l' := [(0, .int p1), (1, .int p2), (2, .int p3), (3, .int p4)]) (st' := [.int p2]) rfl ?_
  refine jv_Ev.br jv_i123 (pc' := 9) (st' := []) rfl (jv_bi_ne.trans (jx_gof (by rw [g2] <;> decide))) ?_
  refine jv_Ev.steps jv_i123 1 (pc' := 10) (l' := [(0, .int p1), (1, .int p2), (2, .int p3), (3, .int p4)]) (st' := [.int p3]) rfl ?_
  refine jv_Ev.br jv_i123 (pc' := 13) (st' := []) rfl (jv_bi_ne.trans (jx_gof (by rw [g3] <;> decide))) ?_
  refine jv_Ev.steps jv_i123 2 (pc' := 16) (l' := [(0, .int p1), (1, .int p2), (2, .int p3), (3, .int p4)]) (st' := [.int (64 : Int32), .int p4]) rfl ?_
  refine jv_Ev.br jv_i123 (pc' := 19) (st' := []) rfl (jv_bc_lt.trans (jx_gof g4)) ?_
  refine jv_Ev.steps jv_i123 2 (pc' := 23) (l' := [(0, .int p1), (1, .int p2), (2, .int p3), (3, .int p4)]) (st' := [.int (16384 : Int32), .int p4]) rfl ?_
  refine jv_Ev.br jv_i123 (pc' := 26) (st' := []) rfl (jv_bc_gt.trans (jx_gof g5)) ?_
  refine jv_Ev.steps jv_i123 1 (pc' := 27) (l' := [(0, .int p1), (1, .int p2), (2, .int p3), (3, .int p4)]) (st' := [.int p4]) rfl ?_
  refine jv_Ev.c jv_i123 (pc' := 30) (S' := [.int (jx_bc p4)]) jv_i0 [.int p4] rfl rfl rfl rfl rfl rfl (jx_bc_run p4 _ _ _) rfl rfl ?_
  refine jv_Ev.steps jv_i123 1 (pc' := 31) (l' := [(0, .int p1), (1, .int p2), (2, .int p3), (3, .int p4)]) (st' := [.int (1 : Int32), .int (jx_bc p4)]) rfl ?_
  refine jv_Ev.br jv_i123 (pc' := 38) (st' := []) rfl (jv_bc_ne.trans (jx_got (jx_bc_no p4 g4 g5 g6 g7 g8 g9 g10 g11 g12 g13 g14))) ?_
  refine jv_Ev.steps jv_i123 1 (pc' := 39) (l' := [(0, .int p1), (1, .int p2), (2, .int p3), (3, .int p4)]) (st' := [.int (0 : Int32)]) rfl ?_
  exact jv_Ev.ret jv_i123 rfl (jv_ret_b (by decide))

set_option maxRecDepth 100000 in
/-- ProgramBox.make: it throws -/
theorem jx_e741 (hTb : jv_TOk jv_Tb) (p0 : Int32) (p1 : Int32) (p2 : Int32) (p3 : Int32) (p4 : Int32) (p5 : Int32) (g1 : p1 = (2 : Int32)) (g2 : p2 = (0 : Int32)) (g3 : p3 = (0 : Int32)) (g4 : ¬ p4 < (64 : Int32)) (g5 : ¬ (16384 : Int32) < p4) (g6 : ¬ p4 = (64 : Int32)) (g7 : ¬ p4 = (128 : Int32)) (g8 : ¬ p4 = (256 : Int32)) (g9 : ¬ p4 = (512 : Int32)) (g10 : ¬ p4 = (1024 : Int32)) (g11 : ¬ p4 = (2048 : Int32)) (g12 : ¬ p4 = (4096 : Int32)) (g13 : ¬ p4 = (8192 : Int32)) (g14 : ¬ p4 = (16384 : Int32)) (g15 : (64 : Int32) < p4) (g16 : ¬ (128 : Int32) < p4) : jx_Th 420 [.ref 0, .int p1, .int p2, .int p3, .int p4] (jv_H (jx_K 227) jx_If jx_L0 (jx_R 227)) 227 1572950 1 (jv_H (jx_K 227) jx_If jx_L0 (jx_R 227)) 228 1572956 := by
  refine jx_Th.of hTb (y := 420) rfl (Nat.le_of_ble_eq_true rfl) ?_
  intro p l e R s m args below meth c E hl F hZ h0 ht hRc hRs
  show jw p l e R s m args below meth c E 5 227 1572950 _ 0 [(0, .ref 0), (1, .int p1), (2, .int p2), (3, .int p3), (4, .int p4)] [] (jv_H (jx_K 227) jx_If jx_L0 (jx_R 227)) 227 1572950
  refine jw.steps F jv_i420 4 (pc' := 5) (l' := [(0, .ref 0), (1, .int p1), (2, .int p2), (3, .int p3), (4, .int p4)]) (st' := [.int p4, .int p3, .int p2, .int p1]) rfl ?_
  refine jw.ca hTb F jv_i420 (pc' := 8) (S' := [.int (0 : Int32)]) rfl jv_i123 [.int p1, .int p2, .int p3, .int p4] rfl rfl rfl rfl rfl rfl (jx_e740 p0 p1 p2 p3 p4 p5 g1 g2 g3 g4 g5 g6 g7 g8 g9 g10 g11 g12 g13 g14 g15 g16) (by omega) (by omega) rfl rfl ?_
  refine jw.br F jv_i420 (pc' := 11) (st' := []) rfl (jv_bi_ne.trans (jx_gof (by decide))) ?_
  exact jw.throw hl F hZ h0 rfl jv_i420 ht 1 69 "no map is like this" (List.mem_of_getElem? (i := 2) rfl) (by decide +kernel) (by decide +kernel) (by decide +kernel) (by decide +kernel) (by decide +kernel) rfl (by decide) (by decide) (by decide) (by omega) (by omega)

set_option maxRecDepth 100000 in
/-- the law's make -/
theorem jx_w742 (hTb : jv_TOk jv_Tb) (hT2 : jx_T2Ok) (p0 : Int32) (p1 : Int32) (p2 : Int32) (p3 : Int32) (p4 : Int32) (p5 : Int32) (g1 : p1 = (2 : Int32)) (g2 : p2 = (0 : Int32)) (g3 : p3 = (0 : Int32)) (g4 : ¬ p4 < (64 : Int32)) (g5 : ¬ (16384 : Int32) < p4) (g6 : ¬ p4 = (64 : Int32)) (g7 : ¬ p4 = (128 : Int32)) (g8 : ¬ p4 = (256 : Int32)) (g9 : ¬ p4 = (512 : Int32)) (g10 : ¬ p4 = (1024 : Int32)) (g11 : ¬ p4 = (2048 : Int32)) (g12 : ¬ p4 = (4096 : Int32)) (g13 : ¬ p4 = (8192 : Int32)) (g14 : ¬ p4 = (16384 : Int32)) (g15 : (64 : Int32) < p4) (g16 : ¬ (128 : Int32) < p4) : jx_Wr 442 [(0, 14, 17, 19), (0, 14, 21, 13)] [.ref 0, .int p1, .int p2, .int p3, .int p4, .ref 226] (jv_H (jx_K 227) jx_If jx_L0 (jx_R 227)) 227 1572950 (some (.int (1 : Int32)), (jv_H (jx_K 227) jx_If jx_L0 (jx_R 227)), 228, 1572956) := by
  refine jx_Wr.of hT2 (by decide) rfl (Nat.le_of_ble_eq_true rfl) ?_
  intro p l e R s m args below meth c E hl F hZ htb hRc hRs
  show jw p l e R s m args below meth c E 7 227 1572950 _ 0 [(0, .ref 0), (1, .int p1), (2, .int p2), (3, .int p3), (4, .int p4), (5, .ref 226)] [] (jv_H (jx_K 227) jx_If jx_L0 (jx_R 227)) 227 1572950
  have hRc : R.cells = 228 - 227 := hRc
  have hRs : R.slots = 1572956 - 1572950 := hRs
  refine jw.steps F jx_i442 7 (pc' := 9) (l' := [(0, .ref 0), (1, .int p1), (2, .int p2), (3, .int p3), (4, .int p4), (5, .ref 226)]) (st' := [.int p4, .int p3, .int p2, .int p1, .ref 0, .int (0 : Int32), .ref 226]) rfl ?_
  refine jw.cat hTb hl F hZ rfl jx_i442 htb rfl jv_i420 [.ref 0, .int p1, .int p2, .int p3, .int p4] rfl rfl rfl rfl rfl (jx_cal2 rfl (jv_H_at rfl) rfl rfl) rfl (jx_e741 hTb p0 p1 p2 p3 p4 p5 g1 g2 g3 g4 g5 g6 g7 g8 g9 g10 g11 g12 g13 g14 g15 g16) (by omega) (by omega) (by omega) (by omega) [] (0, 14, 17, 19) [(0, 14, 21, 13)] rfl (fun z h => absurd h List.not_mem_nil) (by decide) rfl rfl (Or.inl ⟨rfl, rfl⟩) (by decide) ?_
  refine jw.steps F jx_i442 1 (pc' := 20) (l' := []) (st' := [.int (1 : Int32)]) rfl ?_
  exact jw.ret F jx_i442 rfl rfl

set_option maxRecDepth 100000 in
/-- ProgramBoxModel$Store.isIn -/
theorem jx_e743 (p0 : Int32) (p1 : Int32) (p2 : Int32) (p3 : Int32) (p4 : Int32) (p5 : Int32) (g1 : p1 = (2 : Int32)) (g2 : p2 = (0 : Int32)) (g3 : p3 = (0 : Int32)) (g4 : ¬ p4 < (64 : Int32)) (g5 : ¬ (16384 : Int32) < p4) (g6 : ¬ p4 = (64 : Int32)) (g7 : ¬ p4 = (128 : Int32)) (g8 : ¬ p4 = (256 : Int32)) (g9 : ¬ p4 = (512 : Int32)) (g10 : ¬ p4 = (1024 : Int32)) (g11 : ¬ p4 = (2048 : Int32)) (g12 : ¬ p4 = (4096 : Int32)) (g13 : ¬ p4 = (8192 : Int32)) (g14 : ¬ p4 = (16384 : Int32)) (g15 : (64 : Int32) < p4) (g16 : ¬ (128 : Int32) < p4) : jv_Ms 320 [.int p4, .int (64 : Int32), .int (16384 : Int32)] (jv_H (jx_K 227) jx_If jx_L0 (jx_R 227)) 228 1572956 (some (.int (1 : Int32)), (jv_H (jx_K 227) jx_If jx_L0 (jx_R 227)), 228, 1572956) := by
  show jv_Ev 320 0 [(0, .int p4), (1, .int (64 : Int32)), (2, .int (16384 : Int32))] [] (jv_H (jx_K 227) jx_If jx_L0 (jx_R 227)) 228 1572956 _
  refine jv_Ev.steps jv_i320 2 (pc' := 2) (l' := [(0, .int p4), (1, .int (64 : Int32)), (2, .int (16384 : Int32))]) (st' := [.int (64 : Int32), .int p4]) rfl ?_
  refine jv_Ev.br jv_i320 (pc' := 5) (st' := []) rfl (jv_bc_lt.trans (jx_gof g4)) ?_
  refine jv_Ev.steps jv_i320 2 (pc' := 7) (l' := [(0, .int p4), (1, .int (64 : Int32)), (2, .int (16384 : Int32))]) (st' := [.int (16384 : Int32), .int p4]) rfl ?_
  refine jv_Ev.br jv_i320 (pc' := 10) (st' := []) rfl (jv_bc_gt.trans (jx_gof g5)) ?_
  refine jv_Ev.steps jv_i320 2 (pc' := 15) (l' := [(0, .int p4), (1, .int (64 : Int32)), (2, .int (16384 : Int32))]) (st' := [.int (1 : Int32)]) rfl ?_
  exact jv_Ev.ret jv_i320 rfl (jv_ret_b (by decide))

set_option maxRecDepth 100000 in
/-- ProgramBoxModel$Store.isPower -/
theorem jx_e744 (p0 : Int32) (p1 : Int32) (p2 : Int32) (p3 : Int32) (p4 : Int32) (p5 : Int32) (g1 : p1 = (2 : Int32)) (g2 : p2 = (0 : Int32)) (g3 : p3 = (0 : Int32)) (g4 : ¬ p4 < (64 : Int32)) (g5 : ¬ (16384 : Int32) < p4) (g6 : ¬ p4 = (64 : Int32)) (g7 : ¬ p4 = (128 : Int32)) (g8 : ¬ p4 = (256 : Int32)) (g9 : ¬ p4 = (512 : Int32)) (g10 : ¬ p4 = (1024 : Int32)) (g11 : ¬ p4 = (2048 : Int32)) (g12 : ¬ p4 = (4096 : Int32)) (g13 : ¬ p4 = (8192 : Int32)) (g14 : ¬ p4 = (16384 : Int32)) (g15 : (64 : Int32) < p4) (g16 : ¬ (128 : Int32) < p4) : jv_Ms 321 [.int p4] (jv_H (jx_K 227) jx_If jx_L0 (jx_R 227)) 228 1572956 (some (.int (0 : Int32)), (jv_H (jx_K 227) jx_If jx_L0 (jx_R 227)), 228, 1572956) := by
  show jv_Ev 321 0 [(0, .int p4)] [] (jv_H (jx_K 227) jx_If jx_L0 (jx_R 227)) 228 1572956 _
  refine jv_Ev.steps jv_i321 4 (pc' := 5) (l' := [(1, .int (64 : Int32)), (0, .int p4)]) (st' := [.int p4, .int (64 : Int32)]) rfl ?_
  refine jv_Ev.br jv_i321 (pc' := 8) (st' := []) rfl (jv_bc_ge.trans (jx_gof (Int32.not_le.mpr g15))) ?_
  refine jv_Ev.steps jv_i321 7 (pc' := 5) (l' := [(1, .int (128 : Int32)), (0, .int p4)]) (st' := [.int p4, .int (128 : Int32)]) rfl ?_
  refine jv_Ev.br jv_i321 (pc' := 15) (st' := []) rfl (jv_bc_ge.trans (jx_got (Int32.not_lt.mp g16))) ?_
  refine jv_Ev.steps jv_i321 2 (pc' := 17) (l' := [(1, .int (128 : Int32)), (0, .int p4)]) (st' := [.int p4, .int (128 : Int32)]) rfl ?_
  refine jv_Ev.br jv_i321 (pc' := 24) (st' := []) rfl (jv_bc_ne.trans (jx_got (fun h => g7 h.symm))) ?_
  refine jv_Ev.steps jv_i321 1 (pc' := 25) (l' := [(1, .int (128 : Int32)), (0, .int p4)]) (st' := [.int (0 : Int32)]) rfl ?_
  exact jv_Ev.ret jv_i321 rfl (jv_ret_b (by decide))

set_option maxRecDepth 100000 in
/-- ProgramBoxModel$Store.isProper -/
theorem jx_e745 (p0 : Int32) (p1 : Int32) (p2 : Int32) (p3 : Int32) (p4 : Int32) (p5 : Int32) (g1 : p1 = (2 : Int32)) (g2 : p2 = (0 : Int32)) (g3 : p3 = (0 : Int32)) (g4 : ¬ p4 < (64 : Int32)) (g5 : ¬ (16384 : Int32) < p4) (g6 : ¬ p4 = (64 : Int32)) (g7 : ¬ p4 = (128 : Int32)) (g8 : ¬ p4 = (256 : Int32)) (g9 : ¬ p4 = (512 : Int32)) (g10 : ¬ p4 = (1024 : Int32)) (g11 : ¬ p4 = (2048 : Int32)) (g12 : ¬ p4 = (4096 : Int32)) (g13 : ¬ p4 = (8192 : Int32)) (g14 : ¬ p4 = (16384 : Int32)) (g15 : (64 : Int32) < p4) (g16 : ¬ (128 : Int32) < p4) : jv_Ms 322 [.int p1, .int p2, .int p3, .int p4] (jv_H (jx_K 227) jx_If jx_L0 (jx_R 227)) 228 1572956 (some (.int (0 : Int32)), (jv_H (jx_K 227) jx_If jx_L0 (jx_R 227)), 228, 1572956) := by
  show jv_Ev 322 0 [(0, .int p1), (1, .int p2), (2, .int p3), (3, .int p4)] [] (jv_H (jx_K 227) jx_If jx_L0 (jx_R 227)) 228 1572956 _
  refine jv_Ev.steps jv_i322 2 (pc' := 2) (l' := [(0, .int p1), (1, .int p2), (2, .int p3), (3, .int p4)]) (st' := [.int (2 : Int32), .int p1]) rfl ?_
  refine jv_Ev.br jv_i322 (pc' := 5) (st' := []) rfl (jv_bc_ne.trans (jx_gof (by rw [g1] <;> decide))) ?_
  refine jv_Ev.steps jv_i322 1 (pc' := 6) (l' := [(0, .int p1), (1, .int p2), (2, .int p3), (3, .int p4)]) (st' := [.int p2]) rfl ?_
  refine jv_Ev.br jv_i322 (pc' := 9) (st' := []) rfl (jv_bi_ne.trans (jx_gof (by rw [g2] <;> decide))) ?_
  refine jv_Ev.steps jv_i322 1 (pc' := 10) (l' := [(0, .int p1), (1, .int p2), (2, .int p3), (3, .int p4)]) (st' := [.int p3]) rfl ?_
  refine jv_Ev.br jv_i322 (pc' := 13) (st' := []) rfl (jv_bi_ne.trans (jx_gof (by rw [g3] <;> decide))) ?_
  refine jv_Ev.steps jv_i322 3 (pc' := 19) (l' := [(0, .int p1), (1, .int p2), (2, .int p3), (3, .int p4)]) (st' := [.int (16384 : Int32), .int (64 : Int32), .int p4]) rfl ?_
  refine jv_Ev.c jv_i322 (pc' := 22) (S' := [.int (1 : Int32)]) jv_i320 [.int p4, .int (64 : Int32), .int (16384 : Int32)] rfl rfl rfl rfl rfl rfl (jx_e743 p0 p1 p2 p3 p4 p5 g1 g2 g3 g4 g5 g6 g7 g8 g9 g10 g11 g12 g13 g14 g15 g16) rfl rfl ?_
  refine jv_Ev.br jv_i322 (pc' := 25) (st' := []) rfl (jv_bi_eq.trans (jx_gof (by decide))) ?_
  refine jv_Ev.steps jv_i322 1 (pc' := 26) (l' := [(0, .int p1), (1, .int p2), (2, .int p3), (3, .int p4)]) (st' := [.int p4]) rfl ?_
  refine jv_Ev.c jv_i322 (pc' := 29) (S' := [.int (0 : Int32)]) jv_i321 [.int p4] rfl rfl rfl rfl rfl rfl (jx_e744 p0 p1 p2 p3 p4 p5 g1 g2 g3 g4 g5 g6 g7 g8 g9 g10 g11 g12 g13 g14 g15 g16) rfl rfl ?_
  refine jv_Ev.br jv_i322 (pc' := 36) (st' := []) rfl (jv_bi_eq.trans (jx_got (by decide))) ?_
  refine jv_Ev.steps jv_i322 1 (pc' := 37) (l' := [(0, .int p1), (1, .int p2), (2, .int p3), (3, .int p4)]) (st' := [.int (0 : Int32)]) rfl ?_
  exact jv_Ev.ret jv_i322 rfl (jv_ret_b (by decide))

set_option maxRecDepth 100000 in
/-- ProgramBoxModel$Store.make -/
theorem jx_e746 (p0 : Int32) (p1 : Int32) (p2 : Int32) (p3 : Int32) (p4 : Int32) (p5 : Int32) (g1 : p1 = (2 : Int32)) (g2 : p2 = (0 : Int32)) (g3 : p3 = (0 : Int32)) (g4 : ¬ p4 < (64 : Int32)) (g5 : ¬ (16384 : Int32) < p4) (g6 : ¬ p4 = (64 : Int32)) (g7 : ¬ p4 = (128 : Int32)) (g8 : ¬ p4 = (256 : Int32)) (g9 : ¬ p4 = (512 : Int32)) (g10 : ¬ p4 = (1024 : Int32)) (g11 : ¬ p4 = (2048 : Int32)) (g12 : ¬ p4 = (4096 : Int32)) (g13 : ¬ p4 = (8192 : Int32)) (g14 : ¬ p4 = (16384 : Int32)) (g15 : (64 : Int32) < p4) (g16 : ¬ (128 : Int32) < p4) : jv_Ms 323 [.ref 180, .int p1, .int p2, .int p3, .int p4] (jv_H (jx_K 227) jx_If jx_L0 (jx_R 227)) 228 1572956 (some (.int (0 : Int32)), (jv_H (jx_K 227) (jv_u jx_If 180 0 (1 : Int32)) jx_L0 (jx_R 227)), 228, 1572956) := by
  show jv_Ev 323 0 [(0, .ref 180), (1, .int p1), (2, .int p2), (3, .int p3), (4, .int p4)] [] (jv_H (jx_K 227) jx_If jx_L0 (jx_R 227)) 228 1572956 _
  refine jv_Ev.steps jv_i323 5 (pc' := 6) (l' := [(0, .ref 180), (1, .int p1), (2, .int p2), (3, .int p3), (4, .int p4)]) (st' := [.int p4, .int p3, .int p2, .int p1, .ref 180]) rfl ?_
  refine jv_Ev.c jv_i323 (pc' := 9) (S' := [.int (0 : Int32), .ref 180]) jv_i322 [.int p1, .int p2, .int p3, .int p4] rfl rfl rfl rfl rfl rfl (jx_e745 p0 p1 p2 p3 p4 p5 g1 g2 g3 g4 g5 g6 g7 g8 g9 g10 g11 g12 g13 g14 g15 g16) rfl rfl ?_
  refine jv_Ev.br jv_i323 (pc' := 16) (st' := [.ref 180]) rfl (jv_bi_eq.trans (jx_got (by decide))) ?_
  refine jv_Ev.steps jv_i323 1 (pc' := 17) (l' := [(0, .ref 180), (1, .int p1), (2, .int p2), (3, .int p3), (4, .int p4)]) (st' := [.int (1 : Int32), .ref 180]) rfl ?_
  refine jv_Ev.m jv_i323 (pc' := 20) (st' := []) rfl rfl (jv_m_putI rfl rfl rfl rfl rfl) ?_
  refine jv_Ev.steps jv_i323 1 (pc' := 21) (l' := [(0, .ref 180), (1, .int p1), (2, .int p2), (3, .int p3), (4, .int p4)]) (st' := [.ref 180]) rfl ?_
  refine jv_Ev.m jv_i323 (pc' := 24) (st' := [.int (1 : Int32)]) rfl rfl (jv_m_getI rfl rfl rfl rfl) ?_
  refine jv_Ev.br jv_i323 (pc' := 27) (st' := []) rfl (jv_bi_le.trans (jx_gof (by decide))) ?_
  refine jv_Ev.steps jv_i323 1 (pc' := 28) (l' := [(0, .ref 180), (1, .int p1), (2, .int p2), (3, .int p3), (4, .int p4)]) (st' := [.int (0 : Int32)]) rfl ?_
  exact jv_Ev.ret jv_i323 rfl rfl

set_option maxRecDepth 100000 in
/-- ProgramBoxModel$Store.thrown -/
theorem jx_e747 (p0 : Int32) (p1 : Int32) (p2 : Int32) (p3 : Int32) (p4 : Int32) (p5 : Int32) (g1 : p1 = (2 : Int32)) (g2 : p2 = (0 : Int32)) (g3 : p3 = (0 : Int32)) (g4 : ¬ p4 < (64 : Int32)) (g5 : ¬ (16384 : Int32) < p4) (g6 : ¬ p4 = (64 : Int32)) (g7 : ¬ p4 = (128 : Int32)) (g8 : ¬ p4 = (256 : Int32)) (g9 : ¬ p4 = (512 : Int32)) (g10 : ¬ p4 = (1024 : Int32)) (g11 : ¬ p4 = (2048 : Int32)) (g12 : ¬ p4 = (4096 : Int32)) (g13 : ¬ p4 = (8192 : Int32)) (g14 : ¬ p4 = (16384 : Int32)) (g15 : (64 : Int32) < p4) (g16 : ¬ (128 : Int32) < p4) : jv_Ms 318 [.ref 180] (jv_H (jx_K 227) (jv_u jx_If 180 0 (1 : Int32)) jx_L0 (jx_R 227)) 228 1572956 (some (.int (1 : Int32)), (jv_H (jx_K 227) (jv_u jx_If 180 0 (1 : Int32)) jx_L0 (jx_R 227)), 228, 1572956) := by
  show jv_Ev 318 0 [(0, .ref 180)] [] (jv_H (jx_K 227) (jv_u jx_If 180 0 (1 : Int32)) jx_L0 (jx_R 227)) 228 1572956 _
  refine jv_Ev.steps jv_i318 1 (pc' := 1) (l' := [(0, .ref 180)]) (st' := [.ref 180]) rfl ?_
  refine jv_Ev.m jv_i318 (pc' := 4) (st' := [.int (1 : Int32)]) rfl rfl (jv_m_getI rfl rfl rfl rfl) ?_
  exact jv_Ev.ret jv_i318 rfl rfl

set_option maxRecDepth 100000 in
/-- ProgramBoxModel.make -/
theorem jx_e748 (p0 : Int32) (p1 : Int32) (p2 : Int32) (p3 : Int32) (p4 : Int32) (p5 : Int32) (g1 : p1 = (2 : Int32)) (g2 : p2 = (0 : Int32)) (g3 : p3 = (0 : Int32)) (g4 : ¬ p4 < (64 : Int32)) (g5 : ¬ (16384 : Int32) < p4) (g6 : ¬ p4 = (64 : Int32)) (g7 : ¬ p4 = (128 : Int32)) (g8 : ¬ p4 = (256 : Int32)) (g9 : ¬ p4 = (512 : Int32)) (g10 : ¬ p4 = (1024 : Int32)) (g11 : ¬ p4 = (2048 : Int32)) (g12 : ¬ p4 = (4096 : Int32)) (g13 : ¬ p4 = (8192 : Int32)) (g14 : ¬ p4 = (16384 : Int32)) (g15 : (64 : Int32) < p4) (g16 : ¬ (128 : Int32) < p4) : jv_Ms 353 [.ref 178, .int p1, .int p2, .int p3, .int p4] (jv_H (jx_K 227) jx_If jx_L0 (jx_R 227)) 228 1572956 (some (.int (0 : Int32)), (jv_H (jx_K 227) (jv_u (jv_u jx_If 180 0 (1 : Int32)) 178 0 (1 : Int32)) jx_L0 (jx_R 227)), 228, 1572956) := by
  show jv_Ev 353 0 [(0, .ref 178), (1, .int p1), (2, .int p2), (3, .int p3), (4, .int p4)] [] (jv_H (jx_K 227) jx_If jx_L0 (jx_R 227)) 228 1572956 _
  refine jv_Ev.steps jv_i353 1 (pc' := 1) (l' := [(0, .ref 178), (1, .int p1), (2, .int p2), (3, .int p3), (4, .int p4)]) (st' := [.ref 178]) rfl ?_
  refine jv_Ev.m jv_i353 (pc' := 4) (st' := [.ref 180]) rfl rfl (jv_m_getR rfl rfl rfl rfl) ?_
  refine jv_Ev.steps jv_i353 4 (pc' := 9) (l' := [(0, .ref 178), (1, .int p1), (2, .int p2), (3, .int p3), (4, .int p4)]) (st' := [.int p4, .int p3, .int p2, .int p1, .ref 180]) rfl ?_
  refine jv_Ev.c jv_i353 (pc' := 12) (S' := [.int (0 : Int32)]) jv_i323 [.ref 180, .int p1, .int p2, .int p3, .int p4] rfl rfl rfl rfl (jv_cal rfl (jv_H_at rfl) rfl rfl) rfl (jx_e746 p0 p1 p2 p3 p4 p5 g1 g2 g3 g4 g5 g6 g7 g8 g9 g10 g11 g12 g13 g14 g15 g16) rfl rfl ?_
  refine jv_Ev.steps jv_i353 3 (pc' := 16) (l' := [(5, .int (0 : Int32)), (0, .ref 178), (1, .int p1), (2, .int p2), (3, .int p3), (4, .int p4)]) (st' := [.ref 178, .ref 178]) rfl ?_
  refine jv_Ev.m jv_i353 (pc' := 19) (st' := [.ref 180, .ref 178]) rfl rfl (jv_m_getR rfl rfl rfl rfl) ?_
  refine jv_Ev.c jv_i353 (pc' := 22) (S' := [.int (1 : Int32), .ref 178]) jv_i318 [.ref 180] rfl rfl rfl rfl (jv_cal rfl (jv_H_at rfl) rfl rfl) rfl (jx_e747 p0 p1 p2 p3 p4 p5 g1 g2 g3 g4 g5 g6 g7 g8 g9 g10 g11 g12 g13 g14 g15 g16) rfl rfl ?_
  refine jv_Ev.m jv_i353 (pc' := 25) (st' := []) rfl rfl (jv_m_putI rfl rfl rfl rfl rfl) ?_
  refine jv_Ev.steps jv_i353 1 (pc' := 26) (l' := [(5, .int (0 : Int32)), (0, .ref 178), (1, .int p1), (2, .int p2), (3, .int p3), (4, .int p4)]) (st' := [.ref 178]) rfl ?_
  refine jv_Ev.m jv_i353 (pc' := 29) (st' := [.int (1 : Int32)]) rfl rfl (jv_m_getI rfl rfl rfl rfl) ?_
  refine jv_Ev.br jv_i353 (pc' := 67) (st' := []) rfl (jv_bi_ne.trans (jx_got (by decide))) ?_
  refine jv_Ev.steps jv_i353 1 (pc' := 69) (l' := [(5, .int (0 : Int32)), (0, .ref 178), (1, .int p1), (2, .int p2), (3, .int p3), (4, .int p4)]) (st' := [.int (0 : Int32)]) rfl ?_
  exact jv_Ev.ret jv_i353 rfl rfl

set_option maxRecDepth 100000 in
/-- ProgramBoxModel.thrown -/
theorem jx_e749 (p0 : Int32) (p1 : Int32) (p2 : Int32) (p3 : Int32) (p4 : Int32) (p5 : Int32) (g1 : p1 = (2 : Int32)) (g2 : p2 = (0 : Int32)) (g3 : p3 = (0 : Int32)) (g4 : ¬ p4 < (64 : Int32)) (g5 : ¬ (16384 : Int32) < p4) (g6 : ¬ p4 = (64 : Int32)) (g7 : ¬ p4 = (128 : Int32)) (g8 : ¬ p4 = (256 : Int32)) (g9 : ¬ p4 = (512 : Int32)) (g10 : ¬ p4 = (1024 : Int32)) (g11 : ¬ p4 = (2048 : Int32)) (g12 : ¬ p4 = (4096 : Int32)) (g13 : ¬ p4 = (8192 : Int32)) (g14 : ¬ p4 = (16384 : Int32)) (g15 : (64 : Int32) < p4) (g16 : ¬ (128 : Int32) < p4) : jv_Ms 350 [.ref 178] (jv_H (jx_K 227) (jv_u (jv_u jx_If 180 0 (1 : Int32)) 178 0 (1 : Int32)) jx_L0 (jx_R 227)) 228 1572956 (some (.int (1 : Int32)), (jv_H (jx_K 227) (jv_u (jv_u jx_If 180 0 (1 : Int32)) 178 0 (1 : Int32)) jx_L0 (jx_R 227)), 228, 1572956) := by
  show jv_Ev 350 0 [(0, .ref 178)] [] (jv_H (jx_K 227) (jv_u (jv_u jx_If 180 0 (1 : Int32)) 178 0 (1 : Int32)) jx_L0 (jx_R 227)) 228 1572956 _
  refine jv_Ev.steps jv_i350 1 (pc' := 1) (l' := [(0, .ref 178)]) (st' := [.ref 178]) rfl ?_
  refine jv_Ev.m jv_i350 (pc' := 4) (st' := [.int (1 : Int32)]) rfl rfl (jv_m_getI rfl rfl rfl rfl) ?_
  exact jv_Ev.ret jv_i350 rfl rfl

set_option maxRecDepth 100000 in
/-- the law: case 2, one way -/
theorem jx_l86 (p0 : Int32) (p1 : Int32) (p2 : Int32) (p3 : Int32) (p4 : Int32) (p5 : Int32) (g1 : p1 = (2 : Int32)) (g2 : p2 = (0 : Int32)) (g3 : p3 = (0 : Int32)) (g4 : ¬ p4 < (64 : Int32)) (g5 : ¬ (16384 : Int32) < p4) (g6 : ¬ p4 = (64 : Int32)) (g7 : ¬ p4 = (128 : Int32)) (g8 : ¬ p4 = (256 : Int32)) (g9 : ¬ p4 = (512 : Int32)) (g10 : ¬ p4 = (1024 : Int32)) (g11 : ¬ p4 = (2048 : Int32)) (g12 : ¬ p4 = (4096 : Int32)) (g13 : ¬ p4 = (8192 : Int32)) (g14 : ¬ p4 = (16384 : Int32)) (g15 : (64 : Int32) < p4) (g16 : ¬ (128 : Int32) < p4) (hsw : p0 &&& (31 : Int32) = (2 : Int32)) {p : Program} {l : Launch} {e : Env} {R : Room} {s : State} {m : MethodId} {args : Array Value} {below : List Frame} {meth : Method} {c : Code} {E : jv_Env} {Q : State → Prop} (hTb : jv_TOk jv_Tb) (hT2 : jx_T2Ok) (hl : l.stackTraces = false) (F : jx_F jv_T2 439 E p R s m args meth c) (hZ : jx_Z E s) (hRc : R.cells = 600002) (hRs : R.slots = 7302232) {bb : Nat} {xs : Nat → Int32} (hX : va_X bb 6 xs s E.2.2.2.2) (hbB : bb < E.2.2.2.1) (hE2 : E.1 1000002 = bb) (hQ : ∀ (l0 : jv_L) (G : jv_G) (n sl : Nat), n ≤ 600002 → sl ≤ 7302232 → jw p l e R s m args below meth c E 8 0 0 Q 1532 l0 [.int (1 : Int32)] G n sl) (q0 : xs 0 = p0) (q1 : xs 1 = p1) (q2 : xs 2 = p2) (q3 : xs 3 = p3) (q4 : xs 4 = p4) (q5 : xs 5 = p5) : jw p l e R s m args below meth c E 8 0 0 Q 33 [(0, .ref 1000002), (1, .ref 0), (2, .ref 178), (3, .ref 226), (4, .int (0 : Int32))] [] (jv_H (jx_K 227) jx_If jx_L0 (jx_R 227)) 227 1572950 := by
  refine jw.steps F jx_i439 2 (pc' := 36) (l' := [(0, .ref 1000002), (1, .ref 0), (2, .ref 178), (3, .ref 226), (4, .int (0 : Int32))]) (st' := [.int (0 : Int32), .ref 1000002]) rfl ?_
  refine jw.sld F jx_i439 hX hbB hE2 (pc' := 37) rfl rfl (show vp_in (nI 0) 6 from vp_in_nI (by decide) (by decide)) q0 rfl ?_
  refine jw.steps F jx_i439 2 (pc' := 40) (l' := [(0, .ref 1000002), (1, .ref 0), (2, .ref 178), (3, .ref 226), (4, .int (0 : Int32))]) (st' := [.int (p0 &&& (31 : Int32))]) rfl ?_
  refine jw.br F jx_i439 (pc' := 304) (st' := []) rfl (by rw [hsw]; rfl) ?_
  refine jw.steps F jx_i439 5 (pc' := 310) (l' := [(0, .ref 1000002), (1, .ref 0), (2, .ref 178), (3, .ref 226), (4, .int (0 : Int32))]) (st' := [.int (1 : Int32), .ref 1000002, .ref 0]) rfl ?_
  refine jw.sld F jx_i439 hX hbB hE2 (pc' := 311) rfl rfl (show vp_in (nI 1) 6 from vp_in_nI (by decide) (by decide)) q1 rfl ?_
  refine jw.steps F jx_i439 4 (pc' := 316) (l' := [(0, .ref 1000002), (1, .ref 0), (2, .ref 178), (3, .ref 226), (4, .int (0 : Int32))]) (st' := [.int (2 : Int32), .ref 1000002, .int p1, .ref 0]) rfl ?_
  refine jw.sld F jx_i439 hX hbB hE2 (pc' := 317) rfl rfl (show vp_in (nI 2) 6 from vp_in_nI (by decide) (by decide)) q2 rfl ?_
  refine jw.steps F jx_i439 4 (pc' := 322) (l' := [(0, .ref 1000002), (1, .ref 0), (2, .ref 178), (3, .ref 226), (4, .int (0 : Int32))]) (st' := [.int (3 : Int32), .ref 1000002, .int p2, .int p1, .ref 0]) rfl ?_
  refine jw.sld F jx_i439 hX hbB hE2 (pc' := 323) rfl rfl (show vp_in (nI 3) 6 from vp_in_nI (by decide) (by decide)) q3 rfl ?_
  refine jw.steps F jx_i439 4 (pc' := 328) (l' := [(0, .ref 1000002), (1, .ref 0), (2, .ref 178), (3, .ref 226), (4, .int (0 : Int32))]) (st' := [.int (4 : Int32), .ref 1000002, .int p3, .int p2, .int p1, .ref 0]) rfl ?_
  refine jw.sld F jx_i439 hX hbB hE2 (pc' := 329) rfl rfl (show vp_in (nI 4) 6 from vp_in_nI (by decide) (by decide)) q4 rfl ?_
  refine jw.steps F jx_i439 1 (pc' := 330) (l' := [(0, .ref 1000002), (1, .ref 0), (2, .ref 178), (3, .ref 226), (4, .int (0 : Int32))]) (st' := [.ref 226, .int p4, .int p3, .int p2, .int p1, .ref 0]) rfl ?_
  refine jw.wr F hl hZ rfl jx_i439 jx_i442 [.ref 0, .int p1, .int p2, .int p3, .int p4, .ref 226] (pc' := 333) (S' := [.int (1 : Int32)]) rfl (List.mem_of_getElem? (i := 2) rfl) (List.mem_of_getElem? (i := 2) rfl) rfl rfl rfl (jx_w742 hTb hT2 p0 p1 p2 p3 p4 p5 g1 g2 g3 g4 g5 g6 g7 g8 g9 g10 g11 g12 g13 g14 g15 g16) (by omega) (by omega) (by omega) (by omega) rfl rfl ?_
  refine jw.steps F jx_i439 6 (pc' := 341) (l' := [(5, .int (1 : Int32)), (0, .ref 1000002), (1, .ref 0), (2, .ref 178), (3, .ref 226), (4, .int (0 : Int32))]) (st' := [.int (1 : Int32), .ref 1000002, .ref 178]) rfl ?_
  refine jw.sld F jx_i439 hX hbB hE2 (pc' := 342) rfl rfl (show vp_in (nI 1) 6 from vp_in_nI (by decide) (by decide)) q1 rfl ?_
  refine jw.steps F jx_i439 4 (pc' := 347) (l' := [(5, .int (1 : Int32)), (0, .ref 1000002), (1, .ref 0), (2, .ref 178), (3, .ref 226), (4, .int (0 : Int32))]) (st' := [.int (2 : Int32), .ref 1000002, .int p1, .ref 178]) rfl ?_
  refine jw.sld F jx_i439 hX hbB hE2 (pc' := 348) rfl rfl (show vp_in (nI 2) 6 from vp_in_nI (by decide) (by decide)) q2 rfl ?_
  refine jw.steps F jx_i439 4 (pc' := 353) (l' := [(5, .int (1 : Int32)), (0, .ref 1000002), (1, .ref 0), (2, .ref 178), (3, .ref 226), (4, .int (0 : Int32))]) (st' := [.int (3 : Int32), .ref 1000002, .int p2, .int p1, .ref 178]) rfl ?_
  refine jw.sld F jx_i439 hX hbB hE2 (pc' := 354) rfl rfl (show vp_in (nI 3) 6 from vp_in_nI (by decide) (by decide)) q3 rfl ?_
  refine jw.steps F jx_i439 4 (pc' := 359) (l' := [(5, .int (1 : Int32)), (0, .ref 1000002), (1, .ref 0), (2, .ref 178), (3, .ref 226), (4, .int (0 : Int32))]) (st' := [.int (4 : Int32), .ref 1000002, .int p3, .int p2, .int p1, .ref 178]) rfl ?_
  refine jw.sld F jx_i439 hX hbB hE2 (pc' := 360) rfl rfl (show vp_in (nI 4) 6 from vp_in_nI (by decide) (by decide)) q4 rfl ?_
  refine jw.ca hTb F jx_i439 (pc' := 363) (S' := [.int (0 : Int32)]) rfl jv_i353 [.ref 178, .int p1, .int p2, .int p3, .int p4] rfl rfl rfl rfl (jx_cal2 rfl (jv_H_at rfl) rfl rfl) rfl (jx_e748 p0 p1 p2 p3 p4 p5 g1 g2 g3 g4 g5 g6 g7 g8 g9 g10 g11 g12 g13 g14 g15 g16) (by omega) (by omega) rfl rfl ?_
  refine jw.steps F jx_i439 2 (pc' := 366) (l' := [(6, .int (0 : Int32)), (5, .int (1 : Int32)), (0, .ref 1000002), (1, .ref 0), (2, .ref 178), (3, .ref 226), (4, .int (0 : Int32))]) (st' := [.ref 178]) rfl ?_
  refine jw.ca hTb F jx_i439 (pc' := 369) (S' := [.int (1 : Int32)]) rfl jv_i350 [.ref 178] rfl rfl rfl rfl (jx_cal2 rfl (jv_H_at rfl) rfl rfl) rfl (jx_e749 p0 p1 p2 p3 p4 p5 g1 g2 g3 g4 g5 g6 g7 g8 g9 g10 g11 g12 g13 g14 g15 g16) (by omega) (by omega) rfl rfl ?_
  refine jw.steps F jx_i439 1 (pc' := 371) (l' := [(6, .int (0 : Int32)), (5, .int (1 : Int32)), (0, .ref 1000002), (1, .ref 0), (2, .ref 178), (3, .ref 226), (4, .int (0 : Int32))]) (st' := [.int (1 : Int32), .int (1 : Int32)]) rfl ?_
  refine jw.br F jx_i439 (pc' := 376) (st' := []) rfl (jv_bc_eq.trans (jx_got (by decide))) ?_
  refine jw.steps F jx_i439 1 (pc' := 378) (l' := [(6, .int (0 : Int32)), (5, .int (1 : Int32)), (0, .ref 1000002), (1, .ref 0), (2, .ref 178), (3, .ref 226), (4, .int (0 : Int32))]) (st' := [.int (1 : Int32)]) rfl ?_
  refine jw.br F jx_i439 (pc' := 393) (st' := []) rfl (jv_bi_ne.trans (jx_got (by decide))) ?_
  refine jw.steps F jx_i439 5 (pc' := 26) (l' := [(4, .int (6 : Int32)), (6, .int (0 : Int32)), (5, .int (1 : Int32)), (0, .ref 1000002), (1, .ref 0), (2, .ref 178), (3, .ref 226)]) (st' := [.ref 1000002, .int (6 : Int32)]) rfl ?_
  refine jw.slen F jx_i439 hX hbB hE2 (pc' := 27) rfl rfl rfl ?_
  refine jw.steps F jx_i439 2 (pc' := 30) (l' := [(4, .int (6 : Int32)), (6, .int (0 : Int32)), (5, .int (1 : Int32)), (0, .ref 1000002), (1, .ref 0), (2, .ref 178), (3, .ref 226)]) (st' := [.int (0 : Int32), .int (6 : Int32)]) rfl ?_
  refine jw.br F jx_i439 (pc' := 1531) (st' := []) rfl (jv_bc_gt.trans (jx_got (by decide))) ?_
  refine jw.steps F jx_i439 1 (pc' := 1532) (l' := [(4, .int (6 : Int32)), (6, .int (0 : Int32)), (5, .int (1 : Int32)), (0, .ref 1000002), (1, .ref 0), (2, .ref 178), (3, .ref 226)]) (st' := [.int (1 : Int32)]) rfl ?_
  exact hQ _ _ _ _ (by omega) (by omega)

set_option maxRecDepth 100000 in
/-- ProgramBox$Store.isShape -/
theorem jx_e750 (p0 : Int32) (p1 : Int32) (p2 : Int32) (p3 : Int32) (p4 : Int32) (p5 : Int32) (g1 : p1 = (2 : Int32)) (g2 : p2 = (0 : Int32)) (g3 : p3 = (0 : Int32)) (g4 : ¬ p4 < (64 : Int32)) (g5 : ¬ (16384 : Int32) < p4) (g6 : ¬ p4 = (64 : Int32)) (g7 : ¬ p4 = (128 : Int32)) (g8 : ¬ p4 = (256 : Int32)) (g9 : ¬ p4 = (512 : Int32)) (g10 : ¬ p4 = (1024 : Int32)) (g11 : ¬ p4 = (2048 : Int32)) (g12 : ¬ p4 = (4096 : Int32)) (g13 : ¬ p4 = (8192 : Int32)) (g14 : ¬ p4 = (16384 : Int32)) (g15 : ¬ (64 : Int32) < p4) : jv_Ms 123 [.int p1, .int p2, .int p3, .int p4] (jv_H (jx_K 227) jx_If jx_L0 (jx_R 227)) 227 1572950 (some (.int (0 : Int32)), (jv_H (jx_K 227) jx_If jx_L0 (jx_R 227)), 227, 1572950) := by
  show jv_Ev 123 0 [(0, .int p1), (1, .int p2), (2, .int p3), (3, .int p4)] [] (jv_H (jx_K 227) jx_If jx_L0 (jx_R 227)) 227 1572950 _
  refine jv_Ev.steps jv_i123 2 (pc' := 2) (l' := [(0, .int p1), (1, .int p2), (2, .int p3), (3, .int p4)]) (st' := [.int (2 : Int32), .int p1]) rfl ?_
  refine jv_Ev.br jv_i123 (pc' := 5) (st' := []) rfl (jv_bc_ne.trans (jx_gof (by rw [g1] <;> decide))) ?_
  refine jv_Ev.steps jv_i123 1 (pc' := 6) (l' := [(0, .int p1), (1, .int p2), (2, .int p3), (3, .int p4)]) (st' := [.int p2]) rfl ?_
  refine jv_Ev.br jv_i123 (pc' := 9) (st' := []) rfl (jv_bi_ne.trans (jx_gof (by rw [g2] <;> decide))) ?_
  refine jv_Ev.steps jv_i123 1 (pc' := 10) (l' := [(0, .int p1), (1, .int p2), (2, .int p3), (3, .int p4)]) (st' := [.int p3]) rfl ?_
  refine jv_Ev.br jv_i123 (pc' := 13) (st' := []) rfl (jv_bi_ne.trans (jx_gof (by rw [g3] <;> decide))) ?_
  refine jv_Ev.steps jv_i123 2 (pc' := 16) (l' := [(0, .int p1), (1, .int p2), (2, .int p3), (3, .int p4)]) (st' := [.int (64 : Int32), .int p4]) rfl ?_
  refine jv_Ev.br jv_i123 (pc' := 19) (st' := []) rfl (jv_bc_lt.trans (jx_gof g4)) ?_
  refine jv_Ev.steps jv_i123 2 (pc' := 23) (l' := [(0, .int p1), (1, .int p2), (2, .int p3), (3, .int p4)]) (st' := [.int (16384 : Int32), .int p4]) rfl ?_
  refine jv_Ev.br jv_i123 (pc' := 26) (st' := []) rfl (jv_bc_gt.trans (jx_gof g5)) ?_
  refine jv_Ev.steps jv_i123 1 (pc' := 27) (l' := [(0, .int p1), (1, .int p2), (2, .int p3), (3, .int p4)]) (st' := [.int p4]) rfl ?_
  refine jv_Ev.c jv_i123 (pc' := 30) (S' := [.int (jx_bc p4)]) jv_i0 [.int p4] rfl rfl rfl rfl rfl rfl (jx_bc_run p4 _ _ _) rfl rfl ?_
  refine jv_Ev.steps jv_i123 1 (pc' := 31) (l' := [(0, .int p1), (1, .int p2), (2, .int p3), (3, .int p4)]) (st' := [.int (1 : Int32), .int (jx_bc p4)]) rfl ?_
  refine jv_Ev.br jv_i123 (pc' := 38) (st' := []) rfl (jv_bc_ne.trans (jx_got (jx_bc_no p4 g4 g5 g6 g7 g8 g9 g10 g11 g12 g13 g14))) ?_
  refine jv_Ev.steps jv_i123 1 (pc' := 39) (l' := [(0, .int p1), (1, .int p2), (2, .int p3), (3, .int p4)]) (st' := [.int (0 : Int32)]) rfl ?_
  exact jv_Ev.ret jv_i123 rfl (jv_ret_b (by decide))

set_option maxRecDepth 100000 in
/-- ProgramBox.make: it throws -/
theorem jx_e751 (hTb : jv_TOk jv_Tb) (p0 : Int32) (p1 : Int32) (p2 : Int32) (p3 : Int32) (p4 : Int32) (p5 : Int32) (g1 : p1 = (2 : Int32)) (g2 : p2 = (0 : Int32)) (g3 : p3 = (0 : Int32)) (g4 : ¬ p4 < (64 : Int32)) (g5 : ¬ (16384 : Int32) < p4) (g6 : ¬ p4 = (64 : Int32)) (g7 : ¬ p4 = (128 : Int32)) (g8 : ¬ p4 = (256 : Int32)) (g9 : ¬ p4 = (512 : Int32)) (g10 : ¬ p4 = (1024 : Int32)) (g11 : ¬ p4 = (2048 : Int32)) (g12 : ¬ p4 = (4096 : Int32)) (g13 : ¬ p4 = (8192 : Int32)) (g14 : ¬ p4 = (16384 : Int32)) (g15 : ¬ (64 : Int32) < p4) : jx_Th 420 [.ref 0, .int p1, .int p2, .int p3, .int p4] (jv_H (jx_K 227) jx_If jx_L0 (jx_R 227)) 227 1572950 1 (jv_H (jx_K 227) jx_If jx_L0 (jx_R 227)) 228 1572956 := by
  refine jx_Th.of hTb (y := 420) rfl (Nat.le_of_ble_eq_true rfl) ?_
  intro p l e R s m args below meth c E hl F hZ h0 ht hRc hRs
  show jw p l e R s m args below meth c E 5 227 1572950 _ 0 [(0, .ref 0), (1, .int p1), (2, .int p2), (3, .int p3), (4, .int p4)] [] (jv_H (jx_K 227) jx_If jx_L0 (jx_R 227)) 227 1572950
  refine jw.steps F jv_i420 4 (pc' := 5) (l' := [(0, .ref 0), (1, .int p1), (2, .int p2), (3, .int p3), (4, .int p4)]) (st' := [.int p4, .int p3, .int p2, .int p1]) rfl ?_
  refine jw.ca hTb F jv_i420 (pc' := 8) (S' := [.int (0 : Int32)]) rfl jv_i123 [.int p1, .int p2, .int p3, .int p4] rfl rfl rfl rfl rfl rfl (jx_e750 p0 p1 p2 p3 p4 p5 g1 g2 g3 g4 g5 g6 g7 g8 g9 g10 g11 g12 g13 g14 g15) (by omega) (by omega) rfl rfl ?_
  refine jw.br F jv_i420 (pc' := 11) (st' := []) rfl (jv_bi_ne.trans (jx_gof (by decide))) ?_
  exact jw.throw hl F hZ h0 rfl jv_i420 ht 1 69 "no map is like this" (List.mem_of_getElem? (i := 2) rfl) (by decide +kernel) (by decide +kernel) (by decide +kernel) (by decide +kernel) (by decide +kernel) rfl (by decide) (by decide) (by decide) (by omega) (by omega)

set_option maxRecDepth 100000 in
/-- the law's make -/
theorem jx_w752 (hTb : jv_TOk jv_Tb) (hT2 : jx_T2Ok) (p0 : Int32) (p1 : Int32) (p2 : Int32) (p3 : Int32) (p4 : Int32) (p5 : Int32) (g1 : p1 = (2 : Int32)) (g2 : p2 = (0 : Int32)) (g3 : p3 = (0 : Int32)) (g4 : ¬ p4 < (64 : Int32)) (g5 : ¬ (16384 : Int32) < p4) (g6 : ¬ p4 = (64 : Int32)) (g7 : ¬ p4 = (128 : Int32)) (g8 : ¬ p4 = (256 : Int32)) (g9 : ¬ p4 = (512 : Int32)) (g10 : ¬ p4 = (1024 : Int32)) (g11 : ¬ p4 = (2048 : Int32)) (g12 : ¬ p4 = (4096 : Int32)) (g13 : ¬ p4 = (8192 : Int32)) (g14 : ¬ p4 = (16384 : Int32)) (g15 : ¬ (64 : Int32) < p4) : jx_Wr 442 [(0, 14, 17, 19), (0, 14, 21, 13)] [.ref 0, .int p1, .int p2, .int p3, .int p4, .ref 226] (jv_H (jx_K 227) jx_If jx_L0 (jx_R 227)) 227 1572950 (some (.int (1 : Int32)), (jv_H (jx_K 227) jx_If jx_L0 (jx_R 227)), 228, 1572956) := by
  refine jx_Wr.of hT2 (by decide) rfl (Nat.le_of_ble_eq_true rfl) ?_
  intro p l e R s m args below meth c E hl F hZ htb hRc hRs
  show jw p l e R s m args below meth c E 7 227 1572950 _ 0 [(0, .ref 0), (1, .int p1), (2, .int p2), (3, .int p3), (4, .int p4), (5, .ref 226)] [] (jv_H (jx_K 227) jx_If jx_L0 (jx_R 227)) 227 1572950
  have hRc : R.cells = 228 - 227 := hRc
  have hRs : R.slots = 1572956 - 1572950 := hRs
  refine jw.steps F jx_i442 7 (pc' := 9) (l' := [(0, .ref 0), (1, .int p1), (2, .int p2), (3, .int p3), (4, .int p4), (5, .ref 226)]) (st' := [.int p4, .int p3, .int p2, .int p1, .ref 0, .int (0 : Int32), .ref 226]) rfl ?_
  refine jw.cat hTb hl F hZ rfl jx_i442 htb rfl jv_i420 [.ref 0, .int p1, .int p2, .int p3, .int p4] rfl rfl rfl rfl rfl (jx_cal2 rfl (jv_H_at rfl) rfl rfl) rfl (jx_e751 hTb p0 p1 p2 p3 p4 p5 g1 g2 g3 g4 g5 g6 g7 g8 g9 g10 g11 g12 g13 g14 g15) (by omega) (by omega) (by omega) (by omega) [] (0, 14, 17, 19) [(0, 14, 21, 13)] rfl (fun z h => absurd h List.not_mem_nil) (by decide) rfl rfl (Or.inl ⟨rfl, rfl⟩) (by decide) ?_
  refine jw.steps F jx_i442 1 (pc' := 20) (l' := []) (st' := [.int (1 : Int32)]) rfl ?_
  exact jw.ret F jx_i442 rfl rfl

set_option maxRecDepth 100000 in
/-- ProgramBoxModel$Store.isIn -/
theorem jx_e753 (p0 : Int32) (p1 : Int32) (p2 : Int32) (p3 : Int32) (p4 : Int32) (p5 : Int32) (g1 : p1 = (2 : Int32)) (g2 : p2 = (0 : Int32)) (g3 : p3 = (0 : Int32)) (g4 : ¬ p4 < (64 : Int32)) (g5 : ¬ (16384 : Int32) < p4) (g6 : ¬ p4 = (64 : Int32)) (g7 : ¬ p4 = (128 : Int32)) (g8 : ¬ p4 = (256 : Int32)) (g9 : ¬ p4 = (512 : Int32)) (g10 : ¬ p4 = (1024 : Int32)) (g11 : ¬ p4 = (2048 : Int32)) (g12 : ¬ p4 = (4096 : Int32)) (g13 : ¬ p4 = (8192 : Int32)) (g14 : ¬ p4 = (16384 : Int32)) (g15 : ¬ (64 : Int32) < p4) : jv_Ms 320 [.int p4, .int (64 : Int32), .int (16384 : Int32)] (jv_H (jx_K 227) jx_If jx_L0 (jx_R 227)) 228 1572956 (some (.int (1 : Int32)), (jv_H (jx_K 227) jx_If jx_L0 (jx_R 227)), 228, 1572956) := by
  show jv_Ev 320 0 [(0, .int p4), (1, .int (64 : Int32)), (2, .int (16384 : Int32))] [] (jv_H (jx_K 227) jx_If jx_L0 (jx_R 227)) 228 1572956 _
  refine jv_Ev.steps jv_i320 2 (pc' := 2) (l' := [(0, .int p4), (1, .int (64 : Int32)), (2, .int (16384 : Int32))]) (st' := [.int (64 : Int32), .int p4]) rfl ?_
  refine jv_Ev.br jv_i320 (pc' := 5) (st' := []) rfl (jv_bc_lt.trans (jx_gof g4)) ?_
  refine jv_Ev.steps jv_i320 2 (pc' := 7) (l' := [(0, .int p4), (1, .int (64 : Int32)), (2, .int (16384 : Int32))]) (st' := [.int (16384 : Int32), .int p4]) rfl ?_
  refine jv_Ev.br jv_i320 (pc' := 10) (st' := []) rfl (jv_bc_gt.trans (jx_gof g5)) ?_
  refine jv_Ev.steps jv_i320 2 (pc' := 15) (l' := [(0, .int p4), (1, .int (64 : Int32)), (2, .int (16384 : Int32))]) (st' := [.int (1 : Int32)]) rfl ?_
  exact jv_Ev.ret jv_i320 rfl (jv_ret_b (by decide))

set_option maxRecDepth 100000 in
/-- ProgramBoxModel$Store.isPower -/
theorem jx_e754 (p0 : Int32) (p1 : Int32) (p2 : Int32) (p3 : Int32) (p4 : Int32) (p5 : Int32) (g1 : p1 = (2 : Int32)) (g2 : p2 = (0 : Int32)) (g3 : p3 = (0 : Int32)) (g4 : ¬ p4 < (64 : Int32)) (g5 : ¬ (16384 : Int32) < p4) (g6 : ¬ p4 = (64 : Int32)) (g7 : ¬ p4 = (128 : Int32)) (g8 : ¬ p4 = (256 : Int32)) (g9 : ¬ p4 = (512 : Int32)) (g10 : ¬ p4 = (1024 : Int32)) (g11 : ¬ p4 = (2048 : Int32)) (g12 : ¬ p4 = (4096 : Int32)) (g13 : ¬ p4 = (8192 : Int32)) (g14 : ¬ p4 = (16384 : Int32)) (g15 : ¬ (64 : Int32) < p4) : jv_Ms 321 [.int p4] (jv_H (jx_K 227) jx_If jx_L0 (jx_R 227)) 228 1572956 (some (.int (0 : Int32)), (jv_H (jx_K 227) jx_If jx_L0 (jx_R 227)), 228, 1572956) := by
  show jv_Ev 321 0 [(0, .int p4)] [] (jv_H (jx_K 227) jx_If jx_L0 (jx_R 227)) 228 1572956 _
  refine jv_Ev.steps jv_i321 4 (pc' := 5) (l' := [(1, .int (64 : Int32)), (0, .int p4)]) (st' := [.int p4, .int (64 : Int32)]) rfl ?_
  refine jv_Ev.br jv_i321 (pc' := 15) (st' := []) rfl (jv_bc_ge.trans (jx_got (Int32.not_lt.mp g15))) ?_
  refine jv_Ev.steps jv_i321 2 (pc' := 17) (l' := [(1, .int (64 : Int32)), (0, .int p4)]) (st' := [.int p4, .int (64 : Int32)]) rfl ?_
  refine jv_Ev.br jv_i321 (pc' := 24) (st' := []) rfl (jv_bc_ne.trans (jx_got (fun h => g6 h.symm))) ?_
  refine jv_Ev.steps jv_i321 1 (pc' := 25) (l' := [(1, .int (64 : Int32)), (0, .int p4)]) (st' := [.int (0 : Int32)]) rfl ?_
  exact jv_Ev.ret jv_i321 rfl (jv_ret_b (by decide))

set_option maxRecDepth 100000 in
/-- ProgramBoxModel$Store.isProper -/
theorem jx_e755 (p0 : Int32) (p1 : Int32) (p2 : Int32) (p3 : Int32) (p4 : Int32) (p5 : Int32) (g1 : p1 = (2 : Int32)) (g2 : p2 = (0 : Int32)) (g3 : p3 = (0 : Int32)) (g4 : ¬ p4 < (64 : Int32)) (g5 : ¬ (16384 : Int32) < p4) (g6 : ¬ p4 = (64 : Int32)) (g7 : ¬ p4 = (128 : Int32)) (g8 : ¬ p4 = (256 : Int32)) (g9 : ¬ p4 = (512 : Int32)) (g10 : ¬ p4 = (1024 : Int32)) (g11 : ¬ p4 = (2048 : Int32)) (g12 : ¬ p4 = (4096 : Int32)) (g13 : ¬ p4 = (8192 : Int32)) (g14 : ¬ p4 = (16384 : Int32)) (g15 : ¬ (64 : Int32) < p4) : jv_Ms 322 [.int p1, .int p2, .int p3, .int p4] (jv_H (jx_K 227) jx_If jx_L0 (jx_R 227)) 228 1572956 (some (.int (0 : Int32)), (jv_H (jx_K 227) jx_If jx_L0 (jx_R 227)), 228, 1572956) := by
  show jv_Ev 322 0 [(0, .int p1), (1, .int p2), (2, .int p3), (3, .int p4)] [] (jv_H (jx_K 227) jx_If jx_L0 (jx_R 227)) 228 1572956 _
  refine jv_Ev.steps jv_i322 2 (pc' := 2) (l' := [(0, .int p1), (1, .int p2), (2, .int p3), (3, .int p4)]) (st' := [.int (2 : Int32), .int p1]) rfl ?_
  refine jv_Ev.br jv_i322 (pc' := 5) (st' := []) rfl (jv_bc_ne.trans (jx_gof (by rw [g1] <;> decide))) ?_
  refine jv_Ev.steps jv_i322 1 (pc' := 6) (l' := [(0, .int p1), (1, .int p2), (2, .int p3), (3, .int p4)]) (st' := [.int p2]) rfl ?_
  refine jv_Ev.br jv_i322 (pc' := 9) (st' := []) rfl (jv_bi_ne.trans (jx_gof (by rw [g2] <;> decide))) ?_
  refine jv_Ev.steps jv_i322 1 (pc' := 10) (l' := [(0, .int p1), (1, .int p2), (2, .int p3), (3, .int p4)]) (st' := [.int p3]) rfl ?_
  refine jv_Ev.br jv_i322 (pc' := 13) (st' := []) rfl (jv_bi_ne.trans (jx_gof (by rw [g3] <;> decide))) ?_
  refine jv_Ev.steps jv_i322 3 (pc' := 19) (l' := [(0, .int p1), (1, .int p2), (2, .int p3), (3, .int p4)]) (st' := [.int (16384 : Int32), .int (64 : Int32), .int p4]) rfl ?_
  refine jv_Ev.c jv_i322 (pc' := 22) (S' := [.int (1 : Int32)]) jv_i320 [.int p4, .int (64 : Int32), .int (16384 : Int32)] rfl rfl rfl rfl rfl rfl (jx_e753 p0 p1 p2 p3 p4 p5 g1 g2 g3 g4 g5 g6 g7 g8 g9 g10 g11 g12 g13 g14 g15) rfl rfl ?_
  refine jv_Ev.br jv_i322 (pc' := 25) (st' := []) rfl (jv_bi_eq.trans (jx_gof (by decide))) ?_
  refine jv_Ev.steps jv_i322 1 (pc' := 26) (l' := [(0, .int p1), (1, .int p2), (2, .int p3), (3, .int p4)]) (st' := [.int p4]) rfl ?_
  refine jv_Ev.c jv_i322 (pc' := 29) (S' := [.int (0 : Int32)]) jv_i321 [.int p4] rfl rfl rfl rfl rfl rfl (jx_e754 p0 p1 p2 p3 p4 p5 g1 g2 g3 g4 g5 g6 g7 g8 g9 g10 g11 g12 g13 g14 g15) rfl rfl ?_
  refine jv_Ev.br jv_i322 (pc' := 36) (st' := []) rfl (jv_bi_eq.trans (jx_got (by decide))) ?_
  refine jv_Ev.steps jv_i322 1 (pc' := 37) (l' := [(0, .int p1), (1, .int p2), (2, .int p3), (3, .int p4)]) (st' := [.int (0 : Int32)]) rfl ?_
  exact jv_Ev.ret jv_i322 rfl (jv_ret_b (by decide))

set_option maxRecDepth 100000 in
/-- ProgramBoxModel$Store.make -/
theorem jx_e756 (p0 : Int32) (p1 : Int32) (p2 : Int32) (p3 : Int32) (p4 : Int32) (p5 : Int32) (g1 : p1 = (2 : Int32)) (g2 : p2 = (0 : Int32)) (g3 : p3 = (0 : Int32)) (g4 : ¬ p4 < (64 : Int32)) (g5 : ¬ (16384 : Int32) < p4) (g6 : ¬ p4 = (64 : Int32)) (g7 : ¬ p4 = (128 : Int32)) (g8 : ¬ p4 = (256 : Int32)) (g9 : ¬ p4 = (512 : Int32)) (g10 : ¬ p4 = (1024 : Int32)) (g11 : ¬ p4 = (2048 : Int32)) (g12 : ¬ p4 = (4096 : Int32)) (g13 : ¬ p4 = (8192 : Int32)) (g14 : ¬ p4 = (16384 : Int32)) (g15 : ¬ (64 : Int32) < p4) : jv_Ms 323 [.ref 180, .int p1, .int p2, .int p3, .int p4] (jv_H (jx_K 227) jx_If jx_L0 (jx_R 227)) 228 1572956 (some (.int (0 : Int32)), (jv_H (jx_K 227) (jv_u jx_If 180 0 (1 : Int32)) jx_L0 (jx_R 227)), 228, 1572956) := by
  show jv_Ev 323 0 [(0, .ref 180), (1, .int p1), (2, .int p2), (3, .int p3), (4, .int p4)] [] (jv_H (jx_K 227) jx_If jx_L0 (jx_R 227)) 228 1572956 _
  refine jv_Ev.steps jv_i323 5 (pc' := 6) (l' := [(0, .ref 180), (1, .int p1), (2, .int p2), (3, .int p3), (4, .int p4)]) (st' := [.int p4, .int p3, .int p2, .int p1, .ref 180]) rfl ?_
  refine jv_Ev.c jv_i323 (pc' := 9) (S' := [.int (0 : Int32), .ref 180]) jv_i322 [.int p1, .int p2, .int p3, .int p4] rfl rfl rfl rfl rfl rfl (jx_e755 p0 p1 p2 p3 p4 p5 g1 g2 g3 g4 g5 g6 g7 g8 g9 g10 g11 g12 g13 g14 g15) rfl rfl ?_
  refine jv_Ev.br jv_i323 (pc' := 16) (st' := [.ref 180]) rfl (jv_bi_eq.trans (jx_got (by decide))) ?_
  refine jv_Ev.steps jv_i323 1 (pc' := 17) (l' := [(0, .ref 180), (1, .int p1), (2, .int p2), (3, .int p3), (4, .int p4)]) (st' := [.int (1 : Int32), .ref 180]) rfl ?_
  refine jv_Ev.m jv_i323 (pc' := 20) (st' := []) rfl rfl (jv_m_putI rfl rfl rfl rfl rfl) ?_
  refine jv_Ev.steps jv_i323 1 (pc' := 21) (l' := [(0, .ref 180), (1, .int p1), (2, .int p2), (3, .int p3), (4, .int p4)]) (st' := [.ref 180]) rfl ?_
  refine jv_Ev.m jv_i323 (pc' := 24) (st' := [.int (1 : Int32)]) rfl rfl (jv_m_getI rfl rfl rfl rfl) ?_
  refine jv_Ev.br jv_i323 (pc' := 27) (st' := []) rfl (jv_bi_le.trans (jx_gof (by decide))) ?_
  refine jv_Ev.steps jv_i323 1 (pc' := 28) (l' := [(0, .ref 180), (1, .int p1), (2, .int p2), (3, .int p3), (4, .int p4)]) (st' := [.int (0 : Int32)]) rfl ?_
  exact jv_Ev.ret jv_i323 rfl rfl

set_option maxRecDepth 100000 in
/-- ProgramBoxModel$Store.thrown -/
theorem jx_e757 (p0 : Int32) (p1 : Int32) (p2 : Int32) (p3 : Int32) (p4 : Int32) (p5 : Int32) (g1 : p1 = (2 : Int32)) (g2 : p2 = (0 : Int32)) (g3 : p3 = (0 : Int32)) (g4 : ¬ p4 < (64 : Int32)) (g5 : ¬ (16384 : Int32) < p4) (g6 : ¬ p4 = (64 : Int32)) (g7 : ¬ p4 = (128 : Int32)) (g8 : ¬ p4 = (256 : Int32)) (g9 : ¬ p4 = (512 : Int32)) (g10 : ¬ p4 = (1024 : Int32)) (g11 : ¬ p4 = (2048 : Int32)) (g12 : ¬ p4 = (4096 : Int32)) (g13 : ¬ p4 = (8192 : Int32)) (g14 : ¬ p4 = (16384 : Int32)) (g15 : ¬ (64 : Int32) < p4) : jv_Ms 318 [.ref 180] (jv_H (jx_K 227) (jv_u jx_If 180 0 (1 : Int32)) jx_L0 (jx_R 227)) 228 1572956 (some (.int (1 : Int32)), (jv_H (jx_K 227) (jv_u jx_If 180 0 (1 : Int32)) jx_L0 (jx_R 227)), 228, 1572956) := by
  show jv_Ev 318 0 [(0, .ref 180)] [] (jv_H (jx_K 227) (jv_u jx_If 180 0 (1 : Int32)) jx_L0 (jx_R 227)) 228 1572956 _
  refine jv_Ev.steps jv_i318 1 (pc' := 1) (l' := [(0, .ref 180)]) (st' := [.ref 180]) rfl ?_
  refine jv_Ev.m jv_i318 (pc' := 4) (st' := [.int (1 : Int32)]) rfl rfl (jv_m_getI rfl rfl rfl rfl) ?_
  exact jv_Ev.ret jv_i318 rfl rfl

set_option maxRecDepth 100000 in
/-- ProgramBoxModel.make -/
theorem jx_e758 (p0 : Int32) (p1 : Int32) (p2 : Int32) (p3 : Int32) (p4 : Int32) (p5 : Int32) (g1 : p1 = (2 : Int32)) (g2 : p2 = (0 : Int32)) (g3 : p3 = (0 : Int32)) (g4 : ¬ p4 < (64 : Int32)) (g5 : ¬ (16384 : Int32) < p4) (g6 : ¬ p4 = (64 : Int32)) (g7 : ¬ p4 = (128 : Int32)) (g8 : ¬ p4 = (256 : Int32)) (g9 : ¬ p4 = (512 : Int32)) (g10 : ¬ p4 = (1024 : Int32)) (g11 : ¬ p4 = (2048 : Int32)) (g12 : ¬ p4 = (4096 : Int32)) (g13 : ¬ p4 = (8192 : Int32)) (g14 : ¬ p4 = (16384 : Int32)) (g15 : ¬ (64 : Int32) < p4) : jv_Ms 353 [.ref 178, .int p1, .int p2, .int p3, .int p4] (jv_H (jx_K 227) jx_If jx_L0 (jx_R 227)) 228 1572956 (some (.int (0 : Int32)), (jv_H (jx_K 227) (jv_u (jv_u jx_If 180 0 (1 : Int32)) 178 0 (1 : Int32)) jx_L0 (jx_R 227)), 228, 1572956) := by
  show jv_Ev 353 0 [(0, .ref 178), (1, .int p1), (2, .int p2), (3, .int p3), (4, .int p4)] [] (jv_H (jx_K 227) jx_If jx_L0 (jx_R 227)) 228 1572956 _
  refine jv_Ev.steps jv_i353 1 (pc' := 1) (l' := [(0, .ref 178), (1, .int p1), (2, .int p2), (3, .int p3), (4, .int p4)]) (st' := [.ref 178]) rfl ?_
  refine jv_Ev.m jv_i353 (pc' := 4) (st' := [.ref 180]) rfl rfl (jv_m_getR rfl rfl rfl rfl) ?_
  refine jv_Ev.steps jv_i353 4 (pc' := 9) (l' := [(0, .ref 178), (1, .int p1), (2, .int p2), (3, .int p3), (4, .int p4)]) (st' := [.int p4, .int p3, .int p2, .int p1, .ref 180]) rfl ?_
  refine jv_Ev.c jv_i353 (pc' := 12) (S' := [.int (0 : Int32)]) jv_i323 [.ref 180, .int p1, .int p2, .int p3, .int p4] rfl rfl rfl rfl (jv_cal rfl (jv_H_at rfl) rfl rfl) rfl (jx_e756 p0 p1 p2 p3 p4 p5 g1 g2 g3 g4 g5 g6 g7 g8 g9 g10 g11 g12 g13 g14 g15) rfl rfl ?_
  refine jv_Ev.steps jv_i353 3 (pc' := 16) (l' := [(5, .int (0 : Int32)), (0, .ref 178), (1, .int p1), (2, .int p2), (3, .int p3), (4, .int p4)]) (st' := [.ref 178, .ref 178]) rfl ?_
  refine jv_Ev.m jv_i353 (pc' := 19) (st' := [.ref 180, .ref 178]) rfl rfl (jv_m_getR rfl rfl rfl rfl) ?_
  refine jv_Ev.c jv_i353 (pc' := 22) (S' := [.int (1 : Int32), .ref 178]) jv_i318 [.ref 180] rfl rfl rfl rfl (jv_cal rfl (jv_H_at rfl) rfl rfl) rfl (jx_e757 p0 p1 p2 p3 p4 p5 g1 g2 g3 g4 g5 g6 g7 g8 g9 g10 g11 g12 g13 g14 g15) rfl rfl ?_
  refine jv_Ev.m jv_i353 (pc' := 25) (st' := []) rfl rfl (jv_m_putI rfl rfl rfl rfl rfl) ?_
  refine jv_Ev.steps jv_i353 1 (pc' := 26) (l' := [(5, .int (0 : Int32)), (0, .ref 178), (1, .int p1), (2, .int p2), (3, .int p3), (4, .int p4)]) (st' := [.ref 178]) rfl ?_
  refine jv_Ev.m jv_i353 (pc' := 29) (st' := [.int (1 : Int32)]) rfl rfl (jv_m_getI rfl rfl rfl rfl) ?_
  refine jv_Ev.br jv_i353 (pc' := 67) (st' := []) rfl (jv_bi_ne.trans (jx_got (by decide))) ?_
  refine jv_Ev.steps jv_i353 1 (pc' := 69) (l' := [(5, .int (0 : Int32)), (0, .ref 178), (1, .int p1), (2, .int p2), (3, .int p3), (4, .int p4)]) (st' := [.int (0 : Int32)]) rfl ?_
  exact jv_Ev.ret jv_i353 rfl rfl

set_option maxRecDepth 100000 in
/-- ProgramBoxModel.thrown -/
theorem jx_e759 (p0 : Int32) (p1 : Int32) (p2 : Int32) (p3 : Int32) (p4 : Int32) (p5 : Int32) (g1 : p1 = (2 : Int32)) (g2 : p2 = (0 : Int32)) (g3 : p3 = (0 : Int32)) (g4 : ¬ p4 < (64 : Int32)) (g5 : ¬ (16384 : Int32) < p4) (g6 : ¬ p4 = (64 : Int32)) (g7 : ¬ p4 = (128 : Int32)) (g8 : ¬ p4 = (256 : Int32)) (g9 : ¬ p4 = (512 : Int32)) (g10 : ¬ p4 = (1024 : Int32)) (g11 : ¬ p4 = (2048 : Int32)) (g12 : ¬ p4 = (4096 : Int32)) (g13 : ¬ p4 = (8192 : Int32)) (g14 : ¬ p4 = (16384 : Int32)) (g15 : ¬ (64 : Int32) < p4) : jv_Ms 350 [.ref 178] (jv_H (jx_K 227) (jv_u (jv_u jx_If 180 0 (1 : Int32)) 178 0 (1 : Int32)) jx_L0 (jx_R 227)) 228 1572956 (some (.int (1 : Int32)), (jv_H (jx_K 227) (jv_u (jv_u jx_If 180 0 (1 : Int32)) 178 0 (1 : Int32)) jx_L0 (jx_R 227)), 228, 1572956) := by
  show jv_Ev 350 0 [(0, .ref 178)] [] (jv_H (jx_K 227) (jv_u (jv_u jx_If 180 0 (1 : Int32)) 178 0 (1 : Int32)) jx_L0 (jx_R 227)) 228 1572956 _
  refine jv_Ev.steps jv_i350 1 (pc' := 1) (l' := [(0, .ref 178)]) (st' := [.ref 178]) rfl ?_
  refine jv_Ev.m jv_i350 (pc' := 4) (st' := [.int (1 : Int32)]) rfl rfl (jv_m_getI rfl rfl rfl rfl) ?_
  exact jv_Ev.ret jv_i350 rfl rfl

set_option maxRecDepth 100000 in
/-- the law: case 2, one way -/
theorem jx_l87 (p0 : Int32) (p1 : Int32) (p2 : Int32) (p3 : Int32) (p4 : Int32) (p5 : Int32) (g1 : p1 = (2 : Int32)) (g2 : p2 = (0 : Int32)) (g3 : p3 = (0 : Int32)) (g4 : ¬ p4 < (64 : Int32)) (g5 : ¬ (16384 : Int32) < p4) (g6 : ¬ p4 = (64 : Int32)) (g7 : ¬ p4 = (128 : Int32)) (g8 : ¬ p4 = (256 : Int32)) (g9 : ¬ p4 = (512 : Int32)) (g10 : ¬ p4 = (1024 : Int32)) (g11 : ¬ p4 = (2048 : Int32)) (g12 : ¬ p4 = (4096 : Int32)) (g13 : ¬ p4 = (8192 : Int32)) (g14 : ¬ p4 = (16384 : Int32)) (g15 : ¬ (64 : Int32) < p4) (hsw : p0 &&& (31 : Int32) = (2 : Int32)) {p : Program} {l : Launch} {e : Env} {R : Room} {s : State} {m : MethodId} {args : Array Value} {below : List Frame} {meth : Method} {c : Code} {E : jv_Env} {Q : State → Prop} (hTb : jv_TOk jv_Tb) (hT2 : jx_T2Ok) (hl : l.stackTraces = false) (F : jx_F jv_T2 439 E p R s m args meth c) (hZ : jx_Z E s) (hRc : R.cells = 600002) (hRs : R.slots = 7302232) {bb : Nat} {xs : Nat → Int32} (hX : va_X bb 6 xs s E.2.2.2.2) (hbB : bb < E.2.2.2.1) (hE2 : E.1 1000002 = bb) (hQ : ∀ (l0 : jv_L) (G : jv_G) (n sl : Nat), n ≤ 600002 → sl ≤ 7302232 → jw p l e R s m args below meth c E 8 0 0 Q 1532 l0 [.int (1 : Int32)] G n sl) (q0 : xs 0 = p0) (q1 : xs 1 = p1) (q2 : xs 2 = p2) (q3 : xs 3 = p3) (q4 : xs 4 = p4) (q5 : xs 5 = p5) : jw p l e R s m args below meth c E 8 0 0 Q 33 [(0, .ref 1000002), (1, .ref 0), (2, .ref 178), (3, .ref 226), (4, .int (0 : Int32))] [] (jv_H (jx_K 227) jx_If jx_L0 (jx_R 227)) 227 1572950 := by
  refine jw.steps F jx_i439 2 (pc' := 36) (l' := [(0, .ref 1000002), (1, .ref 0), (2, .ref 178), (3, .ref 226), (4, .int (0 : Int32))]) (st' := [.int (0 : Int32), .ref 1000002]) rfl ?_
  refine jw.sld F jx_i439 hX hbB hE2 (pc' := 37) rfl rfl (show vp_in (nI 0) 6 from vp_in_nI (by decide) (by decide)) q0 rfl ?_
  refine jw.steps F jx_i439 2 (pc' := 40) (l' := [(0, .ref 1000002), (1, .ref 0), (2, .ref 178), (3, .ref 226), (4, .int (0 : Int32))]) (st' := [.int (p0 &&& (31 : Int32))]) rfl ?_
  refine jw.br F jx_i439 (pc' := 304) (st' := []) rfl (by rw [hsw]; rfl) ?_
  refine jw.steps F jx_i439 5 (pc' := 310) (l' := [(0, .ref 1000002), (1, .ref 0), (2, .ref 178), (3, .ref 226), (4, .int (0 : Int32))]) (st' := [.int (1 : Int32), .ref 1000002, .ref 0]) rfl ?_
  refine jw.sld F jx_i439 hX hbB hE2 (pc' := 311) rfl rfl (show vp_in (nI 1) 6 from vp_in_nI (by decide) (by decide)) q1 rfl ?_
  refine jw.steps F jx_i439 4 (pc' := 316) (l' := [(0, .ref 1000002), (1, .ref 0), (2, .ref 178), (3, .ref 226), (4, .int (0 : Int32))]) (st' := [.int (2 : Int32), .ref 1000002, .int p1, .ref 0]) rfl ?_
  refine jw.sld F jx_i439 hX hbB hE2 (pc' := 317) rfl rfl (show vp_in (nI 2) 6 from vp_in_nI (by decide) (by decide)) q2 rfl ?_
  refine jw.steps F jx_i439 4 (pc' := 322) (l' := [(0, .ref 1000002), (1, .ref 0), (2, .ref 178), (3, .ref 226), (4, .int (0 : Int32))]) (st' := [.int (3 : Int32), .ref 1000002, .int p2, .int p1, .ref 0]) rfl ?_
  refine jw.sld F jx_i439 hX hbB hE2 (pc' := 323) rfl rfl (show vp_in (nI 3) 6 from vp_in_nI (by decide) (by decide)) q3 rfl ?_
  refine jw.steps F jx_i439 4 (pc' := 328) (l' := [(0, .ref 1000002), (1, .ref 0), (2, .ref 178), (3, .ref 226), (4, .int (0 : Int32))]) (st' := [.int (4 : Int32), .ref 1000002, .int p3, .int p2, .int p1, .ref 0]) rfl ?_
  refine jw.sld F jx_i439 hX hbB hE2 (pc' := 329) rfl rfl (show vp_in (nI 4) 6 from vp_in_nI (by decide) (by decide)) q4 rfl ?_
  refine jw.steps F jx_i439 1 (pc' := 330) (l' := [(0, .ref 1000002), (1, .ref 0), (2, .ref 178), (3, .ref 226), (4, .int (0 : Int32))]) (st' := [.ref 226, .int p4, .int p3, .int p2, .int p1, .ref 0]) rfl ?_
  refine jw.wr F hl hZ rfl jx_i439 jx_i442 [.ref 0, .int p1, .int p2, .int p3, .int p4, .ref 226] (pc' := 333) (S' := [.int (1 : Int32)]) rfl (List.mem_of_getElem? (i := 2) rfl) (List.mem_of_getElem? (i := 2) rfl) rfl rfl rfl (jx_w752 hTb hT2 p0 p1 p2 p3 p4 p5 g1 g2 g3 g4 g5 g6 g7 g8 g9 g10 g11 g12 g13 g14 g15) (by omega) (by omega) (by omega) (by omega) rfl rfl ?_
  refine jw.steps F jx_i439 6 (pc' := 341) (l' := [(5, .int (1 : Int32)), (0, .ref 1000002), (1, .ref 0), (2, .ref 178), (3, .ref 226), (4, .int (0 : Int32))]) (st' := [.int (1 : Int32), .ref 1000002, .ref 178]) rfl ?_
  refine jw.sld F jx_i439 hX hbB hE2 (pc' := 342) rfl rfl (show vp_in (nI 1) 6 from vp_in_nI (by decide) (by decide)) q1 rfl ?_
  refine jw.steps F jx_i439 4 (pc' := 347) (l' := [(5, .int (1 : Int32)), (0, .ref 1000002), (1, .ref 0), (2, .ref 178), (3, .ref 226), (4, .int (0 : Int32))]) (st' := [.int (2 : Int32), .ref 1000002, .int p1, .ref 178]) rfl ?_
  refine jw.sld F jx_i439 hX hbB hE2 (pc' := 348) rfl rfl (show vp_in (nI 2) 6 from vp_in_nI (by decide) (by decide)) q2 rfl ?_
  refine jw.steps F jx_i439 4 (pc' := 353) (l' := [(5, .int (1 : Int32)), (0, .ref 1000002), (1, .ref 0), (2, .ref 178), (3, .ref 226), (4, .int (0 : Int32))]) (st' := [.int (3 : Int32), .ref 1000002, .int p2, .int p1, .ref 178]) rfl ?_
  refine jw.sld F jx_i439 hX hbB hE2 (pc' := 354) rfl rfl (show vp_in (nI 3) 6 from vp_in_nI (by decide) (by decide)) q3 rfl ?_
  refine jw.steps F jx_i439 4 (pc' := 359) (l' := [(5, .int (1 : Int32)), (0, .ref 1000002), (1, .ref 0), (2, .ref 178), (3, .ref 226), (4, .int (0 : Int32))]) (st' := [.int (4 : Int32), .ref 1000002, .int p3, .int p2, .int p1, .ref 178]) rfl ?_
  refine jw.sld F jx_i439 hX hbB hE2 (pc' := 360) rfl rfl (show vp_in (nI 4) 6 from vp_in_nI (by decide) (by decide)) q4 rfl ?_
  refine jw.ca hTb F jx_i439 (pc' := 363) (S' := [.int (0 : Int32)]) rfl jv_i353 [.ref 178, .int p1, .int p2, .int p3, .int p4] rfl rfl rfl rfl (jx_cal2 rfl (jv_H_at rfl) rfl rfl) rfl (jx_e758 p0 p1 p2 p3 p4 p5 g1 g2 g3 g4 g5 g6 g7 g8 g9 g10 g11 g12 g13 g14 g15) (by omega) (by omega) rfl rfl ?_
  refine jw.steps F jx_i439 2 (pc' := 366) (l' := [(6, .int (0 : Int32)), (5, .int (1 : Int32)), (0, .ref 1000002), (1, .ref 0), (2, .ref 178), (3, .ref 226), (4, .int (0 : Int32))]) (st' := [.ref 178]) rfl ?_
  refine jw.ca hTb F jx_i439 (pc' := 369) (S' := [.int (1 : Int32)]) rfl jv_i350 [.ref 178] rfl rfl rfl rfl (jx_cal2 rfl (jv_H_at rfl) rfl rfl) rfl (jx_e759 p0 p1 p2 p3 p4 p5 g1 g2 g3 g4 g5 g6 g7 g8 g9 g10 g11 g12 g13 g14 g15) (by omega) (by omega) rfl rfl ?_
  refine jw.steps F jx_i439 1 (pc' := 371) (l' := [(6, .int (0 : Int32)), (5, .int (1 : Int32)), (0, .ref 1000002), (1, .ref 0), (2, .ref 178), (3, .ref 226), (4, .int (0 : Int32))]) (st' := [.int (1 : Int32), .int (1 : Int32)]) rfl ?_
  refine jw.br F jx_i439 (pc' := 376) (st' := []) rfl (jv_bc_eq.trans (jx_got (by decide))) ?_
  refine jw.steps F jx_i439 1 (pc' := 378) (l' := [(6, .int (0 : Int32)), (5, .int (1 : Int32)), (0, .ref 1000002), (1, .ref 0), (2, .ref 178), (3, .ref 226), (4, .int (0 : Int32))]) (st' := [.int (1 : Int32)]) rfl ?_
  refine jw.br F jx_i439 (pc' := 393) (st' := []) rfl (jv_bi_ne.trans (jx_got (by decide))) ?_
  refine jw.steps F jx_i439 5 (pc' := 26) (l' := [(4, .int (6 : Int32)), (6, .int (0 : Int32)), (5, .int (1 : Int32)), (0, .ref 1000002), (1, .ref 0), (2, .ref 178), (3, .ref 226)]) (st' := [.ref 1000002, .int (6 : Int32)]) rfl ?_
  refine jw.slen F jx_i439 hX hbB hE2 (pc' := 27) rfl rfl rfl ?_
  refine jw.steps F jx_i439 2 (pc' := 30) (l' := [(4, .int (6 : Int32)), (6, .int (0 : Int32)), (5, .int (1 : Int32)), (0, .ref 1000002), (1, .ref 0), (2, .ref 178), (3, .ref 226)]) (st' := [.int (0 : Int32), .int (6 : Int32)]) rfl ?_
  refine jw.br F jx_i439 (pc' := 1531) (st' := []) rfl (jv_bc_gt.trans (jx_got (by decide))) ?_
  refine jw.steps F jx_i439 1 (pc' := 1532) (l' := [(4, .int (6 : Int32)), (6, .int (0 : Int32)), (5, .int (1 : Int32)), (0, .ref 1000002), (1, .ref 0), (2, .ref 178), (3, .ref 226)]) (st' := [.int (1 : Int32)]) rfl ?_
  exact hQ _ _ _ _ (by omega) (by omega)

set_option maxRecDepth 100000 in
/-- ProgramBox$Store.isShape -/
theorem jx_e760 (p0 : Int32) (p1 : Int32) (p2 : Int32) (p3 : Int32) (p4 : Int32) (p5 : Int32) (g1 : p1 = (2 : Int32)) (g2 : p2 = (0 : Int32)) (g3 : ¬ p3 = (0 : Int32)) : jv_Ms 123 [.int p1, .int p2, .int p3, .int p4] (jv_H (jx_K 227) jx_If jx_L0 (jx_R 227)) 227 1572950 (some (.int (0 : Int32)), (jv_H (jx_K 227) jx_If jx_L0 (jx_R 227)), 227, 1572950) := by
  show jv_Ev 123 0 [(0, .int p1), (1, .int p2), (2, .int p3), (3, .int p4)] [] (jv_H (jx_K 227) jx_If jx_L0 (jx_R 227)) 227 1572950 _
  refine jv_Ev.steps jv_i123 2 (pc' := 2) (l' := [(0, .int p1), (1, .int p2), (2, .int p3), (3, .int p4)]) (st' := [.int (2 : Int32), .int p1]) rfl ?_
  refine jv_Ev.br jv_i123 (pc' := 5) (st' := []) rfl (jv_bc_ne.trans (jx_gof (by rw [g1] <;> decide))) ?_
  refine jv_Ev.steps jv_i123 1 (pc' := 6) (l' := [(0, .int p1), (1, .int p2), (2, .int p3), (3, .int p4)]) (st' := [.int p2]) rfl ?_
  refine jv_Ev.br jv_i123 (pc' := 9) (st' := []) rfl (jv_bi_ne.trans (jx_gof (by rw [g2] <;> decide))) ?_
  refine jv_Ev.steps jv_i123 1 (pc' := 10) (l' := [(0, .int p1), (1, .int p2), (2, .int p3), (3, .int p4)]) (st' := [.int p3]) rfl ?_
  refine jv_Ev.br jv_i123 (pc' := 38) (st' := []) rfl (jv_bi_ne.trans (jx_got g3)) ?_
  refine jv_Ev.steps jv_i123 1 (pc' := 39) (l' := [(0, .int p1), (1, .int p2), (2, .int p3), (3, .int p4)]) (st' := [.int (0 : Int32)]) rfl ?_
  exact jv_Ev.ret jv_i123 rfl (jv_ret_b (by decide))

set_option maxRecDepth 100000 in
/-- ProgramBox.make: it throws -/
theorem jx_e761 (hTb : jv_TOk jv_Tb) (p0 : Int32) (p1 : Int32) (p2 : Int32) (p3 : Int32) (p4 : Int32) (p5 : Int32) (g1 : p1 = (2 : Int32)) (g2 : p2 = (0 : Int32)) (g3 : ¬ p3 = (0 : Int32)) : jx_Th 420 [.ref 0, .int p1, .int p2, .int p3, .int p4] (jv_H (jx_K 227) jx_If jx_L0 (jx_R 227)) 227 1572950 1 (jv_H (jx_K 227) jx_If jx_L0 (jx_R 227)) 228 1572956 := by
  refine jx_Th.of hTb (y := 420) rfl (Nat.le_of_ble_eq_true rfl) ?_
  intro p l e R s m args below meth c E hl F hZ h0 ht hRc hRs
  show jw p l e R s m args below meth c E 5 227 1572950 _ 0 [(0, .ref 0), (1, .int p1), (2, .int p2), (3, .int p3), (4, .int p4)] [] (jv_H (jx_K 227) jx_If jx_L0 (jx_R 227)) 227 1572950
  refine jw.steps F jv_i420 4 (pc' := 5) (l' := [(0, .ref 0), (1, .int p1), (2, .int p2), (3, .int p3), (4, .int p4)]) (st' := [.int p4, .int p3, .int p2, .int p1]) rfl ?_
  refine jw.ca hTb F jv_i420 (pc' := 8) (S' := [.int (0 : Int32)]) rfl jv_i123 [.int p1, .int p2, .int p3, .int p4] rfl rfl rfl rfl rfl rfl (jx_e760 p0 p1 p2 p3 p4 p5 g1 g2 g3) (by omega) (by omega) rfl rfl ?_
  refine jw.br F jv_i420 (pc' := 11) (st' := []) rfl (jv_bi_ne.trans (jx_gof (by decide))) ?_
  exact jw.throw hl F hZ h0 rfl jv_i420 ht 1 69 "no map is like this" (List.mem_of_getElem? (i := 2) rfl) (by decide +kernel) (by decide +kernel) (by decide +kernel) (by decide +kernel) (by decide +kernel) rfl (by decide) (by decide) (by decide) (by omega) (by omega)

set_option maxRecDepth 100000 in
/-- the law's make -/
theorem jx_w762 (hTb : jv_TOk jv_Tb) (hT2 : jx_T2Ok) (p0 : Int32) (p1 : Int32) (p2 : Int32) (p3 : Int32) (p4 : Int32) (p5 : Int32) (g1 : p1 = (2 : Int32)) (g2 : p2 = (0 : Int32)) (g3 : ¬ p3 = (0 : Int32)) : jx_Wr 442 [(0, 14, 17, 19), (0, 14, 21, 13)] [.ref 0, .int p1, .int p2, .int p3, .int p4, .ref 226] (jv_H (jx_K 227) jx_If jx_L0 (jx_R 227)) 227 1572950 (some (.int (1 : Int32)), (jv_H (jx_K 227) jx_If jx_L0 (jx_R 227)), 228, 1572956) := by
  refine jx_Wr.of hT2 (by decide) rfl (Nat.le_of_ble_eq_true rfl) ?_
  intro p l e R s m args below meth c E hl F hZ htb hRc hRs
  show jw p l e R s m args below meth c E 7 227 1572950 _ 0 [(0, .ref 0), (1, .int p1), (2, .int p2), (3, .int p3), (4, .int p4), (5, .ref 226)] [] (jv_H (jx_K 227) jx_If jx_L0 (jx_R 227)) 227 1572950
  have hRc : R.cells = 228 - 227 := hRc
  have hRs : R.slots = 1572956 - 1572950 := hRs
  refine jw.steps F jx_i442 7 (pc' := 9) (l' := [(0, .ref 0), (1, .int p1), (2, .int p2), (3, .int p3), (4, .int p4), (5, .ref 226)]) (st' := [.int p4, .int p3, .int p2, .int p1, .ref 0, .int (0 : Int32), .ref 226]) rfl ?_
  refine jw.cat hTb hl F hZ rfl jx_i442 htb rfl jv_i420 [.ref 0, .int p1, .int p2, .int p3, .int p4] rfl rfl rfl rfl rfl (jx_cal2 rfl (jv_H_at rfl) rfl rfl) rfl (jx_e761 hTb p0 p1 p2 p3 p4 p5 g1 g2 g3) (by omega) (by omega) (by omega) (by omega) [] (0, 14, 17, 19) [(0, 14, 21, 13)] rfl (fun z h => absurd h List.not_mem_nil) (by decide) rfl rfl (Or.inl ⟨rfl, rfl⟩) (by decide) ?_
  refine jw.steps F jx_i442 1 (pc' := 20) (l' := []) (st' := [.int (1 : Int32)]) rfl ?_
  exact jw.ret F jx_i442 rfl rfl

set_option maxRecDepth 100000 in
/-- ProgramBoxModel$Store.isProper -/
theorem jx_e763 (p0 : Int32) (p1 : Int32) (p2 : Int32) (p3 : Int32) (p4 : Int32) (p5 : Int32) (g1 : p1 = (2 : Int32)) (g2 : p2 = (0 : Int32)) (g3 : ¬ p3 = (0 : Int32)) : jv_Ms 322 [.int p1, .int p2, .int p3, .int p4] (jv_H (jx_K 227) jx_If jx_L0 (jx_R 227)) 228 1572956 (some (.int (0 : Int32)), (jv_H (jx_K 227) jx_If jx_L0 (jx_R 227)), 228, 1572956) := by
  show jv_Ev 322 0 [(0, .int p1), (1, .int p2), (2, .int p3), (3, .int p4)] [] (jv_H (jx_K 227) jx_If jx_L0 (jx_R 227)) 228 1572956 _
  refine jv_Ev.steps jv_i322 2 (pc' := 2) (l' := [(0, .int p1), (1, .int p2), (2, .int p3), (3, .int p4)]) (st' := [.int (2 : Int32), .int p1]) rfl ?_
  refine jv_Ev.br jv_i322 (pc' := 5) (st' := []) rfl (jv_bc_ne.trans (jx_gof (by rw [g1] <;> decide))) ?_
  refine jv_Ev.steps jv_i322 1 (pc' := 6) (l' := [(0, .int p1), (1, .int p2), (2, .int p3), (3, .int p4)]) (st' := [.int p2]) rfl ?_
  refine jv_Ev.br jv_i322 (pc' := 9) (st' := []) rfl (jv_bi_ne.trans (jx_gof (by rw [g2] <;> decide))) ?_
  refine jv_Ev.steps jv_i322 1 (pc' := 10) (l' := [(0, .int p1), (1, .int p2), (2, .int p3), (3, .int p4)]) (st' := [.int p3]) rfl ?_
  refine jv_Ev.br jv_i322 (pc' := 36) (st' := []) rfl (jv_bi_ne.trans (jx_got g3)) ?_
  refine jv_Ev.steps jv_i322 1 (pc' := 37) (l' := [(0, .int p1), (1, .int p2), (2, .int p3), (3, .int p4)]) (st' := [.int (0 : Int32)]) rfl ?_
  exact jv_Ev.ret jv_i322 rfl (jv_ret_b (by decide))

set_option maxRecDepth 100000 in
/-- ProgramBoxModel$Store.make -/
theorem jx_e764 (p0 : Int32) (p1 : Int32) (p2 : Int32) (p3 : Int32) (p4 : Int32) (p5 : Int32) (g1 : p1 = (2 : Int32)) (g2 : p2 = (0 : Int32)) (g3 : ¬ p3 = (0 : Int32)) : jv_Ms 323 [.ref 180, .int p1, .int p2, .int p3, .int p4] (jv_H (jx_K 227) jx_If jx_L0 (jx_R 227)) 228 1572956 (some (.int (0 : Int32)), (jv_H (jx_K 227) (jv_u jx_If 180 0 (1 : Int32)) jx_L0 (jx_R 227)), 228, 1572956) := by
  show jv_Ev 323 0 [(0, .ref 180), (1, .int p1), (2, .int p2), (3, .int p3), (4, .int p4)] [] (jv_H (jx_K 227) jx_If jx_L0 (jx_R 227)) 228 1572956 _
  refine jv_Ev.steps jv_i323 5 (pc' := 6) (l' := [(0, .ref 180), (1, .int p1), (2, .int p2), (3, .int p3), (4, .int p4)]) (st' := [.int p4, .int p3, .int p2, .int p1, .ref 180]) rfl ?_
  refine jv_Ev.c jv_i323 (pc' := 9) (S' := [.int (0 : Int32), .ref 180]) jv_i322 [.int p1, .int p2, .int p3, .int p4] rfl rfl rfl rfl rfl rfl (jx_e763 p0 p1 p2 p3 p4 p5 g1 g2 g3) rfl rfl ?_
  refine jv_Ev.br jv_i323 (pc' := 16) (st' := [.ref 180]) rfl (jv_bi_eq.trans (jx_got (by decide))) ?_
  refine jv_Ev.steps jv_i323 1 (pc' := 17) (l' := [(0, .ref 180), (1, .int p1), (2, .int p2), (3, .int p3), (4, .int p4)]) (st' := [.int (1 : Int32), .ref 180]) rfl ?_
  refine jv_Ev.m jv_i323 (pc' := 20) (st' := []) rfl rfl (jv_m_putI rfl rfl rfl rfl rfl) ?_
  refine jv_Ev.steps jv_i323 1 (pc' := 21) (l' := [(0, .ref 180), (1, .int p1), (2, .int p2), (3, .int p3), (4, .int p4)]) (st' := [.ref 180]) rfl ?_
  refine jv_Ev.m jv_i323 (pc' := 24) (st' := [.int (1 : Int32)]) rfl rfl (jv_m_getI rfl rfl rfl rfl) ?_
  refine jv_Ev.br jv_i323 (pc' := 27) (st' := []) rfl (jv_bi_le.trans (jx_gof (by decide))) ?_
  refine jv_Ev.steps jv_i323 1 (pc' := 28) (l' := [(0, .ref 180), (1, .int p1), (2, .int p2), (3, .int p3), (4, .int p4)]) (st' := [.int (0 : Int32)]) rfl ?_
  exact jv_Ev.ret jv_i323 rfl rfl

set_option maxRecDepth 100000 in
/-- ProgramBoxModel$Store.thrown -/
theorem jx_e765 (p0 : Int32) (p1 : Int32) (p2 : Int32) (p3 : Int32) (p4 : Int32) (p5 : Int32) (g1 : p1 = (2 : Int32)) (g2 : p2 = (0 : Int32)) (g3 : ¬ p3 = (0 : Int32)) : jv_Ms 318 [.ref 180] (jv_H (jx_K 227) (jv_u jx_If 180 0 (1 : Int32)) jx_L0 (jx_R 227)) 228 1572956 (some (.int (1 : Int32)), (jv_H (jx_K 227) (jv_u jx_If 180 0 (1 : Int32)) jx_L0 (jx_R 227)), 228, 1572956) := by
  show jv_Ev 318 0 [(0, .ref 180)] [] (jv_H (jx_K 227) (jv_u jx_If 180 0 (1 : Int32)) jx_L0 (jx_R 227)) 228 1572956 _
  refine jv_Ev.steps jv_i318 1 (pc' := 1) (l' := [(0, .ref 180)]) (st' := [.ref 180]) rfl ?_
  refine jv_Ev.m jv_i318 (pc' := 4) (st' := [.int (1 : Int32)]) rfl rfl (jv_m_getI rfl rfl rfl rfl) ?_
  exact jv_Ev.ret jv_i318 rfl rfl

set_option maxRecDepth 100000 in
/-- ProgramBoxModel.make -/
theorem jx_e766 (p0 : Int32) (p1 : Int32) (p2 : Int32) (p3 : Int32) (p4 : Int32) (p5 : Int32) (g1 : p1 = (2 : Int32)) (g2 : p2 = (0 : Int32)) (g3 : ¬ p3 = (0 : Int32)) : jv_Ms 353 [.ref 178, .int p1, .int p2, .int p3, .int p4] (jv_H (jx_K 227) jx_If jx_L0 (jx_R 227)) 228 1572956 (some (.int (0 : Int32)), (jv_H (jx_K 227) (jv_u (jv_u jx_If 180 0 (1 : Int32)) 178 0 (1 : Int32)) jx_L0 (jx_R 227)), 228, 1572956) := by
  show jv_Ev 353 0 [(0, .ref 178), (1, .int p1), (2, .int p2), (3, .int p3), (4, .int p4)] [] (jv_H (jx_K 227) jx_If jx_L0 (jx_R 227)) 228 1572956 _
  refine jv_Ev.steps jv_i353 1 (pc' := 1) (l' := [(0, .ref 178), (1, .int p1), (2, .int p2), (3, .int p3), (4, .int p4)]) (st' := [.ref 178]) rfl ?_
  refine jv_Ev.m jv_i353 (pc' := 4) (st' := [.ref 180]) rfl rfl (jv_m_getR rfl rfl rfl rfl) ?_
  refine jv_Ev.steps jv_i353 4 (pc' := 9) (l' := [(0, .ref 178), (1, .int p1), (2, .int p2), (3, .int p3), (4, .int p4)]) (st' := [.int p4, .int p3, .int p2, .int p1, .ref 180]) rfl ?_
  refine jv_Ev.c jv_i353 (pc' := 12) (S' := [.int (0 : Int32)]) jv_i323 [.ref 180, .int p1, .int p2, .int p3, .int p4] rfl rfl rfl rfl (jv_cal rfl (jv_H_at rfl) rfl rfl) rfl (jx_e764 p0 p1 p2 p3 p4 p5 g1 g2 g3) rfl rfl ?_
  refine jv_Ev.steps jv_i353 3 (pc' := 16) (l' := [(5, .int (0 : Int32)), (0, .ref 178), (1, .int p1), (2, .int p2), (3, .int p3), (4, .int p4)]) (st' := [.ref 178, .ref 178]) rfl ?_
  refine jv_Ev.m jv_i353 (pc' := 19) (st' := [.ref 180, .ref 178]) rfl rfl (jv_m_getR rfl rfl rfl rfl) ?_
  refine jv_Ev.c jv_i353 (pc' := 22) (S' := [.int (1 : Int32), .ref 178]) jv_i318 [.ref 180] rfl rfl rfl rfl (jv_cal rfl (jv_H_at rfl) rfl rfl) rfl (jx_e765 p0 p1 p2 p3 p4 p5 g1 g2 g3) rfl rfl ?_
  refine jv_Ev.m jv_i353 (pc' := 25) (st' := []) rfl rfl (jv_m_putI rfl rfl rfl rfl rfl) ?_
  refine jv_Ev.steps jv_i353 1 (pc' := 26) (l' := [(5, .int (0 : Int32)), (0, .ref 178), (1, .int p1), (2, .int p2), (3, .int p3), (4, .int p4)]) (st' := [.ref 178]) rfl ?_
  refine jv_Ev.m jv_i353 (pc' := 29) (st' := [.int (1 : Int32)]) rfl rfl (jv_m_getI rfl rfl rfl rfl) ?_
  refine jv_Ev.br jv_i353 (pc' := 67) (st' := []) rfl (jv_bi_ne.trans (jx_got (by decide))) ?_
  refine jv_Ev.steps jv_i353 1 (pc' := 69) (l' := [(5, .int (0 : Int32)), (0, .ref 178), (1, .int p1), (2, .int p2), (3, .int p3), (4, .int p4)]) (st' := [.int (0 : Int32)]) rfl ?_
  exact jv_Ev.ret jv_i353 rfl rfl

set_option maxRecDepth 100000 in
/-- ProgramBoxModel.thrown -/
theorem jx_e767 (p0 : Int32) (p1 : Int32) (p2 : Int32) (p3 : Int32) (p4 : Int32) (p5 : Int32) (g1 : p1 = (2 : Int32)) (g2 : p2 = (0 : Int32)) (g3 : ¬ p3 = (0 : Int32)) : jv_Ms 350 [.ref 178] (jv_H (jx_K 227) (jv_u (jv_u jx_If 180 0 (1 : Int32)) 178 0 (1 : Int32)) jx_L0 (jx_R 227)) 228 1572956 (some (.int (1 : Int32)), (jv_H (jx_K 227) (jv_u (jv_u jx_If 180 0 (1 : Int32)) 178 0 (1 : Int32)) jx_L0 (jx_R 227)), 228, 1572956) := by
  show jv_Ev 350 0 [(0, .ref 178)] [] (jv_H (jx_K 227) (jv_u (jv_u jx_If 180 0 (1 : Int32)) 178 0 (1 : Int32)) jx_L0 (jx_R 227)) 228 1572956 _
  refine jv_Ev.steps jv_i350 1 (pc' := 1) (l' := [(0, .ref 178)]) (st' := [.ref 178]) rfl ?_
  refine jv_Ev.m jv_i350 (pc' := 4) (st' := [.int (1 : Int32)]) rfl rfl (jv_m_getI rfl rfl rfl rfl) ?_
  exact jv_Ev.ret jv_i350 rfl rfl

set_option maxRecDepth 100000 in
/-- the law: case 2, one way -/
theorem jx_l88 (p0 : Int32) (p1 : Int32) (p2 : Int32) (p3 : Int32) (p4 : Int32) (p5 : Int32) (g1 : p1 = (2 : Int32)) (g2 : p2 = (0 : Int32)) (g3 : ¬ p3 = (0 : Int32)) (hsw : p0 &&& (31 : Int32) = (2 : Int32)) {p : Program} {l : Launch} {e : Env} {R : Room} {s : State} {m : MethodId} {args : Array Value} {below : List Frame} {meth : Method} {c : Code} {E : jv_Env} {Q : State → Prop} (hTb : jv_TOk jv_Tb) (hT2 : jx_T2Ok) (hl : l.stackTraces = false) (F : jx_F jv_T2 439 E p R s m args meth c) (hZ : jx_Z E s) (hRc : R.cells = 600002) (hRs : R.slots = 7302232) {bb : Nat} {xs : Nat → Int32} (hX : va_X bb 6 xs s E.2.2.2.2) (hbB : bb < E.2.2.2.1) (hE2 : E.1 1000002 = bb) (hQ : ∀ (l0 : jv_L) (G : jv_G) (n sl : Nat), n ≤ 600002 → sl ≤ 7302232 → jw p l e R s m args below meth c E 8 0 0 Q 1532 l0 [.int (1 : Int32)] G n sl) (q0 : xs 0 = p0) (q1 : xs 1 = p1) (q2 : xs 2 = p2) (q3 : xs 3 = p3) (q4 : xs 4 = p4) (q5 : xs 5 = p5) : jw p l e R s m args below meth c E 8 0 0 Q 33 [(0, .ref 1000002), (1, .ref 0), (2, .ref 178), (3, .ref 226), (4, .int (0 : Int32))] [] (jv_H (jx_K 227) jx_If jx_L0 (jx_R 227)) 227 1572950 := by
  refine jw.steps F jx_i439 2 (pc' := 36) (l' := [(0, .ref 1000002), (1, .ref 0), (2, .ref 178), (3, .ref 226), (4, .int (0 : Int32))]) (st' := [.int (0 : Int32), .ref 1000002]) rfl ?_
  refine jw.sld F jx_i439 hX hbB hE2 (pc' := 37) rfl rfl (show vp_in (nI 0) 6 from vp_in_nI (by decide) (by decide)) q0 rfl ?_
  refine jw.steps F jx_i439 2 (pc' := 40) (l' := [(0, .ref 1000002), (1, .ref 0), (2, .ref 178), (3, .ref 226), (4, .int (0 : Int32))]) (st' := [.int (p0 &&& (31 : Int32))]) rfl ?_
  refine jw.br F jx_i439 (pc' := 304) (st' := []) rfl (by rw [hsw]; rfl) ?_
  refine jw.steps F jx_i439 5 (pc' := 310) (l' := [(0, .ref 1000002), (1, .ref 0), (2, .ref 178), (3, .ref 226), (4, .int (0 : Int32))]) (st' := [.int (1 : Int32), .ref 1000002, .ref 0]) rfl ?_
  refine jw.sld F jx_i439 hX hbB hE2 (pc' := 311) rfl rfl (show vp_in (nI 1) 6 from vp_in_nI (by decide) (by decide)) q1 rfl ?_
  refine jw.steps F jx_i439 4 (pc' := 316) (l' := [(0, .ref 1000002), (1, .ref 0), (2, .ref 178), (3, .ref 226), (4, .int (0 : Int32))]) (st' := [.int (2 : Int32), .ref 1000002, .int p1, .ref 0]) rfl ?_
  refine jw.sld F jx_i439 hX hbB hE2 (pc' := 317) rfl rfl (show vp_in (nI 2) 6 from vp_in_nI (by decide) (by decide)) q2 rfl ?_
  refine jw.steps F jx_i439 4 (pc' := 322) (l' := [(0, .ref 1000002), (1, .ref 0), (2, .ref 178), (3, .ref 226), (4, .int (0 : Int32))]) (st' := [.int (3 : Int32), .ref 1000002, .int p2, .int p1, .ref 0]) rfl ?_
  refine jw.sld F jx_i439 hX hbB hE2 (pc' := 323) rfl rfl (show vp_in (nI 3) 6 from vp_in_nI (by decide) (by decide)) q3 rfl ?_
  refine jw.steps F jx_i439 4 (pc' := 328) (l' := [(0, .ref 1000002), (1, .ref 0), (2, .ref 178), (3, .ref 226), (4, .int (0 : Int32))]) (st' := [.int (4 : Int32), .ref 1000002, .int p3, .int p2, .int p1, .ref 0]) rfl ?_
  refine jw.sld F jx_i439 hX hbB hE2 (pc' := 329) rfl rfl (show vp_in (nI 4) 6 from vp_in_nI (by decide) (by decide)) q4 rfl ?_
  refine jw.steps F jx_i439 1 (pc' := 330) (l' := [(0, .ref 1000002), (1, .ref 0), (2, .ref 178), (3, .ref 226), (4, .int (0 : Int32))]) (st' := [.ref 226, .int p4, .int p3, .int p2, .int p1, .ref 0]) rfl ?_
  refine jw.wr F hl hZ rfl jx_i439 jx_i442 [.ref 0, .int p1, .int p2, .int p3, .int p4, .ref 226] (pc' := 333) (S' := [.int (1 : Int32)]) rfl (List.mem_of_getElem? (i := 2) rfl) (List.mem_of_getElem? (i := 2) rfl) rfl rfl rfl (jx_w762 hTb hT2 p0 p1 p2 p3 p4 p5 g1 g2 g3) (by omega) (by omega) (by omega) (by omega) rfl rfl ?_
  refine jw.steps F jx_i439 6 (pc' := 341) (l' := [(5, .int (1 : Int32)), (0, .ref 1000002), (1, .ref 0), (2, .ref 178), (3, .ref 226), (4, .int (0 : Int32))]) (st' := [.int (1 : Int32), .ref 1000002, .ref 178]) rfl ?_
  refine jw.sld F jx_i439 hX hbB hE2 (pc' := 342) rfl rfl (show vp_in (nI 1) 6 from vp_in_nI (by decide) (by decide)) q1 rfl ?_
  refine jw.steps F jx_i439 4 (pc' := 347) (l' := [(5, .int (1 : Int32)), (0, .ref 1000002), (1, .ref 0), (2, .ref 178), (3, .ref 226), (4, .int (0 : Int32))]) (st' := [.int (2 : Int32), .ref 1000002, .int p1, .ref 178]) rfl ?_
  refine jw.sld F jx_i439 hX hbB hE2 (pc' := 348) rfl rfl (show vp_in (nI 2) 6 from vp_in_nI (by decide) (by decide)) q2 rfl ?_
  refine jw.steps F jx_i439 4 (pc' := 353) (l' := [(5, .int (1 : Int32)), (0, .ref 1000002), (1, .ref 0), (2, .ref 178), (3, .ref 226), (4, .int (0 : Int32))]) (st' := [.int (3 : Int32), .ref 1000002, .int p2, .int p1, .ref 178]) rfl ?_
  refine jw.sld F jx_i439 hX hbB hE2 (pc' := 354) rfl rfl (show vp_in (nI 3) 6 from vp_in_nI (by decide) (by decide)) q3 rfl ?_
  refine jw.steps F jx_i439 4 (pc' := 359) (l' := [(5, .int (1 : Int32)), (0, .ref 1000002), (1, .ref 0), (2, .ref 178), (3, .ref 226), (4, .int (0 : Int32))]) (st' := [.int (4 : Int32), .ref 1000002, .int p3, .int p2, .int p1, .ref 178]) rfl ?_
  refine jw.sld F jx_i439 hX hbB hE2 (pc' := 360) rfl rfl (show vp_in (nI 4) 6 from vp_in_nI (by decide) (by decide)) q4 rfl ?_
  refine jw.ca hTb F jx_i439 (pc' := 363) (S' := [.int (0 : Int32)]) rfl jv_i353 [.ref 178, .int p1, .int p2, .int p3, .int p4] rfl rfl rfl rfl (jx_cal2 rfl (jv_H_at rfl) rfl rfl) rfl (jx_e766 p0 p1 p2 p3 p4 p5 g1 g2 g3) (by omega) (by omega) rfl rfl ?_
  refine jw.steps F jx_i439 2 (pc' := 366) (l' := [(6, .int (0 : Int32)), (5, .int (1 : Int32)), (0, .ref 1000002), (1, .ref 0), (2, .ref 178), (3, .ref 226), (4, .int (0 : Int32))]) (st' := [.ref 178]) rfl ?_
  refine jw.ca hTb F jx_i439 (pc' := 369) (S' := [.int (1 : Int32)]) rfl jv_i350 [.ref 178] rfl rfl rfl rfl (jx_cal2 rfl (jv_H_at rfl) rfl rfl) rfl (jx_e767 p0 p1 p2 p3 p4 p5 g1 g2 g3) (by omega) (by omega) rfl rfl ?_
  refine jw.steps F jx_i439 1 (pc' := 371) (l' := [(6, .int (0 : Int32)), (5, .int (1 : Int32)), (0, .ref 1000002), (1, .ref 0), (2, .ref 178), (3, .ref 226), (4, .int (0 : Int32))]) (st' := [.int (1 : Int32), .int (1 : Int32)]) rfl ?_
  refine jw.br F jx_i439 (pc' := 376) (st' := []) rfl (jv_bc_eq.trans (jx_got (by decide))) ?_
  refine jw.steps F jx_i439 1 (pc' := 378) (l' := [(6, .int (0 : Int32)), (5, .int (1 : Int32)), (0, .ref 1000002), (1, .ref 0), (2, .ref 178), (3, .ref 226), (4, .int (0 : Int32))]) (st' := [.int (1 : Int32)]) rfl ?_
  refine jw.br F jx_i439 (pc' := 393) (st' := []) rfl (jv_bi_ne.trans (jx_got (by decide))) ?_
  refine jw.steps F jx_i439 5 (pc' := 26) (l' := [(4, .int (6 : Int32)), (6, .int (0 : Int32)), (5, .int (1 : Int32)), (0, .ref 1000002), (1, .ref 0), (2, .ref 178), (3, .ref 226)]) (st' := [.ref 1000002, .int (6 : Int32)]) rfl ?_
  refine jw.slen F jx_i439 hX hbB hE2 (pc' := 27) rfl rfl rfl ?_
  refine jw.steps F jx_i439 2 (pc' := 30) (l' := [(4, .int (6 : Int32)), (6, .int (0 : Int32)), (5, .int (1 : Int32)), (0, .ref 1000002), (1, .ref 0), (2, .ref 178), (3, .ref 226)]) (st' := [.int (0 : Int32), .int (6 : Int32)]) rfl ?_
  refine jw.br F jx_i439 (pc' := 1531) (st' := []) rfl (jv_bc_gt.trans (jx_got (by decide))) ?_
  refine jw.steps F jx_i439 1 (pc' := 1532) (l' := [(4, .int (6 : Int32)), (6, .int (0 : Int32)), (5, .int (1 : Int32)), (0, .ref 1000002), (1, .ref 0), (2, .ref 178), (3, .ref 226)]) (st' := [.int (1 : Int32)]) rfl ?_
  exact hQ _ _ _ _ (by omega) (by omega)

set_option maxRecDepth 100000 in
/-- ProgramBox$Store.isShape -/
theorem jx_e768 (p0 : Int32) (p1 : Int32) (p2 : Int32) (p3 : Int32) (p4 : Int32) (p5 : Int32) (g1 : p1 = (2 : Int32)) (g2 : ¬ p2 = (0 : Int32)) : jv_Ms 123 [.int p1, .int p2, .int p3, .int p4] (jv_H (jx_K 227) jx_If jx_L0 (jx_R 227)) 227 1572950 (some (.int (0 : Int32)), (jv_H (jx_K 227) jx_If jx_L0 (jx_R 227)), 227, 1572950) := by
  show jv_Ev 123 0 [(0, .int p1), (1, .int p2), (2, .int p3), (3, .int p4)] [] (jv_H (jx_K 227) jx_If jx_L0 (jx_R 227)) 227 1572950 _
  refine jv_Ev.steps jv_i123 2 (pc' := 2) (l' := [(0, .int p1), (1, .int p2), (2, .int p3), (3, .int p4)]) (st' := [.int (2 : Int32), .int p1]) rfl ?_
  refine jv_Ev.br jv_i123 (pc' := 5) (st' := []) rfl (jv_bc_ne.trans (jx_gof (by rw [g1] <;> decide))) ?_
  refine jv_Ev.steps jv_i123 1 (pc' := 6) (l' := [(0, .int p1), (1, .int p2), (2, .int p3), (3, .int p4)]) (st' := [.int p2]) rfl ?_
  refine jv_Ev.br jv_i123 (pc' := 38) (st' := []) rfl (jv_bi_ne.trans (jx_got g2)) ?_
  refine jv_Ev.steps jv_i123 1 (pc' := 39) (l' := [(0, .int p1), (1, .int p2), (2, .int p3), (3, .int p4)]) (st' := [.int (0 : Int32)]) rfl ?_
  exact jv_Ev.ret jv_i123 rfl (jv_ret_b (by decide))

set_option maxRecDepth 100000 in
/-- ProgramBox.make: it throws -/
theorem jx_e769 (hTb : jv_TOk jv_Tb) (p0 : Int32) (p1 : Int32) (p2 : Int32) (p3 : Int32) (p4 : Int32) (p5 : Int32) (g1 : p1 = (2 : Int32)) (g2 : ¬ p2 = (0 : Int32)) : jx_Th 420 [.ref 0, .int p1, .int p2, .int p3, .int p4] (jv_H (jx_K 227) jx_If jx_L0 (jx_R 227)) 227 1572950 1 (jv_H (jx_K 227) jx_If jx_L0 (jx_R 227)) 228 1572956 := by
  refine jx_Th.of hTb (y := 420) rfl (Nat.le_of_ble_eq_true rfl) ?_
  intro p l e R s m args below meth c E hl F hZ h0 ht hRc hRs
  show jw p l e R s m args below meth c E 5 227 1572950 _ 0 [(0, .ref 0), (1, .int p1), (2, .int p2), (3, .int p3), (4, .int p4)] [] (jv_H (jx_K 227) jx_If jx_L0 (jx_R 227)) 227 1572950
  refine jw.steps F jv_i420 4 (pc' := 5) (l' := [(0, .ref 0), (1, .int p1), (2, .int p2), (3, .int p3), (4, .int p4)]) (st' := [.int p4, .int p3, .int p2, .int p1]) rfl ?_
  refine jw.ca hTb F jv_i420 (pc' := 8) (S' := [.int (0 : Int32)]) rfl jv_i123 [.int p1, .int p2, .int p3, .int p4] rfl rfl rfl rfl rfl rfl (jx_e768 p0 p1 p2 p3 p4 p5 g1 g2) (by omega) (by omega) rfl rfl ?_
  refine jw.br F jv_i420 (pc' := 11) (st' := []) rfl (jv_bi_ne.trans (jx_gof (by decide))) ?_
  exact jw.throw hl F hZ h0 rfl jv_i420 ht 1 69 "no map is like this" (List.mem_of_getElem? (i := 2) rfl) (by decide +kernel) (by decide +kernel) (by decide +kernel) (by decide +kernel) (by decide +kernel) rfl (by decide) (by decide) (by decide) (by omega) (by omega)

set_option maxRecDepth 100000 in
/-- the law's make -/
theorem jx_w770 (hTb : jv_TOk jv_Tb) (hT2 : jx_T2Ok) (p0 : Int32) (p1 : Int32) (p2 : Int32) (p3 : Int32) (p4 : Int32) (p5 : Int32) (g1 : p1 = (2 : Int32)) (g2 : ¬ p2 = (0 : Int32)) : jx_Wr 442 [(0, 14, 17, 19), (0, 14, 21, 13)] [.ref 0, .int p1, .int p2, .int p3, .int p4, .ref 226] (jv_H (jx_K 227) jx_If jx_L0 (jx_R 227)) 227 1572950 (some (.int (1 : Int32)), (jv_H (jx_K 227) jx_If jx_L0 (jx_R 227)), 228, 1572956) := by
  refine jx_Wr.of hT2 (by decide) rfl (Nat.le_of_ble_eq_true rfl) ?_
  intro p l e R s m args below meth c E hl F hZ htb hRc hRs
  show jw p l e R s m args below meth c E 7 227 1572950 _ 0 [(0, .ref 0), (1, .int p1), (2, .int p2), (3, .int p3), (4, .int p4), (5, .ref 226)] [] (jv_H (jx_K 227) jx_If jx_L0 (jx_R 227)) 227 1572950
  have hRc : R.cells = 228 - 227 := hRc
  have hRs : R.slots = 1572956 - 1572950 := hRs
  refine jw.steps F jx_i442 7 (pc' := 9) (l' := [(0, .ref 0), (1, .int p1), (2, .int p2), (3, .int p3), (4, .int p4), (5, .ref 226)]) (st' := [.int p4, .int p3, .int p2, .int p1, .ref 0, .int (0 : Int32), .ref 226]) rfl ?_
  refine jw.cat hTb hl F hZ rfl jx_i442 htb rfl jv_i420 [.ref 0, .int p1, .int p2, .int p3, .int p4] rfl rfl rfl rfl rfl (jx_cal2 rfl (jv_H_at rfl) rfl rfl) rfl (jx_e769 hTb p0 p1 p2 p3 p4 p5 g1 g2) (by omega) (by omega) (by omega) (by omega) [] (0, 14, 17, 19) [(0, 14, 21, 13)] rfl (fun z h => absurd h List.not_mem_nil) (by decide) rfl rfl (Or.inl ⟨rfl, rfl⟩) (by decide) ?_
  refine jw.steps F jx_i442 1 (pc' := 20) (l' := []) (st' := [.int (1 : Int32)]) rfl ?_
  exact jw.ret F jx_i442 rfl rfl

set_option maxRecDepth 100000 in
/-- ProgramBoxModel$Store.isProper -/
theorem jx_e771 (p0 : Int32) (p1 : Int32) (p2 : Int32) (p3 : Int32) (p4 : Int32) (p5 : Int32) (g1 : p1 = (2 : Int32)) (g2 : ¬ p2 = (0 : Int32)) : jv_Ms 322 [.int p1, .int p2, .int p3, .int p4] (jv_H (jx_K 227) jx_If jx_L0 (jx_R 227)) 228 1572956 (some (.int (0 : Int32)), (jv_H (jx_K 227) jx_If jx_L0 (jx_R 227)), 228, 1572956) := by
  show jv_Ev 322 0 [(0, .int p1), (1, .int p2), (2, .int p3), (3, .int p4)] [] (jv_H (jx_K 227) jx_If jx_L0 (jx_R 227)) 228 1572956 _
  refine jv_Ev.steps jv_i322 2 (pc' := 2) (l' := [(0, .int p1), (1, .int p2), (2, .int p3), (3, .int p4)]) (st' := [.int (2 : Int32), .int p1]) rfl ?_
  refine jv_Ev.br jv_i322 (pc' := 5) (st' := []) rfl (jv_bc_ne.trans (jx_gof (by rw [g1] <;> decide))) ?_
  refine jv_Ev.steps jv_i322 1 (pc' := 6) (l' := [(0, .int p1), (1, .int p2), (2, .int p3), (3, .int p4)]) (st' := [.int p2]) rfl ?_
  refine jv_Ev.br jv_i322 (pc' := 36) (st' := []) rfl (jv_bi_ne.trans (jx_got g2)) ?_
  refine jv_Ev.steps jv_i322 1 (pc' := 37) (l' := [(0, .int p1), (1, .int p2), (2, .int p3), (3, .int p4)]) (st' := [.int (0 : Int32)]) rfl ?_
  exact jv_Ev.ret jv_i322 rfl (jv_ret_b (by decide))

set_option maxRecDepth 100000 in
/-- ProgramBoxModel$Store.make -/
theorem jx_e772 (p0 : Int32) (p1 : Int32) (p2 : Int32) (p3 : Int32) (p4 : Int32) (p5 : Int32) (g1 : p1 = (2 : Int32)) (g2 : ¬ p2 = (0 : Int32)) : jv_Ms 323 [.ref 180, .int p1, .int p2, .int p3, .int p4] (jv_H (jx_K 227) jx_If jx_L0 (jx_R 227)) 228 1572956 (some (.int (0 : Int32)), (jv_H (jx_K 227) (jv_u jx_If 180 0 (1 : Int32)) jx_L0 (jx_R 227)), 228, 1572956) := by
  show jv_Ev 323 0 [(0, .ref 180), (1, .int p1), (2, .int p2), (3, .int p3), (4, .int p4)] [] (jv_H (jx_K 227) jx_If jx_L0 (jx_R 227)) 228 1572956 _
  refine jv_Ev.steps jv_i323 5 (pc' := 6) (l' := [(0, .ref 180), (1, .int p1), (2, .int p2), (3, .int p3), (4, .int p4)]) (st' := [.int p4, .int p3, .int p2, .int p1, .ref 180]) rfl ?_
  refine jv_Ev.c jv_i323 (pc' := 9) (S' := [.int (0 : Int32), .ref 180]) jv_i322 [.int p1, .int p2, .int p3, .int p4] rfl rfl rfl rfl rfl rfl (jx_e771 p0 p1 p2 p3 p4 p5 g1 g2) rfl rfl ?_
  refine jv_Ev.br jv_i323 (pc' := 16) (st' := [.ref 180]) rfl (jv_bi_eq.trans (jx_got (by decide))) ?_
  refine jv_Ev.steps jv_i323 1 (pc' := 17) (l' := [(0, .ref 180), (1, .int p1), (2, .int p2), (3, .int p3), (4, .int p4)]) (st' := [.int (1 : Int32), .ref 180]) rfl ?_
  refine jv_Ev.m jv_i323 (pc' := 20) (st' := []) rfl rfl (jv_m_putI rfl rfl rfl rfl rfl) ?_
  refine jv_Ev.steps jv_i323 1 (pc' := 21) (l' := [(0, .ref 180), (1, .int p1), (2, .int p2), (3, .int p3), (4, .int p4)]) (st' := [.ref 180]) rfl ?_
  refine jv_Ev.m jv_i323 (pc' := 24) (st' := [.int (1 : Int32)]) rfl rfl (jv_m_getI rfl rfl rfl rfl) ?_
  refine jv_Ev.br jv_i323 (pc' := 27) (st' := []) rfl (jv_bi_le.trans (jx_gof (by decide))) ?_
  refine jv_Ev.steps jv_i323 1 (pc' := 28) (l' := [(0, .ref 180), (1, .int p1), (2, .int p2), (3, .int p3), (4, .int p4)]) (st' := [.int (0 : Int32)]) rfl ?_
  exact jv_Ev.ret jv_i323 rfl rfl

set_option maxRecDepth 100000 in
/-- ProgramBoxModel$Store.thrown -/
theorem jx_e773 (p0 : Int32) (p1 : Int32) (p2 : Int32) (p3 : Int32) (p4 : Int32) (p5 : Int32) (g1 : p1 = (2 : Int32)) (g2 : ¬ p2 = (0 : Int32)) : jv_Ms 318 [.ref 180] (jv_H (jx_K 227) (jv_u jx_If 180 0 (1 : Int32)) jx_L0 (jx_R 227)) 228 1572956 (some (.int (1 : Int32)), (jv_H (jx_K 227) (jv_u jx_If 180 0 (1 : Int32)) jx_L0 (jx_R 227)), 228, 1572956) := by
  show jv_Ev 318 0 [(0, .ref 180)] [] (jv_H (jx_K 227) (jv_u jx_If 180 0 (1 : Int32)) jx_L0 (jx_R 227)) 228 1572956 _
  refine jv_Ev.steps jv_i318 1 (pc' := 1) (l' := [(0, .ref 180)]) (st' := [.ref 180]) rfl ?_
  refine jv_Ev.m jv_i318 (pc' := 4) (st' := [.int (1 : Int32)]) rfl rfl (jv_m_getI rfl rfl rfl rfl) ?_
  exact jv_Ev.ret jv_i318 rfl rfl

set_option maxRecDepth 100000 in
/-- ProgramBoxModel.make -/
theorem jx_e774 (p0 : Int32) (p1 : Int32) (p2 : Int32) (p3 : Int32) (p4 : Int32) (p5 : Int32) (g1 : p1 = (2 : Int32)) (g2 : ¬ p2 = (0 : Int32)) : jv_Ms 353 [.ref 178, .int p1, .int p2, .int p3, .int p4] (jv_H (jx_K 227) jx_If jx_L0 (jx_R 227)) 228 1572956 (some (.int (0 : Int32)), (jv_H (jx_K 227) (jv_u (jv_u jx_If 180 0 (1 : Int32)) 178 0 (1 : Int32)) jx_L0 (jx_R 227)), 228, 1572956) := by
  show jv_Ev 353 0 [(0, .ref 178), (1, .int p1), (2, .int p2), (3, .int p3), (4, .int p4)] [] (jv_H (jx_K 227) jx_If jx_L0 (jx_R 227)) 228 1572956 _
  refine jv_Ev.steps jv_i353 1 (pc' := 1) (l' := [(0, .ref 178), (1, .int p1), (2, .int p2), (3, .int p3), (4, .int p4)]) (st' := [.ref 178]) rfl ?_
  refine jv_Ev.m jv_i353 (pc' := 4) (st' := [.ref 180]) rfl rfl (jv_m_getR rfl rfl rfl rfl) ?_
  refine jv_Ev.steps jv_i353 4 (pc' := 9) (l' := [(0, .ref 178), (1, .int p1), (2, .int p2), (3, .int p3), (4, .int p4)]) (st' := [.int p4, .int p3, .int p2, .int p1, .ref 180]) rfl ?_
  refine jv_Ev.c jv_i353 (pc' := 12) (S' := [.int (0 : Int32)]) jv_i323 [.ref 180, .int p1, .int p2, .int p3, .int p4] rfl rfl rfl rfl (jv_cal rfl (jv_H_at rfl) rfl rfl) rfl (jx_e772 p0 p1 p2 p3 p4 p5 g1 g2) rfl rfl ?_
  refine jv_Ev.steps jv_i353 3 (pc' := 16) (l' := [(5, .int (0 : Int32)), (0, .ref 178), (1, .int p1), (2, .int p2), (3, .int p3), (4, .int p4)]) (st' := [.ref 178, .ref 178]) rfl ?_
  refine jv_Ev.m jv_i353 (pc' := 19) (st' := [.ref 180, .ref 178]) rfl rfl (jv_m_getR rfl rfl rfl rfl) ?_
  refine jv_Ev.c jv_i353 (pc' := 22) (S' := [.int (1 : Int32), .ref 178]) jv_i318 [.ref 180] rfl rfl rfl rfl (jv_cal rfl (jv_H_at rfl) rfl rfl) rfl (jx_e773 p0 p1 p2 p3 p4 p5 g1 g2) rfl rfl ?_
  refine jv_Ev.m jv_i353 (pc' := 25) (st' := []) rfl rfl (jv_m_putI rfl rfl rfl rfl rfl) ?_
  refine jv_Ev.steps jv_i353 1 (pc' := 26) (l' := [(5, .int (0 : Int32)), (0, .ref 178), (1, .int p1), (2, .int p2), (3, .int p3), (4, .int p4)]) (st' := [.ref 178]) rfl ?_
  refine jv_Ev.m jv_i353 (pc' := 29) (st' := [.int (1 : Int32)]) rfl rfl (jv_m_getI rfl rfl rfl rfl) ?_
  refine jv_Ev.br jv_i353 (pc' := 67) (st' := []) rfl (jv_bi_ne.trans (jx_got (by decide))) ?_
  refine jv_Ev.steps jv_i353 1 (pc' := 69) (l' := [(5, .int (0 : Int32)), (0, .ref 178), (1, .int p1), (2, .int p2), (3, .int p3), (4, .int p4)]) (st' := [.int (0 : Int32)]) rfl ?_
  exact jv_Ev.ret jv_i353 rfl rfl

set_option maxRecDepth 100000 in
/-- ProgramBoxModel.thrown -/
theorem jx_e775 (p0 : Int32) (p1 : Int32) (p2 : Int32) (p3 : Int32) (p4 : Int32) (p5 : Int32) (g1 : p1 = (2 : Int32)) (g2 : ¬ p2 = (0 : Int32)) : jv_Ms 350 [.ref 178] (jv_H (jx_K 227) (jv_u (jv_u jx_If 180 0 (1 : Int32)) 178 0 (1 : Int32)) jx_L0 (jx_R 227)) 228 1572956 (some (.int (1 : Int32)), (jv_H (jx_K 227) (jv_u (jv_u jx_If 180 0 (1 : Int32)) 178 0 (1 : Int32)) jx_L0 (jx_R 227)), 228, 1572956) := by
  show jv_Ev 350 0 [(0, .ref 178)] [] (jv_H (jx_K 227) (jv_u (jv_u jx_If 180 0 (1 : Int32)) 178 0 (1 : Int32)) jx_L0 (jx_R 227)) 228 1572956 _
  refine jv_Ev.steps jv_i350 1 (pc' := 1) (l' := [(0, .ref 178)]) (st' := [.ref 178]) rfl ?_
  refine jv_Ev.m jv_i350 (pc' := 4) (st' := [.int (1 : Int32)]) rfl rfl (jv_m_getI rfl rfl rfl rfl) ?_
  exact jv_Ev.ret jv_i350 rfl rfl

set_option maxRecDepth 100000 in
/-- the law: case 2, one way -/
theorem jx_l89 (p0 : Int32) (p1 : Int32) (p2 : Int32) (p3 : Int32) (p4 : Int32) (p5 : Int32) (g1 : p1 = (2 : Int32)) (g2 : ¬ p2 = (0 : Int32)) (hsw : p0 &&& (31 : Int32) = (2 : Int32)) {p : Program} {l : Launch} {e : Env} {R : Room} {s : State} {m : MethodId} {args : Array Value} {below : List Frame} {meth : Method} {c : Code} {E : jv_Env} {Q : State → Prop} (hTb : jv_TOk jv_Tb) (hT2 : jx_T2Ok) (hl : l.stackTraces = false) (F : jx_F jv_T2 439 E p R s m args meth c) (hZ : jx_Z E s) (hRc : R.cells = 600002) (hRs : R.slots = 7302232) {bb : Nat} {xs : Nat → Int32} (hX : va_X bb 6 xs s E.2.2.2.2) (hbB : bb < E.2.2.2.1) (hE2 : E.1 1000002 = bb) (hQ : ∀ (l0 : jv_L) (G : jv_G) (n sl : Nat), n ≤ 600002 → sl ≤ 7302232 → jw p l e R s m args below meth c E 8 0 0 Q 1532 l0 [.int (1 : Int32)] G n sl) (q0 : xs 0 = p0) (q1 : xs 1 = p1) (q2 : xs 2 = p2) (q3 : xs 3 = p3) (q4 : xs 4 = p4) (q5 : xs 5 = p5) : jw p l e R s m args below meth c E 8 0 0 Q 33 [(0, .ref 1000002), (1, .ref 0), (2, .ref 178), (3, .ref 226), (4, .int (0 : Int32))] [] (jv_H (jx_K 227) jx_If jx_L0 (jx_R 227)) 227 1572950 := by
  refine jw.steps F jx_i439 2 (pc' := 36) (l' := [(0, .ref 1000002), (1, .ref 0), (2, .ref 178), (3, .ref 226), (4, .int (0 : Int32))]) (st' := [.int (0 : Int32), .ref 1000002]) rfl ?_
  refine jw.sld F jx_i439 hX hbB hE2 (pc' := 37) rfl rfl (show vp_in (nI 0) 6 from vp_in_nI (by decide) (by decide)) q0 rfl ?_
  refine jw.steps F jx_i439 2 (pc' := 40) (l' := [(0, .ref 1000002), (1, .ref 0), (2, .ref 178), (3, .ref 226), (4, .int (0 : Int32))]) (st' := [.int (p0 &&& (31 : Int32))]) rfl ?_
  refine jw.br F jx_i439 (pc' := 304) (st' := []) rfl (by rw [hsw]; rfl) ?_
  refine jw.steps F jx_i439 5 (pc' := 310) (l' := [(0, .ref 1000002), (1, .ref 0), (2, .ref 178), (3, .ref 226), (4, .int (0 : Int32))]) (st' := [.int (1 : Int32), .ref 1000002, .ref 0]) rfl ?_
  refine jw.sld F jx_i439 hX hbB hE2 (pc' := 311) rfl rfl (show vp_in (nI 1) 6 from vp_in_nI (by decide) (by decide)) q1 rfl ?_
  refine jw.steps F jx_i439 4 (pc' := 316) (l' := [(0, .ref 1000002), (1, .ref 0), (2, .ref 178), (3, .ref 226), (4, .int (0 : Int32))]) (st' := [.int (2 : Int32), .ref 1000002, .int p1, .ref 0]) rfl ?_
  refine jw.sld F jx_i439 hX hbB hE2 (pc' := 317) rfl rfl (show vp_in (nI 2) 6 from vp_in_nI (by decide) (by decide)) q2 rfl ?_
  refine jw.steps F jx_i439 4 (pc' := 322) (l' := [(0, .ref 1000002), (1, .ref 0), (2, .ref 178), (3, .ref 226), (4, .int (0 : Int32))]) (st' := [.int (3 : Int32), .ref 1000002, .int p2, .int p1, .ref 0]) rfl ?_
  refine jw.sld F jx_i439 hX hbB hE2 (pc' := 323) rfl rfl (show vp_in (nI 3) 6 from vp_in_nI (by decide) (by decide)) q3 rfl ?_
  refine jw.steps F jx_i439 4 (pc' := 328) (l' := [(0, .ref 1000002), (1, .ref 0), (2, .ref 178), (3, .ref 226), (4, .int (0 : Int32))]) (st' := [.int (4 : Int32), .ref 1000002, .int p3, .int p2, .int p1, .ref 0]) rfl ?_
  refine jw.sld F jx_i439 hX hbB hE2 (pc' := 329) rfl rfl (show vp_in (nI 4) 6 from vp_in_nI (by decide) (by decide)) q4 rfl ?_
  refine jw.steps F jx_i439 1 (pc' := 330) (l' := [(0, .ref 1000002), (1, .ref 0), (2, .ref 178), (3, .ref 226), (4, .int (0 : Int32))]) (st' := [.ref 226, .int p4, .int p3, .int p2, .int p1, .ref 0]) rfl ?_
  refine jw.wr F hl hZ rfl jx_i439 jx_i442 [.ref 0, .int p1, .int p2, .int p3, .int p4, .ref 226] (pc' := 333) (S' := [.int (1 : Int32)]) rfl (List.mem_of_getElem? (i := 2) rfl) (List.mem_of_getElem? (i := 2) rfl) rfl rfl rfl (jx_w770 hTb hT2 p0 p1 p2 p3 p4 p5 g1 g2) (by omega) (by omega) (by omega) (by omega) rfl rfl ?_
  refine jw.steps F jx_i439 6 (pc' := 341) (l' := [(5, .int (1 : Int32)), (0, .ref 1000002), (1, .ref 0), (2, .ref 178), (3, .ref 226), (4, .int (0 : Int32))]) (st' := [.int (1 : Int32), .ref 1000002, .ref 178]) rfl ?_
  refine jw.sld F jx_i439 hX hbB hE2 (pc' := 342) rfl rfl (show vp_in (nI 1) 6 from vp_in_nI (by decide) (by decide)) q1 rfl ?_
  refine jw.steps F jx_i439 4 (pc' := 347) (l' := [(5, .int (1 : Int32)), (0, .ref 1000002), (1, .ref 0), (2, .ref 178), (3, .ref 226), (4, .int (0 : Int32))]) (st' := [.int (2 : Int32), .ref 1000002, .int p1, .ref 178]) rfl ?_
  refine jw.sld F jx_i439 hX hbB hE2 (pc' := 348) rfl rfl (show vp_in (nI 2) 6 from vp_in_nI (by decide) (by decide)) q2 rfl ?_
  refine jw.steps F jx_i439 4 (pc' := 353) (l' := [(5, .int (1 : Int32)), (0, .ref 1000002), (1, .ref 0), (2, .ref 178), (3, .ref 226), (4, .int (0 : Int32))]) (st' := [.int (3 : Int32), .ref 1000002, .int p2, .int p1, .ref 178]) rfl ?_
  refine jw.sld F jx_i439 hX hbB hE2 (pc' := 354) rfl rfl (show vp_in (nI 3) 6 from vp_in_nI (by decide) (by decide)) q3 rfl ?_
  refine jw.steps F jx_i439 4 (pc' := 359) (l' := [(5, .int (1 : Int32)), (0, .ref 1000002), (1, .ref 0), (2, .ref 178), (3, .ref 226), (4, .int (0 : Int32))]) (st' := [.int (4 : Int32), .ref 1000002, .int p3, .int p2, .int p1, .ref 178]) rfl ?_
  refine jw.sld F jx_i439 hX hbB hE2 (pc' := 360) rfl rfl (show vp_in (nI 4) 6 from vp_in_nI (by decide) (by decide)) q4 rfl ?_
  refine jw.ca hTb F jx_i439 (pc' := 363) (S' := [.int (0 : Int32)]) rfl jv_i353 [.ref 178, .int p1, .int p2, .int p3, .int p4] rfl rfl rfl rfl (jx_cal2 rfl (jv_H_at rfl) rfl rfl) rfl (jx_e774 p0 p1 p2 p3 p4 p5 g1 g2) (by omega) (by omega) rfl rfl ?_
  refine jw.steps F jx_i439 2 (pc' := 366) (l' := [(6, .int (0 : Int32)), (5, .int (1 : Int32)), (0, .ref 1000002), (1, .ref 0), (2, .ref 178), (3, .ref 226), (4, .int (0 : Int32))]) (st' := [.ref 178]) rfl ?_
  refine jw.ca hTb F jx_i439 (pc' := 369) (S' := [.int (1 : Int32)]) rfl jv_i350 [.ref 178] rfl rfl rfl rfl (jx_cal2 rfl (jv_H_at rfl) rfl rfl) rfl (jx_e775 p0 p1 p2 p3 p4 p5 g1 g2) (by omega) (by omega) rfl rfl ?_
  refine jw.steps F jx_i439 1 (pc' := 371) (l' := [(6, .int (0 : Int32)), (5, .int (1 : Int32)), (0, .ref 1000002), (1, .ref 0), (2, .ref 178), (3, .ref 226), (4, .int (0 : Int32))]) (st' := [.int (1 : Int32), .int (1 : Int32)]) rfl ?_
  refine jw.br F jx_i439 (pc' := 376) (st' := []) rfl (jv_bc_eq.trans (jx_got (by decide))) ?_
  refine jw.steps F jx_i439 1 (pc' := 378) (l' := [(6, .int (0 : Int32)), (5, .int (1 : Int32)), (0, .ref 1000002), (1, .ref 0), (2, .ref 178), (3, .ref 226), (4, .int (0 : Int32))]) (st' := [.int (1 : Int32)]) rfl ?_
  refine jw.br F jx_i439 (pc' := 393) (st' := []) rfl (jv_bi_ne.trans (jx_got (by decide))) ?_
  refine jw.steps F jx_i439 5 (pc' := 26) (l' := [(4, .int (6 : Int32)), (6, .int (0 : Int32)), (5, .int (1 : Int32)), (0, .ref 1000002), (1, .ref 0), (2, .ref 178), (3, .ref 226)]) (st' := [.ref 1000002, .int (6 : Int32)]) rfl ?_
  refine jw.slen F jx_i439 hX hbB hE2 (pc' := 27) rfl rfl rfl ?_
  refine jw.steps F jx_i439 2 (pc' := 30) (l' := [(4, .int (6 : Int32)), (6, .int (0 : Int32)), (5, .int (1 : Int32)), (0, .ref 1000002), (1, .ref 0), (2, .ref 178), (3, .ref 226)]) (st' := [.int (0 : Int32), .int (6 : Int32)]) rfl ?_
  refine jw.br F jx_i439 (pc' := 1531) (st' := []) rfl (jv_bc_gt.trans (jx_got (by decide))) ?_
  refine jw.steps F jx_i439 1 (pc' := 1532) (l' := [(4, .int (6 : Int32)), (6, .int (0 : Int32)), (5, .int (1 : Int32)), (0, .ref 1000002), (1, .ref 0), (2, .ref 178), (3, .ref 226)]) (st' := [.int (1 : Int32)]) rfl ?_
  exact hQ _ _ _ _ (by omega) (by omega)

set_option maxRecDepth 100000 in
/-- ProgramBox$Store.isShape -/
theorem jx_e776 (p0 : Int32) (p1 : Int32) (p2 : Int32) (p3 : Int32) (p4 : Int32) (p5 : Int32) (g1 : ¬ p1 = (2 : Int32)) (g2 : p1 = (0 : Int32)) (g3 : p2 = (4 : Int32)) (g4 : p3 < (1 : Int32)) : jv_Ms 123 [.int p1, .int p2, .int p3, .int p4] (jv_H (jx_K 227) jx_If jx_L0 (jx_R 227)) 227 1572950 (some (.int (0 : Int32)), (jv_H (jx_K 227) jx_If jx_L0 (jx_R 227)), 227, 1572950) := by
  show jv_Ev 123 0 [(0, .int p1), (1, .int p2), (2, .int p3), (3, .int p4)] [] (jv_H (jx_K 227) jx_If jx_L0 (jx_R 227)) 227 1572950 _
  refine jv_Ev.steps jv_i123 2 (pc' := 2) (l' := [(0, .int p1), (1, .int p2), (2, .int p3), (3, .int p4)]) (st' := [.int (2 : Int32), .int p1]) rfl ?_
  refine jv_Ev.br jv_i123 (pc' := 40) (st' := []) rfl (jv_bc_ne.trans (jx_got (by rw [g2] <;> decide))) ?_
  refine jv_Ev.steps jv_i123 1 (pc' := 41) (l' := [(0, .int p1), (1, .int p2), (2, .int p3), (3, .int p4)]) (st' := [.int p1]) rfl ?_
  refine jv_Ev.br jv_i123 (pc' := 44) (st' := []) rfl (jv_bi_ne.trans (jx_gof (by rw [g2] <;> decide))) ?_
  refine jv_Ev.steps jv_i123 2 (pc' := 46) (l' := [(0, .int p1), (1, .int p2), (2, .int p3), (3, .int p4)]) (st' := [.int (4 : Int32), .int p2]) rfl ?_
  refine jv_Ev.br jv_i123 (pc' := 49) (st' := []) rfl (jv_bc_ne.trans (jx_gof (by rw [g3] <;> decide))) ?_
  refine jv_Ev.steps jv_i123 4 (pc' := 82) (l' := [(4, .int (1 : Int32)), (0, .int p1), (1, .int p2), (2, .int p3), (3, .int p4)]) (st' := [.int (1 : Int32)]) rfl ?_
  refine jv_Ev.br jv_i123 (pc' := 85) (st' := []) rfl (jv_bi_eq.trans (jx_gof (by decide))) ?_
  refine jv_Ev.steps jv_i123 2 (pc' := 87) (l' := [(4, .int (1 : Int32)), (0, .int p1), (1, .int p2), (2, .int p3), (3, .int p4)]) (st' := [.int (1 : Int32), .int p3]) rfl ?_
  refine jv_Ev.br jv_i123 (pc' := 113) (st' := []) rfl (jv_bc_lt.trans (jx_got g4)) ?_
  refine jv_Ev.steps jv_i123 1 (pc' := 114) (l' := [(4, .int (1 : Int32)), (0, .int p1), (1, .int p2), (2, .int p3), (3, .int p4)]) (st' := [.int (0 : Int32)]) rfl ?_
  exact jv_Ev.ret jv_i123 rfl (jv_ret_b (by decide))

set_option maxRecDepth 100000 in
/-- ProgramBox.make: it throws -/
theorem jx_e777 (hTb : jv_TOk jv_Tb) (p0 : Int32) (p1 : Int32) (p2 : Int32) (p3 : Int32) (p4 : Int32) (p5 : Int32) (g1 : ¬ p1 = (2 : Int32)) (g2 : p1 = (0 : Int32)) (g3 : p2 = (4 : Int32)) (g4 : p3 < (1 : Int32)) : jx_Th 420 [.ref 0, .int p1, .int p2, .int p3, .int p4] (jv_H (jx_K 227) jx_If jx_L0 (jx_R 227)) 227 1572950 1 (jv_H (jx_K 227) jx_If jx_L0 (jx_R 227)) 228 1572956 := by
  refine jx_Th.of hTb (y := 420) rfl (Nat.le_of_ble_eq_true rfl) ?_
  intro p l e R s m args below meth c E hl F hZ h0 ht hRc hRs
  show jw p l e R s m args below meth c E 5 227 1572950 _ 0 [(0, .ref 0), (1, .int p1), (2, .int p2), (3, .int p3), (4, .int p4)] [] (jv_H (jx_K 227) jx_If jx_L0 (jx_R 227)) 227 1572950
  refine jw.steps F jv_i420 4 (pc' := 5) (l' := [(0, .ref 0), (1, .int p1), (2, .int p2), (3, .int p3), (4, .int p4)]) (st' := [.int p4, .int p3, .int p2, .int p1]) rfl ?_
  refine jw.ca hTb F jv_i420 (pc' := 8) (S' := [.int (0 : Int32)]) rfl jv_i123 [.int p1, .int p2, .int p3, .int p4] rfl rfl rfl rfl rfl rfl (jx_e776 p0 p1 p2 p3 p4 p5 g1 g2 g3 g4) (by omega) (by omega) rfl rfl ?_
  refine jw.br F jv_i420 (pc' := 11) (st' := []) rfl (jv_bi_ne.trans (jx_gof (by decide))) ?_
  exact jw.throw hl F hZ h0 rfl jv_i420 ht 1 69 "no map is like this" (List.mem_of_getElem? (i := 2) rfl) (by decide +kernel) (by decide +kernel) (by decide +kernel) (by decide +kernel) (by decide +kernel) rfl (by decide) (by decide) (by decide) (by omega) (by omega)

set_option maxRecDepth 100000 in
/-- the law's make -/
theorem jx_w778 (hTb : jv_TOk jv_Tb) (hT2 : jx_T2Ok) (p0 : Int32) (p1 : Int32) (p2 : Int32) (p3 : Int32) (p4 : Int32) (p5 : Int32) (g1 : ¬ p1 = (2 : Int32)) (g2 : p1 = (0 : Int32)) (g3 : p2 = (4 : Int32)) (g4 : p3 < (1 : Int32)) : jx_Wr 442 [(0, 14, 17, 19), (0, 14, 21, 13)] [.ref 0, .int p1, .int p2, .int p3, .int p4, .ref 226] (jv_H (jx_K 227) jx_If jx_L0 (jx_R 227)) 227 1572950 (some (.int (1 : Int32)), (jv_H (jx_K 227) jx_If jx_L0 (jx_R 227)), 228, 1572956) := by
  refine jx_Wr.of hT2 (by decide) rfl (Nat.le_of_ble_eq_true rfl) ?_
  intro p l e R s m args below meth c E hl F hZ htb hRc hRs
  show jw p l e R s m args below meth c E 7 227 1572950 _ 0 [(0, .ref 0), (1, .int p1), (2, .int p2), (3, .int p3), (4, .int p4), (5, .ref 226)] [] (jv_H (jx_K 227) jx_If jx_L0 (jx_R 227)) 227 1572950
  have hRc : R.cells = 228 - 227 := hRc
  have hRs : R.slots = 1572956 - 1572950 := hRs
  refine jw.steps F jx_i442 7 (pc' := 9) (l' := [(0, .ref 0), (1, .int p1), (2, .int p2), (3, .int p3), (4, .int p4), (5, .ref 226)]) (st' := [.int p4, .int p3, .int p2, .int p1, .ref 0, .int (0 : Int32), .ref 226]) rfl ?_
  refine jw.cat hTb hl F hZ rfl jx_i442 htb rfl jv_i420 [.ref 0, .int p1, .int p2, .int p3, .int p4] rfl rfl rfl rfl rfl (jx_cal2 rfl (jv_H_at rfl) rfl rfl) rfl (jx_e777 hTb p0 p1 p2 p3 p4 p5 g1 g2 g3 g4) (by omega) (by omega) (by omega) (by omega) [] (0, 14, 17, 19) [(0, 14, 21, 13)] rfl (fun z h => absurd h List.not_mem_nil) (by decide) rfl rfl (Or.inl ⟨rfl, rfl⟩) (by decide) ?_
  refine jw.steps F jx_i442 1 (pc' := 20) (l' := []) (st' := [.int (1 : Int32)]) rfl ?_
  exact jw.ret F jx_i442 rfl rfl

set_option maxRecDepth 100000 in
/-- ProgramBoxModel$Store.isIn -/
theorem jx_e779 (p0 : Int32) (p1 : Int32) (p2 : Int32) (p3 : Int32) (p4 : Int32) (p5 : Int32) (g1 : ¬ p1 = (2 : Int32)) (g2 : p1 = (0 : Int32)) (g3 : p2 = (4 : Int32)) (g4 : p3 < (1 : Int32)) : jv_Ms 320 [.int p3, .int (1 : Int32), .int (256 : Int32)] (jv_H (jx_K 227) jx_If jx_L0 (jx_R 227)) 228 1572956 (some (.int (0 : Int32)), (jv_H (jx_K 227) jx_If jx_L0 (jx_R 227)), 228, 1572956) := by
  show jv_Ev 320 0 [(0, .int p3), (1, .int (1 : Int32)), (2, .int (256 : Int32))] [] (jv_H (jx_K 227) jx_If jx_L0 (jx_R 227)) 228 1572956 _
  refine jv_Ev.steps jv_i320 2 (pc' := 2) (l' := [(0, .int p3), (1, .int (1 : Int32)), (2, .int (256 : Int32))]) (st' := [.int (1 : Int32), .int p3]) rfl ?_
  refine jv_Ev.br jv_i320 (pc' := 14) (st' := []) rfl (jv_bc_lt.trans (jx_got g4)) ?_
  refine jv_Ev.steps jv_i320 1 (pc' := 15) (l' := [(0, .int p3), (1, .int (1 : Int32)), (2, .int (256 : Int32))]) (st' := [.int (0 : Int32)]) rfl ?_
  exact jv_Ev.ret jv_i320 rfl (jv_ret_b (by decide))

set_option maxRecDepth 100000 in
/-- ProgramBoxModel$Store.isProper -/
theorem jx_e780 (p0 : Int32) (p1 : Int32) (p2 : Int32) (p3 : Int32) (p4 : Int32) (p5 : Int32) (g1 : ¬ p1 = (2 : Int32)) (g2 : p1 = (0 : Int32)) (g3 : p2 = (4 : Int32)) (g4 : p3 < (1 : Int32)) : jv_Ms 322 [.int p1, .int p2, .int p3, .int p4] (jv_H (jx_K 227) jx_If jx_L0 (jx_R 227)) 228 1572956 (some (.int (0 : Int32)), (jv_H (jx_K 227) jx_If jx_L0 (jx_R 227)), 228, 1572956) := by
  show jv_Ev 322 0 [(0, .int p1), (1, .int p2), (2, .int p3), (3, .int p4)] [] (jv_H (jx_K 227) jx_If jx_L0 (jx_R 227)) 228 1572956 _
  refine jv_Ev.steps jv_i322 2 (pc' := 2) (l' := [(0, .int p1), (1, .int p2), (2, .int p3), (3, .int p4)]) (st' := [.int (2 : Int32), .int p1]) rfl ?_
  refine jv_Ev.br jv_i322 (pc' := 38) (st' := []) rfl (jv_bc_ne.trans (jx_got (by rw [g2] <;> decide))) ?_
  refine jv_Ev.steps jv_i322 1 (pc' := 39) (l' := [(0, .int p1), (1, .int p2), (2, .int p3), (3, .int p4)]) (st' := [.int p1]) rfl ?_
  refine jv_Ev.br jv_i322 (pc' := 42) (st' := []) rfl (jv_bi_ne.trans (jx_gof (by rw [g2] <;> decide))) ?_
  refine jv_Ev.steps jv_i322 2 (pc' := 44) (l' := [(0, .int p1), (1, .int p2), (2, .int p3), (3, .int p4)]) (st' := [.int (4 : Int32), .int p2]) rfl ?_
  refine jv_Ev.br jv_i322 (pc' := 47) (st' := []) rfl (jv_bc_ne.trans (jx_gof (by rw [g3] <;> decide))) ?_
  refine jv_Ev.steps jv_i322 4 (pc' := 79) (l' := [(4, .int (1 : Int32)), (0, .int p1), (1, .int p2), (2, .int p3), (3, .int p4)]) (st' := [.int (1 : Int32)]) rfl ?_
  refine jv_Ev.br jv_i322 (pc' := 82) (st' := []) rfl (jv_bi_eq.trans (jx_gof (by decide))) ?_
  refine jv_Ev.steps jv_i322 3 (pc' := 87) (l' := [(4, .int (1 : Int32)), (0, .int p1), (1, .int p2), (2, .int p3), (3, .int p4)]) (st' := [.int (256 : Int32), .int (1 : Int32), .int p3]) rfl ?_
  refine jv_Ev.c jv_i322 (pc' := 90) (S' := [.int (0 : Int32)]) jv_i320 [.int p3, .int (1 : Int32), .int (256 : Int32)] rfl rfl rfl rfl rfl rfl (jx_e779 p0 p1 p2 p3 p4 p5 g1 g2 g3 g4) rfl rfl ?_
  refine jv_Ev.br jv_i322 (pc' := 108) (st' := []) rfl (jv_bi_eq.trans (jx_got (by decide))) ?_
  refine jv_Ev.steps jv_i322 1 (pc' := 109) (l' := [(4, .int (1 : Int32)), (0, .int p1), (1, .int p2), (2, .int p3), (3, .int p4)]) (st' := [.int (0 : Int32)]) rfl ?_
  exact jv_Ev.ret jv_i322 rfl (jv_ret_b (by decide))

set_option maxRecDepth 100000 in
/-- ProgramBoxModel$Store.make -/
theorem jx_e781 (p0 : Int32) (p1 : Int32) (p2 : Int32) (p3 : Int32) (p4 : Int32) (p5 : Int32) (g1 : ¬ p1 = (2 : Int32)) (g2 : p1 = (0 : Int32)) (g3 : p2 = (4 : Int32)) (g4 : p3 < (1 : Int32)) : jv_Ms 323 [.ref 180, .int p1, .int p2, .int p3, .int p4] (jv_H (jx_K 227) jx_If jx_L0 (jx_R 227)) 228 1572956 (some (.int (0 : Int32)), (jv_H (jx_K 227) (jv_u jx_If 180 0 (1 : Int32)) jx_L0 (jx_R 227)), 228, 1572956) := by
  show jv_Ev 323 0 [(0, .ref 180), (1, .int p1), (2, .int p2), (3, .int p3), (4, .int p4)] [] (jv_H (jx_K 227) jx_If jx_L0 (jx_R 227)) 228 1572956 _
  refine jv_Ev.steps jv_i323 5 (pc' := 6) (l' := [(0, .ref 180), (1, .int p1), (2, .int p2), (3, .int p3), (4, .int p4)]) (st' := [.int p4, .int p3, .int p2, .int p1, .ref 180]) rfl ?_
  refine jv_Ev.c jv_i323 (pc' := 9) (S' := [.int (0 : Int32), .ref 180]) jv_i322 [.int p1, .int p2, .int p3, .int p4] rfl rfl rfl rfl rfl rfl (jx_e780 p0 p1 p2 p3 p4 p5 g1 g2 g3 g4) rfl rfl ?_
  refine jv_Ev.br jv_i323 (pc' := 16) (st' := [.ref 180]) rfl (jv_bi_eq.trans (jx_got (by decide))) ?_
  refine jv_Ev.steps jv_i323 1 (pc' := 17) (l' := [(0, .ref 180), (1, .int p1), (2, .int p2), (3, .int p3), (4, .int p4)]) (st' := [.int (1 : Int32), .ref 180]) rfl ?_
  refine jv_Ev.m jv_i323 (pc' := 20) (st' := []) rfl rfl (jv_m_putI rfl rfl rfl rfl rfl) ?_
  refine jv_Ev.steps jv_i323 1 (pc' := 21) (l' := [(0, .ref 180), (1, .int p1), (2, .int p2), (3, .int p3), (4, .int p4)]) (st' := [.ref 180]) rfl ?_
  refine jv_Ev.m jv_i323 (pc' := 24) (st' := [.int (1 : Int32)]) rfl rfl (jv_m_getI rfl rfl rfl rfl) ?_
  refine jv_Ev.br jv_i323 (pc' := 27) (st' := []) rfl (jv_bi_le.trans (jx_gof (by decide))) ?_
  refine jv_Ev.steps jv_i323 1 (pc' := 28) (l' := [(0, .ref 180), (1, .int p1), (2, .int p2), (3, .int p3), (4, .int p4)]) (st' := [.int (0 : Int32)]) rfl ?_
  exact jv_Ev.ret jv_i323 rfl rfl

set_option maxRecDepth 100000 in
/-- ProgramBoxModel$Store.thrown -/
theorem jx_e782 (p0 : Int32) (p1 : Int32) (p2 : Int32) (p3 : Int32) (p4 : Int32) (p5 : Int32) (g1 : ¬ p1 = (2 : Int32)) (g2 : p1 = (0 : Int32)) (g3 : p2 = (4 : Int32)) (g4 : p3 < (1 : Int32)) : jv_Ms 318 [.ref 180] (jv_H (jx_K 227) (jv_u jx_If 180 0 (1 : Int32)) jx_L0 (jx_R 227)) 228 1572956 (some (.int (1 : Int32)), (jv_H (jx_K 227) (jv_u jx_If 180 0 (1 : Int32)) jx_L0 (jx_R 227)), 228, 1572956) := by
  show jv_Ev 318 0 [(0, .ref 180)] [] (jv_H (jx_K 227) (jv_u jx_If 180 0 (1 : Int32)) jx_L0 (jx_R 227)) 228 1572956 _
  refine jv_Ev.steps jv_i318 1 (pc' := 1) (l' := [(0, .ref 180)]) (st' := [.ref 180]) rfl ?_
  refine jv_Ev.m jv_i318 (pc' := 4) (st' := [.int (1 : Int32)]) rfl rfl (jv_m_getI rfl rfl rfl rfl) ?_
  exact jv_Ev.ret jv_i318 rfl rfl

set_option maxRecDepth 100000 in
/-- ProgramBoxModel.make -/
theorem jx_e783 (p0 : Int32) (p1 : Int32) (p2 : Int32) (p3 : Int32) (p4 : Int32) (p5 : Int32) (g1 : ¬ p1 = (2 : Int32)) (g2 : p1 = (0 : Int32)) (g3 : p2 = (4 : Int32)) (g4 : p3 < (1 : Int32)) : jv_Ms 353 [.ref 178, .int p1, .int p2, .int p3, .int p4] (jv_H (jx_K 227) jx_If jx_L0 (jx_R 227)) 228 1572956 (some (.int (0 : Int32)), (jv_H (jx_K 227) (jv_u (jv_u jx_If 180 0 (1 : Int32)) 178 0 (1 : Int32)) jx_L0 (jx_R 227)), 228, 1572956) := by
  show jv_Ev 353 0 [(0, .ref 178), (1, .int p1), (2, .int p2), (3, .int p3), (4, .int p4)] [] (jv_H (jx_K 227) jx_If jx_L0 (jx_R 227)) 228 1572956 _
  refine jv_Ev.steps jv_i353 1 (pc' := 1) (l' := [(0, .ref 178), (1, .int p1), (2, .int p2), (3, .int p3), (4, .int p4)]) (st' := [.ref 178]) rfl ?_
  refine jv_Ev.m jv_i353 (pc' := 4) (st' := [.ref 180]) rfl rfl (jv_m_getR rfl rfl rfl rfl) ?_
  refine jv_Ev.steps jv_i353 4 (pc' := 9) (l' := [(0, .ref 178), (1, .int p1), (2, .int p2), (3, .int p3), (4, .int p4)]) (st' := [.int p4, .int p3, .int p2, .int p1, .ref 180]) rfl ?_
  refine jv_Ev.c jv_i353 (pc' := 12) (S' := [.int (0 : Int32)]) jv_i323 [.ref 180, .int p1, .int p2, .int p3, .int p4] rfl rfl rfl rfl (jv_cal rfl (jv_H_at rfl) rfl rfl) rfl (jx_e781 p0 p1 p2 p3 p4 p5 g1 g2 g3 g4) rfl rfl ?_
  refine jv_Ev.steps jv_i353 3 (pc' := 16) (l' := [(5, .int (0 : Int32)), (0, .ref 178), (1, .int p1), (2, .int p2), (3, .int p3), (4, .int p4)]) (st' := [.ref 178, .ref 178]) rfl ?_
  refine jv_Ev.m jv_i353 (pc' := 19) (st' := [.ref 180, .ref 178]) rfl rfl (jv_m_getR rfl rfl rfl rfl) ?_
  refine jv_Ev.c jv_i353 (pc' := 22) (S' := [.int (1 : Int32), .ref 178]) jv_i318 [.ref 180] rfl rfl rfl rfl (jv_cal rfl (jv_H_at rfl) rfl rfl) rfl (jx_e782 p0 p1 p2 p3 p4 p5 g1 g2 g3 g4) rfl rfl ?_
  refine jv_Ev.m jv_i353 (pc' := 25) (st' := []) rfl rfl (jv_m_putI rfl rfl rfl rfl rfl) ?_
  refine jv_Ev.steps jv_i353 1 (pc' := 26) (l' := [(5, .int (0 : Int32)), (0, .ref 178), (1, .int p1), (2, .int p2), (3, .int p3), (4, .int p4)]) (st' := [.ref 178]) rfl ?_
  refine jv_Ev.m jv_i353 (pc' := 29) (st' := [.int (1 : Int32)]) rfl rfl (jv_m_getI rfl rfl rfl rfl) ?_
  refine jv_Ev.br jv_i353 (pc' := 67) (st' := []) rfl (jv_bi_ne.trans (jx_got (by decide))) ?_
  refine jv_Ev.steps jv_i353 1 (pc' := 69) (l' := [(5, .int (0 : Int32)), (0, .ref 178), (1, .int p1), (2, .int p2), (3, .int p3), (4, .int p4)]) (st' := [.int (0 : Int32)]) rfl ?_
  exact jv_Ev.ret jv_i353 rfl rfl

set_option maxRecDepth 100000 in
/-- ProgramBoxModel.thrown -/
theorem jx_e784 (p0 : Int32) (p1 : Int32) (p2 : Int32) (p3 : Int32) (p4 : Int32) (p5 : Int32) (g1 : ¬ p1 = (2 : Int32)) (g2 : p1 = (0 : Int32)) (g3 : p2 = (4 : Int32)) (g4 : p3 < (1 : Int32)) : jv_Ms 350 [.ref 178] (jv_H (jx_K 227) (jv_u (jv_u jx_If 180 0 (1 : Int32)) 178 0 (1 : Int32)) jx_L0 (jx_R 227)) 228 1572956 (some (.int (1 : Int32)), (jv_H (jx_K 227) (jv_u (jv_u jx_If 180 0 (1 : Int32)) 178 0 (1 : Int32)) jx_L0 (jx_R 227)), 228, 1572956) := by
  show jv_Ev 350 0 [(0, .ref 178)] [] (jv_H (jx_K 227) (jv_u (jv_u jx_If 180 0 (1 : Int32)) 178 0 (1 : Int32)) jx_L0 (jx_R 227)) 228 1572956 _
  refine jv_Ev.steps jv_i350 1 (pc' := 1) (l' := [(0, .ref 178)]) (st' := [.ref 178]) rfl ?_
  refine jv_Ev.m jv_i350 (pc' := 4) (st' := [.int (1 : Int32)]) rfl rfl (jv_m_getI rfl rfl rfl rfl) ?_
  exact jv_Ev.ret jv_i350 rfl rfl

set_option maxRecDepth 100000 in
/-- the law: case 2, one way -/
theorem jx_l90 (p0 : Int32) (p1 : Int32) (p2 : Int32) (p3 : Int32) (p4 : Int32) (p5 : Int32) (g1 : ¬ p1 = (2 : Int32)) (g2 : p1 = (0 : Int32)) (g3 : p2 = (4 : Int32)) (g4 : p3 < (1 : Int32)) (hsw : p0 &&& (31 : Int32) = (2 : Int32)) {p : Program} {l : Launch} {e : Env} {R : Room} {s : State} {m : MethodId} {args : Array Value} {below : List Frame} {meth : Method} {c : Code} {E : jv_Env} {Q : State → Prop} (hTb : jv_TOk jv_Tb) (hT2 : jx_T2Ok) (hl : l.stackTraces = false) (F : jx_F jv_T2 439 E p R s m args meth c) (hZ : jx_Z E s) (hRc : R.cells = 600002) (hRs : R.slots = 7302232) {bb : Nat} {xs : Nat → Int32} (hX : va_X bb 6 xs s E.2.2.2.2) (hbB : bb < E.2.2.2.1) (hE2 : E.1 1000002 = bb) (hQ : ∀ (l0 : jv_L) (G : jv_G) (n sl : Nat), n ≤ 600002 → sl ≤ 7302232 → jw p l e R s m args below meth c E 8 0 0 Q 1532 l0 [.int (1 : Int32)] G n sl) (q0 : xs 0 = p0) (q1 : xs 1 = p1) (q2 : xs 2 = p2) (q3 : xs 3 = p3) (q4 : xs 4 = p4) (q5 : xs 5 = p5) : jw p l e R s m args below meth c E 8 0 0 Q 33 [(0, .ref 1000002), (1, .ref 0), (2, .ref 178), (3, .ref 226), (4, .int (0 : Int32))] [] (jv_H (jx_K 227) jx_If jx_L0 (jx_R 227)) 227 1572950 := by
  refine jw.steps F jx_i439 2 (pc' := 36) (l' := [(0, .ref 1000002), (1, .ref 0), (2, .ref 178), (3, .ref 226), (4, .int (0 : Int32))]) (st' := [.int (0 : Int32), .ref 1000002]) rfl ?_
  refine jw.sld F jx_i439 hX hbB hE2 (pc' := 37) rfl rfl (show vp_in (nI 0) 6 from vp_in_nI (by decide) (by decide)) q0 rfl ?_
  refine jw.steps F jx_i439 2 (pc' := 40) (l' := [(0, .ref 1000002), (1, .ref 0), (2, .ref 178), (3, .ref 226), (4, .int (0 : Int32))]) (st' := [.int (p0 &&& (31 : Int32))]) rfl ?_
  refine jw.br F jx_i439 (pc' := 304) (st' := []) rfl (by rw [hsw]; rfl) ?_
  refine jw.steps F jx_i439 5 (pc' := 310) (l' := [(0, .ref 1000002), (1, .ref 0), (2, .ref 178), (3, .ref 226), (4, .int (0 : Int32))]) (st' := [.int (1 : Int32), .ref 1000002, .ref 0]) rfl ?_
  refine jw.sld F jx_i439 hX hbB hE2 (pc' := 311) rfl rfl (show vp_in (nI 1) 6 from vp_in_nI (by decide) (by decide)) q1 rfl ?_
  refine jw.steps F jx_i439 4 (pc' := 316) (l' := [(0, .ref 1000002), (1, .ref 0), (2, .ref 178), (3, .ref 226), (4, .int (0 : Int32))]) (st' := [.int (2 : Int32), .ref 1000002, .int p1, .ref 0]) rfl ?_
  refine jw.sld F jx_i439 hX hbB hE2 (pc' := 317) rfl rfl (show vp_in (nI 2) 6 from vp_in_nI (by decide) (by decide)) q2 rfl ?_
  refine jw.steps F jx_i439 4 (pc' := 322) (l' := [(0, .ref 1000002), (1, .ref 0), (2, .ref 178), (3, .ref 226), (4, .int (0 : Int32))]) (st' := [.int (3 : Int32), .ref 1000002, .int p2, .int p1, .ref 0]) rfl ?_
  refine jw.sld F jx_i439 hX hbB hE2 (pc' := 323) rfl rfl (show vp_in (nI 3) 6 from vp_in_nI (by decide) (by decide)) q3 rfl ?_
  refine jw.steps F jx_i439 4 (pc' := 328) (l' := [(0, .ref 1000002), (1, .ref 0), (2, .ref 178), (3, .ref 226), (4, .int (0 : Int32))]) (st' := [.int (4 : Int32), .ref 1000002, .int p3, .int p2, .int p1, .ref 0]) rfl ?_
  refine jw.sld F jx_i439 hX hbB hE2 (pc' := 329) rfl rfl (show vp_in (nI 4) 6 from vp_in_nI (by decide) (by decide)) q4 rfl ?_
  refine jw.steps F jx_i439 1 (pc' := 330) (l' := [(0, .ref 1000002), (1, .ref 0), (2, .ref 178), (3, .ref 226), (4, .int (0 : Int32))]) (st' := [.ref 226, .int p4, .int p3, .int p2, .int p1, .ref 0]) rfl ?_
  refine jw.wr F hl hZ rfl jx_i439 jx_i442 [.ref 0, .int p1, .int p2, .int p3, .int p4, .ref 226] (pc' := 333) (S' := [.int (1 : Int32)]) rfl (List.mem_of_getElem? (i := 2) rfl) (List.mem_of_getElem? (i := 2) rfl) rfl rfl rfl (jx_w778 hTb hT2 p0 p1 p2 p3 p4 p5 g1 g2 g3 g4) (by omega) (by omega) (by omega) (by omega) rfl rfl ?_
  refine jw.steps F jx_i439 6 (pc' := 341) (l' := [(5, .int (1 : Int32)), (0, .ref 1000002), (1, .ref 0), (2, .ref 178), (3, .ref 226), (4, .int (0 : Int32))]) (st' := [.int (1 : Int32), .ref 1000002, .ref 178]) rfl ?_
  refine jw.sld F jx_i439 hX hbB hE2 (pc' := 342) rfl rfl (show vp_in (nI 1) 6 from vp_in_nI (by decide) (by decide)) q1 rfl ?_
  refine jw.steps F jx_i439 4 (pc' := 347) (l' := [(5, .int (1 : Int32)), (0, .ref 1000002), (1, .ref 0), (2, .ref 178), (3, .ref 226), (4, .int (0 : Int32))]) (st' := [.int (2 : Int32), .ref 1000002, .int p1, .ref 178]) rfl ?_
  refine jw.sld F jx_i439 hX hbB hE2 (pc' := 348) rfl rfl (show vp_in (nI 2) 6 from vp_in_nI (by decide) (by decide)) q2 rfl ?_
  refine jw.steps F jx_i439 4 (pc' := 353) (l' := [(5, .int (1 : Int32)), (0, .ref 1000002), (1, .ref 0), (2, .ref 178), (3, .ref 226), (4, .int (0 : Int32))]) (st' := [.int (3 : Int32), .ref 1000002, .int p2, .int p1, .ref 178]) rfl ?_
  refine jw.sld F jx_i439 hX hbB hE2 (pc' := 354) rfl rfl (show vp_in (nI 3) 6 from vp_in_nI (by decide) (by decide)) q3 rfl ?_
  refine jw.steps F jx_i439 4 (pc' := 359) (l' := [(5, .int (1 : Int32)), (0, .ref 1000002), (1, .ref 0), (2, .ref 178), (3, .ref 226), (4, .int (0 : Int32))]) (st' := [.int (4 : Int32), .ref 1000002, .int p3, .int p2, .int p1, .ref 178]) rfl ?_
  refine jw.sld F jx_i439 hX hbB hE2 (pc' := 360) rfl rfl (show vp_in (nI 4) 6 from vp_in_nI (by decide) (by decide)) q4 rfl ?_
  refine jw.ca hTb F jx_i439 (pc' := 363) (S' := [.int (0 : Int32)]) rfl jv_i353 [.ref 178, .int p1, .int p2, .int p3, .int p4] rfl rfl rfl rfl (jx_cal2 rfl (jv_H_at rfl) rfl rfl) rfl (jx_e783 p0 p1 p2 p3 p4 p5 g1 g2 g3 g4) (by omega) (by omega) rfl rfl ?_
  refine jw.steps F jx_i439 2 (pc' := 366) (l' := [(6, .int (0 : Int32)), (5, .int (1 : Int32)), (0, .ref 1000002), (1, .ref 0), (2, .ref 178), (3, .ref 226), (4, .int (0 : Int32))]) (st' := [.ref 178]) rfl ?_
  refine jw.ca hTb F jx_i439 (pc' := 369) (S' := [.int (1 : Int32)]) rfl jv_i350 [.ref 178] rfl rfl rfl rfl (jx_cal2 rfl (jv_H_at rfl) rfl rfl) rfl (jx_e784 p0 p1 p2 p3 p4 p5 g1 g2 g3 g4) (by omega) (by omega) rfl rfl ?_
  refine jw.steps F jx_i439 1 (pc' := 371) (l' := [(6, .int (0 : Int32)), (5, .int (1 : Int32)), (0, .ref 1000002), (1, .ref 0), (2, .ref 178), (3, .ref 226), (4, .int (0 : Int32))]) (st' := [.int (1 : Int32), .int (1 : Int32)]) rfl ?_
  refine jw.br F jx_i439 (pc' := 376) (st' := []) rfl (jv_bc_eq.trans (jx_got (by decide))) ?_
  refine jw.steps F jx_i439 1 (pc' := 378) (l' := [(6, .int (0 : Int32)), (5, .int (1 : Int32)), (0, .ref 1000002), (1, .ref 0), (2, .ref 178), (3, .ref 226), (4, .int (0 : Int32))]) (st' := [.int (1 : Int32)]) rfl ?_
  refine jw.br F jx_i439 (pc' := 393) (st' := []) rfl (jv_bi_ne.trans (jx_got (by decide))) ?_
  refine jw.steps F jx_i439 5 (pc' := 26) (l' := [(4, .int (6 : Int32)), (6, .int (0 : Int32)), (5, .int (1 : Int32)), (0, .ref 1000002), (1, .ref 0), (2, .ref 178), (3, .ref 226)]) (st' := [.ref 1000002, .int (6 : Int32)]) rfl ?_
  refine jw.slen F jx_i439 hX hbB hE2 (pc' := 27) rfl rfl rfl ?_
  refine jw.steps F jx_i439 2 (pc' := 30) (l' := [(4, .int (6 : Int32)), (6, .int (0 : Int32)), (5, .int (1 : Int32)), (0, .ref 1000002), (1, .ref 0), (2, .ref 178), (3, .ref 226)]) (st' := [.int (0 : Int32), .int (6 : Int32)]) rfl ?_
  refine jw.br F jx_i439 (pc' := 1531) (st' := []) rfl (jv_bc_gt.trans (jx_got (by decide))) ?_
  refine jw.steps F jx_i439 1 (pc' := 1532) (l' := [(4, .int (6 : Int32)), (6, .int (0 : Int32)), (5, .int (1 : Int32)), (0, .ref 1000002), (1, .ref 0), (2, .ref 178), (3, .ref 226)]) (st' := [.int (1 : Int32)]) rfl ?_
  exact hQ _ _ _ _ (by omega) (by omega)

set_option maxRecDepth 100000 in
/-- ProgramBox$Store.isShape -/
theorem jx_e785 (p0 : Int32) (p1 : Int32) (p2 : Int32) (p3 : Int32) (p4 : Int32) (p5 : Int32) (g1 : ¬ p1 = (2 : Int32)) (g2 : p1 = (0 : Int32)) (g3 : p2 = (4 : Int32)) (g4 : ¬ p3 < (1 : Int32)) (g5 : (256 : Int32) < p3) : jv_Ms 123 [.int p1, .int p2, .int p3, .int p4] (jv_H (jx_K 227) jx_If jx_L0 (jx_R 227)) 227 1572950 (some (.int (0 : Int32)), (jv_H (jx_K 227) jx_If jx_L0 (jx_R 227)), 227, 1572950) := by
  show jv_Ev 123 0 [(0, .int p1), (1, .int p2), (2, .int p3), (3, .int p4)] [] (jv_H (jx_K 227) jx_If jx_L0 (jx_R 227)) 227 1572950 _
  refine jv_Ev.steps jv_i123 2 (pc' := 2) (l' := [(0, .int p1), (1, .int p2), (2, .int p3), (3, .int p4)]) (st' := [.int (2 : Int32), .int p1]) rfl ?_
  refine jv_Ev.br jv_i123 (pc' := 40) (st' := []) rfl (jv_bc_ne.trans (jx_got (by rw [g2] <;> decide))) ?_
  refine jv_Ev.steps jv_i123 1 (pc' := 41) (l' := [(0, .int p1), (1, .int p2), (2, .int p3), (3, .int p4)]) (st' := [.int p1]) rfl ?_
  refine jv_Ev.br jv_i123 (pc' := 44) (st' := []) rfl (jv_bi_ne.trans (jx_gof (by rw [g2] <;> decide))) ?_
  refine jv_Ev.steps jv_i123 2 (pc' := 46) (l' := [(0, .int p1), (1, .int p2), (2, .int p3), (3, .int p4)]) (st' := [.int (4 : Int32), .int p2]) rfl ?_
  refine jv_Ev.br jv_i123 (pc' := 49) (st' := []) rfl (jv_bc_ne.trans (jx_gof (by rw [g3] <;> decide))) ?_
  refine jv_Ev.steps jv_i123 4 (pc' := 82) (l' := [(4, .int (1 : Int32)), (0, .int p1), (1, .int p2), (2, .int p3), (3, .int p4)]) (st' := [.int (1 : Int32)]) rfl ?_
  refine jv_Ev.br jv_i123 (pc' := 85) (st' := []) rfl (jv_bi_eq.trans (jx_gof (by decide))) ?_
  refine jv_Ev.steps jv_i123 2 (pc' := 87) (l' := [(4, .int (1 : Int32)), (0, .int p1), (1, .int p2), (2, .int p3), (3, .int p4)]) (st' := [.int (1 : Int32), .int p3]) rfl ?_
  refine jv_Ev.br jv_i123 (pc' := 90) (st' := []) rfl (jv_bc_lt.trans (jx_gof g4)) ?_
  refine jv_Ev.steps jv_i123 2 (pc' := 94) (l' := [(4, .int (1 : Int32)), (0, .int p1), (1, .int p2), (2, .int p3), (3, .int p4)]) (st' := [.int (256 : Int32), .int p3]) rfl ?_
  refine jv_Ev.br jv_i123 (pc' := 113) (st' := []) rfl (jv_bc_gt.trans (jx_got g5)) ?_
  refine jv_Ev.steps jv_i123 1 (pc' := 114) (l' := [(4, .int (1 : Int32)), (0, .int p1), (1, .int p2), (2, .int p3), (3, .int p4)]) (st' := [.int (0 : Int32)]) rfl ?_
  exact jv_Ev.ret jv_i123 rfl (jv_ret_b (by decide))

set_option maxRecDepth 100000 in
/-- ProgramBox.make: it throws -/
theorem jx_e786 (hTb : jv_TOk jv_Tb) (p0 : Int32) (p1 : Int32) (p2 : Int32) (p3 : Int32) (p4 : Int32) (p5 : Int32) (g1 : ¬ p1 = (2 : Int32)) (g2 : p1 = (0 : Int32)) (g3 : p2 = (4 : Int32)) (g4 : ¬ p3 < (1 : Int32)) (g5 : (256 : Int32) < p3) : jx_Th 420 [.ref 0, .int p1, .int p2, .int p3, .int p4] (jv_H (jx_K 227) jx_If jx_L0 (jx_R 227)) 227 1572950 1 (jv_H (jx_K 227) jx_If jx_L0 (jx_R 227)) 228 1572956 := by
  refine jx_Th.of hTb (y := 420) rfl (Nat.le_of_ble_eq_true rfl) ?_
  intro p l e R s m args below meth c E hl F hZ h0 ht hRc hRs
  show jw p l e R s m args below meth c E 5 227 1572950 _ 0 [(0, .ref 0), (1, .int p1), (2, .int p2), (3, .int p3), (4, .int p4)] [] (jv_H (jx_K 227) jx_If jx_L0 (jx_R 227)) 227 1572950
  refine jw.steps F jv_i420 4 (pc' := 5) (l' := [(0, .ref 0), (1, .int p1), (2, .int p2), (3, .int p3), (4, .int p4)]) (st' := [.int p4, .int p3, .int p2, .int p1]) rfl ?_
  refine jw.ca hTb F jv_i420 (pc' := 8) (S' := [.int (0 : Int32)]) rfl jv_i123 [.int p1, .int p2, .int p3, .int p4] rfl rfl rfl rfl rfl rfl (jx_e785 p0 p1 p2 p3 p4 p5 g1 g2 g3 g4 g5) (by omega) (by omega) rfl rfl ?_
  refine jw.br F jv_i420 (pc' := 11) (st' := []) rfl (jv_bi_ne.trans (jx_gof (by decide))) ?_
  exact jw.throw hl F hZ h0 rfl jv_i420 ht 1 69 "no map is like this" (List.mem_of_getElem? (i := 2) rfl) (by decide +kernel) (by decide +kernel) (by decide +kernel) (by decide +kernel) (by decide +kernel) rfl (by decide) (by decide) (by decide) (by omega) (by omega)

set_option maxRecDepth 100000 in
/-- the law's make -/
theorem jx_w787 (hTb : jv_TOk jv_Tb) (hT2 : jx_T2Ok) (p0 : Int32) (p1 : Int32) (p2 : Int32) (p3 : Int32) (p4 : Int32) (p5 : Int32) (g1 : ¬ p1 = (2 : Int32)) (g2 : p1 = (0 : Int32)) (g3 : p2 = (4 : Int32)) (g4 : ¬ p3 < (1 : Int32)) (g5 : (256 : Int32) < p3) : jx_Wr 442 [(0, 14, 17, 19), (0, 14, 21, 13)] [.ref 0, .int p1, .int p2, .int p3, .int p4, .ref 226] (jv_H (jx_K 227) jx_If jx_L0 (jx_R 227)) 227 1572950 (some (.int (1 : Int32)), (jv_H (jx_K 227) jx_If jx_L0 (jx_R 227)), 228, 1572956) := by
  refine jx_Wr.of hT2 (by decide) rfl (Nat.le_of_ble_eq_true rfl) ?_
  intro p l e R s m args below meth c E hl F hZ htb hRc hRs
  show jw p l e R s m args below meth c E 7 227 1572950 _ 0 [(0, .ref 0), (1, .int p1), (2, .int p2), (3, .int p3), (4, .int p4), (5, .ref 226)] [] (jv_H (jx_K 227) jx_If jx_L0 (jx_R 227)) 227 1572950
  have hRc : R.cells = 228 - 227 := hRc
  have hRs : R.slots = 1572956 - 1572950 := hRs
  refine jw.steps F jx_i442 7 (pc' := 9) (l' := [(0, .ref 0), (1, .int p1), (2, .int p2), (3, .int p3), (4, .int p4), (5, .ref 226)]) (st' := [.int p4, .int p3, .int p2, .int p1, .ref 0, .int (0 : Int32), .ref 226]) rfl ?_
  refine jw.cat hTb hl F hZ rfl jx_i442 htb rfl jv_i420 [.ref 0, .int p1, .int p2, .int p3, .int p4] rfl rfl rfl rfl rfl (jx_cal2 rfl (jv_H_at rfl) rfl rfl) rfl (jx_e786 hTb p0 p1 p2 p3 p4 p5 g1 g2 g3 g4 g5) (by omega) (by omega) (by omega) (by omega) [] (0, 14, 17, 19) [(0, 14, 21, 13)] rfl (fun z h => absurd h List.not_mem_nil) (by decide) rfl rfl (Or.inl ⟨rfl, rfl⟩) (by decide) ?_
  refine jw.steps F jx_i442 1 (pc' := 20) (l' := []) (st' := [.int (1 : Int32)]) rfl ?_
  exact jw.ret F jx_i442 rfl rfl

set_option maxRecDepth 100000 in
/-- ProgramBoxModel$Store.isIn -/
theorem jx_e788 (p0 : Int32) (p1 : Int32) (p2 : Int32) (p3 : Int32) (p4 : Int32) (p5 : Int32) (g1 : ¬ p1 = (2 : Int32)) (g2 : p1 = (0 : Int32)) (g3 : p2 = (4 : Int32)) (g4 : ¬ p3 < (1 : Int32)) (g5 : (256 : Int32) < p3) : jv_Ms 320 [.int p3, .int (1 : Int32), .int (256 : Int32)] (jv_H (jx_K 227) jx_If jx_L0 (jx_R 227)) 228 1572956 (some (.int (0 : Int32)), (jv_H (jx_K 227) jx_If jx_L0 (jx_R 227)), 228, 1572956) := by
  show jv_Ev 320 0 [(0, .int p3), (1, .int (1 : Int32)), (2, .int (256 : Int32))] [] (jv_H (jx_K 227) jx_If jx_L0 (jx_R 227)) 228 1572956 _
  refine jv_Ev.steps jv_i320 2 (pc' := 2) (l' := [(0, .int p3), (1, .int (1 : Int32)), (2, .int (256 : Int32))]) (st' := [.int (1 : Int32), .int p3]) rfl ?_
  refine jv_Ev.br jv_i320 (pc' := 5) (st' := []) rfl (jv_bc_lt.trans (jx_gof g4)) ?_
  refine jv_Ev.steps jv_i320 2 (pc' := 7) (l' := [(0, .int p3), (1, .int (1 : Int32)), (2, .int (256 : Int32))]) (st' := [.int (256 : Int32), .int p3]) rfl ?_
  refine jv_Ev.br jv_i320 (pc' := 14) (st' := []) rfl (jv_bc_gt.trans (jx_got g5)) ?_
  refine jv_Ev.steps jv_i320 1 (pc' := 15) (l' := [(0, .int p3), (1, .int (1 : Int32)), (2, .int (256 : Int32))]) (st' := [.int (0 : Int32)]) rfl ?_
  exact jv_Ev.ret jv_i320 rfl (jv_ret_b (by decide))

set_option maxRecDepth 100000 in
/-- ProgramBoxModel$Store.isProper -/
theorem jx_e789 (p0 : Int32) (p1 : Int32) (p2 : Int32) (p3 : Int32) (p4 : Int32) (p5 : Int32) (g1 : ¬ p1 = (2 : Int32)) (g2 : p1 = (0 : Int32)) (g3 : p2 = (4 : Int32)) (g4 : ¬ p3 < (1 : Int32)) (g5 : (256 : Int32) < p3) : jv_Ms 322 [.int p1, .int p2, .int p3, .int p4] (jv_H (jx_K 227) jx_If jx_L0 (jx_R 227)) 228 1572956 (some (.int (0 : Int32)), (jv_H (jx_K 227) jx_If jx_L0 (jx_R 227)), 228, 1572956) := by
  show jv_Ev 322 0 [(0, .int p1), (1, .int p2), (2, .int p3), (3, .int p4)] [] (jv_H (jx_K 227) jx_If jx_L0 (jx_R 227)) 228 1572956 _
  refine jv_Ev.steps jv_i322 2 (pc' := 2) (l' := [(0, .int p1), (1, .int p2), (2, .int p3), (3, .int p4)]) (st' := [.int (2 : Int32), .int p1]) rfl ?_
  refine jv_Ev.br jv_i322 (pc' := 38) (st' := []) rfl (jv_bc_ne.trans (jx_got (by rw [g2] <;> decide))) ?_
  refine jv_Ev.steps jv_i322 1 (pc' := 39) (l' := [(0, .int p1), (1, .int p2), (2, .int p3), (3, .int p4)]) (st' := [.int p1]) rfl ?_
  refine jv_Ev.br jv_i322 (pc' := 42) (st' := []) rfl (jv_bi_ne.trans (jx_gof (by rw [g2] <;> decide))) ?_
  refine jv_Ev.steps jv_i322 2 (pc' := 44) (l' := [(0, .int p1), (1, .int p2), (2, .int p3), (3, .int p4)]) (st' := [.int (4 : Int32), .int p2]) rfl ?_
  refine jv_Ev.br jv_i322 (pc' := 47) (st' := []) rfl (jv_bc_ne.trans (jx_gof (by rw [g3] <;> decide))) ?_
  refine jv_Ev.steps jv_i322 4 (pc' := 79) (l' := [(4, .int (1 : Int32)), (0, .int p1), (1, .int p2), (2, .int p3), (3, .int p4)]) (st' := [.int (1 : Int32)]) rfl ?_
  refine jv_Ev.br jv_i322 (pc' := 82) (st' := []) rfl (jv_bi_eq.trans (jx_gof (by decide))) ?_
  refine jv_Ev.steps jv_i322 3 (pc' := 87) (l' := [(4, .int (1 : Int32)), (0, .int p1), (1, .int p2), (2, .int p3), (3, .int p4)]) (st' := [.int (256 : Int32), .int (1 : Int32), .int p3]) rfl ?_
  refine jv_Ev.c jv_i322 (pc' := 90) (S' := [.int (0 : Int32)]) jv_i320 [.int p3, .int (1 : Int32), .int (256 : Int32)] rfl rfl rfl rfl rfl rfl (jx_e788 p0 p1 p2 p3 p4 p5 g1 g2 g3 g4 g5) rfl rfl ?_
  refine jv_Ev.br jv_i322 (pc' := 108) (st' := []) rfl (jv_bi_eq.trans (jx_got (by decide))) ?_
  refine jv_Ev.steps jv_i322 1 (pc' := 109) (l' := [(4, .int (1 : Int32)), (0, .int p1), (1, .int p2), (2, .int p3), (3, .int p4)]) (st' := [.int (0 : Int32)]) rfl ?_
  exact jv_Ev.ret jv_i322 rfl (jv_ret_b (by decide))

set_option maxRecDepth 100000 in
/-- ProgramBoxModel$Store.make -/
theorem jx_e790 (p0 : Int32) (p1 : Int32) (p2 : Int32) (p3 : Int32) (p4 : Int32) (p5 : Int32) (g1 : ¬ p1 = (2 : Int32)) (g2 : p1 = (0 : Int32)) (g3 : p2 = (4 : Int32)) (g4 : ¬ p3 < (1 : Int32)) (g5 : (256 : Int32) < p3) : jv_Ms 323 [.ref 180, .int p1, .int p2, .int p3, .int p4] (jv_H (jx_K 227) jx_If jx_L0 (jx_R 227)) 228 1572956 (some (.int (0 : Int32)), (jv_H (jx_K 227) (jv_u jx_If 180 0 (1 : Int32)) jx_L0 (jx_R 227)), 228, 1572956) := by
  show jv_Ev 323 0 [(0, .ref 180), (1, .int p1), (2, .int p2), (3, .int p3), (4, .int p4)] [] (jv_H (jx_K 227) jx_If jx_L0 (jx_R 227)) 228 1572956 _
  refine jv_Ev.steps jv_i323 5 (pc' := 6) (l' := [(0, .ref 180), (1, .int p1), (2, .int p2), (3, .int p3), (4, .int p4)]) (st' := [.int p4, .int p3, .int p2, .int p1, .ref 180]) rfl ?_
  refine jv_Ev.c jv_i323 (pc' := 9) (S' := [.int (0 : Int32), .ref 180]) jv_i322 [.int p1, .int p2, .int p3, .int p4] rfl rfl rfl rfl rfl rfl (jx_e789 p0 p1 p2 p3 p4 p5 g1 g2 g3 g4 g5) rfl rfl ?_
  refine jv_Ev.br jv_i323 (pc' := 16) (st' := [.ref 180]) rfl (jv_bi_eq.trans (jx_got (by decide))) ?_
  refine jv_Ev.steps jv_i323 1 (pc' := 17) (l' := [(0, .ref 180), (1, .int p1), (2, .int p2), (3, .int p3), (4, .int p4)]) (st' := [.int (1 : Int32), .ref 180]) rfl ?_
  refine jv_Ev.m jv_i323 (pc' := 20) (st' := []) rfl rfl (jv_m_putI rfl rfl rfl rfl rfl) ?_
  refine jv_Ev.steps jv_i323 1 (pc' := 21) (l' := [(0, .ref 180), (1, .int p1), (2, .int p2), (3, .int p3), (4, .int p4)]) (st' := [.ref 180]) rfl ?_
  refine jv_Ev.m jv_i323 (pc' := 24) (st' := [.int (1 : Int32)]) rfl rfl (jv_m_getI rfl rfl rfl rfl) ?_
  refine jv_Ev.br jv_i323 (pc' := 27) (st' := []) rfl (jv_bi_le.trans (jx_gof (by decide))) ?_
  refine jv_Ev.steps jv_i323 1 (pc' := 28) (l' := [(0, .ref 180), (1, .int p1), (2, .int p2), (3, .int p3), (4, .int p4)]) (st' := [.int (0 : Int32)]) rfl ?_
  exact jv_Ev.ret jv_i323 rfl rfl

set_option maxRecDepth 100000 in
/-- ProgramBoxModel$Store.thrown -/
theorem jx_e791 (p0 : Int32) (p1 : Int32) (p2 : Int32) (p3 : Int32) (p4 : Int32) (p5 : Int32) (g1 : ¬ p1 = (2 : Int32)) (g2 : p1 = (0 : Int32)) (g3 : p2 = (4 : Int32)) (g4 : ¬ p3 < (1 : Int32)) (g5 : (256 : Int32) < p3) : jv_Ms 318 [.ref 180] (jv_H (jx_K 227) (jv_u jx_If 180 0 (1 : Int32)) jx_L0 (jx_R 227)) 228 1572956 (some (.int (1 : Int32)), (jv_H (jx_K 227) (jv_u jx_If 180 0 (1 : Int32)) jx_L0 (jx_R 227)), 228, 1572956) := by
  show jv_Ev 318 0 [(0, .ref 180)] [] (jv_H (jx_K 227) (jv_u jx_If 180 0 (1 : Int32)) jx_L0 (jx_R 227)) 228 1572956 _
  refine jv_Ev.steps jv_i318 1 (pc' := 1) (l' := [(0, .ref 180)]) (st' := [.ref 180]) rfl ?_
  refine jv_Ev.m jv_i318 (pc' := 4) (st' := [.int (1 : Int32)]) rfl rfl (jv_m_getI rfl rfl rfl rfl) ?_
  exact jv_Ev.ret jv_i318 rfl rfl

set_option maxRecDepth 100000 in
/-- ProgramBoxModel.make -/
theorem jx_e792 (p0 : Int32) (p1 : Int32) (p2 : Int32) (p3 : Int32) (p4 : Int32) (p5 : Int32) (g1 : ¬ p1 = (2 : Int32)) (g2 : p1 = (0 : Int32)) (g3 : p2 = (4 : Int32)) (g4 : ¬ p3 < (1 : Int32)) (g5 : (256 : Int32) < p3) : jv_Ms 353 [.ref 178, .int p1, .int p2, .int p3, .int p4] (jv_H (jx_K 227) jx_If jx_L0 (jx_R 227)) 228 1572956 (some (.int (0 : Int32)), (jv_H (jx_K 227) (jv_u (jv_u jx_If 180 0 (1 : Int32)) 178 0 (1 : Int32)) jx_L0 (jx_R 227)), 228, 1572956) := by
  show jv_Ev 353 0 [(0, .ref 178), (1, .int p1), (2, .int p2), (3, .int p3), (4, .int p4)] [] (jv_H (jx_K 227) jx_If jx_L0 (jx_R 227)) 228 1572956 _
  refine jv_Ev.steps jv_i353 1 (pc' := 1) (l' := [(0, .ref 178), (1, .int p1), (2, .int p2), (3, .int p3), (4, .int p4)]) (st' := [.ref 178]) rfl ?_
  refine jv_Ev.m jv_i353 (pc' := 4) (st' := [.ref 180]) rfl rfl (jv_m_getR rfl rfl rfl rfl) ?_
  refine jv_Ev.steps jv_i353 4 (pc' := 9) (l' := [(0, .ref 178), (1, .int p1), (2, .int p2), (3, .int p3), (4, .int p4)]) (st' := [.int p4, .int p3, .int p2, .int p1, .ref 180]) rfl ?_
  refine jv_Ev.c jv_i353 (pc' := 12) (S' := [.int (0 : Int32)]) jv_i323 [.ref 180, .int p1, .int p2, .int p3, .int p4] rfl rfl rfl rfl (jv_cal rfl (jv_H_at rfl) rfl rfl) rfl (jx_e790 p0 p1 p2 p3 p4 p5 g1 g2 g3 g4 g5) rfl rfl ?_
  refine jv_Ev.steps jv_i353 3 (pc' := 16) (l' := [(5, .int (0 : Int32)), (0, .ref 178), (1, .int p1), (2, .int p2), (3, .int p3), (4, .int p4)]) (st' := [.ref 178, .ref 178]) rfl ?_
  refine jv_Ev.m jv_i353 (pc' := 19) (st' := [.ref 180, .ref 178]) rfl rfl (jv_m_getR rfl rfl rfl rfl) ?_
  refine jv_Ev.c jv_i353 (pc' := 22) (S' := [.int (1 : Int32), .ref 178]) jv_i318 [.ref 180] rfl rfl rfl rfl (jv_cal rfl (jv_H_at rfl) rfl rfl) rfl (jx_e791 p0 p1 p2 p3 p4 p5 g1 g2 g3 g4 g5) rfl rfl ?_
  refine jv_Ev.m jv_i353 (pc' := 25) (st' := []) rfl rfl (jv_m_putI rfl rfl rfl rfl rfl) ?_
  refine jv_Ev.steps jv_i353 1 (pc' := 26) (l' := [(5, .int (0 : Int32)), (0, .ref 178), (1, .int p1), (2, .int p2), (3, .int p3), (4, .int p4)]) (st' := [.ref 178]) rfl ?_
  refine jv_Ev.m jv_i353 (pc' := 29) (st' := [.int (1 : Int32)]) rfl rfl (jv_m_getI rfl rfl rfl rfl) ?_
  refine jv_Ev.br jv_i353 (pc' := 67) (st' := []) rfl (jv_bi_ne.trans (jx_got (by decide))) ?_
  refine jv_Ev.steps jv_i353 1 (pc' := 69) (l' := [(5, .int (0 : Int32)), (0, .ref 178), (1, .int p1), (2, .int p2), (3, .int p3), (4, .int p4)]) (st' := [.int (0 : Int32)]) rfl ?_
  exact jv_Ev.ret jv_i353 rfl rfl

set_option maxRecDepth 100000 in
/-- ProgramBoxModel.thrown -/
theorem jx_e793 (p0 : Int32) (p1 : Int32) (p2 : Int32) (p3 : Int32) (p4 : Int32) (p5 : Int32) (g1 : ¬ p1 = (2 : Int32)) (g2 : p1 = (0 : Int32)) (g3 : p2 = (4 : Int32)) (g4 : ¬ p3 < (1 : Int32)) (g5 : (256 : Int32) < p3) : jv_Ms 350 [.ref 178] (jv_H (jx_K 227) (jv_u (jv_u jx_If 180 0 (1 : Int32)) 178 0 (1 : Int32)) jx_L0 (jx_R 227)) 228 1572956 (some (.int (1 : Int32)), (jv_H (jx_K 227) (jv_u (jv_u jx_If 180 0 (1 : Int32)) 178 0 (1 : Int32)) jx_L0 (jx_R 227)), 228, 1572956) := by
  show jv_Ev 350 0 [(0, .ref 178)] [] (jv_H (jx_K 227) (jv_u (jv_u jx_If 180 0 (1 : Int32)) 178 0 (1 : Int32)) jx_L0 (jx_R 227)) 228 1572956 _
  refine jv_Ev.steps jv_i350 1 (pc' := 1) (l' := [(0, .ref 178)]) (st' := [.ref 178]) rfl ?_
  refine jv_Ev.m jv_i350 (pc' := 4) (st' := [.int (1 : Int32)]) rfl rfl (jv_m_getI rfl rfl rfl rfl) ?_
  exact jv_Ev.ret jv_i350 rfl rfl

set_option maxRecDepth 100000 in
/-- the law: case 2, one way -/
theorem jx_l91 (p0 : Int32) (p1 : Int32) (p2 : Int32) (p3 : Int32) (p4 : Int32) (p5 : Int32) (g1 : ¬ p1 = (2 : Int32)) (g2 : p1 = (0 : Int32)) (g3 : p2 = (4 : Int32)) (g4 : ¬ p3 < (1 : Int32)) (g5 : (256 : Int32) < p3) (hsw : p0 &&& (31 : Int32) = (2 : Int32)) {p : Program} {l : Launch} {e : Env} {R : Room} {s : State} {m : MethodId} {args : Array Value} {below : List Frame} {meth : Method} {c : Code} {E : jv_Env} {Q : State → Prop} (hTb : jv_TOk jv_Tb) (hT2 : jx_T2Ok) (hl : l.stackTraces = false) (F : jx_F jv_T2 439 E p R s m args meth c) (hZ : jx_Z E s) (hRc : R.cells = 600002) (hRs : R.slots = 7302232) {bb : Nat} {xs : Nat → Int32} (hX : va_X bb 6 xs s E.2.2.2.2) (hbB : bb < E.2.2.2.1) (hE2 : E.1 1000002 = bb) (hQ : ∀ (l0 : jv_L) (G : jv_G) (n sl : Nat), n ≤ 600002 → sl ≤ 7302232 → jw p l e R s m args below meth c E 8 0 0 Q 1532 l0 [.int (1 : Int32)] G n sl) (q0 : xs 0 = p0) (q1 : xs 1 = p1) (q2 : xs 2 = p2) (q3 : xs 3 = p3) (q4 : xs 4 = p4) (q5 : xs 5 = p5) : jw p l e R s m args below meth c E 8 0 0 Q 33 [(0, .ref 1000002), (1, .ref 0), (2, .ref 178), (3, .ref 226), (4, .int (0 : Int32))] [] (jv_H (jx_K 227) jx_If jx_L0 (jx_R 227)) 227 1572950 := by
  refine jw.steps F jx_i439 2 (pc' := 36) (l' := [(0, .ref 1000002), (1, .ref 0), (2, .ref 178), (3, .ref 226), (4, .int (0 : Int32))]) (st' := [.int (0 : Int32), .ref 1000002]) rfl ?_
  refine jw.sld F jx_i439 hX hbB hE2 (pc' := 37) rfl rfl (show vp_in (nI 0) 6 from vp_in_nI (by decide) (by decide)) q0 rfl ?_
  refine jw.steps F jx_i439 2 (pc' := 40) (l' := [(0, .ref 1000002), (1, .ref 0), (2, .ref 178), (3, .ref 226), (4, .int (0 : Int32))]) (st' := [.int (p0 &&& (31 : Int32))]) rfl ?_
  refine jw.br F jx_i439 (pc' := 304) (st' := []) rfl (by rw [hsw]; rfl) ?_
  refine jw.steps F jx_i439 5 (pc' := 310) (l' := [(0, .ref 1000002), (1, .ref 0), (2, .ref 178), (3, .ref 226), (4, .int (0 : Int32))]) (st' := [.int (1 : Int32), .ref 1000002, .ref 0]) rfl ?_
  refine jw.sld F jx_i439 hX hbB hE2 (pc' := 311) rfl rfl (show vp_in (nI 1) 6 from vp_in_nI (by decide) (by decide)) q1 rfl ?_
  refine jw.steps F jx_i439 4 (pc' := 316) (l' := [(0, .ref 1000002), (1, .ref 0), (2, .ref 178), (3, .ref 226), (4, .int (0 : Int32))]) (st' := [.int (2 : Int32), .ref 1000002, .int p1, .ref 0]) rfl ?_
  refine jw.sld F jx_i439 hX hbB hE2 (pc' := 317) rfl rfl (show vp_in (nI 2) 6 from vp_in_nI (by decide) (by decide)) q2 rfl ?_
  refine jw.steps F jx_i439 4 (pc' := 322) (l' := [(0, .ref 1000002), (1, .ref 0), (2, .ref 178), (3, .ref 226), (4, .int (0 : Int32))]) (st' := [.int (3 : Int32), .ref 1000002, .int p2, .int p1, .ref 0]) rfl ?_
  refine jw.sld F jx_i439 hX hbB hE2 (pc' := 323) rfl rfl (show vp_in (nI 3) 6 from vp_in_nI (by decide) (by decide)) q3 rfl ?_
  refine jw.steps F jx_i439 4 (pc' := 328) (l' := [(0, .ref 1000002), (1, .ref 0), (2, .ref 178), (3, .ref 226), (4, .int (0 : Int32))]) (st' := [.int (4 : Int32), .ref 1000002, .int p3, .int p2, .int p1, .ref 0]) rfl ?_
  refine jw.sld F jx_i439 hX hbB hE2 (pc' := 329) rfl rfl (show vp_in (nI 4) 6 from vp_in_nI (by decide) (by decide)) q4 rfl ?_
  refine jw.steps F jx_i439 1 (pc' := 330) (l' := [(0, .ref 1000002), (1, .ref 0), (2, .ref 178), (3, .ref 226), (4, .int (0 : Int32))]) (st' := [.ref 226, .int p4, .int p3, .int p2, .int p1, .ref 0]) rfl ?_
  refine jw.wr F hl hZ rfl jx_i439 jx_i442 [.ref 0, .int p1, .int p2, .int p3, .int p4, .ref 226] (pc' := 333) (S' := [.int (1 : Int32)]) rfl (List.mem_of_getElem? (i := 2) rfl) (List.mem_of_getElem? (i := 2) rfl) rfl rfl rfl (jx_w787 hTb hT2 p0 p1 p2 p3 p4 p5 g1 g2 g3 g4 g5) (by omega) (by omega) (by omega) (by omega) rfl rfl ?_
  refine jw.steps F jx_i439 6 (pc' := 341) (l' := [(5, .int (1 : Int32)), (0, .ref 1000002), (1, .ref 0), (2, .ref 178), (3, .ref 226), (4, .int (0 : Int32))]) (st' := [.int (1 : Int32), .ref 1000002, .ref 178]) rfl ?_
  refine jw.sld F jx_i439 hX hbB hE2 (pc' := 342) rfl rfl (show vp_in (nI 1) 6 from vp_in_nI (by decide) (by decide)) q1 rfl ?_
  refine jw.steps F jx_i439 4 (pc' := 347) (l' := [(5, .int (1 : Int32)), (0, .ref 1000002), (1, .ref 0), (2, .ref 178), (3, .ref 226), (4, .int (0 : Int32))]) (st' := [.int (2 : Int32), .ref 1000002, .int p1, .ref 178]) rfl ?_
  refine jw.sld F jx_i439 hX hbB hE2 (pc' := 348) rfl rfl (show vp_in (nI 2) 6 from vp_in_nI (by decide) (by decide)) q2 rfl ?_
  refine jw.steps F jx_i439 4 (pc' := 353) (l' := [(5, .int (1 : Int32)), (0, .ref 1000002), (1, .ref 0), (2, .ref 178), (3, .ref 226), (4, .int (0 : Int32))]) (st' := [.int (3 : Int32), .ref 1000002, .int p2, .int p1, .ref 178]) rfl ?_
  refine jw.sld F jx_i439 hX hbB hE2 (pc' := 354) rfl rfl (show vp_in (nI 3) 6 from vp_in_nI (by decide) (by decide)) q3 rfl ?_
  refine jw.steps F jx_i439 4 (pc' := 359) (l' := [(5, .int (1 : Int32)), (0, .ref 1000002), (1, .ref 0), (2, .ref 178), (3, .ref 226), (4, .int (0 : Int32))]) (st' := [.int (4 : Int32), .ref 1000002, .int p3, .int p2, .int p1, .ref 178]) rfl ?_
  refine jw.sld F jx_i439 hX hbB hE2 (pc' := 360) rfl rfl (show vp_in (nI 4) 6 from vp_in_nI (by decide) (by decide)) q4 rfl ?_
  refine jw.ca hTb F jx_i439 (pc' := 363) (S' := [.int (0 : Int32)]) rfl jv_i353 [.ref 178, .int p1, .int p2, .int p3, .int p4] rfl rfl rfl rfl (jx_cal2 rfl (jv_H_at rfl) rfl rfl) rfl (jx_e792 p0 p1 p2 p3 p4 p5 g1 g2 g3 g4 g5) (by omega) (by omega) rfl rfl ?_
  refine jw.steps F jx_i439 2 (pc' := 366) (l' := [(6, .int (0 : Int32)), (5, .int (1 : Int32)), (0, .ref 1000002), (1, .ref 0), (2, .ref 178), (3, .ref 226), (4, .int (0 : Int32))]) (st' := [.ref 178]) rfl ?_
  refine jw.ca hTb F jx_i439 (pc' := 369) (S' := [.int (1 : Int32)]) rfl jv_i350 [.ref 178] rfl rfl rfl rfl (jx_cal2 rfl (jv_H_at rfl) rfl rfl) rfl (jx_e793 p0 p1 p2 p3 p4 p5 g1 g2 g3 g4 g5) (by omega) (by omega) rfl rfl ?_
  refine jw.steps F jx_i439 1 (pc' := 371) (l' := [(6, .int (0 : Int32)), (5, .int (1 : Int32)), (0, .ref 1000002), (1, .ref 0), (2, .ref 178), (3, .ref 226), (4, .int (0 : Int32))]) (st' := [.int (1 : Int32), .int (1 : Int32)]) rfl ?_
  refine jw.br F jx_i439 (pc' := 376) (st' := []) rfl (jv_bc_eq.trans (jx_got (by decide))) ?_
  refine jw.steps F jx_i439 1 (pc' := 378) (l' := [(6, .int (0 : Int32)), (5, .int (1 : Int32)), (0, .ref 1000002), (1, .ref 0), (2, .ref 178), (3, .ref 226), (4, .int (0 : Int32))]) (st' := [.int (1 : Int32)]) rfl ?_
  refine jw.br F jx_i439 (pc' := 393) (st' := []) rfl (jv_bi_ne.trans (jx_got (by decide))) ?_
  refine jw.steps F jx_i439 5 (pc' := 26) (l' := [(4, .int (6 : Int32)), (6, .int (0 : Int32)), (5, .int (1 : Int32)), (0, .ref 1000002), (1, .ref 0), (2, .ref 178), (3, .ref 226)]) (st' := [.ref 1000002, .int (6 : Int32)]) rfl ?_
  refine jw.slen F jx_i439 hX hbB hE2 (pc' := 27) rfl rfl rfl ?_
  refine jw.steps F jx_i439 2 (pc' := 30) (l' := [(4, .int (6 : Int32)), (6, .int (0 : Int32)), (5, .int (1 : Int32)), (0, .ref 1000002), (1, .ref 0), (2, .ref 178), (3, .ref 226)]) (st' := [.int (0 : Int32), .int (6 : Int32)]) rfl ?_
  refine jw.br F jx_i439 (pc' := 1531) (st' := []) rfl (jv_bc_gt.trans (jx_got (by decide))) ?_
  refine jw.steps F jx_i439 1 (pc' := 1532) (l' := [(4, .int (6 : Int32)), (6, .int (0 : Int32)), (5, .int (1 : Int32)), (0, .ref 1000002), (1, .ref 0), (2, .ref 178), (3, .ref 226)]) (st' := [.int (1 : Int32)]) rfl ?_
  exact hQ _ _ _ _ (by omega) (by omega)

set_option maxRecDepth 100000 in
/-- ProgramBox$Store.isShape -/
theorem jx_e794 (p0 : Int32) (p1 : Int32) (p2 : Int32) (p3 : Int32) (p4 : Int32) (p5 : Int32) (g1 : ¬ p1 = (2 : Int32)) (g2 : p1 = (0 : Int32)) (g3 : p2 = (4 : Int32)) (g4 : ¬ p3 < (1 : Int32)) (g5 : ¬ (256 : Int32) < p3) (g6 : p4 < (1 : Int32)) : jv_Ms 123 [.int p1, .int p2, .int p3, .int p4] (jv_H (jx_K 227) jx_If jx_L0 (jx_R 227)) 227 1572950 (some (.int (0 : Int32)), (jv_H (jx_K 227) jx_If jx_L0 (jx_R 227)), 227, 1572950) := by
  show jv_Ev 123 0 [(0, .int p1), (1, .int p2), (2, .int p3), (3, .int p4)] [] (jv_H (jx_K 227) jx_If jx_L0 (jx_R 227)) 227 1572950 _
  refine jv_Ev.steps jv_i123 2 (pc' := 2) (l' := [(0, .int p1), (1, .int p2), (2, .int p3), (3, .int p4)]) (st' := [.int (2 : Int32), .int p1]) rfl ?_
  refine jv_Ev.br jv_i123 (pc' := 40) (st' := []) rfl (jv_bc_ne.trans (jx_got (by rw [g2] <;> decide))) ?_
  refine jv_Ev.steps jv_i123 1 (pc' := 41) (l' := [(0, .int p1), (1, .int p2), (2, .int p3), (3, .int p4)]) (st' := [.int p1]) rfl ?_
  refine jv_Ev.br jv_i123 (pc' := 44) (st' := []) rfl (jv_bi_ne.trans (jx_gof (by rw [g2] <;> decide))) ?_
  refine jv_Ev.steps jv_i123 2 (pc' := 46) (l' := [(0, .int p1), (1, .int p2), (2, .int p3), (3, .int p4)]) (st' := [.int (4 : Int32), .int p2]) rfl ?_
  refine jv_Ev.br jv_i123 (pc' := 49) (st' := []) rfl (jv_bc_ne.trans (jx_gof (by rw [g3] <;> decide))) ?_
  refine jv_Ev.steps jv_i123 4 (pc' := 82) (l' := [(4, .int (1 : Int32)), (0, .int p1), (1, .int p2), (2, .int p3), (3, .int p4)]) (st' := [.int (1 : Int32)]) rfl ?_
  refine jv_Ev.br jv_i123 (pc' := 85) (st' := []) rfl (jv_bi_eq.trans (jx_gof (by decide))) ?_
  refine jv_Ev.steps jv_i123 2 (pc' := 87) (l' := [(4, .int (1 : Int32)), (0, .int p1), (1, .int p2), (2, .int p3), (3, .int p4)]) (st' := [.int (1 : Int32), .int p3]) rfl ?_
  refine jv_Ev.br jv_i123 (pc' := 90) (st' := []) rfl (jv_bc_lt.trans (jx_gof g4)) ?_
  refine jv_Ev.steps jv_i123 2 (pc' := 94) (l' := [(4, .int (1 : Int32)), (0, .int p1), (1, .int p2), (2, .int p3), (3, .int p4)]) (st' := [.int (256 : Int32), .int p3]) rfl ?_
  refine jv_Ev.br jv_i123 (pc' := 97) (st' := []) rfl (jv_bc_gt.trans (jx_gof g5)) ?_
  refine jv_Ev.steps jv_i123 2 (pc' := 99) (l' := [(4, .int (1 : Int32)), (0, .int p1), (1, .int p2), (2, .int p3), (3, .int p4)]) (st' := [.int (1 : Int32), .int p4]) rfl ?_
  refine jv_Ev.br jv_i123 (pc' := 113) (st' := []) rfl (jv_bc_lt.trans (jx_got g6)) ?_
  refine jv_Ev.steps jv_i123 1 (pc' := 114) (l' := [(4, .int (1 : Int32)), (0, .int p1), (1, .int p2), (2, .int p3), (3, .int p4)]) (st' := [.int (0 : Int32)]) rfl ?_
  exact jv_Ev.ret jv_i123 rfl (jv_ret_b (by decide))

set_option maxRecDepth 100000 in
/-- ProgramBox.make: it throws -/
theorem jx_e795 (hTb : jv_TOk jv_Tb) (p0 : Int32) (p1 : Int32) (p2 : Int32) (p3 : Int32) (p4 : Int32) (p5 : Int32) (g1 : ¬ p1 = (2 : Int32)) (g2 : p1 = (0 : Int32)) (g3 : p2 = (4 : Int32)) (g4 : ¬ p3 < (1 : Int32)) (g5 : ¬ (256 : Int32) < p3) (g6 : p4 < (1 : Int32)) : jx_Th 420 [.ref 0, .int p1, .int p2, .int p3, .int p4] (jv_H (jx_K 227) jx_If jx_L0 (jx_R 227)) 227 1572950 1 (jv_H (jx_K 227) jx_If jx_L0 (jx_R 227)) 228 1572956 := by
  refine jx_Th.of hTb (y := 420) rfl (Nat.le_of_ble_eq_true rfl) ?_
  intro p l e R s m args below meth c E hl F hZ h0 ht hRc hRs
  show jw p l e R s m args below meth c E 5 227 1572950 _ 0 [(0, .ref 0), (1, .int p1), (2, .int p2), (3, .int p3), (4, .int p4)] [] (jv_H (jx_K 227) jx_If jx_L0 (jx_R 227)) 227 1572950
  refine jw.steps F jv_i420 4 (pc' := 5) (l' := [(0, .ref 0), (1, .int p1), (2, .int p2), (3, .int p3), (4, .int p4)]) (st' := [.int p4, .int p3, .int p2, .int p1]) rfl ?_
  refine jw.ca hTb F jv_i420 (pc' := 8) (S' := [.int (0 : Int32)]) rfl jv_i123 [.int p1, .int p2, .int p3, .int p4] rfl rfl rfl rfl rfl rfl (jx_e794 p0 p1 p2 p3 p4 p5 g1 g2 g3 g4 g5 g6) (by omega) (by omega) rfl rfl ?_
  refine jw.br F jv_i420 (pc' := 11) (st' := []) rfl (jv_bi_ne.trans (jx_gof (by decide))) ?_
  exact jw.throw hl F hZ h0 rfl jv_i420 ht 1 69 "no map is like this" (List.mem_of_getElem? (i := 2) rfl) (by decide +kernel) (by decide +kernel) (by decide +kernel) (by decide +kernel) (by decide +kernel) rfl (by decide) (by decide) (by decide) (by omega) (by omega)

set_option maxRecDepth 100000 in
/-- the law's make -/
theorem jx_w796 (hTb : jv_TOk jv_Tb) (hT2 : jx_T2Ok) (p0 : Int32) (p1 : Int32) (p2 : Int32) (p3 : Int32) (p4 : Int32) (p5 : Int32) (g1 : ¬ p1 = (2 : Int32)) (g2 : p1 = (0 : Int32)) (g3 : p2 = (4 : Int32)) (g4 : ¬ p3 < (1 : Int32)) (g5 : ¬ (256 : Int32) < p3) (g6 : p4 < (1 : Int32)) : jx_Wr 442 [(0, 14, 17, 19), (0, 14, 21, 13)] [.ref 0, .int p1, .int p2, .int p3, .int p4, .ref 226] (jv_H (jx_K 227) jx_If jx_L0 (jx_R 227)) 227 1572950 (some (.int (1 : Int32)), (jv_H (jx_K 227) jx_If jx_L0 (jx_R 227)), 228, 1572956) := by
  refine jx_Wr.of hT2 (by decide) rfl (Nat.le_of_ble_eq_true rfl) ?_
  intro p l e R s m args below meth c E hl F hZ htb hRc hRs
  show jw p l e R s m args below meth c E 7 227 1572950 _ 0 [(0, .ref 0), (1, .int p1), (2, .int p2), (3, .int p3), (4, .int p4), (5, .ref 226)] [] (jv_H (jx_K 227) jx_If jx_L0 (jx_R 227)) 227 1572950
  have hRc : R.cells = 228 - 227 := hRc
  have hRs : R.slots = 1572956 - 1572950 := hRs
  refine jw.steps F jx_i442 7 (pc' := 9) (l' := [(0, .ref 0), (1, .int p1), (2, .int p2), (3, .int p3), (4, .int p4), (5, .ref 226)]) (st' := [.int p4, .int p3, .int p2, .int p1, .ref 0, .int (0 : Int32), .ref 226]) rfl ?_
  refine jw.cat hTb hl F hZ rfl jx_i442 htb rfl jv_i420 [.ref 0, .int p1, .int p2, .int p3, .int p4] rfl rfl rfl rfl rfl (jx_cal2 rfl (jv_H_at rfl) rfl rfl) rfl (jx_e795 hTb p0 p1 p2 p3 p4 p5 g1 g2 g3 g4 g5 g6) (by omega) (by omega) (by omega) (by omega) [] (0, 14, 17, 19) [(0, 14, 21, 13)] rfl (fun z h => absurd h List.not_mem_nil) (by decide) rfl rfl (Or.inl ⟨rfl, rfl⟩) (by decide) ?_
  refine jw.steps F jx_i442 1 (pc' := 20) (l' := []) (st' := [.int (1 : Int32)]) rfl ?_
  exact jw.ret F jx_i442 rfl rfl

set_option maxRecDepth 100000 in
/-- ProgramBoxModel$Store.isIn -/
theorem jx_e797 (p0 : Int32) (p1 : Int32) (p2 : Int32) (p3 : Int32) (p4 : Int32) (p5 : Int32) (g1 : ¬ p1 = (2 : Int32)) (g2 : p1 = (0 : Int32)) (g3 : p2 = (4 : Int32)) (g4 : ¬ p3 < (1 : Int32)) (g5 : ¬ (256 : Int32) < p3) (g6 : p4 < (1 : Int32)) : jv_Ms 320 [.int p3, .int (1 : Int32), .int (256 : Int32)] (jv_H (jx_K 227) jx_If jx_L0 (jx_R 227)) 228 1572956 (some (.int (1 : Int32)), (jv_H (jx_K 227) jx_If jx_L0 (jx_R 227)), 228, 1572956) := by
  show jv_Ev 320 0 [(0, .int p3), (1, .int (1 : Int32)), (2, .int (256 : Int32))] [] (jv_H (jx_K 227) jx_If jx_L0 (jx_R 227)) 228 1572956 _
  refine jv_Ev.steps jv_i320 2 (pc' := 2) (l' := [(0, .int p3), (1, .int (1 : Int32)), (2, .int (256 : Int32))]) (st' := [.int (1 : Int32), .int p3]) rfl ?_
  refine jv_Ev.br jv_i320 (pc' := 5) (st' := []) rfl (jv_bc_lt.trans (jx_gof g4)) ?_
  refine jv_Ev.steps jv_i320 2 (pc' := 7) (l' := [(0, .int p3), (1, .int (1 : Int32)), (2, .int (256 : Int32))]) (st' := [.int (256 : Int32), .int p3]) rfl ?_
  refine jv_Ev.br jv_i320 (pc' := 10) (st' := []) rfl (jv_bc_gt.trans (jx_gof g5)) ?_
  refine jv_Ev.steps jv_i320 2 (pc' := 15) (l' := [(0, .int p3), (1, .int (1 : Int32)), (2, .int (256 : Int32))]) (st' := [.int (1 : Int32)]) rfl ?_
  exact jv_Ev.ret jv_i320 rfl (jv_ret_b (by decide))

set_option maxRecDepth 100000 in
/-- ProgramBoxModel$Store.isIn -/
theorem jx_e798 (p0 : Int32) (p1 : Int32) (p2 : Int32) (p3 : Int32) (p4 : Int32) (p5 : Int32) (g1 : ¬ p1 = (2 : Int32)) (g2 : p1 = (0 : Int32)) (g3 : p2 = (4 : Int32)) (g4 : ¬ p3 < (1 : Int32)) (g5 : ¬ (256 : Int32) < p3) (g6 : p4 < (1 : Int32)) : jv_Ms 320 [.int p4, .int (1 : Int32), .int (4096 : Int32)] (jv_H (jx_K 227) jx_If jx_L0 (jx_R 227)) 228 1572956 (some (.int (0 : Int32)), (jv_H (jx_K 227) jx_If jx_L0 (jx_R 227)), 228, 1572956) := by
  show jv_Ev 320 0 [(0, .int p4), (1, .int (1 : Int32)), (2, .int (4096 : Int32))] [] (jv_H (jx_K 227) jx_If jx_L0 (jx_R 227)) 228 1572956 _
  refine jv_Ev.steps jv_i320 2 (pc' := 2) (l' := [(0, .int p4), (1, .int (1 : Int32)), (2, .int (4096 : Int32))]) (st' := [.int (1 : Int32), .int p4]) rfl ?_
  refine jv_Ev.br jv_i320 (pc' := 14) (st' := []) rfl (jv_bc_lt.trans (jx_got g6)) ?_
  refine jv_Ev.steps jv_i320 1 (pc' := 15) (l' := [(0, .int p4), (1, .int (1 : Int32)), (2, .int (4096 : Int32))]) (st' := [.int (0 : Int32)]) rfl ?_
  exact jv_Ev.ret jv_i320 rfl (jv_ret_b (by decide))

set_option maxRecDepth 100000 in
/-- ProgramBoxModel$Store.isProper -/
theorem jx_e799 (p0 : Int32) (p1 : Int32) (p2 : Int32) (p3 : Int32) (p4 : Int32) (p5 : Int32) (g1 : ¬ p1 = (2 : Int32)) (g2 : p1 = (0 : Int32)) (g3 : p2 = (4 : Int32)) (g4 : ¬ p3 < (1 : Int32)) (g5 : ¬ (256 : Int32) < p3) (g6 : p4 < (1 : Int32)) : jv_Ms 322 [.int p1, .int p2, .int p3, .int p4] (jv_H (jx_K 227) jx_If jx_L0 (jx_R 227)) 228 1572956 (some (.int (0 : Int32)), (jv_H (jx_K 227) jx_If jx_L0 (jx_R 227)), 228, 1572956) := by
  show jv_Ev 322 0 [(0, .int p1), (1, .int p2), (2, .int p3), (3, .int p4)] [] (jv_H (jx_K 227) jx_If jx_L0 (jx_R 227)) 228 1572956 _
  refine jv_Ev.steps jv_i322 2 (pc' := 2) (l' := [(0, .int p1), (1, .int p2), (2, .int p3), (3, .int p4)]) (st' := [.int (2 : Int32), .int p1]) rfl ?_
  refine jv_Ev.br jv_i322 (pc' := 38) (st' := []) rfl (jv_bc_ne.trans (jx_got (by rw [g2] <;> decide))) ?_
  refine jv_Ev.steps jv_i322 1 (pc' := 39) (l' := [(0, .int p1), (1, .int p2), (2, .int p3), (3, .int p4)]) (st' := [.int p1]) rfl ?_
  refine jv_Ev.br jv_i322 (pc' := 42) (st' := []) rfl (jv_bi_ne.trans (jx_gof (by rw [g2] <;> decide))) ?_
  refine jv_Ev.steps jv_i322 2 (pc' := 44) (l' := [(0, .int p1), (1, .int p2), (2, .int p3), (3, .int p4)]) (st' := [.int (4 : Int32), .int p2]) rfl ?_
  refine jv_Ev.br jv_i322 (pc' := 47) (st' := []) rfl (jv_bc_ne.trans (jx_gof (by rw [g3] <;> decide))) ?_
  refine jv_Ev.steps jv_i322 4 (pc' := 79) (l' := [(4, .int (1 : Int32)), (0, .int p1), (1, .int p2), (2, .int p3), (3, .int p4)]) (st' := [.int (1 : Int32)]) rfl ?_
  refine jv_Ev.br jv_i322 (pc' := 82) (st' := []) rfl (jv_bi_eq.trans (jx_gof (by decide))) ?_
  refine jv_Ev.steps jv_i322 3 (pc' := 87) (l' := [(4, .int (1 : Int32)), (0, .int p1), (1, .int p2), (2, .int p3), (3, .int p4)]) (st' := [.int (256 : Int32), .int (1 : Int32), .int p3]) rfl ?_
  refine jv_Ev.c jv_i322 (pc' := 90) (S' := [.int (1 : Int32)]) jv_i320 [.int p3, .int (1 : Int32), .int (256 : Int32)] rfl rfl rfl rfl rfl rfl (jx_e797 p0 p1 p2 p3 p4 p5 g1 g2 g3 g4 g5 g6) rfl rfl ?_
  refine jv_Ev.br jv_i322 (pc' := 93) (st' := []) rfl (jv_bi_eq.trans (jx_gof (by decide))) ?_
  refine jv_Ev.steps jv_i322 3 (pc' := 98) (l' := [(4, .int (1 : Int32)), (0, .int p1), (1, .int p2), (2, .int p3), (3, .int p4)]) (st' := [.int (4096 : Int32), .int (1 : Int32), .int p4]) rfl ?_
  refine jv_Ev.c jv_i322 (pc' := 101) (S' := [.int (0 : Int32)]) jv_i320 [.int p4, .int (1 : Int32), .int (4096 : Int32)] rfl rfl rfl rfl rfl rfl (jx_e798 p0 p1 p2 p3 p4 p5 g1 g2 g3 g4 g5 g6) rfl rfl ?_
  refine jv_Ev.br jv_i322 (pc' := 108) (st' := []) rfl (jv_bi_eq.trans (jx_got (by decide))) ?_
  refine jv_Ev.steps jv_i322 1 (pc' := 109) (l' := [(4, .int (1 : Int32)), (0, .int p1), (1, .int p2), (2, .int p3), (3, .int p4)]) (st' := [.int (0 : Int32)]) rfl ?_
  exact jv_Ev.ret jv_i322 rfl (jv_ret_b (by decide))

set_option maxRecDepth 100000 in
/-- ProgramBoxModel$Store.make -/
theorem jx_e800 (p0 : Int32) (p1 : Int32) (p2 : Int32) (p3 : Int32) (p4 : Int32) (p5 : Int32) (g1 : ¬ p1 = (2 : Int32)) (g2 : p1 = (0 : Int32)) (g3 : p2 = (4 : Int32)) (g4 : ¬ p3 < (1 : Int32)) (g5 : ¬ (256 : Int32) < p3) (g6 : p4 < (1 : Int32)) : jv_Ms 323 [.ref 180, .int p1, .int p2, .int p3, .int p4] (jv_H (jx_K 227) jx_If jx_L0 (jx_R 227)) 228 1572956 (some (.int (0 : Int32)), (jv_H (jx_K 227) (jv_u jx_If 180 0 (1 : Int32)) jx_L0 (jx_R 227)), 228, 1572956) := by
  show jv_Ev 323 0 [(0, .ref 180), (1, .int p1), (2, .int p2), (3, .int p3), (4, .int p4)] [] (jv_H (jx_K 227) jx_If jx_L0 (jx_R 227)) 228 1572956 _
  refine jv_Ev.steps jv_i323 5 (pc' := 6) (l' := [(0, .ref 180), (1, .int p1), (2, .int p2), (3, .int p3), (4, .int p4)]) (st' := [.int p4, .int p3, .int p2, .int p1, .ref 180]) rfl ?_
  refine jv_Ev.c jv_i323 (pc' := 9) (S' := [.int (0 : Int32), .ref 180]) jv_i322 [.int p1, .int p2, .int p3, .int p4] rfl rfl rfl rfl rfl rfl (jx_e799 p0 p1 p2 p3 p4 p5 g1 g2 g3 g4 g5 g6) rfl rfl ?_
  refine jv_Ev.br jv_i323 (pc' := 16) (st' := [.ref 180]) rfl (jv_bi_eq.trans (jx_got (by decide))) ?_
  refine jv_Ev.steps jv_i323 1 (pc' := 17) (l' := [(0, .ref 180), (1, .int p1), (2, .int p2), (3, .int p3), (4, .int p4)]) (st' := [.int (1 : Int32), .ref 180]) rfl ?_
  refine jv_Ev.m jv_i323 (pc' := 20) (st' := []) rfl rfl (jv_m_putI rfl rfl rfl rfl rfl) ?_
  refine jv_Ev.steps jv_i323 1 (pc' := 21) (l' := [(0, .ref 180), (1, .int p1), (2, .int p2), (3, .int p3), (4, .int p4)]) (st' := [.ref 180]) rfl ?_
  refine jv_Ev.m jv_i323 (pc' := 24) (st' := [.int (1 : Int32)]) rfl rfl (jv_m_getI rfl rfl rfl rfl) ?_
  refine jv_Ev.br jv_i323 (pc' := 27) (st' := []) rfl (jv_bi_le.trans (jx_gof (by decide))) ?_
  refine jv_Ev.steps jv_i323 1 (pc' := 28) (l' := [(0, .ref 180), (1, .int p1), (2, .int p2), (3, .int p3), (4, .int p4)]) (st' := [.int (0 : Int32)]) rfl ?_
  exact jv_Ev.ret jv_i323 rfl rfl

set_option maxRecDepth 100000 in
/-- ProgramBoxModel$Store.thrown -/
theorem jx_e801 (p0 : Int32) (p1 : Int32) (p2 : Int32) (p3 : Int32) (p4 : Int32) (p5 : Int32) (g1 : ¬ p1 = (2 : Int32)) (g2 : p1 = (0 : Int32)) (g3 : p2 = (4 : Int32)) (g4 : ¬ p3 < (1 : Int32)) (g5 : ¬ (256 : Int32) < p3) (g6 : p4 < (1 : Int32)) : jv_Ms 318 [.ref 180] (jv_H (jx_K 227) (jv_u jx_If 180 0 (1 : Int32)) jx_L0 (jx_R 227)) 228 1572956 (some (.int (1 : Int32)), (jv_H (jx_K 227) (jv_u jx_If 180 0 (1 : Int32)) jx_L0 (jx_R 227)), 228, 1572956) := by
  show jv_Ev 318 0 [(0, .ref 180)] [] (jv_H (jx_K 227) (jv_u jx_If 180 0 (1 : Int32)) jx_L0 (jx_R 227)) 228 1572956 _
  refine jv_Ev.steps jv_i318 1 (pc' := 1) (l' := [(0, .ref 180)]) (st' := [.ref 180]) rfl ?_
  refine jv_Ev.m jv_i318 (pc' := 4) (st' := [.int (1 : Int32)]) rfl rfl (jv_m_getI rfl rfl rfl rfl) ?_
  exact jv_Ev.ret jv_i318 rfl rfl

set_option maxRecDepth 100000 in
/-- ProgramBoxModel.make -/
theorem jx_e802 (p0 : Int32) (p1 : Int32) (p2 : Int32) (p3 : Int32) (p4 : Int32) (p5 : Int32) (g1 : ¬ p1 = (2 : Int32)) (g2 : p1 = (0 : Int32)) (g3 : p2 = (4 : Int32)) (g4 : ¬ p3 < (1 : Int32)) (g5 : ¬ (256 : Int32) < p3) (g6 : p4 < (1 : Int32)) : jv_Ms 353 [.ref 178, .int p1, .int p2, .int p3, .int p4] (jv_H (jx_K 227) jx_If jx_L0 (jx_R 227)) 228 1572956 (some (.int (0 : Int32)), (jv_H (jx_K 227) (jv_u (jv_u jx_If 180 0 (1 : Int32)) 178 0 (1 : Int32)) jx_L0 (jx_R 227)), 228, 1572956) := by
  show jv_Ev 353 0 [(0, .ref 178), (1, .int p1), (2, .int p2), (3, .int p3), (4, .int p4)] [] (jv_H (jx_K 227) jx_If jx_L0 (jx_R 227)) 228 1572956 _
  refine jv_Ev.steps jv_i353 1 (pc' := 1) (l' := [(0, .ref 178), (1, .int p1), (2, .int p2), (3, .int p3), (4, .int p4)]) (st' := [.ref 178]) rfl ?_
  refine jv_Ev.m jv_i353 (pc' := 4) (st' := [.ref 180]) rfl rfl (jv_m_getR rfl rfl rfl rfl) ?_
  refine jv_Ev.steps jv_i353 4 (pc' := 9) (l' := [(0, .ref 178), (1, .int p1), (2, .int p2), (3, .int p3), (4, .int p4)]) (st' := [.int p4, .int p3, .int p2, .int p1, .ref 180]) rfl ?_
  refine jv_Ev.c jv_i353 (pc' := 12) (S' := [.int (0 : Int32)]) jv_i323 [.ref 180, .int p1, .int p2, .int p3, .int p4] rfl rfl rfl rfl (jv_cal rfl (jv_H_at rfl) rfl rfl) rfl (jx_e800 p0 p1 p2 p3 p4 p5 g1 g2 g3 g4 g5 g6) rfl rfl ?_
  refine jv_Ev.steps jv_i353 3 (pc' := 16) (l' := [(5, .int (0 : Int32)), (0, .ref 178), (1, .int p1), (2, .int p2), (3, .int p3), (4, .int p4)]) (st' := [.ref 178, .ref 178]) rfl ?_
  refine jv_Ev.m jv_i353 (pc' := 19) (st' := [.ref 180, .ref 178]) rfl rfl (jv_m_getR rfl rfl rfl rfl) ?_
  refine jv_Ev.c jv_i353 (pc' := 22) (S' := [.int (1 : Int32), .ref 178]) jv_i318 [.ref 180] rfl rfl rfl rfl (jv_cal rfl (jv_H_at rfl) rfl rfl) rfl (jx_e801 p0 p1 p2 p3 p4 p5 g1 g2 g3 g4 g5 g6) rfl rfl ?_
  refine jv_Ev.m jv_i353 (pc' := 25) (st' := []) rfl rfl (jv_m_putI rfl rfl rfl rfl rfl) ?_
  refine jv_Ev.steps jv_i353 1 (pc' := 26) (l' := [(5, .int (0 : Int32)), (0, .ref 178), (1, .int p1), (2, .int p2), (3, .int p3), (4, .int p4)]) (st' := [.ref 178]) rfl ?_
  refine jv_Ev.m jv_i353 (pc' := 29) (st' := [.int (1 : Int32)]) rfl rfl (jv_m_getI rfl rfl rfl rfl) ?_
  refine jv_Ev.br jv_i353 (pc' := 67) (st' := []) rfl (jv_bi_ne.trans (jx_got (by decide))) ?_
  refine jv_Ev.steps jv_i353 1 (pc' := 69) (l' := [(5, .int (0 : Int32)), (0, .ref 178), (1, .int p1), (2, .int p2), (3, .int p3), (4, .int p4)]) (st' := [.int (0 : Int32)]) rfl ?_
  exact jv_Ev.ret jv_i353 rfl rfl

set_option maxRecDepth 100000 in
/-- ProgramBoxModel.thrown -/
theorem jx_e803 (p0 : Int32) (p1 : Int32) (p2 : Int32) (p3 : Int32) (p4 : Int32) (p5 : Int32) (g1 : ¬ p1 = (2 : Int32)) (g2 : p1 = (0 : Int32)) (g3 : p2 = (4 : Int32)) (g4 : ¬ p3 < (1 : Int32)) (g5 : ¬ (256 : Int32) < p3) (g6 : p4 < (1 : Int32)) : jv_Ms 350 [.ref 178] (jv_H (jx_K 227) (jv_u (jv_u jx_If 180 0 (1 : Int32)) 178 0 (1 : Int32)) jx_L0 (jx_R 227)) 228 1572956 (some (.int (1 : Int32)), (jv_H (jx_K 227) (jv_u (jv_u jx_If 180 0 (1 : Int32)) 178 0 (1 : Int32)) jx_L0 (jx_R 227)), 228, 1572956) := by
  show jv_Ev 350 0 [(0, .ref 178)] [] (jv_H (jx_K 227) (jv_u (jv_u jx_If 180 0 (1 : Int32)) 178 0 (1 : Int32)) jx_L0 (jx_R 227)) 228 1572956 _
  refine jv_Ev.steps jv_i350 1 (pc' := 1) (l' := [(0, .ref 178)]) (st' := [.ref 178]) rfl ?_
  refine jv_Ev.m jv_i350 (pc' := 4) (st' := [.int (1 : Int32)]) rfl rfl (jv_m_getI rfl rfl rfl rfl) ?_
  exact jv_Ev.ret jv_i350 rfl rfl

set_option maxRecDepth 100000 in
/-- the law: case 2, one way -/
theorem jx_l92 (p0 : Int32) (p1 : Int32) (p2 : Int32) (p3 : Int32) (p4 : Int32) (p5 : Int32) (g1 : ¬ p1 = (2 : Int32)) (g2 : p1 = (0 : Int32)) (g3 : p2 = (4 : Int32)) (g4 : ¬ p3 < (1 : Int32)) (g5 : ¬ (256 : Int32) < p3) (g6 : p4 < (1 : Int32)) (hsw : p0 &&& (31 : Int32) = (2 : Int32)) {p : Program} {l : Launch} {e : Env} {R : Room} {s : State} {m : MethodId} {args : Array Value} {below : List Frame} {meth : Method} {c : Code} {E : jv_Env} {Q : State → Prop} (hTb : jv_TOk jv_Tb) (hT2 : jx_T2Ok) (hl : l.stackTraces = false) (F : jx_F jv_T2 439 E p R s m args meth c) (hZ : jx_Z E s) (hRc : R.cells = 600002) (hRs : R.slots = 7302232) {bb : Nat} {xs : Nat → Int32} (hX : va_X bb 6 xs s E.2.2.2.2) (hbB : bb < E.2.2.2.1) (hE2 : E.1 1000002 = bb) (hQ : ∀ (l0 : jv_L) (G : jv_G) (n sl : Nat), n ≤ 600002 → sl ≤ 7302232 → jw p l e R s m args below meth c E 8 0 0 Q 1532 l0 [.int (1 : Int32)] G n sl) (q0 : xs 0 = p0) (q1 : xs 1 = p1) (q2 : xs 2 = p2) (q3 : xs 3 = p3) (q4 : xs 4 = p4) (q5 : xs 5 = p5) : jw p l e R s m args below meth c E 8 0 0 Q 33 [(0, .ref 1000002), (1, .ref 0), (2, .ref 178), (3, .ref 226), (4, .int (0 : Int32))] [] (jv_H (jx_K 227) jx_If jx_L0 (jx_R 227)) 227 1572950 := by
  refine jw.steps F jx_i439 2 (pc' := 36) (l' := [(0, .ref 1000002), (1, .ref 0), (2, .ref 178), (3, .ref 226), (4, .int (0 : Int32))]) (st' := [.int (0 : Int32), .ref 1000002]) rfl ?_
  refine jw.sld F jx_i439 hX hbB hE2 (pc' := 37) rfl rfl (show vp_in (nI 0) 6 from vp_in_nI (by decide) (by decide)) q0 rfl ?_
  refine jw.steps F jx_i439 2 (pc' := 40) (l' := [(0, .ref 1000002), (1, .ref 0), (2, .ref 178), (3, .ref 226), (4, .int (0 : Int32))]) (st' := [.int (p0 &&& (31 : Int32))]) rfl ?_
  refine jw.br F jx_i439 (pc' := 304) (st' := []) rfl (by rw [hsw]; rfl) ?_
  refine jw.steps F jx_i439 5 (pc' := 310) (l' := [(0, .ref 1000002), (1, .ref 0), (2, .ref 178), (3, .ref 226), (4, .int (0 : Int32))]) (st' := [.int (1 : Int32), .ref 1000002, .ref 0]) rfl ?_
  refine jw.sld F jx_i439 hX hbB hE2 (pc' := 311) rfl rfl (show vp_in (nI 1) 6 from vp_in_nI (by decide) (by decide)) q1 rfl ?_
  refine jw.steps F jx_i439 4 (pc' := 316) (l' := [(0, .ref 1000002), (1, .ref 0), (2, .ref 178), (3, .ref 226), (4, .int (0 : Int32))]) (st' := [.int (2 : Int32), .ref 1000002, .int p1, .ref 0]) rfl ?_
  refine jw.sld F jx_i439 hX hbB hE2 (pc' := 317) rfl rfl (show vp_in (nI 2) 6 from vp_in_nI (by decide) (by decide)) q2 rfl ?_
  refine jw.steps F jx_i439 4 (pc' := 322) (l' := [(0, .ref 1000002), (1, .ref 0), (2, .ref 178), (3, .ref 226), (4, .int (0 : Int32))]) (st' := [.int (3 : Int32), .ref 1000002, .int p2, .int p1, .ref 0]) rfl ?_
  refine jw.sld F jx_i439 hX hbB hE2 (pc' := 323) rfl rfl (show vp_in (nI 3) 6 from vp_in_nI (by decide) (by decide)) q3 rfl ?_
  refine jw.steps F jx_i439 4 (pc' := 328) (l' := [(0, .ref 1000002), (1, .ref 0), (2, .ref 178), (3, .ref 226), (4, .int (0 : Int32))]) (st' := [.int (4 : Int32), .ref 1000002, .int p3, .int p2, .int p1, .ref 0]) rfl ?_
  refine jw.sld F jx_i439 hX hbB hE2 (pc' := 329) rfl rfl (show vp_in (nI 4) 6 from vp_in_nI (by decide) (by decide)) q4 rfl ?_
  refine jw.steps F jx_i439 1 (pc' := 330) (l' := [(0, .ref 1000002), (1, .ref 0), (2, .ref 178), (3, .ref 226), (4, .int (0 : Int32))]) (st' := [.ref 226, .int p4, .int p3, .int p2, .int p1, .ref 0]) rfl ?_
  refine jw.wr F hl hZ rfl jx_i439 jx_i442 [.ref 0, .int p1, .int p2, .int p3, .int p4, .ref 226] (pc' := 333) (S' := [.int (1 : Int32)]) rfl (List.mem_of_getElem? (i := 2) rfl) (List.mem_of_getElem? (i := 2) rfl) rfl rfl rfl (jx_w796 hTb hT2 p0 p1 p2 p3 p4 p5 g1 g2 g3 g4 g5 g6) (by omega) (by omega) (by omega) (by omega) rfl rfl ?_
  refine jw.steps F jx_i439 6 (pc' := 341) (l' := [(5, .int (1 : Int32)), (0, .ref 1000002), (1, .ref 0), (2, .ref 178), (3, .ref 226), (4, .int (0 : Int32))]) (st' := [.int (1 : Int32), .ref 1000002, .ref 178]) rfl ?_
  refine jw.sld F jx_i439 hX hbB hE2 (pc' := 342) rfl rfl (show vp_in (nI 1) 6 from vp_in_nI (by decide) (by decide)) q1 rfl ?_
  refine jw.steps F jx_i439 4 (pc' := 347) (l' := [(5, .int (1 : Int32)), (0, .ref 1000002), (1, .ref 0), (2, .ref 178), (3, .ref 226), (4, .int (0 : Int32))]) (st' := [.int (2 : Int32), .ref 1000002, .int p1, .ref 178]) rfl ?_
  refine jw.sld F jx_i439 hX hbB hE2 (pc' := 348) rfl rfl (show vp_in (nI 2) 6 from vp_in_nI (by decide) (by decide)) q2 rfl ?_
  refine jw.steps F jx_i439 4 (pc' := 353) (l' := [(5, .int (1 : Int32)), (0, .ref 1000002), (1, .ref 0), (2, .ref 178), (3, .ref 226), (4, .int (0 : Int32))]) (st' := [.int (3 : Int32), .ref 1000002, .int p2, .int p1, .ref 178]) rfl ?_
  refine jw.sld F jx_i439 hX hbB hE2 (pc' := 354) rfl rfl (show vp_in (nI 3) 6 from vp_in_nI (by decide) (by decide)) q3 rfl ?_
  refine jw.steps F jx_i439 4 (pc' := 359) (l' := [(5, .int (1 : Int32)), (0, .ref 1000002), (1, .ref 0), (2, .ref 178), (3, .ref 226), (4, .int (0 : Int32))]) (st' := [.int (4 : Int32), .ref 1000002, .int p3, .int p2, .int p1, .ref 178]) rfl ?_
  refine jw.sld F jx_i439 hX hbB hE2 (pc' := 360) rfl rfl (show vp_in (nI 4) 6 from vp_in_nI (by decide) (by decide)) q4 rfl ?_
  refine jw.ca hTb F jx_i439 (pc' := 363) (S' := [.int (0 : Int32)]) rfl jv_i353 [.ref 178, .int p1, .int p2, .int p3, .int p4] rfl rfl rfl rfl (jx_cal2 rfl (jv_H_at rfl) rfl rfl) rfl (jx_e802 p0 p1 p2 p3 p4 p5 g1 g2 g3 g4 g5 g6) (by omega) (by omega) rfl rfl ?_
  refine jw.steps F jx_i439 2 (pc' := 366) (l' := [(6, .int (0 : Int32)), (5, .int (1 : Int32)), (0, .ref 1000002), (1, .ref 0), (2, .ref 178), (3, .ref 226), (4, .int (0 : Int32))]) (st' := [.ref 178]) rfl ?_
  refine jw.ca hTb F jx_i439 (pc' := 369) (S' := [.int (1 : Int32)]) rfl jv_i350 [.ref 178] rfl rfl rfl rfl (jx_cal2 rfl (jv_H_at rfl) rfl rfl) rfl (jx_e803 p0 p1 p2 p3 p4 p5 g1 g2 g3 g4 g5 g6) (by omega) (by omega) rfl rfl ?_
  refine jw.steps F jx_i439 1 (pc' := 371) (l' := [(6, .int (0 : Int32)), (5, .int (1 : Int32)), (0, .ref 1000002), (1, .ref 0), (2, .ref 178), (3, .ref 226), (4, .int (0 : Int32))]) (st' := [.int (1 : Int32), .int (1 : Int32)]) rfl ?_
  refine jw.br F jx_i439 (pc' := 376) (st' := []) rfl (jv_bc_eq.trans (jx_got (by decide))) ?_
  refine jw.steps F jx_i439 1 (pc' := 378) (l' := [(6, .int (0 : Int32)), (5, .int (1 : Int32)), (0, .ref 1000002), (1, .ref 0), (2, .ref 178), (3, .ref 226), (4, .int (0 : Int32))]) (st' := [.int (1 : Int32)]) rfl ?_
  refine jw.br F jx_i439 (pc' := 393) (st' := []) rfl (jv_bi_ne.trans (jx_got (by decide))) ?_
  refine jw.steps F jx_i439 5 (pc' := 26) (l' := [(4, .int (6 : Int32)), (6, .int (0 : Int32)), (5, .int (1 : Int32)), (0, .ref 1000002), (1, .ref 0), (2, .ref 178), (3, .ref 226)]) (st' := [.ref 1000002, .int (6 : Int32)]) rfl ?_
  refine jw.slen F jx_i439 hX hbB hE2 (pc' := 27) rfl rfl rfl ?_
  refine jw.steps F jx_i439 2 (pc' := 30) (l' := [(4, .int (6 : Int32)), (6, .int (0 : Int32)), (5, .int (1 : Int32)), (0, .ref 1000002), (1, .ref 0), (2, .ref 178), (3, .ref 226)]) (st' := [.int (0 : Int32), .int (6 : Int32)]) rfl ?_
  refine jw.br F jx_i439 (pc' := 1531) (st' := []) rfl (jv_bc_gt.trans (jx_got (by decide))) ?_
  refine jw.steps F jx_i439 1 (pc' := 1532) (l' := [(4, .int (6 : Int32)), (6, .int (0 : Int32)), (5, .int (1 : Int32)), (0, .ref 1000002), (1, .ref 0), (2, .ref 178), (3, .ref 226)]) (st' := [.int (1 : Int32)]) rfl ?_
  exact hQ _ _ _ _ (by omega) (by omega)

set_option maxRecDepth 100000 in
/-- ProgramBox$Store.isShape -/
theorem jx_e804 (p0 : Int32) (p1 : Int32) (p2 : Int32) (p3 : Int32) (p4 : Int32) (p5 : Int32) (g1 : ¬ p1 = (2 : Int32)) (g2 : p1 = (0 : Int32)) (g3 : p2 = (4 : Int32)) (g4 : ¬ p3 < (1 : Int32)) (g5 : ¬ (256 : Int32) < p3) (g6 : ¬ p4 < (1 : Int32)) (g7 : (4096 : Int32) < p4) : jv_Ms 123 [.int p1, .int p2, .int p3, .int p4] (jv_H (jx_K 227) jx_If jx_L0 (jx_R 227)) 227 1572950 (some (.int (0 : Int32)), (jv_H (jx_K 227) jx_If jx_L0 (jx_R 227)), 227, 1572950) := by
  show jv_Ev 123 0 [(0, .int p1), (1, .int p2), (2, .int p3), (3, .int p4)] [] (jv_H (jx_K 227) jx_If jx_L0 (jx_R 227)) 227 1572950 _
  refine jv_Ev.steps jv_i123 2 (pc' := 2) (l' := [(0, .int p1), (1, .int p2), (2, .int p3), (3, .int p4)]) (st' := [.int (2 : Int32), .int p1]) rfl ?_
  refine jv_Ev.br jv_i123 (pc' := 40) (st' := []) rfl (jv_bc_ne.trans (jx_got (by rw [g2] <;> decide))) ?_
  refine jv_Ev.steps jv_i123 1 (pc' := 41) (l' := [(0, .int p1), (1, .int p2), (2, .int p3), (3, .int p4)]) (st' := [.int p1]) rfl ?_
  refine jv_Ev.br jv_i123 (pc' := 44) (st' := []) rfl (jv_bi_ne.trans (jx_gof (by rw [g2] <;> decide))) ?_
  refine jv_Ev.steps jv_i123 2 (pc' := 46) (l' := [(0, .int p1), (1, .int p2), (2, .int p3), (3, .int p4)]) (st' := [.int (4 : Int32), .int p2]) rfl ?_
  refine jv_Ev.br jv_i123 (pc' := 49) (st' := []) rfl (jv_bc_ne.trans (jx_gof (by rw [g3] <;> decide))) ?_
  refine jv_Ev.steps jv_i123 4 (pc' := 82) (l' := [(4, .int (1 : Int32)), (0, .int p1), (1, .int p2), (2, .int p3), (3, .int p4)]) (st' := [.int (1 : Int32)]) rfl ?_
  refine jv_Ev.br jv_i123 (pc' := 85) (st' := []) rfl (jv_bi_eq.trans (jx_gof (by decide))) ?_
  refine jv_Ev.steps jv_i123 2 (pc' := 87) (l' := [(4, .int (1 : Int32)), (0, .int p1), (1, .int p2), (2, .int p3), (3, .int p4)]) (st' := [.int (1 : Int32), .int p3]) rfl ?_
  refine jv_Ev.br jv_i123 (pc' := 90) (st' := []) rfl (jv_bc_lt.trans (jx_gof g4)) ?_
  refine jv_Ev.steps jv_i123 2 (pc' := 94) (l' := [(4, .int (1 : Int32)), (0, .int p1), (1, .int p2), (2, .int p3), (3, .int p4)]) (st' := [.int (256 : Int32), .int p3]) rfl ?_
  refine jv_Ev.br jv_i123 (pc' := 97) (st' := []) rfl (jv_bc_gt.trans (jx_gof g5)) ?_
  refine jv_Ev.steps jv_i123 2 (pc' := 99) (l' := [(4, .int (1 : Int32)), (0, .int p1), (1, .int p2), (2, .int p3), (3, .int p4)]) (st' := [.int (1 : Int32), .int p4]) rfl ?_
  refine jv_Ev.br jv_i123 (pc' := 102) (st' := []) rfl (jv_bc_lt.trans (jx_gof g6)) ?_
  refine jv_Ev.steps jv_i123 2 (pc' := 106) (l' := [(4, .int (1 : Int32)), (0, .int p1), (1, .int p2), (2, .int p3), (3, .int p4)]) (st' := [.int (4096 : Int32), .int p4]) rfl ?_
  refine jv_Ev.br jv_i123 (pc' := 113) (st' := []) rfl (jv_bc_gt.trans (jx_got g7)) ?_
  refine jv_Ev.steps jv_i123 1 (pc' := 114) (l' := [(4, .int (1 : Int32)), (0, .int p1), (1, .int p2), (2, .int p3), (3, .int p4)]) (st' := [.int (0 : Int32)]) rfl ?_
  exact jv_Ev.ret jv_i123 rfl (jv_ret_b (by decide))

set_option maxRecDepth 100000 in
/-- ProgramBox.make: it throws -/
theorem jx_e805 (hTb : jv_TOk jv_Tb) (p0 : Int32) (p1 : Int32) (p2 : Int32) (p3 : Int32) (p4 : Int32) (p5 : Int32) (g1 : ¬ p1 = (2 : Int32)) (g2 : p1 = (0 : Int32)) (g3 : p2 = (4 : Int32)) (g4 : ¬ p3 < (1 : Int32)) (g5 : ¬ (256 : Int32) < p3) (g6 : ¬ p4 < (1 : Int32)) (g7 : (4096 : Int32) < p4) : jx_Th 420 [.ref 0, .int p1, .int p2, .int p3, .int p4] (jv_H (jx_K 227) jx_If jx_L0 (jx_R 227)) 227 1572950 1 (jv_H (jx_K 227) jx_If jx_L0 (jx_R 227)) 228 1572956 := by
  refine jx_Th.of hTb (y := 420) rfl (Nat.le_of_ble_eq_true rfl) ?_
  intro p l e R s m args below meth c E hl F hZ h0 ht hRc hRs
  show jw p l e R s m args below meth c E 5 227 1572950 _ 0 [(0, .ref 0), (1, .int p1), (2, .int p2), (3, .int p3), (4, .int p4)] [] (jv_H (jx_K 227) jx_If jx_L0 (jx_R 227)) 227 1572950
  refine jw.steps F jv_i420 4 (pc' := 5) (l' := [(0, .ref 0), (1, .int p1), (2, .int p2), (3, .int p3), (4, .int p4)]) (st' := [.int p4, .int p3, .int p2, .int p1]) rfl ?_
  refine jw.ca hTb F jv_i420 (pc' := 8) (S' := [.int (0 : Int32)]) rfl jv_i123 [.int p1, .int p2, .int p3, .int p4] rfl rfl rfl rfl rfl rfl (jx_e804 p0 p1 p2 p3 p4 p5 g1 g2 g3 g4 g5 g6 g7) (by omega) (by omega) rfl rfl ?_
  refine jw.br F jv_i420 (pc' := 11) (st' := []) rfl (jv_bi_ne.trans (jx_gof (by decide))) ?_
  exact jw.throw hl F hZ h0 rfl jv_i420 ht 1 69 "no map is like this" (List.mem_of_getElem? (i := 2) rfl) (by decide +kernel) (by decide +kernel) (by decide +kernel) (by decide +kernel) (by decide +kernel) rfl (by decide) (by decide) (by decide) (by omega) (by omega)

set_option maxRecDepth 100000 in
/-- the law's make -/
theorem jx_w806 (hTb : jv_TOk jv_Tb) (hT2 : jx_T2Ok) (p0 : Int32) (p1 : Int32) (p2 : Int32) (p3 : Int32) (p4 : Int32) (p5 : Int32) (g1 : ¬ p1 = (2 : Int32)) (g2 : p1 = (0 : Int32)) (g3 : p2 = (4 : Int32)) (g4 : ¬ p3 < (1 : Int32)) (g5 : ¬ (256 : Int32) < p3) (g6 : ¬ p4 < (1 : Int32)) (g7 : (4096 : Int32) < p4) : jx_Wr 442 [(0, 14, 17, 19), (0, 14, 21, 13)] [.ref 0, .int p1, .int p2, .int p3, .int p4, .ref 226] (jv_H (jx_K 227) jx_If jx_L0 (jx_R 227)) 227 1572950 (some (.int (1 : Int32)), (jv_H (jx_K 227) jx_If jx_L0 (jx_R 227)), 228, 1572956) := by
  refine jx_Wr.of hT2 (by decide) rfl (Nat.le_of_ble_eq_true rfl) ?_
  intro p l e R s m args below meth c E hl F hZ htb hRc hRs
  show jw p l e R s m args below meth c E 7 227 1572950 _ 0 [(0, .ref 0), (1, .int p1), (2, .int p2), (3, .int p3), (4, .int p4), (5, .ref 226)] [] (jv_H (jx_K 227) jx_If jx_L0 (jx_R 227)) 227 1572950
  have hRc : R.cells = 228 - 227 := hRc
  have hRs : R.slots = 1572956 - 1572950 := hRs
  refine jw.steps F jx_i442 7 (pc' := 9) (l' := [(0, .ref 0), (1, .int p1), (2, .int p2), (3, .int p3), (4, .int p4), (5, .ref 226)]) (st' := [.int p4, .int p3, .int p2, .int p1, .ref 0, .int (0 : Int32), .ref 226]) rfl ?_
  refine jw.cat hTb hl F hZ rfl jx_i442 htb rfl jv_i420 [.ref 0, .int p1, .int p2, .int p3, .int p4] rfl rfl rfl rfl rfl (jx_cal2 rfl (jv_H_at rfl) rfl rfl) rfl (jx_e805 hTb p0 p1 p2 p3 p4 p5 g1 g2 g3 g4 g5 g6 g7) (by omega) (by omega) (by omega) (by omega) [] (0, 14, 17, 19) [(0, 14, 21, 13)] rfl (fun z h => absurd h List.not_mem_nil) (by decide) rfl rfl (Or.inl ⟨rfl, rfl⟩) (by decide) ?_
  refine jw.steps F jx_i442 1 (pc' := 20) (l' := []) (st' := [.int (1 : Int32)]) rfl ?_
  exact jw.ret F jx_i442 rfl rfl

set_option maxRecDepth 100000 in
/-- ProgramBoxModel$Store.isIn -/
theorem jx_e807 (p0 : Int32) (p1 : Int32) (p2 : Int32) (p3 : Int32) (p4 : Int32) (p5 : Int32) (g1 : ¬ p1 = (2 : Int32)) (g2 : p1 = (0 : Int32)) (g3 : p2 = (4 : Int32)) (g4 : ¬ p3 < (1 : Int32)) (g5 : ¬ (256 : Int32) < p3) (g6 : ¬ p4 < (1 : Int32)) (g7 : (4096 : Int32) < p4) : jv_Ms 320 [.int p3, .int (1 : Int32), .int (256 : Int32)] (jv_H (jx_K 227) jx_If jx_L0 (jx_R 227)) 228 1572956 (some (.int (1 : Int32)), (jv_H (jx_K 227) jx_If jx_L0 (jx_R 227)), 228, 1572956) := by
  show jv_Ev 320 0 [(0, .int p3), (1, .int (1 : Int32)), (2, .int (256 : Int32))] [] (jv_H (jx_K 227) jx_If jx_L0 (jx_R 227)) 228 1572956 _
  refine jv_Ev.steps jv_i320 2 (pc' := 2) (l' := [(0, .int p3), (1, .int (1 : Int32)), (2, .int (256 : Int32))]) (st' := [.int (1 : Int32), .int p3]) rfl ?_
  refine jv_Ev.br jv_i320 (pc' := 5) (st' := []) rfl (jv_bc_lt.trans (jx_gof g4)) ?_
  refine jv_Ev.steps jv_i320 2 (pc' := 7) (l' := [(0, .int p3), (1, .int (1 : Int32)), (2, .int (256 : Int32))]) (st' := [.int (256 : Int32), .int p3]) rfl ?_
  refine jv_Ev.br jv_i320 (pc' := 10) (st' := []) rfl (jv_bc_gt.trans (jx_gof g5)) ?_
  refine jv_Ev.steps jv_i320 2 (pc' := 15) (l' := [(0, .int p3), (1, .int (1 : Int32)), (2, .int (256 : Int32))]) (st' := [.int (1 : Int32)]) rfl ?_
  exact jv_Ev.ret jv_i320 rfl (jv_ret_b (by decide))

set_option maxRecDepth 100000 in
/-- ProgramBoxModel$Store.isIn -/
theorem jx_e808 (p0 : Int32) (p1 : Int32) (p2 : Int32) (p3 : Int32) (p4 : Int32) (p5 : Int32) (g1 : ¬ p1 = (2 : Int32)) (g2 : p1 = (0 : Int32)) (g3 : p2 = (4 : Int32)) (g4 : ¬ p3 < (1 : Int32)) (g5 : ¬ (256 : Int32) < p3) (g6 : ¬ p4 < (1 : Int32)) (g7 : (4096 : Int32) < p4) : jv_Ms 320 [.int p4, .int (1 : Int32), .int (4096 : Int32)] (jv_H (jx_K 227) jx_If jx_L0 (jx_R 227)) 228 1572956 (some (.int (0 : Int32)), (jv_H (jx_K 227) jx_If jx_L0 (jx_R 227)), 228, 1572956) := by
  show jv_Ev 320 0 [(0, .int p4), (1, .int (1 : Int32)), (2, .int (4096 : Int32))] [] (jv_H (jx_K 227) jx_If jx_L0 (jx_R 227)) 228 1572956 _
  refine jv_Ev.steps jv_i320 2 (pc' := 2) (l' := [(0, .int p4), (1, .int (1 : Int32)), (2, .int (4096 : Int32))]) (st' := [.int (1 : Int32), .int p4]) rfl ?_
  refine jv_Ev.br jv_i320 (pc' := 5) (st' := []) rfl (jv_bc_lt.trans (jx_gof g6)) ?_
  refine jv_Ev.steps jv_i320 2 (pc' := 7) (l' := [(0, .int p4), (1, .int (1 : Int32)), (2, .int (4096 : Int32))]) (st' := [.int (4096 : Int32), .int p4]) rfl ?_
  refine jv_Ev.br jv_i320 (pc' := 14) (st' := []) rfl (jv_bc_gt.trans (jx_got g7)) ?_
  refine jv_Ev.steps jv_i320 1 (pc' := 15) (l' := [(0, .int p4), (1, .int (1 : Int32)), (2, .int (4096 : Int32))]) (st' := [.int (0 : Int32)]) rfl ?_
  exact jv_Ev.ret jv_i320 rfl (jv_ret_b (by decide))

set_option maxRecDepth 100000 in
/-- ProgramBoxModel$Store.isProper -/
theorem jx_e809 (p0 : Int32) (p1 : Int32) (p2 : Int32) (p3 : Int32) (p4 : Int32) (p5 : Int32) (g1 : ¬ p1 = (2 : Int32)) (g2 : p1 = (0 : Int32)) (g3 : p2 = (4 : Int32)) (g4 : ¬ p3 < (1 : Int32)) (g5 : ¬ (256 : Int32) < p3) (g6 : ¬ p4 < (1 : Int32)) (g7 : (4096 : Int32) < p4) : jv_Ms 322 [.int p1, .int p2, .int p3, .int p4] (jv_H (jx_K 227) jx_If jx_L0 (jx_R 227)) 228 1572956 (some (.int (0 : Int32)), (jv_H (jx_K 227) jx_If jx_L0 (jx_R 227)), 228, 1572956) := by
  show jv_Ev 322 0 [(0, .int p1), (1, .int p2), (2, .int p3), (3, .int p4)] [] (jv_H (jx_K 227) jx_If jx_L0 (jx_R 227)) 228 1572956 _
  refine jv_Ev.steps jv_i322 2 (pc' := 2) (l' := [(0, .int p1), (1, .int p2), (2, .int p3), (3, .int p4)]) (st' := [.int (2 : Int32), .int p1]) rfl ?_
  refine jv_Ev.br jv_i322 (pc' := 38) (st' := []) rfl (jv_bc_ne.trans (jx_got (by rw [g2] <;> decide))) ?_
  refine jv_Ev.steps jv_i322 1 (pc' := 39) (l' := [(0, .int p1), (1, .int p2), (2, .int p3), (3, .int p4)]) (st' := [.int p1]) rfl ?_
  refine jv_Ev.br jv_i322 (pc' := 42) (st' := []) rfl (jv_bi_ne.trans (jx_gof (by rw [g2] <;> decide))) ?_
  refine jv_Ev.steps jv_i322 2 (pc' := 44) (l' := [(0, .int p1), (1, .int p2), (2, .int p3), (3, .int p4)]) (st' := [.int (4 : Int32), .int p2]) rfl ?_
  refine jv_Ev.br jv_i322 (pc' := 47) (st' := []) rfl (jv_bc_ne.trans (jx_gof (by rw [g3] <;> decide))) ?_
  refine jv_Ev.steps jv_i322 4 (pc' := 79) (l' := [(4, .int (1 : Int32)), (0, .int p1), (1, .int p2), (2, .int p3), (3, .int p4)]) (st' := [.int (1 : Int32)]) rfl ?_
  refine jv_Ev.br jv_i322 (pc' := 82) (st' := []) rfl (jv_bi_eq.trans (jx_gof (by decide))) ?_
  refine jv_Ev.steps jv_i322 3 (pc' := 87) (l' := [(4, .int (1 : Int32)), (0, .int p1), (1, .int p2), (2, .int p3), (3, .int p4)]) (st' := [.int (256 : Int32), .int (1 : Int32), .int p3]) rfl ?_
  refine jv_Ev.c jv_i322 (pc' := 90) (S' := [.int (1 : Int32)]) jv_i320 [.int p3, .int (1 : Int32), .int (256 : Int32)] rfl rfl rfl rfl rfl rfl (jx_e807 p0 p1 p2 p3 p4 p5 g1 g2 g3 g4 g5 g6 g7) rfl rfl ?_
  refine jv_Ev.br jv_i322 (pc' := 93) (st' := []) rfl (jv_bi_eq.trans (jx_gof (by decide))) ?_
  refine jv_Ev.steps jv_i322 3 (pc' := 98) (l' := [(4, .int (1 : Int32)), (0, .int p1), (1, .int p2), (2, .int p3), (3, .int p4)]) (st' := [.int (4096 : Int32), .int (1 : Int32), .int p4]) rfl ?_
  refine jv_Ev.c jv_i322 (pc' := 101) (S' := [.int (0 : Int32)]) jv_i320 [.int p4, .int (1 : Int32), .int (4096 : Int32)] rfl rfl rfl rfl rfl rfl (jx_e808 p0 p1 p2 p3 p4 p5 g1 g2 g3 g4 g5 g6 g7) rfl rfl ?_
  refine jv_Ev.br jv_i322 (pc' := 108) (st' := []) rfl (jv_bi_eq.trans (jx_got (by decide))) ?_
  refine jv_Ev.steps jv_i322 1 (pc' := 109) (l' := [(4, .int (1 : Int32)), (0, .int p1), (1, .int p2), (2, .int p3), (3, .int p4)]) (st' := [.int (0 : Int32)]) rfl ?_
  exact jv_Ev.ret jv_i322 rfl (jv_ret_b (by decide))

set_option maxRecDepth 100000 in
/-- ProgramBoxModel$Store.make -/
theorem jx_e810 (p0 : Int32) (p1 : Int32) (p2 : Int32) (p3 : Int32) (p4 : Int32) (p5 : Int32) (g1 : ¬ p1 = (2 : Int32)) (g2 : p1 = (0 : Int32)) (g3 : p2 = (4 : Int32)) (g4 : ¬ p3 < (1 : Int32)) (g5 : ¬ (256 : Int32) < p3) (g6 : ¬ p4 < (1 : Int32)) (g7 : (4096 : Int32) < p4) : jv_Ms 323 [.ref 180, .int p1, .int p2, .int p3, .int p4] (jv_H (jx_K 227) jx_If jx_L0 (jx_R 227)) 228 1572956 (some (.int (0 : Int32)), (jv_H (jx_K 227) (jv_u jx_If 180 0 (1 : Int32)) jx_L0 (jx_R 227)), 228, 1572956) := by
  show jv_Ev 323 0 [(0, .ref 180), (1, .int p1), (2, .int p2), (3, .int p3), (4, .int p4)] [] (jv_H (jx_K 227) jx_If jx_L0 (jx_R 227)) 228 1572956 _
  refine jv_Ev.steps jv_i323 5 (pc' := 6) (l' := [(0, .ref 180), (1, .int p1), (2, .int p2), (3, .int p3), (4, .int p4)]) (st' := [.int p4, .int p3, .int p2, .int p1, .ref 180]) rfl ?_
  refine jv_Ev.c jv_i323 (pc' := 9) (S' := [.int (0 : Int32), .ref 180]) jv_i322 [.int p1, .int p2, .int p3, .int p4] rfl rfl rfl rfl rfl rfl (jx_e809 p0 p1 p2 p3 p4 p5 g1 g2 g3 g4 g5 g6 g7) rfl rfl ?_
  refine jv_Ev.br jv_i323 (pc' := 16) (st' := [.ref 180]) rfl (jv_bi_eq.trans (jx_got (by decide))) ?_
  refine jv_Ev.steps jv_i323 1 (pc' := 17) (l' := [(0, .ref 180), (1, .int p1), (2, .int p2), (3, .int p3), (4, .int p4)]) (st' := [.int (1 : Int32), .ref 180]) rfl ?_
  refine jv_Ev.m jv_i323 (pc' := 20) (st' := []) rfl rfl (jv_m_putI rfl rfl rfl rfl rfl) ?_
  refine jv_Ev.steps jv_i323 1 (pc' := 21) (l' := [(0, .ref 180), (1, .int p1), (2, .int p2), (3, .int p3), (4, .int p4)]) (st' := [.ref 180]) rfl ?_
  refine jv_Ev.m jv_i323 (pc' := 24) (st' := [.int (1 : Int32)]) rfl rfl (jv_m_getI rfl rfl rfl rfl) ?_
  refine jv_Ev.br jv_i323 (pc' := 27) (st' := []) rfl (jv_bi_le.trans (jx_gof (by decide))) ?_
  refine jv_Ev.steps jv_i323 1 (pc' := 28) (l' := [(0, .ref 180), (1, .int p1), (2, .int p2), (3, .int p3), (4, .int p4)]) (st' := [.int (0 : Int32)]) rfl ?_
  exact jv_Ev.ret jv_i323 rfl rfl

set_option maxRecDepth 100000 in
/-- ProgramBoxModel$Store.thrown -/
theorem jx_e811 (p0 : Int32) (p1 : Int32) (p2 : Int32) (p3 : Int32) (p4 : Int32) (p5 : Int32) (g1 : ¬ p1 = (2 : Int32)) (g2 : p1 = (0 : Int32)) (g3 : p2 = (4 : Int32)) (g4 : ¬ p3 < (1 : Int32)) (g5 : ¬ (256 : Int32) < p3) (g6 : ¬ p4 < (1 : Int32)) (g7 : (4096 : Int32) < p4) : jv_Ms 318 [.ref 180] (jv_H (jx_K 227) (jv_u jx_If 180 0 (1 : Int32)) jx_L0 (jx_R 227)) 228 1572956 (some (.int (1 : Int32)), (jv_H (jx_K 227) (jv_u jx_If 180 0 (1 : Int32)) jx_L0 (jx_R 227)), 228, 1572956) := by
  show jv_Ev 318 0 [(0, .ref 180)] [] (jv_H (jx_K 227) (jv_u jx_If 180 0 (1 : Int32)) jx_L0 (jx_R 227)) 228 1572956 _
  refine jv_Ev.steps jv_i318 1 (pc' := 1) (l' := [(0, .ref 180)]) (st' := [.ref 180]) rfl ?_
  refine jv_Ev.m jv_i318 (pc' := 4) (st' := [.int (1 : Int32)]) rfl rfl (jv_m_getI rfl rfl rfl rfl) ?_
  exact jv_Ev.ret jv_i318 rfl rfl

set_option maxRecDepth 100000 in
/-- ProgramBoxModel.make -/
theorem jx_e812 (p0 : Int32) (p1 : Int32) (p2 : Int32) (p3 : Int32) (p4 : Int32) (p5 : Int32) (g1 : ¬ p1 = (2 : Int32)) (g2 : p1 = (0 : Int32)) (g3 : p2 = (4 : Int32)) (g4 : ¬ p3 < (1 : Int32)) (g5 : ¬ (256 : Int32) < p3) (g6 : ¬ p4 < (1 : Int32)) (g7 : (4096 : Int32) < p4) : jv_Ms 353 [.ref 178, .int p1, .int p2, .int p3, .int p4] (jv_H (jx_K 227) jx_If jx_L0 (jx_R 227)) 228 1572956 (some (.int (0 : Int32)), (jv_H (jx_K 227) (jv_u (jv_u jx_If 180 0 (1 : Int32)) 178 0 (1 : Int32)) jx_L0 (jx_R 227)), 228, 1572956) := by
  show jv_Ev 353 0 [(0, .ref 178), (1, .int p1), (2, .int p2), (3, .int p3), (4, .int p4)] [] (jv_H (jx_K 227) jx_If jx_L0 (jx_R 227)) 228 1572956 _
  refine jv_Ev.steps jv_i353 1 (pc' := 1) (l' := [(0, .ref 178), (1, .int p1), (2, .int p2), (3, .int p3), (4, .int p4)]) (st' := [.ref 178]) rfl ?_
  refine jv_Ev.m jv_i353 (pc' := 4) (st' := [.ref 180]) rfl rfl (jv_m_getR rfl rfl rfl rfl) ?_
  refine jv_Ev.steps jv_i353 4 (pc' := 9) (l' := [(0, .ref 178), (1, .int p1), (2, .int p2), (3, .int p3), (4, .int p4)]) (st' := [.int p4, .int p3, .int p2, .int p1, .ref 180]) rfl ?_
  refine jv_Ev.c jv_i353 (pc' := 12) (S' := [.int (0 : Int32)]) jv_i323 [.ref 180, .int p1, .int p2, .int p3, .int p4] rfl rfl rfl rfl (jv_cal rfl (jv_H_at rfl) rfl rfl) rfl (jx_e810 p0 p1 p2 p3 p4 p5 g1 g2 g3 g4 g5 g6 g7) rfl rfl ?_
  refine jv_Ev.steps jv_i353 3 (pc' := 16) (l' := [(5, .int (0 : Int32)), (0, .ref 178), (1, .int p1), (2, .int p2), (3, .int p3), (4, .int p4)]) (st' := [.ref 178, .ref 178]) rfl ?_
  refine jv_Ev.m jv_i353 (pc' := 19) (st' := [.ref 180, .ref 178]) rfl rfl (jv_m_getR rfl rfl rfl rfl) ?_
  refine jv_Ev.c jv_i353 (pc' := 22) (S' := [.int (1 : Int32), .ref 178]) jv_i318 [.ref 180] rfl rfl rfl rfl (jv_cal rfl (jv_H_at rfl) rfl rfl) rfl (jx_e811 p0 p1 p2 p3 p4 p5 g1 g2 g3 g4 g5 g6 g7) rfl rfl ?_
  refine jv_Ev.m jv_i353 (pc' := 25) (st' := []) rfl rfl (jv_m_putI rfl rfl rfl rfl rfl) ?_
  refine jv_Ev.steps jv_i353 1 (pc' := 26) (l' := [(5, .int (0 : Int32)), (0, .ref 178), (1, .int p1), (2, .int p2), (3, .int p3), (4, .int p4)]) (st' := [.ref 178]) rfl ?_
  refine jv_Ev.m jv_i353 (pc' := 29) (st' := [.int (1 : Int32)]) rfl rfl (jv_m_getI rfl rfl rfl rfl) ?_
  refine jv_Ev.br jv_i353 (pc' := 67) (st' := []) rfl (jv_bi_ne.trans (jx_got (by decide))) ?_
  refine jv_Ev.steps jv_i353 1 (pc' := 69) (l' := [(5, .int (0 : Int32)), (0, .ref 178), (1, .int p1), (2, .int p2), (3, .int p3), (4, .int p4)]) (st' := [.int (0 : Int32)]) rfl ?_
  exact jv_Ev.ret jv_i353 rfl rfl

set_option maxRecDepth 100000 in
/-- ProgramBoxModel.thrown -/
theorem jx_e813 (p0 : Int32) (p1 : Int32) (p2 : Int32) (p3 : Int32) (p4 : Int32) (p5 : Int32) (g1 : ¬ p1 = (2 : Int32)) (g2 : p1 = (0 : Int32)) (g3 : p2 = (4 : Int32)) (g4 : ¬ p3 < (1 : Int32)) (g5 : ¬ (256 : Int32) < p3) (g6 : ¬ p4 < (1 : Int32)) (g7 : (4096 : Int32) < p4) : jv_Ms 350 [.ref 178] (jv_H (jx_K 227) (jv_u (jv_u jx_If 180 0 (1 : Int32)) 178 0 (1 : Int32)) jx_L0 (jx_R 227)) 228 1572956 (some (.int (1 : Int32)), (jv_H (jx_K 227) (jv_u (jv_u jx_If 180 0 (1 : Int32)) 178 0 (1 : Int32)) jx_L0 (jx_R 227)), 228, 1572956) := by
  show jv_Ev 350 0 [(0, .ref 178)] [] (jv_H (jx_K 227) (jv_u (jv_u jx_If 180 0 (1 : Int32)) 178 0 (1 : Int32)) jx_L0 (jx_R 227)) 228 1572956 _
  refine jv_Ev.steps jv_i350 1 (pc' := 1) (l' := [(0, .ref 178)]) (st' := [.ref 178]) rfl ?_
  refine jv_Ev.m jv_i350 (pc' := 4) (st' := [.int (1 : Int32)]) rfl rfl (jv_m_getI rfl rfl rfl rfl) ?_
  exact jv_Ev.ret jv_i350 rfl rfl

set_option maxRecDepth 100000 in
/-- the law: case 2, one way -/
theorem jx_l93 (p0 : Int32) (p1 : Int32) (p2 : Int32) (p3 : Int32) (p4 : Int32) (p5 : Int32) (g1 : ¬ p1 = (2 : Int32)) (g2 : p1 = (0 : Int32)) (g3 : p2 = (4 : Int32)) (g4 : ¬ p3 < (1 : Int32)) (g5 : ¬ (256 : Int32) < p3) (g6 : ¬ p4 < (1 : Int32)) (g7 : (4096 : Int32) < p4) (hsw : p0 &&& (31 : Int32) = (2 : Int32)) {p : Program} {l : Launch} {e : Env} {R : Room} {s : State} {m : MethodId} {args : Array Value} {below : List Frame} {meth : Method} {c : Code} {E : jv_Env} {Q : State → Prop} (hTb : jv_TOk jv_Tb) (hT2 : jx_T2Ok) (hl : l.stackTraces = false) (F : jx_F jv_T2 439 E p R s m args meth c) (hZ : jx_Z E s) (hRc : R.cells = 600002) (hRs : R.slots = 7302232) {bb : Nat} {xs : Nat → Int32} (hX : va_X bb 6 xs s E.2.2.2.2) (hbB : bb < E.2.2.2.1) (hE2 : E.1 1000002 = bb) (hQ : ∀ (l0 : jv_L) (G : jv_G) (n sl : Nat), n ≤ 600002 → sl ≤ 7302232 → jw p l e R s m args below meth c E 8 0 0 Q 1532 l0 [.int (1 : Int32)] G n sl) (q0 : xs 0 = p0) (q1 : xs 1 = p1) (q2 : xs 2 = p2) (q3 : xs 3 = p3) (q4 : xs 4 = p4) (q5 : xs 5 = p5) : jw p l e R s m args below meth c E 8 0 0 Q 33 [(0, .ref 1000002), (1, .ref 0), (2, .ref 178), (3, .ref 226), (4, .int (0 : Int32))] [] (jv_H (jx_K 227) jx_If jx_L0 (jx_R 227)) 227 1572950 := by
  refine jw.steps F jx_i439 2 (pc' := 36) (l' := [(0, .ref 1000002), (1, .ref 0), (2, .ref 178), (3, .ref 226), (4, .int (0 : Int32))]) (st' := [.int (0 : Int32), .ref 1000002]) rfl ?_
  refine jw.sld F jx_i439 hX hbB hE2 (pc' := 37) rfl rfl (show vp_in (nI 0) 6 from vp_in_nI (by decide) (by decide)) q0 rfl ?_
  refine jw.steps F jx_i439 2 (pc' := 40) (l' := [(0, .ref 1000002), (1, .ref 0), (2, .ref 178), (3, .ref 226), (4, .int (0 : Int32))]) (st' := [.int (p0 &&& (31 : Int32))]) rfl ?_
  refine jw.br F jx_i439 (pc' := 304) (st' := []) rfl (by rw [hsw]; rfl) ?_
  refine jw.steps F jx_i439 5 (pc' := 310) (l' := [(0, .ref 1000002), (1, .ref 0), (2, .ref 178), (3, .ref 226), (4, .int (0 : Int32))]) (st' := [.int (1 : Int32), .ref 1000002, .ref 0]) rfl ?_
  refine jw.sld F jx_i439 hX hbB hE2 (pc' := 311) rfl rfl (show vp_in (nI 1) 6 from vp_in_nI (by decide) (by decide)) q1 rfl ?_
  refine jw.steps F jx_i439 4 (pc' := 316) (l' := [(0, .ref 1000002), (1, .ref 0), (2, .ref 178), (3, .ref 226), (4, .int (0 : Int32))]) (st' := [.int (2 : Int32), .ref 1000002, .int p1, .ref 0]) rfl ?_
  refine jw.sld F jx_i439 hX hbB hE2 (pc' := 317) rfl rfl (show vp_in (nI 2) 6 from vp_in_nI (by decide) (by decide)) q2 rfl ?_
  refine jw.steps F jx_i439 4 (pc' := 322) (l' := [(0, .ref 1000002), (1, .ref 0), (2, .ref 178), (3, .ref 226), (4, .int (0 : Int32))]) (st' := [.int (3 : Int32), .ref 1000002, .int p2, .int p1, .ref 0]) rfl ?_
  refine jw.sld F jx_i439 hX hbB hE2 (pc' := 323) rfl rfl (show vp_in (nI 3) 6 from vp_in_nI (by decide) (by decide)) q3 rfl ?_
  refine jw.steps F jx_i439 4 (pc' := 328) (l' := [(0, .ref 1000002), (1, .ref 0), (2, .ref 178), (3, .ref 226), (4, .int (0 : Int32))]) (st' := [.int (4 : Int32), .ref 1000002, .int p3, .int p2, .int p1, .ref 0]) rfl ?_
  refine jw.sld F jx_i439 hX hbB hE2 (pc' := 329) rfl rfl (show vp_in (nI 4) 6 from vp_in_nI (by decide) (by decide)) q4 rfl ?_
  refine jw.steps F jx_i439 1 (pc' := 330) (l' := [(0, .ref 1000002), (1, .ref 0), (2, .ref 178), (3, .ref 226), (4, .int (0 : Int32))]) (st' := [.ref 226, .int p4, .int p3, .int p2, .int p1, .ref 0]) rfl ?_
  refine jw.wr F hl hZ rfl jx_i439 jx_i442 [.ref 0, .int p1, .int p2, .int p3, .int p4, .ref 226] (pc' := 333) (S' := [.int (1 : Int32)]) rfl (List.mem_of_getElem? (i := 2) rfl) (List.mem_of_getElem? (i := 2) rfl) rfl rfl rfl (jx_w806 hTb hT2 p0 p1 p2 p3 p4 p5 g1 g2 g3 g4 g5 g6 g7) (by omega) (by omega) (by omega) (by omega) rfl rfl ?_
  refine jw.steps F jx_i439 6 (pc' := 341) (l' := [(5, .int (1 : Int32)), (0, .ref 1000002), (1, .ref 0), (2, .ref 178), (3, .ref 226), (4, .int (0 : Int32))]) (st' := [.int (1 : Int32), .ref 1000002, .ref 178]) rfl ?_
  refine jw.sld F jx_i439 hX hbB hE2 (pc' := 342) rfl rfl (show vp_in (nI 1) 6 from vp_in_nI (by decide) (by decide)) q1 rfl ?_
  refine jw.steps F jx_i439 4 (pc' := 347) (l' := [(5, .int (1 : Int32)), (0, .ref 1000002), (1, .ref 0), (2, .ref 178), (3, .ref 226), (4, .int (0 : Int32))]) (st' := [.int (2 : Int32), .ref 1000002, .int p1, .ref 178]) rfl ?_
  refine jw.sld F jx_i439 hX hbB hE2 (pc' := 348) rfl rfl (show vp_in (nI 2) 6 from vp_in_nI (by decide) (by decide)) q2 rfl ?_
  refine jw.steps F jx_i439 4 (pc' := 353) (l' := [(5, .int (1 : Int32)), (0, .ref 1000002), (1, .ref 0), (2, .ref 178), (3, .ref 226), (4, .int (0 : Int32))]) (st' := [.int (3 : Int32), .ref 1000002, .int p2, .int p1, .ref 178]) rfl ?_
  refine jw.sld F jx_i439 hX hbB hE2 (pc' := 354) rfl rfl (show vp_in (nI 3) 6 from vp_in_nI (by decide) (by decide)) q3 rfl ?_
  refine jw.steps F jx_i439 4 (pc' := 359) (l' := [(5, .int (1 : Int32)), (0, .ref 1000002), (1, .ref 0), (2, .ref 178), (3, .ref 226), (4, .int (0 : Int32))]) (st' := [.int (4 : Int32), .ref 1000002, .int p3, .int p2, .int p1, .ref 178]) rfl ?_
  refine jw.sld F jx_i439 hX hbB hE2 (pc' := 360) rfl rfl (show vp_in (nI 4) 6 from vp_in_nI (by decide) (by decide)) q4 rfl ?_
  refine jw.ca hTb F jx_i439 (pc' := 363) (S' := [.int (0 : Int32)]) rfl jv_i353 [.ref 178, .int p1, .int p2, .int p3, .int p4] rfl rfl rfl rfl (jx_cal2 rfl (jv_H_at rfl) rfl rfl) rfl (jx_e812 p0 p1 p2 p3 p4 p5 g1 g2 g3 g4 g5 g6 g7) (by omega) (by omega) rfl rfl ?_
  refine jw.steps F jx_i439 2 (pc' := 366) (l' := [(6, .int (0 : Int32)), (5, .int (1 : Int32)), (0, .ref 1000002), (1, .ref 0), (2, .ref 178), (3, .ref 226), (4, .int (0 : Int32))]) (st' := [.ref 178]) rfl ?_
  refine jw.ca hTb F jx_i439 (pc' := 369) (S' := [.int (1 : Int32)]) rfl jv_i350 [.ref 178] rfl rfl rfl rfl (jx_cal2 rfl (jv_H_at rfl) rfl rfl) rfl (jx_e813 p0 p1 p2 p3 p4 p5 g1 g2 g3 g4 g5 g6 g7) (by omega) (by omega) rfl rfl ?_
  refine jw.steps F jx_i439 1 (pc' := 371) (l' := [(6, .int (0 : Int32)), (5, .int (1 : Int32)), (0, .ref 1000002), (1, .ref 0), (2, .ref 178), (3, .ref 226), (4, .int (0 : Int32))]) (st' := [.int (1 : Int32), .int (1 : Int32)]) rfl ?_
  refine jw.br F jx_i439 (pc' := 376) (st' := []) rfl (jv_bc_eq.trans (jx_got (by decide))) ?_
  refine jw.steps F jx_i439 1 (pc' := 378) (l' := [(6, .int (0 : Int32)), (5, .int (1 : Int32)), (0, .ref 1000002), (1, .ref 0), (2, .ref 178), (3, .ref 226), (4, .int (0 : Int32))]) (st' := [.int (1 : Int32)]) rfl ?_
  refine jw.br F jx_i439 (pc' := 393) (st' := []) rfl (jv_bi_ne.trans (jx_got (by decide))) ?_
  refine jw.steps F jx_i439 5 (pc' := 26) (l' := [(4, .int (6 : Int32)), (6, .int (0 : Int32)), (5, .int (1 : Int32)), (0, .ref 1000002), (1, .ref 0), (2, .ref 178), (3, .ref 226)]) (st' := [.ref 1000002, .int (6 : Int32)]) rfl ?_
  refine jw.slen F jx_i439 hX hbB hE2 (pc' := 27) rfl rfl rfl ?_
  refine jw.steps F jx_i439 2 (pc' := 30) (l' := [(4, .int (6 : Int32)), (6, .int (0 : Int32)), (5, .int (1 : Int32)), (0, .ref 1000002), (1, .ref 0), (2, .ref 178), (3, .ref 226)]) (st' := [.int (0 : Int32), .int (6 : Int32)]) rfl ?_
  refine jw.br F jx_i439 (pc' := 1531) (st' := []) rfl (jv_bc_gt.trans (jx_got (by decide))) ?_
  refine jw.steps F jx_i439 1 (pc' := 1532) (l' := [(4, .int (6 : Int32)), (6, .int (0 : Int32)), (5, .int (1 : Int32)), (0, .ref 1000002), (1, .ref 0), (2, .ref 178), (3, .ref 226)]) (st' := [.int (1 : Int32)]) rfl ?_
  exact hQ _ _ _ _ (by omega) (by omega)

set_option maxRecDepth 100000 in
/-- ProgramBox$Store.isShape -/
theorem jx_e815 (p0 : Int32) (p1 : Int32) (p2 : Int32) (p3 : Int32) (p4 : Int32) (p5 : Int32) (g1 : ¬ p1 = (2 : Int32)) (g2 : p1 = (0 : Int32)) (g3 : p2 = (4 : Int32)) (g4 : ¬ p3 < (1 : Int32)) (g5 : ¬ (256 : Int32) < p3) (g6 : ¬ p4 < (1 : Int32)) (g7 : ¬ (4096 : Int32) < p4) (g8 : p3 = (0 : Int32)) : jv_Ms 123 [.int p1, .int p2, .int p3, .int p4] (jv_H (jx_K 227) jx_If jx_L0 (jx_R 227)) 227 1572950 (some (.int (0 : Int32)), (jv_H (jx_K 227) jx_If jx_L0 (jx_R 227)), 227, 1572950) := by
  show jv_Ev 123 0 [(0, .int p1), (1, .int p2), (2, .int p3), (3, .int p4)] [] (jv_H (jx_K 227) jx_If jx_L0 (jx_R 227)) 227 1572950 _
  refine jv_Ev.steps jv_i123 2 (pc' := 2) (l' := [(0, .int p1), (1, .int p2), (2, .int p3), (3, .int p4)]) (st' := [.int (2 : Int32), .int p1]) rfl ?_
  refine jv_Ev.br jv_i123 (pc' := 40) (st' := []) rfl (jv_bc_ne.trans (jx_got (by rw [g2] <;> decide))) ?_
  refine jv_Ev.steps jv_i123 1 (pc' := 41) (l' := [(0, .int p1), (1, .int p2), (2, .int p3), (3, .int p4)]) (st' := [.int p1]) rfl ?_
  refine jv_Ev.br jv_i123 (pc' := 44) (st' := []) rfl (jv_bi_ne.trans (jx_gof (by rw [g2] <;> decide))) ?_
  refine jv_Ev.steps jv_i123 2 (pc' := 46) (l' := [(0, .int p1), (1, .int p2), (2, .int p3), (3, .int p4)]) (st' := [.int (4 : Int32), .int p2]) rfl ?_
  refine jv_Ev.br jv_i123 (pc' := 49) (st' := []) rfl (jv_bc_ne.trans (jx_gof (by rw [g3] <;> decide))) ?_
  refine jv_Ev.steps jv_i123 4 (pc' := 82) (l' := [(4, .int (1 : Int32)), (0, .int p1), (1, .int p2), (2, .int p3), (3, .int p4)]) (st' := [.int (1 : Int32)]) rfl ?_
  refine jv_Ev.br jv_i123 (pc' := 85) (st' := []) rfl (jv_bi_eq.trans (jx_gof (by decide))) ?_
  refine jv_Ev.steps jv_i123 2 (pc' := 87) (l' := [(4, .int (1 : Int32)), (0, .int p1), (1, .int p2), (2, .int p3), (3, .int p4)]) (st' := [.int (1 : Int32), .int p3]) rfl ?_
  refine jv_Ev.br jv_i123 (pc' := 113) (st' := []) rfl (jv_bc_lt.trans (jx_got (by rw [g8] <;> decide))) ?_
  refine jv_Ev.steps jv_i123 1 (pc' := 114) (l' := [(4, .int (1 : Int32)), (0, .int p1), (1, .int p2), (2, .int p3), (3, .int p4)]) (st' := [.int (0 : Int32)]) rfl ?_
  exact jv_Ev.ret jv_i123 rfl (jv_ret_b (by decide))

set_option maxRecDepth 100000 in
/-- ProgramBox.make: it throws -/
theorem jx_e816 (hTb : jv_TOk jv_Tb) (p0 : Int32) (p1 : Int32) (p2 : Int32) (p3 : Int32) (p4 : Int32) (p5 : Int32) (g1 : ¬ p1 = (2 : Int32)) (g2 : p1 = (0 : Int32)) (g3 : p2 = (4 : Int32)) (g4 : ¬ p3 < (1 : Int32)) (g5 : ¬ (256 : Int32) < p3) (g6 : ¬ p4 < (1 : Int32)) (g7 : ¬ (4096 : Int32) < p4) (g8 : p3 = (0 : Int32)) : jx_Th 420 [.ref 0, .int p1, .int p2, .int p3, .int p4] (jv_H (jx_K 227) jx_If jx_L0 (jx_R 227)) 227 1572950 1 (jv_H (jx_K 227) jx_If jx_L0 (jx_R 227)) 228 1572956 := by
  refine jx_Th.of hTb (y := 420) rfl (Nat.le_of_ble_eq_true rfl) ?_
  intro p l e R s m args below meth c E hl F hZ h0 ht hRc hRs
  show jw p l e R s m args below meth c E 5 227 1572950 _ 0 [(0, .ref 0), (1, .int p1), (2, .int p2), (3, .int p3), (4, .int p4)] [] (jv_H (jx_K 227) jx_If jx_L0 (jx_R 227)) 227 1572950
  refine jw.steps F jv_i420 4 (pc' := 5) (l' := [(0, .ref 0), (1, .int p1), (2, .int p2), (3, .int p3), (4, .int p4)]) (st' := [.int p4, .int p3, .int p2, .int p1]) rfl ?_
  refine jw.ca hTb F jv_i420 (pc' := 8) (S' := [.int (0 : Int32)]) rfl jv_i123 [.int p1, .int p2, .int p3, .int p4] rfl rfl rfl rfl rfl rfl (jx_e815 p0 p1 p2 p3 p4 p5 g1 g2 g3 g4 g5 g6 g7 g8) (by omega) (by omega) rfl rfl ?_
  refine jw.br F jv_i420 (pc' := 11) (st' := []) rfl (jv_bi_ne.trans (jx_gof (by decide))) ?_
  exact jw.throw hl F hZ h0 rfl jv_i420 ht 1 69 "no map is like this" (List.mem_of_getElem? (i := 2) rfl) (by decide +kernel) (by decide +kernel) (by decide +kernel) (by decide +kernel) (by decide +kernel) rfl (by decide) (by decide) (by decide) (by omega) (by omega)
