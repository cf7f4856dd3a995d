/-! part c27: ways of a jump (gen/tc27.py) -/
theorem vq_copyq {K : Nat → Option (Nat × Nat)} {I : Nat → Nat → Int32} {L : Nat → Nat → Int64} {R : Nat → Nat → Value} {a d : Nat} (hW : jv_rW K R) (ha : a < 77200) (hd : d < 77200) (hd2 : 2 ≤ d) (hf : vr_fl I) (h0 : I 215 a = 0) {n sl : Nat} : ∃ I1 L1, jv_Ms 208 [.ref 208, .int (vl_I a), .int (vl_I d)] (jv_H K I L R) n sl (none, jv_H K I1 L1 R, n, sl) ∧ vr_S L1 d = vr_S L a ∧ (∀ j, j < 2 → I1 215 j = I 215 j) ∧ (∀ j, j < 2 → vr_S L1 j = vr_S L j) ∧ vq_rf d I L I1 L1 := by
  have H := vr_copy (I := I) (L := L) (n := n) (sl := sl) (vl_I a) (vl_I d) hW (vl_I_ix ha (by decide)) (vl_I_ix hd (by decide)) (by rw [vl_I_nat (by omega)]; exact h0)
  rw [vl_I_nat (by omega), vl_I_nat (by omega)] at H
  exact ⟨_, _, H, vr_set_S _ _ _, fun j hj => jv_u_j _ _ _ _ (by omega), fun j hj => vr_S_ext (fun o _ _ => vr_set_j (by omega)), vq_set (vq_u (vq_refl hf L)) (Or.inr rfl)⟩
theorem vq_copyThing5 {K : Nat → Option (Nat × Nat)} {I : Nat → Nat → Int32} {L : Nat → Nat → Int64} {R : Nat → Nat → Value} (k a j b : Nat) (hW : jv_rW K R) (hf : vr_fl I) (hx : 75 * k + a < 77100) (hy : 75 * j + b < 77100) {n sl : Nat} : ∃ I1 L1, jv_Ms 275 [.ref 196, .int (vl_I k), .int (vl_I a), .int (vl_I j), .int (vl_I b)] (jv_H K I L R) n sl (none, jv_H K I1 L1 R, n, sl) ∧ I1 205 (75 * j + b) = I 205 (75 * k + a) ∧ I1 206 (75 * j + b) = I 206 (75 * k + a) ∧ I1 207 (75 * j + b) = I 207 (75 * k + a) ∧ vr_S L1 (8 + (75 * j + b)) = vr_S L (8 + (75 * k + a)) ∧ vr_S L1 5 = vr_S L 5 ∧ vr_fr (fun z => z = 75 * j + b) noE I L I1 L1 := by
  obtain ⟨Q, hQ⟩ : ∃ Q : jv_R → Prop, Q = fun X => ∃ I1 L1, X = (none, jv_H K I1 L1 R, n, sl) ∧ I1 205 (75 * j + b) = I 205 (75 * k + a) ∧ I1 206 (75 * j + b) = I 206 (75 * k + a) ∧ I1 207 (75 * j + b) = I 207 (75 * k + a) ∧ vr_S L1 (8 + (75 * j + b)) = vr_S L (8 + (75 * k + a)) ∧ vr_S L1 5 = vr_S L 5 ∧ vr_fr (fun z => z = 75 * j + b) noE I L I1 L1 := ⟨_, rfl⟩
  suffices h : jv_Wp 275 0 [(0, .ref 196), (1, .int (vl_I k)), (2, .int (vl_I a)), (3, .int (vl_I j)), (4, .int (vl_I b))] [] (jv_H K I L R) n sl Q by
    rw [hQ] at h
    obtain ⟨X, h, I1, L1, e, h'⟩ := h
    subst e
    exact ⟨I1, L1, h, h'⟩
  refine jv_Wp.lift (fun _ Kz => jv_Ev.steps jv_i275 1 (pc' := 1) (l' := [(0, .ref 196), (1, .int (vl_I k)), (2, .int (vl_I a)), (3, .int (vl_I j)), (4, .int (vl_I b))]) (st' := [.ref 196]) rfl Kz) ?_
  refine jv_Wp.lift (fun _ Kz => jv_Ev.m jv_i275 (pc' := 4) (st' := [.ref 205]) (G' := (jv_H K I L R)) rfl rfl (jv_m_getR (jv_rwK hW 196 12 24 (by decide)) rfl rfl (jv_rwR hW 196 13 205 (by decide))) Kz) ?_
  refine jv_Wp.lift (fun _ Kz => jv_Ev.steps jv_i275 2 (pc' := 7) (l' := [(0, .ref 196), (1, .int (vl_I k)), (2, .int (vl_I a)), (3, .int (vl_I j)), (4, .int (vl_I b))]) (st' := [.int (vl_I b), .int (vl_I j), .ref 205]) rfl Kz) ?_
  refine jv_Wp.lift (fun _ Kz => jv_Ev.c jv_i275 (pc' := 10) (S' := [.int (vl_I (75 * j + b)), .ref 205]) jv_i253 [.int (vl_I j), .int (vl_I b)] rfl rfl rfl rfl rfl rfl (vq_thing j b) rfl rfl Kz) ?_
  refine jv_Wp.lift (fun _ Kz => jv_Ev.steps jv_i275 1 (pc' := 11) (l' := [(0, .ref 196), (1, .int (vl_I k)), (2, .int (vl_I a)), (3, .int (vl_I j)), (4, .int (vl_I b))]) (st' := [.ref 196, .int (vl_I (75 * j + b)), .ref 205]) rfl Kz) ?_
  refine jv_Wp.lift (fun _ Kz => jv_Ev.m jv_i275 (pc' := 14) (st' := [.ref 205, .int (vl_I (75 * j + b)), .ref 205]) (G' := (jv_H K I L R)) rfl rfl (jv_m_getR (jv_rwK hW 196 12 24 (by decide)) rfl rfl (jv_rwR hW 196 13 205 (by decide))) Kz) ?_
  refine jv_Wp.lift (fun _ Kz => jv_Ev.steps jv_i275 2 (pc' := 16) (l' := [(0, .ref 196), (1, .int (vl_I k)), (2, .int (vl_I a)), (3, .int (vl_I j)), (4, .int (vl_I b))]) (st' := [.int (vl_I a), .int (vl_I k), .ref 205, .int (vl_I (75 * j + b)), .ref 205]) rfl Kz) ?_
  refine jv_Wp.lift (fun _ Kz => jv_Ev.c jv_i275 (pc' := 19) (S' := [.int (vl_I (75 * k + a)), .ref 205, .int (vl_I (75 * j + b)), .ref 205]) jv_i253 [.int (vl_I k), .int (vl_I a)] rfl rfl rfl rfl rfl rfl (vq_thing k a) rfl rfl Kz) ?_
  refine jv_Wp.lift (fun _ Kz => jv_Ev.m jv_i275 (pc' := 20) (st' := [.int (I 205 (75 * k + a)), .int (vl_I (75 * j + b)), .ref 205]) (G' := (jv_H K I L R)) rfl rfl (jv_m_ialdv (jv_rwK hW 205 102 77100 (by decide)) rfl (vl_I_ix (by omega) (by decide)) rfl ((congrArg (I 205) (vl_I_nat (by omega))).trans rfl)) Kz) ?_
  refine jv_Wp.lift (fun _ Kz => jv_Ev.m jv_i275 (pc' := 21) (st' := []) (G' := (jv_H K (jv_u I 205 (75 * j + b) (I 205 (75 * k + a))) L R)) rfl rfl (by rw [jv_m_iast (jv_rwK hW 205 102 77100 (by decide)) (vl_I_ix (by omega) (by decide)), (vl_I_nat (by omega))]) Kz) ?_
  refine jv_Wp.lift (fun _ Kz => jv_Ev.steps jv_i275 1 (pc' := 22) (l' := [(0, .ref 196), (1, .int (vl_I k)), (2, .int (vl_I a)), (3, .int (vl_I j)), (4, .int (vl_I b))]) (st' := [.ref 196]) rfl Kz) ?_
  refine jv_Wp.lift (fun _ Kz => jv_Ev.m jv_i275 (pc' := 25) (st' := [.ref 206]) (G' := (jv_H K (jv_u I 205 (75 * j + b) (I 205 (75 * k + a))) L R)) rfl rfl (jv_m_getR (jv_rwK hW 196 12 24 (by decide)) rfl rfl (jv_rwR hW 196 14 206 (by decide))) Kz) ?_
  refine jv_Wp.lift (fun _ Kz => jv_Ev.steps jv_i275 2 (pc' := 28) (l' := [(0, .ref 196), (1, .int (vl_I k)), (2, .int (vl_I a)), (3, .int (vl_I j)), (4, .int (vl_I b))]) (st' := [.int (vl_I b), .int (vl_I j), .ref 206]) rfl Kz) ?_
  refine jv_Wp.lift (fun _ Kz => jv_Ev.c jv_i275 (pc' := 31) (S' := [.int (vl_I (75 * j + b)), .ref 206]) jv_i253 [.int (vl_I j), .int (vl_I b)] rfl rfl rfl rfl rfl rfl (vq_thing j b) rfl rfl Kz) ?_
  refine jv_Wp.lift (fun _ Kz => jv_Ev.steps jv_i275 1 (pc' := 32) (l' := [(0, .ref 196), (1, .int (vl_I k)), (2, .int (vl_I a)), (3, .int (vl_I j)), (4, .int (vl_I b))]) (st' := [.ref 196, .int (vl_I (75 * j + b)), .ref 206]) rfl Kz) ?_
  refine jv_Wp.lift (fun _ Kz => jv_Ev.m jv_i275 (pc' := 35) (st' := [.ref 206, .int (vl_I (75 * j + b)), .ref 206]) (G' := (jv_H K (jv_u I 205 (75 * j + b) (I 205 (75 * k + a))) L R)) rfl rfl (jv_m_getR (jv_rwK hW 196 12 24 (by decide)) rfl rfl (jv_rwR hW 196 14 206 (by decide))) Kz) ?_
  refine jv_Wp.lift (fun _ Kz => jv_Ev.steps jv_i275 2 (pc' := 37) (l' := [(0, .ref 196), (1, .int (vl_I k)), (2, .int (vl_I a)), (3, .int (vl_I j)), (4, .int (vl_I b))]) (st' := [.int (vl_I a), .int (vl_I k), .ref 206, .int (vl_I (75 * j + b)), .ref 206]) rfl Kz) ?_
  refine jv_Wp.lift (fun _ Kz => jv_Ev.c jv_i275 (pc' := 40) (S' := [.int (vl_I (75 * k + a)), .ref 206, .int (vl_I (75 * j + b)), .ref 206]) jv_i253 [.int (vl_I k), .int (vl_I a)] rfl rfl rfl rfl rfl rfl (vq_thing k a) rfl rfl Kz) ?_
  refine jv_Wp.lift (fun _ Kz => jv_Ev.m jv_i275 (pc' := 41) (st' := [.int (I 206 (75 * k + a)), .int (vl_I (75 * j + b)), .ref 206]) (G' := (jv_H K (jv_u I 205 (75 * j + b) (I 205 (75 * k + a))) L R)) rfl rfl (jv_m_ialdv (jv_rwK hW 206 102 77100 (by decide)) rfl (vl_I_ix (by omega) (by decide)) rfl ((congrArg ((jv_u I 205 (75 * j + b) (I 205 (75 * k + a))) 206) (vl_I_nat (by omega))).trans (jv_u_o _ _ _ _ (by decide)))) Kz) ?_
  refine jv_Wp.lift (fun _ Kz => jv_Ev.m jv_i275 (pc' := 42) (st' := []) (G' := (jv_H K (jv_u (jv_u I 205 (75 * j + b) (I 205 (75 * k + a))) 206 (75 * j + b) (I 206 (75 * k + a))) L R)) rfl rfl (by rw [jv_m_iast (jv_rwK hW 206 102 77100 (by decide)) (vl_I_ix (by omega) (by decide)), (vl_I_nat (by omega))]) Kz) ?_
  refine jv_Wp.lift (fun _ Kz => jv_Ev.steps jv_i275 1 (pc' := 43) (l' := [(0, .ref 196), (1, .int (vl_I k)), (2, .int (vl_I a)), (3, .int (vl_I j)), (4, .int (vl_I b))]) (st' := [.ref 196]) rfl Kz) ?_
  refine jv_Wp.lift (fun _ Kz => jv_Ev.m jv_i275 (pc' := 46) (st' := [.ref 207]) (G' := (jv_H K (jv_u (jv_u I 205 (75 * j + b) (I 205 (75 * k + a))) 206 (75 * j + b) (I 206 (75 * k + a))) L R)) rfl rfl (jv_m_getR (jv_rwK hW 196 12 24 (by decide)) rfl rfl (jv_rwR hW 196 15 207 (by decide))) Kz) ?_
  refine jv_Wp.lift (fun _ Kz => jv_Ev.steps jv_i275 2 (pc' := 49) (l' := [(0, .ref 196), (1, .int (vl_I k)), (2, .int (vl_I a)), (3, .int (vl_I j)), (4, .int (vl_I b))]) (st' := [.int (vl_I b), .int (vl_I j), .ref 207]) rfl Kz) ?_
  refine jv_Wp.lift (fun _ Kz => jv_Ev.c jv_i275 (pc' := 52) (S' := [.int (vl_I (75 * j + b)), .ref 207]) jv_i253 [.int (vl_I j), .int (vl_I b)] rfl rfl rfl rfl rfl rfl (vq_thing j b) rfl rfl Kz) ?_
  refine jv_Wp.lift (fun _ Kz => jv_Ev.steps jv_i275 1 (pc' := 53) (l' := [(0, .ref 196), (1, .int (vl_I k)), (2, .int (vl_I a)), (3, .int (vl_I j)), (4, .int (vl_I b))]) (st' := [.ref 196, .int (vl_I (75 * j + b)), .ref 207]) rfl Kz) ?_
  refine jv_Wp.lift (fun _ Kz => jv_Ev.m jv_i275 (pc' := 56) (st' := [.ref 207, .int (vl_I (75 * j + b)), .ref 207]) (G' := (jv_H K (jv_u (jv_u I 205 (75 * j + b) (I 205 (75 * k + a))) 206 (75 * j + b) (I 206 (75 * k + a))) L R)) rfl rfl (jv_m_getR (jv_rwK hW 196 12 24 (by decide)) rfl rfl (jv_rwR hW 196 15 207 (by decide))) Kz) ?_
  refine jv_Wp.lift (fun _ Kz => jv_Ev.steps jv_i275 2 (pc' := 58) (l' := [(0, .ref 196), (1, .int (vl_I k)), (2, .int (vl_I a)), (3, .int (vl_I j)), (4, .int (vl_I b))]) (st' := [.int (vl_I a), .int (vl_I k), .ref 207, .int (vl_I (75 * j + b)), .ref 207]) rfl Kz) ?_
  refine jv_Wp.lift (fun _ Kz => jv_Ev.c jv_i275 (pc' := 61) (S' := [.int (vl_I (75 * k + a)), .ref 207, .int (vl_I (75 * j + b)), .ref 207]) jv_i253 [.int (vl_I k), .int (vl_I a)] rfl rfl rfl rfl rfl rfl (vq_thing k a) rfl rfl Kz) ?_
  refine jv_Wp.lift (fun _ Kz => jv_Ev.m jv_i275 (pc' := 62) (st' := [.int (I 207 (75 * k + a)), .int (vl_I (75 * j + b)), .ref 207]) (G' := (jv_H K (jv_u (jv_u I 205 (75 * j + b) (I 205 (75 * k + a))) 206 (75 * j + b) (I 206 (75 * k + a))) L R)) rfl rfl (jv_m_ialdv (jv_rwK hW 207 102 77100 (by decide)) rfl (vl_I_ix (by omega) (by decide)) rfl ((congrArg ((jv_u (jv_u I 205 (75 * j + b) (I 205 (75 * k + a))) 206 (75 * j + b) (I 206 (75 * k + a))) 207) (vl_I_nat (by omega))).trans ((jv_u_o _ _ _ _ (by decide)).trans (jv_u_o _ _ _ _ (by decide))))) Kz) ?_
  refine jv_Wp.lift (fun _ Kz => jv_Ev.m jv_i275 (pc' := 63) (st' := []) (G' := (jv_H K (jv_u (jv_u (jv_u I 205 (75 * j + b) (I 205 (75 * k + a))) 206 (75 * j + b) (I 206 (75 * k + a))) 207 (75 * j + b) (I 207 (75 * k + a))) L R)) rfl rfl (by rw [jv_m_iast (jv_rwK hW 207 102 77100 (by decide)) (vl_I_ix (by omega) (by decide)), (vl_I_nat (by omega))]) Kz) ?_
  refine jv_Wp.lift (fun _ Kz => jv_Ev.steps jv_i275 1 (pc' := 64) (l' := [(0, .ref 196), (1, .int (vl_I k)), (2, .int (vl_I a)), (3, .int (vl_I j)), (4, .int (vl_I b))]) (st' := [.ref 196]) rfl Kz) ?_
  refine jv_Wp.lift (fun _ Kz => jv_Ev.m jv_i275 (pc' := 67) (st' := [.ref 208]) (G' := (jv_H K (jv_u (jv_u (jv_u I 205 (75 * j + b) (I 205 (75 * k + a))) 206 (75 * j + b) (I 206 (75 * k + a))) 207 (75 * j + b) (I 207 (75 * k + a))) L R)) rfl rfl (jv_m_getR (jv_rwK hW 196 12 24 (by decide)) rfl rfl (jv_rwR hW 196 16 208 (by decide))) Kz) ?_
  refine jv_Wp.lift (fun _ Kz => jv_Ev.steps jv_i275 2 (pc' := 69) (l' := [(0, .ref 196), (1, .int (vl_I k)), (2, .int (vl_I a)), (3, .int (vl_I j)), (4, .int (vl_I b))]) (st' := [.int (vl_I a), .int (vl_I k), .ref 208]) rfl Kz) ?_
  refine jv_Wp.lift (fun _ Kz => jv_Ev.c jv_i275 (pc' := 72) (S' := [.int (vl_I (8 + (75 * k + a))), .ref 208]) jv_i254 [.int (vl_I k), .int (vl_I a)] rfl rfl rfl rfl rfl rfl (vq_row k a) rfl rfl Kz) ?_
  refine jv_Wp.lift (fun _ Kz => jv_Ev.steps jv_i275 2 (pc' := 75) (l' := [(0, .ref 196), (1, .int (vl_I k)), (2, .int (vl_I a)), (3, .int (vl_I j)), (4, .int (vl_I b))]) (st' := [.int (vl_I b), .int (vl_I j), .int (vl_I (8 + (75 * k + a))), .ref 208]) rfl Kz) ?_
  refine jv_Wp.lift (fun _ Kz => jv_Ev.c jv_i275 (pc' := 78) (S' := [.int (vl_I (8 + (75 * j + b))), .int (vl_I (8 + (75 * k + a))), .ref 208]) jv_i254 [.int (vl_I j), .int (vl_I b)] rfl rfl rfl rfl rfl rfl (vq_row j b) rfl rfl Kz) ?_
  have FU : vr_fl (jv_u (jv_u (jv_u I 205 (75 * j + b) (I 205 (75 * k + a))) 206 (75 * j + b) (I 206 (75 * k + a))) 207 (75 * j + b) (I 207 (75 * k + a))) := fun q hq => (jv_u_o _ _ _ _ (by decide)).trans ((jv_u_o _ _ _ _ (by decide)).trans ((jv_u_o _ _ _ _ (by decide)).trans (hf q hq)))
  obtain ⟨I1, L1, H1, S1, F1⟩ := vq_copy (I := (jv_u (jv_u (jv_u I 205 (75 * j + b) (I 205 (75 * k + a))) 206 (75 * j + b) (I 206 (75 * k + a))) 207 (75 * j + b) (I 207 (75 * k + a)))) (L := L) (R := R) (n := n) (sl := sl) (a := 8 + (75 * k + a)) (d := 8 + (75 * j + b)) hW (by omega) (by omega) FU (FU _ (by omega))
  refine jv_Wp.lift (fun _ Kz => jv_Ev.c jv_i275 (pc' := 81) (S' := []) (G1 := (jv_H K I1 L1 R)) jv_i208 [.ref 208, .int (vl_I (8 + (75 * k + a))), .int (vl_I (8 + (75 * j + b)))] rfl rfl rfl rfl (jv_cal rfl (jv_H_at (jv_rwK hW 208 11 7 (by decide))) rfl rfl) rfl H1 rfl rfl Kz) ?_
  refine jv_Wp.of (jv_Ev.ret jv_i275 rfl rfl) ?_
  rw [hQ]
  have t : ∀ o, 205 ≤ o → o ≤ 207 → ∀ (J : Nat → Nat → Int32) (z : Int32) q f, ¬ (205 ≤ q ∧ q ≤ 207 ∧ f = (75 * j + b)) → jv_u J o (75 * j + b) z q f = J q f := fun o h1 h2 J z q f a => by
    by_cases e : q = o
    · rw [e]; exact jv_u_j _ _ _ _ (fun y => a ⟨by omega, by omega, y⟩)
    · exact jv_u_o _ _ _ _ e
  have e6 : (jv_u I 205 (75 * j + b) (I 205 (75 * k + a))) 206 (75 * k + a) = I 206 (75 * k + a) := jv_u_o _ _ _ _ (by decide)
  have e7 : (jv_u (jv_u I 205 (75 * j + b) (I 205 (75 * k + a))) 206 (75 * j + b) ((jv_u I 205 (75 * j + b) (I 205 (75 * k + a))) 206 (75 * k + a))) 207 (75 * k + a) = I 207 (75 * k + a) := (jv_u_o _ _ _ _ (by decide)).trans (jv_u_o _ _ _ _ (by decide))
  refine ⟨_, _, rfl, (F1.2.1 205 _ (by decide)).trans ((jv_u_o _ _ _ _ (by decide)).trans ((jv_u_o _ _ _ _ (by decide)).trans (jv_u_self _ _ _ _))), (F1.2.1 206 _ (by decide)).trans ((jv_u_o _ _ _ _ (by decide)).trans ((jv_u_self _ _ _ _).trans (by first | rfl | exact e6))), (F1.2.1 207 _ (by decide)).trans ((jv_u_self _ _ _ _).trans (by first | rfl | exact e7)), S1, vq_rf_S F1 (by decide) (by omega), vr_fr_trans ?_ (vq_rf_frx F1 rfl)⟩
  exact ⟨FU, fun q f a b c => (t 207 (by decide) (by decide) _ _ q f a).trans ((t 206 (by decide) (by decide) _ _ q f a).trans (t 205 (by decide) (by decide) _ _ q f a)), fun _ _ _ => rfl⟩
theorem vq_copyState5 {K : Nat → Option (Nat × Nat)} {I : Nat → Nat → Int32} {L : Nat → Nat → Int64} {R : Nat → Nat → Value} (k j : Nat) (h : Bool) (hW : jv_rW K R) (hf : vr_fl I) (hk : k < 1028) (hj : j < 1028) (hkj : k ≠ j) (ok : vr_okA I k) (hh : I 202 k = vr_b h) {n sl : Nat} : ∃ I1 L1, jv_Ms 276 [.ref 196, .int (vl_I k), .int (vl_I j)] (jv_H K I L R) n sl (none, jv_H K I1 L1 R, n, sl) ∧ vr_A I1 L1 j = vr_A I L k ∧ vr_okA I1 j ∧ I1 202 j = vr_b h ∧ vr_S L1 5 = vr_S L 5 ∧ vr_fr (vr_th j) (fun q f => (q = 202 ∨ q = 203) ∧ f = j) I L I1 L1 := by
  obtain ⟨Q, hQ⟩ : ∃ Q : jv_R → Prop, Q = fun X => ∃ I1 L1, X = (none, jv_H K I1 L1 R, n, sl) ∧ vr_A I1 L1 j = vr_A I L k ∧ vr_okA I1 j ∧ I1 202 j = vr_b h ∧ vr_S L1 5 = vr_S L 5 ∧ vr_fr (vr_th j) (fun q f => (q = 202 ∨ q = 203) ∧ f = j) I L I1 L1 := ⟨_, rfl⟩
  suffices h : jv_Wp 276 0 [(0, .ref 196), (1, .int (vl_I k)), (2, .int (vl_I j))] [] (jv_H K I L R) n sl Q by
    rw [hQ] at h
    obtain ⟨X, h, I1, L1, e, h'⟩ := h
    subst e
    exact ⟨I1, L1, h, h'⟩
  have hfu : vr_fl (jv_u (jv_u I 202 j ((I 202 k) &&& 1)) 203 j (I 203 k)) := fun q hq => (jv_u_o _ _ _ _ (by decide)).trans ((jv_u_o _ _ _ _ (by decide)).trans (hf q hq))
  have Tk : ∀ i, i < 75 → vr_T (jv_u (jv_u I 202 j ((I 202 k) &&& 1)) 203 j (I 203 k)) L (75 * k + i) = vr_T I L (75 * k + i) := fun i hi => vr_T_eq (jv_u_o _ _ _ _ (by decide) |>.trans (jv_u_o _ _ _ _ (by decide))) (jv_u_o _ _ _ _ (by decide) |>.trans (jv_u_o _ _ _ _ (by decide))) (jv_u_o _ _ _ _ (by decide) |>.trans (jv_u_o _ _ _ _ (by decide))) rfl
  have ok0 : ∀ i, i < 75 → vr_ok (jv_u (jv_u I 202 j ((I 202 k) &&& 1)) 203 j (I 203 k)) (75 * k + i) i := fun i hi => vr_okW (jv_u_o _ _ _ _ (by decide) |>.trans (jv_u_o _ _ _ _ (by decide))) (jv_u_o _ _ _ _ (by decide) |>.trans (jv_u_o _ _ _ _ (by decide))) (jv_u_o _ _ _ _ (by decide) |>.trans (jv_u_o _ _ _ _ (by decide))) (ok i hi)
  refine jv_Wp.lift (fun _ Kz => jv_Ev.steps jv_i276 1 (pc' := 1) (l' := [(0, .ref 196), (1, .int (vl_I k)), (2, .int (vl_I j))]) (st' := [.ref 196]) rfl Kz) ?_
  refine jv_Wp.lift (fun _ Kz => jv_Ev.m jv_i276 (pc' := 4) (st' := [.ref 202]) (G' := (jv_H K I L R)) rfl rfl (jv_m_getR (jv_rwK hW 196 12 24 (by decide)) rfl rfl (jv_rwR hW 196 10 202 (by decide))) Kz) ?_
  refine jv_Wp.lift (fun _ Kz => jv_Ev.steps jv_i276 2 (pc' := 6) (l' := [(0, .ref 196), (1, .int (vl_I k)), (2, .int (vl_I j))]) (st' := [.ref 196, .int (vl_I j), .ref 202]) rfl Kz) ?_
  refine jv_Wp.lift (fun _ Kz => jv_Ev.m jv_i276 (pc' := 9) (st' := [.ref 202, .int (vl_I j), .ref 202]) (G' := (jv_H K I L R)) rfl rfl (jv_m_getR (jv_rwK hW 196 12 24 (by decide)) rfl rfl (jv_rwR hW 196 10 202 (by decide))) Kz) ?_
  refine jv_Wp.lift (fun _ Kz => jv_Ev.steps jv_i276 1 (pc' := 10) (l' := [(0, .ref 196), (1, .int (vl_I k)), (2, .int (vl_I j))]) (st' := [.int (vl_I k), .ref 202, .int (vl_I j), .ref 202]) rfl Kz) ?_
  refine jv_Wp.lift (fun _ Kz => jv_Ev.m jv_i276 (pc' := 11) (st' := [.int (I 202 k), .int (vl_I j), .ref 202]) (G' := (jv_H K I L R)) rfl rfl (jv_m_baldv (jv_rwK hW 202 100 1028 (by decide)) rfl (vl_I_ix (by omega) (by decide)) rfl ((congrArg (I 202) (vl_I_nat (by omega))).trans rfl)) Kz) ?_
  refine jv_Wp.lift (fun _ Kz => jv_Ev.m jv_i276 (pc' := 12) (st' := []) (G' := (jv_H K (jv_u I 202 j ((I 202 k) &&& 1)) L R)) rfl rfl (by rw [jv_m_zast (jv_rwK hW 202 100 1028 (by decide)) (vl_I_ix (by omega) (by decide)), (vl_I_nat (by omega))]) Kz) ?_
  refine jv_Wp.lift (fun _ Kz => jv_Ev.steps jv_i276 1 (pc' := 13) (l' := [(0, .ref 196), (1, .int (vl_I k)), (2, .int (vl_I j))]) (st' := [.ref 196]) rfl Kz) ?_
  refine jv_Wp.lift (fun _ Kz => jv_Ev.m jv_i276 (pc' := 16) (st' := [.ref 203]) (G' := (jv_H K (jv_u I 202 j ((I 202 k) &&& 1)) L R)) rfl rfl (jv_m_getR (jv_rwK hW 196 12 24 (by decide)) rfl rfl (jv_rwR hW 196 11 203 (by decide))) Kz) ?_
  refine jv_Wp.lift (fun _ Kz => jv_Ev.steps jv_i276 2 (pc' := 18) (l' := [(0, .ref 196), (1, .int (vl_I k)), (2, .int (vl_I j))]) (st' := [.ref 196, .int (vl_I j), .ref 203]) rfl Kz) ?_
  refine jv_Wp.lift (fun _ Kz => jv_Ev.m jv_i276 (pc' := 21) (st' := [.ref 203, .int (vl_I j), .ref 203]) (G' := (jv_H K (jv_u I 202 j ((I 202 k) &&& 1)) L R)) rfl rfl (jv_m_getR (jv_rwK hW 196 12 24 (by decide)) rfl rfl (jv_rwR hW 196 11 203 (by decide))) Kz) ?_
  refine jv_Wp.lift (fun _ Kz => jv_Ev.steps jv_i276 1 (pc' := 22) (l' := [(0, .ref 196), (1, .int (vl_I k)), (2, .int (vl_I j))]) (st' := [.int (vl_I k), .ref 203, .int (vl_I j), .ref 203]) rfl Kz) ?_
  refine jv_Wp.lift (fun _ Kz => jv_Ev.m jv_i276 (pc' := 23) (st' := [.int (I 203 k), .int (vl_I j), .ref 203]) (G' := (jv_H K (jv_u I 202 j ((I 202 k) &&& 1)) L R)) rfl rfl (jv_m_ialdv (jv_rwK hW 203 102 1028 (by decide)) rfl (vl_I_ix (by omega) (by decide)) rfl ((congrArg ((jv_u I 202 j ((I 202 k) &&& 1)) 203) (vl_I_nat (by omega))).trans (jv_u_o _ _ _ _ (by decide)))) Kz) ?_
  refine jv_Wp.lift (fun _ Kz => jv_Ev.m jv_i276 (pc' := 24) (st' := []) (G' := (jv_H K (jv_u (jv_u I 202 j ((I 202 k) &&& 1)) 203 j (I 203 k)) L R)) rfl rfl (by rw [jv_m_iast (jv_rwK hW 203 102 1028 (by decide)) (vl_I_ix (by omega) (by decide)), (vl_I_nat (by omega))]) Kz) ?_
  refine jv_Wp.lift (fun _ Kz => jv_Ev.steps jv_i276 2 (pc' := 26) (l' := [(3, .int (0 : Int32)), (0, .ref 196), (1, .int (vl_I k)), (2, .int (vl_I j))]) (st' := []) rfl Kz) ?_
  refine jv_Wp.loc (l := [(0, .ref 196), (1, .int (vl_I k)), (2, .int (vl_I j)), (3, .int (0 : Int32))]) ⟨List.forall_mem_cons.mpr ⟨.tail _ (.head _), List.forall_mem_cons.mpr ⟨.tail _ (.tail _ (.head _)), List.forall_mem_cons.mpr ⟨.tail _ (.tail _ (.tail _ (.head _))), List.forall_mem_cons.mpr ⟨.head _, fun _ h => absurd h List.not_mem_nil⟩⟩⟩⟩, by show List.Nodup [3, 0, 1, 2]; decide⟩ ?_
  rw [show (0 : Int32) = vl_I 0 from rfl]
  refine vr_loop0 (j := j) (I0 := (jv_u (jv_u I 202 j ((I 202 k) &&& 1)) 203 j (I 203 k))) (L0 := L) (f := fun i _ => vr_T I L (75 * k + i)) (P := fun i Iz Lz => vr_S Lz 5 = vr_S L 5 → jv_Wp 276 26 [(0, .ref 196), (1, .int (vl_I k)), (2, .int (vl_I j)), (3, .int (vl_I i))] [] (jv_H K Iz Lz R) n sl Q) hfu (fun i hi Ia La fr ta okA k0 e5 => ?_) (fun Ia La ht fr e5 => ?_) rfl
  · have Za := vr_fl_of fr
    refine jv_Wp.lift (fun _ Kz => jv_Ev.steps jv_i276 2 (pc' := 29) (l' := [(0, .ref 196), (1, .int (vl_I k)), (2, .int (vl_I j)), (3, .int (vl_I i))]) (st' := [.int (75 : Int32), .int (vl_I i)]) rfl Kz) ?_
    refine jv_Wp.cnd jv_i276 (pt := 46) (pe := 32) (p := ((75 : Int32) ≤ (vl_I i))) (q := ((75 : Int32) ≤ (vl_I i))) rfl jv_bc_ge rfl rfl Iff.rfl (fun h1 => ?_) (fun h1 => ?_)
    · exact absurd ((vl_I_le (a := 75) (by decide) (by omega)).mp h1) (by omega)
    · refine jv_Wp.lift (fun _ Kz => jv_Ev.steps jv_i276 5 (pc' := 37) (l' := [(0, .ref 196), (1, .int (vl_I k)), (2, .int (vl_I j)), (3, .int (vl_I i))]) (st' := [.int (vl_I i), .int (vl_I j), .int (vl_I i), .int (vl_I k), .ref 196]) rfl Kz) ?_
      obtain ⟨I2, L2, H2, A2, B2, C2, S2, G2, F2⟩ := vq_copyThing5 (I := Ia) (L := La) (R := R) (n := n) (sl := sl) k i j i hW Za (by omega) (by omega)
      have Z2 := vr_fl_of F2
      refine jv_Wp.lift (fun _ Kz => jv_Ev.c jv_i276 (pc' := 40) (S' := []) (G1 := (jv_H K I2 L2 R)) jv_i275 [.ref 196, .int (vl_I k), .int (vl_I i), .int (vl_I j), .int (vl_I i)] rfl rfl rfl rfl (jv_cal rfl (jv_H_at (jv_rwK hW 196 12 24 (by decide))) rfl rfl) rfl H2 rfl rfl Kz) ?_
      refine jv_Wp.lift (fun _ Kz => jv_Ev.steps jv_i276 2 (pc' := 26) (l' := [(3, .int ((vl_I i) + Int32.ofInt 1)), (0, .ref 196), (1, .int (vl_I k)), (2, .int (vl_I j))]) (st' := []) rfl Kz) ?_
      refine jv_Wp.loc (l := [(0, .ref 196), (1, .int (vl_I k)), (2, .int (vl_I j)), (3, .int ((vl_I i) + Int32.ofInt 1))]) ⟨List.forall_mem_cons.mpr ⟨.tail _ (.head _), List.forall_mem_cons.mpr ⟨.tail _ (.tail _ (.head _)), List.forall_mem_cons.mpr ⟨.tail _ (.tail _ (.tail _ (.head _))), List.forall_mem_cons.mpr ⟨.head _, fun _ h => absurd h List.not_mem_nil⟩⟩⟩⟩, by show List.Nodup [3, 0, 1, 2]; decide⟩ ?_
      rw [show vl_I i + Int32.ofInt 1 = vl_I (i + 1) from vl_I_add i 1]
      exact k0 I2 L2 ((vr_T_eq A2 B2 C2 S2).trans ((vr_fr_T fr (x := 75 * k + i) (by unfold vr_th; omega)).trans (Tk i hi))) (vr_okW A2 B2 C2 ((vr_fr_ok fr (by unfold vr_th; omega)).mpr (ok0 i hi))) F2 (G2.trans e5)
  · skip
    refine jv_Wp.lift (fun _ Kz => jv_Ev.steps jv_i276 2 (pc' := 29) (l' := [(0, .ref 196), (1, .int (vl_I k)), (2, .int (vl_I j)), (3, .int (vl_I 75))]) (st' := [.int (75 : Int32), .int (vl_I 75)]) rfl Kz) ?_
    refine jv_Wp.cnd jv_i276 (pt := 46) (pe := 32) (p := ((75 : Int32) ≤ (vl_I 75))) (q := ((75 : Int32) ≤ (vl_I 75))) rfl jv_bc_ge rfl rfl Iff.rfl (fun _ => ?_) (fun hz => absurd (Int32.le_refl _) hz)
    refine jv_Wp.of (jv_Ev.ret jv_i276 rfl rfl) ?_
    rw [hQ]
    have u0 : ∀ q f, ¬ ((q = 202 ∨ q = 203) ∧ f = j) → (jv_u (jv_u I 202 j ((I 202 k) &&& 1)) 203 j (I 203 k)) q f = I q f := fun q f z => by
      have t : ∀ o, o = 202 ∨ o = 203 → ∀ (J : Nat → Nat → Int32) (w : Int32), jv_u J o j w q f = J q f := fun o ho J w => by
        by_cases e : q = o
        · rw [e]; exact jv_u_j _ _ _ _ (fun y => z ⟨by omega, y⟩)
        · exact jv_u_o _ _ _ _ e
      exact (t 203 (Or.inr rfl) _ _).trans (t 202 (Or.inl rfl) _ _)
    have e3 : Ia 203 j = I 203 k := (vr_fr_c fr (by decide) (by decide)).trans (jv_u_self _ _ _ _)
    have e2 : Ia 202 j = vr_b h := (vr_fr_c fr (by decide) (by decide)).trans ((jv_u_o _ _ _ _ (by decide)).trans ((jv_u_self _ _ _ _).trans (by rw [hh]; exact vi_and1 h)))
    refine ⟨_, _, rfl, ?_, fun n hn => (ht n hn).2, e2, e5, fr.1, fun q f a b c => (fr.2.1 q f a b (fun z => z.2)).trans (u0 q f (fun z => c ⟨by omega, z⟩)), fr.2.2⟩
    refine Prod.ext (funext (fun n => ?_)) (congrArg Int32.toInt e3)
    show (if n < 75 then _ else _) = if n < 75 then _ else _
    by_cases hn : n < 75
    · rw [if_pos hn, if_pos hn]; exact (ht n hn).1
    · rw [if_neg hn, if_neg hn]
theorem jv_i304 : jv_I 304 4 (some .boolean) 8 227 jv_c304 := ⟨rfl, rfl, rfl, rfl, rfl⟩
theorem vq_way1025R {K : Nat → Option (Nat × Nat)} {I : Nat → Nat → Int32} {L : Nat → Nat → Int64} {R : Nat → Nat → Value} (f : vf_F) (c : Nat) (hW : jv_rW K R) (hf : vr_fl I) (D : vr_dec I f) (oa : vr_okA I 1024) (hh : I 202 1024 = vr_b true) (hc : c ≤ 11) (hd11 : f.d < 11) (hs11 : f.s < 11) (hb : f.bit3 = true) (hds : f.d ≠ f.s) (s1d : (vr_T I L (76800 + f.d)).sort = 1) (s1s : (vr_T I L (76800 + f.s)).sort = 1) (hx : vb_tight (vb_toS (vr_S L (8 + (76800 + f.d))))) (hy : vb_tight (vb_toS (vr_S L (8 + (76800 + f.s))))) {n sl : Nat} : ∃ I1 L1, jv_Ms 304 [.ref 196, .int (1025 : Int32), .int (vl_I c), .int (vl_I (8 + (76800 + f.s)))] (jv_H K I L R) n sl (some (.int (vr_b (vb_refine c (vb_toS (vr_S L (8 + (76800 + f.d)))) (vb_toS (vr_S L (8 + (76800 + f.s))))).isSome)), jv_H K I1 L1 R, n, sl) ∧ (∀ p, vb_refine c (vb_toS (vr_S L (8 + (76800 + f.d)))) (vb_toS (vr_S L (8 + (76800 + f.s)))) = some p → vr_A I1 L1 1025 = vx_refd f (vr_A I L 1024) p ∧ vr_okA I1 1025 ∧ I1 202 1025 = 1) ∧ (vr_okA I1 1025 ∧ ∀ n, n < 75 → n ≠ f.d → (f.bit3 = true → n ≠ f.s) → vr_T I1 L1 (75 * 1025 + n) = vr_T I L (76800 + n)) ∧ vr_fr (vr_th 1025) (fun q f => (q = 202 ∨ q = 203) ∧ f = 1025) I L I1 L1 ∧ vr_S L1 5 = vr_S L 5 := by
  obtain ⟨Q, hQ⟩ : ∃ Q : jv_R → Prop, Q = fun X => ∃ I1 L1, X = (some (.int (vr_b (vb_refine c (vb_toS (vr_S L (8 + (76800 + f.d)))) (vb_toS (vr_S L (8 + (76800 + f.s))))).isSome)), jv_H K I1 L1 R, n, sl) ∧ (∀ p, vb_refine c (vb_toS (vr_S L (8 + (76800 + f.d)))) (vb_toS (vr_S L (8 + (76800 + f.s)))) = some p → vr_A I1 L1 1025 = vx_refd f (vr_A I L 1024) p ∧ vr_okA I1 1025 ∧ I1 202 1025 = 1) ∧ (vr_okA I1 1025 ∧ ∀ n, n < 75 → n ≠ f.d → (f.bit3 = true → n ≠ f.s) → vr_T I1 L1 (75 * 1025 + n) = vr_T I L (76800 + n)) ∧ vr_fr (vr_th 1025) (fun q f => (q = 202 ∨ q = 203) ∧ f = 1025) I L I1 L1 ∧ vr_S L1 5 = vr_S L 5 := ⟨_, rfl⟩
  suffices h : jv_Wp 304 0 [(0, .ref 196), (1, .int (1025 : Int32)), (2, .int (vl_I c)), (3, .int (vl_I (8 + (76800 + f.s))))] [] (jv_H K I L R) n sl Q by
    rw [hQ] at h
    obtain ⟨X, h, I1, L1, e, h'⟩ := h
    subst e
    exact ⟨I1, L1, h, h'⟩
  refine jv_Wp.lift (fun _ Kz => jv_Ev.steps jv_i304 3 (pc' := 5) (l' := [(0, .ref 196), (1, .int (1025 : Int32)), (2, .int (vl_I c)), (3, .int (vl_I (8 + (76800 + f.s))))]) (st' := [.int (1025 : Int32), .int (1024 : Int32), .ref 196]) rfl Kz) ?_
  obtain ⟨I3, L3, H3, E3, O3, hh3, G3, F3⟩ := vq_copyState5 (I := I) (L := L) (R := R) (n := n) (sl := sl) 1024 1025 true hW hf (by decide) (by decide) (by decide) oa hh
  have Z3 := vr_fl_of F3
  have D3 := vr_dec_fr F3 (fun _ _ z => by omega) D
  have sd : vr_S L3 (8 + (76800 + f.d)) = vr_S L (8 + (76800 + f.d)) := vr_fr_S F3 (fun z => by unfold vr_th at z; omega)
  have ss : vr_S L3 (8 + (76800 + f.s)) = vr_S L (8 + (76800 + f.s)) := vr_fr_S F3 (fun z => by unfold vr_th at z; omega)
  refine jv_Wp.lift (fun _ Kz => jv_Ev.c jv_i304 (pc' := 8) (S' := []) (G1 := (jv_H K I3 L3 R)) jv_i276 [.ref 196, .int (1024 : Int32), .int (1025 : Int32)] rfl rfl rfl rfl (jv_cal rfl (jv_H_at (jv_rwK hW 196 12 24 (by decide))) rfl rfl) rfl H3 rfl rfl Kz) ?_
  refine jv_Wp.lift (fun _ Kz => jv_Ev.steps jv_i304 1 (pc' := 9) (l' := [(0, .ref 196), (1, .int (1025 : Int32)), (2, .int (vl_I c)), (3, .int (vl_I (8 + (76800 + f.s))))]) (st' := [.ref 196]) rfl Kz) ?_
  refine jv_Wp.lift (fun _ Kz => jv_Ev.m jv_i304 (pc' := 12) (st' := [.ref 208]) (G' := (jv_H K I3 L3 R)) rfl rfl (jv_m_getR (jv_rwK hW 196 12 24 (by decide)) rfl rfl (jv_rwR hW 196 16 208 (by decide))) Kz) ?_
  refine jv_Wp.lift (fun _ Kz => jv_Ev.steps jv_i304 3 (pc' := 17) (l' := [(0, .ref 196), (1, .int (1025 : Int32)), (2, .int (vl_I c)), (3, .int (vl_I (8 + (76800 + f.s))))]) (st' := [.ref 196, .int (1024 : Int32), .int (vl_I c), .ref 208]) rfl Kz) ?_
  refine jv_Wp.lift (fun _ Kz => jv_Ev.m jv_i304 (pc' := 20) (st' := [.int (vl_I f.d), .int (1024 : Int32), .int (vl_I c), .ref 208]) (G' := (jv_H K I3 L3 R)) rfl rfl (jv_m_getI (jv_rwK hW 196 12 24 (by decide)) rfl rfl D3.2.1) Kz) ?_
  refine jv_Wp.lift (fun _ Kz => jv_Ev.c jv_i304 (pc' := 23) (S' := [.int (vl_I (8 + (76800 + f.d))), .int (vl_I c), .ref 208]) jv_i254 [.int (1024 : Int32), .int (vl_I f.d)] rfl rfl rfl rfl rfl rfl (vq_row 1024 f.d) rfl rfl Kz) ?_
  refine jv_Wp.lift (fun _ Kz => jv_Ev.steps jv_i304 1 (pc' := 24) (l' := [(0, .ref 196), (1, .int (1025 : Int32)), (2, .int (vl_I c)), (3, .int (vl_I (8 + (76800 + f.s))))]) (st' := [.int (vl_I (8 + (76800 + f.s))), .int (vl_I (8 + (76800 + f.d))), .int (vl_I c), .ref 208]) rfl Kz) ?_
  obtain ⟨I4, L4, H4, P4, F4⟩ := vq_refines (I := I3) (L := L3) (R := R) (n := n) (sl := sl) c (a := 8 + (76800 + f.d)) (b := 8 + (76800 + f.s)) hc hW (by omega) (by omega) (by omega) (by omega) Z3 (by rw [sd]; exact hx) (by rw [ss]; exact hy)
  rw [sd, ss] at H4 P4
  have Z4 := F4.1
  have D4 := vr_dec_rf F4 D3
  refine jv_Wp.lift (fun _ Kz => jv_Ev.c jv_i304 (pc' := 27) (S' := [.int (vr_b (vb_refine c (vb_toS (vr_S L (8 + (76800 + f.d)))) (vb_toS (vr_S L (8 + (76800 + f.s))))).isSome)]) (G1 := (jv_H K I4 L4 R)) jv_i251 [.ref 208, .int (vl_I c), .int (vl_I (8 + (76800 + f.d))), .int (vl_I (8 + (76800 + f.s)))] rfl rfl rfl rfl (jv_cal rfl (jv_H_at (jv_rwK hW 208 11 7 (by decide))) rfl rfl) rfl H4 rfl rfl Kz) ?_
  refine jv_Wp.cnd jv_i304 (pt := 32) (pe := 30) (p := (¬ (vr_b (vb_refine c (vb_toS (vr_S L (8 + (76800 + f.d)))) (vb_toS (vr_S L (8 + (76800 + f.s))))).isSome) = 0)) (q := (¬ (vr_b (vb_refine c (vb_toS (vr_S L (8 + (76800 + f.d)))) (vb_toS (vr_S L (8 + (76800 + f.s))))).isSome) = 0)) rfl jv_bi_ne rfl rfl Iff.rfl (fun h1 => ?_) (fun h1 => ?_)
  · refine jv_Wp.lift (fun _ Kz => jv_Ev.steps jv_i304 1 (pc' := 33) (l' := [(0, .ref 196), (1, .int (1025 : Int32)), (2, .int (vl_I c)), (3, .int (vl_I (8 + (76800 + f.s))))]) (st' := [.ref 196]) rfl Kz) ?_
    refine jv_Wp.lift (fun _ Kz => jv_Ev.m jv_i304 (pc' := 36) (st' := [.ref 208]) (G' := (jv_H K I4 L4 R)) rfl rfl (jv_m_getR (jv_rwK hW 196 12 24 (by decide)) rfl rfl (jv_rwR hW 196 16 208 (by decide))) Kz) ?_
    refine jv_Wp.lift (fun _ Kz => jv_Ev.steps jv_i304 3 (pc' := 39) (l' := [(0, .ref 196), (1, .int (1025 : Int32)), (2, .int (vl_I c)), (3, .int (vl_I (8 + (76800 + f.s))))]) (st' := [.ref 196, .int (1025 : Int32), .int (0 : Int32), .ref 208]) rfl Kz) ?_
    refine jv_Wp.lift (fun _ Kz => jv_Ev.m jv_i304 (pc' := 42) (st' := [.int (vl_I f.d), .int (1025 : Int32), .int (0 : Int32), .ref 208]) (G' := (jv_H K I4 L4 R)) rfl rfl (jv_m_getI (jv_rwK hW 196 12 24 (by decide)) rfl rfl D4.2.1) Kz) ?_
    refine jv_Wp.lift (fun _ Kz => jv_Ev.c jv_i304 (pc' := 45) (S' := [.int (vl_I (8 + (76875 + f.d))), .int (0 : Int32), .ref 208]) jv_i254 [.int (1025 : Int32), .int (vl_I f.d)] rfl rfl rfl rfl rfl rfl (vq_row 1025 f.d) rfl rfl Kz) ?_
    have sm : (vb_refine c (vb_toS (vr_S L (8 + (76800 + f.d)))) (vb_toS (vr_S L (8 + (76800 + f.s))))).isSome = true := vr_b_t h1
    obtain ⟨pp, hpp⟩ := Option.isSome_iff_exists.mp sm
    obtain ⟨r0, r1, z0, z1⟩ := P4 pp hpp
    obtain ⟨I5, L5, H5, S5, J5, M5, F5⟩ := vq_copyq (I := I4) (L := L4) (R := R) (n := n) (sl := sl) (a := 0) (d := (8 + (76875 + f.d))) hW (by decide) (by omega) (by omega) Z4 z0
    have Z5 := F5.1
    have D5 := vr_dec_rf F5 D4
    have zq5 : I5 215 1 = 0 := (J5 1 (by omega)).trans z1
    refine jv_Wp.lift (fun _ Kz => jv_Ev.c jv_i304 (pc' := 48) (S' := []) (G1 := (jv_H K I5 L5 R)) jv_i208 [.ref 208, .int (0 : Int32), .int (vl_I (8 + (76875 + f.d)))] rfl rfl rfl rfl (jv_cal rfl (jv_H_at (jv_rwK hW 208 11 7 (by decide))) rfl rfl) rfl H5 rfl rfl Kz) ?_
    refine jv_Wp.lift (fun _ Kz => jv_Ev.steps jv_i304 1 (pc' := 49) (l' := [(0, .ref 196), (1, .int (1025 : Int32)), (2, .int (vl_I c)), (3, .int (vl_I (8 + (76800 + f.s))))]) (st' := [.ref 196]) rfl Kz) ?_
    refine jv_Wp.lift (fun _ Kz => jv_Ev.c jv_i304 (pc' := 52) (S' := [.int (vr_b f.bit3)]) jv_i259 [.ref 196] rfl rfl rfl rfl (jv_cal rfl (jv_H_at (jv_rwK hW 196 12 24 (by decide))) rfl rfl) rfl (vq_bit3 f hW D5) rfl rfl Kz) ?_
    refine jv_Wp.cnd jv_i304 (pt := 71) (pe := 55) (p := ((vr_b f.bit3) = 0)) (q := ((vr_b f.bit3) = 0)) rfl jv_bi_eq rfl rfl Iff.rfl (fun hz => absurd hz (by rw [hb]; decide)) (fun _ => ?_)
    refine jv_Wp.lift (fun _ Kz => jv_Ev.steps jv_i304 1 (pc' := 56) (l' := [(0, .ref 196), (1, .int (1025 : Int32)), (2, .int (vl_I c)), (3, .int (vl_I (8 + (76800 + f.s))))]) (st' := [.ref 196]) rfl Kz) ?_
    refine jv_Wp.lift (fun _ Kz => jv_Ev.m jv_i304 (pc' := 59) (st' := [.ref 208]) (G' := (jv_H K I5 L5 R)) rfl rfl (jv_m_getR (jv_rwK hW 196 12 24 (by decide)) rfl rfl (jv_rwR hW 196 16 208 (by decide))) Kz) ?_
    refine jv_Wp.lift (fun _ Kz => jv_Ev.steps jv_i304 3 (pc' := 62) (l' := [(0, .ref 196), (1, .int (1025 : Int32)), (2, .int (vl_I c)), (3, .int (vl_I (8 + (76800 + f.s))))]) (st' := [.ref 196, .int (1025 : Int32), .int (1 : Int32), .ref 208]) rfl Kz) ?_
    refine jv_Wp.lift (fun _ Kz => jv_Ev.m jv_i304 (pc' := 65) (st' := [.int (vl_I f.s), .int (1025 : Int32), .int (1 : Int32), .ref 208]) (G' := (jv_H K I5 L5 R)) rfl rfl (jv_m_getI (jv_rwK hW 196 12 24 (by decide)) rfl rfl D5.2.2.1) Kz) ?_
    refine jv_Wp.lift (fun _ Kz => jv_Ev.c jv_i304 (pc' := 68) (S' := [.int (vl_I (8 + (76875 + f.s))), .int (1 : Int32), .ref 208]) jv_i254 [.int (1025 : Int32), .int (vl_I f.s)] rfl rfl rfl rfl rfl rfl (vq_row 1025 f.s) rfl rfl Kz) ?_
    obtain ⟨I6, L6, H6, S6, J6, M6, F6⟩ := vq_copyq (I := I5) (L := L5) (R := R) (n := n) (sl := sl) (a := 1) (d := (8 + (76875 + f.s))) hW (by decide) (by omega) (by omega) Z5 zq5
    have Z6 := F6.1
    have D6 := vr_dec_rf F6 D5
    refine jv_Wp.lift (fun _ Kz => jv_Ev.c jv_i304 (pc' := 71) (S' := []) (G1 := (jv_H K I6 L6 R)) jv_i208 [.ref 208, .int (1 : Int32), .int (vl_I (8 + (76875 + f.s)))] rfl rfl rfl rfl (jv_cal rfl (jv_H_at (jv_rwK hW 208 11 7 (by decide))) rfl rfl) rfl H6 rfl rfl Kz) ?_
    refine jv_Wp.lift (fun _ Kz => jv_Ev.steps jv_i304 1 (pc' := 72) (l' := [(0, .ref 196), (1, .int (1025 : Int32)), (2, .int (vl_I c)), (3, .int (vl_I (8 + (76800 + f.s))))]) (st' := [.int (1 : Int32)]) rfl Kz) ?_
    refine jv_Wp.of (jv_Ev.ret jv_i304 rfl (jv_ret_b (Or.inr rfl))) ?_
    rw [hQ]
    have Fr : vr_fr (vr_th 1025) (fun q f => (q = 202 ∨ q = 203) ∧ f = 1025) I3 L3 I4 L4 := vr_fr_mono (vq_rf_fr (P := noP) (E := noE) F4 (by decide)) (fun _ z => z.elim) (fun _ _ z => z.elim)
    have Ar : vr_A I4 L4 1025 = (vr_A I L 1024) := (vr_fr_A (vq_rf_fr (P := noP) (E := noE) F4 (by decide)) (fun _ _ z => z)).trans E3
    have Or_ : vr_okA I4 1025 := vr_fr_okA (vq_rf_fr (P := noP) (E := noE) F4 (by decide)) (fun _ _ z => z) O3
    have Td : vr_T I4 L4 (75 * 1025 + f.d) = vr_T I L (76800 + f.d) := by rw [← vr_A1 (I := I4) (L := L4) (k := 1025) (by omega), Ar]; exact vr_A1 (by omega)
    have Arow := r0
    have w5A : I4 205 (75 * 1025 + f.d) = 1 := (vr_is (L := L4) 1 (by decide) (Or_ f.d (by omega))).mp (((congrArg vt_T.sort Td).trans s1d).trans rfl)
    have w6A := vr_okv (Or_ f.d (by omega)) (Or.inl w5A)
    have v5A : I5 205 (75 * 1025 + f.d) = 1 := (F5.2.1 205 _ (by decide)).trans w5A
    have v6A : I5 206 (75 * 1025 + f.d) = 0 := (F5.2.1 206 _ (by decide)).trans w6A.1
    have v7A : I5 207 (75 * 1025 + f.d) = -1 := (F5.2.1 207 _ (by decide)).trans w6A.2
    have UA := vr_upA (I := I4) (L := L4) (I1 := I5) (L1 := L5) (k := 1025) (r := f.d) (t := vt_num pp.1) (by omega) ((vr_T_set v5A v6A v7A).trans (by rw [show (8 + (75 * 1025 + f.d)) = 8 + (76875 + f.d) from rfl, S5, Arow, vb_toS_toR]; rfl)) (by unfold vr_ok; rw [v5A, v6A, v7A]; exact Or.inr (Or.inr (Or.inl ⟨Or.inl rfl, rfl, rfl⟩))) (vq_rf_frx (P := fun x => x = 75 * 1025 + f.d) F5 rfl) (fun n hn e q => e (by omega)) Or_
    have Brow : vr_S L5 1 = vb_toR pp.2 := (M5 1 (by omega)).trans r1
    have Ts : (vr_T I5 L5 (75 * 1025 + f.s)).sort = 1 := by rw [← vr_A1 (I := I5) (L := L5) (k := 1025) (by omega), UA.1, Ar]; show (if f.s = f.d then _ else (vr_A I L 1024).1 f.s).sort = 1; rw [if_neg (fun z => hds z.symm), vr_A1 (by omega)]; exact s1s
    have w5B : I5 205 (75 * 1025 + f.s) = 1 := (vr_is (L := L5) 1 (by decide) (UA.2 f.s (by omega))).mp ((Ts).trans rfl)
    have w6B := vr_okv (UA.2 f.s (by omega)) (Or.inl w5B)
    have v5B : I6 205 (75 * 1025 + f.s) = 1 := (F6.2.1 205 _ (by decide)).trans w5B
    have v6B : I6 206 (75 * 1025 + f.s) = 0 := (F6.2.1 206 _ (by decide)).trans w6B.1
    have v7B : I6 207 (75 * 1025 + f.s) = -1 := (F6.2.1 207 _ (by decide)).trans w6B.2
    have UB := vr_upA (I := I5) (L := L5) (I1 := I6) (L1 := L6) (k := 1025) (r := f.s) (t := vt_num pp.2) (by omega) ((vr_T_set v5B v6B v7B).trans (by rw [show (8 + (75 * 1025 + f.s)) = 8 + (76875 + f.s) from rfl, S6, Brow, vb_toS_toR]; rfl)) (by unfold vr_ok; rw [v5B, v6B, v7B]; exact Or.inr (Or.inr (Or.inl ⟨Or.inl rfl, rfl, rfl⟩))) (vq_rf_frx (P := fun x => x = 75 * 1025 + f.s) F6 rfl) (fun n hn e q => e (by omega)) UA.2
    refine ⟨_, _, by rw [sm]; rfl, fun p z => ?_, ⟨UB.2, fun n hn nd ns => by rw [← vr_A1 (I := I6) (L := L6) (k := 1025) hn, UB.1, UA.1, Ar]; show (if n = f.s then _ else if n = f.d then _ else (vr_A I L 1024).1 n) = _; rw [if_neg (ns hb), if_neg nd, vr_A1 hn]⟩, vr_fr_trans F3 (vr_fr_trans Fr (vr_fr_trans (vr_fr_mono (vq_rf_frx (P := fun x => x = 75 * 1025 + f.d) (E := noE) F5 rfl) (fun x z => by unfold vr_th; omega) (fun _ _ z => z.elim)) (vr_fr_mono (vq_rf_frx (P := fun x => x = 75 * 1025 + f.s) (E := noE) F6 rfl) (fun x z => by unfold vr_th; omega) (fun _ _ z => z.elim)))), (vq_rf_S F6 (by decide) (by omega)).trans ((vq_rf_S F5 (by decide) (by omega)).trans ((vq_rf_S F4 (by decide) (by decide)).trans G3))⟩
    have ep : pp = p := Option.some.inj (hpp.symm.trans z)
    subst ep
    exact ⟨(UB.1.trans (by rw [UA.1, Ar]; unfold vx_refd; rw [if_pos hb])), UB.2, (F6.2.1 202 _ (by decide)).trans ((F5.2.1 202 _ (by decide)).trans ((F4.2.1 202 _ (by decide)).trans hh3))⟩
  · refine jv_Wp.lift (fun _ Kz => jv_Ev.steps jv_i304 1 (pc' := 31) (l' := [(0, .ref 196), (1, .int (1025 : Int32)), (2, .int (vl_I c)), (3, .int (vl_I (8 + (76800 + f.s))))]) (st' := [.int (0 : Int32)]) rfl Kz) ?_
    refine jv_Wp.of (jv_Ev.ret jv_i304 rfl (jv_ret_b (Or.inl rfl))) ?_
    rw [hQ]
    have sm : (vb_refine c (vb_toS (vr_S L (8 + (76800 + f.d)))) (vb_toS (vr_S L (8 + (76800 + f.s))))).isSome = false := vr_b_f (Classical.not_not.mp h1)
    have Ar : vr_A I4 L4 1025 = (vr_A I L 1024) := (vr_fr_A (vq_rf_fr (P := noP) (E := noE) F4 (by decide)) (fun _ _ z => z)).trans E3
    have Or_ : vr_okA I4 1025 := vr_fr_okA (vq_rf_fr (P := noP) (E := noE) F4 (by decide)) (fun _ _ z => z) O3
    exact ⟨_, _, by rw [sm]; rfl, fun p z => by rw [z] at sm; exact absurd (show true = false from sm) (by decide), ⟨Or_, fun n hn _ _ => by rw [← vr_A1 (I := I4) (L := L4) (k := 1025) hn, Ar, vr_A1 hn]⟩, vr_fr_trans F3 (vr_fr_mono (vq_rf_fr (P := noP) (E := noE) F4 (by decide)) (fun _ z => z.elim) (fun _ _ z => z.elim)), (vq_rf_S F4 (by decide) (by decide)).trans G3⟩
theorem vq_way1025I {K : Nat → Option (Nat × Nat)} {I : Nat → Nat → Int32} {L : Nat → Nat → Int64} {R : Nat → Nat → Value} (f : vf_F) (c : Nat) (hW : jv_rW K R) (hf : vr_fl I) (D : vr_dec I f) (oa : vr_okA I 1024) (hh : I 202 1024 = vr_b true) (hc : c ≤ 11) (hd11 : f.d < 11) (hs11 : f.s < 11) (hb : f.bit3 = false) (s1d : (vr_T I L (76800 + f.d)).sort = 1) (hx : vb_tight (vb_toS (vr_S L (8 + (76800 + f.d))))) (hy : vb_tight (vb_toS (vr_S L 5))) {n sl : Nat} : ∃ I1 L1, jv_Ms 304 [.ref 196, .int (1025 : Int32), .int (vl_I c), .int (5 : Int32)] (jv_H K I L R) n sl (some (.int (vr_b (vb_refine c (vb_toS (vr_S L (8 + (76800 + f.d)))) (vb_toS (vr_S L 5))).isSome)), jv_H K I1 L1 R, n, sl) ∧ (∀ p, vb_refine c (vb_toS (vr_S L (8 + (76800 + f.d)))) (vb_toS (vr_S L 5)) = some p → vr_A I1 L1 1025 = vx_refd f (vr_A I L 1024) p ∧ vr_okA I1 1025 ∧ I1 202 1025 = 1) ∧ (vr_okA I1 1025 ∧ ∀ n, n < 75 → n ≠ f.d → (f.bit3 = true → n ≠ f.s) → vr_T I1 L1 (75 * 1025 + n) = vr_T I L (76800 + n)) ∧ vr_fr (vr_th 1025) (fun q f => (q = 202 ∨ q = 203) ∧ f = 1025) I L I1 L1 ∧ vr_S L1 5 = vr_S L 5 := by
  obtain ⟨Q, hQ⟩ : ∃ Q : jv_R → Prop, Q = fun X => ∃ I1 L1, X = (some (.int (vr_b (vb_refine c (vb_toS (vr_S L (8 + (76800 + f.d)))) (vb_toS (vr_S L 5))).isSome)), jv_H K I1 L1 R, n, sl) ∧ (∀ p, vb_refine c (vb_toS (vr_S L (8 + (76800 + f.d)))) (vb_toS (vr_S L 5)) = some p → vr_A I1 L1 1025 = vx_refd f (vr_A I L 1024) p ∧ vr_okA I1 1025 ∧ I1 202 1025 = 1) ∧ (vr_okA I1 1025 ∧ ∀ n, n < 75 → n ≠ f.d → (f.bit3 = true → n ≠ f.s) → vr_T I1 L1 (75 * 1025 + n) = vr_T I L (76800 + n)) ∧ vr_fr (vr_th 1025) (fun q f => (q = 202 ∨ q = 203) ∧ f = 1025) I L I1 L1 ∧ vr_S L1 5 = vr_S L 5 := ⟨_, rfl⟩
  suffices h : jv_Wp 304 0 [(0, .ref 196), (1, .int (1025 : Int32)), (2, .int (vl_I c)), (3, .int (5 : Int32))] [] (jv_H K I L R) n sl Q by
    rw [hQ] at h
    obtain ⟨X, h, I1, L1, e, h'⟩ := h
    subst e
    exact ⟨I1, L1, h, h'⟩
  refine jv_Wp.lift (fun _ Kz => jv_Ev.steps jv_i304 3 (pc' := 5) (l' := [(0, .ref 196), (1, .int (1025 : Int32)), (2, .int (vl_I c)), (3, .int (5 : Int32))]) (st' := [.int (1025 : Int32), .int (1024 : Int32), .ref 196]) rfl Kz) ?_
  obtain ⟨I7, L7, H7, E7, O7, hh7, G7, F7⟩ := vq_copyState5 (I := I) (L := L) (R := R) (n := n) (sl := sl) 1024 1025 true hW hf (by decide) (by decide) (by decide) oa hh
  have Z7 := vr_fl_of F7
  have D7 := vr_dec_fr F7 (fun _ _ z => by omega) D
  have sd : vr_S L7 (8 + (76800 + f.d)) = vr_S L (8 + (76800 + f.d)) := vr_fr_S F7 (fun z => by unfold vr_th at z; omega)
  refine jv_Wp.lift (fun _ Kz => jv_Ev.c jv_i304 (pc' := 8) (S' := []) (G1 := (jv_H K I7 L7 R)) jv_i276 [.ref 196, .int (1024 : Int32), .int (1025 : Int32)] rfl rfl rfl rfl (jv_cal rfl (jv_H_at (jv_rwK hW 196 12 24 (by decide))) rfl rfl) rfl H7 rfl rfl Kz) ?_
  refine jv_Wp.lift (fun _ Kz => jv_Ev.steps jv_i304 1 (pc' := 9) (l' := [(0, .ref 196), (1, .int (1025 : Int32)), (2, .int (vl_I c)), (3, .int (5 : Int32))]) (st' := [.ref 196]) rfl Kz) ?_
  refine jv_Wp.lift (fun _ Kz => jv_Ev.m jv_i304 (pc' := 12) (st' := [.ref 208]) (G' := (jv_H K I7 L7 R)) rfl rfl (jv_m_getR (jv_rwK hW 196 12 24 (by decide)) rfl rfl (jv_rwR hW 196 16 208 (by decide))) Kz) ?_
  refine jv_Wp.lift (fun _ Kz => jv_Ev.steps jv_i304 3 (pc' := 17) (l' := [(0, .ref 196), (1, .int (1025 : Int32)), (2, .int (vl_I c)), (3, .int (5 : Int32))]) (st' := [.ref 196, .int (1024 : Int32), .int (vl_I c), .ref 208]) rfl Kz) ?_
  refine jv_Wp.lift (fun _ Kz => jv_Ev.m jv_i304 (pc' := 20) (st' := [.int (vl_I f.d), .int (1024 : Int32), .int (vl_I c), .ref 208]) (G' := (jv_H K I7 L7 R)) rfl rfl (jv_m_getI (jv_rwK hW 196 12 24 (by decide)) rfl rfl D7.2.1) Kz) ?_
  refine jv_Wp.lift (fun _ Kz => jv_Ev.c jv_i304 (pc' := 23) (S' := [.int (vl_I (8 + (76800 + f.d))), .int (vl_I c), .ref 208]) jv_i254 [.int (1024 : Int32), .int (vl_I f.d)] rfl rfl rfl rfl rfl rfl (vq_row 1024 f.d) rfl rfl Kz) ?_
  refine jv_Wp.lift (fun _ Kz => jv_Ev.steps jv_i304 1 (pc' := 24) (l' := [(0, .ref 196), (1, .int (1025 : Int32)), (2, .int (vl_I c)), (3, .int (5 : Int32))]) (st' := [.int (5 : Int32), .int (vl_I (8 + (76800 + f.d))), .int (vl_I c), .ref 208]) rfl Kz) ?_
  obtain ⟨I8, L8, H8, P8, F8⟩ := vq_refines (I := I7) (L := L7) (R := R) (n := n) (sl := sl) c (a := 8 + (76800 + f.d)) (b := 5) hc hW (by omega) (by omega) (by omega) (by omega) Z7 (by rw [sd]; exact hx) (by rw [G7]; exact hy)
  rw [sd, G7] at H8 P8
  have Z8 := F8.1
  have D8 := vr_dec_rf F8 D7
  refine jv_Wp.lift (fun _ Kz => jv_Ev.c jv_i304 (pc' := 27) (S' := [.int (vr_b (vb_refine c (vb_toS (vr_S L (8 + (76800 + f.d)))) (vb_toS (vr_S L 5))).isSome)]) (G1 := (jv_H K I8 L8 R)) jv_i251 [.ref 208, .int (vl_I c), .int (vl_I (8 + (76800 + f.d))), .int (5 : Int32)] rfl rfl rfl rfl (jv_cal rfl (jv_H_at (jv_rwK hW 208 11 7 (by decide))) rfl rfl) rfl H8 rfl rfl Kz) ?_
  refine jv_Wp.cnd jv_i304 (pt := 32) (pe := 30) (p := (¬ (vr_b (vb_refine c (vb_toS (vr_S L (8 + (76800 + f.d)))) (vb_toS (vr_S L 5))).isSome) = 0)) (q := (¬ (vr_b (vb_refine c (vb_toS (vr_S L (8 + (76800 + f.d)))) (vb_toS (vr_S L 5))).isSome) = 0)) rfl jv_bi_ne rfl rfl Iff.rfl (fun h1 => ?_) (fun h1 => ?_)
  · refine jv_Wp.lift (fun _ Kz => jv_Ev.steps jv_i304 1 (pc' := 33) (l' := [(0, .ref 196), (1, .int (1025 : Int32)), (2, .int (vl_I c)), (3, .int (5 : Int32))]) (st' := [.ref 196]) rfl Kz) ?_
    refine jv_Wp.lift (fun _ Kz => jv_Ev.m jv_i304 (pc' := 36) (st' := [.ref 208]) (G' := (jv_H K I8 L8 R)) rfl rfl (jv_m_getR (jv_rwK hW 196 12 24 (by decide)) rfl rfl (jv_rwR hW 196 16 208 (by decide))) Kz) ?_
    refine jv_Wp.lift (fun _ Kz => jv_Ev.steps jv_i304 3 (pc' := 39) (l' := [(0, .ref 196), (1, .int (1025 : Int32)), (2, .int (vl_I c)), (3, .int (5 : Int32))]) (st' := [.ref 196, .int (1025 : Int32), .int (0 : Int32), .ref 208]) rfl Kz) ?_
    refine jv_Wp.lift (fun _ Kz => jv_Ev.m jv_i304 (pc' := 42) (st' := [.int (vl_I f.d), .int (1025 : Int32), .int (0 : Int32), .ref 208]) (G' := (jv_H K I8 L8 R)) rfl rfl (jv_m_getI (jv_rwK hW 196 12 24 (by decide)) rfl rfl D8.2.1) Kz) ?_
    refine jv_Wp.lift (fun _ Kz => jv_Ev.c jv_i304 (pc' := 45) (S' := [.int (vl_I (8 + (76875 + f.d))), .int (0 : Int32), .ref 208]) jv_i254 [.int (1025 : Int32), .int (vl_I f.d)] rfl rfl rfl rfl rfl rfl (vq_row 1025 f.d) rfl rfl Kz) ?_
    have sm : (vb_refine c (vb_toS (vr_S L (8 + (76800 + f.d)))) (vb_toS (vr_S L 5))).isSome = true := vr_b_t h1
    obtain ⟨pp, hpp⟩ := Option.isSome_iff_exists.mp sm
    obtain ⟨r0, r1, z0, z1⟩ := P8 pp hpp
    obtain ⟨I9, L9, H9, S9, J9, M9, F9⟩ := vq_copyq (I := I8) (L := L8) (R := R) (n := n) (sl := sl) (a := 0) (d := (8 + (76875 + f.d))) hW (by decide) (by omega) (by omega) Z8 z0
    have Z9 := F9.1
    have D9 := vr_dec_rf F9 D8
    have zq9 : I9 215 1 = 0 := (J9 1 (by omega)).trans z1
    refine jv_Wp.lift (fun _ Kz => jv_Ev.c jv_i304 (pc' := 48) (S' := []) (G1 := (jv_H K I9 L9 R)) jv_i208 [.ref 208, .int (0 : Int32), .int (vl_I (8 + (76875 + f.d)))] rfl rfl rfl rfl (jv_cal rfl (jv_H_at (jv_rwK hW 208 11 7 (by decide))) rfl rfl) rfl H9 rfl rfl Kz) ?_
    refine jv_Wp.lift (fun _ Kz => jv_Ev.steps jv_i304 1 (pc' := 49) (l' := [(0, .ref 196), (1, .int (1025 : Int32)), (2, .int (vl_I c)), (3, .int (5 : Int32))]) (st' := [.ref 196]) rfl Kz) ?_
    refine jv_Wp.lift (fun _ Kz => jv_Ev.c jv_i304 (pc' := 52) (S' := [.int (vr_b f.bit3)]) jv_i259 [.ref 196] rfl rfl rfl rfl (jv_cal rfl (jv_H_at (jv_rwK hW 196 12 24 (by decide))) rfl rfl) rfl (vq_bit3 f hW D9) rfl rfl Kz) ?_
    refine jv_Wp.cnd jv_i304 (pt := 71) (pe := 55) (p := ((vr_b f.bit3) = 0)) (q := ((vr_b f.bit3) = 0)) rfl jv_bi_eq rfl rfl Iff.rfl (fun _ => ?_) (fun hz => absurd (by rw [hb]; rfl) hz)
    refine jv_Wp.lift (fun _ Kz => jv_Ev.steps jv_i304 1 (pc' := 72) (l' := [(0, .ref 196), (1, .int (1025 : Int32)), (2, .int (vl_I c)), (3, .int (5 : Int32))]) (st' := [.int (1 : Int32)]) rfl Kz) ?_
    refine jv_Wp.of (jv_Ev.ret jv_i304 rfl (jv_ret_b (Or.inr rfl))) ?_
    rw [hQ]
    have Fr : vr_fr (vr_th 1025) (fun q f => (q = 202 ∨ q = 203) ∧ f = 1025) I7 L7 I8 L8 := vr_fr_mono (vq_rf_fr (P := noP) (E := noE) F8 (by decide)) (fun _ z => z.elim) (fun _ _ z => z.elim)
    have Ar : vr_A I8 L8 1025 = (vr_A I L 1024) := (vr_fr_A (vq_rf_fr (P := noP) (E := noE) F8 (by decide)) (fun _ _ z => z)).trans E7
    have Or_ : vr_okA I8 1025 := vr_fr_okA (vq_rf_fr (P := noP) (E := noE) F8 (by decide)) (fun _ _ z => z) O7
    have Td : vr_T I8 L8 (75 * 1025 + f.d) = vr_T I L (76800 + f.d) := by rw [← vr_A1 (I := I8) (L := L8) (k := 1025) (by omega), Ar]; exact vr_A1 (by omega)
    have Arow := r0
    have w5A : I8 205 (75 * 1025 + f.d) = 1 := (vr_is (L := L8) 1 (by decide) (Or_ f.d (by omega))).mp (((congrArg vt_T.sort Td).trans s1d).trans rfl)
    have w6A := vr_okv (Or_ f.d (by omega)) (Or.inl w5A)
    have v5A : I9 205 (75 * 1025 + f.d) = 1 := (F9.2.1 205 _ (by decide)).trans w5A
    have v6A : I9 206 (75 * 1025 + f.d) = 0 := (F9.2.1 206 _ (by decide)).trans w6A.1
    have v7A : I9 207 (75 * 1025 + f.d) = -1 := (F9.2.1 207 _ (by decide)).trans w6A.2
    have UA := vr_upA (I := I8) (L := L8) (I1 := I9) (L1 := L9) (k := 1025) (r := f.d) (t := vt_num pp.1) (by omega) ((vr_T_set v5A v6A v7A).trans (by rw [show (8 + (75 * 1025 + f.d)) = 8 + (76875 + f.d) from rfl, S9, Arow, vb_toS_toR]; rfl)) (by unfold vr_ok; rw [v5A, v6A, v7A]; exact Or.inr (Or.inr (Or.inl ⟨Or.inl rfl, rfl, rfl⟩))) (vq_rf_frx (P := fun x => x = 75 * 1025 + f.d) F9 rfl) (fun n hn e q => e (by omega)) Or_
    refine ⟨_, _, by rw [sm]; rfl, fun p z => ?_, ⟨UA.2, fun n hn nd ns => by rw [← vr_A1 (I := I9) (L := L9) (k := 1025) hn, UA.1, Ar]; show (if n = f.d then _ else (vr_A I L 1024).1 n) = _; rw [if_neg nd, vr_A1 hn]⟩, vr_fr_trans F7 (vr_fr_trans Fr (vr_fr_mono (vq_rf_frx (P := fun x => x = 75 * 1025 + f.d) (E := noE) F9 rfl) (fun x z => by unfold vr_th; omega) (fun _ _ z => z.elim))), (vq_rf_S F9 (by decide) (by omega)).trans ((vq_rf_S F8 (by decide) (by decide)).trans G7)⟩
    have ep : pp = p := Option.some.inj (hpp.symm.trans z)
    subst ep
    exact ⟨(UA.1.trans (by rw [Ar]; unfold vx_refd; rw [if_neg (by rw [hb]; decide)])), UA.2, (F9.2.1 202 _ (by decide)).trans ((F8.2.1 202 _ (by decide)).trans hh7)⟩
  · refine jv_Wp.lift (fun _ Kz => jv_Ev.steps jv_i304 1 (pc' := 31) (l' := [(0, .ref 196), (1, .int (1025 : Int32)), (2, .int (vl_I c)), (3, .int (5 : Int32))]) (st' := [.int (0 : Int32)]) rfl Kz) ?_
    refine jv_Wp.of (jv_Ev.ret jv_i304 rfl (jv_ret_b (Or.inl rfl))) ?_
    rw [hQ]
    have sm : (vb_refine c (vb_toS (vr_S L (8 + (76800 + f.d)))) (vb_toS (vr_S L 5))).isSome = false := vr_b_f (Classical.not_not.mp h1)
    have Ar : vr_A I8 L8 1025 = (vr_A I L 1024) := (vr_fr_A (vq_rf_fr (P := noP) (E := noE) F8 (by decide)) (fun _ _ z => z)).trans E7
    have Or_ : vr_okA I8 1025 := vr_fr_okA (vq_rf_fr (P := noP) (E := noE) F8 (by decide)) (fun _ _ z => z) O7
    exact ⟨_, _, by rw [sm]; rfl, fun p z => by rw [z] at sm; exact absurd (show true = false from sm) (by decide), ⟨Or_, fun n hn _ _ => by rw [← vr_A1 (I := I8) (L := L8) (k := 1025) hn, Ar, vr_A1 hn]⟩, vr_fr_trans F7 (vr_fr_mono (vq_rf_fr (P := noP) (E := noE) F8 (by decide)) (fun _ z => z.elim) (fun _ _ z => z.elim)), (vq_rf_S F8 (by decide) (by decide)).trans G7⟩
theorem vq_way1027R {K : Nat → Option (Nat × Nat)} {I : Nat → Nat → Int32} {L : Nat → Nat → Int64} {R : Nat → Nat → Value} (f : vf_F) (c : Nat) (hW : jv_rW K R) (hf : vr_fl I) (D : vr_dec I f) (oa : vr_okA I 1024) (hh : I 202 1024 = vr_b true) (hc : c ≤ 11) (hd11 : f.d < 11) (hs11 : f.s < 11) (hb : f.bit3 = true) (hds : f.d ≠ f.s) (s1d : (vr_T I L (76800 + f.d)).sort = 1) (s1s : (vr_T I L (76800 + f.s)).sort = 1) (hx : vb_tight (vb_toS (vr_S L (8 + (76800 + f.d))))) (hy : vb_tight (vb_toS (vr_S L (8 + (76800 + f.s))))) {n sl : Nat} : ∃ I1 L1, jv_Ms 304 [.ref 196, .int (1027 : Int32), .int (vl_I c), .int (vl_I (8 + (76800 + f.s)))] (jv_H K I L R) n sl (some (.int (vr_b (vb_refine c (vb_toS (vr_S L (8 + (76800 + f.d)))) (vb_toS (vr_S L (8 + (76800 + f.s))))).isSome)), jv_H K I1 L1 R, n, sl) ∧ (∀ p, vb_refine c (vb_toS (vr_S L (8 + (76800 + f.d)))) (vb_toS (vr_S L (8 + (76800 + f.s)))) = some p → vr_A I1 L1 1027 = vx_refd f (vr_A I L 1024) p ∧ vr_okA I1 1027 ∧ I1 202 1027 = 1) ∧ (vr_okA I1 1027 ∧ ∀ n, n < 75 → n ≠ f.d → (f.bit3 = true → n ≠ f.s) → vr_T I1 L1 (75 * 1027 + n) = vr_T I L (76800 + n)) ∧ vr_fr (vr_th 1027) (fun q f => (q = 202 ∨ q = 203) ∧ f = 1027) I L I1 L1 ∧ vr_S L1 5 = vr_S L 5 := by
  obtain ⟨Q, hQ⟩ : ∃ Q : jv_R → Prop, Q = fun X => ∃ I1 L1, X = (some (.int (vr_b (vb_refine c (vb_toS (vr_S L (8 + (76800 + f.d)))) (vb_toS (vr_S L (8 + (76800 + f.s))))).isSome)), jv_H K I1 L1 R, n, sl) ∧ (∀ p, vb_refine c (vb_toS (vr_S L (8 + (76800 + f.d)))) (vb_toS (vr_S L (8 + (76800 + f.s)))) = some p → vr_A I1 L1 1027 = vx_refd f (vr_A I L 1024) p ∧ vr_okA I1 1027 ∧ I1 202 1027 = 1) ∧ (vr_okA I1 1027 ∧ ∀ n, n < 75 → n ≠ f.d → (f.bit3 = true → n ≠ f.s) → vr_T I1 L1 (75 * 1027 + n) = vr_T I L (76800 + n)) ∧ vr_fr (vr_th 1027) (fun q f => (q = 202 ∨ q = 203) ∧ f = 1027) I L I1 L1 ∧ vr_S L1 5 = vr_S L 5 := ⟨_, rfl⟩
  suffices h : jv_Wp 304 0 [(0, .ref 196), (1, .int (1027 : Int32)), (2, .int (vl_I c)), (3, .int (vl_I (8 + (76800 + f.s))))] [] (jv_H K I L R) n sl Q by
    rw [hQ] at h
    obtain ⟨X, h, I1, L1, e, h'⟩ := h
    subst e
    exact ⟨I1, L1, h, h'⟩
  refine jv_Wp.lift (fun _ Kz => jv_Ev.steps jv_i304 3 (pc' := 5) (l' := [(0, .ref 196), (1, .int (1027 : Int32)), (2, .int (vl_I c)), (3, .int (vl_I (8 + (76800 + f.s))))]) (st' := [.int (1027 : Int32), .int (1024 : Int32), .ref 196]) rfl Kz) ?_
  obtain ⟨I10, L10, H10, E10, O10, hh10, G10, F10⟩ := vq_copyState5 (I := I) (L := L) (R := R) (n := n) (sl := sl) 1024 1027 true hW hf (by decide) (by decide) (by decide) oa hh
  have Z10 := vr_fl_of F10
  have D10 := vr_dec_fr F10 (fun _ _ z => by omega) D
  have sd : vr_S L10 (8 + (76800 + f.d)) = vr_S L (8 + (76800 + f.d)) := vr_fr_S F10 (fun z => by unfold vr_th at z; omega)
  have ss : vr_S L10 (8 + (76800 + f.s)) = vr_S L (8 + (76800 + f.s)) := vr_fr_S F10 (fun z => by unfold vr_th at z; omega)
  refine jv_Wp.lift (fun _ Kz => jv_Ev.c jv_i304 (pc' := 8) (S' := []) (G1 := (jv_H K I10 L10 R)) jv_i276 [.ref 196, .int (1024 : Int32), .int (1027 : Int32)] rfl rfl rfl rfl (jv_cal rfl (jv_H_at (jv_rwK hW 196 12 24 (by decide))) rfl rfl) rfl H10 rfl rfl Kz) ?_
  refine jv_Wp.lift (fun _ Kz => jv_Ev.steps jv_i304 1 (pc' := 9) (l' := [(0, .ref 196), (1, .int (1027 : Int32)), (2, .int (vl_I c)), (3, .int (vl_I (8 + (76800 + f.s))))]) (st' := [.ref 196]) rfl Kz) ?_
  refine jv_Wp.lift (fun _ Kz => jv_Ev.m jv_i304 (pc' := 12) (st' := [.ref 208]) (G' := (jv_H K I10 L10 R)) rfl rfl (jv_m_getR (jv_rwK hW 196 12 24 (by decide)) rfl rfl (jv_rwR hW 196 16 208 (by decide))) Kz) ?_
  refine jv_Wp.lift (fun _ Kz => jv_Ev.steps jv_i304 3 (pc' := 17) (l' := [(0, .ref 196), (1, .int (1027 : Int32)), (2, .int (vl_I c)), (3, .int (vl_I (8 + (76800 + f.s))))]) (st' := [.ref 196, .int (1024 : Int32), .int (vl_I c), .ref 208]) rfl Kz) ?_
  refine jv_Wp.lift (fun _ Kz => jv_Ev.m jv_i304 (pc' := 20) (st' := [.int (vl_I f.d), .int (1024 : Int32), .int (vl_I c), .ref 208]) (G' := (jv_H K I10 L10 R)) rfl rfl (jv_m_getI (jv_rwK hW 196 12 24 (by decide)) rfl rfl D10.2.1) Kz) ?_
  refine jv_Wp.lift (fun _ Kz => jv_Ev.c jv_i304 (pc' := 23) (S' := [.int (vl_I (8 + (76800 + f.d))), .int (vl_I c), .ref 208]) jv_i254 [.int (1024 : Int32), .int (vl_I f.d)] rfl rfl rfl rfl rfl rfl (vq_row 1024 f.d) rfl rfl Kz) ?_
  refine jv_Wp.lift (fun _ Kz => jv_Ev.steps jv_i304 1 (pc' := 24) (l' := [(0, .ref 196), (1, .int (1027 : Int32)), (2, .int (vl_I c)), (3, .int (vl_I (8 + (76800 + f.s))))]) (st' := [.int (vl_I (8 + (76800 + f.s))), .int (vl_I (8 + (76800 + f.d))), .int (vl_I c), .ref 208]) rfl Kz) ?_
  obtain ⟨I11, L11, H11, P11, F11⟩ := vq_refines (I := I10) (L := L10) (R := R) (n := n) (sl := sl) c (a := 8 + (76800 + f.d)) (b := 8 + (76800 + f.s)) hc hW (by omega) (by omega) (by omega) (by omega) Z10 (by rw [sd]; exact hx) (by rw [ss]; exact hy)
  rw [sd, ss] at H11 P11
  have Z11 := F11.1
  have D11 := vr_dec_rf F11 D10
  refine jv_Wp.lift (fun _ Kz => jv_Ev.c jv_i304 (pc' := 27) (S' := [.int (vr_b (vb_refine c (vb_toS (vr_S L (8 + (76800 + f.d)))) (vb_toS (vr_S L (8 + (76800 + f.s))))).isSome)]) (G1 := (jv_H K I11 L11 R)) jv_i251 [.ref 208, .int (vl_I c), .int (vl_I (8 + (76800 + f.d))), .int (vl_I (8 + (76800 + f.s)))] rfl rfl rfl rfl (jv_cal rfl (jv_H_at (jv_rwK hW 208 11 7 (by decide))) rfl rfl) rfl H11 rfl rfl Kz) ?_
  refine jv_Wp.cnd jv_i304 (pt := 32) (pe := 30) (p := (¬ (vr_b (vb_refine c (vb_toS (vr_S L (8 + (76800 + f.d)))) (vb_toS (vr_S L (8 + (76800 + f.s))))).isSome) = 0)) (q := (¬ (vr_b (vb_refine c (vb_toS (vr_S L (8 + (76800 + f.d)))) (vb_toS (vr_S L (8 + (76800 + f.s))))).isSome) = 0)) rfl jv_bi_ne rfl rfl Iff.rfl (fun h1 => ?_) (fun h1 => ?_)
  · refine jv_Wp.lift (fun _ Kz => jv_Ev.steps jv_i304 1 (pc' := 33) (l' := [(0, .ref 196), (1, .int (1027 : Int32)), (2, .int (vl_I c)), (3, .int (vl_I (8 + (76800 + f.s))))]) (st' := [.ref 196]) rfl Kz) ?_
    refine jv_Wp.lift (fun _ Kz => jv_Ev.m jv_i304 (pc' := 36) (st' := [.ref 208]) (G' := (jv_H K I11 L11 R)) rfl rfl (jv_m_getR (jv_rwK hW 196 12 24 (by decide)) rfl rfl (jv_rwR hW 196 16 208 (by decide))) Kz) ?_
    refine jv_Wp.lift (fun _ Kz => jv_Ev.steps jv_i304 3 (pc' := 39) (l' := [(0, .ref 196), (1, .int (1027 : Int32)), (2, .int (vl_I c)), (3, .int (vl_I (8 + (76800 + f.s))))]) (st' := [.ref 196, .int (1027 : Int32), .int (0 : Int32), .ref 208]) rfl Kz) ?_
    refine jv_Wp.lift (fun _ Kz => jv_Ev.m jv_i304 (pc' := 42) (st' := [.int (vl_I f.d), .int (1027 : Int32), .int (0 : Int32), .ref 208]) (G' := (jv_H K I11 L11 R)) rfl rfl (jv_m_getI (jv_rwK hW 196 12 24 (by decide)) rfl rfl D11.2.1) Kz) ?_
    refine jv_Wp.lift (fun _ Kz => jv_Ev.c jv_i304 (pc' := 45) (S' := [.int (vl_I (8 + (77025 + f.d))), .int (0 : Int32), .ref 208]) jv_i254 [.int (1027 : Int32), .int (vl_I f.d)] rfl rfl rfl rfl rfl rfl (vq_row 1027 f.d) rfl rfl Kz) ?_
    have sm : (vb_refine c (vb_toS (vr_S L (8 + (76800 + f.d)))) (vb_toS (vr_S L (8 + (76800 + f.s))))).isSome = true := vr_b_t h1
    obtain ⟨pp, hpp⟩ := Option.isSome_iff_exists.mp sm
    obtain ⟨r0, r1, z0, z1⟩ := P11 pp hpp
    obtain ⟨I12, L12, H12, S12, J12, M12, F12⟩ := vq_copyq (I := I11) (L := L11) (R := R) (n := n) (sl := sl) (a := 0) (d := (8 + (77025 + f.d))) hW (by decide) (by omega) (by omega) Z11 z0
    have Z12 := F12.1
    have D12 := vr_dec_rf F12 D11
    have zq12 : I12 215 1 = 0 := (J12 1 (by omega)).trans z1
    refine jv_Wp.lift (fun _ Kz => jv_Ev.c jv_i304 (pc' := 48) (S' := []) (G1 := (jv_H K I12 L12 R)) jv_i208 [.ref 208, .int (0 : Int32), .int (vl_I (8 + (77025 + f.d)))] rfl rfl rfl rfl (jv_cal rfl (jv_H_at (jv_rwK hW 208 11 7 (by decide))) rfl rfl) rfl H12 rfl rfl Kz) ?_
    refine jv_Wp.lift (fun _ Kz => jv_Ev.steps jv_i304 1 (pc' := 49) (l' := [(0, .ref 196), (1, .int (1027 : Int32)), (2, .int (vl_I c)), (3, .int (vl_I (8 + (76800 + f.s))))]) (st' := [.ref 196]) rfl Kz) ?_
    refine jv_Wp.lift (fun _ Kz => jv_Ev.c jv_i304 (pc' := 52) (S' := [.int (vr_b f.bit3)]) jv_i259 [.ref 196] rfl rfl rfl rfl (jv_cal rfl (jv_H_at (jv_rwK hW 196 12 24 (by decide))) rfl rfl) rfl (vq_bit3 f hW D12) rfl rfl Kz) ?_
    refine jv_Wp.cnd jv_i304 (pt := 71) (pe := 55) (p := ((vr_b f.bit3) = 0)) (q := ((vr_b f.bit3) = 0)) rfl jv_bi_eq rfl rfl Iff.rfl (fun hz => absurd hz (by rw [hb]; decide)) (fun _ => ?_)
    refine jv_Wp.lift (fun _ Kz => jv_Ev.steps jv_i304 1 (pc' := 56) (l' := [(0, .ref 196), (1, .int (1027 : Int32)), (2, .int (vl_I c)), (3, .int (vl_I (8 + (76800 + f.s))))]) (st' := [.ref 196]) rfl Kz) ?_
    refine jv_Wp.lift (fun _ Kz => jv_Ev.m jv_i304 (pc' := 59) (st' := [.ref 208]) (G' := (jv_H K I12 L12 R)) rfl rfl (jv_m_getR (jv_rwK hW 196 12 24 (by decide)) rfl rfl (jv_rwR hW 196 16 208 (by decide))) Kz) ?_
    refine jv_Wp.lift (fun _ Kz => jv_Ev.steps jv_i304 3 (pc' := 62) (l' := [(0, .ref 196), (1, .int (1027 : Int32)), (2, .int (vl_I c)), (3, .int (vl_I (8 + (76800 + f.s))))]) (st' := [.ref 196, .int (1027 : Int32), .int (1 : Int32), .ref 208]) rfl Kz) ?_
    refine jv_Wp.lift (fun _ Kz => jv_Ev.m jv_i304 (pc' := 65) (st' := [.int (vl_I f.s), .int (1027 : Int32), .int (1 : Int32), .ref 208]) (G' := (jv_H K I12 L12 R)) rfl rfl (jv_m_getI (jv_rwK hW 196 12 24 (by decide)) rfl rfl D12.2.2.1) Kz) ?_
    refine jv_Wp.lift (fun _ Kz => jv_Ev.c jv_i304 (pc' := 68) (S' := [.int (vl_I (8 + (77025 + f.s))), .int (1 : Int32), .ref 208]) jv_i254 [.int (1027 : Int32), .int (vl_I f.s)] rfl rfl rfl rfl rfl rfl (vq_row 1027 f.s) rfl rfl Kz) ?_
    obtain ⟨I13, L13, H13, S13, J13, M13, F13⟩ := vq_copyq (I := I12) (L := L12) (R := R) (n := n) (sl := sl) (a := 1) (d := (8 + (77025 + f.s))) hW (by decide) (by omega) (by omega) Z12 zq12
    have Z13 := F13.1
    have D13 := vr_dec_rf F13 D12
    refine jv_Wp.lift (fun _ Kz => jv_Ev.c jv_i304 (pc' := 71) (S' := []) (G1 := (jv_H K I13 L13 R)) jv_i208 [.ref 208, .int (1 : Int32), .int (vl_I (8 + (77025 + f.s)))] rfl rfl rfl rfl (jv_cal rfl (jv_H_at (jv_rwK hW 208 11 7 (by decide))) rfl rfl) rfl H13 rfl rfl Kz) ?_
    refine jv_Wp.lift (fun _ Kz => jv_Ev.steps jv_i304 1 (pc' := 72) (l' := [(0, .ref 196), (1, .int (1027 : Int32)), (2, .int (vl_I c)), (3, .int (vl_I (8 + (76800 + f.s))))]) (st' := [.int (1 : Int32)]) rfl Kz) ?_
    refine jv_Wp.of (jv_Ev.ret jv_i304 rfl (jv_ret_b (Or.inr rfl))) ?_
    rw [hQ]
    have Fr : vr_fr (vr_th 1027) (fun q f => (q = 202 ∨ q = 203) ∧ f = 1027) I10 L10 I11 L11 := vr_fr_mono (vq_rf_fr (P := noP) (E := noE) F11 (by decide)) (fun _ z => z.elim) (fun _ _ z => z.elim)
    have Ar : vr_A I11 L11 1027 = (vr_A I L 1024) := (vr_fr_A (vq_rf_fr (P := noP) (E := noE) F11 (by decide)) (fun _ _ z => z)).trans E10
    have Or_ : vr_okA I11 1027 := vr_fr_okA (vq_rf_fr (P := noP) (E := noE) F11 (by decide)) (fun _ _ z => z) O10
    have Td : vr_T I11 L11 (75 * 1027 + f.d) = vr_T I L (76800 + f.d) := by rw [← vr_A1 (I := I11) (L := L11) (k := 1027) (by omega), Ar]; exact vr_A1 (by omega)
    have Arow := r0
    have w5A : I11 205 (75 * 1027 + f.d) = 1 := (vr_is (L := L11) 1 (by decide) (Or_ f.d (by omega))).mp (((congrArg vt_T.sort Td).trans s1d).trans rfl)
    have w6A := vr_okv (Or_ f.d (by omega)) (Or.inl w5A)
    have v5A : I12 205 (75 * 1027 + f.d) = 1 := (F12.2.1 205 _ (by decide)).trans w5A
    have v6A : I12 206 (75 * 1027 + f.d) = 0 := (F12.2.1 206 _ (by decide)).trans w6A.1
    have v7A : I12 207 (75 * 1027 + f.d) = -1 := (F12.2.1 207 _ (by decide)).trans w6A.2
    have UA := vr_upA (I := I11) (L := L11) (I1 := I12) (L1 := L12) (k := 1027) (r := f.d) (t := vt_num pp.1) (by omega) ((vr_T_set v5A v6A v7A).trans (by rw [show (8 + (75 * 1027 + f.d)) = 8 + (77025 + f.d) from rfl, S12, Arow, vb_toS_toR]; rfl)) (by unfold vr_ok; rw [v5A, v6A, v7A]; exact Or.inr (Or.inr (Or.inl ⟨Or.inl rfl, rfl, rfl⟩))) (vq_rf_frx (P := fun x => x = 75 * 1027 + f.d) F12 rfl) (fun n hn e q => e (by omega)) Or_
    have Brow : vr_S L12 1 = vb_toR pp.2 := (M12 1 (by omega)).trans r1
    have Ts : (vr_T I12 L12 (75 * 1027 + f.s)).sort = 1 := by rw [← vr_A1 (I := I12) (L := L12) (k := 1027) (by omega), UA.1, Ar]; show (if f.s = f.d then _ else (vr_A I L 1024).1 f.s).sort = 1; rw [if_neg (fun z => hds z.symm), vr_A1 (by omega)]; exact s1s
    have w5B : I12 205 (75 * 1027 + f.s) = 1 := (vr_is (L := L12) 1 (by decide) (UA.2 f.s (by omega))).mp ((Ts).trans rfl)
    have w6B := vr_okv (UA.2 f.s (by omega)) (Or.inl w5B)
    have v5B : I13 205 (75 * 1027 + f.s) = 1 := (F13.2.1 205 _ (by decide)).trans w5B
    have v6B : I13 206 (75 * 1027 + f.s) = 0 := (F13.2.1 206 _ (by decide)).trans w6B.1
    have v7B : I13 207 (75 * 1027 + f.s) = -1 := (F13.2.1 207 _ (by decide)).trans w6B.2
    have UB := vr_upA (I := I12) (L := L12) (I1 := I13) (L1 := L13) (k := 1027) (r := f.s) (t := vt_num pp.2) (by omega) ((vr_T_set v5B v6B v7B).trans (by rw [show (8 + (75 * 1027 + f.s)) = 8 + (77025 + f.s) from rfl, S13, Brow, vb_toS_toR]; rfl)) (by unfold vr_ok; rw [v5B, v6B, v7B]; exact Or.inr (Or.inr (Or.inl ⟨Or.inl rfl, rfl, rfl⟩))) (vq_rf_frx (P := fun x => x = 75 * 1027 + f.s) F13 rfl) (fun n hn e q => e (by omega)) UA.2
    refine ⟨_, _, by rw [sm]; rfl, fun p z => ?_, ⟨UB.2, fun n hn nd ns => by rw [← vr_A1 (I := I13) (L := L13) (k := 1027) hn, UB.1, UA.1, Ar]; show (if n = f.s then _ else if n = f.d then _ else (vr_A I L 1024).1 n) = _; rw [if_neg (ns hb), if_neg nd, vr_A1 hn]⟩, vr_fr_trans F10 (vr_fr_trans Fr (vr_fr_trans (vr_fr_mono (vq_rf_frx (P := fun x => x = 75 * 1027 + f.d) (E := noE) F12 rfl) (fun x z => by unfold vr_th; omega) (fun _ _ z => z.elim)) (vr_fr_mono (vq_rf_frx (P := fun x => x = 75 * 1027 + f.s) (E := noE) F13 rfl) (fun x z => by unfold vr_th; omega) (fun _ _ z => z.elim)))), (vq_rf_S F13 (by decide) (by omega)).trans ((vq_rf_S F12 (by decide) (by omega)).trans ((vq_rf_S F11 (by decide) (by decide)).trans G10))⟩
    have ep : pp = p := Option.some.inj (hpp.symm.trans z)
    subst ep
    exact ⟨(UB.1.trans (by rw [UA.1, Ar]; unfold vx_refd; rw [if_pos hb])), UB.2, (F13.2.1 202 _ (by decide)).trans ((F12.2.1 202 _ (by decide)).trans ((F11.2.1 202 _ (by decide)).trans hh10))⟩
  · refine jv_Wp.lift (fun _ Kz => jv_Ev.steps jv_i304 1 (pc' := 31) (l' := [(0, .ref 196), (1, .int (1027 : Int32)), (2, .int (vl_I c)), (3, .int (vl_I (8 + (76800 + f.s))))]) (st' := [.int (0 : Int32)]) rfl Kz) ?_
    refine jv_Wp.of (jv_Ev.ret jv_i304 rfl (jv_ret_b (Or.inl rfl))) ?_
    rw [hQ]
    have sm : (vb_refine c (vb_toS (vr_S L (8 + (76800 + f.d)))) (vb_toS (vr_S L (8 + (76800 + f.s))))).isSome = false := vr_b_f (Classical.not_not.mp h1)
    have Ar : vr_A I11 L11 1027 = (vr_A I L 1024) := (vr_fr_A (vq_rf_fr (P := noP) (E := noE) F11 (by decide)) (fun _ _ z => z)).trans E10
    have Or_ : vr_okA I11 1027 := vr_fr_okA (vq_rf_fr (P := noP) (E := noE) F11 (by decide)) (fun _ _ z => z) O10
    exact ⟨_, _, by rw [sm]; rfl, fun p z => by rw [z] at sm; exact absurd (show true = false from sm) (by decide), ⟨Or_, fun n hn _ _ => by rw [← vr_A1 (I := I11) (L := L11) (k := 1027) hn, Ar, vr_A1 hn]⟩, vr_fr_trans F10 (vr_fr_mono (vq_rf_fr (P := noP) (E := noE) F11 (by decide)) (fun _ z => z.elim) (fun _ _ z => z.elim)), (vq_rf_S F11 (by decide) (by decide)).trans G10⟩
theorem vq_way1027I {K : Nat → Option (Nat × Nat)} {I : Nat → Nat → Int32} {L : Nat → Nat → Int64} {R : Nat → Nat → Value} (f : vf_F) (c : Nat) (hW : jv_rW K R) (hf : vr_fl I) (D : vr_dec I f) (oa : vr_okA I 1024) (hh : I 202 1024 = vr_b true) (hc : c ≤ 11) (hd11 : f.d < 11) (hs11 : f.s < 11) (hb : f.bit3 = false) (s1d : (vr_T I L (76800 + f.d)).sort = 1) (hx : vb_tight (vb_toS (vr_S L (8 + (76800 + f.d))))) (hy : vb_tight (vb_toS (vr_S L 5))) {n sl : Nat} : ∃ I1 L1, jv_Ms 304 [.ref 196, .int (1027 : Int32), .int (vl_I c), .int (5 : Int32)] (jv_H K I L R) n sl (some (.int (vr_b (vb_refine c (vb_toS (vr_S L (8 + (76800 + f.d)))) (vb_toS (vr_S L 5))).isSome)), jv_H K I1 L1 R, n, sl) ∧ (∀ p, vb_refine c (vb_toS (vr_S L (8 + (76800 + f.d)))) (vb_toS (vr_S L 5)) = some p → vr_A I1 L1 1027 = vx_refd f (vr_A I L 1024) p ∧ vr_okA I1 1027 ∧ I1 202 1027 = 1) ∧ (vr_okA I1 1027 ∧ ∀ n, n < 75 → n ≠ f.d → (f.bit3 = true → n ≠ f.s) → vr_T I1 L1 (75 * 1027 + n) = vr_T I L (76800 + n)) ∧ vr_fr (vr_th 1027) (fun q f => (q = 202 ∨ q = 203) ∧ f = 1027) I L I1 L1 ∧ vr_S L1 5 = vr_S L 5 := by
  obtain ⟨Q, hQ⟩ : ∃ Q : jv_R → Prop, Q = fun X => ∃ I1 L1, X = (some (.int (vr_b (vb_refine c (vb_toS (vr_S L (8 + (76800 + f.d)))) (vb_toS (vr_S L 5))).isSome)), jv_H K I1 L1 R, n, sl) ∧ (∀ p, vb_refine c (vb_toS (vr_S L (8 + (76800 + f.d)))) (vb_toS (vr_S L 5)) = some p → vr_A I1 L1 1027 = vx_refd f (vr_A I L 1024) p ∧ vr_okA I1 1027 ∧ I1 202 1027 = 1) ∧ (vr_okA I1 1027 ∧ ∀ n, n < 75 → n ≠ f.d → (f.bit3 = true → n ≠ f.s) → vr_T I1 L1 (75 * 1027 + n) = vr_T I L (76800 + n)) ∧ vr_fr (vr_th 1027) (fun q f => (q = 202 ∨ q = 203) ∧ f = 1027) I L I1 L1 ∧ vr_S L1 5 = vr_S L 5 := ⟨_, rfl⟩
  suffices h : jv_Wp 304 0 [(0, .ref 196), (1, .int (1027 : Int32)), (2, .int (vl_I c)), (3, .int (5 : Int32))] [] (jv_H K I L R) n sl Q by
    rw [hQ] at h
    obtain ⟨X, h, I1, L1, e, h'⟩ := h
    subst e
    exact ⟨I1, L1, h, h'⟩
  refine jv_Wp.lift (fun _ Kz => jv_Ev.steps jv_i304 3 (pc' := 5) (l' := [(0, .ref 196), (1, .int (1027 : Int32)), (2, .int (vl_I c)), (3, .int (5 : Int32))]) (st' := [.int (1027 : Int32), .int (1024 : Int32), .ref 196]) rfl Kz) ?_
  obtain ⟨I14, L14, H14, E14, O14, hh14, G14, F14⟩ := vq_copyState5 (I := I) (L := L) (R := R) (n := n) (sl := sl) 1024 1027 true hW hf (by decide) (by decide) (by decide) oa hh
  have Z14 := vr_fl_of F14
  have D14 := vr_dec_fr F14 (fun _ _ z => by omega) D
  have sd : vr_S L14 (8 + (76800 + f.d)) = vr_S L (8 + (76800 + f.d)) := vr_fr_S F14 (fun z => by unfold vr_th at z; omega)
  refine jv_Wp.lift (fun _ Kz => jv_Ev.c jv_i304 (pc' := 8) (S' := []) (G1 := (jv_H K I14 L14 R)) jv_i276 [.ref 196, .int (1024 : Int32), .int (1027 : Int32)] rfl rfl rfl rfl (jv_cal rfl (jv_H_at (jv_rwK hW 196 12 24 (by decide))) rfl rfl) rfl H14 rfl rfl Kz) ?_
  refine jv_Wp.lift (fun _ Kz => jv_Ev.steps jv_i304 1 (pc' := 9) (l' := [(0, .ref 196), (1, .int (1027 : Int32)), (2, .int (vl_I c)), (3, .int (5 : Int32))]) (st' := [.ref 196]) rfl Kz) ?_
  refine jv_Wp.lift (fun _ Kz => jv_Ev.m jv_i304 (pc' := 12) (st' := [.ref 208]) (G' := (jv_H K I14 L14 R)) rfl rfl (jv_m_getR (jv_rwK hW 196 12 24 (by decide)) rfl rfl (jv_rwR hW 196 16 208 (by decide))) Kz) ?_
  refine jv_Wp.lift (fun _ Kz => jv_Ev.steps jv_i304 3 (pc' := 17) (l' := [(0, .ref 196), (1, .int (1027 : Int32)), (2, .int (vl_I c)), (3, .int (5 : Int32))]) (st' := [.ref 196, .int (1024 : Int32), .int (vl_I c), .ref 208]) rfl Kz) ?_
  refine jv_Wp.lift (fun _ Kz => jv_Ev.m jv_i304 (pc' := 20) (st' := [.int (vl_I f.d), .int (1024 : Int32), .int (vl_I c), .ref 208]) (G' := (jv_H K I14 L14 R)) rfl rfl (jv_m_getI (jv_rwK hW 196 12 24 (by decide)) rfl rfl D14.2.1) Kz) ?_
  refine jv_Wp.lift (fun _ Kz => jv_Ev.c jv_i304 (pc' := 23) (S' := [.int (vl_I (8 + (76800 + f.d))), .int (vl_I c), .ref 208]) jv_i254 [.int (1024 : Int32), .int (vl_I f.d)] rfl rfl rfl rfl rfl rfl (vq_row 1024 f.d) rfl rfl Kz) ?_
  refine jv_Wp.lift (fun _ Kz => jv_Ev.steps jv_i304 1 (pc' := 24) (l' := [(0, .ref 196), (1, .int (1027 : Int32)), (2, .int (vl_I c)), (3, .int (5 : Int32))]) (st' := [.int (5 : Int32), .int (vl_I (8 + (76800 + f.d))), .int (vl_I c), .ref 208]) rfl Kz) ?_
  obtain ⟨I15, L15, H15, P15, F15⟩ := vq_refines (I := I14) (L := L14) (R := R) (n := n) (sl := sl) c (a := 8 + (76800 + f.d)) (b := 5) hc hW (by omega) (by omega) (by omega) (by omega) Z14 (by rw [sd]; exact hx) (by rw [G14]; exact hy)
  rw [sd, G14] at H15 P15
  have Z15 := F15.1
  have D15 := vr_dec_rf F15 D14
  refine jv_Wp.lift (fun _ Kz => jv_Ev.c jv_i304 (pc' := 27) (S' := [.int (vr_b (vb_refine c (vb_toS (vr_S L (8 + (76800 + f.d)))) (vb_toS (vr_S L 5))).isSome)]) (G1 := (jv_H K I15 L15 R)) jv_i251 [.ref 208, .int (vl_I c), .int (vl_I (8 + (76800 + f.d))), .int (5 : Int32)] rfl rfl rfl rfl (jv_cal rfl (jv_H_at (jv_rwK hW 208 11 7 (by decide))) rfl rfl) rfl H15 rfl rfl Kz) ?_
  refine jv_Wp.cnd jv_i304 (pt := 32) (pe := 30) (p := (¬ (vr_b (vb_refine c (vb_toS (vr_S L (8 + (76800 + f.d)))) (vb_toS (vr_S L 5))).isSome) = 0)) (q := (¬ (vr_b (vb_refine c (vb_toS (vr_S L (8 + (76800 + f.d)))) (vb_toS (vr_S L 5))).isSome) = 0)) rfl jv_bi_ne rfl rfl Iff.rfl (fun h1 => ?_) (fun h1 => ?_)
  · refine jv_Wp.lift (fun _ Kz => jv_Ev.steps jv_i304 1 (pc' := 33) (l' := [(0, .ref 196), (1, .int (1027 : Int32)), (2, .int (vl_I c)), (3, .int (5 : Int32))]) (st' := [.ref 196]) rfl Kz) ?_
    refine jv_Wp.lift (fun _ Kz => jv_Ev.m jv_i304 (pc' := 36) (st' := [.ref 208]) (G' := (jv_H K I15 L15 R)) rfl rfl (jv_m_getR (jv_rwK hW 196 12 24 (by decide)) rfl rfl (jv_rwR hW 196 16 208 (by decide))) Kz) ?_
    refine jv_Wp.lift (fun _ Kz => jv_Ev.steps jv_i304 3 (pc' := 39) (l' := [(0, .ref 196), (1, .int (1027 : Int32)), (2, .int (vl_I c)), (3, .int (5 : Int32))]) (st' := [.ref 196, .int (1027 : Int32), .int (0 : Int32), .ref 208]) rfl Kz) ?_
    refine jv_Wp.lift (fun _ Kz => jv_Ev.m jv_i304 (pc' := 42) (st' := [.int (vl_I f.d), .int (1027 : Int32), .int (0 : Int32), .ref 208]) (G' := (jv_H K I15 L15 R)) rfl rfl (jv_m_getI (jv_rwK hW 196 12 24 (by decide)) rfl rfl D15.2.1) Kz) ?_
    refine jv_Wp.lift (fun _ Kz => jv_Ev.c jv_i304 (pc' := 45) (S' := [.int (vl_I (8 + (77025 + f.d))), .int (0 : Int32), .ref 208]) jv_i254 [.int (1027 : Int32), .int (vl_I f.d)] rfl rfl rfl rfl rfl rfl (vq_row 1027 f.d) rfl rfl Kz) ?_
    have sm : (vb_refine c (vb_toS (vr_S L (8 + (76800 + f.d)))) (vb_toS (vr_S L 5))).isSome = true := vr_b_t h1
    obtain ⟨pp, hpp⟩ := Option.isSome_iff_exists.mp sm
    obtain ⟨r0, r1, z0, z1⟩ := P15 pp hpp
    obtain ⟨I16, L16, H16, S16, J16, M16, F16⟩ := vq_copyq (I := I15) (L := L15) (R := R) (n := n) (sl := sl) (a := 0) (d := (8 + (77025 + f.d))) hW (by decide) (by omega) (by omega) Z15 z0
    have Z16 := F16.1
    have D16 := vr_dec_rf F16 D15
    have zq16 : I16 215 1 = 0 := (J16 1 (by omega)).trans z1
    refine jv_Wp.lift (fun _ Kz => jv_Ev.c jv_i304 (pc' := 48) (S' := []) (G1 := (jv_H K I16 L16 R)) jv_i208 [.ref 208, .int (0 : Int32), .int (vl_I (8 + (77025 + f.d)))] rfl rfl rfl rfl (jv_cal rfl (jv_H_at (jv_rwK hW 208 11 7 (by decide))) rfl rfl) rfl H16 rfl rfl Kz) ?_
    refine jv_Wp.lift (fun _ Kz => jv_Ev.steps jv_i304 1 (pc' := 49) (l' := [(0, .ref 196), (1, .int (1027 : Int32)), (2, .int (vl_I c)), (3, .int (5 : Int32))]) (st' := [.ref 196]) rfl Kz) ?_
    refine jv_Wp.lift (fun _ Kz => jv_Ev.c jv_i304 (pc' := 52) (S' := [.int (vr_b f.bit3)]) jv_i259 [.ref 196] rfl rfl rfl rfl (jv_cal rfl (jv_H_at (jv_rwK hW 196 12 24 (by decide))) rfl rfl) rfl (vq_bit3 f hW D16) rfl rfl Kz) ?_
    refine jv_Wp.cnd jv_i304 (pt := 71) (pe := 55) (p := ((vr_b f.bit3) = 0)) (q := ((vr_b f.bit3) = 0)) rfl jv_bi_eq rfl rfl Iff.rfl (fun _ => ?_) (fun hz => absurd (by rw [hb]; rfl) hz)
    refine jv_Wp.lift (fun _ Kz => jv_Ev.steps jv_i304 1 (pc' := 72) (l' := [(0, .ref 196), (1, .int (1027 : Int32)), (2, .int (vl_I c)), (3, .int (5 : Int32))]) (st' := [.int (1 : Int32)]) rfl Kz) ?_
    refine jv_Wp.of (jv_Ev.ret jv_i304 rfl (jv_ret_b (Or.inr rfl))) ?_
    rw [hQ]
    have Fr : vr_fr (vr_th 1027) (fun q f => (q = 202 ∨ q = 203) ∧ f = 1027) I14 L14 I15 L15 := vr_fr_mono (vq_rf_fr (P := noP) (E := noE) F15 (by decide)) (fun _ z => z.elim) (fun _ _ z => z.elim)
    have Ar : vr_A I15 L15 1027 = (vr_A I L 1024) := (vr_fr_A (vq_rf_fr (P := noP) (E := noE) F15 (by decide)) (fun _ _ z => z)).trans E14
    have Or_ : vr_okA I15 1027 := vr_fr_okA (vq_rf_fr (P := noP) (E := noE) F15 (by decide)) (fun _ _ z => z) O14
    have Td : vr_T I15 L15 (75 * 1027 + f.d) = vr_T I L (76800 + f.d) := by rw [← vr_A1 (I := I15) (L := L15) (k := 1027) (by omega), Ar]; exact vr_A1 (by omega)
    have Arow := r0
    have w5A : I15 205 (75 * 1027 + f.d) = 1 := (vr_is (L := L15) 1 (by decide) (Or_ f.d (by omega))).mp (((congrArg vt_T.sort Td).trans s1d).trans rfl)
    have w6A := vr_okv (Or_ f.d (by omega)) (Or.inl w5A)
    have v5A : I16 205 (75 * 1027 + f.d) = 1 := (F16.2.1 205 _ (by decide)).trans w5A
    have v6A : I16 206 (75 * 1027 + f.d) = 0 := (F16.2.1 206 _ (by decide)).trans w6A.1
    have v7A : I16 207 (75 * 1027 + f.d) = -1 := (F16.2.1 207 _ (by decide)).trans w6A.2
    have UA := vr_upA (I := I15) (L := L15) (I1 := I16) (L1 := L16) (k := 1027) (r := f.d) (t := vt_num pp.1) (by omega) ((vr_T_set v5A v6A v7A).trans (by rw [show (8 + (75 * 1027 + f.d)) = 8 + (77025 + f.d) from rfl, S16, Arow, vb_toS_toR]; rfl)) (by unfold vr_ok; rw [v5A, v6A, v7A]; exact Or.inr (Or.inr (Or.inl ⟨Or.inl rfl, rfl, rfl⟩))) (vq_rf_frx (P := fun x => x = 75 * 1027 + f.d) F16 rfl) (fun n hn e q => e (by omega)) Or_
    refine ⟨_, _, by rw [sm]; rfl, fun p z => ?_, ⟨UA.2, fun n hn nd ns => by rw [← vr_A1 (I := I16) (L := L16) (k := 1027) hn, UA.1, Ar]; show (if n = f.d then _ else (vr_A I L 1024).1 n) = _; rw [if_neg nd, vr_A1 hn]⟩, vr_fr_trans F14 (vr_fr_trans Fr (vr_fr_mono (vq_rf_frx (P := fun x => x = 75 * 1027 + f.d) (E := noE) F16 rfl) (fun x z => by unfold vr_th; omega) (fun _ _ z => z.elim))), (vq_rf_S F16 (by decide) (by omega)).trans ((vq_rf_S F15 (by decide) (by decide)).trans G14)⟩
    have ep : pp = p := Option.some.inj (hpp.symm.trans z)
    subst ep
    exact ⟨(UA.1.trans (by rw [Ar]; unfold vx_refd; rw [if_neg (by rw [hb]; decide)])), UA.2, (F16.2.1 202 _ (by decide)).trans ((F15.2.1 202 _ (by decide)).trans hh14)⟩
  · refine jv_Wp.lift (fun _ Kz => jv_Ev.steps jv_i304 1 (pc' := 31) (l' := [(0, .ref 196), (1, .int (1027 : Int32)), (2, .int (vl_I c)), (3, .int (5 : Int32))]) (st' := [.int (0 : Int32)]) rfl Kz) ?_
    refine jv_Wp.of (jv_Ev.ret jv_i304 rfl (jv_ret_b (Or.inl rfl))) ?_
    rw [hQ]
    have sm : (vb_refine c (vb_toS (vr_S L (8 + (76800 + f.d)))) (vb_toS (vr_S L 5))).isSome = false := vr_b_f (Classical.not_not.mp h1)
    have Ar : vr_A I15 L15 1027 = (vr_A I L 1024) := (vr_fr_A (vq_rf_fr (P := noP) (E := noE) F15 (by decide)) (fun _ _ z => z)).trans E14
    have Or_ : vr_okA I15 1027 := vr_fr_okA (vq_rf_fr (P := noP) (E := noE) F15 (by decide)) (fun _ _ z => z) O14
    exact ⟨_, _, by rw [sm]; rfl, fun p z => by rw [z] at sm; exact absurd (show true = false from sm) (by decide), ⟨Or_, fun n hn _ _ => by rw [← vr_A1 (I := I15) (L := L15) (k := 1027) hn, Ar, vr_A1 hn]⟩, vr_fr_trans F14 (vr_fr_mono (vq_rf_fr (P := noP) (E := noE) F15 (by decide)) (fun _ z => z.elim) (fun _ _ z => z.elim)), (vq_rf_S F15 (by decide) (by decide)).trans G14⟩