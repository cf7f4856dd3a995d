/-! part c03: things of the reference: what is put and copied (gen/tc03.py) -/
theorem vr_T_eq {I I1 : Nat → Nat → Int32} {L L1 : Nat → Nat → Int64} {x y : Nat} (h5 : I1 205 y = I 205 x) (h6 : I1 206 y = I 206 x) (h7 : I1 207 y = I 207 x) (h8 : vr_S L1 (8 + y) = vr_S L (8 + x)) : vr_T I1 L1 y = vr_T I L x := by unfold vr_T; rw [h5, h6, h7, h8]
theorem vr_fl_of {P : Nat → Prop} {E : Nat → Nat → Prop} {I I1 : Nat → Nat → Int32} {L L1 : Nat → Nat → Int64} (h : vr_fr P E I L I1 L1) : vr_fl I1 := h.1
theorem vx_anyz8 : vx_anyz 8 = vb_any := by
  have e : vb_cCut vb_any (8 * 8) = vb_any := by decide
  unfold vx_anyz vx_cut
  rw [e]
  exact vb_tt_of vb_any_tight
theorem jv_i273 : jv_I 273 4 none 2 45 jv_c273 := ⟨rfl, rfl, rfl, rfl, rfl⟩
theorem vq_setNumber {K : Nat → Option (Nat × Nat)} {I : Nat → Nat → Int32} {L : Nat → Nat → Int64} {R : Nat → Nat → Value} (k m a : Nat) (hW : jv_rW K R) (hf : vr_fl I) (hx : 75 * k + m < 77100) (ha : 2 ≤ a) (ha2 : a < 77200) {n sl : Nat} : ∃ I1 L1, jv_Ms 273 [.ref 196, .int (vl_I k), .int (vl_I m), .int (vl_I a)] (jv_H K I L R) n sl (none, jv_H K I1 L1 R, n, sl) ∧ vr_T I1 L1 (75 * k + m) = vt_num (vb_toS (vr_S L a)) ∧ vr_ok I1 (75 * k + m) m ∧ vr_fr (fun x => x = 75 * k + m) noE I L I1 L1 := by
  obtain ⟨Q, hQ⟩ : ∃ Q : jv_R → Prop, Q = fun X => ∃ I1 L1, X = (none, jv_H K I1 L1 R, n, sl) ∧ vr_T I1 L1 (75 * k + m) = vt_num (vb_toS (vr_S L a)) ∧ vr_ok I1 (75 * k + m) m ∧ vr_fr (fun x => x = 75 * k + m) noE I L I1 L1 := ⟨_, rfl⟩
  suffices h : jv_Wp 273 0 [(0, .ref 196), (1, .int (vl_I k)), (2, .int (vl_I m)), (3, .int (vl_I a))] [] (jv_H K I L R) n sl Q by
    rw [hQ] at h
    obtain ⟨X, h, I1, L1, e, h'⟩ := h
    subst e
    exact ⟨I1, L1, h, h'⟩
  refine jv_Wp.lift (fun _ Kz => jv_Ev.steps jv_i273 5 (pc' := 5) (l' := [(0, .ref 196), (1, .int (vl_I k)), (2, .int (vl_I m)), (3, .int (vl_I a))]) (st' := [.int (0 : Int32), .int (1 : Int32), .int (vl_I m), .int (vl_I k), .ref 196]) rfl Kz) ?_
  obtain ⟨I1, L1, H1, A1, B1, C1, F1, eL1⟩ := vq_setx (I := I) (L := L) (R := R) (n := n) (sl := sl) k m (1 : Int32) (0 : Int32) hW hf (by omega)
  have Z1 := vr_fl_of F1
  refine jv_Wp.lift (fun _ Kz => jv_Ev.c jv_i273 (pc' := 8) (S' := []) (G1 := (jv_H K I1 L1 R)) jv_i272 [.ref 196, .int (vl_I k), .int (vl_I m), .int (1 : Int32), .int (0 : Int32)] rfl rfl rfl rfl (jv_cal rfl (jv_H_at (jv_rwK hW 196 12 24 (by decide))) rfl rfl) rfl H1 rfl rfl Kz) ?_
  refine jv_Wp.lift (fun _ Kz => jv_Ev.steps jv_i273 1 (pc' := 9) (l' := [(0, .ref 196), (1, .int (vl_I k)), (2, .int (vl_I m)), (3, .int (vl_I a))]) (st' := [.ref 196]) rfl Kz) ?_
  refine jv_Wp.lift (fun _ Kz => jv_Ev.m jv_i273 (pc' := 12) (st' := [.ref 208]) (G' := (jv_H K I1 L1 R)) rfl rfl (jv_m_getR (jv_rwK hW 196 12 24 (by decide)) rfl rfl (jv_rwR hW 196 16 208 (by decide))) Kz) ?_
  refine jv_Wp.lift (fun _ Kz => jv_Ev.steps jv_i273 3 (pc' := 15) (l' := [(0, .ref 196), (1, .int (vl_I k)), (2, .int (vl_I m)), (3, .int (vl_I a))]) (st' := [.int (vl_I m), .int (vl_I k), .int (vl_I a), .ref 208]) rfl Kz) ?_
  refine jv_Wp.lift (fun _ Kz => jv_Ev.c jv_i273 (pc' := 18) (S' := [.int (vl_I (8 + (75 * k + m))), .int (vl_I a), .ref 208]) jv_i254 [.int (vl_I k), .int (vl_I m)] rfl rfl rfl rfl rfl rfl (vq_row k m) rfl rfl Kz) ?_
  obtain ⟨I2, L2, H2, S2, F2⟩ := vq_copy (I := I1) (L := L1) (R := R) (n := n) (sl := sl) (a := a) (d := (8 + (75 * k + m))) hW (by omega) (by omega) Z1 (Z1 _ (by omega))
  have Z2 := F2.1
  refine jv_Wp.lift (fun _ Kz => jv_Ev.c jv_i273 (pc' := 21) (S' := []) (G1 := (jv_H K I2 L2 R)) jv_i208 [.ref 208, .int (vl_I a), .int (vl_I (8 + (75 * k + m)))] rfl rfl rfl rfl (jv_cal rfl (jv_H_at (jv_rwK hW 208 11 7 (by decide))) rfl rfl) rfl H2 rfl rfl Kz) ?_
  refine jv_Wp.of (jv_Ev.ret jv_i273 rfl rfl) ?_
  rw [hQ]
  subst eL1
  have S0 : vr_S L2 (8 + (75 * k + m)) = vr_S L1 a := S2
  have q5 : I2 205 (75 * k + m) = 1 := (F2.2.1 205 _ (by decide)).trans A1
  have q6 : I2 206 (75 * k + m) = 0 := (F2.2.1 206 _ (by decide)).trans B1
  have q7 : I2 207 (75 * k + m) = -1 := (F2.2.1 207 _ (by decide)).trans C1
  refine ⟨_, _, rfl, ?_, ?_, vr_fr_trans F1 (vq_rf_frx F2 rfl)⟩
  · rw [vr_T_set q5 q6 q7, S0]; rfl
  · unfold vr_ok; rw [q5, q6, q7]; exact Or.inr (Or.inr (Or.inl ⟨Or.inl rfl, rfl, rfl⟩))
theorem jv_i274 : jv_I 274 3 none 7 208 jv_c274 := ⟨rfl, rfl, rfl, rfl, rfl⟩
theorem vq_setAny1 {K : Nat → Option (Nat × Nat)} {I : Nat → Nat → Int32} {L : Nat → Nat → Int64} {R : Nat → Nat → Value} (m : Nat) (hW : jv_rW K R) (hf : vr_fl I) (hx : m < 75) {n sl : Nat} : ∃ I1 L1, jv_Ms 274 [.ref 196, .int (vl_I m), .int (1 : Int32)] (jv_H K I L R) n sl (none, jv_H K I1 L1 R, n, sl) ∧ vr_T I1 L1 (76800 + m) = vt_num (vx_anyz 1) ∧ vr_ok I1 (76800 + m) m ∧ vr_fr (fun x => x = 76800 + m) noE I L I1 L1 := by
  obtain ⟨Q, hQ⟩ : ∃ Q : jv_R → Prop, Q = fun X => ∃ I1 L1, X = (none, jv_H K I1 L1 R, n, sl) ∧ vr_T I1 L1 (76800 + m) = vt_num (vx_anyz 1) ∧ vr_ok I1 (76800 + m) m ∧ vr_fr (fun x => x = 76800 + m) noE I L I1 L1 := ⟨_, rfl⟩
  suffices h : jv_Wp 274 0 [(0, .ref 196), (1, .int (vl_I m)), (2, .int (1 : Int32))] [] (jv_H K I L R) n sl Q by
    rw [hQ] at h
    obtain ⟨X, h, I1, L1, e, h'⟩ := h
    subst e
    exact ⟨I1, L1, h, h'⟩
  refine jv_Wp.lift (fun _ Kz => jv_Ev.steps jv_i274 1 (pc' := 1) (l' := [(0, .ref 196), (1, .int (vl_I m)), (2, .int (1 : Int32))]) (st' := [.ref 196]) rfl Kz) ?_
  refine jv_Wp.lift (fun _ Kz => jv_Ev.m jv_i274 (pc' := 4) (st' := [.ref 208]) (G' := (jv_H K I L R)) rfl rfl (jv_m_getR (jv_rwK hW 196 12 24 (by decide)) rfl rfl (jv_rwR hW 196 16 208 (by decide))) Kz) ?_
  refine jv_Wp.lift (fun _ Kz => jv_Ev.steps jv_i274 1 (pc' := 6) (l' := [(0, .ref 196), (1, .int (vl_I m)), (2, .int (1 : Int32))]) (st' := [.int (7 : Int32), .ref 208]) rfl Kz) ?_
  obtain ⟨I3, L3, H3, S3, F3⟩ := vq_nothing (I := I) (L := L) (R := R) (n := n) (sl := sl) (d := 7) hW (by omega) hf
  have Z3 := F3.1
  refine jv_Wp.lift (fun _ Kz => jv_Ev.c jv_i274 (pc' := 9) (S' := []) (G1 := (jv_H K I3 L3 R)) jv_i207 [.ref 208, .int (7 : Int32)] rfl rfl rfl rfl (jv_cal rfl (jv_H_at (jv_rwK hW 208 11 7 (by decide))) rfl rfl) rfl H3 rfl rfl Kz) ?_
  refine jv_Wp.lift (fun _ Kz => jv_Ev.steps jv_i274 2 (pc' := 12) (l' := [(0, .ref 196), (1, .int (vl_I m)), (2, .int (1 : Int32))]) (st' := [.int (8 : Int32), .int (1 : Int32)]) rfl Kz) ?_
  refine jv_Wp.lift (fun _ Kz => jv_Ev.br jv_i274 (pc' := 15) (st' := []) rfl (by rfl) Kz) ?_
  refine jv_Wp.lift (fun _ Kz => jv_Ev.steps jv_i274 1 (pc' := 16) (l' := [(0, .ref 196), (1, .int (vl_I m)), (2, .int (1 : Int32))]) (st' := [.ref 196]) rfl Kz) ?_
  refine jv_Wp.lift (fun _ Kz => jv_Ev.m jv_i274 (pc' := 19) (st' := [.ref 208]) (G' := (jv_H K I3 L3 R)) rfl rfl (jv_m_getR (jv_rwK hW 196 12 24 (by decide)) rfl rfl (jv_rwR hW 196 16 208 (by decide))) Kz) ?_
  refine jv_Wp.lift (fun _ Kz => jv_Ev.steps jv_i274 5 (pc' := 27) (l' := [(0, .ref 196), (1, .int (vl_I m)), (2, .int (1 : Int32))]) (st' := [.int ((8 : Int32) * (1 : Int32)), .int (7 : Int32), .int (7 : Int32), .ref 208]) rfl Kz) ?_
  obtain ⟨I4, L4, H4, S4, F4⟩ := vq_cut (I := I3) (L := L3) (R := R) (n := n) (sl := sl) (a := 7) (d := 7) (m := 8) (by decide) hW (by omega) (by omega) (by omega) (by omega) Z3 (by rw [S3, vb_toS_any]; exact vb_any_tight)
  have Z4 := F4.1
  refine jv_Wp.lift (fun _ Kz => jv_Ev.c jv_i274 (pc' := 30) (S' := []) (G1 := (jv_H K I4 L4 R)) jv_i219 [.ref 208, .int (7 : Int32), .int (7 : Int32), .int ((8 : Int32) * (1 : Int32))] rfl rfl rfl rfl (jv_cal rfl (jv_H_at (jv_rwK hW 208 11 7 (by decide))) rfl rfl) rfl H4 rfl rfl Kz) ?_
  refine jv_Wp.lift (fun _ Kz => jv_Ev.steps jv_i274 4 (pc' := 37) (l' := [(0, .ref 196), (1, .int (vl_I m)), (2, .int (1 : Int32))]) (st' := [.int (7 : Int32), .int (vl_I m), .int (1024 : Int32), .ref 196]) rfl Kz) ?_
  obtain ⟨I5, L5, H5, T5, O5, F5⟩ := vq_setNumber (I := I4) (L := L4) (R := R) (n := n) (sl := sl) 1024 m 7 hW Z4 (by omega) (by omega) (by omega)
  have Z5 := vr_fl_of F5
  refine jv_Wp.lift (fun _ Kz => jv_Ev.c jv_i274 (pc' := 40) (S' := []) (G1 := (jv_H K I5 L5 R)) jv_i273 [.ref 196, .int (1024 : Int32), .int (vl_I m), .int (7 : Int32)] rfl rfl rfl rfl (jv_cal rfl (jv_H_at (jv_rwK hW 196 12 24 (by decide))) rfl rfl) rfl H5 rfl rfl Kz) ?_
  refine jv_Wp.of (jv_Ev.ret jv_i274 rfl rfl) ?_
  rw [hQ]
  refine ⟨_, _, rfl, ?_, O5, vr_fr_trans (vr_fr_trans (vq_rf_fr F3 (by decide)) (vq_rf_fr F4 (by decide))) F5⟩
  rw [T5, S4, vb_toS_toR, S3, vb_toS_any]; rfl
theorem vq_setAny2 {K : Nat → Option (Nat × Nat)} {I : Nat → Nat → Int32} {L : Nat → Nat → Int64} {R : Nat → Nat → Value} (m : Nat) (hW : jv_rW K R) (hf : vr_fl I) (hx : m < 75) {n sl : Nat} : ∃ I1 L1, jv_Ms 274 [.ref 196, .int (vl_I m), .int (2 : Int32)] (jv_H K I L R) n sl (none, jv_H K I1 L1 R, n, sl) ∧ vr_T I1 L1 (76800 + m) = vt_num (vx_anyz 2) ∧ vr_ok I1 (76800 + m) m ∧ vr_fr (fun x => x = 76800 + m) noE I L I1 L1 := by
  obtain ⟨Q, hQ⟩ : ∃ Q : jv_R → Prop, Q = fun X => ∃ I1 L1, X = (none, jv_H K I1 L1 R, n, sl) ∧ vr_T I1 L1 (76800 + m) = vt_num (vx_anyz 2) ∧ vr_ok I1 (76800 + m) m ∧ vr_fr (fun x => x = 76800 + m) noE I L I1 L1 := ⟨_, rfl⟩
  suffices h : jv_Wp 274 0 [(0, .ref 196), (1, .int (vl_I m)), (2, .int (2 : Int32))] [] (jv_H K I L R) n sl Q by
    rw [hQ] at h
    obtain ⟨X, h, I1, L1, e, h'⟩ := h
    subst e
    exact ⟨I1, L1, h, h'⟩
  refine jv_Wp.lift (fun _ Kz => jv_Ev.steps jv_i274 1 (pc' := 1) (l' := [(0, .ref 196), (1, .int (vl_I m)), (2, .int (2 : Int32))]) (st' := [.ref 196]) rfl Kz) ?_
  refine jv_Wp.lift (fun _ Kz => jv_Ev.m jv_i274 (pc' := 4) (st' := [.ref 208]) (G' := (jv_H K I L R)) rfl rfl (jv_m_getR (jv_rwK hW 196 12 24 (by decide)) rfl rfl (jv_rwR hW 196 16 208 (by decide))) Kz) ?_
  refine jv_Wp.lift (fun _ Kz => jv_Ev.steps jv_i274 1 (pc' := 6) (l' := [(0, .ref 196), (1, .int (vl_I m)), (2, .int (2 : Int32))]) (st' := [.int (7 : Int32), .ref 208]) rfl Kz) ?_
  obtain ⟨I6, L6, H6, S6, F6⟩ := vq_nothing (I := I) (L := L) (R := R) (n := n) (sl := sl) (d := 7) hW (by omega) hf
  have Z6 := F6.1
  refine jv_Wp.lift (fun _ Kz => jv_Ev.c jv_i274 (pc' := 9) (S' := []) (G1 := (jv_H K I6 L6 R)) jv_i207 [.ref 208, .int (7 : Int32)] rfl rfl rfl rfl (jv_cal rfl (jv_H_at (jv_rwK hW 208 11 7 (by decide))) rfl rfl) rfl H6 rfl rfl Kz) ?_
  refine jv_Wp.lift (fun _ Kz => jv_Ev.steps jv_i274 2 (pc' := 12) (l' := [(0, .ref 196), (1, .int (vl_I m)), (2, .int (2 : Int32))]) (st' := [.int (8 : Int32), .int (2 : Int32)]) rfl Kz) ?_
  refine jv_Wp.lift (fun _ Kz => jv_Ev.br jv_i274 (pc' := 15) (st' := []) rfl (by rfl) Kz) ?_
  refine jv_Wp.lift (fun _ Kz => jv_Ev.steps jv_i274 1 (pc' := 16) (l' := [(0, .ref 196), (1, .int (vl_I m)), (2, .int (2 : Int32))]) (st' := [.ref 196]) rfl Kz) ?_
  refine jv_Wp.lift (fun _ Kz => jv_Ev.m jv_i274 (pc' := 19) (st' := [.ref 208]) (G' := (jv_H K I6 L6 R)) rfl rfl (jv_m_getR (jv_rwK hW 196 12 24 (by decide)) rfl rfl (jv_rwR hW 196 16 208 (by decide))) Kz) ?_
  refine jv_Wp.lift (fun _ Kz => jv_Ev.steps jv_i274 5 (pc' := 27) (l' := [(0, .ref 196), (1, .int (vl_I m)), (2, .int (2 : Int32))]) (st' := [.int ((8 : Int32) * (2 : Int32)), .int (7 : Int32), .int (7 : Int32), .ref 208]) rfl Kz) ?_
  obtain ⟨I7, L7, H7, S7, F7⟩ := vq_cut (I := I6) (L := L6) (R := R) (n := n) (sl := sl) (a := 7) (d := 7) (m := 16) (by decide) hW (by omega) (by omega) (by omega) (by omega) Z6 (by rw [S6, vb_toS_any]; exact vb_any_tight)
  have Z7 := F7.1
  refine jv_Wp.lift (fun _ Kz => jv_Ev.c jv_i274 (pc' := 30) (S' := []) (G1 := (jv_H K I7 L7 R)) jv_i219 [.ref 208, .int (7 : Int32), .int (7 : Int32), .int ((8 : Int32) * (2 : Int32))] rfl rfl rfl rfl (jv_cal rfl (jv_H_at (jv_rwK hW 208 11 7 (by decide))) rfl rfl) rfl H7 rfl rfl Kz) ?_
  refine jv_Wp.lift (fun _ Kz => jv_Ev.steps jv_i274 4 (pc' := 37) (l' := [(0, .ref 196), (1, .int (vl_I m)), (2, .int (2 : Int32))]) (st' := [.int (7 : Int32), .int (vl_I m), .int (1024 : Int32), .ref 196]) rfl Kz) ?_
  obtain ⟨I8, L8, H8, T8, O8, F8⟩ := vq_setNumber (I := I7) (L := L7) (R := R) (n := n) (sl := sl) 1024 m 7 hW Z7 (by omega) (by omega) (by omega)
  have Z8 := vr_fl_of F8
  refine jv_Wp.lift (fun _ Kz => jv_Ev.c jv_i274 (pc' := 40) (S' := []) (G1 := (jv_H K I8 L8 R)) jv_i273 [.ref 196, .int (1024 : Int32), .int (vl_I m), .int (7 : Int32)] rfl rfl rfl rfl (jv_cal rfl (jv_H_at (jv_rwK hW 196 12 24 (by decide))) rfl rfl) rfl H8 rfl rfl Kz) ?_
  refine jv_Wp.of (jv_Ev.ret jv_i274 rfl rfl) ?_
  rw [hQ]
  refine ⟨_, _, rfl, ?_, O8, vr_fr_trans (vr_fr_trans (vq_rf_fr F6 (by decide)) (vq_rf_fr F7 (by decide))) F8⟩
  rw [T8, S7, vb_toS_toR, S6, vb_toS_any]; rfl
theorem vq_setAny4 {K : Nat → Option (Nat × Nat)} {I : Nat → Nat → Int32} {L : Nat → Nat → Int64} {R : Nat → Nat → Value} (m : Nat) (hW : jv_rW K R) (hf : vr_fl I) (hx : m < 75) {n sl : Nat} : ∃ I1 L1, jv_Ms 274 [.ref 196, .int (vl_I m), .int (4 : Int32)] (jv_H K I L R) n sl (none, jv_H K I1 L1 R, n, sl) ∧ vr_T I1 L1 (76800 + m) = vt_num (vx_anyz 4) ∧ vr_ok I1 (76800 + m) m ∧ vr_fr (fun x => x = 76800 + m) noE I L I1 L1 := by
  obtain ⟨Q, hQ⟩ : ∃ Q : jv_R → Prop, Q = fun X => ∃ I1 L1, X = (none, jv_H K I1 L1 R, n, sl) ∧ vr_T I1 L1 (76800 + m) = vt_num (vx_anyz 4) ∧ vr_ok I1 (76800 + m) m ∧ vr_fr (fun x => x = 76800 + m) noE I L I1 L1 := ⟨_, rfl⟩
  suffices h : jv_Wp 274 0 [(0, .ref 196), (1, .int (vl_I m)), (2, .int (4 : Int32))] [] (jv_H K I L R) n sl Q by
    rw [hQ] at h
    obtain ⟨X, h, I1, L1, e, h'⟩ := h
    subst e
    exact ⟨I1, L1, h, h'⟩
  refine jv_Wp.lift (fun _ Kz => jv_Ev.steps jv_i274 1 (pc' := 1) (l' := [(0, .ref 196), (1, .int (vl_I m)), (2, .int (4 : Int32))]) (st' := [.ref 196]) rfl Kz) ?_
  refine jv_Wp.lift (fun _ Kz => jv_Ev.m jv_i274 (pc' := 4) (st' := [.ref 208]) (G' := (jv_H K I L R)) rfl rfl (jv_m_getR (jv_rwK hW 196 12 24 (by decide)) rfl rfl (jv_rwR hW 196 16 208 (by decide))) Kz) ?_
  refine jv_Wp.lift (fun _ Kz => jv_Ev.steps jv_i274 1 (pc' := 6) (l' := [(0, .ref 196), (1, .int (vl_I m)), (2, .int (4 : Int32))]) (st' := [.int (7 : Int32), .ref 208]) rfl Kz) ?_
  obtain ⟨I9, L9, H9, S9, F9⟩ := vq_nothing (I := I) (L := L) (R := R) (n := n) (sl := sl) (d := 7) hW (by omega) hf
  have Z9 := F9.1
  refine jv_Wp.lift (fun _ Kz => jv_Ev.c jv_i274 (pc' := 9) (S' := []) (G1 := (jv_H K I9 L9 R)) jv_i207 [.ref 208, .int (7 : Int32)] rfl rfl rfl rfl (jv_cal rfl (jv_H_at (jv_rwK hW 208 11 7 (by decide))) rfl rfl) rfl H9 rfl rfl Kz) ?_
  refine jv_Wp.lift (fun _ Kz => jv_Ev.steps jv_i274 2 (pc' := 12) (l' := [(0, .ref 196), (1, .int (vl_I m)), (2, .int (4 : Int32))]) (st' := [.int (8 : Int32), .int (4 : Int32)]) rfl Kz) ?_
  refine jv_Wp.lift (fun _ Kz => jv_Ev.br jv_i274 (pc' := 15) (st' := []) rfl (by rfl) Kz) ?_
  refine jv_Wp.lift (fun _ Kz => jv_Ev.steps jv_i274 1 (pc' := 16) (l' := [(0, .ref 196), (1, .int (vl_I m)), (2, .int (4 : Int32))]) (st' := [.ref 196]) rfl Kz) ?_
  refine jv_Wp.lift (fun _ Kz => jv_Ev.m jv_i274 (pc' := 19) (st' := [.ref 208]) (G' := (jv_H K I9 L9 R)) rfl rfl (jv_m_getR (jv_rwK hW 196 12 24 (by decide)) rfl rfl (jv_rwR hW 196 16 208 (by decide))) Kz) ?_
  refine jv_Wp.lift (fun _ Kz => jv_Ev.steps jv_i274 5 (pc' := 27) (l' := [(0, .ref 196), (1, .int (vl_I m)), (2, .int (4 : Int32))]) (st' := [.int ((8 : Int32) * (4 : Int32)), .int (7 : Int32), .int (7 : Int32), .ref 208]) rfl Kz) ?_
  obtain ⟨I10, L10, H10, S10, F10⟩ := vq_cut (I := I9) (L := L9) (R := R) (n := n) (sl := sl) (a := 7) (d := 7) (m := 32) (by decide) hW (by omega) (by omega) (by omega) (by omega) Z9 (by rw [S9, vb_toS_any]; exact vb_any_tight)
  have Z10 := F10.1
  refine jv_Wp.lift (fun _ Kz => jv_Ev.c jv_i274 (pc' := 30) (S' := []) (G1 := (jv_H K I10 L10 R)) jv_i219 [.ref 208, .int (7 : Int32), .int (7 : Int32), .int ((8 : Int32) * (4 : Int32))] rfl rfl rfl rfl (jv_cal rfl (jv_H_at (jv_rwK hW 208 11 7 (by decide))) rfl rfl) rfl H10 rfl rfl Kz) ?_
  refine jv_Wp.lift (fun _ Kz => jv_Ev.steps jv_i274 4 (pc' := 37) (l' := [(0, .ref 196), (1, .int (vl_I m)), (2, .int (4 : Int32))]) (st' := [.int (7 : Int32), .int (vl_I m), .int (1024 : Int32), .ref 196]) rfl Kz) ?_
  obtain ⟨I11, L11, H11, T11, O11, F11⟩ := vq_setNumber (I := I10) (L := L10) (R := R) (n := n) (sl := sl) 1024 m 7 hW Z10 (by omega) (by omega) (by omega)
  have Z11 := vr_fl_of F11
  refine jv_Wp.lift (fun _ Kz => jv_Ev.c jv_i274 (pc' := 40) (S' := []) (G1 := (jv_H K I11 L11 R)) jv_i273 [.ref 196, .int (1024 : Int32), .int (vl_I m), .int (7 : Int32)] rfl rfl rfl rfl (jv_cal rfl (jv_H_at (jv_rwK hW 196 12 24 (by decide))) rfl rfl) rfl H11 rfl rfl Kz) ?_
  refine jv_Wp.of (jv_Ev.ret jv_i274 rfl rfl) ?_
  rw [hQ]
  refine ⟨_, _, rfl, ?_, O11, vr_fr_trans (vr_fr_trans (vq_rf_fr F9 (by decide)) (vq_rf_fr F10 (by decide))) F11⟩
  rw [T11, S10, vb_toS_toR, S9, vb_toS_any]; rfl
theorem vq_setAny8 {K : Nat → Option (Nat × Nat)} {I : Nat → Nat → Int32} {L : Nat → Nat → Int64} {R : Nat → Nat → Value} (m : Nat) (hW : jv_rW K R) (hf : vr_fl I) (hx : m < 75) {n sl : Nat} : ∃ I1 L1, jv_Ms 274 [.ref 196, .int (vl_I m), .int (8 : Int32)] (jv_H K I L R) n sl (none, jv_H K I1 L1 R, n, sl) ∧ vr_T I1 L1 (76800 + m) = vt_num (vx_anyz 8) ∧ vr_ok I1 (76800 + m) m ∧ vr_fr (fun x => x = 76800 + m) noE I L I1 L1 := by
  obtain ⟨Q, hQ⟩ : ∃ Q : jv_R → Prop, Q = fun X => ∃ I1 L1, X = (none, jv_H K I1 L1 R, n, sl) ∧ vr_T I1 L1 (76800 + m) = vt_num (vx_anyz 8) ∧ vr_ok I1 (76800 + m) m ∧ vr_fr (fun x => x = 76800 + m) noE I L I1 L1 := ⟨_, rfl⟩
  suffices h : jv_Wp 274 0 [(0, .ref 196), (1, .int (vl_I m)), (2, .int (8 : Int32))] [] (jv_H K I L R) n sl Q by
    rw [hQ] at h
    obtain ⟨X, h, I1, L1, e, h'⟩ := h
    subst e
    exact ⟨I1, L1, h, h'⟩
  refine jv_Wp.lift (fun _ Kz => jv_Ev.steps jv_i274 1 (pc' := 1) (l' := [(0, .ref 196), (1, .int (vl_I m)), (2, .int (8 : Int32))]) (st' := [.ref 196]) rfl Kz) ?_
  refine jv_Wp.lift (fun _ Kz => jv_Ev.m jv_i274 (pc' := 4) (st' := [.ref 208]) (G' := (jv_H K I L R)) rfl rfl (jv_m_getR (jv_rwK hW 196 12 24 (by decide)) rfl rfl (jv_rwR hW 196 16 208 (by decide))) Kz) ?_
  refine jv_Wp.lift (fun _ Kz => jv_Ev.steps jv_i274 1 (pc' := 6) (l' := [(0, .ref 196), (1, .int (vl_I m)), (2, .int (8 : Int32))]) (st' := [.int (7 : Int32), .ref 208]) rfl Kz) ?_
  obtain ⟨I12, L12, H12, S12, F12⟩ := vq_nothing (I := I) (L := L) (R := R) (n := n) (sl := sl) (d := 7) hW (by omega) hf
  have Z12 := F12.1
  refine jv_Wp.lift (fun _ Kz => jv_Ev.c jv_i274 (pc' := 9) (S' := []) (G1 := (jv_H K I12 L12 R)) jv_i207 [.ref 208, .int (7 : Int32)] rfl rfl rfl rfl (jv_cal rfl (jv_H_at (jv_rwK hW 208 11 7 (by decide))) rfl rfl) rfl H12 rfl rfl Kz) ?_
  refine jv_Wp.lift (fun _ Kz => jv_Ev.steps jv_i274 2 (pc' := 12) (l' := [(0, .ref 196), (1, .int (vl_I m)), (2, .int (8 : Int32))]) (st' := [.int (8 : Int32), .int (8 : Int32)]) rfl Kz) ?_
  refine jv_Wp.lift (fun _ Kz => jv_Ev.br jv_i274 (pc' := 30) (st' := []) rfl (by rfl) Kz) ?_
  refine jv_Wp.lift (fun _ Kz => jv_Ev.steps jv_i274 4 (pc' := 37) (l' := [(0, .ref 196), (1, .int (vl_I m)), (2, .int (8 : Int32))]) (st' := [.int (7 : Int32), .int (vl_I m), .int (1024 : Int32), .ref 196]) rfl Kz) ?_
  obtain ⟨I13, L13, H13, T13, O13, F13⟩ := vq_setNumber (I := I12) (L := L12) (R := R) (n := n) (sl := sl) 1024 m 7 hW Z12 (by omega) (by omega) (by omega)
  have Z13 := vr_fl_of F13
  refine jv_Wp.lift (fun _ Kz => jv_Ev.c jv_i274 (pc' := 40) (S' := []) (G1 := (jv_H K I13 L13 R)) jv_i273 [.ref 196, .int (1024 : Int32), .int (vl_I m), .int (7 : Int32)] rfl rfl rfl rfl (jv_cal rfl (jv_H_at (jv_rwK hW 196 12 24 (by decide))) rfl rfl) rfl H13 rfl rfl Kz) ?_
  refine jv_Wp.of (jv_Ev.ret jv_i274 rfl rfl) ?_
  rw [hQ]
  refine ⟨_, _, rfl, ?_, O13, vr_fr_trans (vq_rf_fr F12 (by decide)) F13⟩
  rw [vx_anyz8, T13, S12, vb_toS_any]
theorem vq_setAny {K : Nat → Option (Nat × Nat)} {I : Nat → Nat → Int32} {L : Nat → Nat → Int64} {R : Nat → Nat → Value} (m z : Nat) (hW : jv_rW K R) (hf : vr_fl I) (hx : m < 75) (hz : z = 1 ∨ z = 2 ∨ z = 4 ∨ z = 8) {n sl : Nat} : ∃ I1 L1, jv_Ms 274 [.ref 196, .int (vl_I m), .int (vl_I z)] (jv_H K I L R) n sl (none, jv_H K I1 L1 R, n, sl) ∧ vr_T I1 L1 (76800 + m) = vt_num (vx_anyz z) ∧ vr_ok I1 (76800 + m) m ∧ vr_fr (fun x => x = 76800 + m) noE I L I1 L1 := by
  rcases hz with h | h | h | h <;> subst h
  · exact vq_setAny1 m hW hf hx
  · exact vq_setAny2 m hW hf hx
  · exact vq_setAny4 m hW hf hx
  · exact vq_setAny8 m hW hf hx
theorem jv_i275 : jv_I 275 5 none 1 22 jv_c275 := ⟨rfl, rfl, rfl, rfl, rfl⟩
theorem vq_copyThing {K : Nat → Option (Nat × Nat)} {I : Nat → Nat → Int32} {L : Nat → Nat → Int64} {R : Nat → Nat → Value} (k a j b : Nat) (hW : jv_rW K R) (hf : vr_fl I) (hx : 75 * k + a < 77100) (hy : 75 * j + b < 77100) {n sl : Nat} : ∃ I1 L1, jv_Ms 275 [.ref 196, .int (vl_I k), .int (vl_I a), .int (vl_I j), .int (vl_I b)] (jv_H K I L R) n sl (none, jv_H K I1 L1 R, n, sl) ∧ I1 205 (75 * j + b) = I 205 (75 * k + a) ∧ I1 206 (75 * j + b) = I 206 (75 * k + a) ∧ I1 207 (75 * j + b) = I 207 (75 * k + a) ∧ vr_S L1 (8 + (75 * j + b)) = vr_S L (8 + (75 * k + a)) ∧ vr_fr (fun z => z = 75 * j + b) noE I L I1 L1 := by
  obtain ⟨Q, hQ⟩ : ∃ Q : jv_R → Prop, Q = fun X => ∃ I1 L1, X = (none, jv_H K I1 L1 R, n, sl) ∧ I1 205 (75 * j + b) = I 205 (75 * k + a) ∧ I1 206 (75 * j + b) = I 206 (75 * k + a) ∧ I1 207 (75 * j + b) = I 207 (75 * k + a) ∧ vr_S L1 (8 + (75 * j + b)) = vr_S L (8 + (75 * k + a)) ∧ vr_fr (fun z => z = 75 * j + b) noE I L I1 L1 := ⟨_, rfl⟩
  suffices h : jv_Wp 275 0 [(0, .ref 196), (1, .int (vl_I k)), (2, .int (vl_I a)), (3, .int (vl_I j)), (4, .int (vl_I b))] [] (jv_H K I L R) n sl Q by
    rw [hQ] at h
    obtain ⟨X, h, I1, L1, e, h'⟩ := h
    subst e
    exact ⟨I1, L1, h, h'⟩
  refine jv_Wp.lift (fun _ Kz => jv_Ev.steps jv_i275 1 (pc' := 1) (l' := [(0, .ref 196), (1, .int (vl_I k)), (2, .int (vl_I a)), (3, .int (vl_I j)), (4, .int (vl_I b))]) (st' := [.ref 196]) rfl Kz) ?_
  refine jv_Wp.lift (fun _ Kz => jv_Ev.m jv_i275 (pc' := 4) (st' := [.ref 205]) (G' := (jv_H K I L R)) rfl rfl (jv_m_getR (jv_rwK hW 196 12 24 (by decide)) rfl rfl (jv_rwR hW 196 13 205 (by decide))) Kz) ?_
  refine jv_Wp.lift (fun _ Kz => jv_Ev.steps jv_i275 2 (pc' := 7) (l' := [(0, .ref 196), (1, .int (vl_I k)), (2, .int (vl_I a)), (3, .int (vl_I j)), (4, .int (vl_I b))]) (st' := [.int (vl_I b), .int (vl_I j), .ref 205]) rfl Kz) ?_
  refine jv_Wp.lift (fun _ Kz => jv_Ev.c jv_i275 (pc' := 10) (S' := [.int (vl_I (75 * j + b)), .ref 205]) jv_i253 [.int (vl_I j), .int (vl_I b)] rfl rfl rfl rfl rfl rfl (vq_thing j b) rfl rfl Kz) ?_
  refine jv_Wp.lift (fun _ Kz => jv_Ev.steps jv_i275 1 (pc' := 11) (l' := [(0, .ref 196), (1, .int (vl_I k)), (2, .int (vl_I a)), (3, .int (vl_I j)), (4, .int (vl_I b))]) (st' := [.ref 196, .int (vl_I (75 * j + b)), .ref 205]) rfl Kz) ?_
  refine jv_Wp.lift (fun _ Kz => jv_Ev.m jv_i275 (pc' := 14) (st' := [.ref 205, .int (vl_I (75 * j + b)), .ref 205]) (G' := (jv_H K I L R)) rfl rfl (jv_m_getR (jv_rwK hW 196 12 24 (by decide)) rfl rfl (jv_rwR hW 196 13 205 (by decide))) Kz) ?_
  refine jv_Wp.lift (fun _ Kz => jv_Ev.steps jv_i275 2 (pc' := 16) (l' := [(0, .ref 196), (1, .int (vl_I k)), (2, .int (vl_I a)), (3, .int (vl_I j)), (4, .int (vl_I b))]) (st' := [.int (vl_I a), .int (vl_I k), .ref 205, .int (vl_I (75 * j + b)), .ref 205]) rfl Kz) ?_
  refine jv_Wp.lift (fun _ Kz => jv_Ev.c jv_i275 (pc' := 19) (S' := [.int (vl_I (75 * k + a)), .ref 205, .int (vl_I (75 * j + b)), .ref 205]) jv_i253 [.int (vl_I k), .int (vl_I a)] rfl rfl rfl rfl rfl rfl (vq_thing k a) rfl rfl Kz) ?_
  refine jv_Wp.lift (fun _ Kz => jv_Ev.m jv_i275 (pc' := 20) (st' := [.int (I 205 (75 * k + a)), .int (vl_I (75 * j + b)), .ref 205]) (G' := (jv_H K I L R)) rfl rfl (jv_m_ialdv (jv_rwK hW 205 102 77100 (by decide)) rfl (vl_I_ix (by omega) (by decide)) rfl ((congrArg (I 205) (vl_I_nat (by omega))).trans rfl)) Kz) ?_
  refine jv_Wp.lift (fun _ Kz => jv_Ev.m jv_i275 (pc' := 21) (st' := []) (G' := (jv_H K (jv_u I 205 (75 * j + b) (I 205 (75 * k + a))) L R)) rfl rfl (by rw [jv_m_iast (jv_rwK hW 205 102 77100 (by decide)) (vl_I_ix (by omega) (by decide)), (vl_I_nat (by omega))]) Kz) ?_
  refine jv_Wp.lift (fun _ Kz => jv_Ev.steps jv_i275 1 (pc' := 22) (l' := [(0, .ref 196), (1, .int (vl_I k)), (2, .int (vl_I a)), (3, .int (vl_I j)), (4, .int (vl_I b))]) (st' := [.ref 196]) rfl Kz) ?_
  refine jv_Wp.lift (fun _ Kz => jv_Ev.m jv_i275 (pc' := 25) (st' := [.ref 206]) (G' := (jv_H K (jv_u I 205 (75 * j + b) (I 205 (75 * k + a))) L R)) rfl rfl (jv_m_getR (jv_rwK hW 196 12 24 (by decide)) rfl rfl (jv_rwR hW 196 14 206 (by decide))) Kz) ?_
  refine jv_Wp.lift (fun _ Kz => jv_Ev.steps jv_i275 2 (pc' := 28) (l' := [(0, .ref 196), (1, .int (vl_I k)), (2, .int (vl_I a)), (3, .int (vl_I j)), (4, .int (vl_I b))]) (st' := [.int (vl_I b), .int (vl_I j), .ref 206]) rfl Kz) ?_
  refine jv_Wp.lift (fun _ Kz => jv_Ev.c jv_i275 (pc' := 31) (S' := [.int (vl_I (75 * j + b)), .ref 206]) jv_i253 [.int (vl_I j), .int (vl_I b)] rfl rfl rfl rfl rfl rfl (vq_thing j b) rfl rfl Kz) ?_
  refine jv_Wp.lift (fun _ Kz => jv_Ev.steps jv_i275 1 (pc' := 32) (l' := [(0, .ref 196), (1, .int (vl_I k)), (2, .int (vl_I a)), (3, .int (vl_I j)), (4, .int (vl_I b))]) (st' := [.ref 196, .int (vl_I (75 * j + b)), .ref 206]) rfl Kz) ?_
  refine jv_Wp.lift (fun _ Kz => jv_Ev.m jv_i275 (pc' := 35) (st' := [.ref 206, .int (vl_I (75 * j + b)), .ref 206]) (G' := (jv_H K (jv_u I 205 (75 * j + b) (I 205 (75 * k + a))) L R)) rfl rfl (jv_m_getR (jv_rwK hW 196 12 24 (by decide)) rfl rfl (jv_rwR hW 196 14 206 (by decide))) Kz) ?_
  refine jv_Wp.lift (fun _ Kz => jv_Ev.steps jv_i275 2 (pc' := 37) (l' := [(0, .ref 196), (1, .int (vl_I k)), (2, .int (vl_I a)), (3, .int (vl_I j)), (4, .int (vl_I b))]) (st' := [.int (vl_I a), .int (vl_I k), .ref 206, .int (vl_I (75 * j + b)), .ref 206]) rfl Kz) ?_
  refine jv_Wp.lift (fun _ Kz => jv_Ev.c jv_i275 (pc' := 40) (S' := [.int (vl_I (75 * k + a)), .ref 206, .int (vl_I (75 * j + b)), .ref 206]) jv_i253 [.int (vl_I k), .int (vl_I a)] rfl rfl rfl rfl rfl rfl (vq_thing k a) rfl rfl Kz) ?_
  refine jv_Wp.lift (fun _ Kz => jv_Ev.m jv_i275 (pc' := 41) (st' := [.int (I 206 (75 * k + a)), .int (vl_I (75 * j + b)), .ref 206]) (G' := (jv_H K (jv_u I 205 (75 * j + b) (I 205 (75 * k + a))) L R)) rfl rfl (jv_m_ialdv (jv_rwK hW 206 102 77100 (by decide)) rfl (vl_I_ix (by omega) (by decide)) rfl ((congrArg ((jv_u I 205 (75 * j + b) (I 205 (75 * k + a))) 206) (vl_I_nat (by omega))).trans (jv_u_o _ _ _ _ (by decide)))) Kz) ?_
  refine jv_Wp.lift (fun _ Kz => jv_Ev.m jv_i275 (pc' := 42) (st' := []) (G' := (jv_H K (jv_u (jv_u I 205 (75 * j + b) (I 205 (75 * k + a))) 206 (75 * j + b) (I 206 (75 * k + a))) L R)) rfl rfl (by rw [jv_m_iast (jv_rwK hW 206 102 77100 (by decide)) (vl_I_ix (by omega) (by decide)), (vl_I_nat (by omega))]) Kz) ?_
  refine jv_Wp.lift (fun _ Kz => jv_Ev.steps jv_i275 1 (pc' := 43) (l' := [(0, .ref 196), (1, .int (vl_I k)), (2, .int (vl_I a)), (3, .int (vl_I j)), (4, .int (vl_I b))]) (st' := [.ref 196]) rfl Kz) ?_
  refine jv_Wp.lift (fun _ Kz => jv_Ev.m jv_i275 (pc' := 46) (st' := [.ref 207]) (G' := (jv_H K (jv_u (jv_u I 205 (75 * j + b) (I 205 (75 * k + a))) 206 (75 * j + b) (I 206 (75 * k + a))) L R)) rfl rfl (jv_m_getR (jv_rwK hW 196 12 24 (by decide)) rfl rfl (jv_rwR hW 196 15 207 (by decide))) Kz) ?_
  refine jv_Wp.lift (fun _ Kz => jv_Ev.steps jv_i275 2 (pc' := 49) (l' := [(0, .ref 196), (1, .int (vl_I k)), (2, .int (vl_I a)), (3, .int (vl_I j)), (4, .int (vl_I b))]) (st' := [.int (vl_I b), .int (vl_I j), .ref 207]) rfl Kz) ?_
  refine jv_Wp.lift (fun _ Kz => jv_Ev.c jv_i275 (pc' := 52) (S' := [.int (vl_I (75 * j + b)), .ref 207]) jv_i253 [.int (vl_I j), .int (vl_I b)] rfl rfl rfl rfl rfl rfl (vq_thing j b) rfl rfl Kz) ?_
  refine jv_Wp.lift (fun _ Kz => jv_Ev.steps jv_i275 1 (pc' := 53) (l' := [(0, .ref 196), (1, .int (vl_I k)), (2, .int (vl_I a)), (3, .int (vl_I j)), (4, .int (vl_I b))]) (st' := [.ref 196, .int (vl_I (75 * j + b)), .ref 207]) rfl Kz) ?_
  refine jv_Wp.lift (fun _ Kz => jv_Ev.m jv_i275 (pc' := 56) (st' := [.ref 207, .int (vl_I (75 * j + b)), .ref 207]) (G' := (jv_H K (jv_u (jv_u I 205 (75 * j + b) (I 205 (75 * k + a))) 206 (75 * j + b) (I 206 (75 * k + a))) L R)) rfl rfl (jv_m_getR (jv_rwK hW 196 12 24 (by decide)) rfl rfl (jv_rwR hW 196 15 207 (by decide))) Kz) ?_
  refine jv_Wp.lift (fun _ Kz => jv_Ev.steps jv_i275 2 (pc' := 58) (l' := [(0, .ref 196), (1, .int (vl_I k)), (2, .int (vl_I a)), (3, .int (vl_I j)), (4, .int (vl_I b))]) (st' := [.int (vl_I a), .int (vl_I k), .ref 207, .int (vl_I (75 * j + b)), .ref 207]) rfl Kz) ?_
  refine jv_Wp.lift (fun _ Kz => jv_Ev.c jv_i275 (pc' := 61) (S' := [.int (vl_I (75 * k + a)), .ref 207, .int (vl_I (75 * j + b)), .ref 207]) jv_i253 [.int (vl_I k), .int (vl_I a)] rfl rfl rfl rfl rfl rfl (vq_thing k a) rfl rfl Kz) ?_
  refine jv_Wp.lift (fun _ Kz => jv_Ev.m jv_i275 (pc' := 62) (st' := [.int (I 207 (75 * k + a)), .int (vl_I (75 * j + b)), .ref 207]) (G' := (jv_H K (jv_u (jv_u I 205 (75 * j + b) (I 205 (75 * k + a))) 206 (75 * j + b) (I 206 (75 * k + a))) L R)) rfl rfl (jv_m_ialdv (jv_rwK hW 207 102 77100 (by decide)) rfl (vl_I_ix (by omega) (by decide)) rfl ((congrArg ((jv_u (jv_u I 205 (75 * j + b) (I 205 (75 * k + a))) 206 (75 * j + b) (I 206 (75 * k + a))) 207) (vl_I_nat (by omega))).trans ((jv_u_o _ _ _ _ (by decide)).trans (jv_u_o _ _ _ _ (by decide))))) Kz) ?_
  refine jv_Wp.lift (fun _ Kz => jv_Ev.m jv_i275 (pc' := 63) (st' := []) (G' := (jv_H K (jv_u (jv_u (jv_u I 205 (75 * j + b) (I 205 (75 * k + a))) 206 (75 * j + b) (I 206 (75 * k + a))) 207 (75 * j + b) (I 207 (75 * k + a))) L R)) rfl rfl (by rw [jv_m_iast (jv_rwK hW 207 102 77100 (by decide)) (vl_I_ix (by omega) (by decide)), (vl_I_nat (by omega))]) Kz) ?_
  refine jv_Wp.lift (fun _ Kz => jv_Ev.steps jv_i275 1 (pc' := 64) (l' := [(0, .ref 196), (1, .int (vl_I k)), (2, .int (vl_I a)), (3, .int (vl_I j)), (4, .int (vl_I b))]) (st' := [.ref 196]) rfl Kz) ?_
  refine jv_Wp.lift (fun _ Kz => jv_Ev.m jv_i275 (pc' := 67) (st' := [.ref 208]) (G' := (jv_H K (jv_u (jv_u (jv_u I 205 (75 * j + b) (I 205 (75 * k + a))) 206 (75 * j + b) (I 206 (75 * k + a))) 207 (75 * j + b) (I 207 (75 * k + a))) L R)) rfl rfl (jv_m_getR (jv_rwK hW 196 12 24 (by decide)) rfl rfl (jv_rwR hW 196 16 208 (by decide))) Kz) ?_
  refine jv_Wp.lift (fun _ Kz => jv_Ev.steps jv_i275 2 (pc' := 69) (l' := [(0, .ref 196), (1, .int (vl_I k)), (2, .int (vl_I a)), (3, .int (vl_I j)), (4, .int (vl_I b))]) (st' := [.int (vl_I a), .int (vl_I k), .ref 208]) rfl Kz) ?_
  refine jv_Wp.lift (fun _ Kz => jv_Ev.c jv_i275 (pc' := 72) (S' := [.int (vl_I (8 + (75 * k + a))), .ref 208]) jv_i254 [.int (vl_I k), .int (vl_I a)] rfl rfl rfl rfl rfl rfl (vq_row k a) rfl rfl Kz) ?_
  refine jv_Wp.lift (fun _ Kz => jv_Ev.steps jv_i275 2 (pc' := 75) (l' := [(0, .ref 196), (1, .int (vl_I k)), (2, .int (vl_I a)), (3, .int (vl_I j)), (4, .int (vl_I b))]) (st' := [.int (vl_I b), .int (vl_I j), .int (vl_I (8 + (75 * k + a))), .ref 208]) rfl Kz) ?_
  refine jv_Wp.lift (fun _ Kz => jv_Ev.c jv_i275 (pc' := 78) (S' := [.int (vl_I (8 + (75 * j + b))), .int (vl_I (8 + (75 * k + a))), .ref 208]) jv_i254 [.int (vl_I j), .int (vl_I b)] rfl rfl rfl rfl rfl rfl (vq_row j b) rfl rfl Kz) ?_
  have FU : vr_fl (jv_u (jv_u (jv_u I 205 (75 * j + b) (I 205 (75 * k + a))) 206 (75 * j + b) (I 206 (75 * k + a))) 207 (75 * j + b) (I 207 (75 * k + a))) := fun q hq => (jv_u_o _ _ _ _ (by decide)).trans ((jv_u_o _ _ _ _ (by decide)).trans ((jv_u_o _ _ _ _ (by decide)).trans (hf q hq)))
  obtain ⟨I14, L14, H14, S14, F14⟩ := vq_copy (I := (jv_u (jv_u (jv_u I 205 (75 * j + b) (I 205 (75 * k + a))) 206 (75 * j + b) (I 206 (75 * k + a))) 207 (75 * j + b) (I 207 (75 * k + a)))) (L := L) (R := R) (n := n) (sl := sl) (a := 8 + (75 * k + a)) (d := 8 + (75 * j + b)) hW (by omega) (by omega) FU (FU _ (by omega))
  refine jv_Wp.lift (fun _ Kz => jv_Ev.c jv_i275 (pc' := 81) (S' := []) (G1 := (jv_H K I14 L14 R)) jv_i208 [.ref 208, .int (vl_I (8 + (75 * k + a))), .int (vl_I (8 + (75 * j + b)))] rfl rfl rfl rfl (jv_cal rfl (jv_H_at (jv_rwK hW 208 11 7 (by decide))) rfl rfl) rfl H14 rfl rfl Kz) ?_
  refine jv_Wp.of (jv_Ev.ret jv_i275 rfl rfl) ?_
  rw [hQ]
  have t : ∀ o, 205 ≤ o → o ≤ 207 → ∀ (J : Nat → Nat → Int32) (z : Int32) q f, ¬ (205 ≤ q ∧ q ≤ 207 ∧ f = (75 * j + b)) → jv_u J o (75 * j + b) z q f = J q f := fun o h1 h2 J z q f a => by
    by_cases e : q = o
    · rw [e]; exact jv_u_j _ _ _ _ (fun y => a ⟨by omega, by omega, y⟩)
    · exact jv_u_o _ _ _ _ e
  have e6 : (jv_u I 205 (75 * j + b) (I 205 (75 * k + a))) 206 (75 * k + a) = I 206 (75 * k + a) := jv_u_o _ _ _ _ (by decide)
  have e7 : (jv_u (jv_u I 205 (75 * j + b) (I 205 (75 * k + a))) 206 (75 * j + b) ((jv_u I 205 (75 * j + b) (I 205 (75 * k + a))) 206 (75 * k + a))) 207 (75 * k + a) = I 207 (75 * k + a) := (jv_u_o _ _ _ _ (by decide)).trans (jv_u_o _ _ _ _ (by decide))
  refine ⟨_, _, rfl, (F14.2.1 205 _ (by decide)).trans ((jv_u_o _ _ _ _ (by decide)).trans ((jv_u_o _ _ _ _ (by decide)).trans (jv_u_self _ _ _ _))), (F14.2.1 206 _ (by decide)).trans ((jv_u_o _ _ _ _ (by decide)).trans ((jv_u_self _ _ _ _).trans (by first | rfl | exact e6))), (F14.2.1 207 _ (by decide)).trans ((jv_u_self _ _ _ _).trans (by first | rfl | exact e7)), S14, vr_fr_trans ?_ (vq_rf_frx F14 rfl)⟩
  exact ⟨FU, fun q f a b c => (t 207 (by decide) (by decide) _ _ q f a).trans ((t 206 (by decide) (by decide) _ _ q f a).trans (t 205 (by decide) (by decide) _ _ q f a)), fun _ _ _ => rfl⟩