/-! part c09: a row of which nothing is known, cut to 32 bits; the copy of 32 bits (gen/tc09.py) -/
theorem vq_rf_o {t o : Nat} {w : Int64} {I I1 : Nat → Nat → Int32} {L L1 : Nat → Nat → Int64} (ho : 209 ≤ o ∧ o ≤ 214) (h : vq_rf t I L I1 L1) : vq_rf t I L I1 (jv_u L1 o 0 w) := ⟨h.1, h.2.1, fun q f z => by
  refine Eq.trans ?_ (h.2.2 q f z)
  by_cases e : q = o
  · rw [e]; exact jv_u_j _ _ _ _ (fun y => z (by omega))
  · exact jv_u_o _ _ _ _ e⟩
theorem vq_rf_i0 {t : Nat} {v : Int32} {I I1 : Nat → Nat → Int32} {L L1 : Nat → Nat → Int64} (h : vq_rf t I L I1 L1) : vq_rf t I L (jv_u I1 215 0 v) L1 := ⟨fun q hq => (jv_u_j _ _ _ _ (by omega)).trans (h.1 q hq), fun q f hq => (jv_u_o _ _ _ _ hq).trans (h.2.1 q f hq), h.2.2⟩
theorem vq_rft {t u : Nat} {I I1 I2 : Nat → Nat → Int32} {L L1 L2 : Nat → Nat → Int64} (h1 : vq_rf u I L I1 L1) (h2 : vq_rf t I1 L1 I2 L2) (hu : u < 5 ∨ u = t) : vq_rf t I L I2 L2 := ⟨h2.1, fun q f a => (h2.2.1 q f a).trans (h1.2.1 q f a), fun q f a => (h2.2.2 q f a).trans (h1.2.2 q f (fun z => a (by omega)))⟩
theorem vq_cutx {K : Nat → Option (Nat × Nat)} {I : Nat → Nat → Int32} {L : Nat → Nat → Int64} {R : Nat → Nat → Value} (a : Nat) (hW : jv_rW K R) (hf : vr_fl I) (ha : a < 77200) (ha2 : 2 ≤ a) {n sl : Nat} : ∃ I1 L1, jv_Ms 219 [.ref 208, .int (vl_I a), .int (0 : Int32), .int (32 : Int32)] (jv_H K I L R) n sl (none, jv_H K I1 L1 R, n, sl) ∧ vq_rf 3 I L I1 L1 := by
  obtain ⟨Q, hQ⟩ : ∃ Q : jv_R → Prop, Q = fun X => ∃ I1 L1, X = (none, jv_H K I1 L1 R, n, sl) ∧ vq_rf 3 I L I1 L1 := ⟨_, rfl⟩
  suffices h : jv_Wp 219 0 [(0, .ref 208), (1, .int (vl_I a)), (2, .int (0 : Int32)), (3, .int (32 : Int32))] [] (jv_H K I L R) n sl Q by
    rw [hQ] at h
    obtain ⟨X, h, I1, L1, e, h'⟩ := h
    subst e
    exact ⟨I1, L1, h, h'⟩
  refine jv_Wp.lift (fun _ Kz => jv_Ev.steps jv_i219 1 (pc' := 1) (l' := [(0, .ref 208), (1, .int (vl_I a)), (2, .int (0 : Int32)), (3, .int (32 : Int32))]) (st' := [.int (32 : Int32)]) rfl Kz) ?_
  refine jv_Wp.lift (fun _ Kz => jv_Ev.c jv_i219 (pc' := 4) (S' := [.long (jv_rmask (32 : Int32))]) jv_i218 [.int (32 : Int32)] rfl rfl rfl rfl rfl rfl (jv_s218 (32 : Int32)  ) rfl rfl Kz) ?_
  refine jv_Wp.lift (fun _ Kz => jv_Ev.steps jv_i219 4 (pc' := 9) (l' := [(4, .long (jv_rmask (32 : Int32))), (0, .ref 208), (1, .int (vl_I a)), (2, .int (0 : Int32)), (3, .int (32 : Int32))]) (st' := [.int (3 : Int32), .int (vl_I a), .ref 208]) rfl Kz) ?_
  obtain ⟨I1, L1, H1, S1, F1⟩ := vq_copy (I := I) (L := L) (R := R) (n := n) (sl := sl) (a := a) (d := 3) hW (by omega) (by omega) hf (hf _ (by omega))
  have Z1 := F1.1
  refine jv_Wp.lift (fun _ Kz => jv_Ev.c jv_i219 (pc' := 12) (S' := []) (G1 := (jv_H K I1 L1 R)) jv_i208 [.ref 208, .int (vl_I a), .int (3 : Int32)] rfl rfl rfl rfl (jv_cal rfl (jv_H_at (jv_rwK hW 208 11 7 (by decide))) rfl rfl) rfl H1 rfl rfl Kz) ?_
  refine jv_Wp.lift (fun _ Kz => jv_Ev.steps jv_i219 2 (pc' := 14) (l' := [(4, .long (jv_rmask (32 : Int32))), (0, .ref 208), (1, .int (vl_I a)), (2, .int (0 : Int32)), (3, .int (32 : Int32))]) (st' := [.int (0 : Int32), .ref 208]) rfl Kz) ?_
  have H2 := vr_nothing (I := I1) (L := L1) (R := R) (n := n) (sl := sl) (0 : Int32) hW (by decide)
  refine jv_Wp.lift (fun _ Kz => jv_Ev.c jv_i219 (pc' := 17) (S' := []) (G1 := (jv_H K (jv_u I1 215 0 (0 : Int32)) (vr_set L1 0 vb_rany) R)) jv_i207 [.ref 208, .int (0 : Int32)] rfl rfl rfl rfl (jv_cal rfl (jv_H_at (jv_rwK hW 208 11 7 (by decide))) rfl rfl) rfl H2 rfl rfl Kz) ?_
  refine jv_Wp.lift (fun _ Kz => jv_Ev.steps jv_i219 1 (pc' := 18) (l' := [(4, .long (jv_rmask (32 : Int32))), (0, .ref 208), (1, .int (vl_I a)), (2, .int (0 : Int32)), (3, .int (32 : Int32))]) (st' := [.ref 208]) rfl Kz) ?_
  refine jv_Wp.lift (fun _ Kz => jv_Ev.m jv_i219 (pc' := 21) (st' := [.ref 209]) (G' := (jv_H K (jv_u I1 215 0 (0 : Int32)) (vr_set L1 0 vb_rany) R)) rfl rfl (jv_m_getR (jv_rwK hW 208 11 7 (by decide)) rfl rfl (jv_rwR hW 208 0 209 (by decide))) Kz) ?_
  refine jv_Wp.lift (fun _ Kz => jv_Ev.steps jv_i219 2 (pc' := 23) (l' := [(4, .long (jv_rmask (32 : Int32))), (0, .ref 208), (1, .int (vl_I a)), (2, .int (0 : Int32)), (3, .int (32 : Int32))]) (st' := [.ref 208, .int (0 : Int32), .ref 209]) rfl Kz) ?_
  refine jv_Wp.lift (fun _ Kz => jv_Ev.m jv_i219 (pc' := 26) (st' := [.ref 209, .int (0 : Int32), .ref 209]) (G' := (jv_H K (jv_u I1 215 0 (0 : Int32)) (vr_set L1 0 vb_rany) R)) rfl rfl (jv_m_getR (jv_rwK hW 208 11 7 (by decide)) rfl rfl (jv_rwR hW 208 0 209 (by decide))) Kz) ?_
  refine jv_Wp.lift (fun _ Kz => jv_Ev.steps jv_i219 1 (pc' := 27) (l' := [(4, .long (jv_rmask (32 : Int32))), (0, .ref 208), (1, .int (vl_I a)), (2, .int (0 : Int32)), (3, .int (32 : Int32))]) (st' := [.int (3 : Int32), .ref 209, .int (0 : Int32), .ref 209]) rfl Kz) ?_
  refine jv_Wp.lift (fun _ Kz => jv_Ev.m jv_i219 (pc' := 28) (st' := [.long (L1 209 3), .int (0 : Int32), .ref 209]) (G' := (jv_H K (jv_u I1 215 0 (0 : Int32)) (vr_set L1 0 vb_rany) R)) rfl rfl (jv_m_laldv (jv_rwK hW 209 103 77200 (by decide)) rfl (by decide) rfl (vr_set_j (by decide))) Kz) ?_
  refine jv_Wp.lift (fun _ Kz => jv_Ev.steps jv_i219 2 (pc' := 31) (l' := [(4, .long (jv_rmask (32 : Int32))), (0, .ref 208), (1, .int (vl_I a)), (2, .int (0 : Int32)), (3, .int (32 : Int32))]) (st' := [.long ((L1 209 3) &&& (jv_rmask (32 : Int32))), .int (0 : Int32), .ref 209]) rfl Kz) ?_
  refine jv_Wp.lift (fun _ Kz => jv_Ev.m jv_i219 (pc' := 32) (st' := []) (G' := (jv_H K (jv_u I1 215 0 (0 : Int32)) (jv_u (vr_set L1 0 vb_rany) 209 0 ((L1 209 3) &&& (jv_rmask (32 : Int32)))) R)) rfl rfl (jv_m_last (jv_rwK hW 209 103 77200 (by decide)) (by decide)) Kz) ?_
  refine jv_Wp.lift (fun _ Kz => jv_Ev.steps jv_i219 1 (pc' := 33) (l' := [(4, .long (jv_rmask (32 : Int32))), (0, .ref 208), (1, .int (vl_I a)), (2, .int (0 : Int32)), (3, .int (32 : Int32))]) (st' := [.ref 208]) rfl Kz) ?_
  refine jv_Wp.lift (fun _ Kz => jv_Ev.m jv_i219 (pc' := 36) (st' := [.ref 210]) (G' := (jv_H K (jv_u I1 215 0 (0 : Int32)) (jv_u (vr_set L1 0 vb_rany) 209 0 ((L1 209 3) &&& (jv_rmask (32 : Int32)))) R)) rfl rfl (jv_m_getR (jv_rwK hW 208 11 7 (by decide)) rfl rfl (jv_rwR hW 208 1 210 (by decide))) Kz) ?_
  refine jv_Wp.lift (fun _ Kz => jv_Ev.steps jv_i219 2 (pc' := 38) (l' := [(4, .long (jv_rmask (32 : Int32))), (0, .ref 208), (1, .int (vl_I a)), (2, .int (0 : Int32)), (3, .int (32 : Int32))]) (st' := [.ref 208, .int (0 : Int32), .ref 210]) rfl Kz) ?_
  refine jv_Wp.lift (fun _ Kz => jv_Ev.m jv_i219 (pc' := 41) (st' := [.ref 210, .int (0 : Int32), .ref 210]) (G' := (jv_H K (jv_u I1 215 0 (0 : Int32)) (jv_u (vr_set L1 0 vb_rany) 209 0 ((L1 209 3) &&& (jv_rmask (32 : Int32)))) R)) rfl rfl (jv_m_getR (jv_rwK hW 208 11 7 (by decide)) rfl rfl (jv_rwR hW 208 1 210 (by decide))) Kz) ?_
  refine jv_Wp.lift (fun _ Kz => jv_Ev.steps jv_i219 1 (pc' := 42) (l' := [(4, .long (jv_rmask (32 : Int32))), (0, .ref 208), (1, .int (vl_I a)), (2, .int (0 : Int32)), (3, .int (32 : Int32))]) (st' := [.int (3 : Int32), .ref 210, .int (0 : Int32), .ref 210]) rfl Kz) ?_
  refine jv_Wp.lift (fun _ Kz => jv_Ev.m jv_i219 (pc' := 43) (st' := [.long (L1 210 3), .int (0 : Int32), .ref 210]) (G' := (jv_H K (jv_u I1 215 0 (0 : Int32)) (jv_u (vr_set L1 0 vb_rany) 209 0 ((L1 209 3) &&& (jv_rmask (32 : Int32)))) R)) rfl rfl (jv_m_laldv (jv_rwK hW 210 103 77200 (by decide)) rfl (by decide) rfl ((jv_u_j _ _ _ _ (by decide)).trans (vr_set_j (by decide)))) Kz) ?_
  refine jv_Wp.lift (fun _ Kz => jv_Ev.steps jv_i219 2 (pc' := 46) (l' := [(4, .long (jv_rmask (32 : Int32))), (0, .ref 208), (1, .int (vl_I a)), (2, .int (0 : Int32)), (3, .int (32 : Int32))]) (st' := [.long ((L1 210 3) &&& (jv_rmask (32 : Int32))), .int (0 : Int32), .ref 210]) rfl Kz) ?_
  refine jv_Wp.lift (fun _ Kz => jv_Ev.m jv_i219 (pc' := 47) (st' := []) (G' := (jv_H K (jv_u I1 215 0 (0 : Int32)) (jv_u (jv_u (vr_set L1 0 vb_rany) 209 0 ((L1 209 3) &&& (jv_rmask (32 : Int32)))) 210 0 ((L1 210 3) &&& (jv_rmask (32 : Int32)))) R)) rfl rfl (jv_m_last (jv_rwK hW 210 103 77200 (by decide)) (by decide)) Kz) ?_
  refine jv_Wp.lift (fun _ Kz => jv_Ev.steps jv_i219 1 (pc' := 48) (l' := [(4, .long (jv_rmask (32 : Int32))), (0, .ref 208), (1, .int (vl_I a)), (2, .int (0 : Int32)), (3, .int (32 : Int32))]) (st' := [.ref 208]) rfl Kz) ?_
  refine jv_Wp.lift (fun _ Kz => jv_Ev.m jv_i219 (pc' := 51) (st' := [.ref 211]) (G' := (jv_H K (jv_u I1 215 0 (0 : Int32)) (jv_u (jv_u (vr_set L1 0 vb_rany) 209 0 ((L1 209 3) &&& (jv_rmask (32 : Int32)))) 210 0 ((L1 210 3) &&& (jv_rmask (32 : Int32)))) R)) rfl rfl (jv_m_getR (jv_rwK hW 208 11 7 (by decide)) rfl rfl (jv_rwR hW 208 2 211 (by decide))) Kz) ?_
  refine jv_Wp.lift (fun _ Kz => jv_Ev.steps jv_i219 1 (pc' := 52) (l' := [(4, .long (jv_rmask (32 : Int32))), (0, .ref 208), (1, .int (vl_I a)), (2, .int (0 : Int32)), (3, .int (32 : Int32))]) (st' := [.int (3 : Int32), .ref 211]) rfl Kz) ?_
  refine jv_Wp.lift (fun _ Kz => jv_Ev.m jv_i219 (pc' := 53) (st' := [.long (L1 211 3)]) (G' := (jv_H K (jv_u I1 215 0 (0 : Int32)) (jv_u (jv_u (vr_set L1 0 vb_rany) 209 0 ((L1 209 3) &&& (jv_rmask (32 : Int32)))) 210 0 ((L1 210 3) &&& (jv_rmask (32 : Int32)))) R)) rfl rfl (jv_m_laldv (jv_rwK hW 211 103 77200 (by decide)) rfl (by decide) rfl ((jv_u_j _ _ _ _ (by decide)).trans ((jv_u_j _ _ _ _ (by decide)).trans (vr_set_j (by decide))))) Kz) ?_
  refine jv_Wp.lift (fun _ Kz => jv_Ev.steps jv_i219 5 (pc' := 61) (l' := [(4, .long (jv_rmask (32 : Int32))), (0, .ref 208), (1, .int (vl_I a)), (2, .int (0 : Int32)), (3, .int (32 : Int32))]) (st' := [.ref 208, .long ((L1 211 3) &&& ((jv_rmask (32 : Int32)) ^^^ (-1 : Int64)))]) rfl Kz) ?_
  refine jv_Wp.lift (fun _ Kz => jv_Ev.m jv_i219 (pc' := 64) (st' := [.ref 212, .long ((L1 211 3) &&& ((jv_rmask (32 : Int32)) ^^^ (-1 : Int64)))]) (G' := (jv_H K (jv_u I1 215 0 (0 : Int32)) (jv_u (jv_u (vr_set L1 0 vb_rany) 209 0 ((L1 209 3) &&& (jv_rmask (32 : Int32)))) 210 0 ((L1 210 3) &&& (jv_rmask (32 : Int32)))) R)) rfl rfl (jv_m_getR (jv_rwK hW 208 11 7 (by decide)) rfl rfl (jv_rwR hW 208 3 212 (by decide))) Kz) ?_
  refine jv_Wp.lift (fun _ Kz => jv_Ev.steps jv_i219 1 (pc' := 65) (l' := [(4, .long (jv_rmask (32 : Int32))), (0, .ref 208), (1, .int (vl_I a)), (2, .int (0 : Int32)), (3, .int (32 : Int32))]) (st' := [.int (3 : Int32), .ref 212, .long ((L1 211 3) &&& ((jv_rmask (32 : Int32)) ^^^ (-1 : Int64)))]) rfl Kz) ?_
  refine jv_Wp.lift (fun _ Kz => jv_Ev.m jv_i219 (pc' := 66) (st' := [.long (L1 212 3), .long ((L1 211 3) &&& ((jv_rmask (32 : Int32)) ^^^ (-1 : Int64)))]) (G' := (jv_H K (jv_u I1 215 0 (0 : Int32)) (jv_u (jv_u (vr_set L1 0 vb_rany) 209 0 ((L1 209 3) &&& (jv_rmask (32 : Int32)))) 210 0 ((L1 210 3) &&& (jv_rmask (32 : Int32)))) R)) rfl rfl (jv_m_laldv (jv_rwK hW 212 103 77200 (by decide)) rfl (by decide) rfl ((jv_u_j _ _ _ _ (by decide)).trans ((jv_u_j _ _ _ _ (by decide)).trans (vr_set_j (by decide))))) Kz) ?_
  refine jv_Wp.lift (fun _ Kz => jv_Ev.steps jv_i219 5 (pc' := 74) (l' := [(4, .long (jv_rmask (32 : Int32))), (0, .ref 208), (1, .int (vl_I a)), (2, .int (0 : Int32)), (3, .int (32 : Int32))]) (st' := [.int (lg_cmp ((L1 211 3) &&& ((jv_rmask (32 : Int32)) ^^^ (-1 : Int64))) ((L1 212 3) &&& ((jv_rmask (32 : Int32)) ^^^ (-1 : Int64))))]) rfl Kz) ?_
  refine jv_Wp.cnd jv_i219 (pt := 107) (pe := 77) (p := (¬ (lg_cmp ((L1 211 3) &&& ((jv_rmask (32 : Int32)) ^^^ (-1 : Int64))) ((L1 212 3) &&& ((jv_rmask (32 : Int32)) ^^^ (-1 : Int64)))) = 0)) (q := (¬ ((L1 211 3) &&& ((jv_rmask (32 : Int32)) ^^^ (-1 : Int64))) = ((L1 212 3) &&& ((jv_rmask (32 : Int32)) ^^^ (-1 : Int64))))) rfl jv_bi_ne rfl rfl (not_congr (lg_cmp_eq ((L1 211 3) &&& ((jv_rmask (32 : Int32)) ^^^ (-1 : Int64))) ((L1 212 3) &&& ((jv_rmask (32 : Int32)) ^^^ (-1 : Int64))))) (fun h1 => ?_) (fun h1 => ?_)
  · refine jv_Wp.lift (fun _ Kz => jv_Ev.steps jv_i219 2 (pc' := 110) (l' := [(4, .long (jv_rmask (32 : Int32))), (0, .ref 208), (1, .int (vl_I a)), (2, .int (0 : Int32)), (3, .int (32 : Int32))]) (st' := [.int (64 : Int32), .int (32 : Int32)]) rfl Kz) ?_
    refine jv_Wp.lift (fun _ Kz => jv_Ev.br jv_i219 (pc' := 137) (st' := []) rfl (by rfl) Kz) ?_
    refine jv_Wp.lift (fun _ Kz => jv_Ev.steps jv_i219 2 (pc' := 139) (l' := [(4, .long (jv_rmask (32 : Int32))), (0, .ref 208), (1, .int (vl_I a)), (2, .int (0 : Int32)), (3, .int (32 : Int32))]) (st' := [.int (0 : Int32), .ref 208]) rfl Kz) ?_
    have E3 : (jv_u I1 215 0 (0 : Int32)) 215 0 = 0 := jv_u_self _ _ _ _
    have H3 := vr_tighten (I := (jv_u I1 215 0 (0 : Int32))) (L := (jv_u (jv_u (vr_set L1 0 vb_rany) 209 0 ((L1 209 3) &&& (jv_rmask (32 : Int32)))) 210 0 ((L1 210 3) &&& (jv_rmask (32 : Int32))))) (R := R) (n := n) (sl := sl) (0 : Int32) hW (by decide) E3
    obtain ⟨I3, hI3⟩ : ∃ J, J = jv_u (jv_u I1 215 0 (0 : Int32)) 215 0 (vr_b (vb_rtight (vr_S (jv_u (jv_u (vr_set L1 0 vb_rany) 209 0 ((L1 209 3) &&& (jv_rmask (32 : Int32)))) 210 0 ((L1 210 3) &&& (jv_rmask (32 : Int32)))) 0)).1) := ⟨_, rfl⟩
    obtain ⟨L3, hL3⟩ : ∃ J, J = vr_set (jv_u (jv_u (vr_set L1 0 vb_rany) 209 0 ((L1 209 3) &&& (jv_rmask (32 : Int32)))) 210 0 ((L1 210 3) &&& (jv_rmask (32 : Int32)))) 0 (vb_rtight (vr_S (jv_u (jv_u (vr_set L1 0 vb_rany) 209 0 ((L1 209 3) &&& (jv_rmask (32 : Int32)))) 210 0 ((L1 210 3) &&& (jv_rmask (32 : Int32)))) 0)).2 := ⟨_, rfl⟩
    replace H3 : jv_Ms 216 [.ref 208, .int (0 : Int32)] (jv_H K (jv_u I1 215 0 (0 : Int32)) (jv_u (jv_u (vr_set L1 0 vb_rany) 209 0 ((L1 209 3) &&& (jv_rmask (32 : Int32)))) 210 0 ((L1 210 3) &&& (jv_rmask (32 : Int32)))) R) n sl (none, jv_H K I3 L3 R, n, sl) := by rw [hI3, hL3]; exact H3
    refine jv_Wp.lift (fun _ Kz => jv_Ev.c jv_i219 (pc' := 142) (S' := []) (G1 := (jv_H K I3 L3 R)) jv_i216 [.ref 208, .int (0 : Int32)] rfl rfl rfl rfl (jv_cal rfl (jv_H_at (jv_rwK hW 208 11 7 (by decide))) rfl rfl) rfl H3 rfl rfl Kz) ?_
    refine jv_Wp.of (jv_Ev.ret jv_i219 rfl rfl) ?_
    rw [hQ]
    refine ⟨_, _, rfl, ?_⟩
    rw [hI3, hL3]
    refine vq_set (vq_rf_i0 (vq_rf_i0 ?_)) (Or.inl (by decide))
    repeat refine vq_rf_o (by decide) ?_
    exact vq_set F1 (Or.inl (by decide))
  · refine jv_Wp.lift (fun _ Kz => jv_Ev.steps jv_i219 1 (pc' := 78) (l' := [(4, .long (jv_rmask (32 : Int32))), (0, .ref 208), (1, .int (vl_I a)), (2, .int (0 : Int32)), (3, .int (32 : Int32))]) (st' := [.ref 208]) rfl Kz) ?_
    refine jv_Wp.lift (fun _ Kz => jv_Ev.m jv_i219 (pc' := 81) (st' := [.ref 211]) (G' := (jv_H K (jv_u I1 215 0 (0 : Int32)) (jv_u (jv_u (vr_set L1 0 vb_rany) 209 0 ((L1 209 3) &&& (jv_rmask (32 : Int32)))) 210 0 ((L1 210 3) &&& (jv_rmask (32 : Int32)))) R)) rfl rfl (jv_m_getR (jv_rwK hW 208 11 7 (by decide)) rfl rfl (jv_rwR hW 208 2 211 (by decide))) Kz) ?_
    refine jv_Wp.lift (fun _ Kz => jv_Ev.steps jv_i219 2 (pc' := 83) (l' := [(4, .long (jv_rmask (32 : Int32))), (0, .ref 208), (1, .int (vl_I a)), (2, .int (0 : Int32)), (3, .int (32 : Int32))]) (st' := [.ref 208, .int (0 : Int32), .ref 211]) rfl Kz) ?_
    refine jv_Wp.lift (fun _ Kz => jv_Ev.m jv_i219 (pc' := 86) (st' := [.ref 211, .int (0 : Int32), .ref 211]) (G' := (jv_H K (jv_u I1 215 0 (0 : Int32)) (jv_u (jv_u (vr_set L1 0 vb_rany) 209 0 ((L1 209 3) &&& (jv_rmask (32 : Int32)))) 210 0 ((L1 210 3) &&& (jv_rmask (32 : Int32)))) R)) rfl rfl (jv_m_getR (jv_rwK hW 208 11 7 (by decide)) rfl rfl (jv_rwR hW 208 2 211 (by decide))) Kz) ?_
    refine jv_Wp.lift (fun _ Kz => jv_Ev.steps jv_i219 1 (pc' := 87) (l' := [(4, .long (jv_rmask (32 : Int32))), (0, .ref 208), (1, .int (vl_I a)), (2, .int (0 : Int32)), (3, .int (32 : Int32))]) (st' := [.int (3 : Int32), .ref 211, .int (0 : Int32), .ref 211]) rfl Kz) ?_
    refine jv_Wp.lift (fun _ Kz => jv_Ev.m jv_i219 (pc' := 88) (st' := [.long (L1 211 3), .int (0 : Int32), .ref 211]) (G' := (jv_H K (jv_u I1 215 0 (0 : Int32)) (jv_u (jv_u (vr_set L1 0 vb_rany) 209 0 ((L1 209 3) &&& (jv_rmask (32 : Int32)))) 210 0 ((L1 210 3) &&& (jv_rmask (32 : Int32)))) R)) rfl rfl (jv_m_laldv (jv_rwK hW 211 103 77200 (by decide)) rfl (by decide) rfl ((jv_u_j _ _ _ _ (by decide)).trans ((jv_u_j _ _ _ _ (by decide)).trans (vr_set_j (by decide))))) Kz) ?_
    refine jv_Wp.lift (fun _ Kz => jv_Ev.steps jv_i219 2 (pc' := 91) (l' := [(4, .long (jv_rmask (32 : Int32))), (0, .ref 208), (1, .int (vl_I a)), (2, .int (0 : Int32)), (3, .int (32 : Int32))]) (st' := [.long ((L1 211 3) &&& (jv_rmask (32 : Int32))), .int (0 : Int32), .ref 211]) rfl Kz) ?_
    refine jv_Wp.lift (fun _ Kz => jv_Ev.m jv_i219 (pc' := 92) (st' := []) (G' := (jv_H K (jv_u I1 215 0 (0 : Int32)) (jv_u (jv_u (jv_u (vr_set L1 0 vb_rany) 209 0 ((L1 209 3) &&& (jv_rmask (32 : Int32)))) 210 0 ((L1 210 3) &&& (jv_rmask (32 : Int32)))) 211 0 ((L1 211 3) &&& (jv_rmask (32 : Int32)))) R)) rfl rfl (jv_m_last (jv_rwK hW 211 103 77200 (by decide)) (by decide)) Kz) ?_
    refine jv_Wp.lift (fun _ Kz => jv_Ev.steps jv_i219 1 (pc' := 93) (l' := [(4, .long (jv_rmask (32 : Int32))), (0, .ref 208), (1, .int (vl_I a)), (2, .int (0 : Int32)), (3, .int (32 : Int32))]) (st' := [.ref 208]) rfl Kz) ?_
    refine jv_Wp.lift (fun _ Kz => jv_Ev.m jv_i219 (pc' := 96) (st' := [.ref 212]) (G' := (jv_H K (jv_u I1 215 0 (0 : Int32)) (jv_u (jv_u (jv_u (vr_set L1 0 vb_rany) 209 0 ((L1 209 3) &&& (jv_rmask (32 : Int32)))) 210 0 ((L1 210 3) &&& (jv_rmask (32 : Int32)))) 211 0 ((L1 211 3) &&& (jv_rmask (32 : Int32)))) R)) rfl rfl (jv_m_getR (jv_rwK hW 208 11 7 (by decide)) rfl rfl (jv_rwR hW 208 3 212 (by decide))) Kz) ?_
    refine jv_Wp.lift (fun _ Kz => jv_Ev.steps jv_i219 2 (pc' := 98) (l' := [(4, .long (jv_rmask (32 : Int32))), (0, .ref 208), (1, .int (vl_I a)), (2, .int (0 : Int32)), (3, .int (32 : Int32))]) (st' := [.ref 208, .int (0 : Int32), .ref 212]) rfl Kz) ?_
    refine jv_Wp.lift (fun _ Kz => jv_Ev.m jv_i219 (pc' := 101) (st' := [.ref 212, .int (0 : Int32), .ref 212]) (G' := (jv_H K (jv_u I1 215 0 (0 : Int32)) (jv_u (jv_u (jv_u (vr_set L1 0 vb_rany) 209 0 ((L1 209 3) &&& (jv_rmask (32 : Int32)))) 210 0 ((L1 210 3) &&& (jv_rmask (32 : Int32)))) 211 0 ((L1 211 3) &&& (jv_rmask (32 : Int32)))) R)) rfl rfl (jv_m_getR (jv_rwK hW 208 11 7 (by decide)) rfl rfl (jv_rwR hW 208 3 212 (by decide))) Kz) ?_
    refine jv_Wp.lift (fun _ Kz => jv_Ev.steps jv_i219 1 (pc' := 102) (l' := [(4, .long (jv_rmask (32 : Int32))), (0, .ref 208), (1, .int (vl_I a)), (2, .int (0 : Int32)), (3, .int (32 : Int32))]) (st' := [.int (3 : Int32), .ref 212, .int (0 : Int32), .ref 212]) rfl Kz) ?_
    refine jv_Wp.lift (fun _ Kz => jv_Ev.m jv_i219 (pc' := 103) (st' := [.long (L1 212 3), .int (0 : Int32), .ref 212]) (G' := (jv_H K (jv_u I1 215 0 (0 : Int32)) (jv_u (jv_u (jv_u (vr_set L1 0 vb_rany) 209 0 ((L1 209 3) &&& (jv_rmask (32 : Int32)))) 210 0 ((L1 210 3) &&& (jv_rmask (32 : Int32)))) 211 0 ((L1 211 3) &&& (jv_rmask (32 : Int32)))) R)) rfl rfl (jv_m_laldv (jv_rwK hW 212 103 77200 (by decide)) rfl (by decide) rfl ((jv_u_j _ _ _ _ (by decide)).trans ((jv_u_j _ _ _ _ (by decide)).trans ((jv_u_j _ _ _ _ (by decide)).trans (vr_set_j (by decide)))))) Kz) ?_
    refine jv_Wp.lift (fun _ Kz => jv_Ev.steps jv_i219 2 (pc' := 106) (l' := [(4, .long (jv_rmask (32 : Int32))), (0, .ref 208), (1, .int (vl_I a)), (2, .int (0 : Int32)), (3, .int (32 : Int32))]) (st' := [.long ((L1 212 3) &&& (jv_rmask (32 : Int32))), .int (0 : Int32), .ref 212]) rfl Kz) ?_
    refine jv_Wp.lift (fun _ Kz => jv_Ev.m jv_i219 (pc' := 107) (st' := []) (G' := (jv_H K (jv_u I1 215 0 (0 : Int32)) (jv_u (jv_u (jv_u (jv_u (vr_set L1 0 vb_rany) 209 0 ((L1 209 3) &&& (jv_rmask (32 : Int32)))) 210 0 ((L1 210 3) &&& (jv_rmask (32 : Int32)))) 211 0 ((L1 211 3) &&& (jv_rmask (32 : Int32)))) 212 0 ((L1 212 3) &&& (jv_rmask (32 : Int32)))) R)) rfl rfl (jv_m_last (jv_rwK hW 212 103 77200 (by decide)) (by decide)) Kz) ?_
    refine jv_Wp.lift (fun _ Kz => jv_Ev.steps jv_i219 2 (pc' := 110) (l' := [(4, .long (jv_rmask (32 : Int32))), (0, .ref 208), (1, .int (vl_I a)), (2, .int (0 : Int32)), (3, .int (32 : Int32))]) (st' := [.int (64 : Int32), .int (32 : Int32)]) rfl Kz) ?_
    refine jv_Wp.lift (fun _ Kz => jv_Ev.br jv_i219 (pc' := 137) (st' := []) rfl (by rfl) Kz) ?_
    refine jv_Wp.lift (fun _ Kz => jv_Ev.steps jv_i219 2 (pc' := 139) (l' := [(4, .long (jv_rmask (32 : Int32))), (0, .ref 208), (1, .int (vl_I a)), (2, .int (0 : Int32)), (3, .int (32 : Int32))]) (st' := [.int (0 : Int32), .ref 208]) rfl Kz) ?_
    have E4 : (jv_u I1 215 0 (0 : Int32)) 215 0 = 0 := jv_u_self _ _ _ _
    have H4 := vr_tighten (I := (jv_u I1 215 0 (0 : Int32))) (L := (jv_u (jv_u (jv_u (jv_u (vr_set L1 0 vb_rany) 209 0 ((L1 209 3) &&& (jv_rmask (32 : Int32)))) 210 0 ((L1 210 3) &&& (jv_rmask (32 : Int32)))) 211 0 ((L1 211 3) &&& (jv_rmask (32 : Int32)))) 212 0 ((L1 212 3) &&& (jv_rmask (32 : Int32))))) (R := R) (n := n) (sl := sl) (0 : Int32) hW (by decide) E4
    obtain ⟨I4, hI4⟩ : ∃ J, J = jv_u (jv_u I1 215 0 (0 : Int32)) 215 0 (vr_b (vb_rtight (vr_S (jv_u (jv_u (jv_u (jv_u (vr_set L1 0 vb_rany) 209 0 ((L1 209 3) &&& (jv_rmask (32 : Int32)))) 210 0 ((L1 210 3) &&& (jv_rmask (32 : Int32)))) 211 0 ((L1 211 3) &&& (jv_rmask (32 : Int32)))) 212 0 ((L1 212 3) &&& (jv_rmask (32 : Int32)))) 0)).1) := ⟨_, rfl⟩
    obtain ⟨L4, hL4⟩ : ∃ J, J = vr_set (jv_u (jv_u (jv_u (jv_u (vr_set L1 0 vb_rany) 209 0 ((L1 209 3) &&& (jv_rmask (32 : Int32)))) 210 0 ((L1 210 3) &&& (jv_rmask (32 : Int32)))) 211 0 ((L1 211 3) &&& (jv_rmask (32 : Int32)))) 212 0 ((L1 212 3) &&& (jv_rmask (32 : Int32)))) 0 (vb_rtight (vr_S (jv_u (jv_u (jv_u (jv_u (vr_set L1 0 vb_rany) 209 0 ((L1 209 3) &&& (jv_rmask (32 : Int32)))) 210 0 ((L1 210 3) &&& (jv_rmask (32 : Int32)))) 211 0 ((L1 211 3) &&& (jv_rmask (32 : Int32)))) 212 0 ((L1 212 3) &&& (jv_rmask (32 : Int32)))) 0)).2 := ⟨_, rfl⟩
    replace H4 : jv_Ms 216 [.ref 208, .int (0 : Int32)] (jv_H K (jv_u I1 215 0 (0 : Int32)) (jv_u (jv_u (jv_u (jv_u (vr_set L1 0 vb_rany) 209 0 ((L1 209 3) &&& (jv_rmask (32 : Int32)))) 210 0 ((L1 210 3) &&& (jv_rmask (32 : Int32)))) 211 0 ((L1 211 3) &&& (jv_rmask (32 : Int32)))) 212 0 ((L1 212 3) &&& (jv_rmask (32 : Int32)))) R) n sl (none, jv_H K I4 L4 R, n, sl) := by rw [hI4, hL4]; exact H4
    refine jv_Wp.lift (fun _ Kz => jv_Ev.c jv_i219 (pc' := 142) (S' := []) (G1 := (jv_H K I4 L4 R)) jv_i216 [.ref 208, .int (0 : Int32)] rfl rfl rfl rfl (jv_cal rfl (jv_H_at (jv_rwK hW 208 11 7 (by decide))) rfl rfl) rfl H4 rfl rfl Kz) ?_
    refine jv_Wp.of (jv_Ev.ret jv_i219 rfl rfl) ?_
    rw [hQ]
    refine ⟨_, _, rfl, ?_⟩
    rw [hI4, hL4]
    refine vq_set (vq_rf_i0 (vq_rf_i0 ?_)) (Or.inl (by decide))
    repeat refine vq_rf_o (by decide) ?_
    exact vq_set F1 (Or.inl (by decide))
theorem vr_app11 {K : Nat → Option (Nat × Nat)} {I : Nat → Nat → Int32} {L : Nat → Nat → Int64} {R : Nat → Nat → Value} (ms : Int32) (hW : jv_rW K R) (h1 : I 215 1 = 0) {b : BitVec 64} (hm : vb_mem (vb_toS (vr_S (vr_set L 2 vb_rany) 1)) b) {n sl : Nat} : jv_Ms 238 [.ref 208, .int (11 : Int32), .int ms] (jv_H K I L R) n sl (none, jv_H K (jv_u (jv_u (jv_u I 215 2 0) 215 2 0) 215 2 0) (vr_set (vr_set L 2 vb_rany) 2 (vb_toR (vb_tt (vb_toS (vr_S (vr_set L 2 vb_rany) 1))))) R, n, sl) := by
  show jv_Ev 238 0 [(0, .ref 208), (1, .int (11 : Int32)), (2, .int ms)] [] (jv_H K I L R) n sl _
  refine jv_Ev.steps jv_i238 2 (pc' := 2) (l' := [(0, .ref 208), (1, .int (11 : Int32)), (2, .int ms)]) (st' := [.int (2 : Int32), .ref 208]) rfl ?_
  refine jv_Ev.c jv_i238 (pc' := 5) (S' := []) (G1 := (jv_H K (jv_u I 215 2 0) (vr_set L 2 vb_rany) R)) jv_i207 [.ref 208, .int (2 : Int32)] rfl rfl rfl rfl (jv_cal rfl (jv_H_at (jv_rwK hW 208 11 7 (by decide))) rfl rfl) rfl (vr_nothing (2 : Int32) hW (by decide)) rfl rfl ?_
  refine jv_Ev.steps jv_i238 1 (pc' := 6) (l' := [(0, .ref 208), (1, .int (11 : Int32)), (2, .int ms)]) (st' := [.int (11 : Int32)]) rfl ?_
  refine jv_Ev.br jv_i238 (pc' := 144) (st' := []) rfl (by rfl) ?_
  refine jv_Ev.steps jv_i238 3 (pc' := 147) (l' := [(0, .ref 208), (1, .int (11 : Int32)), (2, .int ms)]) (st' := [.int (2 : Int32), .int (1 : Int32), .ref 208]) rfl ?_
  refine jv_Ev.c jv_i238 (pc' := 150) (S' := []) (G1 := (jv_H K (jv_u (jv_u I 215 2 0) 215 2 0) (vr_set (vr_set L 2 vb_rany) 2 (vr_S (vr_set L 2 vb_rany) 1)) R)) jv_i208 [.ref 208, .int (1 : Int32), .int (2 : Int32)] rfl rfl rfl rfl (jv_cal rfl (jv_H_at (jv_rwK hW 208 11 7 (by decide))) rfl rfl) rfl (vr_copy (1 : Int32) (2 : Int32) hW (by decide) (by decide) ((jv_u_j _ _ _ _ (by decide)).trans h1)) rfl rfl ?_
  refine jv_Ev.steps jv_i238 2 (pc' := 152) (l' := [(0, .ref 208), (1, .int (11 : Int32)), (2, .int ms)]) (st' := [.int (2 : Int32), .ref 208]) rfl ?_
  refine jv_Ev.c jv_i238 (pc' := 155) (S' := []) (G1 := (jv_H K (jv_u (jv_u (jv_u I 215 2 0) 215 2 0) 215 2 0) (vr_set (vr_set L 2 vb_rany) 2 (vb_toR (vb_tt (vb_toS (vr_S (vr_set L 2 vb_rany) 1))))) R)) jv_i216 [.ref 208, .int (2 : Int32)] rfl rfl rfl rfl (jv_cal rfl (jv_H_at (jv_rwK hW 208 11 7 (by decide))) rfl rfl) rfl (vr_tightX (2 : Int32) hW (by decide) (jv_u_self _ _ _ _) (v := (vb_toS (vr_S (vr_set L 2 vb_rany) 1))) (by rw [vr_toR_toS] <;> rfl) hm) rfl rfl ?_
  exact jv_Ev.ret jv_i238 rfl rfl
section
variable {K : Nat → Option (Nat × Nat)} {I : Nat → Nat → Int32} {L : Nat → Nat → Int64} {R : Nat → Nat → Value}
theorem vq_cutg {a d m : Nat} (hm : m ≤ 64) (hW : jv_rW K R) (ha : a < 77200) (hd : d < 77200) (hd3 : d ≠ 3) (hf : vr_fl I) (hE : I 215 a = 0) {n0 : BitVec 64} (hn : vb_mem (vb_toS (vr_S L a)) n0) {n sl : Nat} : ∃ I1 L1, jv_Ms 219 [.ref 208, .int (vl_I a), .int (vl_I d), .int (vl_I m)] (jv_H K I L R) n sl (none, jv_H K I1 L1 R, n, sl) ∧ vr_S L1 d = vb_toR (vx_cut (vb_toS (vr_S L a)) m) ∧ I1 215 d = 0 ∧ vq_rf d I L I1 L1 := by
  have e1 : (vl_I a).toNatClampNeg = a := vl_I_nat (by omega)
  have e2 : (vl_I d).toNatClampNeg = d := vl_I_nat (by omega)
  have H := vr_cutRow (I := I) (L := L) (n := n) (sl := sl) (vl_I a) (vl_I d) m hm hW (vl_I_ix ha (by decide)) (vl_I_ix hd (by decide)) (by rw [e2]; omega) (hf 3 (by decide)) (by rw [e1]; exact hE) (by rw [e1]; exact hn)
  rw [e1, e2] at H
  exact ⟨_, _, H, vr_set_S _ _ _, jv_u_self _ _ _ _, vq_set (vq_set (vq_u (vq_refl hf L)) (Or.inl (by decide))) (Or.inr rfl)⟩
theorem vq_copyg {a d : Nat} (hW : jv_rW K R) (ha : a < 77200) (hd : d < 77200) (hf : vr_fl I) (h0 : I 215 a = 0) {n sl : Nat} : ∃ I1 L1, jv_Ms 208 [.ref 208, .int (vl_I a), .int (vl_I d)] (jv_H K I L R) n sl (none, jv_H K I1 L1 R, n, sl) ∧ vr_S L1 d = vr_S L a ∧ I1 215 d = 0 ∧ vq_rf d I L I1 L1 := by
  have H := vr_copy (I := I) (L := L) (n := n) (sl := sl) (vl_I a) (vl_I d) hW (vl_I_ix ha (by decide)) (vl_I_ix hd (by decide)) (by rw [vl_I_nat (by omega)]; exact h0)
  rw [vl_I_nat (by omega), vl_I_nat (by omega)] at H
  exact ⟨_, _, H, vr_set_S _ _ _, jv_u_self _ _ _ _, vq_set (vq_u (vq_refl hf L)) (Or.inr rfl)⟩
theorem vq_app11 (ms : Int32) (hW : jv_rW K R) (hf : vr_fl I) (h1 : I 215 1 = 0) {n0 : BitVec 64} (hn : vb_mem (vb_toS (vr_S L 1)) n0) {n sl : Nat} : ∃ I1 L1, jv_Ms 238 [.ref 208, .int (11 : Int32), .int ms] (jv_H K I L R) n sl (none, jv_H K I1 L1 R, n, sl) ∧ vr_S L1 2 = vb_toR (vb_tt (vb_toS (vr_S L 1))) ∧ vq_rf 2 I L I1 L1 := by
  have e : vr_S (vr_set L 2 vb_rany) 1 = vr_S L 1 := vr_set_o (by decide)
  have H := vr_app11 (I := I) (L := L) (n := n) (sl := sl) ms hW h1 (by rw [e]; exact hn)
  rw [e] at H
  exact ⟨_, _, H, vr_set_S _ _ _, vq_set (vq_set (vq_u (vq_u (vq_u (vq_refl hf L)))) (Or.inr rfl)) (Or.inr rfl)⟩
end

theorem vq_op11 {K : Nat → Option (Nat × Nat)} {I : Nat → Nat → Int32} {L : Nat → Nat → Int64} {R : Nat → Nat → Value} (a b : Nat) (x : vb_S) (hW : jv_rW K R) (hf : vr_fl I) (ha : a < 77200) (ha2 : 5 ≤ a) (hb : b < 77200) (hb2 : 5 ≤ b) (hy : vb_tight (vb_toS (vr_S L b))) {n sl : Nat} : ∃ I1 L1, jv_Ms 249 [.ref 208, .int (11 : Int32), .int (32 : Int32), .int (7 : Int32), .int (vl_I a), .int (vl_I b)] (jv_H K I L R) n sl (none, jv_H K I1 L1 R, n, sl) ∧ vr_S L1 7 = vb_toR (vx_op32 11 x (vb_toS (vr_S L b))) ∧ vq_rf 7 I L I1 L1 := by
  obtain ⟨Q, hQ⟩ : ∃ Q : jv_R → Prop, Q = fun X => ∃ I1 L1, X = (none, jv_H K I1 L1 R, n, sl) ∧ vr_S L1 7 = vb_toR (vx_op32 11 x (vb_toS (vr_S L b))) ∧ vq_rf 7 I L I1 L1 := ⟨_, rfl⟩
  suffices h : jv_Wp 249 0 [(0, .ref 208), (1, .int (11 : Int32)), (2, .int (32 : Int32)), (3, .int (7 : Int32)), (4, .int (vl_I a)), (5, .int (vl_I b))] [] (jv_H K I L R) n sl Q by
    rw [hQ] at h
    obtain ⟨X, h, I1, L1, e, h'⟩ := h
    subst e
    exact ⟨I1, L1, h, h'⟩
  have tt1 : vb_tight (vx_cut (vb_toS (vr_S L b)) 32) := (vx_cut_in hy.low).1
  have tt2 : vb_tight (vb_tt (vx_cut (vb_toS (vr_S L b)) 32)) := by rw [vb_tt_of tt1]; exact tt1
  refine jv_Wp.lift (fun _ Kz => jv_Ev.steps jv_i249 2 (pc' := 3) (l' := [(0, .ref 208), (1, .int (11 : Int32)), (2, .int (32 : Int32)), (3, .int (7 : Int32)), (4, .int (vl_I a)), (5, .int (vl_I b))]) (st' := [.int (64 : Int32), .int (32 : Int32)]) rfl Kz) ?_
  refine jv_Wp.lift (fun _ Kz => jv_Ev.br jv_i249 (pc' := 34) (st' := []) rfl (by rfl) Kz) ?_
  refine jv_Wp.lift (fun _ Kz => jv_Ev.steps jv_i249 4 (pc' := 41) (l' := [(6, .int (vl_I a)), (0, .ref 208), (1, .int (11 : Int32)), (2, .int (32 : Int32)), (3, .int (7 : Int32)), (4, .int (vl_I a)), (5, .int (vl_I b))]) (st' := [.int (10 : Int32), .int (11 : Int32)]) rfl Kz) ?_
  refine jv_Wp.lift (fun _ Kz => jv_Ev.br jv_i249 (pc' := 56) (st' := []) rfl (by rfl) Kz) ?_
  refine jv_Wp.lift (fun _ Kz => jv_Ev.steps jv_i249 4 (pc' := 62) (l' := [(6, .int (vl_I a)), (0, .ref 208), (1, .int (11 : Int32)), (2, .int (32 : Int32)), (3, .int (7 : Int32)), (4, .int (vl_I a)), (5, .int (vl_I b))]) (st' := [.int (32 : Int32), .int (0 : Int32), .int (vl_I a), .ref 208]) rfl Kz) ?_
  obtain ⟨I1, L1, H1, F1⟩ := vq_cutx (I := I) (L := L) (R := R) (n := n) (sl := sl) a hW hf (by omega) (by omega)
  have Z1 := F1.1
  have Sb : vr_S L1 b = vr_S L b := vq_rf_S F1 (by omega) (by omega)
  refine jv_Wp.lift (fun _ Kz => jv_Ev.c jv_i249 (pc' := 65) (S' := []) (G1 := (jv_H K I1 L1 R)) jv_i219 [.ref 208, .int (vl_I a), .int (0 : Int32), .int (32 : Int32)] rfl rfl rfl rfl (jv_cal rfl (jv_H_at (jv_rwK hW 208 11 7 (by decide))) rfl rfl) rfl H1 rfl rfl Kz) ?_
  refine jv_Wp.lift (fun _ Kz => jv_Ev.steps jv_i249 4 (pc' := 71) (l' := [(6, .int (vl_I a)), (0, .ref 208), (1, .int (11 : Int32)), (2, .int (32 : Int32)), (3, .int (7 : Int32)), (4, .int (vl_I a)), (5, .int (vl_I b))]) (st' := [.int (32 : Int32), .int (1 : Int32), .int (vl_I b), .ref 208]) rfl Kz) ?_
  obtain ⟨I2, L2, H2, S2, E2, F2⟩ := vq_cutg (I := I1) (L := L1) (R := R) (n := n) (sl := sl) (a := b) (d := 1) (m := 32) (by decide) hW (by omega) (by decide) (by decide) Z1 (Z1 b (by omega)) (by rw [Sb]; exact hy.low)
  have Z2 := F2.1
  refine jv_Wp.lift (fun _ Kz => jv_Ev.c jv_i249 (pc' := 74) (S' := []) (G1 := (jv_H K I2 L2 R)) jv_i219 [.ref 208, .int (vl_I b), .int (1 : Int32), .int (32 : Int32)] rfl rfl rfl rfl (jv_cal rfl (jv_H_at (jv_rwK hW 208 11 7 (by decide))) rfl rfl) rfl H2 rfl rfl Kz) ?_
  refine jv_Wp.lift (fun _ Kz => jv_Ev.steps jv_i249 3 (pc' := 78) (l' := [(6, .int (vl_I a)), (0, .ref 208), (1, .int (11 : Int32)), (2, .int (32 : Int32)), (3, .int (7 : Int32)), (4, .int (vl_I a)), (5, .int (vl_I b))]) (st' := [.int (31 : Int32), .int (11 : Int32), .ref 208]) rfl Kz) ?_
  obtain ⟨I3, L3, H3, S3, F3⟩ := vq_app11 (I := I2) (L := L2) (R := R) (n := n) (sl := sl) (31 : Int32) hW Z2 E2 (by rw [S2, Sb, vb_toS_toR]; exact tt1.low)
  have Z3 := F3.1
  refine jv_Wp.lift (fun _ Kz => jv_Ev.c jv_i249 (pc' := 81) (S' := []) (G1 := (jv_H K I3 L3 R)) jv_i238 [.ref 208, .int (11 : Int32), .int (31 : Int32)] rfl rfl rfl rfl (jv_cal rfl (jv_H_at (jv_rwK hW 208 11 7 (by decide))) rfl rfl) rfl H3 rfl rfl Kz) ?_
  refine jv_Wp.lift (fun _ Kz => jv_Ev.steps jv_i249 3 (pc' := 84) (l' := [(6, .int (vl_I a)), (0, .ref 208), (1, .int (11 : Int32)), (2, .int (32 : Int32)), (3, .int (7 : Int32)), (4, .int (vl_I a)), (5, .int (vl_I b))]) (st' := [.int (0 : Int32), .int (2 : Int32), .ref 208]) rfl Kz) ?_
  obtain ⟨I4, L4, H4, S4, E4, F4⟩ := vq_copyg (I := I3) (L := L3) (R := R) (n := n) (sl := sl) (a := 2) (d := 0) hW (by decide) (by decide) Z3 (Z3 2 (by decide))
  have Z4 := F4.1
  refine jv_Wp.lift (fun _ Kz => jv_Ev.c jv_i249 (pc' := 87) (S' := []) (G1 := (jv_H K I4 L4 R)) jv_i208 [.ref 208, .int (2 : Int32), .int (0 : Int32)] rfl rfl rfl rfl (jv_cal rfl (jv_H_at (jv_rwK hW 208 11 7 (by decide))) rfl rfl) rfl H4 rfl rfl Kz) ?_
  refine jv_Wp.lift (fun _ Kz => jv_Ev.steps jv_i249 4 (pc' := 92) (l' := [(6, .int (vl_I a)), (0, .ref 208), (1, .int (11 : Int32)), (2, .int (32 : Int32)), (3, .int (7 : Int32)), (4, .int (vl_I a)), (5, .int (vl_I b))]) (st' := [.int (32 : Int32), .int (7 : Int32), .int (0 : Int32), .ref 208]) rfl Kz) ?_
  obtain ⟨I5, L5, H5, S5, E5, F5⟩ := vq_cutg (I := I4) (L := L4) (R := R) (n := n) (sl := sl) (a := 0) (d := 7) (m := 32) (by decide) hW (by decide) (by decide) (by decide) Z4 E4 (by rw [S4, S3, S2, Sb, vb_toS_toR, vb_toS_toR]; exact tt2.low)
  have Z5 := F5.1
  refine jv_Wp.lift (fun _ Kz => jv_Ev.c jv_i249 (pc' := 95) (S' := []) (G1 := (jv_H K I5 L5 R)) jv_i219 [.ref 208, .int (0 : Int32), .int (7 : Int32), .int (32 : Int32)] rfl rfl rfl rfl (jv_cal rfl (jv_H_at (jv_rwK hW 208 11 7 (by decide))) rfl rfl) rfl H5 rfl rfl Kz) ?_
  refine jv_Wp.of (jv_Ev.ret jv_i249 rfl rfl) ?_
  rw [hQ]
  refine ⟨_, _, rfl, ?_, ?_⟩
  · rw [S5, S4, S3, S2, Sb, vb_toS_toR, vb_toS_toR]; unfold vx_op32 vx_op; rw [vb_cOp11]
  · exact vq_rft F1 (vq_rft F2 (vq_rft F3 (vq_rft F4 F5 (by decide)) (by decide)) (by decide)) (by decide)
theorem vq_op11w {K : Nat → Option (Nat × Nat)} {I : Nat → Nat → Int32} {L : Nat → Nat → Int64} {R : Nat → Nat → Value} (a b : Nat) (hW : jv_rW K R) (hf : vr_fl I) (ha : a < 77200) (ha2 : 5 ≤ a) (hb : b < 77200) (hb2 : 5 ≤ b) (hy : vb_tight (vb_toS (vr_S L b))) {n sl : Nat} : ∃ I1 L1, jv_Ms 249 [.ref 208, .int (11 : Int32), .int (64 : Int32), .int (7 : Int32), .int (vl_I a), .int (vl_I b)] (jv_H K I L R) n sl (none, jv_H K I1 L1 R, n, sl) ∧ vr_S L1 7 = vb_toR (vb_toS (vr_S L b)) ∧ vq_rf 7 I L I1 L1 := by
  obtain ⟨Q, hQ⟩ : ∃ Q : jv_R → Prop, Q = fun X => ∃ I1 L1, X = (none, jv_H K I1 L1 R, n, sl) ∧ vr_S L1 7 = vb_toR (vb_toS (vr_S L b)) ∧ vq_rf 7 I L I1 L1 := ⟨_, rfl⟩
  suffices h : jv_Wp 249 0 [(0, .ref 208), (1, .int (11 : Int32)), (2, .int (64 : Int32)), (3, .int (7 : Int32)), (4, .int (vl_I a)), (5, .int (vl_I b))] [] (jv_H K I L R) n sl Q by
    rw [hQ] at h
    obtain ⟨X, h, I1, L1, e, h'⟩ := h
    subst e
    exact ⟨I1, L1, h, h'⟩
  refine jv_Wp.lift (fun _ Kz => jv_Ev.steps jv_i249 2 (pc' := 3) (l' := [(0, .ref 208), (1, .int (11 : Int32)), (2, .int (64 : Int32)), (3, .int (7 : Int32)), (4, .int (vl_I a)), (5, .int (vl_I b))]) (st' := [.int (64 : Int32), .int (64 : Int32)]) rfl Kz) ?_
  refine jv_Wp.lift (fun _ Kz => jv_Ev.br jv_i249 (pc' := 6) (st' := []) rfl (by rfl) Kz) ?_
  refine jv_Wp.lift (fun _ Kz => jv_Ev.steps jv_i249 3 (pc' := 10) (l' := [(0, .ref 208), (1, .int (11 : Int32)), (2, .int (64 : Int32)), (3, .int (7 : Int32)), (4, .int (vl_I a)), (5, .int (vl_I b))]) (st' := [.int (0 : Int32), .int (vl_I a), .ref 208]) rfl Kz) ?_
  obtain ⟨I1, L1, H1, S1, E1, F1⟩ := vq_copyg (I := I) (L := L) (R := R) (n := n) (sl := sl) (a := a) (d := 0) hW (by omega) (by omega) hf (hf a (by omega))
  have Z1 := F1.1
  have Sb : vr_S L1 b = vr_S L b := vq_rf_S F1 (by omega) (by omega)
  refine jv_Wp.lift (fun _ Kz => jv_Ev.c jv_i249 (pc' := 13) (S' := []) (G1 := (jv_H K I1 L1 R)) jv_i208 [.ref 208, .int (vl_I a), .int (0 : Int32)] rfl rfl rfl rfl (jv_cal rfl (jv_H_at (jv_rwK hW 208 11 7 (by decide))) rfl rfl) rfl H1 rfl rfl Kz) ?_
  refine jv_Wp.lift (fun _ Kz => jv_Ev.steps jv_i249 3 (pc' := 17) (l' := [(0, .ref 208), (1, .int (11 : Int32)), (2, .int (64 : Int32)), (3, .int (7 : Int32)), (4, .int (vl_I a)), (5, .int (vl_I b))]) (st' := [.int (1 : Int32), .int (vl_I b), .ref 208]) rfl Kz) ?_
  obtain ⟨I2, L2, H2, S2, E2, F2⟩ := vq_copyg (I := I1) (L := L1) (R := R) (n := n) (sl := sl) (a := b) (d := 1) hW (by omega) (by omega) Z1 (Z1 b (by omega))
  have Z2 := F2.1
  refine jv_Wp.lift (fun _ Kz => jv_Ev.c jv_i249 (pc' := 20) (S' := []) (G1 := (jv_H K I2 L2 R)) jv_i208 [.ref 208, .int (vl_I b), .int (1 : Int32)] rfl rfl rfl rfl (jv_cal rfl (jv_H_at (jv_rwK hW 208 11 7 (by decide))) rfl rfl) rfl H2 rfl rfl Kz) ?_
  refine jv_Wp.lift (fun _ Kz => jv_Ev.steps jv_i249 3 (pc' := 24) (l' := [(0, .ref 208), (1, .int (11 : Int32)), (2, .int (64 : Int32)), (3, .int (7 : Int32)), (4, .int (vl_I a)), (5, .int (vl_I b))]) (st' := [.int (63 : Int32), .int (11 : Int32), .ref 208]) rfl Kz) ?_
  obtain ⟨I3, L3, H3, S3, F3⟩ := vq_app11 (I := I2) (L := L2) (R := R) (n := n) (sl := sl) (63 : Int32) hW Z2 E2 (by rw [S2, Sb]; exact hy.low)
  have Z3 := F3.1
  refine jv_Wp.lift (fun _ Kz => jv_Ev.c jv_i249 (pc' := 27) (S' := []) (G1 := (jv_H K I3 L3 R)) jv_i238 [.ref 208, .int (11 : Int32), .int (63 : Int32)] rfl rfl rfl rfl (jv_cal rfl (jv_H_at (jv_rwK hW 208 11 7 (by decide))) rfl rfl) rfl H3 rfl rfl Kz) ?_
  refine jv_Wp.lift (fun _ Kz => jv_Ev.steps jv_i249 3 (pc' := 30) (l' := [(0, .ref 208), (1, .int (11 : Int32)), (2, .int (64 : Int32)), (3, .int (7 : Int32)), (4, .int (vl_I a)), (5, .int (vl_I b))]) (st' := [.int (7 : Int32), .int (2 : Int32), .ref 208]) rfl Kz) ?_
  obtain ⟨I4, L4, H4, S4, E4, F4⟩ := vq_copyg (I := I3) (L := L3) (R := R) (n := n) (sl := sl) (a := 2) (d := 7) hW (by omega) (by omega) Z3 (Z3 2 (by omega))
  have Z4 := F4.1
  refine jv_Wp.lift (fun _ Kz => jv_Ev.c jv_i249 (pc' := 33) (S' := []) (G1 := (jv_H K I4 L4 R)) jv_i208 [.ref 208, .int (2 : Int32), .int (7 : Int32)] rfl rfl rfl rfl (jv_cal rfl (jv_H_at (jv_rwK hW 208 11 7 (by decide))) rfl rfl) rfl H4 rfl rfl Kz) ?_
  refine jv_Wp.of (jv_Ev.ret jv_i249 rfl rfl) ?_
  rw [hQ]
  refine ⟨_, _, rfl, ?_, ?_⟩
  · rw [S4, S3, S2, Sb, vb_tt_of hy]
  · exact vq_rft F1 (vq_rft F2 (vq_rft F3 F4 (by decide)) (by decide)) (by decide)