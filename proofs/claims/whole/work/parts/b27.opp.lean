/-! part b27: the opposite comparison (gen/tb27.py) -/
theorem jv_i176 : jv_I 176 1 (some .int) 0 0 jv_c176 := ⟨rfl, rfl, rfl, rfl, rfl⟩
theorem vl_opposite {K : Nat → Option (Nat × Nat)} {I : Nat → Nat → Int32} {L : Nat → Nat → Int64} {R : Nat → Nat → Value} (c : Nat) (hc : c < 12) (hst : K (1000000 + 1) = some (110, 12)) (hv : ∀ j, j < 12 → I (1000000 + 1) j = vl_I (vb_opp j)) {n sl : Nat} : ∃ I1 L1, jv_Ms 176 [.int (vl_I c)] (jv_H K I L R) n sl (some (.int (vl_I (vb_opp c))), jv_H K I1 L1 R, n, sl) ∧ I1 = I ∧ L1 = L := by
  obtain ⟨Q, hQ⟩ : ∃ Q : jv_R → Prop, Q = fun X => ∃ I1 L1, X = (some (.int (vl_I (vb_opp c))), jv_H K I1 L1 R, n, sl) ∧ I1 = I ∧ L1 = L := ⟨_, rfl⟩
  suffices h : jv_Wp 176 0 [(0, .int (vl_I c))] [] (jv_H K I L R) n sl Q by
    rw [hQ] at h
    obtain ⟨X, h, I1, L1, e, h'⟩ := h
    subst e
    exact ⟨I1, L1, h, h'⟩
  have hn0 : ¬ vl_I c < 0 := fun z => absurd ((vl_I_lt (b := 0) (by omega) (by decide)).mp z) (by omega)
  have hlt : vl_I c < Int32.ofNat 12 := (vl_I_lt (b := 12) (by omega) (by decide)).mpr hc
  refine jv_Wp.lift (fun _ Kz => jv_Ev.steps jv_i176 1 (pc' := 1) (l' := [(0, .int (vl_I c))]) (st' := [.int (vl_I c)]) rfl Kz) ?_
  refine jv_Wp.cnd jv_i176 (pt := 12) (pe := 4) (p := ((vl_I c) < 0)) (q := ((vl_I c) < 0)) rfl jv_bi_lt rfl rfl Iff.rfl (fun hz => absurd hz hn0) (fun _ => ?_)
  refine jv_Wp.lift (fun _ Kz => jv_Ev.steps jv_i176 2 (pc' := 8) (l' := [(0, .int (vl_I c))]) (st' := [.ref (1000000 + 1), .int (vl_I c)]) rfl Kz) ?_
  refine jv_Wp.lift (fun _ Kz => jv_Ev.m jv_i176 (pc' := 9) (st' := [.int (Int32.ofNat 12), .int (vl_I c)]) (G' := (jv_H K I L R)) rfl rfl (jv_m_len hst rfl) Kz) ?_
  refine jv_Wp.cnd jv_i176 (pt := 16) (pe := 12) (p := ((vl_I c) < (Int32.ofNat 12))) (q := ((vl_I c) < (Int32.ofNat 12))) rfl jv_bc_lt rfl rfl Iff.rfl (fun _ => ?_) (fun hz => absurd hlt hz)
  refine jv_Wp.lift (fun _ Kz => jv_Ev.steps jv_i176 2 (pc' := 20) (l' := [(0, .int (vl_I c))]) (st' := [.int (vl_I c), .ref (1000000 + 1)]) rfl Kz) ?_
  refine jv_Wp.lift (fun _ Kz => jv_Ev.m jv_i176 (pc' := 21) (st' := [.int (I (1000000 + 1) (vl_I c).toNatClampNeg)]) (G' := (jv_H K I L R)) rfl rfl (jv_m_ialdv hst rfl (vl_I_ix (by omega) (by decide)) rfl rfl) Kz) ?_
  refine jv_Wp.of (jv_Ev.ret jv_i176 rfl rfl) ?_
  rw [hQ]
  exact ⟨_, _, by rw [vl_I_nat (by omega), hv c (by omega)], rfl, rfl⟩