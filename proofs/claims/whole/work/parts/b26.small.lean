/-! part b26: small numbers, maps that take a call (gen/tb26.py) -/
theorem jv_i43 : jv_I 43 1 (some .boolean) 0 0 jv_c43 := ⟨rfl, rfl, rfl, rfl, rfl⟩
theorem vc_isSmall {K : Nat → Option (Nat × Nat)} {I : Nat → Nat → Int32} {L : Nat → Nat → Int64} {R : Nat → Nat → Value} {x : Nat} (hvx : jv_isV K x) {n sl : Nat} : ∃ I1 L1, jv_Ms 43 [.ref x] (jv_H K I L R) n sl (some (.int (vr_b (vx_small (vl_S L x)))), jv_H K I1 L1 R, n, sl) ∧ I1 = I ∧ L1 = L := by
  obtain ⟨Q, hQ⟩ : ∃ Q : jv_R → Prop, Q = fun X => ∃ I1 L1, X = (some (.int (vr_b (vx_small (vl_S L x)))), jv_H K I1 L1 R, n, sl) ∧ I1 = I ∧ L1 = L := ⟨_, rfl⟩
  suffices h : jv_Wp 43 0 [(0, .ref x)] [] (jv_H K I L R) n sl Q by
    rw [hQ] at h
    obtain ⟨X, h, I1, L1, e, h'⟩ := h
    subst e
    exact ⟨I1, L1, h, h'⟩
  refine jv_Wp.lift (fun _ Kz => jv_Ev.steps jv_i43 1 (pc' := 1) (l' := [(0, .ref x)]) (st' := [.ref x]) rfl Kz) ?_
  refine jv_Wp.lift (fun _ Kz => jv_Ev.m jv_i43 (pc' := 4) (st' := [.long (L x 4)]) (G' := (jv_H K I L R)) rfl rfl (jv_v_getL hvx rfl rfl) Kz) ?_
  refine jv_Wp.lift (fun _ Kz => jv_Ev.steps jv_i43 2 (pc' := 6) (l' := [(0, .ref x)]) (st' := [.int (lg_cmp (L x 4) (0 : Int64))]) rfl Kz) ?_
  refine jv_Wp.cnd jv_i43 (pt := 24) (pe := 9) (p := ((lg_cmp (L x 4) (0 : Int64)) < 0)) (q := ((L x 4) < (0 : Int64))) rfl jv_bi_lt rfl rfl (lg_cmp_lt (L x 4) (0 : Int64)) (fun h1 => ?_) (fun h1 => ?_)
  · refine jv_Wp.lift (fun _ Kz => jv_Ev.steps jv_i43 1 (pc' := 25) (l' := [(0, .ref x)]) (st' := [.int (0 : Int32)]) rfl Kz) ?_
    refine jv_Wp.of (jv_Ev.ret jv_i43 rfl (jv_ret_b (Or.inl rfl))) ?_
    rw [hQ]
    have q0 := Int64.lt_iff_toInt_lt.mp h1
    have q0 : ((L x 4).toInt < 0) := q0
    have c : ¬ (0 ≤ (L x 4).toInt ∧ (L x 5).toInt ≤ 2147483647) := by omega
    have e : vx_small (vl_S L x) = false := by
      show (decide (0 ≤ (L x 4).toInt) && decide ((L x 5).toInt ≤ 2147483647)) = _
      rw [← Bool.decide_and]; exact decide_eq_false c
    rw [e]
    exact ⟨_, _, rfl, rfl, rfl⟩
  · refine jv_Wp.lift (fun _ Kz => jv_Ev.steps jv_i43 1 (pc' := 10) (l' := [(0, .ref x)]) (st' := [.ref x]) rfl Kz) ?_
    refine jv_Wp.lift (fun _ Kz => jv_Ev.m jv_i43 (pc' := 13) (st' := [.long (L x 5)]) (G' := (jv_H K I L R)) rfl rfl (jv_v_getL hvx rfl rfl) Kz) ?_
    refine jv_Wp.lift (fun _ Kz => jv_Ev.steps jv_i43 2 (pc' := 17) (l' := [(0, .ref x)]) (st' := [.int (lg_cmp (L x 5) (2147483647 : Int64))]) rfl Kz) ?_
    refine jv_Wp.cnd jv_i43 (pt := 24) (pe := 20) (p := (0 < (lg_cmp (L x 5) (2147483647 : Int64)))) (q := ((2147483647 : Int64) < (L x 5))) rfl jv_bi_gt rfl rfl (lg_cmp_gt (L x 5) (2147483647 : Int64)) (fun h2 => ?_) (fun h2 => ?_)
    · refine jv_Wp.lift (fun _ Kz => jv_Ev.steps jv_i43 1 (pc' := 25) (l' := [(0, .ref x)]) (st' := [.int (0 : Int32)]) rfl Kz) ?_
      refine jv_Wp.of (jv_Ev.ret jv_i43 rfl (jv_ret_b (Or.inl rfl))) ?_
      rw [hQ]
      have q0 := (not_congr Int64.lt_iff_toInt_lt).mp h1
      have q0 : ¬ ((L x 4).toInt < 0) := q0
      have q1 := Int64.lt_iff_toInt_lt.mp h2
      have q1 : (2147483647 < (L x 5).toInt) := q1
      have c : ¬ (0 ≤ (L x 4).toInt ∧ (L x 5).toInt ≤ 2147483647) := by omega
      have e : vx_small (vl_S L x) = false := by
        show (decide (0 ≤ (L x 4).toInt) && decide ((L x 5).toInt ≤ 2147483647)) = _
        rw [← Bool.decide_and]; exact decide_eq_false c
      rw [e]
      exact ⟨_, _, rfl, rfl, rfl⟩
    · refine jv_Wp.lift (fun _ Kz => jv_Ev.steps jv_i43 2 (pc' := 25) (l' := [(0, .ref x)]) (st' := [.int (1 : Int32)]) rfl Kz) ?_
      refine jv_Wp.of (jv_Ev.ret jv_i43 rfl (jv_ret_b (Or.inr rfl))) ?_
      rw [hQ]
      have q0 := (not_congr Int64.lt_iff_toInt_lt).mp h1
      have q0 : ¬ ((L x 4).toInt < 0) := q0
      have q1 := (not_congr Int64.lt_iff_toInt_lt).mp h2
      have q1 : ¬ (2147483647 < (L x 5).toInt) := q1
      have c : (0 ≤ (L x 4).toInt ∧ (L x 5).toInt ≤ 2147483647) := by omega
      have e : vx_small (vl_S L x) = true := by
        show (decide (0 ≤ (L x 4).toInt) && decide ((L x 5).toInt ≤ 2147483647)) = _
        rw [decide_eq_true c.1, decide_eq_true c.2]; rfl
      rw [e]
      exact ⟨_, _, rfl, rfl, rfl⟩