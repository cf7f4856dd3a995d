/-! part b26: small numbers, maps that take a call (gen/tb26.py) -/
theorem jv_i43 : jv_I 43 1 (some .boolean) 0 0 jv_c43 := ⟨rfl, rfl, rfl, rfl, rfl⟩
theorem vc_isSmall {K : Nat → Option (Nat × Nat)} {I : Nat → Nat → Int32} {L : Nat → Nat → Int64} {R : Nat → Nat → Value} {x : Nat} (hvx : jv_isV K x) {n sl : Nat} : ∃ I1 L1, jv_Ms 43 [.ref x] (jv_H K I L R) n sl (some (.int (vr_b (vx_small (vl_S L x)))), jv_H K I1 L1 R, n, sl) ∧ I1 = I ∧ L1 = L := by
  obtain ⟨Q, hQ⟩ : ∃ Q : jv_R → Prop, Q = fun X => ∃ I1 L1, X = (some (.int (vr_b (vx_small (vl_S L x)))), jv_H K I1 L1 R, n, sl) ∧ I1 = I ∧ L1 = L := ⟨_, rfl⟩
  suffices h : jv_Wp 43 0 [(0, .ref x)] [] (jv_H K I L R) n sl Q by
    rw [hQ] at h
    obtain ⟨X, h, I1, L1, e, h'⟩ := h
    subst e
    exact ⟨I1, L1, h, h'⟩
  refine jv_Wp.lift (fun _ Kz => jv_Ev.steps jv_i43 1 (pc' := 1) (l' := [(0, .ref x)]) (st' := [.ref x]) rfl Kz) ?_
  refine jv_Wp.lift (fun _ Kz => jv_Ev.m jv_i43 (pc' := 4) (st' := [.long (L x 4)]) (G' := (jv_H K I L R)) rfl rfl (jv_v_getL hvx rfl rfl) Kz) ?_
  refine jv_Wp.lift (fun _ Kz => jv_Ev.steps jv_i43 2 (pc' := 6) (l' := [(0, .ref x)]) (st' := [.int (lg_cmp (L x 4) (0 : Int64))]) rfl Kz) ?_
  refine jv_Wp.cnd jv_i43 (pt := 24) (pe := 9) (p := ((lg_cmp (L x 4) (0 : Int64)) < 0)) (q := ((L x 4) < (0 : Int64))) rfl jv_bi_lt rfl rfl (lg_cmp_lt (L x 4) (0 : Int64)) (fun h1 => ?_) (fun h1 => ?_)
  · refine jv_Wp.lift (fun _ Kz => jv_Ev.steps jv_i43 1 (pc' := 25) (l' := [(0, .ref x)]) (st' := [.int (0 : Int32)]) rfl Kz) ?_
    refine jv_Wp.of (jv_Ev.ret jv_i43 rfl (jv_ret_b (Or.inl rfl))) ?_
    rw [hQ]
    have q0 := Int64.lt_iff_toInt_lt.mp h1
    have q0 : ((L x 4).toInt < 0) := q0
    have c : ¬ (0 ≤ (L x 4).toInt ∧ (L x 5).toInt ≤ 2147483647) := by omega
    have e : vx_small (vl_S L x) = false := by
      show (decide (0 ≤ (L x 4).toInt) && decide ((L x 5).toInt ≤ 2147483647)) = _
      rw [← Bool.decide_and]; exact decide_eq_false c
    rw [e]
    exact ⟨_, _, rfl, rfl, rfl⟩
  · refine jv_Wp.lift (fun _ Kz => jv_Ev.steps jv_i43 1 (pc' := 10) (l' := [(0, .ref x)]) (st' := [.ref x]) rfl Kz) ?_
    refine jv_Wp.lift (fun _ Kz => jv_Ev.m jv_i43 (pc' := 13) (st' := [.long (L x 5)]) (G' := (jv_H K I L R)) rfl rfl (jv_v_getL hvx rfl rfl) Kz) ?_
    refine jv_Wp.lift (fun _ Kz => jv_Ev.steps jv_i43 2 (pc' := 17) (l' := [(0, .ref x)]) (st' := [.int (lg_cmp (L x 5) (2147483647 : Int64))]) rfl Kz) ?_
    refine jv_Wp.cnd jv_i43 (pt := 24) (pe := 20) (p := (0 < (lg_cmp (L x 5) (2147483647 : Int64)))) (q := ((2147483647 : Int64) < (L x 5))) rfl jv_bi_gt rfl rfl (lg_cmp_gt (L x 5) (2147483647 : Int64)) (fun h2 => ?_) (fun h2 => ?_)
    · refine jv_Wp.lift (fun _ Kz => jv_Ev.steps jv_i43 1 (pc' := 25) (l' := [(0, .ref x)]) (st' := [.int (0 : Int32)]) rfl Kz) ?_
      refine jv_Wp.of (jv_Ev.ret jv_i43 rfl (jv_ret_b (Or.inl rfl))) ?_
      rw [hQ]
      have q0 := (not_congr Int64.lt_iff_toInt_lt).mp h1
      have q0 : ¬ ((L x 4).toInt < 0) := q0
      have q1 := Int64.lt_iff_toInt_lt.mp h2
      have q1 : (2147483647 < (L x 5).toInt) := q1
      have c : ¬ (0 ≤ (L x 4).toInt ∧ (L x 5).toInt ≤ 2147483647) := by omega
      have e : vx_small (vl_S L x) = false := by
        show (decide (0 ≤ (L x 4).toInt) && decide ((L x 5).toInt ≤ 2147483647)) = _
        rw [← Bool.decide_and]; exact decide_eq_false c
      rw [e]
      exact ⟨_, _, rfl, rfl, rfl⟩
    · refine jv_Wp.lift (fun _ Kz => jv_Ev.steps jv_i43 2 (pc' := 25) (l' := [(0, .ref x)]) (st' := [.int (1 : Int32)]) rfl Kz) ?_
      refine jv_Wp.of (jv_Ev.ret jv_i43 rfl (jv_ret_b (Or.inr rfl))) ?_
      rw [hQ]
      have q0 := (not_congr Int64.lt_iff_toInt_lt).mp h1
      have q0 : ¬ ((L x 4).toInt < 0) := q0
      have q1 := (not_congr Int64.lt_iff_toInt_lt).mp h2
      have q1 : ¬ (2147483647 < (L x 5).toInt) := q1
      have c : (0 ≤ (L x 4).toInt ∧ (L x 5).toInt ≤ 2147483647) := by omega
      have e : vx_small (vl_S L x) = true := by
        show (decide (0 ≤ (L x 4).toInt) && decide ((L x 5).toInt ≤ 2147483647)) = _
        rw [decide_eq_true c.1, decide_eq_true c.2]; rfl
      rw [e]
      exact ⟨_, _, rfl, rfl, rfl⟩
theorem jv_i47 : jv_I 47 2 (some .boolean) 0 0 jv_c47 := ⟨rfl, rfl, rfl, rfl, rfl⟩
theorem vc_takes {K : Nat → Option (Nat × Nat)} {I : Nat → Nat → Int32} {L : Nat → Nat → Int64} {R : Nat → Nat → Value} {o : Nat} {e : Nat × Nat × Nat} (c : Nat) (hm : vc_m K I o e) (hc : c < 16) {n sl : Nat} : ∃ I1 L1, jv_Ms 47 [.ref o, .int (vl_I c)] (jv_H K I L R) n sl (some (.int (vr_b (decide (if c = 4 then e.1 = 2 else if c = 3 then e.1 = 1 else e.1 ≠ 2)))), jv_H K I1 L1 R, n, sl) ∧ I1 = I ∧ L1 = L := by
  obtain ⟨Q, hQ⟩ : ∃ Q : jv_R → Prop, Q = fun X => ∃ I1 L1, X = (some (.int (vr_b (decide (if c = 4 then e.1 = 2 else if c = 3 then e.1 = 1 else e.1 ≠ 2)))), jv_H K I1 L1 R, n, sl) ∧ I1 = I ∧ L1 = L := ⟨_, rfl⟩
  suffices h : jv_Wp 47 0 [(0, .ref o), (1, .int (vl_I c))] [] (jv_H K I L R) n sl Q by
    rw [hQ] at h
    obtain ⟨X, h, I1, L1, e, h'⟩ := h
    subst e
    exact ⟨I1, L1, h, h'⟩
  have he := hm.2.2.2.2.2.1
  refine jv_Wp.lift (fun _ Kz => jv_Ev.steps jv_i47 1 (pc' := 1) (l' := [(0, .ref o), (1, .int (vl_I c))]) (st' := [.int (vl_I c)]) rfl Kz) ?_
  refine jv_Wp.bys (q := ((vl_I c) = Int32.ofInt 3)) (fun h1 => ?_) (fun h1 => ?_)
  · refine jv_Wp.lift (fun _ Kz => jv_Ev.br jv_i47 (pc' := 42) (st' := []) rfl (by rw [h1]; rfl) Kz) ?_
    refine jv_Wp.lift (fun _ Kz => jv_Ev.steps jv_i47 1 (pc' := 43) (l' := [(0, .ref o), (1, .int (vl_I c))]) (st' := [.ref o]) rfl Kz) ?_
    refine jv_Wp.lift (fun _ Kz => jv_Ev.m jv_i47 (pc' := 46) (st' := [.int (I o 0)]) (G' := (jv_H K I L R)) rfl rfl (vc_m_get hm (by decide) rfl) Kz) ?_
    refine jv_Wp.lift (fun _ Kz => jv_Ev.steps jv_i47 1 (pc' := 47) (l' := [(0, .ref o), (1, .int (vl_I c))]) (st' := [.int (1 : Int32), .int (I o 0)]) rfl Kz) ?_
    refine jv_Wp.cnd jv_i47 (pt := 54) (pe := 50) (p := (¬ (I o 0) = (1 : Int32))) (q := (¬ (I o 0) = (1 : Int32))) rfl jv_bc_ne rfl rfl Iff.rfl (fun h2 => ?_) (fun h2 => ?_)
    · refine jv_Wp.lift (fun _ Kz => jv_Ev.steps jv_i47 1 (pc' := 55) (l' := [(0, .ref o), (1, .int (vl_I c))]) (st' := [.int (0 : Int32)]) rfl Kz) ?_
      refine jv_Wp.of (jv_Ev.ret jv_i47 rfl (jv_ret_b (Or.inl rfl))) ?_
      rw [hQ]
      have q0 : c = 3 := (vl_I_inj (by omega) (by decide)).mp h1
      have q1 : ¬ e.1 = 1 := fun z => h2 (by rw [hm.2.2.1, z]; rfl)
      have cc : ¬ (if c = 4 then e.1 = 2 else if c = 3 then e.1 = 1 else e.1 ≠ 2) := by
        by_cases c4 : c = 4
        · rw [if_pos c4]; omega
        · rw [if_neg c4]
          by_cases c3 : c = 3
          · rw [if_pos c3]; omega
          · rw [if_neg c3]; omega
      rw [decide_eq_false cc]
      exact ⟨_, _, rfl, rfl, rfl⟩
    · refine jv_Wp.lift (fun _ Kz => jv_Ev.steps jv_i47 2 (pc' := 55) (l' := [(0, .ref o), (1, .int (vl_I c))]) (st' := [.int (1 : Int32)]) rfl Kz) ?_
      refine jv_Wp.of (jv_Ev.ret jv_i47 rfl (jv_ret_b (Or.inr rfl))) ?_
      rw [hQ]
      have q0 : c = 3 := (vl_I_inj (by omega) (by decide)).mp h1
      have q1 : e.1 = 1 := (vl_I_inj (by omega) (by decide)).mp (hm.2.2.1.symm.trans (Classical.not_not.mp h2))
      have cc : (if c = 4 then e.1 = 2 else if c = 3 then e.1 = 1 else e.1 ≠ 2) := by
        by_cases c4 : c = 4
        · rw [if_pos c4]; omega
        · rw [if_neg c4]
          by_cases c3 : c = 3
          · rw [if_pos c3]; omega
          · rw [if_neg c3]; omega
      rw [decide_eq_true cc]
      exact ⟨_, _, rfl, rfl, rfl⟩
  · refine jv_Wp.bys (q := ((vl_I c) = Int32.ofInt 4)) (fun h3 => ?_) (fun h3 => ?_)
    · refine jv_Wp.lift (fun _ Kz => jv_Ev.br jv_i47 (pc' := 28) (st' := []) rfl (by rw [h3]; rfl) Kz) ?_
      refine jv_Wp.lift (fun _ Kz => jv_Ev.steps jv_i47 1 (pc' := 29) (l' := [(0, .ref o), (1, .int (vl_I c))]) (st' := [.ref o]) rfl Kz) ?_
      refine jv_Wp.lift (fun _ Kz => jv_Ev.m jv_i47 (pc' := 32) (st' := [.int (I o 0)]) (G' := (jv_H K I L R)) rfl rfl (vc_m_get hm (by decide) rfl) Kz) ?_
      refine jv_Wp.lift (fun _ Kz => jv_Ev.steps jv_i47 1 (pc' := 33) (l' := [(0, .ref o), (1, .int (vl_I c))]) (st' := [.int (2 : Int32), .int (I o 0)]) rfl Kz) ?_
      refine jv_Wp.cnd jv_i47 (pt := 40) (pe := 36) (p := (¬ (I o 0) = (2 : Int32))) (q := (¬ (I o 0) = (2 : Int32))) rfl jv_bc_ne rfl rfl Iff.rfl (fun h4 => ?_) (fun h4 => ?_)
      · refine jv_Wp.lift (fun _ Kz => jv_Ev.steps jv_i47 1 (pc' := 41) (l' := [(0, .ref o), (1, .int (vl_I c))]) (st' := [.int (0 : Int32)]) rfl Kz) ?_
        refine jv_Wp.of (jv_Ev.ret jv_i47 rfl (jv_ret_b (Or.inl rfl))) ?_
        rw [hQ]
        have q0 : ¬ c = 3 := fun z => h1 (by rw [z]; rfl)
        have q1 : c = 4 := (vl_I_inj (by omega) (by decide)).mp h3
        have q2 : ¬ e.1 = 2 := fun z => h4 (by rw [hm.2.2.1, z]; rfl)
        have cc : ¬ (if c = 4 then e.1 = 2 else if c = 3 then e.1 = 1 else e.1 ≠ 2) := by
          by_cases c4 : c = 4
          · rw [if_pos c4]; omega
          · rw [if_neg c4]
            by_cases c3 : c = 3
            · rw [if_pos c3]; omega
            · rw [if_neg c3]; omega
        rw [decide_eq_false cc]
        exact ⟨_, _, rfl, rfl, rfl⟩
      · refine jv_Wp.lift (fun _ Kz => jv_Ev.steps jv_i47 2 (pc' := 41) (l' := [(0, .ref o), (1, .int (vl_I c))]) (st' := [.int (1 : Int32)]) rfl Kz) ?_
        refine jv_Wp.of (jv_Ev.ret jv_i47 rfl (jv_ret_b (Or.inr rfl))) ?_
        rw [hQ]
        have q0 : ¬ c = 3 := fun z => h1 (by rw [z]; rfl)
        have q1 : c = 4 := (vl_I_inj (by omega) (by decide)).mp h3
        have q2 : e.1 = 2 := (vl_I_inj (by omega) (by decide)).mp (hm.2.2.1.symm.trans (Classical.not_not.mp h4))
        have cc : (if c = 4 then e.1 = 2 else if c = 3 then e.1 = 1 else e.1 ≠ 2) := by
          by_cases c4 : c = 4
          · rw [if_pos c4]; omega
          · rw [if_neg c4]
            by_cases c3 : c = 3
            · rw [if_pos c3]; omega
            · rw [if_neg c3]; omega
        rw [decide_eq_true cc]
        exact ⟨_, _, rfl, rfl, rfl⟩
    · refine jv_Wp.lift (fun _ Kz => jv_Ev.br jv_i47 (pc' := 56) (st' := []) rfl (jv_lsw_def (List.forall_mem_cons.mpr ⟨(jv_ne_toInt (k := 3) h1), List.forall_mem_cons.mpr ⟨(jv_ne_toInt (k := 4) h3), fun _ h => absurd h List.not_mem_nil⟩⟩)) Kz) ?_
      refine jv_Wp.lift (fun _ Kz => jv_Ev.steps jv_i47 1 (pc' := 57) (l' := [(0, .ref o), (1, .int (vl_I c))]) (st' := [.ref o]) rfl Kz) ?_
      refine jv_Wp.lift (fun _ Kz => jv_Ev.m jv_i47 (pc' := 60) (st' := [.int (I o 0)]) (G' := (jv_H K I L R)) rfl rfl (vc_m_get hm (by decide) rfl) Kz) ?_
      refine jv_Wp.lift (fun _ Kz => jv_Ev.steps jv_i47 1 (pc' := 61) (l' := [(0, .ref o), (1, .int (vl_I c))]) (st' := [.int (2 : Int32), .int (I o 0)]) rfl Kz) ?_
      refine jv_Wp.cnd jv_i47 (pt := 68) (pe := 64) (p := ((I o 0) = (2 : Int32))) (q := ((I o 0) = (2 : Int32))) rfl jv_bc_eq rfl rfl Iff.rfl (fun h5 => ?_) (fun h5 => ?_)
      · refine jv_Wp.lift (fun _ Kz => jv_Ev.steps jv_i47 1 (pc' := 69) (l' := [(0, .ref o), (1, .int (vl_I c))]) (st' := [.int (0 : Int32)]) rfl Kz) ?_
        refine jv_Wp.of (jv_Ev.ret jv_i47 rfl (jv_ret_b (Or.inl rfl))) ?_
        rw [hQ]
        have q0 : ¬ c = 3 := fun z => h1 (by rw [z]; rfl)
        have q1 : ¬ c = 4 := fun z => h3 (by rw [z]; rfl)
        have q2 : e.1 = 2 := (vl_I_inj (by omega) (by decide)).mp (hm.2.2.1.symm.trans h5)
        have cc : ¬ (if c = 4 then e.1 = 2 else if c = 3 then e.1 = 1 else e.1 ≠ 2) := by
          by_cases c4 : c = 4
          · rw [if_pos c4]; omega
          · rw [if_neg c4]
            by_cases c3 : c = 3
            · rw [if_pos c3]; omega
            · rw [if_neg c3]; omega
        rw [decide_eq_false cc]
        exact ⟨_, _, rfl, rfl, rfl⟩
      · refine jv_Wp.lift (fun _ Kz => jv_Ev.steps jv_i47 2 (pc' := 69) (l' := [(0, .ref o), (1, .int (vl_I c))]) (st' := [.int (1 : Int32)]) rfl Kz) ?_
        refine jv_Wp.of (jv_Ev.ret jv_i47 rfl (jv_ret_b (Or.inr rfl))) ?_
        rw [hQ]
        have q0 : ¬ c = 3 := fun z => h1 (by rw [z]; rfl)
        have q1 : ¬ c = 4 := fun z => h3 (by rw [z]; rfl)
        have q2 : ¬ e.1 = 2 := fun z => h5 (by rw [hm.2.2.1, z]; rfl)
        have cc : (if c = 4 then e.1 = 2 else if c = 3 then e.1 = 1 else e.1 ≠ 2) := by
          by_cases c4 : c = 4
          · rw [if_pos c4]; omega
          · rw [if_neg c4]
            by_cases c3 : c = 3
            · rw [if_pos c3]; omega
            · rw [if_neg c3]; omega
        rw [decide_eq_true cc]
        exact ⟨_, _, rfl, rfl, rfl⟩