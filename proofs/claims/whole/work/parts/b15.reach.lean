/-! part b15: what is reached (gen/tb15.py) -/
theorem vi_add {a : Int64} {b : Int32} (ha : -4611686018427387904 ≤ a.toInt ∧ a.toInt ≤ 4611686018427387904) : (a + b.toInt64).toInt = a.toInt + b.toInt := by
  have h1 := Int32.le_toInt b
  have h2 := Int32.toInt_lt b
  rw [Int64.toInt_add, Int32.toInt_toInt64]
  exact Int.bmod_eq_of_le (by omega) (by omega)
theorem vi_add2 {a : Int64} {b c : Int32} (ha : -1073741824 ≤ a.toInt ∧ a.toInt ≤ 1073741824) : (a + b.toInt64 + c.toInt64).toInt = a.toInt + b.toInt + c.toInt := by
  have h1 := Int32.le_toInt b
  have h2 := Int32.toInt_lt b
  have e : (a + b.toInt64).toInt = a.toInt + b.toInt := vi_add (by omega)
  rw [vi_add (by rw [e]; omega), e]
theorem jv_i34 : jv_I 34 5 (some .boolean) 0 0 jv_c34 := ⟨rfl, rfl, rfl, rfl, rfl⟩
theorem vc_within {K : Nat → Option (Nat × Nat)} {I : Nat → Nat → Int32} {L : Nat → Nat → Int64} {R : Nat → Nat → Value} (o z : Int32) (first : Int64) {x : Nat} (hvx : jv_isV K x) (ho : -32768 ≤ o.toInt ∧ o.toInt ≤ 32767) (hz : 0 ≤ z.toInt ∧ z.toInt ≤ 256) (hfi : first.toInt ≤ 1073000000) (hlg : (L x 4).toInt ≤ (L x 5).toInt) {n sl : Nat} : ∃ I1 L1, jv_Ms 34 [.ref x, .int o, .int z, .long first] (jv_H K I L R) n sl (some (.int (vr_b (decide (0 ≤ (L x 4).toInt + o.toInt ∧ (L x 5).toInt + o.toInt + z.toInt ≤ first.toInt)))), jv_H K I1 L1 R, n, sl) ∧ I1 = I ∧ L1 = L := by
  obtain ⟨Q, hQ⟩ : ∃ Q : jv_R → Prop, Q = fun X => ∃ I1 L1, X = (some (.int (vr_b (decide (0 ≤ (L x 4).toInt + o.toInt ∧ (L x 5).toInt + o.toInt + z.toInt ≤ first.toInt)))), jv_H K I1 L1 R, n, sl) ∧ I1 = I ∧ L1 = L := ⟨_, rfl⟩
  suffices h : jv_Wp 34 0 [(0, .ref x), (1, .int o), (2, .int z), (3, .long first)] [] (jv_H K I L R) n sl Q by
    rw [hQ] at h
    obtain ⟨X, h, I1, L1, e, h'⟩ := h
    subst e
    exact ⟨I1, L1, h, h'⟩
  refine jv_Wp.lift (fun _ Kz => jv_Ev.steps jv_i34 1 (pc' := 1) (l' := [(0, .ref x), (1, .int o), (2, .int z), (3, .long first)]) (st' := [.ref x]) rfl Kz) ?_
  refine jv_Wp.lift (fun _ Kz => jv_Ev.m jv_i34 (pc' := 4) (st' := [.long (L x 4)]) (G' := (jv_H K I L R)) rfl rfl (jv_v_getL hvx rfl rfl) Kz) ?_
  refine jv_Wp.lift (fun _ Kz => jv_Ev.steps jv_i34 2 (pc' := 8) (l' := [(0, .ref x), (1, .int o), (2, .int z), (3, .long first)]) (st' := [.int (lg_cmp (L x 4) (-1073741824 : Int64))]) rfl Kz) ?_
  refine jv_Wp.cnd jv_i34 (pt := 22) (pe := 11) (p := ((lg_cmp (L x 4) (-1073741824 : Int64)) < 0)) (q := ((L x 4) < (-1073741824 : Int64))) rfl jv_bi_lt rfl rfl (lg_cmp_lt (L x 4) (-1073741824 : Int64)) (fun h1 => ?_) (fun h1 => ?_)
  · refine jv_Wp.lift (fun _ Kz => jv_Ev.steps jv_i34 1 (pc' := 23) (l' := [(0, .ref x), (1, .int o), (2, .int z), (3, .long first)]) (st' := [.int (0 : Int32)]) rfl Kz) ?_
    refine jv_Wp.of (jv_Ev.ret jv_i34 rfl (jv_ret_b (Or.inl rfl))) ?_
    rw [hQ]
    have g : (L x 4).toInt < -1073741824 := Int64.lt_iff_toInt_lt.mp h1
    have c : ¬ (0 ≤ (L x 4).toInt + o.toInt ∧ (L x 5).toInt + o.toInt + z.toInt ≤ first.toInt) := fun z => by omega
    exact ⟨I, L, by rw [decide_eq_false c]; rfl, rfl, rfl⟩
  · refine jv_Wp.lift (fun _ Kz => jv_Ev.steps jv_i34 1 (pc' := 12) (l' := [(0, .ref x), (1, .int o), (2, .int z), (3, .long first)]) (st' := [.ref x]) rfl Kz) ?_
    refine jv_Wp.lift (fun _ Kz => jv_Ev.m jv_i34 (pc' := 15) (st' := [.long (L x 5)]) (G' := (jv_H K I L R)) rfl rfl (jv_v_getL hvx rfl rfl) Kz) ?_
    refine jv_Wp.lift (fun _ Kz => jv_Ev.steps jv_i34 2 (pc' := 19) (l' := [(0, .ref x), (1, .int o), (2, .int z), (3, .long first)]) (st' := [.int (lg_cmp (L x 5) (1073741824 : Int64))]) rfl Kz) ?_
    refine jv_Wp.cnd jv_i34 (pt := 24) (pe := 22) (p := ((lg_cmp (L x 5) (1073741824 : Int64)) ≤ 0)) (q := ((L x 5) ≤ (1073741824 : Int64))) rfl jv_bi_le rfl rfl (lg_cmp_le (L x 5) (1073741824 : Int64)) (fun h2 => ?_) (fun h2 => ?_)
    · refine jv_Wp.lift (fun _ Kz => jv_Ev.steps jv_i34 1 (pc' := 25) (l' := [(0, .ref x), (1, .int o), (2, .int z), (3, .long first)]) (st' := [.ref x]) rfl Kz) ?_
      refine jv_Wp.lift (fun _ Kz => jv_Ev.m jv_i34 (pc' := 28) (st' := [.long (L x 4)]) (G' := (jv_H K I L R)) rfl rfl (jv_v_getL hvx rfl rfl) Kz) ?_
      refine jv_Wp.lift (fun _ Kz => jv_Ev.steps jv_i34 5 (pc' := 33) (l' := [(0, .ref x), (1, .int o), (2, .int z), (3, .long first)]) (st' := [.int (lg_cmp ((L x 4) + o.toInt64) (0 : Int64))]) rfl Kz) ?_
      refine jv_Wp.cnd jv_i34 (pt := 55) (pe := 36) (p := ((lg_cmp ((L x 4) + o.toInt64) (0 : Int64)) < 0)) (q := (((L x 4) + o.toInt64) < (0 : Int64))) rfl jv_bi_lt rfl rfl (lg_cmp_lt ((L x 4) + o.toInt64) (0 : Int64)) (fun h3 => ?_) (fun h3 => ?_)
      · refine jv_Wp.lift (fun _ Kz => jv_Ev.steps jv_i34 1 (pc' := 56) (l' := [(0, .ref x), (1, .int o), (2, .int z), (3, .long first)]) (st' := [.int (0 : Int32)]) rfl Kz) ?_
        refine jv_Wp.of (jv_Ev.ret jv_i34 rfl (jv_ret_b (Or.inl rfl))) ?_
        rw [hQ]
        have g : ¬ (L x 4).toInt < -1073741824 := (not_congr Int64.lt_iff_toInt_lt).mp h1
        have g2 : (L x 5).toInt ≤ 1073741824 := Int64.le_iff_toInt_le.mp h2
        have e1 := vi_add (a := L x 4) (b := o) (by omega)
        have e2 := vi_add2 (a := L x 5) (b := o) (c := z) (by omega)
        have q1 : (((L x 4) + o.toInt64) < (0 : Int64)) := h3
        rw [Int64.lt_iff_toInt_lt, e1] at q1
        have q1' := q1
        change ((L x 4).toInt + o.toInt < 0) at q1'
        have c : ¬ (0 ≤ (L x 4).toInt + o.toInt ∧ (L x 5).toInt + o.toInt + z.toInt ≤ first.toInt) := fun z => by omega
        exact ⟨I, L, by rw [decide_eq_false c]; rfl, rfl, rfl⟩
      · refine jv_Wp.lift (fun _ Kz => jv_Ev.steps jv_i34 1 (pc' := 37) (l' := [(0, .ref x), (1, .int o), (2, .int z), (3, .long first)]) (st' := [.ref x]) rfl Kz) ?_
        refine jv_Wp.lift (fun _ Kz => jv_Ev.m jv_i34 (pc' := 40) (st' := [.long (L x 5)]) (G' := (jv_H K I L R)) rfl rfl (jv_v_getL hvx rfl rfl) Kz) ?_
        refine jv_Wp.lift (fun _ Kz => jv_Ev.steps jv_i34 8 (pc' := 48) (l' := [(0, .ref x), (1, .int o), (2, .int z), (3, .long first)]) (st' := [.int (lg_cmp (((L x 5) + o.toInt64) + z.toInt64) first)]) rfl Kz) ?_
        refine jv_Wp.cnd jv_i34 (pt := 55) (pe := 51) (p := (0 < (lg_cmp (((L x 5) + o.toInt64) + z.toInt64) first))) (q := (first < (((L x 5) + o.toInt64) + z.toInt64))) rfl jv_bi_gt rfl rfl (lg_cmp_gt (((L x 5) + o.toInt64) + z.toInt64) first) (fun h4 => ?_) (fun h4 => ?_)
        · refine jv_Wp.lift (fun _ Kz => jv_Ev.steps jv_i34 1 (pc' := 56) (l' := [(0, .ref x), (1, .int o), (2, .int z), (3, .long first)]) (st' := [.int (0 : Int32)]) rfl Kz) ?_
          refine jv_Wp.of (jv_Ev.ret jv_i34 rfl (jv_ret_b (Or.inl rfl))) ?_
          rw [hQ]
          have g : ¬ (L x 4).toInt < -1073741824 := (not_congr Int64.lt_iff_toInt_lt).mp h1
          have g2 : (L x 5).toInt ≤ 1073741824 := Int64.le_iff_toInt_le.mp h2
          have e1 := vi_add (a := L x 4) (b := o) (by omega)
          have e2 := vi_add2 (a := L x 5) (b := o) (c := z) (by omega)
          have q1 : (¬ ((L x 4) + o.toInt64) < (0 : Int64)) := h3
          rw [Int64.lt_iff_toInt_lt, e1] at q1
          have q1' := q1
          change ¬ ((L x 4).toInt + o.toInt < 0) at q1'
          have q2 : (first < (((L x 5) + o.toInt64) + z.toInt64)) := h4
          rw [Int64.lt_iff_toInt_lt, e2] at q2
          have c : ¬ (0 ≤ (L x 4).toInt + o.toInt ∧ (L x 5).toInt + o.toInt + z.toInt ≤ first.toInt) := fun z => by omega
          exact ⟨I, L, by rw [decide_eq_false c]; rfl, rfl, rfl⟩
        · refine jv_Wp.lift (fun _ Kz => jv_Ev.steps jv_i34 2 (pc' := 56) (l' := [(0, .ref x), (1, .int o), (2, .int z), (3, .long first)]) (st' := [.int (1 : Int32)]) rfl Kz) ?_
          refine jv_Wp.of (jv_Ev.ret jv_i34 rfl (jv_ret_b (Or.inr rfl))) ?_
          rw [hQ]
          have g : ¬ (L x 4).toInt < -1073741824 := (not_congr Int64.lt_iff_toInt_lt).mp h1
          have g2 : (L x 5).toInt ≤ 1073741824 := Int64.le_iff_toInt_le.mp h2
          have e1 := vi_add (a := L x 4) (b := o) (by omega)
          have e2 := vi_add2 (a := L x 5) (b := o) (c := z) (by omega)
          have q1 : (¬ ((L x 4) + o.toInt64) < (0 : Int64)) := h3
          rw [Int64.lt_iff_toInt_lt, e1] at q1
          have q1' := q1
          change ¬ ((L x 4).toInt + o.toInt < 0) at q1'
          have q2 : (¬ first < (((L x 5) + o.toInt64) + z.toInt64)) := h4
          rw [Int64.lt_iff_toInt_lt, e2] at q2
          have c : (0 ≤ (L x 4).toInt + o.toInt ∧ (L x 5).toInt + o.toInt + z.toInt ≤ first.toInt) := by omega
          exact ⟨I, L, by rw [decide_eq_true c]; rfl, rfl, rfl⟩
    · refine jv_Wp.lift (fun _ Kz => jv_Ev.steps jv_i34 1 (pc' := 23) (l' := [(0, .ref x), (1, .int o), (2, .int z), (3, .long first)]) (st' := [.int (0 : Int32)]) rfl Kz) ?_
      refine jv_Wp.of (jv_Ev.ret jv_i34 rfl (jv_ret_b (Or.inl rfl))) ?_
      rw [hQ]
      have g : ¬ (L x 4).toInt < -1073741824 := (not_congr Int64.lt_iff_toInt_lt).mp h1
      have g2 : ¬ (L x 5).toInt ≤ 1073741824 := (not_congr Int64.le_iff_toInt_le).mp h2
      have c : ¬ (0 ≤ (L x 4).toInt + o.toInt ∧ (L x 5).toInt + o.toInt + z.toInt ≤ first.toInt) := fun z => by omega
      exact ⟨I, L, by rw [decide_eq_false c]; rfl, rfl, rfl⟩