/-! part e12: places of a program of the class (gen/te12.py) -/
theorem jv_i77 : jv_I 77 3 (some .boolean) 0 0 jv_c77 := ⟨rfl, rfl, rfl, rfl, rfl⟩
theorem vi_glt {g : Int} {q : Nat} (h : -1099511627776 ≤ g ∧ g ≤ 1099511627776) (hq : q < 2147483648) : ((vl_I q).toInt64 < (Int64.ofInt g)) ↔ (q : Int) < g := by rw [Int64.lt_iff_toInt_lt, vi_J h, vi_I64 hq]
theorem vc_has_ {K : Nat → Option (Nat × Nat)} {I : Nat → Nat → Int32} {L : Nat → Nat → Int64} {R : Nat → Nat → Value} {pr ws len : Nat} {W : Nat → Int64} (hP : vc_P K L R pr ws len W) {g : Int} (hg : -1099511627776 ≤ g ∧ g ≤ 1099511627776) {n sl : Nat} {Q : jv_R → Prop} (hQ : Q (some (.int (vr_b (decide (0 ≤ g ∧ g < len)))), jv_H K I L R, n, sl)) : jv_Wp 77 0 [(0, .ref pr), (1, .long (Int64.ofInt g))] [] (jv_H K I L R) n sl Q := by
  have hle := hP.2.2.2.1
  refine jv_Wp.lift (fun _ Kz => jv_Ev.steps jv_i77 3 (pc' := 3) (l' := [(0, .ref pr), (1, .long (Int64.ofInt g))]) (st' := [.int (lg_cmp (Int64.ofInt g) (0 : Int64))]) rfl Kz) ?_
  refine jv_Wp.cnd jv_i77 (pt := 21) (pe := 6) (p := ((lg_cmp (Int64.ofInt g) (0 : Int64)) < 0)) (q := ((Int64.ofInt g) < (0 : Int64))) rfl jv_bi_lt rfl rfl (lg_cmp_lt (Int64.ofInt g) (0 : Int64)) (fun h1 => ?_) (fun h1 => ?_)
  · refine jv_Wp.lift (fun _ Kz => jv_Ev.steps jv_i77 1 (pc' := 22) (l' := [(0, .ref pr), (1, .long (Int64.ofInt g))]) (st' := [.int (0 : Int32)]) rfl Kz) ?_
    refine jv_Wp.of (jv_Ev.ret jv_i77 rfl (jv_ret_b (Or.inl rfl))) ?_
    have x1 : g < 0 := (vi_gneg hg).mp h1
    have ev : decide (0 ≤ g ∧ g < len) = false := decide_eq_false (by omega)
    rw [ev] at hQ
    exact hQ
  · refine jv_Wp.lift (fun _ Kz => jv_Ev.steps jv_i77 2 (pc' := 8) (l' := [(0, .ref pr), (1, .long (Int64.ofInt g))]) (st' := [.ref pr, .long (Int64.ofInt g)]) rfl Kz) ?_
    refine jv_Wp.lift (fun _ Kz => jv_Ev.m jv_i77 (pc' := 11) (st' := [.ref ws, .long (Int64.ofInt g)]) (G' := (jv_H K I L R)) rfl rfl (jv_m_getR hP.1 rfl rfl hP.2.1) Kz) ?_
    refine jv_Wp.lift (fun _ Kz => jv_Ev.m jv_i77 (pc' := 12) (st' := [.int (Int32.ofNat len), .long (Int64.ofInt g)]) (G' := (jv_H K I L R)) rfl rfl (jv_m_len hP.2.2.1 rfl) Kz) ?_
    refine jv_Wp.lift (fun _ Kz => jv_Ev.steps jv_i77 2 (pc' := 14) (l' := [(0, .ref pr), (1, .long (Int64.ofInt g))]) (st' := [.int (lg_cmp (Int64.ofInt g) (Int32.ofNat len).toInt64)]) rfl Kz) ?_
    refine jv_Wp.cnd jv_i77 (pt := 21) (pe := 17) (p := (0 ≤ (lg_cmp (Int64.ofInt g) (Int32.ofNat len).toInt64))) (q := ((Int32.ofNat len).toInt64 ≤ (Int64.ofInt g))) rfl jv_bi_ge rfl rfl (lg_cmp_ge (Int64.ofInt g) (Int32.ofNat len).toInt64) (fun h2 => ?_) (fun h2 => ?_)
    · refine jv_Wp.lift (fun _ Kz => jv_Ev.steps jv_i77 1 (pc' := 22) (l' := [(0, .ref pr), (1, .long (Int64.ofInt g))]) (st' := [.int (0 : Int32)]) rfl Kz) ?_
      refine jv_Wp.of (jv_Ev.ret jv_i77 rfl (jv_ret_b (Or.inl rfl))) ?_
      have x1 : ¬ g < 0 := fun z => h1 ((vi_gneg hg).mpr z)
      have x2 : (len : Int) ≤ g := (vi_gge hg (q := len) (by omega)).mp h2
      have ev : decide (0 ≤ g ∧ g < len) = false := decide_eq_false (by omega)
      rw [ev] at hQ
      exact hQ
    · refine jv_Wp.lift (fun _ Kz => jv_Ev.steps jv_i77 2 (pc' := 22) (l' := [(0, .ref pr), (1, .long (Int64.ofInt g))]) (st' := [.int (1 : Int32)]) rfl Kz) ?_
      refine jv_Wp.of (jv_Ev.ret jv_i77 rfl (jv_ret_b (Or.inr rfl))) ?_
      have x1 : ¬ g < 0 := fun z => h1 ((vi_gneg hg).mpr z)
      have x2 : ¬ (len : Int) ≤ g := fun z => h2 ((vi_gge hg (q := len) (by omega)).mpr z)
      have ev : decide (0 ≤ g ∧ g < len) = true := decide_eq_true (by omega)
      rw [ev] at hQ
      exact hQ
theorem vc_has {K : Nat → Option (Nat × Nat)} {I : Nat → Nat → Int32} {L : Nat → Nat → Int64} {R : Nat → Nat → Value} {pr ws len : Nat} {W : Nat → Int64} (hP : vc_P K L R pr ws len W) {g : Int} (hg : -1099511627776 ≤ g ∧ g ≤ 1099511627776) {n sl : Nat} : jv_Ms 77 [.ref pr, .long (Int64.ofInt g)] (jv_H K I L R) n sl (some (.int (vr_b (decide (0 ≤ g ∧ g < len)))), jv_H K I L R, n, sl) := by
  have h := vc_has_ (I := I) (n := n) (sl := sl) hP hg (Q := fun X => X = (some (.int (vr_b (decide (0 ≤ g ∧ g < len)))), jv_H K I L R, n, sl)) rfl
  obtain ⟨X, h, e⟩ := h
  subst e
  exact h