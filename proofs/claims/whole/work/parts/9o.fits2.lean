/-! the other side's quotient, and what fits -/
theorem vr_quot (a b : Int64) : (jv_rquot a b).toBitVec = a.toBitVec / b.toBitVec := by
  unfold jv_rquot
  by_cases h : b = (0 : Int64)
  · rw [if_neg (fun h' => h' h), h]; exact BitVec.udiv_zero.symm
  · rw [if_pos h]; exact vr_to _
theorem vr_prod {x y : BitVec 64} : (x = 0 ∨ ¬ vb_m1 / x < y) ↔ x.toNat * y.toNat < 18446744073709551616 := by
  rw [BitVec.lt_def, BitVec.toNat_udiv, show vb_m1.toNat = 18446744073709551615 from rfl]
  by_cases h0 : x.toNat = 0
  · have : x = 0 := BitVec.eq_of_toNat_eq h0
    rw [h0]; simp [this]
  · have hx : ¬ x = 0 := fun h => h0 (by rw [h]; rfl)
    simp only [hx, false_or, Nat.not_lt]
    rw [Nat.le_div_iff_mul_le (by omega), Nat.mul_comm]; omega
theorem vr_fits (a b : Int64) : (jv_rfits a b = 0) ↔ ¬ a.toBitVec.toNat * b.toBitVec.toNat < 18446744073709551616 := by
  rw [← vr_prod]
  unfold jv_rfits
  have e := vr_below (jv_rquot (-1 : Int64) a) b
  rw [vr_quot, vl_m1] at e
  have e2 : (a = (0 : Int64)) ↔ a.toBitVec = 0 := vl_eqb _ _
  by_cases h : a = (0 : Int64)
  · have h' := e2.mp h
    simp only [h, if_true, show (0 : Int64).toBitVec = 0 from rfl, true_or, not_true]; decide
  · have h' : ¬ a.toBitVec = 0 := fun h2 => h (e2.mpr h2)
    simp only [h, h', if_false, false_or]
    by_cases c : jv_rbelow (jv_rquot (-1 : Int64) a) b = 0
    · have c' := e.mp c
      simp only [c, c', not_true, not_false_eq_true, if_false, if_true]; decide
    · have c' : vb_m1 / a.toBitVec < b.toBitVec := Classical.byContradiction fun h2 => c (e.mpr h2)
      simp only [c, c', not_true, not_false_eq_true, if_false, if_true]
/-- the size of a long, without sign -/
theorem vr_abs (a : Int64) : (if ((0 : Int64) ≤ a) then a else ((0 : Int64) - a)).toBitVec.toNat = a.toBitVec.toInt.natAbs := by
  rw [vl_ite, Int64.toBitVec_sub, vl_zero]
  have e := vl_sle0 a
  rw [vb_sle0] at e
  by_cases h : (0 : Int64) ≤ a
  · rw [if_pos h]
    have h' := e.mp h
    rcases vb_val a.toBitVec with ⟨p, q, r⟩ | ⟨p, _⟩
    · omega
    · rw [p] at h'; exact absurd h' (by decide)
  · rw [if_neg h]
    rcases vb_val a.toBitVec with ⟨p, _⟩ | ⟨p, q, r, r2⟩
    · exact absurd (e.mpr (by rw [p]; rfl)) h
    · rcases vb_subC 0 a.toBitVec with ⟨c1, c2⟩ | ⟨c1, c2⟩ <;> rw [vb_zero_nat] at c1 c2 <;> omega
theorem vr_isLong (a b : Int64) : (jv_risLong a b = 0) ↔ ¬ vb_mulFits a.toBitVec b.toBitVec = true := by
  unfold jv_risLong vb_mulFits
  simp only [decide_eq_true_eq]
  have hf := vr_fits (if ((0 : Int64) ≤ a) then a else ((0 : Int64) - a)) (if ((0 : Int64) ≤ b) then b else ((0 : Int64) - b))
  rw [vr_abs, vr_abs] at hf
  have hx := vr_abs a
  have hy := vr_abs b
  generalize (if ((0 : Int64) ≤ a) then a else ((0 : Int64) - a)) = x at *
  generalize (if ((0 : Int64) ≤ b) then b else ((0 : Int64) - b)) = y at *
  have hN := Int.natAbs_mul a.toBitVec.toInt b.toBitVec.toInt
  have ea : (0 : Int64) ≤ a ↔ 0 ≤ a.toBitVec.toInt := by rw [vl_le]; rfl
  have eb : (0 : Int64) ≤ b ↔ 0 ≤ b.toBitVec.toInt := by rw [vl_le]; rfl
  have same : ((if ((0 : Int64) ≤ a) then (0 : Int32) else (1 : Int32)) = (if ((0 : Int64) ≤ b) then (0 : Int32) else (1 : Int32))) ↔ (0 ≤ a.toBitVec.toInt ↔ 0 ≤ b.toBitVec.toInt) := by
    by_cases h1 : (0 : Int64) ≤ a <;> by_cases h2 : (0 : Int64) ≤ b <;> simp only [h1, h2, ← ea, ← eb, if_true, if_false] <;> simp
  have s1 : (0 ≤ a.toBitVec.toInt ↔ 0 ≤ b.toBitVec.toInt) → 0 ≤ a.toBitVec.toInt * b.toBitVec.toInt := by
    intro h
    rcases Int.le_total 0 a.toBitVec.toInt with h1 | h1
    · exact Int.mul_nonneg h1 (h.mp h1)
    · by_cases h0 : a.toBitVec.toInt = 0
      · rw [h0, Int.zero_mul]; exact Int.le_refl 0
      · exact Int.mul_nonneg_of_nonpos_of_nonpos h1 (by have : ¬ 0 ≤ b.toBitVec.toInt := fun h2 => by have := h.mpr h2; omega
                                                        omega)
  have s2 : ¬ (0 ≤ a.toBitVec.toInt ↔ 0 ≤ b.toBitVec.toInt) → a.toBitVec.toInt * b.toBitVec.toInt ≤ 0 := by
    intro h
    rcases Int.le_total 0 a.toBitVec.toInt with h1 | h1
    · exact Int.mul_nonpos_of_nonneg_of_nonpos h1 (by have : ¬ 0 ≤ b.toBitVec.toInt := fun h2 => h ⟨fun _ => h2, fun _ => h1⟩
                                                      omega)
    · rcases Int.le_total 0 b.toBitVec.toInt with h2 | h2
      · exact Int.mul_nonpos_of_nonpos_of_nonneg h1 h2
      · by_cases h0 : a.toBitVec.toInt = 0
        · rw [h0, Int.zero_mul]; exact Int.le_refl 0
        · by_cases h3 : b.toBitVec.toInt = 0
          · rw [h3, Int.mul_zero]; exact Int.le_refl 0
          · exact absurd ⟨fun h => by omega, fun h => by omega⟩ h
  have hxy : a.toBitVec.toInt.natAbs * b.toBitVec.toInt.natAbs < 18446744073709551616 → (x * y).toBitVec.toNat = a.toBitVec.toInt.natAbs * b.toBitVec.toInt.natAbs := by
    intro h
    rw [Int64.toBitVec_mul, BitVec.toNat_mul, hx, hy, Nat.mod_eq_of_lt h]
  have ep : (0 : Int64) ≤ x * y ↔ 0 ≤ (x * y).toBitVec.toInt := by rw [vl_le]; rfl
  have et : (x * y = (-9223372036854775808 : Int64)) ↔ (x * y).toBitVec.toNat = 9223372036854775808 := by
    rw [vl_eqb, vl_top]
    exact ⟨fun h => by rw [h]; rfl, fun h => BitVec.eq_of_toNat_eq h⟩
  generalize a.toBitVec.toInt * b.toBitVec.toInt = p at *
  generalize a.toBitVec.toInt.natAbs * b.toBitVec.toInt.natAbs = N at *
  by_cases c1 : jv_rfits x y = 0
  · have := hf.mp c1
    simp only [c1, not_true, if_false, true_iff]; omega
  · have hlt : N < 18446744073709551616 := Classical.byContradiction fun h => c1 (hf.mpr h)
    have hn := hxy hlt
    simp only [c1, not_false_eq_true, if_true]
    by_cases c2 : (0 : Int64) ≤ x * y
    · have c2' := ep.mp c2
      simp only [c2, if_true]
      rcases vb_val (x * y).toBitVec with ⟨q1, q2, q3⟩ | ⟨q1, q2, q3, q4⟩
      · refine ⟨fun h => absurd h (by decide), fun h => ?_⟩; omega
      · omega
    · have c2' : ¬ 0 ≤ (x * y).toBitVec.toInt := fun h => c2 (ep.mpr h)
      have h63 : 9223372036854775808 ≤ N := by
        rcases vb_val (x * y).toBitVec with ⟨q1, q2, q3⟩ | ⟨q1, q2, q3, q4⟩ <;> omega
      simp only [c2, if_false]
      by_cases c3 : (0 ≤ a.toBitVec.toInt ↔ 0 ≤ b.toBitVec.toInt)
      · have := s1 c3
        simp only [same.mpr c3, if_true, true_iff]; omega
      · have := s2 c3
        have c3' : ¬ ((if ((0 : Int64) ≤ a) then (0 : Int32) else (1 : Int32)) = (if ((0 : Int64) ≤ b) then (0 : Int32) else (1 : Int32))) := fun h => c3 (same.mp h)
        simp only [c3', if_false, show ¬ ((1 : Int32) = 0) by decide]
        by_cases c4 : x * y = (-9223372036854775808 : Int64)
        · have := et.mp c4
          simp only [c4, not_true, if_false]
          refine ⟨fun h => absurd h (by decide), fun h => ?_⟩; omega
        · have : ¬ (x * y).toBitVec.toNat = 9223372036854775808 := fun h => c4 (et.mpr h)
          simp only [c4, not_false_eq_true, if_true, true_iff]; omega
