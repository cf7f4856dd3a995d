
theorem vl_quotient_nat {X Y : Nat} (hY : 0 < Y) : 2 * (X / 2 / Y) * Y ≤ X ∧ X / Y = if X - 2 * (X / 2 / Y) * Y < Y then 2 * (X / 2 / Y) else 2 * (X / 2 / Y) + 1 := by
  have h1 := Nat.div_add_mod (X / 2) Y
  have h2 := Nat.mod_lt (X / 2) hY
  have e : 2 * (X / 2 / Y) * Y = 2 * (Y * (X / 2 / Y)) := by rw [Nat.mul_assoc, Nat.mul_comm (X / 2 / Y)]
  have e2 : Y * (2 * (X / 2 / Y)) = 2 * (Y * (X / 2 / Y)) := by rw [← Nat.mul_assoc, Nat.mul_comm Y 2, Nat.mul_assoc]
  have e3 : Y * (2 * (X / 2 / Y) + 1) = 2 * (Y * (X / 2 / Y)) + Y := by rw [Nat.mul_add, e2, Nat.mul_one]
  rw [e]
  generalize hp : Y * (X / 2 / Y) = p at *
  refine ⟨by omega, ?_⟩
  split
  · refine Nat.div_eq_of_lt_le ?_ ?_
    · rw [Nat.mul_comm, e2]; omega
    · rw [Nat.mul_comm, e3]; omega
  · refine Nat.div_eq_of_lt_le ?_ ?_
    · rw [Nat.mul_comm, e3]; omega
    · rw [Nat.mul_comm, Nat.mul_add, e3]; omega
theorem vl_sdiv {a b : BitVec 64} (ha : a.msb = false) (hb : b.msb = false) : a.sdiv b = a / b := by
  unfold BitVec.sdiv; rw [ha, hb]; rfl
theorem vl_shl (u : Int64) {s : Int32} {k : Nat} (h : ((s.toInt64 &&& 63).toBitVec.smod 64).toNat = k) : (u <<< (s.toInt64 &&& 63)).toBitVec = u.toBitVec <<< k := by
  rw [Int64.toBitVec_shiftLeft, BitVec.shiftLeft_eq', h]
theorem vl_sshr (u : Int64) {s : Int32} {k : Nat} (h : ((s.toInt64 &&& 63).toBitVec.smod 64).toNat = k) : (u >>> (s.toInt64 &&& 63)).toBitVec = u.toBitVec.sshiftRight k := by
  rw [Int64.toBitVec_shiftRight, BitVec.sshiftRight_eq', h]
theorem vl_quotient (a b : Int64) : (jv_cquotient a b).toBitVec = a.toBitVec / b.toBitVec := by
  unfold jv_cquotient
  simp only [vl_ite, vl_eqb, vl_unsigned_le, vl_sle0, vl_slt0, vl_zero, vl_one, Int64.toBitVec_div, Int64.toBitVec_add, Int64.toBitVec_sub, Int64.toBitVec_mul, vl_shl _ (s := 1) (k := 1) (by decide), vl_ushr _ (s := 1) (k := 1) (by decide), ite_not, vb_slt0, vb_sle0]
  generalize a.toBitVec = x
  generalize b.toBitVec = y
  by_cases hy0 : y = 0
  · rw [if_pos hy0, hy0]; exact BitVec.udiv_zero.symm
  rw [if_neg hy0]
  have hy1 : y.toNat ≠ 0 := fun e => hy0 (BitVec.eq_of_toNat_eq e)
  refine BitVec.eq_of_toNat_eq ?_
  rw [BitVec.toNat_udiv]
  rcases vb_val y with ⟨p, q, r⟩ | ⟨p, q, r, r2⟩
  · rw [p]
    simp only [Bool.not_false, if_true]
    rcases vb_val x with ⟨p', q', r'⟩ | ⟨p', q', r', r2'⟩
    · rw [p']
      simp only [Bool.false_eq_true, if_false]
      rw [vl_sdiv p' p, BitVec.toNat_udiv]
    · rw [p']
      simp only [if_true]
      have m1 : (x >>> 1).msb = false := by
        rcases vb_val (x >>> 1) with ⟨a1, _⟩ | ⟨_, _, a3, _⟩
        · exact a1
        · rw [vb_shr_nat] at a3; have := vb_lt_nat x; omega
      rw [vl_sdiv m1 p]
      have hh : ((x >>> 1) / y) <<< 1 = BitVec.ofNat 64 (2 * (x.toNat / 2 / y.toNat)) := by
        refine BitVec.eq_of_toNat_eq ?_
        rw [vb_shl_nat, BitVec.toNat_udiv, vb_shr_nat, BitVec.toNat_ofNat]
        congr 1
        rw [Nat.mul_comm]
      obtain ⟨g1, g2⟩ := vl_quotient_nat (X := x.toNat) (Y := y.toNat) (by omega)
      have hx := vb_lt_nat x
      have hq : x.toNat / 2 / y.toNat ≤ x.toNat / 2 := Nat.div_le_self _ _
      have hn : (BitVec.ofNat 64 (2 * (x.toNat / 2 / y.toNat))).toNat = 2 * (x.toNat / 2 / y.toNat) := by
        rw [BitVec.toNat_ofNat]; exact Nat.mod_eq_of_lt (by omega)
      rw [hh]
      have hs : (x - BitVec.ofNat 64 (2 * (x.toNat / 2 / y.toNat)) * y).toNat = x.toNat - 2 * (x.toNat / 2 / y.toNat) * y.toNat := by
        have hm : (BitVec.ofNat 64 (2 * (x.toNat / 2 / y.toNat)) * y).toNat = 2 * (x.toNat / 2 / y.toNat) * y.toNat := by
          rw [BitVec.toNat_mul, hn]; exact Nat.mod_eq_of_lt (by omega)
        rcases vb_subC x (BitVec.ofNat 64 (2 * (x.toNat / 2 / y.toNat)) * y) with ⟨c1, c2⟩ | ⟨c1, c2⟩ <;> rw [hm] at c1 c2 <;> omega
      have hd : (x - BitVec.ofNat 64 (2 * (x.toNat / 2 / y.toNat)) * y < y) ↔ x.toNat - 2 * (x.toNat / 2 / y.toNat) * y.toNat < y.toNat := by rw [BitVec.lt_def, hs]
      rw [g2]
      by_cases hc : x.toNat - 2 * (x.toNat / 2 / y.toNat) * y.toNat < y.toNat
      · rw [if_pos hc, if_pos (hd.mpr hc), hn]
      · rw [if_neg hc, if_neg (fun h => hc (hd.mp h))]
        rcases vb_addC (BitVec.ofNat 64 (2 * (x.toNat / 2 / y.toNat))) 1 with ⟨c1, c2⟩ | ⟨c1, c2⟩ <;> rw [hn, vb_one_nat] at c1 c2 <;> omega
  · rw [p]
    simp only [Bool.not_true, Bool.false_eq_true, if_false]
    have hx := vb_lt_nat x
    by_cases hc : x < y
    · rw [if_pos hc]; rw [BitVec.lt_def] at hc
      exact (Nat.div_eq_of_lt hc).symm
    · rw [if_neg hc]; rw [BitVec.lt_def] at hc
      refine (Nat.div_eq_of_lt_le ?_ ?_).symm
      · show 1 * y.toNat ≤ x.toNat; omega
      · show x.toNat < (1 + 1) * y.toNat; omega
