/-! the quotient dug out bit by bit -/
theorem vr_qmath {A B bit : Nat} (hB : 0 < B) : (2 * A + bit) / B = 2 * (A / B) + (2 * (A % B) + bit) / B ∧ (2 * A + bit) % B = (2 * (A % B) + bit) % B := by
  have e : 2 * A + bit = (2 * (A % B) + bit) + B * (2 * (A / B)) := by
    have := Nat.div_add_mod A B
    rw [← Nat.mul_assoc, Nat.mul_comm B 2, Nat.mul_assoc]; omega
  constructor
  · rw [e, Nat.add_mul_div_left _ _ hB]; omega
  · rw [e, Nat.add_mul_mod_self_left]
theorem vr_quotL {G : jv_G} (a b : Int64) (hb : 0 < b.toBitVec.toNat) {n sl : Nat} {X : jv_R} (HK : ∀ r' : Int64, jv_Ev 202 87 [(0, .long a), (2, .long b), (4, .long (Int64.ofBitVec (a.toBitVec / b.toBitVec))), (6, .long r'), (8, .int (vr_kk 0))] [] G n sl X) :
    ∀ K, K ≤ 64 → ∀ q r : Int64, q.toBitVec.toNat = a.toBitVec.toNat / 2 ^ K / b.toBitVec.toNat * 2 ^ K → r.toBitVec.toNat = a.toBitVec.toNat / 2 ^ K % b.toBitVec.toNat →
    jv_Ev 202 18 [(0, .long a), (2, .long b), (4, .long q), (6, .long r), (8, .int (vr_kk K))] [] G n sl X := by
  intro K
  induction K with
  | zero =>
    intro _ q r hq hr
    refine jv_b202_18 a b q r (vr_kk 0) _ rfl _ rfl _ rfl _ rfl ?_
    rw [if_pos vr_kk0]
    have : q = Int64.ofBitVec (a.toBitVec / b.toBitVec) := Int64.toBitVec_inj.mp (BitVec.eq_of_toNat_eq (by
      rw [hq, vr_to, BitVec.toNat_udiv]; simp))
    rw [this]; exact HK r
  | succ K ih =>
    intro hK q r hq hr
    have hk : K < 64 := by omega
    refine jv_b202_18 a b q r (vr_kk (K + 1)) _ rfl _ rfl _ rfl _ rfl ?_
    rw [vr_kks hk, if_neg (vr_nneg hk)]
    have hA : a.toBitVec.toNat / 2 ^ K = 2 * (a.toBitVec.toNat / 2 ^ (K + 1)) + a.toBitVec.toNat / 2 ^ K % 2 := by
      have : a.toBitVec.toNat / 2 ^ (K + 1) = a.toBitVec.toNat / 2 ^ K / 2 := by rw [Nat.pow_succ, Nat.div_div_eq_div_mul]
      omega
    have hbit : ((((a.toUInt64 >>> ((vl_I K).toInt64.toUInt64 &&& Int64.toUInt64 63)).toInt64) &&& (1 : Int64)).toBitVec).toNat = a.toBitVec.toNat / 2 ^ K % 2 := by
      rw [Int64.toBitVec_and, vl_ushrI _ hk, BitVec.toNat_and, vb_shr_nat, vl_one, show (1 : BitVec 64).toNat = 2 ^ 1 - 1 from rfl, Nat.and_two_pow_sub_one_eq_mod]
    generalize ((a.toUInt64 >>> ((vl_I K).toInt64.toUInt64 &&& Int64.toUInt64 63)).toInt64) &&& (1 : Int64) = bt at hbit ⊢
    have hbb := vr_bit hk
    have qm := vr_qmath (A := a.toBitVec.toNat / 2 ^ (K + 1)) (bit := a.toBitVec.toNat / 2 ^ K % 2) hb
    rw [← hA, ← hr] at qm
    have hbit2 : bt.toBitVec.toNat < 2 := by rw [hbit]; exact Nat.mod_lt _ (by decide)
    rw [← hbit] at qm
    have hrl : r.toBitVec.toNat < b.toBitVec.toNat := by rw [hr]; exact Nat.mod_lt _ hb
    have hB := vb_lt_nat b.toBitVec
    -- with bit K
    have qor : (q ||| ((1 : Int64) <<< ((vl_I K).toInt64 &&& 63))).toBitVec.toNat = q.toBitVec.toNat + 2 ^ K := by
      have hz : q.toBitVec &&& BitVec.twoPow 64 K = 0 := by
        refine Classical.byContradiction fun h => ?_
        have h1 := (vb_bit_ne hk).mp h
        rw [← BitVec.testBit_toNat, Nat.testBit_eq_decide_div_mod_eq, hq, Nat.pow_succ, ← Nat.mul_assoc, Nat.mul_comm _ 2, ← Nat.mul_assoc] at h1
        rw [Nat.mul_div_cancel _ (Nat.two_pow_pos K)] at h1
        simp at h1
      rw [Int64.toBitVec_or, hbb, ← BitVec.add_eq_or_of_and_eq_zero _ _ hz]
      have ht : (BitVec.twoPow 64 K).toNat = 2 ^ K := by rw [BitVec.toNat_twoPow]; exact Nat.mod_eq_of_lt (Nat.pow_lt_pow_right (by decide) hk)
      rcases vb_addC q.toBitVec (BitVec.twoPow 64 K) with ⟨c1, c2⟩ | ⟨c1, c2⟩
      · rw [c2, ht]
      · exfalso
        rw [ht] at c1
        have h2 : (18446744073709551616 : Nat) = 2 ^ (63 - K) * 2 ^ (K + 1) := by
          rw [← Nat.pow_add, show 63 - K + (K + 1) = 64 by omega]
        have h3 := vb_lt_nat q.toBitVec
        rw [hq] at h3 c1
        generalize a.toBitVec.toNat / 2 ^ (K + 1) / b.toBitVec.toNat = m at h3 c1
        have h4 : m < 2 ^ (63 - K) := by
          rw [h2] at h3
          exact Nat.lt_of_mul_lt_mul_right h3
        have h5 : (m + 1) * 2 ^ (K + 1) ≤ 18446744073709551616 := by
          rw [h2]; exact Nat.mul_le_mul_right _ h4
        rw [Nat.add_mul, Nat.one_mul, Nat.pow_succ] at h5
        rw [Nat.pow_succ] at c1
        have := Nat.two_pow_pos K
        omega
    have hv1 : ((2 : Int64) * r + bt).toBitVec.toNat = if 2 * r.toBitVec.toNat + bt.toBitVec.toNat < 18446744073709551616 then 2 * r.toBitVec.toNat + bt.toBitVec.toNat else 2 * r.toBitVec.toNat + bt.toBitVec.toNat - 18446744073709551616 := by
      rw [Int64.toBitVec_add, Int64.toBitVec_mul, show (2 : Int64).toBitVec = (2 : BitVec 64) from rfl, BitVec.toNat_add, BitVec.toNat_mul, show (2 : BitVec 64).toNat = 2 from rfl, show (2 : Nat) ^ 64 = 18446744073709551616 from rfl]
      split <;> omega
    generalize (2 : Int64) * r + bt = v1 at hv1 ⊢
    have over : (¬ (if ((0 : Int64) ≤ r) then (0 : Int32) else (1 : Int32)) = 0) ↔ 9223372036854775808 ≤ r.toBitVec.toNat := by
      have e := vl_sle0 r
      rw [vb_sle0] at e
      by_cases h : (0 : Int64) ≤ r
      · rw [if_pos h]
        have h' := e.mp h
        rcases vb_val r.toBitVec with ⟨p1, _, p3⟩ | ⟨p1, _⟩
        · exact ⟨fun h2 => absurd rfl h2, fun h2 => by omega⟩
        · rw [p1] at h'; exact absurd h' (by decide)
      · rw [if_neg h]
        rcases vb_val r.toBitVec with ⟨p1, _⟩ | ⟨p1, _, p3, _⟩
        · exact absurd (e.mpr (by rw [p1]; rfl)) h
        · exact ⟨fun _ => p3, fun _ h2 => absurd h2 (by decide)⟩
    have below := vr_below v1 b
    rw [BitVec.lt_def] at below
    have sb := vb_subC v1.toBitVec b.toBitVec
    rw [← Int64.toBitVec_sub] at sb
    have hq2 : q.toBitVec.toNat = 2 * (a.toBitVec.toNat / 2 ^ (K + 1) / b.toBitVec.toNat) * 2 ^ K := by
      rw [hq, Nat.pow_succ, Nat.mul_comm (2 ^ K) 2, ← Nat.mul_assoc, Nat.mul_comm _ 2]
    by_cases hov : ¬ (if ((0 : Int64) ≤ r) then (0 : Int32) else (1 : Int32)) = 0
    · simp only [hov, not_false_eq_true, if_true]
      have h63 := over.mp hov
      have ht : b.toBitVec.toNat ≤ 2 * r.toBitVec.toNat + bt.toBitVec.toNat := by omega
      have d1 : (2 * r.toBitVec.toNat + bt.toBitVec.toNat) / b.toBitVec.toNat = 1 := Nat.div_eq_of_lt_le (by omega) (by omega)
      have d2 : (2 * r.toBitVec.toNat + bt.toBitVec.toNat) % b.toBitVec.toNat = 2 * r.toBitVec.toNat + bt.toBitVec.toNat - b.toBitVec.toNat := by
        rw [Nat.mod_eq_sub_mod ht]; exact Nat.mod_eq_of_lt (by omega)
      rw [d1] at qm
      refine ih (by omega) _ _ ?_ ?_
      · rw [qor, hq2, qm.1, Nat.add_mul, Nat.one_mul]
      · rw [qm.2, d2]
        split at hv1 <;> omega
    · have hov' : (if ((0 : Int64) ≤ r) then (0 : Int32) else (1 : Int32)) = 0 := Classical.not_not.mp hov
      have h63 : ¬ 9223372036854775808 ≤ r.toBitVec.toNat := fun h => hov (over.mpr h)
      rw [if_pos (by omega)] at hv1
      simp only [hov', not_true, if_false]
      by_cases hlt : jv_rbelow v1 b = 0
      · simp only [hlt, not_true, if_false]
        have hge := below.mp hlt
        have ht : b.toBitVec.toNat ≤ 2 * r.toBitVec.toNat + bt.toBitVec.toNat := by omega
        have d1 : (2 * r.toBitVec.toNat + bt.toBitVec.toNat) / b.toBitVec.toNat = 1 := Nat.div_eq_of_lt_le (by omega) (by omega)
        have d2 : (2 * r.toBitVec.toNat + bt.toBitVec.toNat) % b.toBitVec.toNat = 2 * r.toBitVec.toNat + bt.toBitVec.toNat - b.toBitVec.toNat := by
          rw [Nat.mod_eq_sub_mod ht]; exact Nat.mod_eq_of_lt (by omega)
        rw [d1] at qm
        refine ih (by omega) _ _ ?_ ?_
        · rw [qor, hq2, qm.1, Nat.add_mul, Nat.one_mul]
        · rw [qm.2, d2]; omega
      · simp only [hlt, not_false_eq_true, if_true]
        have hl : v1.toBitVec.toNat < b.toBitVec.toNat := Classical.byContradiction fun h => hlt (below.mpr h)
        have d1 : (2 * r.toBitVec.toNat + bt.toBitVec.toNat) / b.toBitVec.toNat = 0 := Nat.div_eq_of_lt (by omega)
        have d2 : (2 * r.toBitVec.toNat + bt.toBitVec.toNat) % b.toBitVec.toNat = 2 * r.toBitVec.toNat + bt.toBitVec.toNat := Nat.mod_eq_of_lt (by omega)
        rw [d1] at qm
        refine ih (by omega) _ _ ?_ ?_
        · rw [hq2, qm.1]; rfl
        · rw [qm.2, d2]; exact hv1
theorem vr_quot_start (a b : Int64) : (0 : Int64).toBitVec.toNat = a.toBitVec.toNat / 2 ^ 64 / b.toBitVec.toNat * 2 ^ 64 := by
  rw [show (2 : Nat) ^ 64 = 18446744073709551616 from rfl, Nat.div_eq_of_lt (vb_lt_nat a.toBitVec)]; simp
theorem vr_quot_start2 (a b : Int64) : (0 : Int64).toBitVec.toNat = a.toBitVec.toNat / 2 ^ 64 % b.toBitVec.toNat := by
  rw [show (2 : Nat) ^ 64 = 18446744073709551616 from rfl, Nat.div_eq_of_lt (vb_lt_nat a.toBitVec)]; simp
