/-! shifts, cuts, extensions, swaps -/
def vb_cLeft (x y : vb_S) (top : Nat) : vb_S :=
  if y.low = y.high then
    (fun s => ⟨x.mask <<< s ||| vb_lowest s, x.ones <<< s, if (x.high <<< s) >>> s = x.high then x.low <<< s else 0, if (x.high <<< s) >>> s = x.high then x.high <<< s else vb_m1,
      if (x.least <<< s).sshiftRight s = x.least ∧ (x.greatest <<< s).sshiftRight s = x.greatest then x.least <<< s else vb_top_,
      if (x.least <<< s).sshiftRight s = x.least ∧ (x.greatest <<< s).sshiftRight s = x.greatest then x.greatest <<< s else vb_most⟩) (y.low.toNat % (top + 1))
  else ⟨vb_lowest (min 64 (vb_tr (x.mask &&& ~~~x.ones) + if top < y.high.toNat then 0 else y.low.toNat)), 0, 0, vb_m1, vb_top_, vb_most⟩
def vb_cRight (x y : vb_S) (top : Nat) : vb_S :=
  if y.low = y.high then
    (fun s => ⟨~~~(~~~x.mask >>> s), x.ones >>> s, x.low >>> s, x.high >>> s, vb_top_, vb_most⟩) (y.low.toNat % (top + 1))
  else ⟨0, 0, x.low >>> (if top < y.high.toNat then top else y.high.toNat), x.high >>> (if top < y.high.toNat then 0 else y.low.toNat), vb_top_, vb_most⟩
def vb_cSRight (x y : vb_S) (top : Nat) : vb_S :=
  if y.low = y.high then
    (fun s => ⟨x.mask.sshiftRight s, x.ones.sshiftRight s, 0, vb_m1, x.least.sshiftRight s, x.greatest.sshiftRight s⟩) (y.low.toNat % (top + 1))
  else
    (fun t u => ⟨0, 0, 0, vb_m1, vb_smin (x.least.sshiftRight t) (x.least.sshiftRight u), vb_smax (x.greatest.sshiftRight t) (x.greatest.sshiftRight u)⟩) (if top < y.high.toNat then 0 else y.low.toNat) (if top < y.high.toNat then top else y.high.toNat)

theorem vb_single_mem {y : vb_S} {m : BitVec 64} (hm : vb_mem y m) (h : y.low = y.high) : m = y.low := by
  obtain ⟨m1, m2, _⟩ := vb_mem_int hm
  rw [← h] at m2
  exact BitVec.eq_of_toNat_eq (by omega)
theorem vb_shr_nat (x : BitVec 64) (s : Nat) : (x >>> s).toNat = x.toNat / 2 ^ s := by
  rw [BitVec.toNat_ushiftRight, Nat.shiftRight_eq_div_pow]
theorem vb_shl_nat (x : BitVec 64) (s : Nat) : (x <<< s).toNat = x.toNat * 2 ^ s % 2 ^ 64 := by
  rw [BitVec.toNat_shiftLeft, Nat.shiftLeft_eq]
theorem vb_sshr_int (x : BitVec 64) (s : Nat) : (x.sshiftRight s).toInt = x.toInt / 2 ^ s := by
  rw [BitVec.toInt_sshiftRight, Int.shiftRight_eq_div_pow]; simp
theorem vb_pow_le {t u : Nat} (h : t ≤ u) : (2 : Nat) ^ t ≤ 2 ^ u := Nat.pow_le_pow_right (by decide) h

theorem vb_shl_fit {x : BitVec 64} {s : Nat} (h : (x <<< s) >>> s = x) : x.toNat * 2 ^ s < 2 ^ 64 := by
  have h1 := congrArg BitVec.toNat h
  rw [vb_shr_nat, vb_shl_nat] at h1
  have h2 : x.toNat * 2 ^ s ≤ x.toNat * 2 ^ s % 2 ^ 64 := by
    rw [← h1]; rw [h1]; 
    calc x.toNat * 2 ^ s = (x.toNat * 2 ^ s % 2 ^ 64) / 2 ^ s * 2 ^ s := by rw [h1]
      _ ≤ _ := Nat.div_mul_le_self _ _
  exact Nat.lt_of_le_of_lt h2 (Nat.mod_lt _ (by decide))

theorem vb_shl_int (x : BitVec 64) (s : Nat) : ∃ k : Int, (x <<< s).toInt = x.toInt * 2 ^ s + 18446744073709551616 * k := by
  have h := vb_shl_nat x s
  rw [show (2 : Nat) ^ 64 = 18446744073709551616 from rfl] at h
  have h2 := Nat.div_add_mod (x.toNat * 2 ^ s) 18446744073709551616
  rw [← h] at h2
  have h3 : ((x.toNat : Int) * 2 ^ s) = 18446744073709551616 * ((x.toNat * 2 ^ s / 18446744073709551616 : Nat) : Int) + ((x <<< s).toNat : Int) := by
    have := congrArg (fun n : Nat => (n : Int)) h2
    simp only [Int.natCast_add, Int.natCast_mul, Int.natCast_pow] at this
    exact this.symm
  have pull : ((x.toNat : Int) - 18446744073709551616) * 2 ^ s = (x.toNat : Int) * 2 ^ s - 18446744073709551616 * 2 ^ s := Int.sub_mul _ _ _
  rcases vb_val x with ⟨a1, a2, a3⟩ | ⟨a1, a2, a3, a4⟩ <;> rcases vb_val (x <<< s) with ⟨b1, b2, b3⟩ | ⟨b1, b2, b3, b4⟩ <;> rw [a2, b2]
  · exact ⟨-((x.toNat * 2 ^ s / 18446744073709551616 : Nat) : Int), by rw [h3]; omega⟩
  · exact ⟨-((x.toNat * 2 ^ s / 18446744073709551616 : Nat) : Int) - 1, by rw [h3]; omega⟩
  · refine ⟨2 ^ s - ((x.toNat * 2 ^ s / 18446744073709551616 : Nat) : Int), ?_⟩
    rw [pull, h3, Int.mul_sub]; omega
  · refine ⟨2 ^ s - ((x.toNat * 2 ^ s / 18446744073709551616 : Nat) : Int) - 1, ?_⟩
    rw [pull, h3, Int.mul_sub, Int.mul_sub]; omega

/-- a shift to the left and back that brings the same back is exact -/
theorem vb_shl_exact {x : BitVec 64} {s : Nat} (hs : s < 64) (h : (x <<< s).sshiftRight s = x) : (x <<< s).toInt = x.toInt * 2 ^ s := by
  obtain ⟨k, hk⟩ := vb_shl_int x s
  have h1 := congrArg BitVec.toInt h
  rw [vb_sshr_int] at h1
  have hp : (0 : Int) < 2 ^ s := Int.pow_pos (by decide)
  have e : (18446744073709551616 : Int) = 2 ^ s * 2 ^ (64 - s) := by
    rw [← Int.pow_add, show s + (64 - s) = 64 by omega]; rfl
  have hd : (x <<< s).toInt = 2 ^ s * (x.toInt + 2 ^ (64 - s) * k) := by
    rw [hk, e, Int.mul_add, Int.mul_comm x.toInt, Int.mul_assoc]
  rw [hd, Int.mul_ediv_cancel_left _ (by omega)] at h1
  rw [hd, h1, Int.mul_comm]
theorem vb_shl_in {a n b : BitVec 64} {s : Nat} (hs : s < 64) (ha : (a <<< s).sshiftRight s = a) (hb : (b <<< s).sshiftRight s = b) (h1 : a.toInt ≤ n.toInt) (h2 : n.toInt ≤ b.toInt) : (a <<< s).toInt ≤ (n <<< s).toInt ∧ (n <<< s).toInt ≤ (b <<< s).toInt := by
  have ea := vb_shl_exact hs ha
  have eb := vb_shl_exact hs hb
  have hp : (0 : Int) ≤ 2 ^ s := Int.le_of_lt (Int.pow_pos (by decide))
  have k1 := Int.mul_le_mul_of_nonneg_right h1 hp
  have k2 := Int.mul_le_mul_of_nonneg_right h2 hp
  obtain ⟨k, hk⟩ := vb_shl_int n s
  have r1 := vb_int_lo (a <<< s); have r2 := vb_int_hi (b <<< s)
  have r3 := vb_int_lo (n <<< s); have r4 := vb_int_hi (n <<< s)
  have r5 := vb_int_hi (a <<< s); have r6 := vb_int_lo (b <<< s)
  rw [show vb_top_.toInt = -9223372036854775808 from by decide] at r1 r3 r6
  rw [show vb_most.toInt = 9223372036854775807 from by decide] at r2 r4 r5
  generalize n.toInt * 2 ^ s = p at *
  omega

theorem vb_shamt {y : vb_S} {m : BitVec 64} {top : Nat} (hm : vb_mem y m) (ht : top = 63 ∨ top = 31) :
    (if top < y.high.toNat then 0 else y.low.toNat) ≤ m.toNat % (top + 1) ∧ m.toNat % (top + 1) ≤ (if top < y.high.toNat then top else y.high.toNat) := by
  obtain ⟨m1, m2, _⟩ := vb_mem_int hm
  rcases ht with rfl | rfl <;> split <;> omega

theorem vb_left_sound {x y : vb_S} {n m : BitVec 64} {top : Nat} (ht : top = 63 ∨ top = 31) (hn : vb_mem x n) (hm : vb_mem y m) : vb_mem (vb_cLeft x y top) (n <<< (m.toNat % (top + 1))) := by
  obtain ⟨n1, n2, n3, n4⟩ := vb_mem_int hn
  unfold vb_cLeft
  split
  · rename_i h
    rw [vb_single_mem hm h]
    have hs : y.low.toNat % (top + 1) < 64 := by rcases ht with rfl | rfl <;> omega
    generalize y.low.toNat % (top + 1) = s at hs ⊢
    refine vb_mem_of (vb_pat_of (fun k hk => ?_)) ?_ ?_ ?_ ?_
    · show (x.ones <<< s).getLsbD k = ((n <<< s).getLsbD k && (x.mask <<< s ||| vb_lowest s).getLsbD k)
      have p := vb_pat_bit hn.1 (k - s)
      rw [BitVec.getLsbD_or, vb_lowest_bit _ hk, BitVec.getLsbD_shiftLeft, BitVec.getLsbD_shiftLeft, BitVec.getLsbD_shiftLeft, p]
      by_cases e : k < s <;> simp [e, hk]
    · show (if (x.high <<< s) >>> s = x.high then x.low <<< s else 0).toNat ≤ (n <<< s).toNat
      split
      · rename_i hc
        have hf := vb_shl_fit hc
        have k1 := Nat.mul_le_mul_right (2 ^ s) n1
        have k2 := Nat.mul_le_mul_right (2 ^ s) n2
        rw [vb_shl_nat, vb_shl_nat, Nat.mod_eq_of_lt (by omega), Nat.mod_eq_of_lt (by omega)]; exact k1
      · exact Nat.zero_le _
    · show (n <<< s).toNat ≤ (if (x.high <<< s) >>> s = x.high then x.high <<< s else vb_m1).toNat
      split
      · rename_i hc
        have hf := vb_shl_fit hc
        have k2 := Nat.mul_le_mul_right (2 ^ s) n2
        rw [vb_shl_nat, vb_shl_nat, Nat.mod_eq_of_lt (by omega), Nat.mod_eq_of_lt (by omega)]; exact k2
      · exact vb_nat_hi _
    · show (if (x.least <<< s).sshiftRight s = x.least ∧ (x.greatest <<< s).sshiftRight s = x.greatest then x.least <<< s else vb_top_).toInt ≤ (n <<< s).toInt
      split
      · rename_i hc; exact (vb_shl_in hs hc.1 hc.2 n3 n4).1
      · exact vb_int_lo _
    · show (n <<< s).toInt ≤ (if (x.least <<< s).sshiftRight s = x.least ∧ (x.greatest <<< s).sshiftRight s = x.greatest then x.greatest <<< s else vb_most).toInt
      split
      · rename_i hc; exact (vb_shl_in hs hc.1 hc.2 n3 n4).2
      · exact vb_int_hi _
  · have hsh := (vb_shamt hm ht).1
    generalize m.toNat % (top + 1) = s at hsh ⊢
    generalize (if top < y.high.toNat then 0 else y.low.toNat) = t at hsh ⊢
    refine vb_mem_of (vb_pat_of (fun k hk => ?_)) (Nat.zero_le _) (vb_nat_hi _) (vb_int_lo _) (vb_int_hi _)
    show (0 : BitVec 64).getLsbD k = ((n <<< s).getLsbD k && (vb_lowest (min 64 (vb_tr (x.mask &&& ~~~x.ones) + t))).getLsbD k)
    rw [vb_bit0, vb_lowest_bit _ hk, BitVec.getLsbD_shiftLeft]
    by_cases e : k < s
    · simp [e]
    · by_cases e2 : k < min 64 (vb_tr (x.mask &&& ~~~x.ones) + t)
      · have h1 := vb_tr_lt (x.mask &&& ~~~x.ones) (k := k - s) (by omega)
        rw [BitVec.getLsbD_and, BitVec.getLsbD_not, Bool.and_eq_true, Bool.and_eq_true] at h1
        have h2 := vb_pat_o hn.1 h1.1
        have h3 : x.ones.getLsbD (k - s) = false := by simpa using h1.2.2
        rw [h2, h3]; simp
      · simp [e2]

theorem vb_right_sound {x y : vb_S} {n m : BitVec 64} {top : Nat} (ht : top = 63 ∨ top = 31) (hn : vb_mem x n) (hm : vb_mem y m) : vb_mem (vb_cRight x y top) (n >>> (m.toNat % (top + 1))) := by
  obtain ⟨n1, n2, n3, n4⟩ := vb_mem_int hn
  unfold vb_cRight
  split
  · rename_i h
    rw [vb_single_mem hm h]
    generalize y.low.toNat % (top + 1) = s
    refine vb_mem_of (vb_pat_of (fun k hk => ?_)) ?_ ?_ (vb_int_lo _) (vb_int_hi _)
    · show (x.ones >>> s).getLsbD k = ((n >>> s).getLsbD k && (~~~(~~~x.mask >>> s)).getLsbD k)
      have p := vb_pat_bit hn.1 (s + k)
      rw [BitVec.getLsbD_not, BitVec.getLsbD_ushiftRight, BitVec.getLsbD_ushiftRight, BitVec.getLsbD_ushiftRight, BitVec.getLsbD_not, p]
      by_cases e : s + k < 64
      · simp [e, hk]
      · rw [BitVec.getLsbD_of_ge n _ (by omega)]; rfl
    · show (x.low >>> s).toNat ≤ (n >>> s).toNat
      rw [vb_shr_nat, vb_shr_nat]; exact Nat.div_le_div_right n1
    · show (n >>> s).toNat ≤ (x.high >>> s).toNat
      rw [vb_shr_nat, vb_shr_nat]; exact Nat.div_le_div_right n2
  · obtain ⟨h1, h2⟩ := vb_shamt hm ht
    generalize m.toNat % (top + 1) = s at h1 h2 ⊢
    generalize (if top < y.high.toNat then 0 else y.low.toNat) = t at h1 ⊢
    generalize (if top < y.high.toNat then top else y.high.toNat) = u at h2 ⊢
    refine vb_mem_of (vb_pat0 _) ?_ ?_ (vb_int_lo _) (vb_int_hi _)
    · show (x.low >>> u).toNat ≤ (n >>> s).toNat
      rw [vb_shr_nat, vb_shr_nat]
      exact Nat.div_le_div n1 (vb_pow_le h2) (Nat.ne_of_gt (Nat.two_pow_pos s))
    · show (n >>> s).toNat ≤ (x.high >>> t).toNat
      rw [vb_shr_nat, vb_shr_nat]
      exact Nat.div_le_div n2 (vb_pow_le h1) (Nat.ne_of_gt (Nat.two_pow_pos t))

theorem vb_ediv_mono {a b : Int} {s : Nat} (h : a ≤ b) : a / 2 ^ s ≤ b / 2 ^ s := Int.ediv_le_ediv (Int.pow_pos (by decide)) h
/-- the more it is shifted, the nearer to 0 or -1 -/
theorem vb_ediv_pow {a : Int} {s t : Nat} (h : s ≤ t) : (0 ≤ a → a / 2 ^ t ≤ a / 2 ^ s ∧ 0 ≤ a / 2 ^ t) ∧ (a < 0 → a / 2 ^ s ≤ a / 2 ^ t ∧ a / 2 ^ t < 0) := by
  have e : (2 : Int) ^ t = 2 ^ s * 2 ^ (t - s) := by rw [← Int.pow_add, show s + (t - s) = t by omega]
  have hp : (0 : Int) < 2 ^ s := Int.pow_pos (by decide)
  have hq : (0 : Int) < 2 ^ (t - s) := Int.pow_pos (by decide)
  have e2 : a / 2 ^ t = a / 2 ^ s / 2 ^ (t - s) := by rw [e, Int.ediv_ediv_of_nonneg (by omega)]
  constructor
  · intro h0
    have h1 : 0 ≤ a / 2 ^ s := Int.ediv_nonneg h0 (by omega)
    rw [e2]
    exact ⟨Int.ediv_le_self _ h1, Int.ediv_nonneg h1 (by omega)⟩
  · intro h0
    have h1 : a / 2 ^ s < 0 := Int.ediv_neg_of_neg_of_pos h0 hp
    rw [e2]
    refine ⟨?_, Int.ediv_neg_of_neg_of_pos h1 hq⟩
    rw [Int.le_ediv_iff_mul_le hq]
    have := Int.mul_le_mul_of_nonpos_left (a := a / 2 ^ s) (b := 2 ^ (t - s)) (c := 1) (by omega) (by omega)
    omega

theorem vb_sright_sound {x y : vb_S} {n m : BitVec 64} {top : Nat} (ht : top = 63 ∨ top = 31) (hn : vb_mem x n) (hm : vb_mem y m) : vb_mem (vb_cSRight x y top) (n.sshiftRight (m.toNat % (top + 1))) := by
  obtain ⟨n1, n2, n3, n4⟩ := vb_mem_int hn
  unfold vb_cSRight
  split
  · rename_i h
    rw [vb_single_mem hm h]
    generalize y.low.toNat % (top + 1) = s
    refine vb_mem_of (vb_pat_of (fun k hk => ?_)) (Nat.zero_le _) (vb_nat_hi _) ?_ ?_
    · show (x.ones.sshiftRight s).getLsbD k = ((n.sshiftRight s).getLsbD k && (x.mask.sshiftRight s).getLsbD k)
      have p := vb_pat_bit hn.1 (s + k)
      have q := vb_pat_bit hn.1 63
      rw [BitVec.getLsbD_sshiftRight, BitVec.getLsbD_sshiftRight, BitVec.getLsbD_sshiftRight, p, vb_msb_bit, vb_msb_bit, vb_msb_bit, q]
      by_cases e : s + k < 64
      · have : ¬ 64 ≤ k := by omega
        simp [e, this]
      · have : ¬ 64 ≤ k := by omega
        simp [e, this]
    · show (x.least.sshiftRight s).toInt ≤ (n.sshiftRight s).toInt
      rw [vb_sshr_int, vb_sshr_int]; exact vb_ediv_mono n3
    · show (n.sshiftRight s).toInt ≤ (x.greatest.sshiftRight s).toInt
      rw [vb_sshr_int, vb_sshr_int]; exact vb_ediv_mono n4
  · obtain ⟨h1, h2⟩ := vb_shamt hm ht
    generalize m.toNat % (top + 1) = s at h1 h2 ⊢
    generalize (if top < y.high.toNat then 0 else y.low.toNat) = t at h1 ⊢
    generalize (if top < y.high.toNat then top else y.high.toNat) = u at h2 ⊢
    refine vb_mem_of (vb_pat0 _) (Nat.zero_le _) (vb_nat_hi _) ?_ ?_
    · show (vb_smin (x.least.sshiftRight t) (x.least.sshiftRight u)).toInt ≤ (n.sshiftRight s).toInt
      rw [vb_smin_int, vb_sshr_int, vb_sshr_int, vb_sshr_int]
      have k1 := vb_ediv_mono (s := s) n3
      have k2 := vb_ediv_pow (a := x.least.toInt) h1
      have k3 := vb_ediv_pow (a := x.least.toInt) h2
      omega
    · show (n.sshiftRight s).toInt ≤ (vb_smax (x.greatest.sshiftRight t) (x.greatest.sshiftRight u)).toInt
      rw [vb_smax_int, vb_sshr_int, vb_sshr_int, vb_sshr_int]
      have k1 := vb_ediv_mono (s := s) n4
      have k2 := vb_ediv_pow (a := x.greatest.toInt) h1
      have k3 := vb_ediv_pow (a := x.greatest.toInt) h2
      omega
