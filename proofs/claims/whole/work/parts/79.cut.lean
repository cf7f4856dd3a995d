/-! cuts, extensions, swaps, joins -/
def vb_cCut (x : vb_S) (n : Nat) : vb_S :=
  if 64 ≤ n then x else
    ⟨x.mask ||| ~~~vb_lowest n, x.ones &&& vb_lowest n, if x.low &&& ~~~vb_lowest n = x.high &&& ~~~vb_lowest n then x.low &&& vb_lowest n else 0, if x.low &&& ~~~vb_lowest n = x.high &&& ~~~vb_lowest n then x.high &&& vb_lowest n else vb_m1, vb_top_, vb_most⟩
theorem vb_low_nat (a : BitVec 64) {n : Nat} (hn : n < 64) : (a &&& vb_lowest n).toNat = a.toNat % 2 ^ n := by
  refine Nat.eq_of_testBit_eq (fun k => ?_)
  rw [BitVec.testBit_toNat, Nat.testBit_mod_two_pow, BitVec.testBit_toNat, BitVec.getLsbD_and]
  by_cases hk : k < 64
  · rw [vb_lowest_bit n hk, Bool.and_comm]
  · rw [BitVec.getLsbD_of_ge a k (by omega)]; simp
theorem vb_high_div {a b : BitVec 64} {n : Nat} (h : a &&& ~~~vb_lowest n = b &&& ~~~vb_lowest n) : a.toNat / 2 ^ n = b.toNat / 2 ^ n := by
  refine Nat.eq_of_testBit_eq (fun k => ?_)
  rw [Nat.testBit_div_two_pow, Nat.testBit_div_two_pow, BitVec.testBit_toNat, BitVec.testBit_toNat]
  by_cases hk : k + n < 64
  · have := congrArg (fun x => x.getLsbD (k + n)) h
    simp only [BitVec.getLsbD_and, BitVec.getLsbD_not, vb_lowest_bit n hk, hk, decide_true, Bool.true_and] at this
    have e : ¬ k + n < n := by omega
    simpa [e] using this
  · rw [BitVec.getLsbD_of_ge a _ (by omega), BitVec.getLsbD_of_ge b _ (by omega)]
theorem vb_cut_sound {x : vb_S} {a : BitVec 64} {n : Nat} (ha : vb_mem x a) : vb_mem (vb_cCut x n) (a &&& vb_lowest n) := by
  obtain ⟨a1, a2, a3, a4⟩ := vb_mem_int ha
  unfold vb_cCut
  split
  · rename_i h
    have : a &&& vb_lowest n = a := by unfold vb_lowest; rw [if_pos h]; rw [← vb_nn0]; exact vb_and_n0 a
    rw [this]; exact ha
  · rename_i h
    have hn : n < 64 := by omega
    refine vb_mem_of (vb_pat_of (fun k hk => ?_)) ?_ ?_ (vb_int_lo _) (vb_int_hi _)
    · show (x.ones &&& vb_lowest n).getLsbD k = ((a &&& vb_lowest n).getLsbD k && (x.mask ||| ~~~vb_lowest n).getLsbD k)
      have p := vb_pat_bit ha.1 k
      rw [BitVec.getLsbD_and, BitVec.getLsbD_and, BitVec.getLsbD_or, BitVec.getLsbD_not, p]
      cases a.getLsbD k <;> cases x.mask.getLsbD k <;> cases (vb_lowest n).getLsbD k <;> simp
    all_goals
      have key : x.low &&& ~~~vb_lowest n = x.high &&& ~~~vb_lowest n → (x.low &&& vb_lowest n).toNat ≤ (a &&& vb_lowest n).toNat ∧ (a &&& vb_lowest n).toNat ≤ (x.high &&& vb_lowest n).toNat := by
        intro hc
        have hd := vb_high_div hc
        have d1 : x.low.toNat / 2 ^ n ≤ a.toNat / 2 ^ n := Nat.div_le_div_right a1
        have d2 : a.toNat / 2 ^ n ≤ x.high.toNat / 2 ^ n := Nat.div_le_div_right a2
        have d3 : a.toNat / 2 ^ n = x.low.toNat / 2 ^ n := by omega
        rw [vb_low_nat _ hn, vb_low_nat _ hn, vb_low_nat _ hn]
        have e1 := Nat.div_add_mod x.low.toNat (2 ^ n)
        have e2 := Nat.div_add_mod a.toNat (2 ^ n)
        have e3 := Nat.div_add_mod x.high.toNat (2 ^ n)
        rw [d3] at e2
        rw [← hd] at e3
        omega
    · show (if x.low &&& ~~~vb_lowest n = x.high &&& ~~~vb_lowest n then x.low &&& vb_lowest n else 0).toNat ≤ (a &&& vb_lowest n).toNat
      split
      · rename_i hc; exact (key hc).1
      · exact Nat.zero_le _
    · show (a &&& vb_lowest n).toNat ≤ (if x.low &&& ~~~vb_lowest n = x.high &&& ~~~vb_lowest n then x.high &&& vb_lowest n else vb_m1).toNat
      split
      · rename_i hc; exact (key hc).2
      · exact vb_nat_hi _
/-- the numbers of what is cut have no bits from n on -/
theorem vb_cut_small {x : vb_S} {c : BitVec 64} {n : Nat} (hn : n < 64) (hc : vb_mem (vb_cCut x n) c) : c.toNat < 2 ^ n := by
  unfold vb_cCut at hc
  rw [if_neg (by omega)] at hc
  have : c &&& vb_lowest n = c := BitVec.eq_of_getLsbD_eq (fun k hk => by
    have p := vb_pat_bit hc.1 k
    change (x.ones &&& vb_lowest n).getLsbD k = (c.getLsbD k && (x.mask ||| ~~~vb_lowest n).getLsbD k) at p
    rw [BitVec.getLsbD_and, BitVec.getLsbD_or, BitVec.getLsbD_not] at p
    rw [BitVec.getLsbD_and]
    revert p
    cases c.getLsbD k <;> cases x.mask.getLsbD k <;> cases (vb_lowest n).getLsbD k <;> simp [hk])
  have h2 := vb_low_nat c hn
  rw [this] at h2
  rw [h2]; exact Nat.mod_lt _ (Nat.two_pow_pos n)

def vb_cExt (w : vb_S) (n : Nat) : vb_S :=
  ⟨if w.mask &&& BitVec.twoPow 64 (n - 1) ≠ 0 then w.mask ||| ~~~vb_lowest n else w.mask &&& vb_lowest n,
   if w.ones &&& BitVec.twoPow 64 (n - 1) ≠ 0 then w.ones ||| ~~~vb_lowest n else w.ones, 0, vb_m1,
   if w.high.slt (BitVec.twoPow 64 (n - 1)) = true then w.low else if (BitVec.twoPow 64 (n - 1)).sle w.low = true then w.low - BitVec.twoPow 64 n else -BitVec.twoPow 64 (n - 1),
   if w.high.slt (BitVec.twoPow 64 (n - 1)) = true then w.high else if (BitVec.twoPow 64 (n - 1)).sle w.low = true then w.high - BitVec.twoPow 64 n else BitVec.twoPow 64 (n - 1) - 1⟩
def vb_sext (c : BitVec 64) (n : Nat) : BitVec 64 := if c.getLsbD (n - 1) = true then c ||| ~~~vb_lowest n else c
theorem vb_small_bit {c : BitVec 64} {n k : Nat} (h : c.toNat < 2 ^ n) (hk : n ≤ k) : c.getLsbD k = false := by
  rw [← BitVec.testBit_toNat]
  exact Nat.testBit_lt_two_pow (Nat.lt_of_lt_of_le h (vb_pow_le hk))
theorem vb_sext_int {c : BitVec 64} {n : Nat} (hn : n = 8 ∨ n = 16 ∨ n = 32) (h : c.toNat < 2 ^ n) : (c.getLsbD (n - 1) = true ∧ 2 ^ (n - 1) ≤ c.toNat ∧ (vb_sext c n).toInt = (c.toNat : Int) - 2 ^ n) ∨ (c.getLsbD (n - 1) = false ∧ c.toNat < 2 ^ (n - 1) ∧ (vb_sext c n).toInt = (c.toNat : Int)) := by
  have tb : c.getLsbD (n - 1) = decide (c.toNat / 2 ^ (n - 1) % 2 = 1) := by rw [← BitVec.testBit_toNat, Nat.testBit_eq_decide_div_mod_eq]
  have hdis : c &&& ~~~vb_lowest n = 0 := BitVec.eq_of_getLsbD_eq (fun k hk => by
    rw [BitVec.getLsbD_and, BitVec.getLsbD_not, vb_lowest_bit n hk, vb_bit0]
    by_cases e : k < n
    · simp [e]
    · rw [vb_small_bit h (by omega)]; rfl)
  have hs : c ||| ~~~vb_lowest n = c + ~~~vb_lowest n := (BitVec.add_eq_or_of_and_eq_zero _ _ hdis).symm
  unfold vb_sext
  rw [hs, tb]
  rcases hn with rfl | rfl | rfl
  · have e : (~~~vb_lowest 8).toNat = 18446744073709551360 := by decide
    have h3 := vb_addC c (~~~vb_lowest 8)
    generalize c + ~~~vb_lowest 8 = s at h3 ⊢
    rw [e] at h3
    simp only [Nat.reduceSub, Nat.reducePow] at h ⊢
    by_cases hc : c.toNat / 128 % 2 = 1
    · left
      simp only [hc, decide_true, if_true, true_and]
      rcases vb_val s with ⟨q1, q2, q3⟩ | ⟨q1, q2, q3, q4⟩ <;> omega
    · right
      simp only [hc, decide_false, Bool.false_eq_true, if_false, true_and]
      rcases vb_val c with ⟨q1, q2, q3⟩ | ⟨q1, q2, q3, q4⟩ <;> omega
  · have e : (~~~vb_lowest 16).toNat = 18446744073709486080 := by decide
    have h3 := vb_addC c (~~~vb_lowest 16)
    generalize c + ~~~vb_lowest 16 = s at h3 ⊢
    rw [e] at h3
    simp only [Nat.reduceSub, Nat.reducePow] at h ⊢
    by_cases hc : c.toNat / 32768 % 2 = 1
    · left
      simp only [hc, decide_true, if_true, true_and]
      rcases vb_val s with ⟨q1, q2, q3⟩ | ⟨q1, q2, q3, q4⟩ <;> omega
    · right
      simp only [hc, decide_false, Bool.false_eq_true, if_false, true_and]
      rcases vb_val c with ⟨q1, q2, q3⟩ | ⟨q1, q2, q3, q4⟩ <;> omega
  · have e : (~~~vb_lowest 32).toNat = 18446744069414584320 := by decide
    have h3 := vb_addC c (~~~vb_lowest 32)
    generalize c + ~~~vb_lowest 32 = s at h3 ⊢
    rw [e] at h3
    simp only [Nat.reduceSub, Nat.reducePow] at h ⊢
    by_cases hc : c.toNat / 2147483648 % 2 = 1
    · left
      simp only [hc, decide_true, if_true, true_and]
      rcases vb_val s with ⟨q1, q2, q3⟩ | ⟨q1, q2, q3, q4⟩ <;> omega
    · right
      simp only [hc, decide_false, Bool.false_eq_true, if_false, true_and]
      rcases vb_val c with ⟨q1, q2, q3⟩ | ⟨q1, q2, q3, q4⟩ <;> omega

theorem vb_ext_sound {w : vb_S} {c : BitVec 64} {n : Nat} (hn : n = 8 ∨ n = 16 ∨ n = 32) (hw : w.high.toNat < 2 ^ n) (hc : vb_mem w c) : vb_mem (vb_cExt w n) (vb_sext c n) := by
  obtain ⟨c1, c2, c3, c4⟩ := vb_mem_int hc
  have hcn : c.toNat < 2 ^ n := by omega
  have hi := vb_sext_int hn hcn
  refine vb_mem_of (vb_pat_of (fun k hk => ?_)) (Nat.zero_le _) (vb_nat_hi _) ?_ ?_
  · show (if w.ones &&& BitVec.twoPow 64 (n - 1) ≠ 0 then w.ones ||| ~~~vb_lowest n else w.ones).getLsbD k = ((vb_sext c n).getLsbD k && (if w.mask &&& BitVec.twoPow 64 (n - 1) ≠ 0 then w.mask ||| ~~~vb_lowest n else w.mask &&& vb_lowest n).getLsbD k)
    have n1 : n - 1 < 64 := by omega
    have p := vb_pat_bit hc.1 k
    have q := vb_pat_bit hc.1 (n - 1)
    have z : n ≤ k → c.getLsbD k = false := fun h => vb_small_bit hcn h
    unfold vb_sext
    simp only [vb_bit_ne n1]
    rw [q]
    cases e1 : c.getLsbD (n - 1) <;> cases e2 : w.mask.getLsbD (n - 1) <;> simp only [Bool.and_true, Bool.and_false, Bool.false_eq_true, if_false, if_true, BitVec.getLsbD_or, BitVec.getLsbD_and, BitVec.getLsbD_not, vb_lowest_bit n hk, hk, decide_true, Bool.true_and, p] <;> (by_cases e : k < n <;> simp only [e, decide_true, decide_false, Bool.not_true, Bool.not_false, Bool.or_false, Bool.or_true, Bool.and_true, Bool.and_false, Bool.true_and]) <;> (try rw [z (by omega)]) <;> simp
  all_goals
    have l1 : w.low.toNat ≤ c.toNat := c1
    have l2 : c.toNat ≤ w.high.toNat := c2
  · show (if w.high.slt (BitVec.twoPow 64 (n - 1)) = true then w.low else if (BitVec.twoPow 64 (n - 1)).sle w.low = true then w.low - BitVec.twoPow 64 n else -BitVec.twoPow 64 (n - 1)).toInt ≤ (vb_sext c n).toInt
    rcases hn with rfl | rfl | rfl
    · have t1 : (BitVec.twoPow 64 7).toInt = 128 := by decide
      have t2 : (BitVec.twoPow 64 8).toNat = 256 := by decide
      have t3 : (-BitVec.twoPow 64 7).toInt = -128 := by decide
      simp only [Nat.reduceSub, Nat.reducePow] at hi hw ⊢
      have h3 := vb_subC w.low (BitVec.twoPow 64 8)
      rw [t2] at h3
      generalize w.low - BitVec.twoPow 64 8 = s at h3 ⊢
      rcases vb_val w.low with ⟨a1, a2, a3⟩ | ⟨a1, a2, a3, a4⟩ <;> rcases vb_val w.high with ⟨b1, b2, b3⟩ | ⟨b1, b2, b3, b4⟩ <;> rcases vb_val s with ⟨q1, q2, q3⟩ | ⟨q1, q2, q3, q4⟩ <;> (split <;> rename_i g <;> rw [vb_slt, t1] at g <;> first | omega | (split <;> rename_i g2 <;> rw [vb_sle, t1] at g2 <;> omega))
    · have t1 : (BitVec.twoPow 64 15).toInt = 32768 := by decide
      have t2 : (BitVec.twoPow 64 16).toNat = 65536 := by decide
      have t3 : (-BitVec.twoPow 64 15).toInt = -32768 := by decide
      simp only [Nat.reduceSub, Nat.reducePow] at hi hw ⊢
      have h3 := vb_subC w.low (BitVec.twoPow 64 16)
      rw [t2] at h3
      generalize w.low - BitVec.twoPow 64 16 = s at h3 ⊢
      rcases vb_val w.low with ⟨a1, a2, a3⟩ | ⟨a1, a2, a3, a4⟩ <;> rcases vb_val w.high with ⟨b1, b2, b3⟩ | ⟨b1, b2, b3, b4⟩ <;> rcases vb_val s with ⟨q1, q2, q3⟩ | ⟨q1, q2, q3, q4⟩ <;> (split <;> rename_i g <;> rw [vb_slt, t1] at g <;> first | omega | (split <;> rename_i g2 <;> rw [vb_sle, t1] at g2 <;> omega))
    · have t1 : (BitVec.twoPow 64 31).toInt = 2147483648 := by decide
      have t2 : (BitVec.twoPow 64 32).toNat = 4294967296 := by decide
      have t3 : (-BitVec.twoPow 64 31).toInt = -2147483648 := by decide
      simp only [Nat.reduceSub, Nat.reducePow] at hi hw ⊢
      have h3 := vb_subC w.low (BitVec.twoPow 64 32)
      rw [t2] at h3
      generalize w.low - BitVec.twoPow 64 32 = s at h3 ⊢
      rcases vb_val w.low with ⟨a1, a2, a3⟩ | ⟨a1, a2, a3, a4⟩ <;> rcases vb_val w.high with ⟨b1, b2, b3⟩ | ⟨b1, b2, b3, b4⟩ <;> rcases vb_val s with ⟨q1, q2, q3⟩ | ⟨q1, q2, q3, q4⟩ <;> (split <;> rename_i g <;> rw [vb_slt, t1] at g <;> first | omega | (split <;> rename_i g2 <;> rw [vb_sle, t1] at g2 <;> omega))
  · show (vb_sext c n).toInt ≤ (if w.high.slt (BitVec.twoPow 64 (n - 1)) = true then w.high else if (BitVec.twoPow 64 (n - 1)).sle w.low = true then w.high - BitVec.twoPow 64 n else BitVec.twoPow 64 (n - 1) - 1).toInt
    rcases hn with rfl | rfl | rfl
    · have t1 : (BitVec.twoPow 64 7).toInt = 128 := by decide
      have t2 : (BitVec.twoPow 64 8).toNat = 256 := by decide
      have t3 : (BitVec.twoPow 64 7 - 1).toInt = 127 := by decide
      simp only [Nat.reduceSub, Nat.reducePow] at hi hw ⊢
      have h3 := vb_subC w.high (BitVec.twoPow 64 8)
      rw [t2] at h3
      generalize w.high - BitVec.twoPow 64 8 = s at h3 ⊢
      rcases vb_val w.low with ⟨a1, a2, a3⟩ | ⟨a1, a2, a3, a4⟩ <;> rcases vb_val w.high with ⟨b1, b2, b3⟩ | ⟨b1, b2, b3, b4⟩ <;> rcases vb_val s with ⟨q1, q2, q3⟩ | ⟨q1, q2, q3, q4⟩ <;> (split <;> rename_i g <;> rw [vb_slt, t1] at g <;> first | omega | (split <;> rename_i g2 <;> rw [vb_sle, t1] at g2 <;> omega))
    · have t1 : (BitVec.twoPow 64 15).toInt = 32768 := by decide
      have t2 : (BitVec.twoPow 64 16).toNat = 65536 := by decide
      have t3 : (BitVec.twoPow 64 15 - 1).toInt = 32767 := by decide
      simp only [Nat.reduceSub, Nat.reducePow] at hi hw ⊢
      have h3 := vb_subC w.high (BitVec.twoPow 64 16)
      rw [t2] at h3
      generalize w.high - BitVec.twoPow 64 16 = s at h3 ⊢
      rcases vb_val w.low with ⟨a1, a2, a3⟩ | ⟨a1, a2, a3, a4⟩ <;> rcases vb_val w.high with ⟨b1, b2, b3⟩ | ⟨b1, b2, b3, b4⟩ <;> rcases vb_val s with ⟨q1, q2, q3⟩ | ⟨q1, q2, q3, q4⟩ <;> (split <;> rename_i g <;> rw [vb_slt, t1] at g <;> first | omega | (split <;> rename_i g2 <;> rw [vb_sle, t1] at g2 <;> omega))
    · have t1 : (BitVec.twoPow 64 31).toInt = 2147483648 := by decide
      have t2 : (BitVec.twoPow 64 32).toNat = 4294967296 := by decide
      have t3 : (BitVec.twoPow 64 31 - 1).toInt = 2147483647 := by decide
      simp only [Nat.reduceSub, Nat.reducePow] at hi hw ⊢
      have h3 := vb_subC w.high (BitVec.twoPow 64 32)
      rw [t2] at h3
      generalize w.high - BitVec.twoPow 64 32 = s at h3 ⊢
      rcases vb_val w.low with ⟨a1, a2, a3⟩ | ⟨a1, a2, a3, a4⟩ <;> rcases vb_val w.high with ⟨b1, b2, b3⟩ | ⟨b1, b2, b3, b4⟩ <;> rcases vb_val s with ⟨q1, q2, q3⟩ | ⟨q1, q2, q3, q4⟩ <;> (split <;> rename_i g <;> rw [vb_slt, t1] at g <;> first | omega | (split <;> rename_i g2 <;> rw [vb_sle, t1] at g2 <;> omega))

/-- bytes the other way round -/
def vb_turnedL (x : BitVec 64) : Nat → BitVec 64
  | 0 => 0
  | j + 1 => (vb_turnedL x j <<< 8) ||| ((x >>> (8 * j)) &&& 255)
def vb_turned (x : BitVec 64) (n : Nat) : BitVec 64 := vb_turnedL x (n / 8)
theorem vb_255_bit {k : Nat} (hk : k < 64) : (255 : BitVec 64).getLsbD k = decide (k < 8) := by
  have : (255 : BitVec 64) = vb_lowest 8 := by decide
  rw [this, vb_lowest_bit 8 hk]
theorem vb_turnedL_bit (x : BitVec 64) : ∀ j, j ≤ 8 → ∀ k, k < 64 → (vb_turnedL x j).getLsbD k = (decide (k < 8 * j) && x.getLsbD (8 * (j - 1 - k / 8) + k % 8)) := by
  intro j
  induction j with
  | zero => intro _ k _; unfold vb_turnedL; rw [vb_bit0]; simp
  | succ j ih =>
    intro hj k hk
    unfold vb_turnedL
    rw [BitVec.getLsbD_or, BitVec.getLsbD_and, BitVec.getLsbD_shiftLeft, BitVec.getLsbD_ushiftRight, vb_255_bit hk]
    by_cases e : k < 8
    · have e1 : k < 8 * (j + 1) := by omega
      have e2 : 8 * (j + 1 - 1 - k / 8) + k % 8 = 8 * j + k := by omega
      rw [e2]; simp [e, e1]
    · rw [ih (by omega) (k - 8) (by omega)]
      have e2 : 8 * (j - 1 - (k - 8) / 8) + (k - 8) % 8 = 8 * (j + 1 - 1 - k / 8) + k % 8 ∨ ¬ k < 8 * (j + 1) := by omega
      by_cases e1 : k < 8 * (j + 1)
      · have e3 : k - 8 < 8 * j := by omega
        rcases e2 with e2 | e2
        · simp [e, e1, e2, e3, hk]
        · exact absurd e1 e2
      · have e3 : ¬ k - 8 < 8 * j := by omega
        simp [e, e1, e3]
theorem vb_turned_bit (x : BitVec 64) {n : Nat} (hn : n = 16 ∨ n = 32 ∨ n = 64) {k : Nat} (hk : k < 64) : (vb_turned x n).getLsbD k = (decide (k < n) && x.getLsbD (8 * (n / 8 - 1 - k / 8) + k % 8)) := by
  unfold vb_turned
  rw [vb_turnedL_bit x (n / 8) (by omega) k hk, show 8 * (n / 8) = n by omega]
def vb_cSwap (w : vb_S) (n : Nat) : vb_S := ⟨vb_turned w.mask n ||| ~~~vb_lowest n, vb_turned w.ones n, 0, vb_m1, vb_top_, vb_most⟩
theorem vb_swap_sound {w : vb_S} {c : BitVec 64} {n : Nat} (hn : n = 16 ∨ n = 32 ∨ n = 64) (hc : vb_mem w c) : vb_mem (vb_cSwap w n) (vb_turned c n) := by
  refine vb_mem_of (vb_pat_of (fun k hk => ?_)) (Nat.zero_le _) (vb_nat_hi _) (vb_int_lo _) (vb_int_hi _)
  show (vb_turned w.ones n).getLsbD k = ((vb_turned c n).getLsbD k && (vb_turned w.mask n ||| ~~~vb_lowest n).getLsbD k)
  rw [BitVec.getLsbD_or, BitVec.getLsbD_not, vb_lowest_bit n hk, vb_turned_bit _ hn hk, vb_turned_bit _ hn hk, vb_turned_bit _ hn hk, vb_pat_bit hc.1]
  by_cases e : k < n <;> simp [e]
