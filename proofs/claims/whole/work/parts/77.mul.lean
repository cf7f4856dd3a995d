/-! products, quotients, rests, bits -/
def vb_lowest (n : Nat) : BitVec 64 := if 64 ≤ n then vb_m1 else BitVec.twoPow 64 n - 1
theorem vb_lowest_bit (n : Nat) {k : Nat} (hk : k < 64) : (vb_lowest n).getLsbD k = decide (k < n) := by
  unfold vb_lowest
  split
  · rw [vb_m1_bit hk]
    have : k < n := by omega
    simp [this]
  · exact vb_tp1 (by omega) k
/-- how many of the lowest bits are 1 -/
def vb_trL (z : BitVec 64) : Nat → Nat → Nat
  | 0, n => n
  | d + 1, n => if z.getLsbD n = true then vb_trL z d (n + 1) else n
def vb_tr (z : BitVec 64) : Nat := vb_trL z 64 0
theorem vb_trL_ok (z : BitVec 64) : ∀ d n, n + d = 64 → (∀ k, k < n → z.getLsbD k = true) → n ≤ vb_trL z d n ∧ vb_trL z d n ≤ 64 ∧ (∀ k, k < vb_trL z d n → z.getLsbD k = true) ∧ (vb_trL z d n < 64 → z.getLsbD (vb_trL z d n) = false) := by
  intro d
  induction d with
  | zero => intro n hn h; unfold vb_trL; exact ⟨Nat.le_refl _, by omega, h, fun h' => by omega⟩
  | succ d ih =>
    intro n hn h
    unfold vb_trL
    split
    · rename_i h1
      have := ih (n + 1) (by omega) (fun k hk => by
        rcases Nat.lt_or_eq_of_le (Nat.le_of_lt_succ hk) with h' | h'
        · exact h k h'
        · exact h' ▸ h1)
      exact ⟨by omega, this.2⟩
    · rename_i h1
      exact ⟨Nat.le_refl _, by omega, h, fun _ => by simpa using h1⟩
theorem vb_tr_le (z : BitVec 64) : vb_tr z ≤ 64 := (vb_trL_ok z 64 0 rfl (fun k hk => by omega)).2.1
theorem vb_tr_lt (z : BitVec 64) {k : Nat} (h : k < vb_tr z) : z.getLsbD k = true := (vb_trL_ok z 64 0 rfl (fun k hk => by omega)).2.2.1 k h
theorem vb_tr_at (z : BitVec 64) (h : vb_tr z < 64) : z.getLsbD (vb_tr z) = false := (vb_trL_ok z 64 0 rfl (fun k hk => by omega)).2.2.2 h

def vb_mulFits (a b : BitVec 64) : Bool := decide (-9223372036854775808 ≤ a.toInt * b.toInt ∧ a.toInt * b.toInt < 9223372036854775808)
def vb_min4 (a b c d : BitVec 64) : BitVec 64 := vb_smin (vb_smin a b) (vb_smin c d)
def vb_max4 (a b c d : BitVec 64) : BitVec 64 := vb_smax (vb_smax a b) (vb_smax c d)
def vb_cMul (x y : vb_S) : vb_S :=
  let n := min (vb_tr x.mask + vb_tr (y.mask &&& ~~~y.ones)) (vb_tr y.mask + vb_tr (x.mask &&& ~~~x.ones))
  let b := decide (x.high = 0) || !decide (vb_m1 / x.high < y.high)
  let c := vb_mulFits x.least y.least && vb_mulFits x.least y.greatest && vb_mulFits x.greatest y.least && vb_mulFits x.greatest y.greatest
  ⟨vb_lowest n, x.ones * y.ones &&& vb_lowest n, if b = true then x.low * y.low else 0, if b = true then x.high * y.high else vb_m1,
    if c = true then vb_min4 (x.least * y.least) (x.least * y.greatest) (x.greatest * y.least) (x.greatest * y.greatest) else vb_top_,
    if c = true then vb_max4 (x.least * y.least) (x.least * y.greatest) (x.greatest * y.least) (x.greatest * y.greatest) else vb_most⟩
def vb_cDiv (x y : vb_S) : vb_S := ⟨0, 0, if y.low = 0 then 0 else x.low / y.high, if y.low = 0 then x.high else x.high / y.low, vb_top_, vb_most⟩
def vb_cRest (x y : vb_S) : vb_S := if x.high < y.low then x else ⟨0, 0, 0, if y.low = 0 then x.high else vb_lesser x.high (y.high - 1), vb_top_, vb_most⟩
def vb_cAnd (x y : vb_S) : vb_S := ⟨(x.ones &&& y.ones) ||| (x.mask &&& ~~~x.ones) ||| (y.mask &&& ~~~y.ones), x.ones &&& y.ones, 0, vb_lesser x.high y.high, vb_top_, vb_most⟩
def vb_cOr (x y : vb_S) : vb_S := ⟨(x.ones ||| y.ones) ||| ((x.mask &&& ~~~x.ones) &&& (y.mask &&& ~~~y.ones)), x.ones ||| y.ones, vb_larger x.low y.low, vb_m1, vb_top_, vb_most⟩
def vb_cXor (x y : vb_S) : vb_S := ⟨x.mask &&& y.mask, (x.ones ^^^ y.ones) &&& (x.mask &&& y.mask), 0, vb_m1, vb_top_, vb_most⟩

/-- numbers alike in their lowest bits -/
theorem vb_mod_of_bits {a b : BitVec 64} {p : Nat} (h : ∀ k, k < p → a.getLsbD k = b.getLsbD k) : a.toNat % 2 ^ p = b.toNat % 2 ^ p := by
  refine Nat.eq_of_testBit_eq (fun k => ?_)
  rw [Nat.testBit_mod_two_pow, Nat.testBit_mod_two_pow, BitVec.testBit_toNat, BitVec.testBit_toNat]
  by_cases hk : k < p
  · rw [h k hk]
  · simp [hk]
theorem vb_dvd_sub {a b n : Nat} (h : a % n = b % n) : (n : Int) ∣ (a : Int) - b := by
  have : ((a : Int) - b) % n = 0 := by
    rw [← Int.emod_eq_emod_iff_emod_sub_eq_zero]
    exact_mod_cast congrArg (fun x : Nat => (x : Int)) h
  exact Int.dvd_of_emod_eq_zero this
theorem vb_mul_mod {a b o w : Nat} {p s q r n : Nat} (h1 : a % 2 ^ p = o % 2 ^ p) (h2 : b % 2 ^ s = 0) (h3 : b % 2 ^ q = w % 2 ^ q) (h4 : o % 2 ^ r = 0) (hn1 : n ≤ p + s) (hn2 : n ≤ q + r) : (a * b) % 2 ^ n = (o * w) % 2 ^ n := by
  obtain ⟨u1, e1⟩ := vb_dvd_sub h1
  obtain ⟨u2, e2⟩ := vb_dvd_sub h3
  obtain ⟨v1, e3⟩ := Nat.dvd_of_mod_eq_zero h2
  obtain ⟨v2, e4⟩ := Nat.dvd_of_mod_eq_zero h4
  have d1 : ((2 ^ n : Nat) : Int) ∣ ((2 ^ p : Nat) : Int) * ((2 ^ s : Nat) : Int) := by
    rw [← Int.natCast_mul, ← Nat.pow_add]; exact Int.natCast_dvd_natCast.mpr (Nat.pow_dvd_pow 2 hn1)
  have d2 : ((2 ^ n : Nat) : Int) ∣ ((2 ^ r : Nat) : Int) * ((2 ^ q : Nat) : Int) := by
    rw [← Int.natCast_mul, ← Nat.pow_add]; exact Int.natCast_dvd_natCast.mpr (Nat.pow_dvd_pow 2 (by omega))
  have e : ((a * b : Nat) : Int) - ((o * w : Nat) : Int) = ((2 ^ p : Nat) : Int) * ((2 ^ s : Nat) : Int) * (u1 * (v1 : Int)) + ((2 ^ r : Nat) : Int) * ((2 ^ q : Nat) : Int) * ((v2 : Int) * u2) := by
    have hb : (b : Int) = ((2 ^ s : Nat) : Int) * (v1 : Int) := by rw [e3]; exact Int.natCast_mul _ _
    have ho : (o : Int) = ((2 ^ r : Nat) : Int) * (v2 : Int) := by rw [e4]; exact Int.natCast_mul _ _
    have ha : (a : Int) = (o : Int) + ((2 ^ p : Nat) : Int) * u1 := by omega
    have hw : (w : Int) = (b : Int) - ((2 ^ q : Nat) : Int) * u2 := by omega
    rw [Int.natCast_mul, Int.natCast_mul, hw, ha]
    have k1 : ((o : Int) + ((2 ^ p : Nat) : Int) * u1) * (b : Int) = (o : Int) * b + ((2 ^ p : Nat) : Int) * u1 * b := Int.add_mul _ _ _
    have k2 : (o : Int) * ((b : Int) - ((2 ^ q : Nat) : Int) * u2) = (o : Int) * b - (o : Int) * (((2 ^ q : Nat) : Int) * u2) := Int.mul_sub _ _ _
    rw [k1, k2]
    have k3 : ((2 ^ p : Nat) : Int) * u1 * b = ((2 ^ p : Nat) : Int) * ((2 ^ s : Nat) : Int) * (u1 * (v1 : Int)) := by rw [hb]; ac_rfl
    have k4 : (o : Int) * (((2 ^ q : Nat) : Int) * u2) = ((2 ^ r : Nat) : Int) * ((2 ^ q : Nat) : Int) * ((v2 : Int) * u2) := by rw [ho]; ac_rfl
    rw [k3, k4]; omega
  have d : ((2 ^ n : Nat) : Int) ∣ ((a * b : Nat) : Int) - ((o * w : Nat) : Int) := by
    rw [e]; exact Int.dvd_add (Int.dvd_mul_of_dvd_left d1) (Int.dvd_mul_of_dvd_left d2)
  have := Int.emod_eq_emod_iff_emod_sub_eq_zero.mpr (Int.emod_eq_zero_of_dvd d)
  exact_mod_cast this

theorem vb_mul_int {a b : BitVec 64} (h : vb_mulFits a b = true) : (a * b).toInt = a.toInt * b.toInt := by
  unfold vb_mulFits at h
  rw [decide_eq_true_eq] at h
  rw [BitVec.toInt_mul]
  exact Int.bmod_eq_of_le (by simpa using h.1) (by simpa using h.2)
theorem vb_mul_side {a n b m : Int} (h1 : a ≤ n) (h2 : n ≤ b) : min (a * m) (b * m) ≤ n * m ∧ n * m ≤ max (a * m) (b * m) := by
  rcases Int.le_total 0 m with h | h
  · have k1 := Int.mul_le_mul_of_nonneg_right h1 h
    have k2 := Int.mul_le_mul_of_nonneg_right h2 h
    omega
  · have k1 := Int.mul_le_mul_of_nonpos_right h1 h
    have k2 := Int.mul_le_mul_of_nonpos_right h2 h
    omega

theorem vb_mul_sound {x y : vb_S} {n m : BitVec 64} (hn : vb_mem x n) (hm : vb_mem y m) : vb_mem (vb_cMul x y) (n * m) := by
  obtain ⟨n1, n2, n3, n4⟩ := vb_mem_int hn
  obtain ⟨m1, m2, m3, m4⟩ := vb_mem_int hm
  refine vb_mem_of (vb_pat_of (fun k hk => ?_)) ?_ ?_ ?_ ?_
  · show (x.ones * y.ones &&& vb_lowest (min (vb_tr x.mask + vb_tr (y.mask &&& ~~~y.ones)) (vb_tr y.mask + vb_tr (x.mask &&& ~~~x.ones)))).getLsbD k = ((n * m).getLsbD k && (vb_lowest (min (vb_tr x.mask + vb_tr (y.mask &&& ~~~y.ones)) (vb_tr y.mask + vb_tr (x.mask &&& ~~~x.ones)))).getLsbD k)
    rw [BitVec.getLsbD_and, vb_lowest_bit _ hk]
    by_cases hlt : k < min (vb_tr x.mask + vb_tr (y.mask &&& ~~~y.ones)) (vb_tr y.mask + vb_tr (x.mask &&& ~~~x.ones))
    · simp only [hlt, decide_true, Bool.and_true]
      have zero : ∀ {v : vb_S} {n : BitVec 64}, vb_mem v n → ∀ k, k < vb_tr (v.mask &&& ~~~v.ones) → n.getLsbD k = false ∧ v.ones.getLsbD k = false := by
        intro v n hn k hk
        have h1 := vb_tr_lt _ hk
        have hk' : k < 64 := by have := vb_tr_le (v.mask &&& ~~~v.ones); omega
        rw [BitVec.getLsbD_and, BitVec.getLsbD_not, Bool.and_eq_true, Bool.and_eq_true] at h1
        have h2 := vb_pat_o hn.1 h1.1
        have h3 : v.ones.getLsbD k = false := by simpa using h1.2.2
        exact ⟨h2.trans h3, h3⟩
      have mod0 : ∀ {z : BitVec 64} {s : Nat}, (∀ k, k < s → z.getLsbD k = false) → z.toNat % 2 ^ s = 0 := by
        intro z s h
        have := vb_mod_of_bits (a := z) (b := 0) (p := s) (fun k hk => by rw [h k hk, vb_bit0])
        rw [this]; simp
      have key := vb_mul_mod (n := k + 1) (vb_mod_of_bits (a := n) (b := x.ones) (p := vb_tr x.mask) (fun k hk => vb_pat_o hn.1 (vb_tr_lt _ hk))) (mod0 (fun k hk => (zero hm k hk).1)) (vb_mod_of_bits (a := m) (b := y.ones) (p := vb_tr y.mask) (fun k hk => vb_pat_o hm.1 (vb_tr_lt _ hk))) (mod0 (fun k hk => (zero hn k hk).2)) (by omega) (by omega)
      have tb : ∀ a b : BitVec 64, (a * b).getLsbD k = ((a.toNat * b.toNat) % 2 ^ (k + 1)).testBit k := by
        intro a b
        rw [← BitVec.testBit_toNat, BitVec.toNat_mul, Nat.testBit_mod_two_pow, Nat.testBit_mod_two_pow]
        have : k < k + 1 := by omega
        simp [hk, this]
      rw [tb, tb, key]
    · simp [hlt]
  · show (if (decide (x.high = 0) || !decide (vb_m1 / x.high < y.high)) = true then x.low * y.low else 0).toNat ≤ (n * m).toNat
    split
    · rename_i hb
      have hlt : x.high.toNat * y.high.toNat < 18446744073709551616 := by
        rw [Bool.or_eq_true, decide_eq_true_eq, Bool.not_eq_true', decide_eq_false_iff_not, BitVec.lt_def, BitVec.toNat_udiv, show vb_m1.toNat = 18446744073709551615 from rfl] at hb
        rcases hb with hb | hb
        · rw [hb]; simp
        · by_cases h0 : x.high.toNat = 0
          · rw [h0]; simp
          · have h5 : y.high.toNat ≤ 18446744073709551615 / x.high.toNat := by omega
            have h6 := (Nat.le_div_iff_mul_le (by omega)).mp h5
            rw [Nat.mul_comm] at h6; omega
      have e1 : x.low.toNat * y.low.toNat ≤ n.toNat * m.toNat := Nat.mul_le_mul n1 m1
      have e2 : n.toNat * m.toNat ≤ x.high.toNat * y.high.toNat := Nat.mul_le_mul n2 m2
      rw [BitVec.toNat_mul, BitVec.toNat_mul, show (2 : Nat) ^ 64 = 18446744073709551616 from rfl, Nat.mod_eq_of_lt (by omega), Nat.mod_eq_of_lt (by omega)]
      exact e1
    · exact Nat.zero_le _
  · show (n * m).toNat ≤ (if (decide (x.high = 0) || !decide (vb_m1 / x.high < y.high)) = true then x.high * y.high else vb_m1).toNat
    split
    · rename_i hb
      have hlt : x.high.toNat * y.high.toNat < 18446744073709551616 := by
        rw [Bool.or_eq_true, decide_eq_true_eq, Bool.not_eq_true', decide_eq_false_iff_not, BitVec.lt_def, BitVec.toNat_udiv, show vb_m1.toNat = 18446744073709551615 from rfl] at hb
        rcases hb with hb | hb
        · rw [hb]; simp
        · by_cases h0 : x.high.toNat = 0
          · rw [h0]; simp
          · have h5 : y.high.toNat ≤ 18446744073709551615 / x.high.toNat := by omega
            have h6 := (Nat.le_div_iff_mul_le (by omega)).mp h5
            rw [Nat.mul_comm] at h6; omega
      have e2 : n.toNat * m.toNat ≤ x.high.toNat * y.high.toNat := Nat.mul_le_mul n2 m2
      rw [BitVec.toNat_mul, BitVec.toNat_mul, show (2 : Nat) ^ 64 = 18446744073709551616 from rfl, Nat.mod_eq_of_lt (by omega), Nat.mod_eq_of_lt (by omega)]
      exact e2
    · exact vb_nat_hi _
  all_goals
    have fit : (vb_mulFits x.least y.least && vb_mulFits x.least y.greatest && vb_mulFits x.greatest y.least && vb_mulFits x.greatest y.greatest) = true → (vb_min4 (x.least * y.least) (x.least * y.greatest) (x.greatest * y.least) (x.greatest * y.greatest)).toInt ≤ (n * m).toInt ∧ (n * m).toInt ≤ (vb_max4 (x.least * y.least) (x.least * y.greatest) (x.greatest * y.least) (x.greatest * y.greatest)).toInt := by
      intro h
      rw [Bool.and_eq_true, Bool.and_eq_true, Bool.and_eq_true] at h
      obtain ⟨⟨⟨f1, f2⟩, f3⟩, f4⟩ := h
      have g1 := vb_mul_int f1; have g2 := vb_mul_int f2; have g3 := vb_mul_int f3; have g4 := vb_mul_int f4
      have s1 := vb_mul_side (m := m.toInt) n3 n4
      have s2 := vb_mul_side (m := x.least.toInt) m3 m4
      have s3 := vb_mul_side (m := x.greatest.toInt) m3 m4
      rw [Int.mul_comm y.least.toInt, Int.mul_comm y.greatest.toInt, Int.mul_comm m.toInt] at s2 s3
      unfold vb_mulFits at f1 f2 f3 f4
      rw [decide_eq_true_eq] at f1 f2 f3 f4
      have g5 : (n * m).toInt = n.toInt * m.toInt := vb_mul_int (by unfold vb_mulFits; rw [decide_eq_true_eq]; omega)
      unfold vb_min4 vb_max4
      simp only [vb_smin_int, vb_smax_int]
      omega
  · show (if (vb_mulFits x.least y.least && vb_mulFits x.least y.greatest && vb_mulFits x.greatest y.least && vb_mulFits x.greatest y.greatest) = true then vb_min4 (x.least * y.least) (x.least * y.greatest) (x.greatest * y.least) (x.greatest * y.greatest) else vb_top_).toInt ≤ (n * m).toInt
    split
    · rename_i h; exact (fit h).1
    · exact vb_int_lo _
  · show (n * m).toInt ≤ (if (vb_mulFits x.least y.least && vb_mulFits x.least y.greatest && vb_mulFits x.greatest y.least && vb_mulFits x.greatest y.greatest) = true then vb_max4 (x.least * y.least) (x.least * y.greatest) (x.greatest * y.least) (x.greatest * y.greatest) else vb_most).toInt
    split
    · rename_i h; exact (fit h).2
    · exact vb_int_hi _

theorem vb_pat0 (n : BitVec 64) : vb_pat 0 0 n := by unfold vb_pat; exact BitVec.and_zero
theorem vb_div_sound {x y : vb_S} {n m : BitVec 64} (hn : vb_mem x n) (hm : vb_mem y m) : vb_mem (vb_cDiv x y) (n / m) := by
  obtain ⟨n1, n2, n3, n4⟩ := vb_mem_int hn
  obtain ⟨m1, m2, m3, m4⟩ := vb_mem_int hm
  refine vb_mem_of (vb_pat0 _) ?_ ?_ (vb_int_lo _) (vb_int_hi _)
  · show (if y.low = 0 then 0 else x.low / y.high).toNat ≤ (n / m).toNat
    split
    · exact Nat.zero_le _
    · rename_i h
      have h0 : y.low.toNat ≠ 0 := fun e => h (BitVec.eq_of_toNat_eq (by rw [e]; rfl))
      rw [BitVec.toNat_udiv, BitVec.toNat_udiv]
      exact Nat.div_le_div n1 m2 (by omega)
  · show (n / m).toNat ≤ (if y.low = 0 then x.high else x.high / y.low).toNat
    split
    · rw [BitVec.toNat_udiv]; exact Nat.le_trans (Nat.div_le_self _ _) n2
    · rename_i h
      have h0 : y.low.toNat ≠ 0 := fun e => h (BitVec.eq_of_toNat_eq (by rw [e]; rfl))
      rw [BitVec.toNat_udiv, BitVec.toNat_udiv]
      exact Nat.div_le_div n2 m1 h0
theorem vb_rest_sound {x y : vb_S} {n m : BitVec 64} (hn : vb_mem x n) (hm : vb_mem y m) : vb_mem (vb_cRest x y) (if m = 0 then n else n % m) := by
  have hn' := vb_mem_int hn
  obtain ⟨n1, n2, n3, n4⟩ := hn'
  obtain ⟨m1, m2, m3, m4⟩ := vb_mem_int hm
  unfold vb_cRest
  split
  · rename_i h
    rw [BitVec.lt_def] at h
    have h0 : ¬ m = 0 := by intro e; subst e; simp at m1; omega
    rw [if_neg h0]
    have : n % m = n := BitVec.eq_of_toNat_eq (by rw [BitVec.toNat_umod]; exact Nat.mod_eq_of_lt (by omega))
    rw [this]; exact hn
  · refine vb_mem_of (vb_pat0 _) (Nat.zero_le _) ?_ (vb_int_lo _) (vb_int_hi _)
    show (if m = 0 then n else n % m).toNat ≤ (if y.low = 0 then x.high else vb_lesser x.high (y.high - 1)).toNat
    have hle : (if m = 0 then n else n % m).toNat ≤ n.toNat := by
      split
      · exact Nat.le_refl _
      · rw [BitVec.toNat_umod]; exact Nat.mod_le _ _
    by_cases h : y.low = 0
    · rw [if_pos h]; omega
    · rw [if_neg h]
      have h0 : y.low.toNat ≠ 0 := fun e => h (BitVec.eq_of_toNat_eq (by rw [e]; rfl))
      have hm0 : ¬ m = 0 := by intro e; subst e; simp at m1; omega
      rw [if_neg hm0] at hle ⊢
      rw [vb_lesser_nat]
      have h1 : (n % m).toNat < m.toNat := by rw [BitVec.toNat_umod]; exact Nat.mod_lt _ (by omega)
      have h2 : (y.high - 1).toNat = y.high.toNat - 1 := by
        rcases vb_subC y.high 1 with ⟨a, b⟩ | ⟨a, b⟩ <;> rw [show (1 : BitVec 64).toNat = 1 from rfl] at a b <;> omega
      omega
theorem vb_and_le (a b : BitVec 64) : (a &&& b).toNat ≤ a.toNat := by rw [BitVec.toNat_and]; exact Nat.and_le_left
theorem vb_and_le2 (a b : BitVec 64) : (a &&& b).toNat ≤ b.toNat := by rw [BitVec.toNat_and]; exact Nat.and_le_right
theorem vb_and_sound {x y : vb_S} {n m : BitVec 64} (hn : vb_mem x n) (hm : vb_mem y m) : vb_mem (vb_cAnd x y) (n &&& m) := by
  obtain ⟨n1, n2, n3, n4⟩ := vb_mem_int hn
  obtain ⟨m1, m2, m3, m4⟩ := vb_mem_int hm
  refine vb_mem_of (vb_pat_of (fun k hk => ?_)) (Nat.zero_le _) ?_ (vb_int_lo _) (vb_int_hi _)
  · show (x.ones &&& y.ones).getLsbD k = ((n &&& m).getLsbD k && ((x.ones &&& y.ones) ||| (x.mask &&& ~~~x.ones) ||| (y.mask &&& ~~~y.ones)).getLsbD k)
    have p1 := vb_pat_bit hn.1 k
    have p2 := vb_pat_bit hm.1 k
    simp only [BitVec.getLsbD_and, BitVec.getLsbD_or, BitVec.getLsbD_not, hk, decide_true, Bool.true_and]
    revert p1 p2
    generalize x.mask.getLsbD k = a
    generalize y.mask.getLsbD k = b
    generalize x.ones.getLsbD k = c
    generalize y.ones.getLsbD k = d
    generalize n.getLsbD k = e
    generalize m.getLsbD k = f
    revert a b c d e f
    decide
  · show (n &&& m).toNat ≤ (vb_lesser x.high y.high).toNat
    rw [vb_lesser_nat]
    have := vb_and_le n m; have := vb_and_le2 n m
    omega
theorem vb_or_le (a b : BitVec 64) : a.toNat ≤ (a ||| b).toNat := by rw [BitVec.toNat_or]; exact Nat.left_le_or
theorem vb_or_le2 (a b : BitVec 64) : b.toNat ≤ (a ||| b).toNat := by rw [BitVec.toNat_or]; exact Nat.right_le_or
theorem vb_or_sound {x y : vb_S} {n m : BitVec 64} (hn : vb_mem x n) (hm : vb_mem y m) : vb_mem (vb_cOr x y) (n ||| m) := by
  obtain ⟨n1, n2, n3, n4⟩ := vb_mem_int hn
  obtain ⟨m1, m2, m3, m4⟩ := vb_mem_int hm
  refine vb_mem_of (vb_pat_of (fun k hk => ?_)) ?_ (vb_nat_hi _) (vb_int_lo _) (vb_int_hi _)
  · show (x.ones ||| y.ones).getLsbD k = ((n ||| m).getLsbD k && ((x.ones ||| y.ones) ||| ((x.mask &&& ~~~x.ones) &&& (y.mask &&& ~~~y.ones))).getLsbD k)
    have p1 := vb_pat_bit hn.1 k
    have p2 := vb_pat_bit hm.1 k
    simp only [BitVec.getLsbD_and, BitVec.getLsbD_or, BitVec.getLsbD_not, hk, decide_true, Bool.true_and]
    revert p1 p2
    generalize x.mask.getLsbD k = a
    generalize y.mask.getLsbD k = b
    generalize x.ones.getLsbD k = c
    generalize y.ones.getLsbD k = d
    generalize n.getLsbD k = e
    generalize m.getLsbD k = f
    revert a b c d e f
    decide
  · show (vb_larger x.low y.low).toNat ≤ (n ||| m).toNat
    rw [vb_larger_nat]
    have := vb_or_le n m; have := vb_or_le2 n m
    omega
theorem vb_xor_sound {x y : vb_S} {n m : BitVec 64} (hn : vb_mem x n) (hm : vb_mem y m) : vb_mem (vb_cXor x y) (n ^^^ m) := by
  refine vb_mem_of (vb_pat_of (fun k hk => ?_)) (Nat.zero_le _) (vb_nat_hi _) (vb_int_lo _) (vb_int_hi _)
  show ((x.ones ^^^ y.ones) &&& (x.mask &&& y.mask)).getLsbD k = ((n ^^^ m).getLsbD k && (x.mask &&& y.mask).getLsbD k)
  have p1 := vb_pat_bit hn.1 k
  have p2 := vb_pat_bit hm.1 k
  simp only [BitVec.getLsbD_and, BitVec.getLsbD_xor]
  revert p1 p2
  generalize x.mask.getLsbD k = a
  generalize y.mask.getLsbD k = b
  generalize x.ones.getLsbD k = c
  generalize y.ones.getLsbD k = d
  generalize n.getLsbD k = e
  generalize m.getLsbD k = f
  revert a b c d e f
  decide
