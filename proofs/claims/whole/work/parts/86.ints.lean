/-! small ints, counts of bits, products that fit -/
def vl_I (k : Nat) : Int32 := Int32.ofBitVec (BitVec.ofNat 32 k)
theorem vl_I_of {s : Int32} {k : Nat} (h : s.toBitVec.toNat = k) : s = vl_I k := by
  refine Int32.toBitVec_inj.mp (BitVec.eq_of_toNat_eq ?_)
  show s.toBitVec.toNat = (BitVec.ofNat 32 k).toNat
  rw [BitVec.toNat_ofNat, h, Nat.mod_eq_of_lt]
  have := s.toBitVec.isLt; omega
theorem vl_tab : ∀ k : Fin 64, ((vl_I k.1).toInt64.toUInt64 &&& Int64.toUInt64 63).toBitVec.toNat % 64 = k.1 ∧ (((vl_I k.1).toInt64 &&& 63).toBitVec.smod 64).toNat = k.1 := by decide +kernel
theorem vl_tab_low : ∀ k : Fin 129, (jv_clowest (vl_I k.1)).toBitVec = vb_lowest k.1 := by decide +kernel
theorem vl_tab_bits : ∀ k : Fin 65, jv_bits (Int64.ofBitVec (vb_lowest k.1)) = vl_I k.1 := by decide +kernel
theorem vl_I_add (a b : Nat) : vl_I a + vl_I b = vl_I (a + b) := by
  refine Int32.toBitVec_inj.mp ?_
  rw [Int32.toBitVec_add]
  show BitVec.ofNat 32 a + BitVec.ofNat 32 b = BitVec.ofNat 32 (a + b)
  rw [BitVec.ofNat_add]
theorem vl_I_int {a : Nat} (h : a < 2147483648) : (vl_I a).toBitVec.toInt = (a : Int) := by
  show (BitVec.ofNat 32 a).toInt = a
  have e : (BitVec.ofNat 32 a).toNat = a := by rw [BitVec.toNat_ofNat]; exact Nat.mod_eq_of_lt (by omega)
  rw [BitVec.toInt_eq_toNat_of_lt (by rw [e]; omega), e]
theorem vl_I_lt {a b : Nat} (ha : a < 2147483648) (hb : b < 2147483648) : (vl_I a < vl_I b) ↔ a < b := by
  rw [Int32.lt_iff_toBitVec_slt, BitVec.slt_iff_toInt_lt, vl_I_int ha, vl_I_int hb]; omega
theorem vl_I_inj {a b : Nat} (ha : a < 4294967296) (hb : b < 4294967296) : (vl_I a = vl_I b) ↔ a = b := by
  constructor
  · intro h
    have := congrArg (fun x : Int32 => x.toBitVec.toNat) h
    change (BitVec.ofNat 32 a).toNat = (BitVec.ofNat 32 b).toNat at this
    rw [BitVec.toNat_ofNat, BitVec.toNat_ofNat, Nat.mod_eq_of_lt (by omega), Nat.mod_eq_of_lt (by omega)] at this
    exact this
  · intro h; rw [h]
theorem vl_tr_low (z : BitVec 64) : z &&& (~~~z - 1) = vb_lowest (vb_tr z) := by
  refine BitVec.eq_of_getLsbD_eq (fun k hk => ?_)
  rw [vb_lowest_bit _ hk, BitVec.getLsbD_and]
  have le := vb_tr_le z
  by_cases h : k < vb_tr z
  · rw [vb_tr_lt z h, Bool.true_and, vb_sub_bit _ _ hk, BitVec.getLsbD_not, vb_tr_lt z h]
    have bo : ∀ j, j ≤ vb_tr z → vb_bo (~~~z) 1 j = decide (0 < j) := by
      intro j
      induction j with
      | zero => intro _; rw [vb_bo0]; rfl
      | succ j ih =>
        intro hj
        rw [vb_bo_succ _ _ (by omega), ih (by omega), BitVec.getLsbD_not, vb_tr_lt z (by omega)]
        have o : (1 : BitVec 64).getLsbD j = decide (j = 0) := by
          rw [show (1 : BitVec 64) = BitVec.twoPow 64 0 from by decide, vb_tp_bit (by omega)]
        rw [o]
        by_cases e : j = 0
        · subst e; simp [vb_carries]
        · have : 0 < j := by omega
          have h64 : j < 64 := by omega
          simp [vb_carries, e, this, h64]
    have o : (1 : BitVec 64).getLsbD k = decide (k = 0) := by
      rw [show (1 : BitVec 64) = BitVec.twoPow 64 0 from by decide, vb_tp_bit hk]
    rw [bo k (by omega), o]
    by_cases e : k = 0
    · subst e; simp [vb_par, h]
    · have : 0 < k := by omega
      simp [vb_par, e, this, h]
  · -- from the lowest 0 on
    have h64 : vb_tr z < 64 := by omega
    have ht := vb_tr_at z h64
    have bo : ∀ j, j ≤ 64 → vb_tr z < j → vb_bo (~~~z) 1 j = false := by
      have bo0 : ∀ j, j ≤ vb_tr z → vb_bo (~~~z) 1 j = decide (0 < j) := by
        intro j
        induction j with
        | zero => intro _; rw [vb_bo0]; rfl
        | succ j ih =>
          intro hj
          rw [vb_bo_succ _ _ (by omega), ih (by omega), BitVec.getLsbD_not, vb_tr_lt z (by omega)]
          have o : (1 : BitVec 64).getLsbD j = decide (j = 0) := by
            rw [show (1 : BitVec 64) = BitVec.twoPow 64 0 from by decide, vb_tp_bit (by omega)]
          rw [o]
          by_cases e : j = 0
          · subst e; simp [vb_carries]
          · have : 0 < j := by omega
            have h64 : j < 64 := by omega
            simp [vb_carries, e, this, h64]
      intro j
      induction j with
      | zero => intro _ h; omega
      | succ j ih =>
        intro hj hlt
        rw [vb_bo_succ _ _ (by omega), BitVec.getLsbD_not]
        have o : (1 : BitVec 64).getLsbD j = decide (j = 0) := by
          rw [show (1 : BitVec 64) = BitVec.twoPow 64 0 from by decide, vb_tp_bit (by omega)]
        rw [o]
        have hj64 : j < 64 := by omega
        rcases Nat.lt_or_eq_of_le (Nat.le_of_lt_succ hlt) with h' | h'
        · rw [ih (by omega) h']
          have : ¬ j = 0 := by omega
          simp [vb_carries, this]
        · rw [← h', bo0 _ (Nat.le_refl _), ht]
          by_cases e : vb_tr z = 0
          · simp [vb_carries, e]
          · have : 0 < vb_tr z := by omega
            simp [vb_carries, e, this, h64]
    have : decide (k < vb_tr z) = false := by simp [h]
    rw [this]
    rcases Nat.lt_or_eq_of_le (Nat.le_of_not_lt h) with h' | h'
    · rw [vb_sub_bit _ _ hk, BitVec.getLsbD_not, bo k (by omega) h']
      have o : (1 : BitVec 64).getLsbD k = false := by
        rw [show (1 : BitVec 64) = BitVec.twoPow 64 0 from by decide, vb_tp_bit hk]
        have : ¬ k = 0 := by omega
        simp [this]
      rw [o]
      cases z.getLsbD k <;> simp [vb_par, hk]
    · rw [← h', ht]; rfl
theorem vl_bits_tr {a : Int64} {z : BitVec 64} (h : a.toBitVec = z &&& (~~~z - 1)) : jv_bits a = vl_I (vb_tr z) := by
  have e : a = Int64.ofBitVec (vb_lowest (vb_tr z)) := Int64.toBitVec_inj.mp (by rw [h, vl_tr_low]; rfl)
  rw [e]
  exact vl_tab_bits ⟨vb_tr z, by have := vb_tr_le z; omega⟩
theorem vl_lowk {n : Nat} (h : n < 129) : (jv_clowest (vl_I n)).toBitVec = vb_lowest n := vl_tab_low ⟨n, h⟩
theorem vl_minI {a b : Nat} (ha : a < 2147483648) (hb : b < 2147483648) : (if vl_I a < vl_I b then vl_I a else vl_I b) = vl_I (min b a) := by
  by_cases h : a < b
  · rw [if_pos ((vl_I_lt ha hb).mpr h), Nat.min_eq_right (by omega)]
  · rw [if_neg (fun h' => h ((vl_I_lt ha hb).mp h')), Nat.min_eq_left (by omega)]

/-- how far a shift goes -/
theorem vl_i32 (a : Int64) : a.toInt32.toBitVec = a.toBitVec.setWidth 32 := by
  rw [Int64.toBitVec_toInt32, BitVec.signExtend_eq_setWidth_of_le _ (by decide)]
theorem vl_amt (a : Int64) {t : Int32} {top : Nat} (ht : (t = 63 ∧ top = 63) ∨ (t = 31 ∧ top = 31)) : a.toInt32 &&& t = vl_I (a.toBitVec.toNat % (top + 1)) := by
  refine vl_I_of ?_
  have e : (a.toInt32 &&& t).toBitVec = a.toBitVec.setWidth 32 &&& t.toBitVec := by rw [Int32.toBitVec_and, vl_i32]
  rw [e, BitVec.toNat_and, BitVec.toNat_setWidth]
  rcases ht with ⟨rfl, rfl⟩ | ⟨rfl, rfl⟩
  · rw [show (63 : Int32).toBitVec.toNat = 2 ^ 6 - 1 from by decide, Nat.and_two_pow_sub_one_eq_mod]; omega
  · rw [show (31 : Int32).toBitVec.toNat = 2 ^ 5 - 1 from by decide, Nat.and_two_pow_sub_one_eq_mod]; omega
theorem vl_int_small {a : Int64} {k : Nat} (h : a.toBitVec.toNat = k) (hk : k < 4294967296) : a.toInt32 = vl_I k := by
  refine vl_I_of ?_
  rw [vl_i32, BitVec.toNat_setWidth, h, Nat.mod_eq_of_lt (by omega)]
theorem vl_ushrI (u : Int64) {k : Nat} (h : k < 64) : ((u.toUInt64 >>> ((vl_I k).toInt64.toUInt64 &&& Int64.toUInt64 63)).toInt64).toBitVec = u.toBitVec >>> k := vl_ushr u (vl_tab ⟨k, h⟩).1
theorem vl_shlI (u : Int64) {k : Nat} (h : k < 64) : (u <<< ((vl_I k).toInt64 &&& 63)).toBitVec = u.toBitVec <<< k := vl_shl u (vl_tab ⟨k, h⟩).2
theorem vl_sshrI (u : Int64) {k : Nat} (h : k < 64) : (u >>> ((vl_I k).toInt64 &&& 63)).toBitVec = u.toBitVec.sshiftRight k := vl_sshr u (vl_tab ⟨k, h⟩).2

/-- a product of two longs is a long, as it is looked at by dividing -/
theorem vl_fits (a b : Int64) : (jv_cfits a b = 0) ↔ ¬ vb_mulFits a.toBitVec b.toBitVec = true := by
  unfold jv_cfits vb_mulFits
  simp only [vl_eqb, vl_zero, vl_m1, vl_top, Int64.toBitVec_div, Int64.toBitVec_mul, decide_eq_true_eq]
  generalize a.toBitVec = x
  generalize b.toBitVec = y
  have hx1 := vb_int_lo x; have hx2 := vb_int_hi x
  have hy1 := vb_int_lo y; have hy2 := vb_int_hi y
  rw [show vb_top_.toInt = -9223372036854775808 from by decide] at hx1 hy1
  rw [show vb_most.toInt = 9223372036854775807 from by decide] at hx2 hy2
  have ti : ∀ z w : BitVec 64, z = w ↔ z.toInt = w.toInt := fun z w => ⟨fun h => by rw [h], BitVec.eq_of_toInt_eq⟩
  have i0 : (0 : BitVec 64).toInt = 0 := rfl
  have im : vb_m1.toInt = -1 := by decide
  have it : vb_top_.toInt = -9223372036854775808 := by decide
  by_cases c1 : x = 0
  · rw [if_pos c1, c1, i0]; simp
  rw [if_neg c1]
  by_cases c2 : y = 0
  · rw [if_neg (fun h => h c2), c2, i0]; simp
  rw [if_pos c2]
  have c2' : y.toInt ≠ 0 := fun h => c2 ((ti _ _).mpr (h.trans i0.symm))
  by_cases c3 : x = vb_m1
  · rw [if_neg (fun h => h c3), c3, im]
    by_cases c4 : y = vb_top_
    · rw [if_pos c4, c4, it]; simp
    · rw [if_neg c4]
      have : y.toInt ≠ -9223372036854775808 := fun h => c4 ((ti _ _).mpr (h.trans it.symm))
      simp; omega
  rw [if_pos c3]
  by_cases c5 : y = vb_m1
  · rw [if_neg (fun h => h c5), c5, im]
    by_cases c4 : x = vb_top_
    · rw [if_pos c4, c4, it]; simp
    · rw [if_neg c4]
      have : x.toInt ≠ -9223372036854775808 := fun h => c4 ((ti _ _).mpr (h.trans it.symm))
      simp; omega
  rw [if_pos c5]
  have c5' : y.toInt ≠ -1 := fun h => c5 ((ti _ _).mpr (h.trans im.symm))
  have key : ((x * y).sdiv y = x) ↔ (-9223372036854775808 ≤ x.toInt * y.toInt ∧ x.toInt * y.toInt < 9223372036854775808) := by
    have hs : ((x * y).sdiv y).toInt = (x * y).toInt.tdiv y.toInt := BitVec.toInt_sdiv_of_ne_or_ne _ _ (Or.inr (fun h => c5 (h.trans (by decide))))
    constructor
    · intro h
      rw [ti, hs] at h
      have h1 := Int.mul_tdiv_add_tmod (x * y).toInt y.toInt
      rw [h] at h1
      have h2 : ((x * y).toInt.tmod y.toInt).natAbs < y.toInt.natAbs := by
        rw [Int.natAbs_tmod]; exact Nat.mod_lt _ (by omega)
      have h3 := Int.bmod_add_bdiv (x.toInt * y.toInt) (2 ^ 64)
      rw [← BitVec.toInt_mul] at h3
      have h4 := vb_int_lo (x * y); have h5 := vb_int_hi (x * y)
      rw [it] at h4
      rw [show vb_most.toInt = 9223372036854775807 from by decide] at h5
      rw [Int.mul_comm y.toInt x.toInt] at h1
      rw [show ((2 ^ 64 : Nat) : Int) = 18446744073709551616 from by decide] at h3
      generalize (x.toInt * y.toInt).bdiv (2 ^ 64) = m at h3
      generalize (x * y).toInt.tmod y.toInt = r at h1 h2
      generalize x.toInt * y.toInt = p at *
      omega
    · rintro ⟨h1, h2⟩
      rw [ti, hs, vb_mul_int (by unfold vb_mulFits; rw [decide_eq_true_eq]; exact ⟨h1, h2⟩)]
      exact Int.mul_tdiv_cancel _ c2'
  by_cases c6 : (x * y).sdiv y = x
  · rw [if_neg (fun h => h c6)]
    simp only [key.mp c6, and_self, not_true]; decide
  · rw [if_pos c6]
    have : ¬ (-9223372036854775808 ≤ x.toInt * y.toInt ∧ x.toInt * y.toInt < 9223372036854775808) := fun h => c6 (key.mpr h)
    simp only [this, not_false_eq_true]
