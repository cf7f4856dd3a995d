/-! part a04: shifts, products, rests (gen/gla2.py) -/
theorem vr_fit64 (u : BitVec 64) {s : Nat} (h : s < 64) : (s = 0 ∨ u >>> (64 - s) = 0) ↔ (u <<< s) >>> s = u := by
  constructor
  · intro h1
    refine BitVec.eq_of_getLsbD_eq (fun k hk => ?_)
    rw [BitVec.getLsbD_ushiftRight, BitVec.getLsbD_shiftLeft]
    by_cases e : s + k < 64
    · simp [e]
    · have : u.getLsbD k = false := by
        rcases h1 with h1 | h1
        · omega
        · have := congrArg (fun z => BitVec.getLsbD z (k - (64 - s))) h1
          simp only [BitVec.getLsbD_ushiftRight, vb_bit0] at this
          rwa [show 64 - s + (k - (64 - s)) = k by omega] at this
      rw [this]; simp [e]
  · intro h1
    by_cases h0 : s = 0
    · exact Or.inl h0
    · right
      refine BitVec.eq_of_getLsbD_eq (fun k hk => ?_)
      rw [BitVec.getLsbD_ushiftRight, vb_bit0]
      by_cases e : 64 - s + k < 64
      · have := congrArg (fun z => BitVec.getLsbD z (64 - s + k)) h1
        simp only [BitVec.getLsbD_ushiftRight, BitVec.getLsbD_shiftLeft] at this
        rw [← this]
        have e2 : ¬ s + (64 - s + k) < 64 := by omega
        simp [e2]
      · exact BitVec.getLsbD_of_ge u _ (by omega)
theorem vr_sub64_tab : ∀ s : Fin 64, (64 : Int32) - vl_I s.1 = vl_I (64 - s.1) := by decide +kernel
theorem vr_sub64 {s : Nat} (h : s < 64) : (64 : Int32) - vl_I s = vl_I (64 - s) := vr_sub64_tab ⟨s, h⟩
theorem vr_notshl (c : BitVec 64) {s : Nat} (h : s < 64) : ~~~(c <<< s ||| vb_lowest s) = (~~~c) <<< s := BitVec.eq_of_getLsbD_eq (fun k hk => by
  rw [BitVec.getLsbD_not, BitVec.getLsbD_or, BitVec.getLsbD_shiftLeft, BitVec.getLsbD_shiftLeft, BitVec.getLsbD_not, vb_lowest_bit s hk]
  by_cases e : k < s
  · simp [e]
  · have e2 : k - s < 64 := by omega
    simp [e, hk, e2])
theorem vr_know_tab : ∀ k : Fin 129, (if vl_I k.1 < (64 : Int32) then ((1 : Int64) <<< ((vl_I k.1).toInt64 &&& 63)) - (1 : Int64) else (-1 : Int64)).toBitVec = vb_lowest (min 64 k.1) := by decide +kernel
theorem vr_know64 {k : Nat} (h : k < 129) : (if vl_I k < (64 : Int32) then ((1 : Int64) <<< ((vl_I k).toInt64 &&& 63)) - (1 : Int64) else (-1 : Int64)).toBitVec = vb_lowest (min 64 k) := vr_know_tab ⟨k, h⟩
theorem vr_low_zero (r : vb_R) : vr_lowz r true = (vb_toS r).mask &&& ~~~(vb_toS r).ones := rfl
theorem vr_low_known (r : vb_R) : vr_lowz r false = (vb_toS r).mask := rfl
theorem vr_z0 (a : BitVec 64) : 0 &&& a = 0 := BitVec.zero_and
theorem vr_notnot (a : BitVec 64) : ~~~(~~~a) = a := BitVec.not_not
theorem vr_shl0 (a : BitVec 64) : a <<< 0 = a := BitVec.shiftLeft_zero a
theorem vr_shr0 (a : BitVec 64) : a >>> 0 = a := BitVec.ushiftRight_zero a
theorem vr_sshr_not (c : BitVec 64) (s : Nat) : ~~~((~~~c).sshiftRight s) = c.sshiftRight s := by
  refine BitVec.eq_of_getLsbD_eq (fun k hk => ?_)
  rw [BitVec.getLsbD_not, BitVec.getLsbD_sshiftRight, BitVec.getLsbD_sshiftRight]
  have h64 : ¬ 64 ≤ k := by omega
  by_cases e : s + k < 64
  · simp [hk, e, h64]
  · simp [hk, e, h64]

theorem vr_left {K : Nat → Option (Nat × Nat)} {I : Nat → Nat → Int32} {L : Nat → Nat → Int64} {R : Nat → Nat → Value} {t : Int32} {top : Nat} (ht : (t = 63 ∧ top = 63) ∨ (t = 31 ∧ top = 31)) (hle : (vb_toS (vr_S L 1)).low.toNat ≤ (vb_toS (vr_S L 1)).high.toNat) (hW : jv_rW K R) (ha : vr_S L 2 = vb_rany) {n sl : Nat} :
    jv_Ms 235 [.ref 208, .int t] (jv_H K I L R) n sl (none, jv_H K I (vr_set L 2 (vb_toR (vb_cLeft (vb_toS (vr_S L 0)) (vb_toS (vr_S L 1)) top))) R, n, sl) := by
  have H := jv_s235 (L := L) (I := I) (R := R) (n := n) (sl := sl) t hW _ rfl _ rfl
  refine (congrArg (fun Z => jv_Ms 235 [.ref 208, .int t] (jv_H K I L R) n sl (none, jv_H K I Z R, n, sl)) ?_).mp H
  clear H
  have a209 : (L 209 2).toBitVec = 0 := congrArg vb_R.bits ha
  have a210 : (L 210 2).toBitVec = vb_m1 := congrArg vb_R.opn ha
  have a211 : (L 211 2).toBitVec = 0 := congrArg vb_R.low ha
  have a212 : (L 212 2).toBitVec = vb_m1 := congrArg vb_R.high ha
  have a213 : (L 213 2).toBitVec = vb_top_ := congrArg vb_R.least ha
  have a214 : (L 214 2).toBitVec = vb_most := congrArg vb_R.greatest ha
  have hb : (jv_rbelow t.toInt64 (L 212 1) = 0) ↔ ¬ top < (L 212 1).toBitVec.toNat := by
    have e : t.toInt64.toBitVec.toNat = top := by rcases ht with ⟨rfl, rfl⟩ | ⟨rfl, rfl⟩ <;> decide
    have d : (t.toInt64.toBitVec < (L 212 1).toBitVec) ↔ top < (L 212 1).toBitVec.toNat := by rw [BitVec.lt_def, e]
    rw [vr_below, d]
  change (L 211 1).toBitVec.toNat ≤ (L 212 1).toBitVec.toNat at hle
  have h10 : ¬ ((1 : Int32) = 0) := by decide
  by_cases hs : (L 211 1) = (L 212 1)
  · have hs' : (vb_toS (vr_S L 1)).low = (vb_toS (vr_S L 1)).high := congrArg Int64.toBitVec hs
    unfold vb_cLeft
    rw [if_pos hs', vl_amt _ ht, show (vb_toS (vr_S L 1)).low = (L 211 1).toBitVec from rfl]
    have h64 : (L 211 1).toBitVec.toNat % (top + 1) < 64 := by rcases ht with ⟨_, rfl⟩ | ⟨_, rfl⟩ <;> omega
    generalize (L 211 1).toBitVec.toNat % (top + 1) = s at h64 ⊢
    have s1 : ∀ u : Int64, (u <<< ((vl_I s).toInt64 &&& 63)).toBitVec = u.toBitVec <<< s := fun u => vl_shlI u h64
    have s2 : ∀ u : Int64, (u >>> ((vl_I s).toInt64 &&& 63)).toBitVec = u.toBitVec.sshiftRight s := fun u => vl_sshrI u h64
    have s3 : ∀ u : Int64, ((u.toUInt64 >>> ((vl_I s).toInt64.toUInt64 &&& Int64.toUInt64 63)).toInt64).toBitVec = u.toBitVec >>> s := fun u => vl_ushrI u h64
    have s5 : ∀ u : BitVec 64, (s = 0 ∨ u >>> (64 - s) = 0) ↔ (u <<< s) >>> s = u := fun u => vr_fit64 u h64
    have s6 : s ≠ 0 → ∀ u : Int64, ((u.toUInt64 >>> (((64 : Int32) - vl_I s).toInt64.toUInt64 &&& Int64.toUInt64 63)).toInt64).toBitVec = u.toBitVec >>> (64 - s) := fun h0 u => by
      rw [show (64 : Int32) - vl_I s = vl_I (64 - s) from vr_sub64 h64]
      exact vl_ushrI u (by omega)
    have s7 : (vl_I s = 0) ↔ s = 0 := by
      have := vl_I_inj (a := s) (b := 0) (by omega) (by omega)
      exact this
    have s8 : ∀ c : BitVec 64, ~~~(c <<< s ||| vb_lowest s) = (~~~c) <<< s := fun c => vr_notshl c h64
    have c1 := vr_fit64 (L 212 0).toBitVec h64
    simp only [hs, not_true, if_false, if_true, h10, not_false_eq_true]
    clear hs hs' hb
    by_cases h0 : s = 0
    · have c : ((L 212 0).toBitVec <<< s) >>> s = (L 212 0).toBitVec := c1.mp (Or.inl h0)
      have s9 : vl_I s = 0 := s7.mpr h0
      simp only [s9, if_true] at *
      clear c1 s6 s7
      refine vr_eq (vb_R_ext ?_ ?_ ?_ ?_ ?_ ?_) (fun q i hq => ?_)
      case refine_7 =>
        have o209 : ∀ (F : Nat → Nat → Int64) x, jv_u F 209 2 x q i = F q i := fun F x => vr_out hq rfl
        have o210 : ∀ (F : Nat → Nat → Int64) x, jv_u F 210 2 x q i = F q i := fun F x => vr_out hq rfl
        have o211 : ∀ (F : Nat → Nat → Int64) x, jv_u F 211 2 x q i = F q i := fun F x => vr_out hq rfl
        have o212 : ∀ (F : Nat → Nat → Int64) x, jv_u F 212 2 x q i = F q i := fun F x => vr_out hq rfl
        have o213 : ∀ (F : Nat → Nat → Int64) x, jv_u F 213 2 x q i = F q i := fun F x => vr_out hq rfl
        have o214 : ∀ (F : Nat → Nat → Int64) x, jv_u F 214 2 x q i = F q i := fun F x => vr_out hq rfl
        repeat' split
        all_goals simp only [o209, o210, o211, o212, o213, o214, vr_set_out hq]
      all_goals simp only [vr_S, vb_toR, vb_toS, vb_S.mask, vb_S.ones, vb_S.low, vb_S.high, vb_S.least, vb_S.greatest, vb_R.bits, vb_R.opn, vb_R.low, vb_R.high, vb_R.least, vb_R.greatest]
      all_goals try simp only [vl_at, vr_n209_210, vr_n209_211, vr_n209_212, vr_n209_213, vr_n209_214, vr_n210_209, vr_n210_211, vr_n210_212, vr_n210_213, vr_n210_214, vr_n211_209, vr_n211_210, vr_n211_212, vr_n211_213, vr_n211_214, vr_n212_209, vr_n212_210, vr_n212_211, vr_n212_213, vr_n212_214, vr_n213_209, vr_n213_210, vr_n213_211, vr_n213_212, vr_n213_214, vr_n214_209, vr_n214_210, vr_n214_211, vr_n214_212, vr_n214_213, vr_bel, vr_lesser, vr_larger, vr_quot, vr_fits, vr_isLong, vr_sumL, vr_difL, vl_max, vl_min, vl_ite, vr_to, Int64.toBitVec_add, Int64.toBitVec_sub, Int64.toBitVec_mul, Int64.toBitVec_and, Int64.toBitVec_xor, Int64.toBitVec_or, vl_x1, vl_x3, vl_zero, vl_one, vl_m1, vl_top, vl_most, vl_eqb, s1, s2, s3, s8, vl_eqb, vr_notnot, c]
      all_goals repeat' split
      all_goals try simp_all only [vl_at, vr_n209_210, vr_n209_211, vr_n209_212, vr_n209_213, vr_n209_214, vr_n210_209, vr_n210_211, vr_n210_212, vr_n210_213, vr_n210_214, vr_n211_209, vr_n211_210, vr_n211_212, vr_n211_213, vr_n211_214, vr_n212_209, vr_n212_210, vr_n212_211, vr_n212_213, vr_n212_214, vr_n213_209, vr_n213_210, vr_n213_211, vr_n213_212, vr_n213_214, vr_n214_209, vr_n214_210, vr_n214_211, vr_n214_212, vr_n214_213, vr_rd209, vr_rd210, vr_rd211, vr_rd212, vr_rd213, vr_rd214, vr_bel, vr_lesser, vr_larger, vr_quot, vr_fits, vr_isLong, vr_sumL, vr_difL, vl_max, vl_min, vl_ite, vr_to, Int64.toBitVec_add, Int64.toBitVec_sub, Int64.toBitVec_mul, Int64.toBitVec_and, Int64.toBitVec_xor, Int64.toBitVec_or, vl_x1, vl_x3, vl_zero, vl_one, vl_m1, vl_top, vl_most, vl_eqb, and_self, and_true, true_and, and_false, false_and, or_true, true_or, or_false, false_or, Bool.not_eq_false, if_true, if_false, Bool.false_and, Bool.and_false, Bool.true_and, Bool.and_true, Bool.not_eq_true, Bool.false_eq_true, Bool.true_eq_false, not_false_eq_true, not_true, ne_eq, decide_true, decide_false, Bool.true_or, Bool.or_true, Bool.false_or, Bool.or_false, Bool.not_true, Bool.not_false, Classical.not_not, vr_not0, s1, s2, s3, s8, vl_eqb, vr_notnot, c]
    · have c : ((L 212 0).toBitVec >>> (64 - s) = 0) ↔ ((L 212 0).toBitVec <<< s) >>> s = (L 212 0).toBitVec := ⟨fun z => c1.mp (Or.inr z), fun z => (c1.mpr z).resolve_left h0⟩
      have s9 : ¬ vl_I s = 0 := fun z => h0 (s7.mp z)
      have s6 := s6 h0
      simp only [s9, if_false]
      clear c1 s7
      refine vr_eq (vb_R_ext ?_ ?_ ?_ ?_ ?_ ?_) (fun q i hq => ?_)
      case refine_7 =>
        have o209 : ∀ (F : Nat → Nat → Int64) x, jv_u F 209 2 x q i = F q i := fun F x => vr_out hq rfl
        have o210 : ∀ (F : Nat → Nat → Int64) x, jv_u F 210 2 x q i = F q i := fun F x => vr_out hq rfl
        have o211 : ∀ (F : Nat → Nat → Int64) x, jv_u F 211 2 x q i = F q i := fun F x => vr_out hq rfl
        have o212 : ∀ (F : Nat → Nat → Int64) x, jv_u F 212 2 x q i = F q i := fun F x => vr_out hq rfl
        have o213 : ∀ (F : Nat → Nat → Int64) x, jv_u F 213 2 x q i = F q i := fun F x => vr_out hq rfl
        have o214 : ∀ (F : Nat → Nat → Int64) x, jv_u F 214 2 x q i = F q i := fun F x => vr_out hq rfl
        repeat' split
        all_goals simp only [o209, o210, o211, o212, o213, o214, vr_set_out hq]
      all_goals simp only [vr_S, vb_toR, vb_toS, vb_S.mask, vb_S.ones, vb_S.low, vb_S.high, vb_S.least, vb_S.greatest, vb_R.bits, vb_R.opn, vb_R.low, vb_R.high, vb_R.least, vb_R.greatest]
      all_goals try simp only [vl_at, vr_n209_210, vr_n209_211, vr_n209_212, vr_n209_213, vr_n209_214, vr_n210_209, vr_n210_211, vr_n210_212, vr_n210_213, vr_n210_214, vr_n211_209, vr_n211_210, vr_n211_212, vr_n211_213, vr_n211_214, vr_n212_209, vr_n212_210, vr_n212_211, vr_n212_213, vr_n212_214, vr_n213_209, vr_n213_210, vr_n213_211, vr_n213_212, vr_n213_214, vr_n214_209, vr_n214_210, vr_n214_211, vr_n214_212, vr_n214_213, vr_bel, vr_lesser, vr_larger, vr_quot, vr_fits, vr_isLong, vr_sumL, vr_difL, vl_max, vl_min, vl_ite, vr_to, Int64.toBitVec_add, Int64.toBitVec_sub, Int64.toBitVec_mul, Int64.toBitVec_and, Int64.toBitVec_xor, Int64.toBitVec_or, vl_x1, vl_x3, vl_zero, vl_one, vl_m1, vl_top, vl_most, vl_eqb, s1, s2, s3, s8, vl_eqb, vr_notnot, s6, c]
      all_goals repeat' split
      all_goals try simp_all only [vl_at, vr_n209_210, vr_n209_211, vr_n209_212, vr_n209_213, vr_n209_214, vr_n210_209, vr_n210_211, vr_n210_212, vr_n210_213, vr_n210_214, vr_n211_209, vr_n211_210, vr_n211_212, vr_n211_213, vr_n211_214, vr_n212_209, vr_n212_210, vr_n212_211, vr_n212_213, vr_n212_214, vr_n213_209, vr_n213_210, vr_n213_211, vr_n213_212, vr_n213_214, vr_n214_209, vr_n214_210, vr_n214_211, vr_n214_212, vr_n214_213, vr_rd209, vr_rd210, vr_rd211, vr_rd212, vr_rd213, vr_rd214, vr_bel, vr_lesser, vr_larger, vr_quot, vr_fits, vr_isLong, vr_sumL, vr_difL, vl_max, vl_min, vl_ite, vr_to, Int64.toBitVec_add, Int64.toBitVec_sub, Int64.toBitVec_mul, Int64.toBitVec_and, Int64.toBitVec_xor, Int64.toBitVec_or, vl_x1, vl_x3, vl_zero, vl_one, vl_m1, vl_top, vl_most, vl_eqb, and_self, and_true, true_and, and_false, false_and, or_true, true_or, or_false, false_or, Bool.not_eq_false, if_true, if_false, Bool.false_and, Bool.and_false, Bool.true_and, Bool.and_true, Bool.not_eq_true, Bool.false_eq_true, Bool.true_eq_false, not_false_eq_true, not_true, ne_eq, decide_true, decide_false, Bool.true_or, Bool.or_true, Bool.false_or, Bool.or_false, Bool.not_true, Bool.not_false, Classical.not_not, vr_not0, s1, s2, s3, s8, vl_eqb, vr_notnot, s6, c]
  · have hs' : ¬ (vb_toS (vr_S L 1)).low = (vb_toS (vr_S L 1)).high := fun h => hs (Int64.toBitVec_inj.mp h)
    unfold vb_cLeft
    rw [if_neg hs']
    simp only [hs, not_false_eq_true, if_true, not_true, if_false, hb, h10]
    have htop : top < 64 := by rcases ht with ⟨_, rfl⟩ | ⟨_, rfl⟩ <;> omega
    have e5 : (if ¬ top < (L 212 1).toBitVec.toNat then (L 211 1).toInt32 else (0 : Int32)) = vl_I (if top < (L 212 1).toBitVec.toNat then 0 else (L 211 1).toBitVec.toNat) := by
      by_cases h : top < (L 212 1).toBitVec.toNat
      · rw [if_neg (fun h' => h' h), if_pos h]; rfl
      · rw [if_pos h, if_neg h]; exact vl_int_small rfl (by omega)
    have l4 := vb_tr_le (vr_lowz (vr_S L 0) true)
    have hk : (if top < (L 212 1).toBitVec.toNat then 0 else (L 211 1).toBitVec.toNat) < 64 := by split <;> omega
    rw [e5, vr_low_zero]
    rw [vr_low_zero] at l4
    change _ = vr_set L 2 (vb_toR ⟨vb_lowest (min 64 (vb_tr ((vb_toS (vr_S L 0)).mask &&& ~~~(vb_toS (vr_S L 0)).ones) + if top < (L 212 1).toBitVec.toNat then 0 else (L 211 1).toBitVec.toNat)), 0, 0, vb_m1, vb_top_, vb_most⟩)
    generalize (if top < (L 212 1).toBitVec.toNat then 0 else (L 211 1).toBitVec.toNat) = k at hk ⊢
    generalize vb_tr ((vb_toS (vr_S L 0)).mask &&& ~~~(vb_toS (vr_S L 0)).ones) = p at l4 ⊢
    rw [vl_I_add]
    have s4 := vr_know64 (k := p + k) (by omega)
    generalize (if vl_I (p + k) < (64 : Int32) then ((1 : Int64) <<< ((vl_I (p + k)).toInt64 &&& 63)) - (1 : Int64) else (-1 : Int64)) = kn at s4 ⊢
    clear e5 hb
    refine vr_eq (vb_R_ext ?_ ?_ ?_ ?_ ?_ ?_) (fun q i hq => ?_)
    case refine_7 =>
      have o209 : ∀ (F : Nat → Nat → Int64) x, jv_u F 209 2 x q i = F q i := fun F x => vr_out hq rfl
      have o210 : ∀ (F : Nat → Nat → Int64) x, jv_u F 210 2 x q i = F q i := fun F x => vr_out hq rfl
      have o211 : ∀ (F : Nat → Nat → Int64) x, jv_u F 211 2 x q i = F q i := fun F x => vr_out hq rfl
      have o212 : ∀ (F : Nat → Nat → Int64) x, jv_u F 212 2 x q i = F q i := fun F x => vr_out hq rfl
      have o213 : ∀ (F : Nat → Nat → Int64) x, jv_u F 213 2 x q i = F q i := fun F x => vr_out hq rfl
      have o214 : ∀ (F : Nat → Nat → Int64) x, jv_u F 214 2 x q i = F q i := fun F x => vr_out hq rfl
      repeat' split
      all_goals simp only [o209, o210, o211, o212, o213, o214, vr_set_out hq]
    all_goals simp only [vr_S, vb_toR, vb_toS, vb_S.mask, vb_S.ones, vb_S.low, vb_S.high, vb_S.least, vb_S.greatest, vb_R.bits, vb_R.opn, vb_R.low, vb_R.high, vb_R.least, vb_R.greatest]
    all_goals try simp only [vl_at, vr_n209_210, vr_n209_211, vr_n209_212, vr_n209_213, vr_n209_214, vr_n210_209, vr_n210_211, vr_n210_212, vr_n210_213, vr_n210_214, vr_n211_209, vr_n211_210, vr_n211_212, vr_n211_213, vr_n211_214, vr_n212_209, vr_n212_210, vr_n212_211, vr_n212_213, vr_n212_214, vr_n213_209, vr_n213_210, vr_n213_211, vr_n213_212, vr_n213_214, vr_n214_209, vr_n214_210, vr_n214_211, vr_n214_212, vr_n214_213, vr_bel, vr_lesser, vr_larger, vr_quot, vr_fits, vr_isLong, vr_sumL, vr_difL, vl_max, vl_min, vl_ite, vr_to, Int64.toBitVec_add, Int64.toBitVec_sub, Int64.toBitVec_mul, Int64.toBitVec_and, Int64.toBitVec_xor, Int64.toBitVec_or, vl_x1, vl_x3, vl_zero, vl_one, vl_m1, vl_top, vl_most, vl_eqb, s4, vr_z0, vr_notnot]
    all_goals repeat' split
    all_goals try simp_all only [vl_at, vr_n209_210, vr_n209_211, vr_n209_212, vr_n209_213, vr_n209_214, vr_n210_209, vr_n210_211, vr_n210_212, vr_n210_213, vr_n210_214, vr_n211_209, vr_n211_210, vr_n211_212, vr_n211_213, vr_n211_214, vr_n212_209, vr_n212_210, vr_n212_211, vr_n212_213, vr_n212_214, vr_n213_209, vr_n213_210, vr_n213_211, vr_n213_212, vr_n213_214, vr_n214_209, vr_n214_210, vr_n214_211, vr_n214_212, vr_n214_213, vr_rd209, vr_rd210, vr_rd211, vr_rd212, vr_rd213, vr_rd214, vr_bel, vr_lesser, vr_larger, vr_quot, vr_fits, vr_isLong, vr_sumL, vr_difL, vl_max, vl_min, vl_ite, vr_to, Int64.toBitVec_add, Int64.toBitVec_sub, Int64.toBitVec_mul, Int64.toBitVec_and, Int64.toBitVec_xor, Int64.toBitVec_or, vl_x1, vl_x3, vl_zero, vl_one, vl_m1, vl_top, vl_most, vl_eqb, and_self, and_true, true_and, and_false, false_and, or_true, true_or, or_false, false_or, Bool.not_eq_false, if_true, if_false, Bool.false_and, Bool.and_false, Bool.true_and, Bool.and_true, Bool.not_eq_true, Bool.false_eq_true, Bool.true_eq_false, not_false_eq_true, not_true, ne_eq, decide_true, decide_false, Bool.true_or, Bool.or_true, Bool.false_or, Bool.or_false, Bool.not_true, Bool.not_false, Classical.not_not, vr_not0, s4, vr_z0, vr_notnot]

theorem vr_smin2 (a b : Int64) : (if a ≤ b then a else b).toBitVec = vb_smin b.toBitVec a.toBitVec := by
  unfold vb_smin
  have h := vl_sle a b
  have h2 := @vl_nlt a.toBitVec b.toBitVec
  have h3 := @vl_nlt b.toBitVec a.toBitVec
  by_cases c : a ≤ b
  · rw [if_pos c]
    by_cases d : a.toBitVec.slt b.toBitVec = true
    · rw [if_pos d]
    · rw [if_neg d]
      have e : b.toBitVec.sle a.toBitVec = true := by rw [h2] at d; simpa using d
      have := vb_sle.mp e
      have := vb_sle.mp (h.mp c)
      exact BitVec.eq_of_toInt_eq (by omega)
  · rw [if_neg c, if_neg]
    intro d
    have e := vb_slt.mp d
    exact c (h.mpr (vb_sle.mpr (by omega)))
theorem vr_smax2 (a b : Int64) : (if a ≤ b then b else a).toBitVec = vb_smax b.toBitVec a.toBitVec := by
  unfold vb_smax
  have h := vl_sle a b
  by_cases c : a ≤ b
  · rw [if_pos c, if_neg]
    intro d
    have e := vb_slt.mp d
    have := vb_sle.mp (h.mp c)
    omega
  · rw [if_neg c, if_pos]
    refine vb_slt.mpr ?_
    have e : ¬ a.toBitVec.toInt ≤ b.toBitVec.toInt := fun z => c (h.mpr (vb_sle.mpr z))
    omega

theorem vr_right {K : Nat → Option (Nat × Nat)} {I : Nat → Nat → Int32} {L : Nat → Nat → Int64} {R : Nat → Nat → Value} {t : Int32} {top : Nat} (ht : (t = 63 ∧ top = 63) ∨ (t = 31 ∧ top = 31)) (hle : (vb_toS (vr_S L 1)).low.toNat ≤ (vb_toS (vr_S L 1)).high.toNat) (hW : jv_rW K R) (ha : vr_S L 2 = vb_rany) {n sl : Nat} :
    jv_Ms 236 [.ref 208, .int t] (jv_H K I L R) n sl (none, jv_H K I (vr_set L 2 (vb_toR (vb_cRight (vb_toS (vr_S L 0)) (vb_toS (vr_S L 1)) top))) R, n, sl) := by
  have H := jv_s236 (L := L) (I := I) (R := R) (n := n) (sl := sl) t hW _ rfl
  refine (congrArg (fun Z => jv_Ms 236 [.ref 208, .int t] (jv_H K I L R) n sl (none, jv_H K I Z R, n, sl)) ?_).mp H
  clear H
  have a209 : (L 209 2).toBitVec = 0 := congrArg vb_R.bits ha
  have a210 : (L 210 2).toBitVec = vb_m1 := congrArg vb_R.opn ha
  have a211 : (L 211 2).toBitVec = 0 := congrArg vb_R.low ha
  have a212 : (L 212 2).toBitVec = vb_m1 := congrArg vb_R.high ha
  have a213 : (L 213 2).toBitVec = vb_top_ := congrArg vb_R.least ha
  have a214 : (L 214 2).toBitVec = vb_most := congrArg vb_R.greatest ha
  have hb : (jv_rbelow t.toInt64 (L 212 1) = 0) ↔ ¬ top < (L 212 1).toBitVec.toNat := by
    have e : t.toInt64.toBitVec.toNat = top := by rcases ht with ⟨rfl, rfl⟩ | ⟨rfl, rfl⟩ <;> decide
    have d : (t.toInt64.toBitVec < (L 212 1).toBitVec) ↔ top < (L 212 1).toBitVec.toNat := by rw [BitVec.lt_def, e]
    rw [vr_below, d]
  change (L 211 1).toBitVec.toNat ≤ (L 212 1).toBitVec.toNat at hle
  have h10 : ¬ ((1 : Int32) = 0) := by decide
  by_cases hs : (L 211 1) = (L 212 1)
  · have hs' : (vb_toS (vr_S L 1)).low = (vb_toS (vr_S L 1)).high := congrArg Int64.toBitVec hs
    unfold vb_cRight
    rw [if_pos hs', vl_amt _ ht, show (vb_toS (vr_S L 1)).low = (L 211 1).toBitVec from rfl]
    have h64 : (L 211 1).toBitVec.toNat % (top + 1) < 64 := by rcases ht with ⟨_, rfl⟩ | ⟨_, rfl⟩ <;> omega
    generalize (L 211 1).toBitVec.toNat % (top + 1) = s at h64 ⊢
    have s1 : ∀ u : Int64, (u <<< ((vl_I s).toInt64 &&& 63)).toBitVec = u.toBitVec <<< s := fun u => vl_shlI u h64
    have s2 : ∀ u : Int64, (u >>> ((vl_I s).toInt64 &&& 63)).toBitVec = u.toBitVec.sshiftRight s := fun u => vl_sshrI u h64
    have s3 : ∀ u : Int64, ((u.toUInt64 >>> ((vl_I s).toInt64.toUInt64 &&& Int64.toUInt64 63)).toInt64).toBitVec = u.toBitVec >>> s := fun u => vl_ushrI u h64
    simp only [hs, not_true, if_false, if_true, h10, not_false_eq_true]
    clear hs hs' hb
    refine vr_eq (vb_R_ext ?_ ?_ ?_ ?_ ?_ ?_) (fun q i hq => ?_)
    case refine_7 =>
      have o209 : ∀ (F : Nat → Nat → Int64) x, jv_u F 209 2 x q i = F q i := fun F x => vr_out hq rfl
      have o210 : ∀ (F : Nat → Nat → Int64) x, jv_u F 210 2 x q i = F q i := fun F x => vr_out hq rfl
      have o211 : ∀ (F : Nat → Nat → Int64) x, jv_u F 211 2 x q i = F q i := fun F x => vr_out hq rfl
      have o212 : ∀ (F : Nat → Nat → Int64) x, jv_u F 212 2 x q i = F q i := fun F x => vr_out hq rfl
      have o213 : ∀ (F : Nat → Nat → Int64) x, jv_u F 213 2 x q i = F q i := fun F x => vr_out hq rfl
      have o214 : ∀ (F : Nat → Nat → Int64) x, jv_u F 214 2 x q i = F q i := fun F x => vr_out hq rfl
      repeat' split
      all_goals simp only [o209, o210, o211, o212, o213, o214, vr_set_out hq]
    all_goals simp only [vr_S, vb_toR, vb_toS, vb_S.mask, vb_S.ones, vb_S.low, vb_S.high, vb_S.least, vb_S.greatest, vb_R.bits, vb_R.opn, vb_R.low, vb_R.high, vb_R.least, vb_R.greatest]
    all_goals try simp only [vl_at, vr_n209_210, vr_n209_211, vr_n209_212, vr_n209_213, vr_n209_214, vr_n210_209, vr_n210_211, vr_n210_212, vr_n210_213, vr_n210_214, vr_n211_209, vr_n211_210, vr_n211_212, vr_n211_213, vr_n211_214, vr_n212_209, vr_n212_210, vr_n212_211, vr_n212_213, vr_n212_214, vr_n213_209, vr_n213_210, vr_n213_211, vr_n213_212, vr_n213_214, vr_n214_209, vr_n214_210, vr_n214_211, vr_n214_212, vr_n214_213, vr_bel, vr_lesser, vr_larger, vr_quot, vr_fits, vr_isLong, vr_sumL, vr_difL, vl_max, vl_min, vr_to, Int64.toBitVec_add, Int64.toBitVec_sub, Int64.toBitVec_mul, Int64.toBitVec_and, Int64.toBitVec_xor, Int64.toBitVec_or, vl_x1, vl_x3, vl_zero, vl_one, vl_m1, vl_top, vl_most, vl_eqb, s1, s2, s3, vr_notnot, vr_sshr_not]
    all_goals repeat' split
    all_goals try simp_all only [vl_at, vr_n209_210, vr_n209_211, vr_n209_212, vr_n209_213, vr_n209_214, vr_n210_209, vr_n210_211, vr_n210_212, vr_n210_213, vr_n210_214, vr_n211_209, vr_n211_210, vr_n211_212, vr_n211_213, vr_n211_214, vr_n212_209, vr_n212_210, vr_n212_211, vr_n212_213, vr_n212_214, vr_n213_209, vr_n213_210, vr_n213_211, vr_n213_212, vr_n213_214, vr_n214_209, vr_n214_210, vr_n214_211, vr_n214_212, vr_n214_213, vr_rd209, vr_rd210, vr_rd211, vr_rd212, vr_rd213, vr_rd214, vr_bel, vr_lesser, vr_larger, vr_quot, vr_fits, vr_isLong, vr_sumL, vr_difL, vl_max, vl_min, vr_to, Int64.toBitVec_add, Int64.toBitVec_sub, Int64.toBitVec_mul, Int64.toBitVec_and, Int64.toBitVec_xor, Int64.toBitVec_or, vl_x1, vl_x3, vl_zero, vl_one, vl_m1, vl_top, vl_most, vl_eqb, and_self, and_true, true_and, and_false, false_and, or_true, true_or, or_false, false_or, Bool.not_eq_false, if_true, if_false, Bool.false_and, Bool.and_false, Bool.true_and, Bool.and_true, Bool.not_eq_true, Bool.false_eq_true, Bool.true_eq_false, not_false_eq_true, not_true, ne_eq, decide_true, decide_false, Bool.true_or, Bool.or_true, Bool.false_or, Bool.or_false, Bool.not_true, Bool.not_false, Classical.not_not, vr_not0, s1, s2, s3, vr_notnot, vr_sshr_not]
  · have hs' : ¬ (vb_toS (vr_S L 1)).low = (vb_toS (vr_S L 1)).high := fun h => hs (Int64.toBitVec_inj.mp h)
    unfold vb_cRight
    rw [if_neg hs']
    simp only [hs, not_false_eq_true, if_true, not_true, if_false, hb, h10]
    have htop : top < 64 := by rcases ht with ⟨_, rfl⟩ | ⟨_, rfl⟩ <;> omega
    by_cases hq : top < (L 212 1).toBitVec.toNat
    · have e1 : t = vl_I top := by rcases ht with ⟨rfl, rfl⟩ | ⟨rfl, rfl⟩ <;> decide
      have e0 : (0 : Int32) = vl_I 0 := by decide
      have z0 : (0 : Nat) < 64 := by decide
      have s1 : ∀ u : Int64, ((u.toUInt64 >>> (t.toInt64.toUInt64 &&& Int64.toUInt64 63)).toInt64).toBitVec = u.toBitVec >>> top := fun u => by rw [e1]; exact vl_ushrI u htop
      have s2 : ∀ u : Int64, (u >>> (t.toInt64 &&& 63)).toBitVec = u.toBitVec.sshiftRight top := fun u => by rw [e1]; exact vl_sshrI u htop
      have s3 : ∀ u : Int64, ((u.toUInt64 >>> ((0 : Int32).toInt64.toUInt64 &&& Int64.toUInt64 63)).toInt64).toBitVec = u.toBitVec >>> 0 := fun u => by rw [e0]; exact vl_ushrI u z0
      have s4 : ∀ u : Int64, (u >>> ((0 : Int32).toInt64 &&& 63)).toBitVec = u.toBitVec.sshiftRight 0 := fun u => by rw [e0]; exact vl_sshrI u z0
      simp only [hq, not_true, not_false_eq_true, if_true, if_false, h10]
      clear hb hs hs'
      refine vr_eq (vb_R_ext ?_ ?_ ?_ ?_ ?_ ?_) (fun q i hq => ?_)
      case refine_7 =>
        have o209 : ∀ (F : Nat → Nat → Int64) x, jv_u F 209 2 x q i = F q i := fun F x => vr_out hq rfl
        have o210 : ∀ (F : Nat → Nat → Int64) x, jv_u F 210 2 x q i = F q i := fun F x => vr_out hq rfl
        have o211 : ∀ (F : Nat → Nat → Int64) x, jv_u F 211 2 x q i = F q i := fun F x => vr_out hq rfl
        have o212 : ∀ (F : Nat → Nat → Int64) x, jv_u F 212 2 x q i = F q i := fun F x => vr_out hq rfl
        have o213 : ∀ (F : Nat → Nat → Int64) x, jv_u F 213 2 x q i = F q i := fun F x => vr_out hq rfl
        have o214 : ∀ (F : Nat → Nat → Int64) x, jv_u F 214 2 x q i = F q i := fun F x => vr_out hq rfl
        repeat' split
        all_goals simp only [o209, o210, o211, o212, o213, o214, vr_set_out hq]
      all_goals simp only [vr_S, vb_toR, vb_toS, vb_S.mask, vb_S.ones, vb_S.low, vb_S.high, vb_S.least, vb_S.greatest, vb_R.bits, vb_R.opn, vb_R.low, vb_R.high, vb_R.least, vb_R.greatest]
      all_goals try simp only [vl_at, vr_n209_210, vr_n209_211, vr_n209_212, vr_n209_213, vr_n209_214, vr_n210_209, vr_n210_211, vr_n210_212, vr_n210_213, vr_n210_214, vr_n211_209, vr_n211_210, vr_n211_212, vr_n211_213, vr_n211_214, vr_n212_209, vr_n212_210, vr_n212_211, vr_n212_213, vr_n212_214, vr_n213_209, vr_n213_210, vr_n213_211, vr_n213_212, vr_n213_214, vr_n214_209, vr_n214_210, vr_n214_211, vr_n214_212, vr_n214_213, vr_bel, vr_lesser, vr_larger, vr_quot, vr_fits, vr_isLong, vr_sumL, vr_difL, vl_max, vl_min, vr_to, Int64.toBitVec_add, Int64.toBitVec_sub, Int64.toBitVec_mul, Int64.toBitVec_and, Int64.toBitVec_xor, Int64.toBitVec_or, vl_x1, vl_x3, vl_zero, vl_one, vl_m1, vl_top, vl_most, vl_eqb, s1, s2, s3, s4, vr_smin2, vr_smax2]
      all_goals repeat' split
      all_goals try simp_all only [vl_at, vr_n209_210, vr_n209_211, vr_n209_212, vr_n209_213, vr_n209_214, vr_n210_209, vr_n210_211, vr_n210_212, vr_n210_213, vr_n210_214, vr_n211_209, vr_n211_210, vr_n211_212, vr_n211_213, vr_n211_214, vr_n212_209, vr_n212_210, vr_n212_211, vr_n212_213, vr_n212_214, vr_n213_209, vr_n213_210, vr_n213_211, vr_n213_212, vr_n213_214, vr_n214_209, vr_n214_210, vr_n214_211, vr_n214_212, vr_n214_213, vr_rd209, vr_rd210, vr_rd211, vr_rd212, vr_rd213, vr_rd214, vr_bel, vr_lesser, vr_larger, vr_quot, vr_fits, vr_isLong, vr_sumL, vr_difL, vl_max, vl_min, vr_to, Int64.toBitVec_add, Int64.toBitVec_sub, Int64.toBitVec_mul, Int64.toBitVec_and, Int64.toBitVec_xor, Int64.toBitVec_or, vl_x1, vl_x3, vl_zero, vl_one, vl_m1, vl_top, vl_most, vl_eqb, and_self, and_true, true_and, and_false, false_and, or_true, true_or, or_false, false_or, Bool.not_eq_false, if_true, if_false, Bool.false_and, Bool.and_false, Bool.true_and, Bool.and_true, Bool.not_eq_true, Bool.false_eq_true, Bool.true_eq_false, not_false_eq_true, not_true, ne_eq, decide_true, decide_false, Bool.true_or, Bool.or_true, Bool.false_or, Bool.or_false, Bool.not_true, Bool.not_false, Classical.not_not, vr_not0, s1, s2, s3, s4, vr_smin2, vr_smax2]
    · have e1 : (L 211 1).toInt32 = vl_I (L 211 1).toBitVec.toNat := vl_int_small rfl (by omega)
      have e2 : (L 212 1).toInt32 = vl_I (L 212 1).toBitVec.toNat := vl_int_small rfl (by omega)
      have k1 : (L 211 1).toBitVec.toNat < 64 := by omega
      have k2 : (L 212 1).toBitVec.toNat < 64 := by omega
      simp only [hq, not_true, not_false_eq_true, if_true, if_false, h10, e1, e2]
      have q1 : (vb_toS (vr_S L 1)).low.toNat = (L 211 1).toBitVec.toNat := rfl
      have q2 : (vb_toS (vr_S L 1)).high.toNat = (L 212 1).toBitVec.toNat := rfl
      simp only [q1, q2]
      clear hb hs hs' e1 e2 q1 q2
      generalize (L 211 1).toBitVec.toNat = lo at *
      generalize (L 212 1).toBitVec.toNat = hi at *
      have s1 : ∀ u : Int64, ((u.toUInt64 >>> ((vl_I lo).toInt64.toUInt64 &&& Int64.toUInt64 63)).toInt64).toBitVec = u.toBitVec >>> lo := fun u => vl_ushrI u k1
      have s2 : ∀ u : Int64, (u >>> ((vl_I lo).toInt64 &&& 63)).toBitVec = u.toBitVec.sshiftRight lo := fun u => vl_sshrI u k1
      have s3 : ∀ u : Int64, ((u.toUInt64 >>> ((vl_I hi).toInt64.toUInt64 &&& Int64.toUInt64 63)).toInt64).toBitVec = u.toBitVec >>> hi := fun u => vl_ushrI u k2
      have s4 : ∀ u : Int64, (u >>> ((vl_I hi).toInt64 &&& 63)).toBitVec = u.toBitVec.sshiftRight hi := fun u => vl_sshrI u k2
      refine vr_eq (vb_R_ext ?_ ?_ ?_ ?_ ?_ ?_) (fun q i hq => ?_)
      case refine_7 =>
        have o209 : ∀ (F : Nat → Nat → Int64) x, jv_u F 209 2 x q i = F q i := fun F x => vr_out hq rfl
        have o210 : ∀ (F : Nat → Nat → Int64) x, jv_u F 210 2 x q i = F q i := fun F x => vr_out hq rfl
        have o211 : ∀ (F : Nat → Nat → Int64) x, jv_u F 211 2 x q i = F q i := fun F x => vr_out hq rfl
        have o212 : ∀ (F : Nat → Nat → Int64) x, jv_u F 212 2 x q i = F q i := fun F x => vr_out hq rfl
        have o213 : ∀ (F : Nat → Nat → Int64) x, jv_u F 213 2 x q i = F q i := fun F x => vr_out hq rfl
        have o214 : ∀ (F : Nat → Nat → Int64) x, jv_u F 214 2 x q i = F q i := fun F x => vr_out hq rfl
        repeat' split
        all_goals simp only [o209, o210, o211, o212, o213, o214, vr_set_out hq]
      all_goals simp only [vr_S, vb_toR, vb_toS, vb_S.mask, vb_S.ones, vb_S.low, vb_S.high, vb_S.least, vb_S.greatest, vb_R.bits, vb_R.opn, vb_R.low, vb_R.high, vb_R.least, vb_R.greatest]
      all_goals try simp only [vl_at, vr_n209_210, vr_n209_211, vr_n209_212, vr_n209_213, vr_n209_214, vr_n210_209, vr_n210_211, vr_n210_212, vr_n210_213, vr_n210_214, vr_n211_209, vr_n211_210, vr_n211_212, vr_n211_213, vr_n211_214, vr_n212_209, vr_n212_210, vr_n212_211, vr_n212_213, vr_n212_214, vr_n213_209, vr_n213_210, vr_n213_211, vr_n213_212, vr_n213_214, vr_n214_209, vr_n214_210, vr_n214_211, vr_n214_212, vr_n214_213, vr_bel, vr_lesser, vr_larger, vr_quot, vr_fits, vr_isLong, vr_sumL, vr_difL, vl_max, vl_min, vr_to, Int64.toBitVec_add, Int64.toBitVec_sub, Int64.toBitVec_mul, Int64.toBitVec_and, Int64.toBitVec_xor, Int64.toBitVec_or, vl_x1, vl_x3, vl_zero, vl_one, vl_m1, vl_top, vl_most, vl_eqb, s1, s2, s3, s4, vr_smin2, vr_smax2]
      all_goals repeat' split
      all_goals try simp_all only [vl_at, vr_n209_210, vr_n209_211, vr_n209_212, vr_n209_213, vr_n209_214, vr_n210_209, vr_n210_211, vr_n210_212, vr_n210_213, vr_n210_214, vr_n211_209, vr_n211_210, vr_n211_212, vr_n211_213, vr_n211_214, vr_n212_209, vr_n212_210, vr_n212_211, vr_n212_213, vr_n212_214, vr_n213_209, vr_n213_210, vr_n213_211, vr_n213_212, vr_n213_214, vr_n214_209, vr_n214_210, vr_n214_211, vr_n214_212, vr_n214_213, vr_rd209, vr_rd210, vr_rd211, vr_rd212, vr_rd213, vr_rd214, vr_bel, vr_lesser, vr_larger, vr_quot, vr_fits, vr_isLong, vr_sumL, vr_difL, vl_max, vl_min, vr_to, Int64.toBitVec_add, Int64.toBitVec_sub, Int64.toBitVec_mul, Int64.toBitVec_and, Int64.toBitVec_xor, Int64.toBitVec_or, vl_x1, vl_x3, vl_zero, vl_one, vl_m1, vl_top, vl_most, vl_eqb, and_self, and_true, true_and, and_false, false_and, or_true, true_or, or_false, false_or, Bool.not_eq_false, if_true, if_false, Bool.false_and, Bool.and_false, Bool.true_and, Bool.and_true, Bool.not_eq_true, Bool.false_eq_true, Bool.true_eq_false, not_false_eq_true, not_true, ne_eq, decide_true, decide_false, Bool.true_or, Bool.or_true, Bool.false_or, Bool.or_false, Bool.not_true, Bool.not_false, Classical.not_not, vr_not0, s1, s2, s3, s4, vr_smin2, vr_smax2]

theorem vr_sright {K : Nat → Option (Nat × Nat)} {I : Nat → Nat → Int32} {L : Nat → Nat → Int64} {R : Nat → Nat → Value} {t : Int32} {top : Nat} (ht : (t = 63 ∧ top = 63) ∨ (t = 31 ∧ top = 31)) (hle : (vb_toS (vr_S L 1)).low.toNat ≤ (vb_toS (vr_S L 1)).high.toNat) (hW : jv_rW K R) (ha : vr_S L 2 = vb_rany) {n sl : Nat} :
    jv_Ms 237 [.ref 208, .int t] (jv_H K I L R) n sl (none, jv_H K I (vr_set L 2 (vb_toR (vb_cSRight (vb_toS (vr_S L 0)) (vb_toS (vr_S L 1)) top))) R, n, sl) := by
  have H := jv_s237 (L := L) (I := I) (R := R) (n := n) (sl := sl) t hW _ rfl
  refine (congrArg (fun Z => jv_Ms 237 [.ref 208, .int t] (jv_H K I L R) n sl (none, jv_H K I Z R, n, sl)) ?_).mp H
  clear H
  have a209 : (L 209 2).toBitVec = 0 := congrArg vb_R.bits ha
  have a210 : (L 210 2).toBitVec = vb_m1 := congrArg vb_R.opn ha
  have a211 : (L 211 2).toBitVec = 0 := congrArg vb_R.low ha
  have a212 : (L 212 2).toBitVec = vb_m1 := congrArg vb_R.high ha
  have a213 : (L 213 2).toBitVec = vb_top_ := congrArg vb_R.least ha
  have a214 : (L 214 2).toBitVec = vb_most := congrArg vb_R.greatest ha
  have hb : (jv_rbelow t.toInt64 (L 212 1) = 0) ↔ ¬ top < (L 212 1).toBitVec.toNat := by
    have e : t.toInt64.toBitVec.toNat = top := by rcases ht with ⟨rfl, rfl⟩ | ⟨rfl, rfl⟩ <;> decide
    have d : (t.toInt64.toBitVec < (L 212 1).toBitVec) ↔ top < (L 212 1).toBitVec.toNat := by rw [BitVec.lt_def, e]
    rw [vr_below, d]
  change (L 211 1).toBitVec.toNat ≤ (L 212 1).toBitVec.toNat at hle
  have h10 : ¬ ((1 : Int32) = 0) := by decide
  by_cases hs : (L 211 1) = (L 212 1)
  · have hs' : (vb_toS (vr_S L 1)).low = (vb_toS (vr_S L 1)).high := congrArg Int64.toBitVec hs
    unfold vb_cSRight
    rw [if_pos hs', vl_amt _ ht, show (vb_toS (vr_S L 1)).low = (L 211 1).toBitVec from rfl]
    have h64 : (L 211 1).toBitVec.toNat % (top + 1) < 64 := by rcases ht with ⟨_, rfl⟩ | ⟨_, rfl⟩ <;> omega
    generalize (L 211 1).toBitVec.toNat % (top + 1) = s at h64 ⊢
    have s1 : ∀ u : Int64, (u <<< ((vl_I s).toInt64 &&& 63)).toBitVec = u.toBitVec <<< s := fun u => vl_shlI u h64
    have s2 : ∀ u : Int64, (u >>> ((vl_I s).toInt64 &&& 63)).toBitVec = u.toBitVec.sshiftRight s := fun u => vl_sshrI u h64
    have s3 : ∀ u : Int64, ((u.toUInt64 >>> ((vl_I s).toInt64.toUInt64 &&& Int64.toUInt64 63)).toInt64).toBitVec = u.toBitVec >>> s := fun u => vl_ushrI u h64
    simp only [hs, not_true, if_false, if_true, h10, not_false_eq_true]
    clear hs hs' hb
    refine vr_eq (vb_R_ext ?_ ?_ ?_ ?_ ?_ ?_) (fun q i hq => ?_)
    case refine_7 =>
      have o209 : ∀ (F : Nat → Nat → Int64) x, jv_u F 209 2 x q i = F q i := fun F x => vr_out hq rfl
      have o210 : ∀ (F : Nat → Nat → Int64) x, jv_u F 210 2 x q i = F q i := fun F x => vr_out hq rfl
      have o211 : ∀ (F : Nat → Nat → Int64) x, jv_u F 211 2 x q i = F q i := fun F x => vr_out hq rfl
      have o212 : ∀ (F : Nat → Nat → Int64) x, jv_u F 212 2 x q i = F q i := fun F x => vr_out hq rfl
      have o213 : ∀ (F : Nat → Nat → Int64) x, jv_u F 213 2 x q i = F q i := fun F x => vr_out hq rfl
      have o214 : ∀ (F : Nat → Nat → Int64) x, jv_u F 214 2 x q i = F q i := fun F x => vr_out hq rfl
      repeat' split
      all_goals simp only [o209, o210, o211, o212, o213, o214, vr_set_out hq]
    all_goals simp only [vr_S, vb_toR, vb_toS, vb_S.mask, vb_S.ones, vb_S.low, vb_S.high, vb_S.least, vb_S.greatest, vb_R.bits, vb_R.opn, vb_R.low, vb_R.high, vb_R.least, vb_R.greatest]
    all_goals try simp only [vl_at, vr_n209_210, vr_n209_211, vr_n209_212, vr_n209_213, vr_n209_214, vr_n210_209, vr_n210_211, vr_n210_212, vr_n210_213, vr_n210_214, vr_n211_209, vr_n211_210, vr_n211_212, vr_n211_213, vr_n211_214, vr_n212_209, vr_n212_210, vr_n212_211, vr_n212_213, vr_n212_214, vr_n213_209, vr_n213_210, vr_n213_211, vr_n213_212, vr_n213_214, vr_n214_209, vr_n214_210, vr_n214_211, vr_n214_212, vr_n214_213, vr_bel, vr_lesser, vr_larger, vr_quot, vr_fits, vr_isLong, vr_sumL, vr_difL, vl_max, vl_min, vr_to, Int64.toBitVec_add, Int64.toBitVec_sub, Int64.toBitVec_mul, Int64.toBitVec_and, Int64.toBitVec_xor, Int64.toBitVec_or, vl_x1, vl_x3, vl_zero, vl_one, vl_m1, vl_top, vl_most, vl_eqb, s1, s2, s3, vr_notnot, vr_sshr_not]
    all_goals repeat' split
    all_goals try simp_all only [vl_at, vr_n209_210, vr_n209_211, vr_n209_212, vr_n209_213, vr_n209_214, vr_n210_209, vr_n210_211, vr_n210_212, vr_n210_213, vr_n210_214, vr_n211_209, vr_n211_210, vr_n211_212, vr_n211_213, vr_n211_214, vr_n212_209, vr_n212_210, vr_n212_211, vr_n212_213, vr_n212_214, vr_n213_209, vr_n213_210, vr_n213_211, vr_n213_212, vr_n213_214, vr_n214_209, vr_n214_210, vr_n214_211, vr_n214_212, vr_n214_213, vr_rd209, vr_rd210, vr_rd211, vr_rd212, vr_rd213, vr_rd214, vr_bel, vr_lesser, vr_larger, vr_quot, vr_fits, vr_isLong, vr_sumL, vr_difL, vl_max, vl_min, vr_to, Int64.toBitVec_add, Int64.toBitVec_sub, Int64.toBitVec_mul, Int64.toBitVec_and, Int64.toBitVec_xor, Int64.toBitVec_or, vl_x1, vl_x3, vl_zero, vl_one, vl_m1, vl_top, vl_most, vl_eqb, and_self, and_true, true_and, and_false, false_and, or_true, true_or, or_false, false_or, Bool.not_eq_false, if_true, if_false, Bool.false_and, Bool.and_false, Bool.true_and, Bool.and_true, Bool.not_eq_true, Bool.false_eq_true, Bool.true_eq_false, not_false_eq_true, not_true, ne_eq, decide_true, decide_false, Bool.true_or, Bool.or_true, Bool.false_or, Bool.or_false, Bool.not_true, Bool.not_false, Classical.not_not, vr_not0, s1, s2, s3, vr_notnot, vr_sshr_not]
  · have hs' : ¬ (vb_toS (vr_S L 1)).low = (vb_toS (vr_S L 1)).high := fun h => hs (Int64.toBitVec_inj.mp h)
    unfold vb_cSRight
    rw [if_neg hs']
    simp only [hs, not_false_eq_true, if_true, not_true, if_false, hb, h10]
    have htop : top < 64 := by rcases ht with ⟨_, rfl⟩ | ⟨_, rfl⟩ <;> omega
    by_cases hq : top < (L 212 1).toBitVec.toNat
    · have e1 : t = vl_I top := by rcases ht with ⟨rfl, rfl⟩ | ⟨rfl, rfl⟩ <;> decide
      have e0 : (0 : Int32) = vl_I 0 := by decide
      have z0 : (0 : Nat) < 64 := by decide
      have s1 : ∀ u : Int64, ((u.toUInt64 >>> (t.toInt64.toUInt64 &&& Int64.toUInt64 63)).toInt64).toBitVec = u.toBitVec >>> top := fun u => by rw [e1]; exact vl_ushrI u htop
      have s2 : ∀ u : Int64, (u >>> (t.toInt64 &&& 63)).toBitVec = u.toBitVec.sshiftRight top := fun u => by rw [e1]; exact vl_sshrI u htop
      have s3 : ∀ u : Int64, ((u.toUInt64 >>> ((0 : Int32).toInt64.toUInt64 &&& Int64.toUInt64 63)).toInt64).toBitVec = u.toBitVec >>> 0 := fun u => by rw [e0]; exact vl_ushrI u z0
      have s4 : ∀ u : Int64, (u >>> ((0 : Int32).toInt64 &&& 63)).toBitVec = u.toBitVec.sshiftRight 0 := fun u => by rw [e0]; exact vl_sshrI u z0
      simp only [hq, not_true, not_false_eq_true, if_true, if_false, h10]
      clear hb hs hs'
      refine vr_eq (vb_R_ext ?_ ?_ ?_ ?_ ?_ ?_) (fun q i hq => ?_)
      case refine_7 =>
        have o209 : ∀ (F : Nat → Nat → Int64) x, jv_u F 209 2 x q i = F q i := fun F x => vr_out hq rfl
        have o210 : ∀ (F : Nat → Nat → Int64) x, jv_u F 210 2 x q i = F q i := fun F x => vr_out hq rfl
        have o211 : ∀ (F : Nat → Nat → Int64) x, jv_u F 211 2 x q i = F q i := fun F x => vr_out hq rfl
        have o212 : ∀ (F : Nat → Nat → Int64) x, jv_u F 212 2 x q i = F q i := fun F x => vr_out hq rfl
        have o213 : ∀ (F : Nat → Nat → Int64) x, jv_u F 213 2 x q i = F q i := fun F x => vr_out hq rfl
        have o214 : ∀ (F : Nat → Nat → Int64) x, jv_u F 214 2 x q i = F q i := fun F x => vr_out hq rfl
        repeat' split
        all_goals simp only [o209, o210, o211, o212, o213, o214, vr_set_out hq]
      all_goals simp only [vr_S, vb_toR, vb_toS, vb_S.mask, vb_S.ones, vb_S.low, vb_S.high, vb_S.least, vb_S.greatest, vb_R.bits, vb_R.opn, vb_R.low, vb_R.high, vb_R.least, vb_R.greatest]
      all_goals try simp only [vl_at, vr_n209_210, vr_n209_211, vr_n209_212, vr_n209_213, vr_n209_214, vr_n210_209, vr_n210_211, vr_n210_212, vr_n210_213, vr_n210_214, vr_n211_209, vr_n211_210, vr_n211_212, vr_n211_213, vr_n211_214, vr_n212_209, vr_n212_210, vr_n212_211, vr_n212_213, vr_n212_214, vr_n213_209, vr_n213_210, vr_n213_211, vr_n213_212, vr_n213_214, vr_n214_209, vr_n214_210, vr_n214_211, vr_n214_212, vr_n214_213, vr_bel, vr_lesser, vr_larger, vr_quot, vr_fits, vr_isLong, vr_sumL, vr_difL, vl_max, vl_min, vr_to, Int64.toBitVec_add, Int64.toBitVec_sub, Int64.toBitVec_mul, Int64.toBitVec_and, Int64.toBitVec_xor, Int64.toBitVec_or, vl_x1, vl_x3, vl_zero, vl_one, vl_m1, vl_top, vl_most, vl_eqb, s1, s2, s3, s4, vr_smin2, vr_smax2]
      all_goals repeat' split
      all_goals try simp_all only [vl_at, vr_n209_210, vr_n209_211, vr_n209_212, vr_n209_213, vr_n209_214, vr_n210_209, vr_n210_211, vr_n210_212, vr_n210_213, vr_n210_214, vr_n211_209, vr_n211_210, vr_n211_212, vr_n211_213, vr_n211_214, vr_n212_209, vr_n212_210, vr_n212_211, vr_n212_213, vr_n212_214, vr_n213_209, vr_n213_210, vr_n213_211, vr_n213_212, vr_n213_214, vr_n214_209, vr_n214_210, vr_n214_211, vr_n214_212, vr_n214_213, vr_rd209, vr_rd210, vr_rd211, vr_rd212, vr_rd213, vr_rd214, vr_bel, vr_lesser, vr_larger, vr_quot, vr_fits, vr_isLong, vr_sumL, vr_difL, vl_max, vl_min, vr_to, Int64.toBitVec_add, Int64.toBitVec_sub, Int64.toBitVec_mul, Int64.toBitVec_and, Int64.toBitVec_xor, Int64.toBitVec_or, vl_x1, vl_x3, vl_zero, vl_one, vl_m1, vl_top, vl_most, vl_eqb, and_self, and_true, true_and, and_false, false_and, or_true, true_or, or_false, false_or, Bool.not_eq_false, if_true, if_false, Bool.false_and, Bool.and_false, Bool.true_and, Bool.and_true, Bool.not_eq_true, Bool.false_eq_true, Bool.true_eq_false, not_false_eq_true, not_true, ne_eq, decide_true, decide_false, Bool.true_or, Bool.or_true, Bool.false_or, Bool.or_false, Bool.not_true, Bool.not_false, Classical.not_not, vr_not0, s1, s2, s3, s4, vr_smin2, vr_smax2]
    · have e1 : (L 211 1).toInt32 = vl_I (L 211 1).toBitVec.toNat := vl_int_small rfl (by omega)
      have e2 : (L 212 1).toInt32 = vl_I (L 212 1).toBitVec.toNat := vl_int_small rfl (by omega)
      have k1 : (L 211 1).toBitVec.toNat < 64 := by omega
      have k2 : (L 212 1).toBitVec.toNat < 64 := by omega
      simp only [hq, not_true, not_false_eq_true, if_true, if_false, h10, e1, e2]
      have q1 : (vb_toS (vr_S L 1)).low.toNat = (L 211 1).toBitVec.toNat := rfl
      have q2 : (vb_toS (vr_S L 1)).high.toNat = (L 212 1).toBitVec.toNat := rfl
      simp only [q1, q2]
      clear hb hs hs' e1 e2 q1 q2
      generalize (L 211 1).toBitVec.toNat = lo at *
      generalize (L 212 1).toBitVec.toNat = hi at *
      have s1 : ∀ u : Int64, ((u.toUInt64 >>> ((vl_I lo).toInt64.toUInt64 &&& Int64.toUInt64 63)).toInt64).toBitVec = u.toBitVec >>> lo := fun u => vl_ushrI u k1
      have s2 : ∀ u : Int64, (u >>> ((vl_I lo).toInt64 &&& 63)).toBitVec = u.toBitVec.sshiftRight lo := fun u => vl_sshrI u k1
      have s3 : ∀ u : Int64, ((u.toUInt64 >>> ((vl_I hi).toInt64.toUInt64 &&& Int64.toUInt64 63)).toInt64).toBitVec = u.toBitVec >>> hi := fun u => vl_ushrI u k2
      have s4 : ∀ u : Int64, (u >>> ((vl_I hi).toInt64 &&& 63)).toBitVec = u.toBitVec.sshiftRight hi := fun u => vl_sshrI u k2
      refine vr_eq (vb_R_ext ?_ ?_ ?_ ?_ ?_ ?_) (fun q i hq => ?_)
      case refine_7 =>
        have o209 : ∀ (F : Nat → Nat → Int64) x, jv_u F 209 2 x q i = F q i := fun F x => vr_out hq rfl
        have o210 : ∀ (F : Nat → Nat → Int64) x, jv_u F 210 2 x q i = F q i := fun F x => vr_out hq rfl
        have o211 : ∀ (F : Nat → Nat → Int64) x, jv_u F 211 2 x q i = F q i := fun F x => vr_out hq rfl
        have o212 : ∀ (F : Nat → Nat → Int64) x, jv_u F 212 2 x q i = F q i := fun F x => vr_out hq rfl
        have o213 : ∀ (F : Nat → Nat → Int64) x, jv_u F 213 2 x q i = F q i := fun F x => vr_out hq rfl
        have o214 : ∀ (F : Nat → Nat → Int64) x, jv_u F 214 2 x q i = F q i := fun F x => vr_out hq rfl
        repeat' split
        all_goals simp only [o209, o210, o211, o212, o213, o214, vr_set_out hq]
      all_goals simp only [vr_S, vb_toR, vb_toS, vb_S.mask, vb_S.ones, vb_S.low, vb_S.high, vb_S.least, vb_S.greatest, vb_R.bits, vb_R.opn, vb_R.low, vb_R.high, vb_R.least, vb_R.greatest]
      all_goals try simp only [vl_at, vr_n209_210, vr_n209_211, vr_n209_212, vr_n209_213, vr_n209_214, vr_n210_209, vr_n210_211, vr_n210_212, vr_n210_213, vr_n210_214, vr_n211_209, vr_n211_210, vr_n211_212, vr_n211_213, vr_n211_214, vr_n212_209, vr_n212_210, vr_n212_211, vr_n212_213, vr_n212_214, vr_n213_209, vr_n213_210, vr_n213_211, vr_n213_212, vr_n213_214, vr_n214_209, vr_n214_210, vr_n214_211, vr_n214_212, vr_n214_213, vr_bel, vr_lesser, vr_larger, vr_quot, vr_fits, vr_isLong, vr_sumL, vr_difL, vl_max, vl_min, vr_to, Int64.toBitVec_add, Int64.toBitVec_sub, Int64.toBitVec_mul, Int64.toBitVec_and, Int64.toBitVec_xor, Int64.toBitVec_or, vl_x1, vl_x3, vl_zero, vl_one, vl_m1, vl_top, vl_most, vl_eqb, s1, s2, s3, s4, vr_smin2, vr_smax2]
      all_goals repeat' split
      all_goals try simp_all only [vl_at, vr_n209_210, vr_n209_211, vr_n209_212, vr_n209_213, vr_n209_214, vr_n210_209, vr_n210_211, vr_n210_212, vr_n210_213, vr_n210_214, vr_n211_209, vr_n211_210, vr_n211_212, vr_n211_213, vr_n211_214, vr_n212_209, vr_n212_210, vr_n212_211, vr_n212_213, vr_n212_214, vr_n213_209, vr_n213_210, vr_n213_211, vr_n213_212, vr_n213_214, vr_n214_209, vr_n214_210, vr_n214_211, vr_n214_212, vr_n214_213, vr_rd209, vr_rd210, vr_rd211, vr_rd212, vr_rd213, vr_rd214, vr_bel, vr_lesser, vr_larger, vr_quot, vr_fits, vr_isLong, vr_sumL, vr_difL, vl_max, vl_min, vr_to, Int64.toBitVec_add, Int64.toBitVec_sub, Int64.toBitVec_mul, Int64.toBitVec_and, Int64.toBitVec_xor, Int64.toBitVec_or, vl_x1, vl_x3, vl_zero, vl_one, vl_m1, vl_top, vl_most, vl_eqb, and_self, and_true, true_and, and_false, false_and, or_true, true_or, or_false, false_or, Bool.not_eq_false, if_true, if_false, Bool.false_and, Bool.and_false, Bool.true_and, Bool.and_true, Bool.not_eq_true, Bool.false_eq_true, Bool.true_eq_false, not_false_eq_true, not_true, ne_eq, decide_true, decide_false, Bool.true_or, Bool.or_true, Bool.false_or, Bool.or_false, Bool.not_true, Bool.not_false, Classical.not_not, vr_not0, s1, s2, s3, s4, vr_smin2, vr_smax2]

theorem vr_low_cap (m : Nat) : vb_lowest (min 64 m) = vb_lowest m := by
  unfold vb_lowest
  by_cases h : 64 ≤ m
  · rw [if_pos h, if_pos (by omega)]
  · rw [if_neg h, show min 64 m = m by omega, if_neg h]
theorem vr_minle {a b : Nat} (ha : a < 2147483648) (hb : b < 2147483648) : (if vl_I b ≤ vl_I a then vl_I b else vl_I a) = vl_I (min a b) := by
  have h : (vl_I b ≤ vl_I a) ↔ b ≤ a := by
    rw [Int32.le_iff_toBitVec_sle, BitVec.sle_iff_toInt_le, vl_I_int ha, vl_I_int hb]; omega
  by_cases c : b ≤ a
  · rw [if_pos (h.mpr c), show min a b = b by omega]
  · rw [if_neg (fun z => c (h.mp z)), show min a b = a by omega]
theorem vr_mul {K : Nat → Option (Nat × Nat)} {I : Nat → Nat → Int32} {L : Nat → Nat → Int64} {R : Nat → Nat → Value} (hW : jv_rW K R) (ha : vr_S L 2 = vb_rany) {n sl : Nat} :
    jv_Ms 229 [.ref 208] (jv_H K I L R) n sl (none, jv_H K I (vr_set L 2 (vb_toR (vb_cMul (vb_toS (vr_S L 0)) (vb_toS (vr_S L 1))))) R, n, sl) := by
  obtain ⟨v1, hv1⟩ : ∃ v, v = (if ((if (((vl_I (vb_tr (vr_lowz (vr_S L 1) false))) + (vl_I (vb_tr (vr_lowz (vr_S L 0) true)))) ≤ ((vl_I (vb_tr (vr_lowz (vr_S L 0) false))) + (vl_I (vb_tr (vr_lowz (vr_S L 1) true))))) then ((vl_I (vb_tr (vr_lowz (vr_S L 1) false))) + (vl_I (vb_tr (vr_lowz (vr_S L 0) true)))) else ((vl_I (vb_tr (vr_lowz (vr_S L 0) false))) + (vl_I (vb_tr (vr_lowz (vr_S L 1) true))))) < (64 : Int32)) then (((1 : Int64) <<< ((if (((vl_I (vb_tr (vr_lowz (vr_S L 1) false))) + (vl_I (vb_tr (vr_lowz (vr_S L 0) true)))) ≤ ((vl_I (vb_tr (vr_lowz (vr_S L 0) false))) + (vl_I (vb_tr (vr_lowz (vr_S L 1) true))))) then ((vl_I (vb_tr (vr_lowz (vr_S L 1) false))) + (vl_I (vb_tr (vr_lowz (vr_S L 0) true)))) else ((vl_I (vb_tr (vr_lowz (vr_S L 0) false))) + (vl_I (vb_tr (vr_lowz (vr_S L 1) true))))).toInt64 &&& 63)) - (1 : Int64)) else (-1 : Int64)) := ⟨_, rfl⟩
  have H := jv_s229 (L := L) (I := I) (R := R) (n := n) (sl := sl) hW v1 hv1
  refine (congrArg (fun Z => jv_Ms 229 [.ref 208] (jv_H K I L R) n sl (none, jv_H K I Z R, n, sl)) ?_).mp H
  clear H
  have a209 : (L 209 2).toBitVec = 0 := congrArg vb_R.bits ha
  have a210 : (L 210 2).toBitVec = vb_m1 := congrArg vb_R.opn ha
  have a211 : (L 211 2).toBitVec = 0 := congrArg vb_R.low ha
  have a212 : (L 212 2).toBitVec = vb_m1 := congrArg vb_R.high ha
  have a213 : (L 213 2).toBitVec = vb_top_ := congrArg vb_R.least ha
  have a214 : (L 214 2).toBitVec = vb_most := congrArg vb_R.greatest ha
  have l1 := vb_tr_le (vb_toS (vr_S L 0)).mask
  have l2 := vb_tr_le ((vb_toS (vr_S L 1)).mask &&& ~~~(vb_toS (vr_S L 1)).ones)
  have l3 := vb_tr_le (vb_toS (vr_S L 1)).mask
  have l4 := vb_tr_le ((vb_toS (vr_S L 0)).mask &&& ~~~(vb_toS (vr_S L 0)).ones)
  have e6 : ((if ((if (((L 214 0) * (L 214 1)) ≤ ((L 214 0) * (L 213 1))) then ((L 214 0) * (L 214 1)) else ((L 214 0) * (L 213 1))) ≤ (if (((L 213 0) * (L 214 1)) ≤ ((L 213 0) * (L 213 1))) then ((L 213 0) * (L 214 1)) else ((L 213 0) * (L 213 1)))) then (if (((L 214 0) * (L 214 1)) ≤ ((L 214 0) * (L 213 1))) then ((L 214 0) * (L 214 1)) else ((L 214 0) * (L 213 1))) else (if (((L 213 0) * (L 214 1)) ≤ ((L 213 0) * (L 213 1))) then ((L 213 0) * (L 214 1)) else ((L 213 0) * (L 213 1))))).toBitVec = vb_min4 ((L 213 0).toBitVec * (L 213 1).toBitVec) ((L 213 0).toBitVec * (L 214 1).toBitVec) ((L 214 0).toBitVec * (L 213 1).toBitVec) ((L 214 0).toBitVec * (L 214 1).toBitVec) := by
    simp only [vr_smin2, vl_min, Int64.toBitVec_mul]
    rfl
  have e7 : ((if ((if (((L 214 0) * (L 214 1)) ≤ ((L 214 0) * (L 213 1))) then ((L 214 0) * (L 213 1)) else ((L 214 0) * (L 214 1))) ≤ (if (((L 213 0) * (L 214 1)) ≤ ((L 213 0) * (L 213 1))) then ((L 213 0) * (L 213 1)) else ((L 213 0) * (L 214 1)))) then (if (((L 213 0) * (L 214 1)) ≤ ((L 213 0) * (L 213 1))) then ((L 213 0) * (L 213 1)) else ((L 213 0) * (L 214 1))) else (if (((L 214 0) * (L 214 1)) ≤ ((L 214 0) * (L 213 1))) then ((L 214 0) * (L 213 1)) else ((L 214 0) * (L 214 1))))).toBitVec = vb_max4 ((L 213 0).toBitVec * (L 213 1).toBitVec) ((L 213 0).toBitVec * (L 214 1).toBitVec) ((L 214 0).toBitVec * (L 213 1).toBitVec) ((L 214 0).toBitVec * (L 214 1).toBitVec) := by
    simp only [vr_smax2, vl_max, Int64.toBitVec_mul]
    rfl
  generalize (if ((if (((L 214 0) * (L 214 1)) ≤ ((L 214 0) * (L 213 1))) then ((L 214 0) * (L 214 1)) else ((L 214 0) * (L 213 1))) ≤ (if (((L 213 0) * (L 214 1)) ≤ ((L 213 0) * (L 213 1))) then ((L 213 0) * (L 214 1)) else ((L 213 0) * (L 213 1)))) then (if (((L 214 0) * (L 214 1)) ≤ ((L 214 0) * (L 213 1))) then ((L 214 0) * (L 214 1)) else ((L 214 0) * (L 213 1))) else (if (((L 213 0) * (L 214 1)) ≤ ((L 213 0) * (L 213 1))) then ((L 213 0) * (L 214 1)) else ((L 213 0) * (L 213 1)))) = m1 at e6 ⊢
  generalize (if ((if (((L 214 0) * (L 214 1)) ≤ ((L 214 0) * (L 213 1))) then ((L 214 0) * (L 213 1)) else ((L 214 0) * (L 214 1))) ≤ (if (((L 213 0) * (L 214 1)) ≤ ((L 213 0) * (L 213 1))) then ((L 213 0) * (L 213 1)) else ((L 213 0) * (L 214 1)))) then (if (((L 213 0) * (L 214 1)) ≤ ((L 213 0) * (L 213 1))) then ((L 213 0) * (L 213 1)) else ((L 213 0) * (L 214 1))) else (if (((L 214 0) * (L 214 1)) ≤ ((L 214 0) * (L 213 1))) then ((L 214 0) * (L 213 1)) else ((L 214 0) * (L 214 1)))) = m2 at e7 ⊢
  simp only [vr_low_zero, vr_low_known, vl_I_add] at hv1
  rw [vr_minle (by omega) (by omega)] at hv1
  have e1 : v1.toBitVec = vb_lowest (min (vb_tr (vb_toS (vr_S L 0)).mask + vb_tr ((vb_toS (vr_S L 1)).mask &&& ~~~(vb_toS (vr_S L 1)).ones)) (vb_tr (vb_toS (vr_S L 1)).mask + vb_tr ((vb_toS (vr_S L 0)).mask &&& ~~~(vb_toS (vr_S L 0)).ones))) := by
    rw [hv1, vr_know64 (by omega), vr_low_cap]
  clear hv1 l1 l2 l3 l4
  unfold vb_cMul
  dsimp only
  rw [← e1]
  clear e1
  have hf : (jv_rfits (L 212 0) (L 212 1) = 0) ↔ ¬ (decide ((L 212 0).toBitVec = 0) || !decide (vb_m1 / (L 212 0).toBitVec < (L 212 1).toBitVec)) = true := by
    rw [vr_fits, ← vr_prod]; simp
  change _ = vr_set L 2 (vb_toR ⟨v1.toBitVec, (L 209 0).toBitVec * (L 209 1).toBitVec &&& v1.toBitVec, if (decide ((L 212 0).toBitVec = 0) || !decide (vb_m1 / (L 212 0).toBitVec < (L 212 1).toBitVec)) = true then (L 211 0).toBitVec * (L 211 1).toBitVec else 0, if (decide ((L 212 0).toBitVec = 0) || !decide (vb_m1 / (L 212 0).toBitVec < (L 212 1).toBitVec)) = true then (L 212 0).toBitVec * (L 212 1).toBitVec else vb_m1, if (vb_mulFits (L 213 0).toBitVec (L 213 1).toBitVec && vb_mulFits (L 213 0).toBitVec (L 214 1).toBitVec && vb_mulFits (L 214 0).toBitVec (L 213 1).toBitVec && vb_mulFits (L 214 0).toBitVec (L 214 1).toBitVec) = true then vb_min4 ((L 213 0).toBitVec * (L 213 1).toBitVec) ((L 213 0).toBitVec * (L 214 1).toBitVec) ((L 214 0).toBitVec * (L 213 1).toBitVec) ((L 214 0).toBitVec * (L 214 1).toBitVec) else vb_top_, if (vb_mulFits (L 213 0).toBitVec (L 213 1).toBitVec && vb_mulFits (L 213 0).toBitVec (L 214 1).toBitVec && vb_mulFits (L 214 0).toBitVec (L 213 1).toBitVec && vb_mulFits (L 214 0).toBitVec (L 214 1).toBitVec) = true then vb_max4 ((L 213 0).toBitVec * (L 213 1).toBitVec) ((L 213 0).toBitVec * (L 214 1).toBitVec) ((L 214 0).toBitVec * (L 213 1).toBitVec) ((L 214 0).toBitVec * (L 214 1).toBitVec) else vb_most⟩)
  generalize (decide ((L 212 0).toBitVec = 0) || !decide (vb_m1 / (L 212 0).toBitVec < (L 212 1).toBitVec)) = bf at hf ⊢
  refine vr_eq (vb_R_ext ?_ ?_ ?_ ?_ ?_ ?_) (fun q i hq => ?_)
  case refine_7 =>
    have o209 : ∀ (F : Nat → Nat → Int64) x, jv_u F 209 2 x q i = F q i := fun F x => vr_out hq rfl
    have o210 : ∀ (F : Nat → Nat → Int64) x, jv_u F 210 2 x q i = F q i := fun F x => vr_out hq rfl
    have o211 : ∀ (F : Nat → Nat → Int64) x, jv_u F 211 2 x q i = F q i := fun F x => vr_out hq rfl
    have o212 : ∀ (F : Nat → Nat → Int64) x, jv_u F 212 2 x q i = F q i := fun F x => vr_out hq rfl
    have o213 : ∀ (F : Nat → Nat → Int64) x, jv_u F 213 2 x q i = F q i := fun F x => vr_out hq rfl
    have o214 : ∀ (F : Nat → Nat → Int64) x, jv_u F 214 2 x q i = F q i := fun F x => vr_out hq rfl
    repeat' split
    all_goals simp only [o209, o210, o211, o212, o213, o214, vr_set_out hq]
  all_goals simp only [vr_S, vb_toR, vb_toS, vb_S.mask, vb_S.ones, vb_S.low, vb_S.high, vb_S.least, vb_S.greatest, vb_R.bits, vb_R.opn, vb_R.low, vb_R.high, vb_R.least, vb_R.greatest]
  all_goals try simp only [vl_at, vr_n209_210, vr_n209_211, vr_n209_212, vr_n209_213, vr_n209_214, vr_n210_209, vr_n210_211, vr_n210_212, vr_n210_213, vr_n210_214, vr_n211_209, vr_n211_210, vr_n211_212, vr_n211_213, vr_n211_214, vr_n212_209, vr_n212_210, vr_n212_211, vr_n212_213, vr_n212_214, vr_n213_209, vr_n213_210, vr_n213_211, vr_n213_212, vr_n213_214, vr_n214_209, vr_n214_210, vr_n214_211, vr_n214_212, vr_n214_213, vr_bel, vr_lesser, vr_larger, vr_quot, vr_fits, vr_isLong, vr_sumL, vr_difL, vl_max, vl_min, vr_to, Int64.toBitVec_add, Int64.toBitVec_sub, Int64.toBitVec_mul, Int64.toBitVec_and, Int64.toBitVec_xor, Int64.toBitVec_or, vl_x1, vl_x3, vl_zero, vl_one, vl_m1, vl_top, vl_most, vl_eqb, hf, e6, e7]
  all_goals repeat' split
  all_goals try simp_all only [vl_at, vr_n209_210, vr_n209_211, vr_n209_212, vr_n209_213, vr_n209_214, vr_n210_209, vr_n210_211, vr_n210_212, vr_n210_213, vr_n210_214, vr_n211_209, vr_n211_210, vr_n211_212, vr_n211_213, vr_n211_214, vr_n212_209, vr_n212_210, vr_n212_211, vr_n212_213, vr_n212_214, vr_n213_209, vr_n213_210, vr_n213_211, vr_n213_212, vr_n213_214, vr_n214_209, vr_n214_210, vr_n214_211, vr_n214_212, vr_n214_213, vr_rd209, vr_rd210, vr_rd211, vr_rd212, vr_rd213, vr_rd214, vr_bel, vr_lesser, vr_larger, vr_quot, vr_fits, vr_isLong, vr_sumL, vr_difL, vl_max, vl_min, vr_to, Int64.toBitVec_add, Int64.toBitVec_sub, Int64.toBitVec_mul, Int64.toBitVec_and, Int64.toBitVec_xor, Int64.toBitVec_or, vl_x1, vl_x3, vl_zero, vl_one, vl_m1, vl_top, vl_most, vl_eqb, and_self, and_true, true_and, and_false, false_and, or_true, true_or, or_false, false_or, Bool.not_eq_false, if_true, if_false, Bool.false_and, Bool.and_false, Bool.true_and, Bool.and_true, Bool.not_eq_true, Bool.false_eq_true, Bool.true_eq_false, not_false_eq_true, not_true, ne_eq, decide_true, decide_false, Bool.true_or, Bool.or_true, Bool.false_or, Bool.or_false, Bool.not_true, Bool.not_false, Classical.not_not, vr_not0, hf, e6, e7]
