theorem vl_sayLeft {K : Nat → Option (Nat × Nat)} {I : Nat → Nat → Int32} {L : Nat → Nat → Int64} {R : Nat → Nat → Value} {o x w : Nat} (ho : jv_isV K o) (hx : jv_isV K x) (hw : jv_isV K w) (h1 : o ≠ x) (h2 : o ≠ w) (ha : vl_S L o = vb_any) {t : Int32} {top : Nat} (ht : (t = 63 ∧ top = 63) ∨ (t = 31 ∧ top = 31)) (hle : (vl_S L w).low.toNat ≤ (vl_S L w).high.toNat) {n sl : Nat} :
    jv_Ms 167 [.ref o, .ref x, .ref w, .int t] (jv_H K I L R) n sl (none, jv_H K I (vl_set L o (vb_cLeft (vl_S L x) (vl_S L w) top)) R, n, sl) := by
  have H := jv_s167 (L := L) (I := I) (R := R) (n := n) (sl := sl) o x w t ho hx hw h1 h2 _ rfl _ rfl _ rfl _ rfl _ rfl _ rfl _ rfl
  refine (congrArg (fun Z => jv_Ms 167 [.ref o, .ref x, .ref w, .int t] (jv_H K I L R) n sl (none, jv_H K I Z R, n, sl)) ?_).mp H
  clear H
  have a0 : (L o 0).toBitVec = 0 := congrArg vb_S.mask ha
  have a1 : (L o 1).toBitVec = 0 := congrArg vb_S.ones ha
  have a2 : (L o 2).toBitVec = 0 := congrArg vb_S.low ha
  have a3 : (L o 3).toBitVec = vb_m1 := congrArg vb_S.high ha
  have a4 : (L o 4).toBitVec = vb_top_ := congrArg vb_S.least ha
  have a5 : (L o 5).toBitVec = vb_most := congrArg vb_S.greatest ha
  have hb : (jv_cbelow t.toInt64 (L w 3) = 0) ↔ ¬ top < (L w 3).toBitVec.toNat := by
    have e : t.toInt64.toBitVec.toNat = top := by rcases ht with ⟨rfl, rfl⟩ | ⟨rfl, rfl⟩ <;> decide
    have d : (t.toInt64.toBitVec < (L w 3).toBitVec) ↔ top < (L w 3).toBitVec.toNat := by rw [BitVec.lt_def, e]
    rw [vl_below]
    by_cases h : top < (L w 3).toBitVec.toNat
    · rw [if_pos (d.mpr h)]; exact ⟨fun h' => absurd h' (by decide), fun h' => absurd h h'⟩
    · rw [if_neg (fun h' => h (d.mp h'))]; exact ⟨fun _ => h, fun _ => rfl⟩
  change (L w 2).toBitVec.toNat ≤ (L w 3).toBitVec.toNat at hle
  have h10 : ¬ ((1 : Int32) = 0) := by decide
  by_cases hs : (L w 2) = (L w 3)
  · have hs' : (vl_S L w).low = (vl_S L w).high := congrArg Int64.toBitVec hs
    unfold vb_cLeft
    rw [if_pos hs', vl_amt _ ht, show (vl_S L w).low = (L w 2).toBitVec from rfl]
    have h64 : (L w 2).toBitVec.toNat % (top + 1) < 64 := by rcases ht with ⟨_, rfl⟩ | ⟨_, rfl⟩ <;> omega
    generalize (L w 2).toBitVec.toNat % (top + 1) = s at h64 ⊢
    have s1 : ∀ u : Int64, (u <<< ((vl_I s).toInt64 &&& 63)).toBitVec = u.toBitVec <<< s := fun u => vl_shlI u h64
    have s2 : ∀ u : Int64, (u >>> ((vl_I s).toInt64 &&& 63)).toBitVec = u.toBitVec.sshiftRight s := fun u => vl_sshrI u h64
    have s3 : ∀ u : Int64, ((u.toUInt64 >>> ((vl_I s).toInt64.toUInt64 &&& Int64.toUInt64 63)).toInt64).toBitVec = u.toBitVec >>> s := fun u => vl_ushrI u h64
    have s4 : (jv_clowest (vl_I s)).toBitVec = vb_lowest s := vl_lowk (by omega)
    simp only [hs, not_true, if_false, if_true, h10, not_false_eq_true]
    clear hs hs' hb
    refine vl_eq ?_ (fun q i hq => ?_)
    · unfold vl_S
      try simp only [vl_lt0, vl_below_eq, vl_x3, vl_clesser, vl_clarger, vl_max, vl_min, vl_ite, Int64.toBitVec_add, Int64.toBitVec_sub, Int64.toBitVec_mul, Int64.toBitVec_and, Int64.toBitVec_xor, Int64.toBitVec_or, vl_x1, vl_zero, vl_one, vl_m1, vl_top, vl_most, vb_S.mask, vb_S.ones, vb_S.low, vb_S.high, vb_S.least, vb_S.greatest, s1, s2, s3, s4, vl_eqb]
      repeat' split
      all_goals simp_all only [vl_at, vl_n01, vl_n02, vl_n03, vl_n04, vl_n05, vl_n10, vl_n12, vl_n13, vl_n14, vl_n15, vl_n20, vl_n21, vl_n23, vl_n24, vl_n25, vl_n30, vl_n31, vl_n32, vl_n34, vl_n35, vl_n40, vl_n41, vl_n42, vl_n43, vl_n45, vl_n50, vl_n51, vl_n52, vl_n53, vl_n54, vl_lt0, vl_below_eq, vl_x3, vl_clesser, vl_clarger, vl_max, vl_min, vl_ite, Int64.toBitVec_add, Int64.toBitVec_sub, Int64.toBitVec_mul, Int64.toBitVec_and, Int64.toBitVec_xor, Int64.toBitVec_or, vl_x1, vl_zero, vl_one, vl_m1, vl_top, vl_most, Bool.false_and, Bool.and_false, Bool.true_and, Bool.and_true, Bool.not_eq_true, Bool.false_eq_true, Bool.true_eq_false, not_false_eq_true, not_true, ne_eq, decide_true, decide_false, Bool.true_or, Bool.or_true, Bool.false_or, Bool.or_false, Bool.not_true, Bool.not_false, s1, s2, s3, s4, Classical.not_not, vl_eqb, and_self, and_true, true_and, and_false, false_and]
    ·
      have o0 : ∀ (F : Nat → Nat → Int64) x, jv_u F o 0 x q i = F q i := fun F x => vl_out hq rfl
      have o1 : ∀ (F : Nat → Nat → Int64) x, jv_u F o 1 x q i = F q i := fun F x => vl_out hq rfl
      have o2 : ∀ (F : Nat → Nat → Int64) x, jv_u F o 2 x q i = F q i := fun F x => vl_out hq rfl
      have o3 : ∀ (F : Nat → Nat → Int64) x, jv_u F o 3 x q i = F q i := fun F x => vl_out hq rfl
      have o4 : ∀ (F : Nat → Nat → Int64) x, jv_u F o 4 x q i = F q i := fun F x => vl_out hq rfl
      have o5 : ∀ (F : Nat → Nat → Int64) x, jv_u F o 5 x q i = F q i := fun F x => vl_out hq rfl
      repeat' split
      all_goals simp only [o0, o1, o2, o3, o4, o5]
  · have hs' : ¬ (vl_S L w).low = (vl_S L w).high := fun h => hs (Int64.toBitVec_inj.mp h)
    unfold vb_cLeft
    rw [if_neg hs']
    simp only [hs, not_false_eq_true, if_true, not_true, if_false, hb]
    have b4 : jv_bits (((L x 0) &&& ((L x 1) ^^^ (-1 : Int64))) &&& ((((L x 0) ^^^ (-1 : Int64)) ||| (L x 1)) - (1 : Int64))) = vl_I (vb_tr ((vl_S L x).mask &&& ~~~(vl_S L x).ones)) := vl_bits_tr (by rw [BitVec.not_and, BitVec.not_not]; simp only [Int64.toBitVec_and, Int64.toBitVec_or, Int64.toBitVec_sub, vl_xor1, vl_one]; rfl)
    have l4 := vb_tr_le ((vl_S L x).mask &&& ~~~(vl_S L x).ones)
    have htop : top < 64 := by rcases ht with ⟨_, rfl⟩ | ⟨_, rfl⟩ <;> omega
    have e5 : (if ¬ top < (L w 3).toBitVec.toNat then (L w 2).toInt32 else (0 : Int32)) = vl_I (if top < (L w 3).toBitVec.toNat then 0 else (L w 2).toBitVec.toNat) := by
      by_cases h : top < (L w 3).toBitVec.toNat
      · rw [if_neg (fun h' => h' h), if_pos h]; rfl
      · rw [if_pos h, if_neg h]; exact vl_int_small rfl (by omega)
    have hk : (if top < (L w 3).toBitVec.toNat then 0 else (L w 2).toBitVec.toNat) < 64 := by split <;> omega
    rw [e5, b4]
    change _ = vl_set L o ⟨vb_lowest (min 64 (vb_tr ((vl_S L x).mask &&& ~~~(vl_S L x).ones) + if top < (L w 3).toBitVec.toNat then 0 else (L w 2).toBitVec.toNat)), 0, 0, vb_m1, vb_top_, vb_most⟩
    generalize (if top < (L w 3).toBitVec.toNat then 0 else (L w 2).toBitVec.toNat) = k at hk ⊢
    generalize vb_tr ((vl_S L x).mask &&& ~~~(vl_S L x).ones) = p at l4 ⊢
    rw [vl_I_add, show (64 : Int32) = vl_I 64 from by decide, vl_minI (by omega) (by omega)]
    have s4 : (jv_clowest (vl_I (min 64 (p + k)))).toBitVec = vb_lowest (min 64 (p + k)) := vl_lowk (by omega)
    clear b4 e5 hb
    refine vl_eq ?_ (fun q i hq => ?_)
    · unfold vl_S
      try simp only [vl_lt0, vl_below_eq, vl_x3, vl_clesser, vl_clarger, vl_max, vl_min, vl_ite, Int64.toBitVec_add, Int64.toBitVec_sub, Int64.toBitVec_mul, Int64.toBitVec_and, Int64.toBitVec_xor, Int64.toBitVec_or, vl_x1, vl_zero, vl_one, vl_m1, vl_top, vl_most, vb_S.mask, vb_S.ones, vb_S.low, vb_S.high, vb_S.least, vb_S.greatest]
      repeat' split
      all_goals simp_all only [vl_at, vl_n01, vl_n02, vl_n03, vl_n04, vl_n05, vl_n10, vl_n12, vl_n13, vl_n14, vl_n15, vl_n20, vl_n21, vl_n23, vl_n24, vl_n25, vl_n30, vl_n31, vl_n32, vl_n34, vl_n35, vl_n40, vl_n41, vl_n42, vl_n43, vl_n45, vl_n50, vl_n51, vl_n52, vl_n53, vl_n54, vl_lt0, vl_below_eq, vl_x3, vl_clesser, vl_clarger, vl_max, vl_min, vl_ite, Int64.toBitVec_add, Int64.toBitVec_sub, Int64.toBitVec_mul, Int64.toBitVec_and, Int64.toBitVec_xor, Int64.toBitVec_or, vl_x1, vl_zero, vl_one, vl_m1, vl_top, vl_most, Bool.false_and, Bool.and_false, Bool.true_and, Bool.and_true, Bool.not_eq_true, Bool.false_eq_true, Bool.true_eq_false, not_false_eq_true, not_true, ne_eq, decide_true, decide_false, Bool.true_or, Bool.or_true, Bool.false_or, Bool.or_false, Bool.not_true, Bool.not_false, vl_eqb]
    ·
      have o0 : ∀ (F : Nat → Nat → Int64) x, jv_u F o 0 x q i = F q i := fun F x => vl_out hq rfl
      have o1 : ∀ (F : Nat → Nat → Int64) x, jv_u F o 1 x q i = F q i := fun F x => vl_out hq rfl
      have o2 : ∀ (F : Nat → Nat → Int64) x, jv_u F o 2 x q i = F q i := fun F x => vl_out hq rfl
      have o3 : ∀ (F : Nat → Nat → Int64) x, jv_u F o 3 x q i = F q i := fun F x => vl_out hq rfl
      have o4 : ∀ (F : Nat → Nat → Int64) x, jv_u F o 4 x q i = F q i := fun F x => vl_out hq rfl
      have o5 : ∀ (F : Nat → Nat → Int64) x, jv_u F o 5 x q i = F q i := fun F x => vl_out hq rfl
      repeat' split
      all_goals simp only [o0, o1, o2, o3, o4, o5]

theorem vl_sayRight {K : Nat → Option (Nat × Nat)} {I : Nat → Nat → Int32} {L : Nat → Nat → Int64} {R : Nat → Nat → Value} {o x w : Nat} (ho : jv_isV K o) (hx : jv_isV K x) (hw : jv_isV K w) (h1 : o ≠ x) (h2 : o ≠ w) (ha : vl_S L o = vb_any) {t : Int32} {top : Nat} (ht : (t = 63 ∧ top = 63) ∨ (t = 31 ∧ top = 31)) (hle : (vl_S L w).low.toNat ≤ (vl_S L w).high.toNat) {n sl : Nat} :
    jv_Ms 168 [.ref o, .ref x, .ref w, .int t] (jv_H K I L R) n sl (none, jv_H K I (vl_set L o (vb_cRight (vl_S L x) (vl_S L w) top)) R, n, sl) := by
  have H := jv_s168 (L := L) (I := I) (R := R) (n := n) (sl := sl) o x w t ho hx hw h1 h2 _ rfl _ rfl _ rfl _ rfl _ rfl _ rfl _ rfl _ rfl
  refine (congrArg (fun Z => jv_Ms 168 [.ref o, .ref x, .ref w, .int t] (jv_H K I L R) n sl (none, jv_H K I Z R, n, sl)) ?_).mp H
  clear H
  have a0 : (L o 0).toBitVec = 0 := congrArg vb_S.mask ha
  have a1 : (L o 1).toBitVec = 0 := congrArg vb_S.ones ha
  have a2 : (L o 2).toBitVec = 0 := congrArg vb_S.low ha
  have a3 : (L o 3).toBitVec = vb_m1 := congrArg vb_S.high ha
  have a4 : (L o 4).toBitVec = vb_top_ := congrArg vb_S.least ha
  have a5 : (L o 5).toBitVec = vb_most := congrArg vb_S.greatest ha
  have hb : (jv_cbelow t.toInt64 (L w 3) = 0) ↔ ¬ top < (L w 3).toBitVec.toNat := by
    have e : t.toInt64.toBitVec.toNat = top := by rcases ht with ⟨rfl, rfl⟩ | ⟨rfl, rfl⟩ <;> decide
    have d : (t.toInt64.toBitVec < (L w 3).toBitVec) ↔ top < (L w 3).toBitVec.toNat := by rw [BitVec.lt_def, e]
    rw [vl_below]
    by_cases h : top < (L w 3).toBitVec.toNat
    · rw [if_pos (d.mpr h)]; exact ⟨fun h' => absurd h' (by decide), fun h' => absurd h h'⟩
    · rw [if_neg (fun h' => h (d.mp h'))]; exact ⟨fun _ => h, fun _ => rfl⟩
  change (L w 2).toBitVec.toNat ≤ (L w 3).toBitVec.toNat at hle
  have h10 : ¬ ((1 : Int32) = 0) := by decide
  by_cases hs : (L w 2) = (L w 3)
  · have hs' : (vl_S L w).low = (vl_S L w).high := congrArg Int64.toBitVec hs
    unfold vb_cRight
    rw [if_pos hs', vl_amt _ ht, show (vl_S L w).low = (L w 2).toBitVec from rfl]
    have h64 : (L w 2).toBitVec.toNat % (top + 1) < 64 := by rcases ht with ⟨_, rfl⟩ | ⟨_, rfl⟩ <;> omega
    generalize (L w 2).toBitVec.toNat % (top + 1) = s at h64 ⊢
    have s1 : ∀ u : Int64, (u <<< ((vl_I s).toInt64 &&& 63)).toBitVec = u.toBitVec <<< s := fun u => vl_shlI u h64
    have s2 : ∀ u : Int64, (u >>> ((vl_I s).toInt64 &&& 63)).toBitVec = u.toBitVec.sshiftRight s := fun u => vl_sshrI u h64
    have s3 : ∀ u : Int64, ((u.toUInt64 >>> ((vl_I s).toInt64.toUInt64 &&& Int64.toUInt64 63)).toInt64).toBitVec = u.toBitVec >>> s := fun u => vl_ushrI u h64
    have s4 : (jv_clowest (vl_I s)).toBitVec = vb_lowest s := vl_lowk (by omega)
    simp only [hs, not_true, if_false, if_true, h10, not_false_eq_true, ite_true, ite_false]
    clear hs hs' hb
    refine vl_eq ?_ (fun q i hq => ?_)
    · unfold vl_S
      try simp only [vl_lt0, vl_below_eq, vl_x3, vl_clesser, vl_clarger, vl_max, vl_min, vl_ite, Int64.toBitVec_add, Int64.toBitVec_sub, Int64.toBitVec_mul, Int64.toBitVec_and, Int64.toBitVec_xor, Int64.toBitVec_or, vl_x1, vl_zero, vl_one, vl_m1, vl_top, vl_most, vb_S.mask, vb_S.ones, vb_S.low, vb_S.high, vb_S.least, vb_S.greatest, s1, s2, s3, s4, vl_eqb]
      repeat' split
      all_goals simp_all only [vl_at, vl_n01, vl_n02, vl_n03, vl_n04, vl_n05, vl_n10, vl_n12, vl_n13, vl_n14, vl_n15, vl_n20, vl_n21, vl_n23, vl_n24, vl_n25, vl_n30, vl_n31, vl_n32, vl_n34, vl_n35, vl_n40, vl_n41, vl_n42, vl_n43, vl_n45, vl_n50, vl_n51, vl_n52, vl_n53, vl_n54, vl_lt0, vl_below_eq, vl_x3, vl_clesser, vl_clarger, vl_max, vl_min, vl_ite, Int64.toBitVec_add, Int64.toBitVec_sub, Int64.toBitVec_mul, Int64.toBitVec_and, Int64.toBitVec_xor, Int64.toBitVec_or, vl_x1, vl_zero, vl_one, vl_m1, vl_top, vl_most, Bool.false_and, Bool.and_false, Bool.true_and, Bool.and_true, Bool.not_eq_true, Bool.false_eq_true, Bool.true_eq_false, not_false_eq_true, not_true, ne_eq, decide_true, decide_false, Bool.true_or, Bool.or_true, Bool.false_or, Bool.or_false, Bool.not_true, Bool.not_false, s1, s2, s3, s4, Classical.not_not, vl_eqb, and_self, and_true, true_and, and_false, false_and]
    ·
      have o0 : ∀ (F : Nat → Nat → Int64) x, jv_u F o 0 x q i = F q i := fun F x => vl_out hq rfl
      have o1 : ∀ (F : Nat → Nat → Int64) x, jv_u F o 1 x q i = F q i := fun F x => vl_out hq rfl
      have o2 : ∀ (F : Nat → Nat → Int64) x, jv_u F o 2 x q i = F q i := fun F x => vl_out hq rfl
      have o3 : ∀ (F : Nat → Nat → Int64) x, jv_u F o 3 x q i = F q i := fun F x => vl_out hq rfl
      have o4 : ∀ (F : Nat → Nat → Int64) x, jv_u F o 4 x q i = F q i := fun F x => vl_out hq rfl
      have o5 : ∀ (F : Nat → Nat → Int64) x, jv_u F o 5 x q i = F q i := fun F x => vl_out hq rfl
      repeat' split
      all_goals simp only [o0, o1, o2, o3, o4, o5]
  · have hs' : ¬ (vl_S L w).low = (vl_S L w).high := fun h => hs (Int64.toBitVec_inj.mp h)
    unfold vb_cRight
    rw [if_neg hs']
    simp only [hs, not_false_eq_true, if_true, not_true, if_false, hb]
    have htop : top < 64 := by rcases ht with ⟨_, rfl⟩ | ⟨_, rfl⟩ <;> omega
    have et : t = vl_I top := by rcases ht with ⟨rfl, rfl⟩ | ⟨rfl, rfl⟩ <;> decide
    have e5 : (if ¬ top < (L w 3).toBitVec.toNat then (L w 2).toInt32 else (0 : Int32)) = vl_I (if top < (L w 3).toBitVec.toNat then 0 else (L w 2).toBitVec.toNat) := by
      by_cases h : top < (L w 3).toBitVec.toNat
      · rw [if_neg (fun h' => h' h), if_pos h]; rfl
      · rw [if_pos h, if_neg h]; exact vl_int_small rfl (by omega)
    have e6 : (if ¬ top < (L w 3).toBitVec.toNat then (L w 3).toInt32 else t) = vl_I (if top < (L w 3).toBitVec.toNat then top else (L w 3).toBitVec.toNat) := by
      by_cases h : top < (L w 3).toBitVec.toNat
      · rw [if_neg (fun h' => h' h), if_pos h]; exact et
      · rw [if_pos h, if_neg h]; exact vl_int_small rfl (by omega)
    have hk : (if top < (L w 3).toBitVec.toNat then 0 else (L w 2).toBitVec.toNat) < 64 := by split <;> omega
    have hk2 : (if top < (L w 3).toBitVec.toNat then top else (L w 3).toBitVec.toNat) < 64 := by split <;> omega
    rw [e5, e6, show (vl_S L w).low = (L w 2).toBitVec from rfl, show (vl_S L w).high = (L w 3).toBitVec from rfl]
    generalize (if top < (L w 3).toBitVec.toNat then 0 else (L w 2).toBitVec.toNat) = k at hk ⊢
    generalize (if top < (L w 3).toBitVec.toNat then top else (L w 3).toBitVec.toNat) = k2 at hk2 ⊢
    have s1 : ∀ u : Int64, (u >>> ((vl_I k).toInt64 &&& 63)).toBitVec = u.toBitVec.sshiftRight k := fun u => vl_sshrI u hk
    have s2 : ∀ u : Int64, (u >>> ((vl_I k2).toInt64 &&& 63)).toBitVec = u.toBitVec.sshiftRight k2 := fun u => vl_sshrI u hk2
    have s3 : ∀ u : Int64, ((u.toUInt64 >>> ((vl_I k).toInt64.toUInt64 &&& Int64.toUInt64 63)).toInt64).toBitVec = u.toBitVec >>> k := fun u => vl_ushrI u hk
    have s4 : ∀ u : Int64, ((u.toUInt64 >>> ((vl_I k2).toInt64.toUInt64 &&& Int64.toUInt64 63)).toInt64).toBitVec = u.toBitVec >>> k2 := fun u => vl_ushrI u hk2
    clear e5 e6 hb
    refine vl_eq ?_ (fun q i hq => ?_)
    · unfold vl_S
      try simp only [s1, s2, s3, s4, vl_lt0, vl_below_eq, vl_x3, vl_clesser, vl_clarger, vl_max, vl_min, vl_ite, Int64.toBitVec_add, Int64.toBitVec_sub, Int64.toBitVec_mul, Int64.toBitVec_and, Int64.toBitVec_xor, Int64.toBitVec_or, vl_x1, vl_zero, vl_one, vl_m1, vl_top, vl_most, vb_S.mask, vb_S.ones, vb_S.low, vb_S.high, vb_S.least, vb_S.greatest]
      repeat' split
      all_goals simp_all only [s1, s2, s3, s4, vl_at, vl_n01, vl_n02, vl_n03, vl_n04, vl_n05, vl_n10, vl_n12, vl_n13, vl_n14, vl_n15, vl_n20, vl_n21, vl_n23, vl_n24, vl_n25, vl_n30, vl_n31, vl_n32, vl_n34, vl_n35, vl_n40, vl_n41, vl_n42, vl_n43, vl_n45, vl_n50, vl_n51, vl_n52, vl_n53, vl_n54, vl_lt0, vl_below_eq, vl_x3, vl_clesser, vl_clarger, vl_max, vl_min, vl_ite, Int64.toBitVec_add, Int64.toBitVec_sub, Int64.toBitVec_mul, Int64.toBitVec_and, Int64.toBitVec_xor, Int64.toBitVec_or, vl_x1, vl_zero, vl_one, vl_m1, vl_top, vl_most, Bool.false_and, Bool.and_false, Bool.true_and, Bool.and_true, Bool.not_eq_true, Bool.false_eq_true, Bool.true_eq_false, not_false_eq_true, not_true, ne_eq, decide_true, decide_false, Bool.true_or, Bool.or_true, Bool.false_or, Bool.or_false, Bool.not_true, Bool.not_false, vl_eqb]
    ·
      have o0 : ∀ (F : Nat → Nat → Int64) x, jv_u F o 0 x q i = F q i := fun F x => vl_out hq rfl
      have o1 : ∀ (F : Nat → Nat → Int64) x, jv_u F o 1 x q i = F q i := fun F x => vl_out hq rfl
      have o2 : ∀ (F : Nat → Nat → Int64) x, jv_u F o 2 x q i = F q i := fun F x => vl_out hq rfl
      have o3 : ∀ (F : Nat → Nat → Int64) x, jv_u F o 3 x q i = F q i := fun F x => vl_out hq rfl
      have o4 : ∀ (F : Nat → Nat → Int64) x, jv_u F o 4 x q i = F q i := fun F x => vl_out hq rfl
      have o5 : ∀ (F : Nat → Nat → Int64) x, jv_u F o 5 x q i = F q i := fun F x => vl_out hq rfl
      repeat' split
      all_goals simp only [o0, o1, o2, o3, o4, o5]

theorem vl_saySRight {K : Nat → Option (Nat × Nat)} {I : Nat → Nat → Int32} {L : Nat → Nat → Int64} {R : Nat → Nat → Value} {o x w : Nat} (ho : jv_isV K o) (hx : jv_isV K x) (hw : jv_isV K w) (h1 : o ≠ x) (h2 : o ≠ w) (ha : vl_S L o = vb_any) {t : Int32} {top : Nat} (ht : (t = 63 ∧ top = 63) ∨ (t = 31 ∧ top = 31)) (hle : (vl_S L w).low.toNat ≤ (vl_S L w).high.toNat) {n sl : Nat} :
    jv_Ms 169 [.ref o, .ref x, .ref w, .int t] (jv_H K I L R) n sl (none, jv_H K I (vl_set L o (vb_cSRight (vl_S L x) (vl_S L w) top)) R, n, sl) := by
  have H := jv_s169 (L := L) (I := I) (R := R) (n := n) (sl := sl) o x w t ho hx hw h1 h2 _ rfl _ rfl _ rfl _ rfl
  refine (congrArg (fun Z => jv_Ms 169 [.ref o, .ref x, .ref w, .int t] (jv_H K I L R) n sl (none, jv_H K I Z R, n, sl)) ?_).mp H
  clear H
  have a0 : (L o 0).toBitVec = 0 := congrArg vb_S.mask ha
  have a1 : (L o 1).toBitVec = 0 := congrArg vb_S.ones ha
  have a2 : (L o 2).toBitVec = 0 := congrArg vb_S.low ha
  have a3 : (L o 3).toBitVec = vb_m1 := congrArg vb_S.high ha
  have a4 : (L o 4).toBitVec = vb_top_ := congrArg vb_S.least ha
  have a5 : (L o 5).toBitVec = vb_most := congrArg vb_S.greatest ha
  have hb : (jv_cbelow t.toInt64 (L w 3) = 0) ↔ ¬ top < (L w 3).toBitVec.toNat := by
    have e : t.toInt64.toBitVec.toNat = top := by rcases ht with ⟨rfl, rfl⟩ | ⟨rfl, rfl⟩ <;> decide
    have d : (t.toInt64.toBitVec < (L w 3).toBitVec) ↔ top < (L w 3).toBitVec.toNat := by rw [BitVec.lt_def, e]
    rw [vl_below]
    by_cases h : top < (L w 3).toBitVec.toNat
    · rw [if_pos (d.mpr h)]; exact ⟨fun h' => absurd h' (by decide), fun h' => absurd h h'⟩
    · rw [if_neg (fun h' => h (d.mp h'))]; exact ⟨fun _ => h, fun _ => rfl⟩
  change (L w 2).toBitVec.toNat ≤ (L w 3).toBitVec.toNat at hle
  have h10 : ¬ ((1 : Int32) = 0) := by decide
  by_cases hs : (L w 2) = (L w 3)
  · have hs' : (vl_S L w).low = (vl_S L w).high := congrArg Int64.toBitVec hs
    unfold vb_cSRight
    rw [if_pos hs', vl_amt _ ht, show (vl_S L w).low = (L w 2).toBitVec from rfl]
    have h64 : (L w 2).toBitVec.toNat % (top + 1) < 64 := by rcases ht with ⟨_, rfl⟩ | ⟨_, rfl⟩ <;> omega
    generalize (L w 2).toBitVec.toNat % (top + 1) = s at h64 ⊢
    have s1 : ∀ u : Int64, (u <<< ((vl_I s).toInt64 &&& 63)).toBitVec = u.toBitVec <<< s := fun u => vl_shlI u h64
    have s2 : ∀ u : Int64, (u >>> ((vl_I s).toInt64 &&& 63)).toBitVec = u.toBitVec.sshiftRight s := fun u => vl_sshrI u h64
    have s3 : ∀ u : Int64, ((u.toUInt64 >>> ((vl_I s).toInt64.toUInt64 &&& Int64.toUInt64 63)).toInt64).toBitVec = u.toBitVec >>> s := fun u => vl_ushrI u h64
    have s4 : (jv_clowest (vl_I s)).toBitVec = vb_lowest s := vl_lowk (by omega)
    simp only [hs, not_true, if_false, if_true, h10, not_false_eq_true, ite_true, ite_false]
    clear hs hs' hb
    refine vl_eq ?_ (fun q i hq => ?_)
    · unfold vl_S
      try simp only [vl_lt0, vl_below_eq, vl_x3, vl_clesser, vl_clarger, vl_max, vl_min, vl_ite, Int64.toBitVec_add, Int64.toBitVec_sub, Int64.toBitVec_mul, Int64.toBitVec_and, Int64.toBitVec_xor, Int64.toBitVec_or, vl_x1, vl_zero, vl_one, vl_m1, vl_top, vl_most, vb_S.mask, vb_S.ones, vb_S.low, vb_S.high, vb_S.least, vb_S.greatest, s1, s2, s3, s4, vl_eqb]
      repeat' split
      all_goals simp_all only [vl_at, vl_n01, vl_n02, vl_n03, vl_n04, vl_n05, vl_n10, vl_n12, vl_n13, vl_n14, vl_n15, vl_n20, vl_n21, vl_n23, vl_n24, vl_n25, vl_n30, vl_n31, vl_n32, vl_n34, vl_n35, vl_n40, vl_n41, vl_n42, vl_n43, vl_n45, vl_n50, vl_n51, vl_n52, vl_n53, vl_n54, vl_lt0, vl_below_eq, vl_x3, vl_clesser, vl_clarger, vl_max, vl_min, vl_ite, Int64.toBitVec_add, Int64.toBitVec_sub, Int64.toBitVec_mul, Int64.toBitVec_and, Int64.toBitVec_xor, Int64.toBitVec_or, vl_x1, vl_zero, vl_one, vl_m1, vl_top, vl_most, Bool.false_and, Bool.and_false, Bool.true_and, Bool.and_true, Bool.not_eq_true, Bool.false_eq_true, Bool.true_eq_false, not_false_eq_true, not_true, ne_eq, decide_true, decide_false, Bool.true_or, Bool.or_true, Bool.false_or, Bool.or_false, Bool.not_true, Bool.not_false, s1, s2, s3, s4, Classical.not_not, vl_eqb, and_self, and_true, true_and, and_false, false_and]
    ·
      have o0 : ∀ (F : Nat → Nat → Int64) x, jv_u F o 0 x q i = F q i := fun F x => vl_out hq rfl
      have o1 : ∀ (F : Nat → Nat → Int64) x, jv_u F o 1 x q i = F q i := fun F x => vl_out hq rfl
      have o2 : ∀ (F : Nat → Nat → Int64) x, jv_u F o 2 x q i = F q i := fun F x => vl_out hq rfl
      have o3 : ∀ (F : Nat → Nat → Int64) x, jv_u F o 3 x q i = F q i := fun F x => vl_out hq rfl
      have o4 : ∀ (F : Nat → Nat → Int64) x, jv_u F o 4 x q i = F q i := fun F x => vl_out hq rfl
      have o5 : ∀ (F : Nat → Nat → Int64) x, jv_u F o 5 x q i = F q i := fun F x => vl_out hq rfl
      repeat' split
      all_goals simp only [o0, o1, o2, o3, o4, o5]
  · have hs' : ¬ (vl_S L w).low = (vl_S L w).high := fun h => hs (Int64.toBitVec_inj.mp h)
    unfold vb_cSRight
    rw [if_neg hs']
    simp only [hs, not_false_eq_true, if_true, not_true, if_false, hb]
    have htop : top < 64 := by rcases ht with ⟨_, rfl⟩ | ⟨_, rfl⟩ <;> omega
    have et : t = vl_I top := by rcases ht with ⟨rfl, rfl⟩ | ⟨rfl, rfl⟩ <;> decide
    have e5 : (if ¬ top < (L w 3).toBitVec.toNat then (L w 2).toInt32 else (0 : Int32)) = vl_I (if top < (L w 3).toBitVec.toNat then 0 else (L w 2).toBitVec.toNat) := by
      by_cases h : top < (L w 3).toBitVec.toNat
      · rw [if_neg (fun h' => h' h), if_pos h]; rfl
      · rw [if_pos h, if_neg h]; exact vl_int_small rfl (by omega)
    have e6 : (if ¬ top < (L w 3).toBitVec.toNat then (L w 3).toInt32 else t) = vl_I (if top < (L w 3).toBitVec.toNat then top else (L w 3).toBitVec.toNat) := by
      by_cases h : top < (L w 3).toBitVec.toNat
      · rw [if_neg (fun h' => h' h), if_pos h]; exact et
      · rw [if_pos h, if_neg h]; exact vl_int_small rfl (by omega)
    have hk : (if top < (L w 3).toBitVec.toNat then 0 else (L w 2).toBitVec.toNat) < 64 := by split <;> omega
    have hk2 : (if top < (L w 3).toBitVec.toNat then top else (L w 3).toBitVec.toNat) < 64 := by split <;> omega
    rw [e5, e6, show (vl_S L w).low = (L w 2).toBitVec from rfl, show (vl_S L w).high = (L w 3).toBitVec from rfl]
    generalize (if top < (L w 3).toBitVec.toNat then 0 else (L w 2).toBitVec.toNat) = k at hk ⊢
    generalize (if top < (L w 3).toBitVec.toNat then top else (L w 3).toBitVec.toNat) = k2 at hk2 ⊢
    have s1 : ∀ u : Int64, (u >>> ((vl_I k).toInt64 &&& 63)).toBitVec = u.toBitVec.sshiftRight k := fun u => vl_sshrI u hk
    have s2 : ∀ u : Int64, (u >>> ((vl_I k2).toInt64 &&& 63)).toBitVec = u.toBitVec.sshiftRight k2 := fun u => vl_sshrI u hk2
    have s3 : ∀ u : Int64, ((u.toUInt64 >>> ((vl_I k).toInt64.toUInt64 &&& Int64.toUInt64 63)).toInt64).toBitVec = u.toBitVec >>> k := fun u => vl_ushrI u hk
    have s4 : ∀ u : Int64, ((u.toUInt64 >>> ((vl_I k2).toInt64.toUInt64 &&& Int64.toUInt64 63)).toInt64).toBitVec = u.toBitVec >>> k2 := fun u => vl_ushrI u hk2
    clear e5 e6 hb
    generalize g1 : (if (L x 4) >>> ((vl_I k2).toInt64 &&& 63) < (L x 4) >>> ((vl_I k).toInt64 &&& 63) then (L x 4) >>> ((vl_I k2).toInt64 &&& 63) else (L x 4) >>> ((vl_I k).toInt64 &&& 63)) = w1
    generalize g2 : (if (L x 5) >>> ((vl_I k2).toInt64 &&& 63) < (L x 5) >>> ((vl_I k).toInt64 &&& 63) then (L x 5) >>> ((vl_I k).toInt64 &&& 63) else (L x 5) >>> ((vl_I k2).toInt64 &&& 63)) = w2
    have f1 : w1.toBitVec = vb_smin ((L x 4).toBitVec.sshiftRight k) ((L x 4).toBitVec.sshiftRight k2) := by rw [← g1, vl_min, s1, s2]
    have f2 : w2.toBitVec = vb_smax ((L x 5).toBitVec.sshiftRight k) ((L x 5).toBitVec.sshiftRight k2) := by rw [← g2, vl_max, s1, s2]
    clear g1 g2
    refine vl_eq ?_ (fun q i hq => ?_)
    · unfold vl_S
      try simp only [s1, s2, s3, s4, vl_lt0, vl_below_eq, vl_x3, vl_clesser, vl_clarger, vl_max, vl_min, vl_ite, Int64.toBitVec_add, Int64.toBitVec_sub, Int64.toBitVec_mul, Int64.toBitVec_and, Int64.toBitVec_xor, Int64.toBitVec_or, vl_x1, vl_zero, vl_one, vl_m1, vl_top, vl_most, vb_S.mask, vb_S.ones, vb_S.low, vb_S.high, vb_S.least, vb_S.greatest]
      repeat' split
      all_goals simp_all only [s1, s2, s3, s4, vl_at, vl_n01, vl_n02, vl_n03, vl_n04, vl_n05, vl_n10, vl_n12, vl_n13, vl_n14, vl_n15, vl_n20, vl_n21, vl_n23, vl_n24, vl_n25, vl_n30, vl_n31, vl_n32, vl_n34, vl_n35, vl_n40, vl_n41, vl_n42, vl_n43, vl_n45, vl_n50, vl_n51, vl_n52, vl_n53, vl_n54, vl_lt0, vl_below_eq, vl_x3, vl_clesser, vl_clarger, vl_max, vl_min, vl_ite, Int64.toBitVec_add, Int64.toBitVec_sub, Int64.toBitVec_mul, Int64.toBitVec_and, Int64.toBitVec_xor, Int64.toBitVec_or, vl_x1, vl_zero, vl_one, vl_m1, vl_top, vl_most, Bool.false_and, Bool.and_false, Bool.true_and, Bool.and_true, Bool.not_eq_true, Bool.false_eq_true, Bool.true_eq_false, not_false_eq_true, not_true, ne_eq, decide_true, decide_false, Bool.true_or, Bool.or_true, Bool.false_or, Bool.or_false, Bool.not_true, Bool.not_false, vl_eqb]
    ·
      have o0 : ∀ (F : Nat → Nat → Int64) x, jv_u F o 0 x q i = F q i := fun F x => vl_out hq rfl
      have o1 : ∀ (F : Nat → Nat → Int64) x, jv_u F o 1 x q i = F q i := fun F x => vl_out hq rfl
      have o2 : ∀ (F : Nat → Nat → Int64) x, jv_u F o 2 x q i = F q i := fun F x => vl_out hq rfl
      have o3 : ∀ (F : Nat → Nat → Int64) x, jv_u F o 3 x q i = F q i := fun F x => vl_out hq rfl
      have o4 : ∀ (F : Nat → Nat → Int64) x, jv_u F o 4 x q i = F q i := fun F x => vl_out hq rfl
      have o5 : ∀ (F : Nat → Nat → Int64) x, jv_u F o 5 x q i = F q i := fun F x => vl_out hq rfl
      repeat' split
      all_goals simp only [o0, o1, o2, o3, o4, o5]
