/-! part a03: what the operations on rows leave (gen/gla.py) -/
theorem vr_not0 : ~~~(0 : BitVec 64) = vb_m1 := by decide
theorem vr_bel (a b : Int64) : (jv_rbelow a b = 0) ↔ ¬ a.toBitVec < b.toBitVec := vr_below a b
theorem vr_bel01 (a b : Int64) : jv_rbelow a b = if a.toBitVec < b.toBitVec then 1 else 0 := by
  have h := vr_below a b
  have h2 := jv_rbelow_b a b
  by_cases c : a.toBitVec < b.toBitVec
  · rw [if_pos c]
    rcases h2 with h2 | h2
    · exact absurd c (h.mp h2)
    · exact h2
  · rw [if_neg c]; exact h.mpr c
theorem vr_bel2 (a b c d : Int64) : (jv_rbelow a b = jv_rbelow c d) ↔ (decide (a.toBitVec < b.toBitVec) == decide (c.toBitVec < d.toBitVec)) = true := by
  rw [vr_bel01, vr_bel01]
  by_cases h : a.toBitVec < b.toBitVec <;> by_cases h2 : c.toBitVec < d.toBitVec <;> simp [h, h2]
theorem vr_bel3 (a b : Int64) : (0 = jv_rbelow a b) ↔ ¬ a.toBitVec < b.toBitVec := ⟨fun h => (vr_below a b).mp h.symm, fun h => ((vr_below a b).mpr h).symm⟩
theorem vr_sgn (a : Int64) : (if (0 : Int64) ≤ a then (0 : Int32) else 1) = if a.toBitVec.slt 0 = true then 1 else 0 := by
  have h := vl_sle0 a
  have h2 := @vl_nlt a.toBitVec 0
  by_cases c : (0 : BitVec 64).sle a.toBitVec = true
  · rw [if_pos (h.mpr c), if_neg (by rw [h2, c]; decide)]
  · rw [if_neg (fun z => c (h.mp z)), if_pos (by rw [h2]; simpa using c)]
theorem vr_sumL (a b : Int64) : (jv_rsumIsLong a b = 0) ↔ ¬ vb_sumIsLong a.toBitVec b.toBitVec = true := by
  unfold jv_rsumIsLong vb_sumIsLong
  dsimp only
  rw [vr_sgn, vr_sgn, vr_sgn, Int64.toBitVec_add]
  cases a.toBitVec.slt 0 <;> cases b.toBitVec.slt 0 <;> cases (a.toBitVec + b.toBitVec).slt 0 <;> decide
theorem vr_difL (a b : Int64) : (jv_rdifferenceIsLong a b = 0) ↔ ¬ vb_difIsLong a.toBitVec b.toBitVec = true := by
  unfold jv_rdifferenceIsLong vb_difIsLong
  dsimp only
  rw [vr_sgn, vr_sgn, vr_sgn, Int64.toBitVec_sub]
  cases a.toBitVec.slt 0 <;> cases b.toBitVec.slt 0 <;> cases (a.toBitVec - b.toBitVec).slt 0 <;> decide
theorem vr_andq (a b c d : BitVec 64) : ~~~(~~~(a ||| b) ||| ~~~(c ||| d)) &&& ~~~(a &&& c) = ~~~((a &&& c) ||| (~~~b &&& ~~~a) ||| (~~~d &&& ~~~c)) := BitVec.eq_of_getLsbD_eq (fun k hk => by
  simp only [BitVec.getLsbD_and, BitVec.getLsbD_or, BitVec.getLsbD_not, hk, decide_true, Bool.true_and]
  cases a.getLsbD k <;> cases b.getLsbD k <;> cases c.getLsbD k <;> cases d.getLsbD k <;> rfl)
theorem vr_orq (a b c d : BitVec 64) : (b ||| d) &&& ~~~(a ||| c) = ~~~((a ||| c) ||| ((~~~b &&& ~~~a) &&& (~~~d &&& ~~~c))) := BitVec.eq_of_getLsbD_eq (fun k hk => by
  simp only [BitVec.getLsbD_and, BitVec.getLsbD_or, BitVec.getLsbD_not, hk, decide_true, Bool.true_and]
  cases a.getLsbD k <;> cases b.getLsbD k <;> cases c.getLsbD k <;> cases d.getLsbD k <;> rfl)
theorem vr_xorq (b d : BitVec 64) : b ||| d = ~~~(~~~b &&& ~~~d) := BitVec.eq_of_getLsbD_eq (fun k hk => by
  simp only [BitVec.getLsbD_and, BitVec.getLsbD_or, BitVec.getLsbD_not, hk, decide_true, Bool.true_and]
  cases b.getLsbD k <;> cases d.getLsbD k <;> rfl)
theorem vr_xorq2 (b d : BitVec 64) : ~~~(b ||| d) = ~~~b &&& ~~~d := BitVec.eq_of_getLsbD_eq (fun k hk => by
  simp only [BitVec.getLsbD_and, BitVec.getLsbD_or, BitVec.getLsbD_not, hk, decide_true, Bool.true_and]
  cases b.getLsbD k <;> cases d.getLsbD k <;> rfl)

theorem vr_divide {K : Nat → Option (Nat × Nat)} {I : Nat → Nat → Int32} {L : Nat → Nat → Int64} {R : Nat → Nat → Value} (hW : jv_rW K R) (ha : vr_S L 2 = vb_rany) {n sl : Nat} :
    jv_Ms 230 [.ref 208] (jv_H K I L R) n sl (none, jv_H K I (vr_set L 2 (vb_toR (vb_cDiv (vb_toS (vr_S L 0)) (vb_toS (vr_S L 1))))) R, n, sl) := by
  have H := jv_s230 (L := L) (I := I) (R := R) (n := n) (sl := sl) hW
  refine (congrArg (fun Z => jv_Ms 230 [.ref 208] (jv_H K I L R) n sl (none, jv_H K I Z R, n, sl)) ?_).mp H
  clear H
  have a209 : (L 209 2).toBitVec = 0 := congrArg vb_R.bits ha
  have a210 : (L 210 2).toBitVec = vb_m1 := congrArg vb_R.opn ha
  have a211 : (L 211 2).toBitVec = 0 := congrArg vb_R.low ha
  have a212 : (L 212 2).toBitVec = vb_m1 := congrArg vb_R.high ha
  have a213 : (L 213 2).toBitVec = vb_top_ := congrArg vb_R.least ha
  have a214 : (L 214 2).toBitVec = vb_most := congrArg vb_R.greatest ha
  refine vr_eq (vb_R_ext ?_ ?_ ?_ ?_ ?_ ?_) (fun q i hq => ?_)
  case refine_7 =>
    have o209 : ∀ (F : Nat → Nat → Int64) x, jv_u F 209 2 x q i = F q i := fun F x => vr_out hq rfl
    have o210 : ∀ (F : Nat → Nat → Int64) x, jv_u F 210 2 x q i = F q i := fun F x => vr_out hq rfl
    have o211 : ∀ (F : Nat → Nat → Int64) x, jv_u F 211 2 x q i = F q i := fun F x => vr_out hq rfl
    have o212 : ∀ (F : Nat → Nat → Int64) x, jv_u F 212 2 x q i = F q i := fun F x => vr_out hq rfl
    have o213 : ∀ (F : Nat → Nat → Int64) x, jv_u F 213 2 x q i = F q i := fun F x => vr_out hq rfl
    have o214 : ∀ (F : Nat → Nat → Int64) x, jv_u F 214 2 x q i = F q i := fun F x => vr_out hq rfl
    repeat' split
    all_goals simp only [o209, o210, o211, o212, o213, o214, vr_set_out hq]
  all_goals simp only [vr_S, vb_toR, vb_toS, vb_cDiv, vb_S.mask, vb_S.ones, vb_S.low, vb_S.high, vb_S.least, vb_S.greatest, vb_R.bits, vb_R.opn, vb_R.low, vb_R.high, vb_R.least, vb_R.greatest]
  all_goals try simp only [vr_bel, vr_lesser, vr_larger, vr_quot, vr_fits, vr_isLong, vr_sumL, vr_difL, vl_max, vl_min, vl_ite, vr_to, Int64.toBitVec_add, Int64.toBitVec_sub, Int64.toBitVec_mul, Int64.toBitVec_and, Int64.toBitVec_xor, Int64.toBitVec_or, vl_x1, vl_x3, vl_zero, vl_one, vl_m1, vl_top, vl_most, vl_eqb]
  all_goals repeat' split
  all_goals try simp_all only [vl_at, vr_n209_210, vr_n209_211, vr_n209_212, vr_n209_213, vr_n209_214, vr_n210_209, vr_n210_211, vr_n210_212, vr_n210_213, vr_n210_214, vr_n211_209, vr_n211_210, vr_n211_212, vr_n211_213, vr_n211_214, vr_n212_209, vr_n212_210, vr_n212_211, vr_n212_213, vr_n212_214, vr_n213_209, vr_n213_210, vr_n213_211, vr_n213_212, vr_n213_214, vr_n214_209, vr_n214_210, vr_n214_211, vr_n214_212, vr_n214_213, vr_rd209, vr_rd210, vr_rd211, vr_rd212, vr_rd213, vr_rd214, vr_bel, vr_lesser, vr_larger, vr_quot, vr_fits, vr_isLong, vr_sumL, vr_difL, vl_max, vl_min, vl_ite, vr_to, Int64.toBitVec_add, Int64.toBitVec_sub, Int64.toBitVec_mul, Int64.toBitVec_and, Int64.toBitVec_xor, Int64.toBitVec_or, vl_x1, vl_x3, vl_zero, vl_one, vl_m1, vl_top, vl_most, vl_eqb, Bool.not_eq_false, if_true, if_false, Bool.false_and, Bool.and_false, Bool.true_and, Bool.and_true, Bool.not_eq_true, Bool.false_eq_true, Bool.true_eq_false, not_false_eq_true, not_true, ne_eq, decide_true, decide_false, Bool.true_or, Bool.or_true, Bool.false_or, Bool.or_false, Bool.not_true, Bool.not_false, Classical.not_not, vr_not0]

theorem vr_and {K : Nat → Option (Nat × Nat)} {I : Nat → Nat → Int32} {L : Nat → Nat → Int64} {R : Nat → Nat → Value} (hW : jv_rW K R) (ha : vr_S L 2 = vb_rany) {n sl : Nat} :
    jv_Ms 232 [.ref 208] (jv_H K I L R) n sl (none, jv_H K I (vr_set L 2 (vb_toR (vb_cAnd (vb_toS (vr_S L 0)) (vb_toS (vr_S L 1))))) R, n, sl) := by
  have H := jv_s232 (L := L) (I := I) (R := R) (n := n) (sl := sl) hW
  refine (congrArg (fun Z => jv_Ms 232 [.ref 208] (jv_H K I L R) n sl (none, jv_H K I Z R, n, sl)) ?_).mp H
  clear H
  have a209 : (L 209 2).toBitVec = 0 := congrArg vb_R.bits ha
  have a210 : (L 210 2).toBitVec = vb_m1 := congrArg vb_R.opn ha
  have a211 : (L 211 2).toBitVec = 0 := congrArg vb_R.low ha
  have a212 : (L 212 2).toBitVec = vb_m1 := congrArg vb_R.high ha
  have a213 : (L 213 2).toBitVec = vb_top_ := congrArg vb_R.least ha
  have a214 : (L 214 2).toBitVec = vb_most := congrArg vb_R.greatest ha
  refine vr_eq (vb_R_ext ?_ ?_ ?_ ?_ ?_ ?_) (fun q i hq => ?_)
  case refine_7 =>
    have o209 : ∀ (F : Nat → Nat → Int64) x, jv_u F 209 2 x q i = F q i := fun F x => vr_out hq rfl
    have o210 : ∀ (F : Nat → Nat → Int64) x, jv_u F 210 2 x q i = F q i := fun F x => vr_out hq rfl
    have o211 : ∀ (F : Nat → Nat → Int64) x, jv_u F 211 2 x q i = F q i := fun F x => vr_out hq rfl
    have o212 : ∀ (F : Nat → Nat → Int64) x, jv_u F 212 2 x q i = F q i := fun F x => vr_out hq rfl
    have o213 : ∀ (F : Nat → Nat → Int64) x, jv_u F 213 2 x q i = F q i := fun F x => vr_out hq rfl
    have o214 : ∀ (F : Nat → Nat → Int64) x, jv_u F 214 2 x q i = F q i := fun F x => vr_out hq rfl
    repeat' split
    all_goals simp only [o209, o210, o211, o212, o213, o214, vr_set_out hq]
  all_goals simp only [vr_S, vb_toR, vb_toS, vb_cAnd, vb_S.mask, vb_S.ones, vb_S.low, vb_S.high, vb_S.least, vb_S.greatest, vb_R.bits, vb_R.opn, vb_R.low, vb_R.high, vb_R.least, vb_R.greatest]
  all_goals try simp only [vr_bel, vr_lesser, vr_larger, vr_quot, vr_fits, vr_isLong, vr_sumL, vr_difL, vl_max, vl_min, vl_ite, vr_to, Int64.toBitVec_add, Int64.toBitVec_sub, Int64.toBitVec_mul, Int64.toBitVec_and, Int64.toBitVec_xor, Int64.toBitVec_or, vl_x1, vl_x3, vl_zero, vl_one, vl_m1, vl_top, vl_most, vl_eqb]
  all_goals repeat' split
  all_goals try simp_all only [vl_at, vr_n209_210, vr_n209_211, vr_n209_212, vr_n209_213, vr_n209_214, vr_n210_209, vr_n210_211, vr_n210_212, vr_n210_213, vr_n210_214, vr_n211_209, vr_n211_210, vr_n211_212, vr_n211_213, vr_n211_214, vr_n212_209, vr_n212_210, vr_n212_211, vr_n212_213, vr_n212_214, vr_n213_209, vr_n213_210, vr_n213_211, vr_n213_212, vr_n213_214, vr_n214_209, vr_n214_210, vr_n214_211, vr_n214_212, vr_n214_213, vr_rd209, vr_rd210, vr_rd211, vr_rd212, vr_rd213, vr_rd214, vr_bel, vr_lesser, vr_larger, vr_quot, vr_fits, vr_isLong, vr_sumL, vr_difL, vl_max, vl_min, vl_ite, vr_to, Int64.toBitVec_add, Int64.toBitVec_sub, Int64.toBitVec_mul, Int64.toBitVec_and, Int64.toBitVec_xor, Int64.toBitVec_or, vl_x1, vl_x3, vl_zero, vl_one, vl_m1, vl_top, vl_most, vl_eqb, Bool.not_eq_false, if_true, if_false, Bool.false_and, Bool.and_false, Bool.true_and, Bool.and_true, Bool.not_eq_true, Bool.false_eq_true, Bool.true_eq_false, not_false_eq_true, not_true, ne_eq, decide_true, decide_false, Bool.true_or, Bool.or_true, Bool.false_or, Bool.or_false, Bool.not_true, Bool.not_false, Classical.not_not, vr_not0]
  all_goals try exact vr_andq _ _ _ _

theorem vr_or {K : Nat → Option (Nat × Nat)} {I : Nat → Nat → Int32} {L : Nat → Nat → Int64} {R : Nat → Nat → Value} (hW : jv_rW K R) (ha : vr_S L 2 = vb_rany) {n sl : Nat} :
    jv_Ms 233 [.ref 208] (jv_H K I L R) n sl (none, jv_H K I (vr_set L 2 (vb_toR (vb_cOr (vb_toS (vr_S L 0)) (vb_toS (vr_S L 1))))) R, n, sl) := by
  have H := jv_s233 (L := L) (I := I) (R := R) (n := n) (sl := sl) hW
  refine (congrArg (fun Z => jv_Ms 233 [.ref 208] (jv_H K I L R) n sl (none, jv_H K I Z R, n, sl)) ?_).mp H
  clear H
  have a209 : (L 209 2).toBitVec = 0 := congrArg vb_R.bits ha
  have a210 : (L 210 2).toBitVec = vb_m1 := congrArg vb_R.opn ha
  have a211 : (L 211 2).toBitVec = 0 := congrArg vb_R.low ha
  have a212 : (L 212 2).toBitVec = vb_m1 := congrArg vb_R.high ha
  have a213 : (L 213 2).toBitVec = vb_top_ := congrArg vb_R.least ha
  have a214 : (L 214 2).toBitVec = vb_most := congrArg vb_R.greatest ha
  refine vr_eq (vb_R_ext ?_ ?_ ?_ ?_ ?_ ?_) (fun q i hq => ?_)
  case refine_7 =>
    have o209 : ∀ (F : Nat → Nat → Int64) x, jv_u F 209 2 x q i = F q i := fun F x => vr_out hq rfl
    have o210 : ∀ (F : Nat → Nat → Int64) x, jv_u F 210 2 x q i = F q i := fun F x => vr_out hq rfl
    have o211 : ∀ (F : Nat → Nat → Int64) x, jv_u F 211 2 x q i = F q i := fun F x => vr_out hq rfl
    have o212 : ∀ (F : Nat → Nat → Int64) x, jv_u F 212 2 x q i = F q i := fun F x => vr_out hq rfl
    have o213 : ∀ (F : Nat → Nat → Int64) x, jv_u F 213 2 x q i = F q i := fun F x => vr_out hq rfl
    have o214 : ∀ (F : Nat → Nat → Int64) x, jv_u F 214 2 x q i = F q i := fun F x => vr_out hq rfl
    repeat' split
    all_goals simp only [o209, o210, o211, o212, o213, o214, vr_set_out hq]
  all_goals simp only [vr_S, vb_toR, vb_toS, vb_cOr, vb_S.mask, vb_S.ones, vb_S.low, vb_S.high, vb_S.least, vb_S.greatest, vb_R.bits, vb_R.opn, vb_R.low, vb_R.high, vb_R.least, vb_R.greatest]
  all_goals try simp only [vr_bel, vr_lesser, vr_larger, vr_quot, vr_fits, vr_isLong, vr_sumL, vr_difL, vl_max, vl_min, vl_ite, vr_to, Int64.toBitVec_add, Int64.toBitVec_sub, Int64.toBitVec_mul, Int64.toBitVec_and, Int64.toBitVec_xor, Int64.toBitVec_or, vl_x1, vl_x3, vl_zero, vl_one, vl_m1, vl_top, vl_most, vl_eqb]
  all_goals repeat' split
  all_goals try simp_all only [vl_at, vr_n209_210, vr_n209_211, vr_n209_212, vr_n209_213, vr_n209_214, vr_n210_209, vr_n210_211, vr_n210_212, vr_n210_213, vr_n210_214, vr_n211_209, vr_n211_210, vr_n211_212, vr_n211_213, vr_n211_214, vr_n212_209, vr_n212_210, vr_n212_211, vr_n212_213, vr_n212_214, vr_n213_209, vr_n213_210, vr_n213_211, vr_n213_212, vr_n213_214, vr_n214_209, vr_n214_210, vr_n214_211, vr_n214_212, vr_n214_213, vr_rd209, vr_rd210, vr_rd211, vr_rd212, vr_rd213, vr_rd214, vr_bel, vr_lesser, vr_larger, vr_quot, vr_fits, vr_isLong, vr_sumL, vr_difL, vl_max, vl_min, vl_ite, vr_to, Int64.toBitVec_add, Int64.toBitVec_sub, Int64.toBitVec_mul, Int64.toBitVec_and, Int64.toBitVec_xor, Int64.toBitVec_or, vl_x1, vl_x3, vl_zero, vl_one, vl_m1, vl_top, vl_most, vl_eqb, Bool.not_eq_false, if_true, if_false, Bool.false_and, Bool.and_false, Bool.true_and, Bool.and_true, Bool.not_eq_true, Bool.false_eq_true, Bool.true_eq_false, not_false_eq_true, not_true, ne_eq, decide_true, decide_false, Bool.true_or, Bool.or_true, Bool.false_or, Bool.or_false, Bool.not_true, Bool.not_false, Classical.not_not, vr_not0]
  all_goals try exact vr_orq _ _ _ _

theorem vr_xor {K : Nat → Option (Nat × Nat)} {I : Nat → Nat → Int32} {L : Nat → Nat → Int64} {R : Nat → Nat → Value} (hW : jv_rW K R) (ha : vr_S L 2 = vb_rany) {n sl : Nat} :
    jv_Ms 234 [.ref 208] (jv_H K I L R) n sl (none, jv_H K I (vr_set L 2 (vb_toR (vb_cXor (vb_toS (vr_S L 0)) (vb_toS (vr_S L 1))))) R, n, sl) := by
  have H := jv_s234 (L := L) (I := I) (R := R) (n := n) (sl := sl) hW
  refine (congrArg (fun Z => jv_Ms 234 [.ref 208] (jv_H K I L R) n sl (none, jv_H K I Z R, n, sl)) ?_).mp H
  clear H
  have a209 : (L 209 2).toBitVec = 0 := congrArg vb_R.bits ha
  have a210 : (L 210 2).toBitVec = vb_m1 := congrArg vb_R.opn ha
  have a211 : (L 211 2).toBitVec = 0 := congrArg vb_R.low ha
  have a212 : (L 212 2).toBitVec = vb_m1 := congrArg vb_R.high ha
  have a213 : (L 213 2).toBitVec = vb_top_ := congrArg vb_R.least ha
  have a214 : (L 214 2).toBitVec = vb_most := congrArg vb_R.greatest ha
  refine vr_eq (vb_R_ext ?_ ?_ ?_ ?_ ?_ ?_) (fun q i hq => ?_)
  case refine_7 =>
    have o209 : ∀ (F : Nat → Nat → Int64) x, jv_u F 209 2 x q i = F q i := fun F x => vr_out hq rfl
    have o210 : ∀ (F : Nat → Nat → Int64) x, jv_u F 210 2 x q i = F q i := fun F x => vr_out hq rfl
    have o211 : ∀ (F : Nat → Nat → Int64) x, jv_u F 211 2 x q i = F q i := fun F x => vr_out hq rfl
    have o212 : ∀ (F : Nat → Nat → Int64) x, jv_u F 212 2 x q i = F q i := fun F x => vr_out hq rfl
    have o213 : ∀ (F : Nat → Nat → Int64) x, jv_u F 213 2 x q i = F q i := fun F x => vr_out hq rfl
    have o214 : ∀ (F : Nat → Nat → Int64) x, jv_u F 214 2 x q i = F q i := fun F x => vr_out hq rfl
    repeat' split
    all_goals simp only [o209, o210, o211, o212, o213, o214, vr_set_out hq]
  all_goals simp only [vr_S, vb_toR, vb_toS, vb_cXor, vb_S.mask, vb_S.ones, vb_S.low, vb_S.high, vb_S.least, vb_S.greatest, vb_R.bits, vb_R.opn, vb_R.low, vb_R.high, vb_R.least, vb_R.greatest]
  all_goals try simp only [vr_bel, vr_lesser, vr_larger, vr_quot, vr_fits, vr_isLong, vr_sumL, vr_difL, vl_max, vl_min, vl_ite, vr_to, Int64.toBitVec_add, Int64.toBitVec_sub, Int64.toBitVec_mul, Int64.toBitVec_and, Int64.toBitVec_xor, Int64.toBitVec_or, vl_x1, vl_x3, vl_zero, vl_one, vl_m1, vl_top, vl_most, vl_eqb]
  all_goals repeat' split
  all_goals try simp_all only [vl_at, vr_n209_210, vr_n209_211, vr_n209_212, vr_n209_213, vr_n209_214, vr_n210_209, vr_n210_211, vr_n210_212, vr_n210_213, vr_n210_214, vr_n211_209, vr_n211_210, vr_n211_212, vr_n211_213, vr_n211_214, vr_n212_209, vr_n212_210, vr_n212_211, vr_n212_213, vr_n212_214, vr_n213_209, vr_n213_210, vr_n213_211, vr_n213_212, vr_n213_214, vr_n214_209, vr_n214_210, vr_n214_211, vr_n214_212, vr_n214_213, vr_rd209, vr_rd210, vr_rd211, vr_rd212, vr_rd213, vr_rd214, vr_bel, vr_lesser, vr_larger, vr_quot, vr_fits, vr_isLong, vr_sumL, vr_difL, vl_max, vl_min, vl_ite, vr_to, Int64.toBitVec_add, Int64.toBitVec_sub, Int64.toBitVec_mul, Int64.toBitVec_and, Int64.toBitVec_xor, Int64.toBitVec_or, vl_x1, vl_x3, vl_zero, vl_one, vl_m1, vl_top, vl_most, vl_eqb, Bool.not_eq_false, if_true, if_false, Bool.false_and, Bool.and_false, Bool.true_and, Bool.and_true, Bool.not_eq_true, Bool.false_eq_true, Bool.true_eq_false, not_false_eq_true, not_true, ne_eq, decide_true, decide_false, Bool.true_or, Bool.or_true, Bool.false_or, Bool.or_false, Bool.not_true, Bool.not_false, Classical.not_not, vr_not0]
  all_goals try exact vr_xorq _ _
  all_goals try rw [vr_xorq2]

theorem vr_toR_toS (r : vb_R) : vb_toR (vb_toS r) = r := by
  unfold vb_toR vb_toS
  refine vb_R_ext rfl ?_ rfl rfl rfl rfl
  show ~~~(~~~r.opn) = r.opn
  exact BitVec.not_not
theorem vr_add {K : Nat → Option (Nat × Nat)} {I : Nat → Nat → Int32} {L : Nat → Nat → Int64} {R : Nat → Nat → Value} (hW : jv_rW K R) (ha : vr_S L 2 = vb_rany) (hx : (vb_toS (vr_S L 0)).ones &&& (vb_toS (vr_S L 0)).mask = (vb_toS (vr_S L 0)).ones) (hy : (vb_toS (vr_S L 1)).ones &&& (vb_toS (vr_S L 1)).mask = (vb_toS (vr_S L 1)).ones) {n sl : Nat} :
    jv_Ms 225 [.ref 208] (jv_H K I L R) n sl (none, jv_H K I (vr_set L 2 (vb_toR (vb_cAdd (vb_toS (vr_S L 0)) (vb_toS (vr_S L 1))))) R, n, sl) := by
  have H := jv_s225 (L := L) (I := I) (R := R) (n := n) (sl := sl) hW
  have hs := vb_add_same hx hy
  rw [vr_toR_toS, vr_toR_toS] at hs
  rw [hs]
  refine (congrArg (fun Z => jv_Ms 225 [.ref 208] (jv_H K I L R) n sl (none, jv_H K I Z R, n, sl)) ?_).mp H
  clear H hs hx hy
  have a209 : (L 209 2).toBitVec = 0 := congrArg vb_R.bits ha
  have a210 : (L 210 2).toBitVec = vb_m1 := congrArg vb_R.opn ha
  have a211 : (L 211 2).toBitVec = 0 := congrArg vb_R.low ha
  have a212 : (L 212 2).toBitVec = vb_m1 := congrArg vb_R.high ha
  have a213 : (L 213 2).toBitVec = vb_top_ := congrArg vb_R.least ha
  have a214 : (L 214 2).toBitVec = vb_most := congrArg vb_R.greatest ha
  have hb : (jv_rbelow ((L 211 0) + (L 211 1)) (L 211 0) = jv_rbelow ((L 212 0) + (L 212 1)) (L 212 0)) ↔ (decide ((vr_S L 0).low + (vr_S L 1).low < (vr_S L 0).low) == decide ((vr_S L 0).high + (vr_S L 1).high < (vr_S L 0).high)) = true := vr_bel2 _ _ _ _
  unfold vb_rAdd
  dsimp only
  generalize (decide ((vr_S L 0).low + (vr_S L 1).low < (vr_S L 0).low) == decide ((vr_S L 0).high + (vr_S L 1).high < (vr_S L 0).high)) = bb at hb ⊢
  simp only [hb]
  clear hb
  refine vr_eq (vb_R_ext ?_ ?_ ?_ ?_ ?_ ?_) (fun q i hq => ?_)
  case refine_7 =>
    have o209 : ∀ (F : Nat → Nat → Int64) x, jv_u F 209 2 x q i = F q i := fun F x => vr_out hq rfl
    have o210 : ∀ (F : Nat → Nat → Int64) x, jv_u F 210 2 x q i = F q i := fun F x => vr_out hq rfl
    have o211 : ∀ (F : Nat → Nat → Int64) x, jv_u F 211 2 x q i = F q i := fun F x => vr_out hq rfl
    have o212 : ∀ (F : Nat → Nat → Int64) x, jv_u F 212 2 x q i = F q i := fun F x => vr_out hq rfl
    have o213 : ∀ (F : Nat → Nat → Int64) x, jv_u F 213 2 x q i = F q i := fun F x => vr_out hq rfl
    have o214 : ∀ (F : Nat → Nat → Int64) x, jv_u F 214 2 x q i = F q i := fun F x => vr_out hq rfl
    repeat' split
    all_goals simp only [o209, o210, o211, o212, o213, o214, vr_set_out hq]
  all_goals simp only [vr_S, vb_toR, vb_toS, vb_S.mask, vb_S.ones, vb_S.low, vb_S.high, vb_S.least, vb_S.greatest, vb_R.bits, vb_R.opn, vb_R.low, vb_R.high, vb_R.least, vb_R.greatest]
  all_goals try simp only [vr_bel, vr_lesser, vr_larger, vr_quot, vr_fits, vr_isLong, vr_sumL, vr_difL, vl_max, vl_min, vl_ite, vr_to, Int64.toBitVec_add, Int64.toBitVec_sub, Int64.toBitVec_mul, Int64.toBitVec_and, Int64.toBitVec_xor, Int64.toBitVec_or, vl_x1, vl_x3, vl_zero, vl_one, vl_m1, vl_top, vl_most, vl_eqb]
  all_goals repeat' split
  all_goals try simp_all only [vl_at, vr_n209_210, vr_n209_211, vr_n209_212, vr_n209_213, vr_n209_214, vr_n210_209, vr_n210_211, vr_n210_212, vr_n210_213, vr_n210_214, vr_n211_209, vr_n211_210, vr_n211_212, vr_n211_213, vr_n211_214, vr_n212_209, vr_n212_210, vr_n212_211, vr_n212_213, vr_n212_214, vr_n213_209, vr_n213_210, vr_n213_211, vr_n213_212, vr_n213_214, vr_n214_209, vr_n214_210, vr_n214_211, vr_n214_212, vr_n214_213, vr_rd209, vr_rd210, vr_rd211, vr_rd212, vr_rd213, vr_rd214, vr_bel, vr_lesser, vr_larger, vr_quot, vr_fits, vr_isLong, vr_sumL, vr_difL, vl_max, vl_min, vl_ite, vr_to, Int64.toBitVec_add, Int64.toBitVec_sub, Int64.toBitVec_mul, Int64.toBitVec_and, Int64.toBitVec_xor, Int64.toBitVec_or, vl_x1, vl_x3, vl_zero, vl_one, vl_m1, vl_top, vl_most, vl_eqb, Bool.not_eq_false, if_true, if_false, Bool.false_and, Bool.and_false, Bool.true_and, Bool.and_true, Bool.not_eq_true, Bool.false_eq_true, Bool.true_eq_false, not_false_eq_true, not_true, ne_eq, decide_true, decide_false, Bool.true_or, Bool.or_true, Bool.false_or, Bool.or_false, Bool.not_true, Bool.not_false, Classical.not_not, vr_not0]

theorem vr_sub {K : Nat → Option (Nat × Nat)} {I : Nat → Nat → Int32} {L : Nat → Nat → Int64} {R : Nat → Nat → Value} (hW : jv_rW K R) (ha : vr_S L 2 = vb_rany) (hx : (vb_toS (vr_S L 0)).ones &&& (vb_toS (vr_S L 0)).mask = (vb_toS (vr_S L 0)).ones) (hy : (vb_toS (vr_S L 1)).ones &&& (vb_toS (vr_S L 1)).mask = (vb_toS (vr_S L 1)).ones) {n sl : Nat} :
    jv_Ms 226 [.ref 208] (jv_H K I L R) n sl (none, jv_H K I (vr_set L 2 (vb_toR (vb_cSub (vb_toS (vr_S L 0)) (vb_toS (vr_S L 1))))) R, n, sl) := by
  have H := jv_s226 (L := L) (I := I) (R := R) (n := n) (sl := sl) hW
  have hs := vb_sub_same hx hy
  rw [vr_toR_toS, vr_toR_toS] at hs
  rw [hs]
  refine (congrArg (fun Z => jv_Ms 226 [.ref 208] (jv_H K I L R) n sl (none, jv_H K I Z R, n, sl)) ?_).mp H
  clear H hs hx hy
  have a209 : (L 209 2).toBitVec = 0 := congrArg vb_R.bits ha
  have a210 : (L 210 2).toBitVec = vb_m1 := congrArg vb_R.opn ha
  have a211 : (L 211 2).toBitVec = 0 := congrArg vb_R.low ha
  have a212 : (L 212 2).toBitVec = vb_m1 := congrArg vb_R.high ha
  have a213 : (L 213 2).toBitVec = vb_top_ := congrArg vb_R.least ha
  have a214 : (L 214 2).toBitVec = vb_most := congrArg vb_R.greatest ha
  have hb : (jv_rbelow (L 211 0) (L 212 1) = jv_rbelow (L 212 0) (L 211 1)) ↔ (decide ((vr_S L 0).low < (vr_S L 1).high) == decide ((vr_S L 0).high < (vr_S L 1).low)) = true := vr_bel2 _ _ _ _
  unfold vb_rSub
  dsimp only
  generalize (decide ((vr_S L 0).low < (vr_S L 1).high) == decide ((vr_S L 0).high < (vr_S L 1).low)) = bb at hb ⊢
  simp only [hb]
  clear hb
  refine vr_eq (vb_R_ext ?_ ?_ ?_ ?_ ?_ ?_) (fun q i hq => ?_)
  case refine_7 =>
    have o209 : ∀ (F : Nat → Nat → Int64) x, jv_u F 209 2 x q i = F q i := fun F x => vr_out hq rfl
    have o210 : ∀ (F : Nat → Nat → Int64) x, jv_u F 210 2 x q i = F q i := fun F x => vr_out hq rfl
    have o211 : ∀ (F : Nat → Nat → Int64) x, jv_u F 211 2 x q i = F q i := fun F x => vr_out hq rfl
    have o212 : ∀ (F : Nat → Nat → Int64) x, jv_u F 212 2 x q i = F q i := fun F x => vr_out hq rfl
    have o213 : ∀ (F : Nat → Nat → Int64) x, jv_u F 213 2 x q i = F q i := fun F x => vr_out hq rfl
    have o214 : ∀ (F : Nat → Nat → Int64) x, jv_u F 214 2 x q i = F q i := fun F x => vr_out hq rfl
    repeat' split
    all_goals simp only [o209, o210, o211, o212, o213, o214, vr_set_out hq]
  all_goals simp only [vr_S, vb_toR, vb_toS, vb_S.mask, vb_S.ones, vb_S.low, vb_S.high, vb_S.least, vb_S.greatest, vb_R.bits, vb_R.opn, vb_R.low, vb_R.high, vb_R.least, vb_R.greatest]
  all_goals try simp only [vr_bel, vr_lesser, vr_larger, vr_quot, vr_fits, vr_isLong, vr_sumL, vr_difL, vl_max, vl_min, vl_ite, vr_to, Int64.toBitVec_add, Int64.toBitVec_sub, Int64.toBitVec_mul, Int64.toBitVec_and, Int64.toBitVec_xor, Int64.toBitVec_or, vl_x1, vl_x3, vl_zero, vl_one, vl_m1, vl_top, vl_most, vl_eqb]
  all_goals repeat' split
  all_goals try simp_all only [vl_at, vr_n209_210, vr_n209_211, vr_n209_212, vr_n209_213, vr_n209_214, vr_n210_209, vr_n210_211, vr_n210_212, vr_n210_213, vr_n210_214, vr_n211_209, vr_n211_210, vr_n211_212, vr_n211_213, vr_n211_214, vr_n212_209, vr_n212_210, vr_n212_211, vr_n212_213, vr_n212_214, vr_n213_209, vr_n213_210, vr_n213_211, vr_n213_212, vr_n213_214, vr_n214_209, vr_n214_210, vr_n214_211, vr_n214_212, vr_n214_213, vr_rd209, vr_rd210, vr_rd211, vr_rd212, vr_rd213, vr_rd214, vr_bel, vr_lesser, vr_larger, vr_quot, vr_fits, vr_isLong, vr_sumL, vr_difL, vl_max, vl_min, vl_ite, vr_to, Int64.toBitVec_add, Int64.toBitVec_sub, Int64.toBitVec_mul, Int64.toBitVec_and, Int64.toBitVec_xor, Int64.toBitVec_or, vl_x1, vl_x3, vl_zero, vl_one, vl_m1, vl_top, vl_most, vl_eqb, Bool.not_eq_false, if_true, if_false, Bool.false_and, Bool.and_false, Bool.true_and, Bool.and_true, Bool.not_eq_true, Bool.false_eq_true, Bool.true_eq_false, not_false_eq_true, not_true, ne_eq, decide_true, decide_false, Bool.true_or, Bool.or_true, Bool.false_or, Bool.or_false, Bool.not_true, Bool.not_false, Classical.not_not, vr_not0]
