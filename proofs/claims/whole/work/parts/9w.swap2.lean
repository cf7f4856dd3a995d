/-! what swap leaves -/
theorem vl_swap {K : Nat → Option (Nat × Nat)} {I : Nat → Nat → Int32} {L : Nat → Nat → Int64} {R : Nat → Nat → Value} {o x m : Nat} (ho : K o = some (9, 6)) (hx : jv_isV K x) (h1 : o ≠ x) (hm : m = 16 ∨ m = 32 ∨ m = 64) {n sl : Nat} :
    jv_Ms 173 [.ref o, .ref x, .int (vl_I m)] (jv_H K I L R) n sl (none, jv_H K I (vl_set L o (vb_tt (vb_cSwap (vb_tt (vb_cCut (vl_S L x) m)) m))) R, n, sl) := by
  have H := jv_s173 (L := L) (I := I) (R := R) (n := n) (sl := sl) o x m ho hx (by omega) hm h1 _ rfl _ rfl _ rfl
  refine (congrArg (fun Z => jv_Ms 173 [.ref o, .ref x, .int (vl_I m)] (jv_H K I L R) n sl (none, jv_H K I Z R, n, sl)) ?_).mp H
  clear H
  have e3 : (jv_clowest (vl_I m)).toBitVec = vb_lowest m := vl_lowk (by omega)
  have t : ∀ z : BitVec 64, (Int64.ofBitVec z).toBitVec = z := fun _ => rfl
  generalize vb_tt (vb_cCut (vl_S L x) m) = W
  unfold vb_cSwap
  refine vl_wrap (vl_eq ?_ (fun q i hq => ?_))
  · unfold vl_S
    try simp only [vl_lt0, vl_below_eq, vl_x3, vl_clesser, vl_clarger, vl_max, vl_min, vl_ite, Int64.toBitVec_add, Int64.toBitVec_sub, Int64.toBitVec_mul, Int64.toBitVec_and, Int64.toBitVec_xor, Int64.toBitVec_or, vl_x1, vl_zero, vl_one, vl_m1, vl_top, vl_most, vb_any, vb_S.mask, vb_S.ones, vb_S.low, vb_S.high, vb_S.least, vb_S.greatest, vl_s0, vl_s1, vl_s2, vl_s3, vl_s4, vl_s5, e3, t]
    repeat' split
    all_goals simp_all only [vl_at, vl_n01, vl_n02, vl_n03, vl_n04, vl_n05, vl_n10, vl_n12, vl_n13, vl_n14, vl_n15, vl_n20, vl_n21, vl_n23, vl_n24, vl_n25, vl_n30, vl_n31, vl_n32, vl_n34, vl_n35, vl_n40, vl_n41, vl_n42, vl_n43, vl_n45, vl_n50, vl_n51, vl_n52, vl_n53, vl_n54, vl_lt0, vl_below_eq, vl_x3, vl_clesser, vl_clarger, vl_max, vl_min, vl_ite, Int64.toBitVec_add, Int64.toBitVec_sub, Int64.toBitVec_mul, Int64.toBitVec_and, Int64.toBitVec_xor, Int64.toBitVec_or, vl_x1, vl_zero, vl_one, vl_m1, vl_top, vl_most, vb_any, Bool.false_and, Bool.and_false, Bool.true_and, Bool.and_true, Bool.not_eq_true, Bool.false_eq_true, Bool.true_eq_false, not_false_eq_true, not_true, ne_eq, decide_true, decide_false, Bool.true_or, Bool.or_true, Bool.false_or, Bool.or_false, Bool.not_true, Bool.not_false, vl_s0, vl_s1, vl_s2, vl_s3, vl_s4, vl_s5, Classical.not_not, e3, t]
    all_goals rfl
  ·
    have o0 : ∀ (F : Nat → Nat → Int64) x, jv_u F o 0 x q i = F q i := fun F x => vl_out hq rfl
    have o1 : ∀ (F : Nat → Nat → Int64) x, jv_u F o 1 x q i = F q i := fun F x => vl_out hq rfl
    have o2 : ∀ (F : Nat → Nat → Int64) x, jv_u F o 2 x q i = F q i := fun F x => vl_out hq rfl
    have o3 : ∀ (F : Nat → Nat → Int64) x, jv_u F o 3 x q i = F q i := fun F x => vl_out hq rfl
    have o4 : ∀ (F : Nat → Nat → Int64) x, jv_u F o 4 x q i = F q i := fun F x => vl_out hq rfl
    have o5 : ∀ (F : Nat → Nat → Int64) x, jv_u F o 5 x q i = F q i := fun F x => vl_out hq rfl
    repeat' split
    all_goals simp only [o0, o1, o2, o3, o4, o5, vl_set_out hq]
