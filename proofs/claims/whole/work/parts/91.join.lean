/-! what cut, extend, join, widen leave -/
theorem vl_wrap {N L : Nat → Nat → Int64} {o : Nat} {V : vb_S} (e : N = vl_set L o V) : vl_set N o (vb_tt (vl_S N o)) = vl_set L o (vb_tt V) := by rw [e, vl_set_S, vl_set_set]
theorem vl_set_ne {L : Nat → Nat → Int64} {o x : Nat} {v : vb_S} {i : Nat} (h : o ≠ x) : vl_set L o v x i = L x i := vl_set_out (fun h' => h h'.1.symm)
theorem vl_s0 (L : Nat → Nat → Int64) (o : Nat) (v : vb_S) : (vl_set L o v o 0).toBitVec = v.mask := congrArg vb_S.mask (vl_set_S L o v)
theorem vl_s1 (L : Nat → Nat → Int64) (o : Nat) (v : vb_S) : (vl_set L o v o 1).toBitVec = v.ones := congrArg vb_S.ones (vl_set_S L o v)
theorem vl_s2 (L : Nat → Nat → Int64) (o : Nat) (v : vb_S) : (vl_set L o v o 2).toBitVec = v.low := congrArg vb_S.low (vl_set_S L o v)
theorem vl_s3 (L : Nat → Nat → Int64) (o : Nat) (v : vb_S) : (vl_set L o v o 3).toBitVec = v.high := congrArg vb_S.high (vl_set_S L o v)
theorem vl_s4 (L : Nat → Nat → Int64) (o : Nat) (v : vb_S) : (vl_set L o v o 4).toBitVec = v.least := congrArg vb_S.least (vl_set_S L o v)
theorem vl_s5 (L : Nat → Nat → Int64) (o : Nat) (v : vb_S) : (vl_set L o v o 5).toBitVec = v.greatest := congrArg vb_S.greatest (vl_set_S L o v)
theorem vl_join {K : Nat → Option (Nat × Nat)} {I : Nat → Nat → Int32} {L : Nat → Nat → Int64} {R : Nat → Nat → Value} {o x w : Nat} (ho : K o = some (9, 6)) (hx : jv_isV K x) (hw : jv_isV K w) (h1 : o ≠ x) (h2 : o ≠ w) {n sl : Nat} :
    jv_Ms 174 [.ref o, .ref x, .ref w] (jv_H K I L R) n sl (none, jv_H K I (vl_set L o (vb_tt (vb_cJoin (vl_S L x) (vl_S L w)))) R, n, sl) := by
  have H := jv_s174 (L := L) (I := I) (R := R) (n := n) (sl := sl) o x w ho hx hw h1 h2 _ rfl _ rfl
  refine (congrArg (fun Z => jv_Ms 174 [.ref o, .ref x, .ref w] (jv_H K I L R) n sl (none, jv_H K I Z R, n, sl)) ?_).mp H
  clear H
  unfold vb_cJoin
  refine vl_wrap (vl_eq ?_ (fun q i hq => ?_))
  · unfold vl_S
    simp only [vl_at, vl_n01, vl_n02, vl_n03, vl_n04, vl_n05, vl_n10, vl_n12, vl_n13, vl_n14, vl_n15, vl_n20, vl_n21, vl_n23, vl_n24, vl_n25, vl_n30, vl_n31, vl_n32, vl_n34, vl_n35, vl_n40, vl_n41, vl_n42, vl_n43, vl_n45, vl_n50, vl_n51, vl_n52, vl_n53, vl_n54, vl_clesser, vl_clarger, vl_min, vl_max, Int64.toBitVec_and, Int64.toBitVec_xor, vl_x1]
  ·
    have o0 : ∀ (F : Nat → Nat → Int64) x, jv_u F o 0 x q i = F q i := fun F x => vl_out hq rfl
    have o1 : ∀ (F : Nat → Nat → Int64) x, jv_u F o 1 x q i = F q i := fun F x => vl_out hq rfl
    have o2 : ∀ (F : Nat → Nat → Int64) x, jv_u F o 2 x q i = F q i := fun F x => vl_out hq rfl
    have o3 : ∀ (F : Nat → Nat → Int64) x, jv_u F o 3 x q i = F q i := fun F x => vl_out hq rfl
    have o4 : ∀ (F : Nat → Nat → Int64) x, jv_u F o 4 x q i = F q i := fun F x => vl_out hq rfl
    have o5 : ∀ (F : Nat → Nat → Int64) x, jv_u F o 5 x q i = F q i := fun F x => vl_out hq rfl
    simp only [o0, o1, o2, o3, o4, o5]

theorem vl_widen {K : Nat → Option (Nat × Nat)} {I : Nat → Nat → Int32} {L : Nat → Nat → Int64} {R : Nat → Nat → Value} {o x w : Nat} (ho : K o = some (9, 6)) (hx : jv_isV K x) (hw : jv_isV K w) (h1 : o ≠ x) (h2 : o ≠ w) {n sl : Nat} :
    jv_Ms 175 [.ref o, .ref x, .ref w] (jv_H K I L R) n sl (none, jv_H K I (vl_set L o (vb_tt (vb_cWiden (vl_S L x) (vl_S L w)))) R, n, sl) := by
  have H := jv_s175 (L := L) (I := I) (R := R) (n := n) (sl := sl) o x w ho hx hw h1 h2 _ rfl _ rfl _ rfl _ rfl
  refine (congrArg (fun Z => jv_Ms 175 [.ref o, .ref x, .ref w] (jv_H K I L R) n sl (none, jv_H K I Z R, n, sl)) ?_).mp H
  clear H
  have rx : ∀ v i, vl_set L o v x i = L x i := fun v i => vl_set_ne h1
  have rw' : ∀ v i, vl_set L o v w i = L w i := fun v i => vl_set_ne h2
  simp only [rx, rw']
  unfold vb_cWiden
  refine vl_wrap (vl_eq ?_ (fun q i hq => ?_))
  · unfold vl_S
    try simp only [vl_lt0, vl_below_eq, vl_x3, vl_clesser, vl_clarger, vl_max, vl_min, vl_ite, Int64.toBitVec_add, Int64.toBitVec_sub, Int64.toBitVec_mul, Int64.toBitVec_and, Int64.toBitVec_xor, Int64.toBitVec_or, vl_x1, vl_zero, vl_one, vl_m1, vl_top, vl_most, vb_any, vb_S.mask, vb_S.ones, vb_S.low, vb_S.high, vb_S.least, vb_S.greatest, vl_s0, vl_s1, vl_s2, vl_s3, vl_s4, vl_s5, vl_below, vl_i10, vl_slt, vl_nlt]
    repeat' split
    all_goals simp_all only [vl_at, vl_n01, vl_n02, vl_n03, vl_n04, vl_n05, vl_n10, vl_n12, vl_n13, vl_n14, vl_n15, vl_n20, vl_n21, vl_n23, vl_n24, vl_n25, vl_n30, vl_n31, vl_n32, vl_n34, vl_n35, vl_n40, vl_n41, vl_n42, vl_n43, vl_n45, vl_n50, vl_n51, vl_n52, vl_n53, vl_n54, vl_lt0, vl_below_eq, vl_x3, vl_clesser, vl_clarger, vl_max, vl_min, vl_ite, Int64.toBitVec_add, Int64.toBitVec_sub, Int64.toBitVec_mul, Int64.toBitVec_and, Int64.toBitVec_xor, Int64.toBitVec_or, vl_x1, vl_zero, vl_one, vl_m1, vl_top, vl_most, vb_any, Bool.false_and, Bool.and_false, Bool.true_and, Bool.and_true, Bool.not_eq_true, Bool.false_eq_true, Bool.true_eq_false, not_false_eq_true, not_true, ne_eq, decide_true, decide_false, Bool.true_or, Bool.or_true, Bool.false_or, Bool.or_false, Bool.not_true, Bool.not_false, vl_s0, vl_s1, vl_s2, vl_s3, vl_s4, vl_s5, Classical.not_not, vl_below, vl_i10, vl_slt, vl_nlt]
  ·
    have o0 : ∀ (F : Nat → Nat → Int64) x, jv_u F o 0 x q i = F q i := fun F x => vl_out hq rfl
    have o1 : ∀ (F : Nat → Nat → Int64) x, jv_u F o 1 x q i = F q i := fun F x => vl_out hq rfl
    have o2 : ∀ (F : Nat → Nat → Int64) x, jv_u F o 2 x q i = F q i := fun F x => vl_out hq rfl
    have o3 : ∀ (F : Nat → Nat → Int64) x, jv_u F o 3 x q i = F q i := fun F x => vl_out hq rfl
    have o4 : ∀ (F : Nat → Nat → Int64) x, jv_u F o 4 x q i = F q i := fun F x => vl_out hq rfl
    have o5 : ∀ (F : Nat → Nat → Int64) x, jv_u F o 5 x q i = F q i := fun F x => vl_out hq rfl
    repeat' split
    all_goals simp only [o0, o1, o2, o3, o4, o5, vl_set_out hq]
