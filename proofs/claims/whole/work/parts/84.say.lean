/-! what the class says of sums, quotients, rests, bits (gen: gl.py) -/
theorem vl_x3 (a : BitVec 64) : a ^^^ vb_m1 = ~~~a := by rw [← vl_m1]; exact vl_x1 a
theorem vl_i10 : ((1 : Int32) = 0) = False := by decide
theorem vl_45 : ¬ (4 : Int32) = 5 := by decide
theorem vl_10_5 : ¬ (10 : Int32) = 5 := by decide
theorem vl_10_4 : ¬ (10 : Int32) = 4 := by decide
theorem vl_any {K : Nat → Option (Nat × Nat)} {I : Nat → Nat → Int32} {L : Nat → Nat → Int64} {R : Nat → Nat → Value} {o : Nat} (ho : jv_isV K o) {n sl : Nat} :
    jv_Ms 149 [.ref o] (jv_H K I L R) n sl (none, jv_H K I (vl_set L o (vb_any)) R, n, sl) := by
  have H := jv_s149 (L := L) (I := I) (R := R) (n := n) (sl := sl) o ho
  refine (congrArg (fun Z => jv_Ms 149 [.ref o] (jv_H K I L R) n sl (none, jv_H K I Z R, n, sl)) ?_).mp H
  clear H
  refine vl_eq ?_ (fun q i hq => ?_)
  · unfold vl_S vb_any
    try simp only [vl_lt0, vl_below_eq, vl_x3, vl_clesser, vl_clarger, vl_max, vl_min, vl_max', vl_ite, Int64.toBitVec_add, Int64.toBitVec_sub, Int64.toBitVec_mul, Int64.toBitVec_and, Int64.toBitVec_xor, Int64.toBitVec_or, vl_x1, vl_zero, vl_one, vl_m1, vl_top, vl_most, vb_S.mask, vb_S.ones, vb_S.low, vb_S.high, vb_S.least, vb_S.greatest]
    repeat' split
    all_goals simp_all only [vl_at, vl_n01, vl_n02, vl_n03, vl_n04, vl_n05, vl_n10, vl_n12, vl_n13, vl_n14, vl_n15, vl_n20, vl_n21, vl_n23, vl_n24, vl_n25, vl_n30, vl_n31, vl_n32, vl_n34, vl_n35, vl_n40, vl_n41, vl_n42, vl_n43, vl_n45, vl_n50, vl_n51, vl_n52, vl_n53, vl_n54, vl_lt0, vl_below_eq, vl_x3, vl_clesser, vl_clarger, vl_max, vl_min, vl_max', vl_ite, Int64.toBitVec_add, Int64.toBitVec_sub, Int64.toBitVec_mul, Int64.toBitVec_and, Int64.toBitVec_xor, Int64.toBitVec_or, vl_x1, vl_zero, vl_one, vl_m1, vl_top, vl_most, Bool.false_and, Bool.and_false, Bool.true_and, Bool.and_true, Bool.not_eq_true, Bool.false_eq_true, Bool.true_eq_false, not_false_eq_true, not_true, ne_eq]
  ·
    have o0 : ∀ (F : Nat → Nat → Int64) x, jv_u F o 0 x q i = F q i := fun F x => vl_out hq rfl
    have o1 : ∀ (F : Nat → Nat → Int64) x, jv_u F o 1 x q i = F q i := fun F x => vl_out hq rfl
    have o2 : ∀ (F : Nat → Nat → Int64) x, jv_u F o 2 x q i = F q i := fun F x => vl_out hq rfl
    have o3 : ∀ (F : Nat → Nat → Int64) x, jv_u F o 3 x q i = F q i := fun F x => vl_out hq rfl
    have o4 : ∀ (F : Nat → Nat → Int64) x, jv_u F o 4 x q i = F q i := fun F x => vl_out hq rfl
    have o5 : ∀ (F : Nat → Nat → Int64) x, jv_u F o 5 x q i = F q i := fun F x => vl_out hq rfl
    repeat' split
    all_goals simp only [o0, o1, o2, o3, o4, o5]

theorem vl_sayings {K : Nat → Option (Nat × Nat)} {I : Nat → Nat → Int32} {L : Nat → Nat → Int64} {R : Nat → Nat → Value} {o w : Nat} (ho : jv_isV K o) (hw : jv_isV K w) (h1 : o ≠ w) {n sl : Nat} :
    jv_Ms 151 [.ref o, .ref w] (jv_H K I L R) n sl (none, jv_H K I (vl_set L o (vl_S L w)) R, n, sl) := by
  have H := jv_s151 (L := L) (I := I) (R := R) (n := n) (sl := sl) o w ho hw h1
  refine (congrArg (fun Z => jv_Ms 151 [.ref o, .ref w] (jv_H K I L R) n sl (none, jv_H K I Z R, n, sl)) ?_).mp H
  clear H
  refine vl_eq ?_ (fun q i hq => ?_)
  · unfold vl_S 
    try simp only [vl_lt0, vl_below_eq, vl_x3, vl_clesser, vl_clarger, vl_max, vl_min, vl_max', vl_ite, Int64.toBitVec_add, Int64.toBitVec_sub, Int64.toBitVec_mul, Int64.toBitVec_and, Int64.toBitVec_xor, Int64.toBitVec_or, vl_x1, vl_zero, vl_one, vl_m1, vl_top, vl_most, vb_S.mask, vb_S.ones, vb_S.low, vb_S.high, vb_S.least, vb_S.greatest]
    repeat' split
    all_goals simp_all only [vl_at, vl_n01, vl_n02, vl_n03, vl_n04, vl_n05, vl_n10, vl_n12, vl_n13, vl_n14, vl_n15, vl_n20, vl_n21, vl_n23, vl_n24, vl_n25, vl_n30, vl_n31, vl_n32, vl_n34, vl_n35, vl_n40, vl_n41, vl_n42, vl_n43, vl_n45, vl_n50, vl_n51, vl_n52, vl_n53, vl_n54, vl_lt0, vl_below_eq, vl_x3, vl_clesser, vl_clarger, vl_max, vl_min, vl_max', vl_ite, Int64.toBitVec_add, Int64.toBitVec_sub, Int64.toBitVec_mul, Int64.toBitVec_and, Int64.toBitVec_xor, Int64.toBitVec_or, vl_x1, vl_zero, vl_one, vl_m1, vl_top, vl_most, Bool.false_and, Bool.and_false, Bool.true_and, Bool.and_true, Bool.not_eq_true, Bool.false_eq_true, Bool.true_eq_false, not_false_eq_true, not_true, ne_eq]
  ·
    have o0 : ∀ (F : Nat → Nat → Int64) x, jv_u F o 0 x q i = F q i := fun F x => vl_out hq rfl
    have o1 : ∀ (F : Nat → Nat → Int64) x, jv_u F o 1 x q i = F q i := fun F x => vl_out hq rfl
    have o2 : ∀ (F : Nat → Nat → Int64) x, jv_u F o 2 x q i = F q i := fun F x => vl_out hq rfl
    have o3 : ∀ (F : Nat → Nat → Int64) x, jv_u F o 3 x q i = F q i := fun F x => vl_out hq rfl
    have o4 : ∀ (F : Nat → Nat → Int64) x, jv_u F o 4 x q i = F q i := fun F x => vl_out hq rfl
    have o5 : ∀ (F : Nat → Nat → Int64) x, jv_u F o 5 x q i = F q i := fun F x => vl_out hq rfl
    repeat' split
    all_goals simp only [o0, o1, o2, o3, o4, o5]

def vb_just (a : BitVec 64) : vb_S := ⟨vb_m1, a, a, a, a, a⟩
theorem vl_just {K : Nat → Option (Nat × Nat)} {I : Nat → Nat → Int32} {L : Nat → Nat → Int64} {R : Nat → Nat → Value} {o : Nat} {v : Int64} (ho : jv_isV K o) {n sl : Nat} :
    jv_Ms 150 [.ref o, .long v] (jv_H K I L R) n sl (none, jv_H K I (vl_set L o (vb_just v.toBitVec)) R, n, sl) := by
  have H := jv_s150 (L := L) (I := I) (R := R) (n := n) (sl := sl) o v ho
  refine (congrArg (fun Z => jv_Ms 150 [.ref o, .long v] (jv_H K I L R) n sl (none, jv_H K I Z R, n, sl)) ?_).mp H
  clear H
  refine vl_eq ?_ (fun q i hq => ?_)
  · unfold vl_S vb_just
    try simp only [vl_lt0, vl_below_eq, vl_x3, vl_clesser, vl_clarger, vl_max, vl_min, vl_max', vl_ite, Int64.toBitVec_add, Int64.toBitVec_sub, Int64.toBitVec_mul, Int64.toBitVec_and, Int64.toBitVec_xor, Int64.toBitVec_or, vl_x1, vl_zero, vl_one, vl_m1, vl_top, vl_most, vb_S.mask, vb_S.ones, vb_S.low, vb_S.high, vb_S.least, vb_S.greatest]
    repeat' split
    all_goals simp_all only [vl_at, vl_n01, vl_n02, vl_n03, vl_n04, vl_n05, vl_n10, vl_n12, vl_n13, vl_n14, vl_n15, vl_n20, vl_n21, vl_n23, vl_n24, vl_n25, vl_n30, vl_n31, vl_n32, vl_n34, vl_n35, vl_n40, vl_n41, vl_n42, vl_n43, vl_n45, vl_n50, vl_n51, vl_n52, vl_n53, vl_n54, vl_lt0, vl_below_eq, vl_x3, vl_clesser, vl_clarger, vl_max, vl_min, vl_max', vl_ite, Int64.toBitVec_add, Int64.toBitVec_sub, Int64.toBitVec_mul, Int64.toBitVec_and, Int64.toBitVec_xor, Int64.toBitVec_or, vl_x1, vl_zero, vl_one, vl_m1, vl_top, vl_most, Bool.false_and, Bool.and_false, Bool.true_and, Bool.and_true, Bool.not_eq_true, Bool.false_eq_true, Bool.true_eq_false, not_false_eq_true, not_true, ne_eq]
  ·
    have o0 : ∀ (F : Nat → Nat → Int64) x, jv_u F o 0 x q i = F q i := fun F x => vl_out hq rfl
    have o1 : ∀ (F : Nat → Nat → Int64) x, jv_u F o 1 x q i = F q i := fun F x => vl_out hq rfl
    have o2 : ∀ (F : Nat → Nat → Int64) x, jv_u F o 2 x q i = F q i := fun F x => vl_out hq rfl
    have o3 : ∀ (F : Nat → Nat → Int64) x, jv_u F o 3 x q i = F q i := fun F x => vl_out hq rfl
    have o4 : ∀ (F : Nat → Nat → Int64) x, jv_u F o 4 x q i = F q i := fun F x => vl_out hq rfl
    have o5 : ∀ (F : Nat → Nat → Int64) x, jv_u F o 5 x q i = F q i := fun F x => vl_out hq rfl
    repeat' split
    all_goals simp only [o0, o1, o2, o3, o4, o5]

theorem vl_saySub {K : Nat → Option (Nat × Nat)} {I : Nat → Nat → Int32} {L : Nat → Nat → Int64} {R : Nat → Nat → Value} {o x w : Nat} (ho : jv_isV K o) (hx : jv_isV K x) (hw : jv_isV K w) (h1 : o ≠ x) (h2 : o ≠ w) (ha : vl_S L o = vb_any) {n sl : Nat} :
    jv_Ms 160 [.ref o, .ref x, .ref w] (jv_H K I L R) n sl (none, jv_H K I (vl_set L o (vb_cSub (vl_S L x) (vl_S L w))) R, n, sl) := by
  have H := jv_s160 (L := L) (I := I) (R := R) (n := n) (sl := sl) o x w ho hx hw h1 h2 _ rfl _ rfl
  refine (congrArg (fun Z => jv_Ms 160 [.ref o, .ref x, .ref w] (jv_H K I L R) n sl (none, jv_H K I Z R, n, sl)) ?_).mp H
  clear H
  have a0 : (L o 0).toBitVec = 0 := congrArg vb_S.mask ha
  have a1 : (L o 1).toBitVec = 0 := congrArg vb_S.ones ha
  have a2 : (L o 2).toBitVec = 0 := congrArg vb_S.low ha
  have a3 : (L o 3).toBitVec = vb_m1 := congrArg vb_S.high ha
  have a4 : (L o 4).toBitVec = vb_top_ := congrArg vb_S.least ha
  have a5 : (L o 5).toBitVec = vb_most := congrArg vb_S.greatest ha
  refine vl_eq ?_ (fun q i hq => ?_)
  · unfold vl_S vb_cSub
    try simp only [vl_lt0, vl_below_eq, vl_x3, vl_clesser, vl_clarger, vl_max, vl_min, vl_max', vl_ite, Int64.toBitVec_add, Int64.toBitVec_sub, Int64.toBitVec_mul, Int64.toBitVec_and, Int64.toBitVec_xor, Int64.toBitVec_or, vl_x1, vl_zero, vl_one, vl_m1, vl_top, vl_most, vb_S.mask, vb_S.ones, vb_S.low, vb_S.high, vb_S.least, vb_S.greatest]
    repeat' split
    all_goals simp_all only [vl_at, vl_n01, vl_n02, vl_n03, vl_n04, vl_n05, vl_n10, vl_n12, vl_n13, vl_n14, vl_n15, vl_n20, vl_n21, vl_n23, vl_n24, vl_n25, vl_n30, vl_n31, vl_n32, vl_n34, vl_n35, vl_n40, vl_n41, vl_n42, vl_n43, vl_n45, vl_n50, vl_n51, vl_n52, vl_n53, vl_n54, vl_lt0, vl_below_eq, vl_x3, vl_clesser, vl_clarger, vl_max, vl_min, vl_max', vl_ite, Int64.toBitVec_add, Int64.toBitVec_sub, Int64.toBitVec_mul, Int64.toBitVec_and, Int64.toBitVec_xor, Int64.toBitVec_or, vl_x1, vl_zero, vl_one, vl_m1, vl_top, vl_most, Bool.false_and, Bool.and_false, Bool.true_and, Bool.and_true, Bool.not_eq_true, Bool.false_eq_true, Bool.true_eq_false, not_false_eq_true, not_true, ne_eq]
  ·
    have o0 : ∀ (F : Nat → Nat → Int64) x, jv_u F o 0 x q i = F q i := fun F x => vl_out hq rfl
    have o1 : ∀ (F : Nat → Nat → Int64) x, jv_u F o 1 x q i = F q i := fun F x => vl_out hq rfl
    have o2 : ∀ (F : Nat → Nat → Int64) x, jv_u F o 2 x q i = F q i := fun F x => vl_out hq rfl
    have o3 : ∀ (F : Nat → Nat → Int64) x, jv_u F o 3 x q i = F q i := fun F x => vl_out hq rfl
    have o4 : ∀ (F : Nat → Nat → Int64) x, jv_u F o 4 x q i = F q i := fun F x => vl_out hq rfl
    have o5 : ∀ (F : Nat → Nat → Int64) x, jv_u F o 5 x q i = F q i := fun F x => vl_out hq rfl
    repeat' split
    all_goals simp only [o0, o1, o2, o3, o4, o5]

theorem vl_sayDiv {K : Nat → Option (Nat × Nat)} {I : Nat → Nat → Int32} {L : Nat → Nat → Int64} {R : Nat → Nat → Value} {o x w : Nat} (ho : jv_isV K o) (hx : jv_isV K x) (hw : jv_isV K w) (h1 : o ≠ x) (h2 : o ≠ w) (ha : vl_S L o = vb_any) {n sl : Nat} :
    jv_Ms 164 [.ref o, .ref x, .ref w] (jv_H K I L R) n sl (none, jv_H K I (vl_set L o (vb_cDiv (vl_S L x) (vl_S L w))) R, n, sl) := by
  have H := jv_s164 (L := L) (I := I) (R := R) (n := n) (sl := sl) o x w ho hx hw h1 h2 _ rfl _ rfl
  refine (congrArg (fun Z => jv_Ms 164 [.ref o, .ref x, .ref w] (jv_H K I L R) n sl (none, jv_H K I Z R, n, sl)) ?_).mp H
  clear H
  have a0 : (L o 0).toBitVec = 0 := congrArg vb_S.mask ha
  have a1 : (L o 1).toBitVec = 0 := congrArg vb_S.ones ha
  have a2 : (L o 2).toBitVec = 0 := congrArg vb_S.low ha
  have a3 : (L o 3).toBitVec = vb_m1 := congrArg vb_S.high ha
  have a4 : (L o 4).toBitVec = vb_top_ := congrArg vb_S.least ha
  have a5 : (L o 5).toBitVec = vb_most := congrArg vb_S.greatest ha
  refine vl_eq ?_ (fun q i hq => ?_)
  · unfold vl_S vb_cDiv
    try simp only [vl_lt0, vl_below_eq, vl_x3, vl_clesser, vl_clarger, vl_max, vl_min, vl_max', vl_ite, Int64.toBitVec_add, Int64.toBitVec_sub, Int64.toBitVec_mul, Int64.toBitVec_and, Int64.toBitVec_xor, Int64.toBitVec_or, vl_x1, vl_zero, vl_one, vl_m1, vl_top, vl_most, vb_S.mask, vb_S.ones, vb_S.low, vb_S.high, vb_S.least, vb_S.greatest, vl_quotient, vl_eqb]
    repeat' split
    all_goals simp_all only [vl_at, vl_n01, vl_n02, vl_n03, vl_n04, vl_n05, vl_n10, vl_n12, vl_n13, vl_n14, vl_n15, vl_n20, vl_n21, vl_n23, vl_n24, vl_n25, vl_n30, vl_n31, vl_n32, vl_n34, vl_n35, vl_n40, vl_n41, vl_n42, vl_n43, vl_n45, vl_n50, vl_n51, vl_n52, vl_n53, vl_n54, vl_lt0, vl_below_eq, vl_x3, vl_clesser, vl_clarger, vl_max, vl_min, vl_max', vl_ite, Int64.toBitVec_add, Int64.toBitVec_sub, Int64.toBitVec_mul, Int64.toBitVec_and, Int64.toBitVec_xor, Int64.toBitVec_or, vl_x1, vl_zero, vl_one, vl_m1, vl_top, vl_most, Bool.false_and, Bool.and_false, Bool.true_and, Bool.and_true, Bool.not_eq_true, Bool.false_eq_true, Bool.true_eq_false, not_false_eq_true, not_true, ne_eq, vl_quotient, vl_eqb]
  ·
    have o0 : ∀ (F : Nat → Nat → Int64) x, jv_u F o 0 x q i = F q i := fun F x => vl_out hq rfl
    have o1 : ∀ (F : Nat → Nat → Int64) x, jv_u F o 1 x q i = F q i := fun F x => vl_out hq rfl
    have o2 : ∀ (F : Nat → Nat → Int64) x, jv_u F o 2 x q i = F q i := fun F x => vl_out hq rfl
    have o3 : ∀ (F : Nat → Nat → Int64) x, jv_u F o 3 x q i = F q i := fun F x => vl_out hq rfl
    have o4 : ∀ (F : Nat → Nat → Int64) x, jv_u F o 4 x q i = F q i := fun F x => vl_out hq rfl
    have o5 : ∀ (F : Nat → Nat → Int64) x, jv_u F o 5 x q i = F q i := fun F x => vl_out hq rfl
    repeat' split
    all_goals simp only [o0, o1, o2, o3, o4, o5]

theorem vl_sayRest {K : Nat → Option (Nat × Nat)} {I : Nat → Nat → Int32} {L : Nat → Nat → Int64} {R : Nat → Nat → Value} {o x w : Nat} (ho : jv_isV K o) (hx : jv_isV K x) (hw : jv_isV K w) (h1 : o ≠ x) (h2 : o ≠ w) (ha : vl_S L o = vb_any) {n sl : Nat} :
    jv_Ms 165 [.ref o, .ref x, .ref w] (jv_H K I L R) n sl (none, jv_H K I (vl_set L o (vb_cRest (vl_S L x) (vl_S L w))) R, n, sl) := by
  have H := jv_s165 (L := L) (I := I) (R := R) (n := n) (sl := sl) o x w ho hx hw h1 h2 _ rfl
  refine (congrArg (fun Z => jv_Ms 165 [.ref o, .ref x, .ref w] (jv_H K I L R) n sl (none, jv_H K I Z R, n, sl)) ?_).mp H
  clear H
  have a0 : (L o 0).toBitVec = 0 := congrArg vb_S.mask ha
  have a1 : (L o 1).toBitVec = 0 := congrArg vb_S.ones ha
  have a2 : (L o 2).toBitVec = 0 := congrArg vb_S.low ha
  have a3 : (L o 3).toBitVec = vb_m1 := congrArg vb_S.high ha
  have a4 : (L o 4).toBitVec = vb_top_ := congrArg vb_S.least ha
  have a5 : (L o 5).toBitVec = vb_most := congrArg vb_S.greatest ha
  refine vl_eq ?_ (fun q i hq => ?_)
  · unfold vl_S vb_cRest
    try simp only [vl_lt0, vl_below_eq, vl_x3, vl_clesser, vl_clarger, vl_max, vl_min, vl_max', vl_ite, Int64.toBitVec_add, Int64.toBitVec_sub, Int64.toBitVec_mul, Int64.toBitVec_and, Int64.toBitVec_xor, Int64.toBitVec_or, vl_x1, vl_zero, vl_one, vl_m1, vl_top, vl_most, vb_S.mask, vb_S.ones, vb_S.low, vb_S.high, vb_S.least, vb_S.greatest, vl_eqb, vl_below, vl_i10]
    repeat' split
    all_goals simp_all only [vl_at, vl_n01, vl_n02, vl_n03, vl_n04, vl_n05, vl_n10, vl_n12, vl_n13, vl_n14, vl_n15, vl_n20, vl_n21, vl_n23, vl_n24, vl_n25, vl_n30, vl_n31, vl_n32, vl_n34, vl_n35, vl_n40, vl_n41, vl_n42, vl_n43, vl_n45, vl_n50, vl_n51, vl_n52, vl_n53, vl_n54, vl_lt0, vl_below_eq, vl_x3, vl_clesser, vl_clarger, vl_max, vl_min, vl_max', vl_ite, Int64.toBitVec_add, Int64.toBitVec_sub, Int64.toBitVec_mul, Int64.toBitVec_and, Int64.toBitVec_xor, Int64.toBitVec_or, vl_x1, vl_zero, vl_one, vl_m1, vl_top, vl_most, Bool.false_and, Bool.and_false, Bool.true_and, Bool.and_true, Bool.not_eq_true, Bool.false_eq_true, Bool.true_eq_false, not_false_eq_true, not_true, ne_eq, vl_eqb, vl_below, vl_i10]
  ·
    have o0 : ∀ (F : Nat → Nat → Int64) x, jv_u F o 0 x q i = F q i := fun F x => vl_out hq rfl
    have o1 : ∀ (F : Nat → Nat → Int64) x, jv_u F o 1 x q i = F q i := fun F x => vl_out hq rfl
    have o2 : ∀ (F : Nat → Nat → Int64) x, jv_u F o 2 x q i = F q i := fun F x => vl_out hq rfl
    have o3 : ∀ (F : Nat → Nat → Int64) x, jv_u F o 3 x q i = F q i := fun F x => vl_out hq rfl
    have o4 : ∀ (F : Nat → Nat → Int64) x, jv_u F o 4 x q i = F q i := fun F x => vl_out hq rfl
    have o5 : ∀ (F : Nat → Nat → Int64) x, jv_u F o 5 x q i = F q i := fun F x => vl_out hq rfl
    repeat' split
    all_goals simp only [o0, o1, o2, o3, o4, o5]

theorem vl_sayAnd {K : Nat → Option (Nat × Nat)} {I : Nat → Nat → Int32} {L : Nat → Nat → Int64} {R : Nat → Nat → Value} {o x w : Nat} (ho : jv_isV K o) (hx : jv_isV K x) (hw : jv_isV K w) (h1 : o ≠ x) (h2 : o ≠ w) (ha : vl_S L o = vb_any) {n sl : Nat} :
    jv_Ms 166 [.ref o, .int 5, .ref x, .ref w] (jv_H K I L R) n sl (none, jv_H K I (vl_set L o (vb_cAnd (vl_S L x) (vl_S L w))) R, n, sl) := by
  have H := jv_s166 (L := L) (I := I) (R := R) (n := n) (sl := sl) o 5 x w ho hx hw h1 h2 _ rfl _ rfl
  refine (congrArg (fun Z => jv_Ms 166 [.ref o, .int 5, .ref x, .ref w] (jv_H K I L R) n sl (none, jv_H K I Z R, n, sl)) ?_).mp H
  clear H
  have a0 : (L o 0).toBitVec = 0 := congrArg vb_S.mask ha
  have a1 : (L o 1).toBitVec = 0 := congrArg vb_S.ones ha
  have a2 : (L o 2).toBitVec = 0 := congrArg vb_S.low ha
  have a3 : (L o 3).toBitVec = vb_m1 := congrArg vb_S.high ha
  have a4 : (L o 4).toBitVec = vb_top_ := congrArg vb_S.least ha
  have a5 : (L o 5).toBitVec = vb_most := congrArg vb_S.greatest ha
  refine vl_eq ?_ (fun q i hq => ?_)
  · unfold vl_S vb_cAnd
    try simp only [vl_lt0, vl_below_eq, vl_x3, vl_clesser, vl_clarger, vl_max, vl_min, vl_max', vl_ite, Int64.toBitVec_add, Int64.toBitVec_sub, Int64.toBitVec_mul, Int64.toBitVec_and, Int64.toBitVec_xor, Int64.toBitVec_or, vl_x1, vl_zero, vl_one, vl_m1, vl_top, vl_most, vb_S.mask, vb_S.ones, vb_S.low, vb_S.high, vb_S.least, vb_S.greatest, vl_45, vl_10_5, vl_10_4]
    repeat' split
    all_goals simp_all only [vl_at, vl_n01, vl_n02, vl_n03, vl_n04, vl_n05, vl_n10, vl_n12, vl_n13, vl_n14, vl_n15, vl_n20, vl_n21, vl_n23, vl_n24, vl_n25, vl_n30, vl_n31, vl_n32, vl_n34, vl_n35, vl_n40, vl_n41, vl_n42, vl_n43, vl_n45, vl_n50, vl_n51, vl_n52, vl_n53, vl_n54, vl_lt0, vl_below_eq, vl_x3, vl_clesser, vl_clarger, vl_max, vl_min, vl_max', vl_ite, Int64.toBitVec_add, Int64.toBitVec_sub, Int64.toBitVec_mul, Int64.toBitVec_and, Int64.toBitVec_xor, Int64.toBitVec_or, vl_x1, vl_zero, vl_one, vl_m1, vl_top, vl_most, Bool.false_and, Bool.and_false, Bool.true_and, Bool.and_true, Bool.not_eq_true, Bool.false_eq_true, Bool.true_eq_false, not_false_eq_true, not_true, ne_eq, vl_45, vl_10_5, vl_10_4]
  ·
    have o0 : ∀ (F : Nat → Nat → Int64) x, jv_u F o 0 x q i = F q i := fun F x => vl_out hq rfl
    have o1 : ∀ (F : Nat → Nat → Int64) x, jv_u F o 1 x q i = F q i := fun F x => vl_out hq rfl
    have o2 : ∀ (F : Nat → Nat → Int64) x, jv_u F o 2 x q i = F q i := fun F x => vl_out hq rfl
    have o3 : ∀ (F : Nat → Nat → Int64) x, jv_u F o 3 x q i = F q i := fun F x => vl_out hq rfl
    have o4 : ∀ (F : Nat → Nat → Int64) x, jv_u F o 4 x q i = F q i := fun F x => vl_out hq rfl
    have o5 : ∀ (F : Nat → Nat → Int64) x, jv_u F o 5 x q i = F q i := fun F x => vl_out hq rfl
    repeat' split
    all_goals simp only [o0, o1, o2, o3, o4, o5]

theorem vl_sayOr {K : Nat → Option (Nat × Nat)} {I : Nat → Nat → Int32} {L : Nat → Nat → Int64} {R : Nat → Nat → Value} {o x w : Nat} (ho : jv_isV K o) (hx : jv_isV K x) (hw : jv_isV K w) (h1 : o ≠ x) (h2 : o ≠ w) (ha : vl_S L o = vb_any) {n sl : Nat} :
    jv_Ms 166 [.ref o, .int 4, .ref x, .ref w] (jv_H K I L R) n sl (none, jv_H K I (vl_set L o (vb_cOr (vl_S L x) (vl_S L w))) R, n, sl) := by
  have H := jv_s166 (L := L) (I := I) (R := R) (n := n) (sl := sl) o 4 x w ho hx hw h1 h2 _ rfl _ rfl
  refine (congrArg (fun Z => jv_Ms 166 [.ref o, .int 4, .ref x, .ref w] (jv_H K I L R) n sl (none, jv_H K I Z R, n, sl)) ?_).mp H
  clear H
  have a0 : (L o 0).toBitVec = 0 := congrArg vb_S.mask ha
  have a1 : (L o 1).toBitVec = 0 := congrArg vb_S.ones ha
  have a2 : (L o 2).toBitVec = 0 := congrArg vb_S.low ha
  have a3 : (L o 3).toBitVec = vb_m1 := congrArg vb_S.high ha
  have a4 : (L o 4).toBitVec = vb_top_ := congrArg vb_S.least ha
  have a5 : (L o 5).toBitVec = vb_most := congrArg vb_S.greatest ha
  refine vl_eq ?_ (fun q i hq => ?_)
  · unfold vl_S vb_cOr
    try simp only [vl_lt0, vl_below_eq, vl_x3, vl_clesser, vl_clarger, vl_max, vl_min, vl_max', vl_ite, Int64.toBitVec_add, Int64.toBitVec_sub, Int64.toBitVec_mul, Int64.toBitVec_and, Int64.toBitVec_xor, Int64.toBitVec_or, vl_x1, vl_zero, vl_one, vl_m1, vl_top, vl_most, vb_S.mask, vb_S.ones, vb_S.low, vb_S.high, vb_S.least, vb_S.greatest, vl_45, vl_10_5, vl_10_4]
    repeat' split
    all_goals simp_all only [vl_at, vl_n01, vl_n02, vl_n03, vl_n04, vl_n05, vl_n10, vl_n12, vl_n13, vl_n14, vl_n15, vl_n20, vl_n21, vl_n23, vl_n24, vl_n25, vl_n30, vl_n31, vl_n32, vl_n34, vl_n35, vl_n40, vl_n41, vl_n42, vl_n43, vl_n45, vl_n50, vl_n51, vl_n52, vl_n53, vl_n54, vl_lt0, vl_below_eq, vl_x3, vl_clesser, vl_clarger, vl_max, vl_min, vl_max', vl_ite, Int64.toBitVec_add, Int64.toBitVec_sub, Int64.toBitVec_mul, Int64.toBitVec_and, Int64.toBitVec_xor, Int64.toBitVec_or, vl_x1, vl_zero, vl_one, vl_m1, vl_top, vl_most, Bool.false_and, Bool.and_false, Bool.true_and, Bool.and_true, Bool.not_eq_true, Bool.false_eq_true, Bool.true_eq_false, not_false_eq_true, not_true, ne_eq, vl_45, vl_10_5, vl_10_4]
  ·
    have o0 : ∀ (F : Nat → Nat → Int64) x, jv_u F o 0 x q i = F q i := fun F x => vl_out hq rfl
    have o1 : ∀ (F : Nat → Nat → Int64) x, jv_u F o 1 x q i = F q i := fun F x => vl_out hq rfl
    have o2 : ∀ (F : Nat → Nat → Int64) x, jv_u F o 2 x q i = F q i := fun F x => vl_out hq rfl
    have o3 : ∀ (F : Nat → Nat → Int64) x, jv_u F o 3 x q i = F q i := fun F x => vl_out hq rfl
    have o4 : ∀ (F : Nat → Nat → Int64) x, jv_u F o 4 x q i = F q i := fun F x => vl_out hq rfl
    have o5 : ∀ (F : Nat → Nat → Int64) x, jv_u F o 5 x q i = F q i := fun F x => vl_out hq rfl
    repeat' split
    all_goals simp only [o0, o1, o2, o3, o4, o5]

theorem vl_sayXor {K : Nat → Option (Nat × Nat)} {I : Nat → Nat → Int32} {L : Nat → Nat → Int64} {R : Nat → Nat → Value} {o x w : Nat} (ho : jv_isV K o) (hx : jv_isV K x) (hw : jv_isV K w) (h1 : o ≠ x) (h2 : o ≠ w) (ha : vl_S L o = vb_any) {n sl : Nat} :
    jv_Ms 166 [.ref o, .int 10, .ref x, .ref w] (jv_H K I L R) n sl (none, jv_H K I (vl_set L o (vb_cXor (vl_S L x) (vl_S L w))) R, n, sl) := by
  have H := jv_s166 (L := L) (I := I) (R := R) (n := n) (sl := sl) o 10 x w ho hx hw h1 h2 _ rfl _ rfl
  refine (congrArg (fun Z => jv_Ms 166 [.ref o, .int 10, .ref x, .ref w] (jv_H K I L R) n sl (none, jv_H K I Z R, n, sl)) ?_).mp H
  clear H
  have a0 : (L o 0).toBitVec = 0 := congrArg vb_S.mask ha
  have a1 : (L o 1).toBitVec = 0 := congrArg vb_S.ones ha
  have a2 : (L o 2).toBitVec = 0 := congrArg vb_S.low ha
  have a3 : (L o 3).toBitVec = vb_m1 := congrArg vb_S.high ha
  have a4 : (L o 4).toBitVec = vb_top_ := congrArg vb_S.least ha
  have a5 : (L o 5).toBitVec = vb_most := congrArg vb_S.greatest ha
  refine vl_eq ?_ (fun q i hq => ?_)
  · unfold vl_S vb_cXor
    try simp only [vl_lt0, vl_below_eq, vl_x3, vl_clesser, vl_clarger, vl_max, vl_min, vl_max', vl_ite, Int64.toBitVec_add, Int64.toBitVec_sub, Int64.toBitVec_mul, Int64.toBitVec_and, Int64.toBitVec_xor, Int64.toBitVec_or, vl_x1, vl_zero, vl_one, vl_m1, vl_top, vl_most, vb_S.mask, vb_S.ones, vb_S.low, vb_S.high, vb_S.least, vb_S.greatest, vl_45, vl_10_5, vl_10_4]
    repeat' split
    all_goals simp_all only [vl_at, vl_n01, vl_n02, vl_n03, vl_n04, vl_n05, vl_n10, vl_n12, vl_n13, vl_n14, vl_n15, vl_n20, vl_n21, vl_n23, vl_n24, vl_n25, vl_n30, vl_n31, vl_n32, vl_n34, vl_n35, vl_n40, vl_n41, vl_n42, vl_n43, vl_n45, vl_n50, vl_n51, vl_n52, vl_n53, vl_n54, vl_lt0, vl_below_eq, vl_x3, vl_clesser, vl_clarger, vl_max, vl_min, vl_max', vl_ite, Int64.toBitVec_add, Int64.toBitVec_sub, Int64.toBitVec_mul, Int64.toBitVec_and, Int64.toBitVec_xor, Int64.toBitVec_or, vl_x1, vl_zero, vl_one, vl_m1, vl_top, vl_most, Bool.false_and, Bool.and_false, Bool.true_and, Bool.and_true, Bool.not_eq_true, Bool.false_eq_true, Bool.true_eq_false, not_false_eq_true, not_true, ne_eq, vl_45, vl_10_5, vl_10_4]
  ·
    have o0 : ∀ (F : Nat → Nat → Int64) x, jv_u F o 0 x q i = F q i := fun F x => vl_out hq rfl
    have o1 : ∀ (F : Nat → Nat → Int64) x, jv_u F o 1 x q i = F q i := fun F x => vl_out hq rfl
    have o2 : ∀ (F : Nat → Nat → Int64) x, jv_u F o 2 x q i = F q i := fun F x => vl_out hq rfl
    have o3 : ∀ (F : Nat → Nat → Int64) x, jv_u F o 3 x q i = F q i := fun F x => vl_out hq rfl
    have o4 : ∀ (F : Nat → Nat → Int64) x, jv_u F o 4 x q i = F q i := fun F x => vl_out hq rfl
    have o5 : ∀ (F : Nat → Nat → Int64) x, jv_u F o 5 x q i = F q i := fun F x => vl_out hq rfl
    repeat' split
    all_goals simp only [o0, o1, o2, o3, o4, o5]
