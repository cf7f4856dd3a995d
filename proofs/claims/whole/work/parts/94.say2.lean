/-! the operations over an object of which nothing is said yet -/
def vb_cBits (c : Int32) (x y : vb_S) : vb_S := if c = 5 then vb_cAnd x y else if c = 4 then vb_cOr x y else vb_cXor x y
section V94
variable {K : Nat → Option (Nat × Nat)} {I : Nat → Nat → Int32} {L : Nat → Nat → Int64} {R : Nat → Nat → Value}
theorem vl_sayBits {o x w : Nat} (c : Int32) (ho : jv_isV K o) (hx : jv_isV K x) (hw : jv_isV K w) (h1 : o ≠ x) (h2 : o ≠ w) (ha : vl_S L o = vb_any) {n sl : Nat} :
    jv_Ms 166 [.ref o, .int c, .ref x, .ref w] (jv_H K I L R) n sl (none, jv_H K I (vl_set L o (vb_cBits c (vl_S L x) (vl_S L w))) R, n, sl) := by
  unfold vb_cBits
  by_cases c5 : c = 5
  · rw [if_pos c5, c5]; exact vl_sayAnd ho hx hw h1 h2 ha
  by_cases c4 : c = 4
  · rw [if_neg c5, if_pos c4, c4]; exact vl_sayOr ho hx hw h1 h2 ha
  rw [if_neg c5, if_neg c4]
  have H := jv_s166 (L := L) (I := I) (R := R) (n := n) (sl := sl) o c x w ho hx hw h1 h2 _ rfl _ rfl
  have H2 := vl_sayXor (I := I) (R := R) (n := n) (sl := sl) ho hx hw h1 h2 ha
  have H3 := jv_s166 (L := L) (I := I) (R := R) (n := n) (sl := sl) o 10 x w ho hx hw h1 h2 _ rfl _ rfl
  simp only [c5, c4, not_false_eq_true, if_true] at H
  refine (congrArg (fun Z => jv_Ms 166 [.ref o, .int c, .ref x, .ref w] (jv_H K I L R) n sl (none, jv_H K I Z R, n, sl)) ?_).mp H
  clear H H2 H3
  have a0 : (L o 0).toBitVec = 0 := congrArg vb_S.mask ha
  have a1 : (L o 1).toBitVec = 0 := congrArg vb_S.ones ha
  have a2 : (L o 2).toBitVec = 0 := congrArg vb_S.low ha
  have a3 : (L o 3).toBitVec = vb_m1 := congrArg vb_S.high ha
  have a4 : (L o 4).toBitVec = vb_top_ := congrArg vb_S.least ha
  have a5 : (L o 5).toBitVec = vb_most := congrArg vb_S.greatest ha
  refine vl_eq ?_ (fun q i hq => ?_)
  · unfold vl_S vb_cXor
    simp only [vl_at, vl_n01, vl_n02, vl_n03, vl_n04, vl_n05, vl_n10, vl_n12, vl_n13, vl_n14, vl_n15, vl_n20, vl_n21, vl_n23, vl_n24, vl_n25, vl_n30, vl_n31, vl_n32, vl_n34, vl_n35, vl_n40, vl_n41, vl_n42, vl_n43, vl_n45, vl_n50, vl_n51, vl_n52, vl_n53, vl_n54, vl_lt0, vl_below_eq, vl_x3, vl_clesser, vl_clarger, vl_max, vl_min, vl_ite, Int64.toBitVec_add, Int64.toBitVec_sub, Int64.toBitVec_mul, Int64.toBitVec_and, Int64.toBitVec_xor, Int64.toBitVec_or, vl_x1, vl_zero, vl_one, vl_m1, vl_top, vl_most]
    simp only [a2, a3, a4, a5]
  ·
    have o0 : ∀ (F : Nat → Nat → Int64) x, jv_u F o 0 x q i = F q i := fun F x => vl_out hq rfl
    have o1 : ∀ (F : Nat → Nat → Int64) x, jv_u F o 1 x q i = F q i := fun F x => vl_out hq rfl
    have o2 : ∀ (F : Nat → Nat → Int64) x, jv_u F o 2 x q i = F q i := fun F x => vl_out hq rfl
    have o3 : ∀ (F : Nat → Nat → Int64) x, jv_u F o 3 x q i = F q i := fun F x => vl_out hq rfl
    have o4 : ∀ (F : Nat → Nat → Int64) x, jv_u F o 4 x q i = F q i := fun F x => vl_out hq rfl
    have o5 : ∀ (F : Nat → Nat → Int64) x, jv_u F o 5 x q i = F q i := fun F x => vl_out hq rfl
    simp only [o0, o1, o2, o3, o4, o5]
theorem vs_sayAdd {o x w : Nat} (ho : jv_isV K o) (hx : jv_isV K x) (hw : jv_isV K w) (h1 : o ≠ x) (h2 : o ≠ w) {n sl : Nat} :
    jv_Ms 159 [.ref o, .ref x, .ref w] (jv_H K I (vl_set L o vb_any) R) n sl (none, jv_H K I (vl_set L o (vb_cAdd (vl_S L x) (vl_S L w))) R, n, sl) := by
  have H := vl_sayAdd (I := I) (R := R) (L := vl_set L o vb_any) (n := n) (sl := sl) ho hx hw h1 h2 (vl_set_S L o vb_any)
  rw [vl_set_set, vl_set_o (Ne.symm h1), vl_set_o (Ne.symm h2)] at H
  exact H
theorem vs_saySub {o x w : Nat} (ho : jv_isV K o) (hx : jv_isV K x) (hw : jv_isV K w) (h1 : o ≠ x) (h2 : o ≠ w) {n sl : Nat} :
    jv_Ms 160 [.ref o, .ref x, .ref w] (jv_H K I (vl_set L o vb_any) R) n sl (none, jv_H K I (vl_set L o (vb_cSub (vl_S L x) (vl_S L w))) R, n, sl) := by
  have H := vl_saySub (I := I) (R := R) (L := vl_set L o vb_any) (n := n) (sl := sl) ho hx hw h1 h2 (vl_set_S L o vb_any)
  rw [vl_set_set, vl_set_o (Ne.symm h1), vl_set_o (Ne.symm h2)] at H
  exact H
theorem vs_sayMul {o x w : Nat} (ho : jv_isV K o) (hx : jv_isV K x) (hw : jv_isV K w) (h1 : o ≠ x) (h2 : o ≠ w) {n sl : Nat} :
    jv_Ms 161 [.ref o, .ref x, .ref w] (jv_H K I (vl_set L o vb_any) R) n sl (none, jv_H K I (vl_set L o (vb_cMul (vl_S L x) (vl_S L w))) R, n, sl) := by
  have H := vl_sayMul (I := I) (R := R) (L := vl_set L o vb_any) (n := n) (sl := sl) ho hx hw h1 h2 (vl_set_S L o vb_any)
  rw [vl_set_set, vl_set_o (Ne.symm h1), vl_set_o (Ne.symm h2)] at H
  exact H
theorem vs_sayDiv {o x w : Nat} (ho : jv_isV K o) (hx : jv_isV K x) (hw : jv_isV K w) (h1 : o ≠ x) (h2 : o ≠ w) {n sl : Nat} :
    jv_Ms 164 [.ref o, .ref x, .ref w] (jv_H K I (vl_set L o vb_any) R) n sl (none, jv_H K I (vl_set L o (vb_cDiv (vl_S L x) (vl_S L w))) R, n, sl) := by
  have H := vl_sayDiv (I := I) (R := R) (L := vl_set L o vb_any) (n := n) (sl := sl) ho hx hw h1 h2 (vl_set_S L o vb_any)
  rw [vl_set_set, vl_set_o (Ne.symm h1), vl_set_o (Ne.symm h2)] at H
  exact H
theorem vs_sayRest {o x w : Nat} (ho : jv_isV K o) (hx : jv_isV K x) (hw : jv_isV K w) (h1 : o ≠ x) (h2 : o ≠ w) {n sl : Nat} :
    jv_Ms 165 [.ref o, .ref x, .ref w] (jv_H K I (vl_set L o vb_any) R) n sl (none, jv_H K I (vl_set L o (vb_cRest (vl_S L x) (vl_S L w))) R, n, sl) := by
  have H := vl_sayRest (I := I) (R := R) (L := vl_set L o vb_any) (n := n) (sl := sl) ho hx hw h1 h2 (vl_set_S L o vb_any)
  rw [vl_set_set, vl_set_o (Ne.symm h1), vl_set_o (Ne.symm h2)] at H
  exact H
theorem vs_sayBits (c : Int32) {o x w : Nat} (ho : jv_isV K o) (hx : jv_isV K x) (hw : jv_isV K w) (h1 : o ≠ x) (h2 : o ≠ w) {n sl : Nat} :
    jv_Ms 166 [.ref o, .int c, .ref x, .ref w] (jv_H K I (vl_set L o vb_any) R) n sl (none, jv_H K I (vl_set L o (vb_cBits c (vl_S L x) (vl_S L w))) R, n, sl) := by
  have H := vl_sayBits (I := I) (R := R) (L := vl_set L o vb_any) (n := n) (sl := sl) c ho hx hw h1 h2 (vl_set_S L o vb_any)
  rw [vl_set_set, vl_set_o (Ne.symm h1), vl_set_o (Ne.symm h2)] at H
  exact H
theorem vs_sayLeft {o x w : Nat} (ho : jv_isV K o) (hx : jv_isV K x) (hw : jv_isV K w) (h1 : o ≠ x) (h2 : o ≠ w) {t : Int32} {top : Nat} (ht : (t = 63 ∧ top = 63) ∨ (t = 31 ∧ top = 31)) (hle : (vl_S L w).low.toNat ≤ (vl_S L w).high.toNat) {n sl : Nat} :
    jv_Ms 167 [.ref o, .ref x, .ref w, .int t] (jv_H K I (vl_set L o vb_any) R) n sl (none, jv_H K I (vl_set L o (vb_cLeft (vl_S L x) (vl_S L w) top)) R, n, sl) := by
  have H := vl_sayLeft (I := I) (R := R) (L := vl_set L o vb_any) (n := n) (sl := sl) ho hx hw h1 h2 (vl_set_S L o vb_any) ht (by rw [vl_set_o (Ne.symm h2)]; exact hle)
  rw [vl_set_set, vl_set_o (Ne.symm h1), vl_set_o (Ne.symm h2)] at H
  exact H
theorem vs_sayRight {o x w : Nat} (ho : jv_isV K o) (hx : jv_isV K x) (hw : jv_isV K w) (h1 : o ≠ x) (h2 : o ≠ w) {t : Int32} {top : Nat} (ht : (t = 63 ∧ top = 63) ∨ (t = 31 ∧ top = 31)) (hle : (vl_S L w).low.toNat ≤ (vl_S L w).high.toNat) {n sl : Nat} :
    jv_Ms 168 [.ref o, .ref x, .ref w, .int t] (jv_H K I (vl_set L o vb_any) R) n sl (none, jv_H K I (vl_set L o (vb_cRight (vl_S L x) (vl_S L w) top)) R, n, sl) := by
  have H := vl_sayRight (I := I) (R := R) (L := vl_set L o vb_any) (n := n) (sl := sl) ho hx hw h1 h2 (vl_set_S L o vb_any) ht (by rw [vl_set_o (Ne.symm h2)]; exact hle)
  rw [vl_set_set, vl_set_o (Ne.symm h1), vl_set_o (Ne.symm h2)] at H
  exact H
theorem vs_saySRight {o x w : Nat} (ho : jv_isV K o) (hx : jv_isV K x) (hw : jv_isV K w) (h1 : o ≠ x) (h2 : o ≠ w) {t : Int32} {top : Nat} (ht : (t = 63 ∧ top = 63) ∨ (t = 31 ∧ top = 31)) (hle : (vl_S L w).low.toNat ≤ (vl_S L w).high.toNat) {n sl : Nat} :
    jv_Ms 169 [.ref o, .ref x, .ref w, .int t] (jv_H K I (vl_set L o vb_any) R) n sl (none, jv_H K I (vl_set L o (vb_cSRight (vl_S L x) (vl_S L w) top)) R, n, sl) := by
  have H := vl_saySRight (I := I) (R := R) (L := vl_set L o vb_any) (n := n) (sl := sl) ho hx hw h1 h2 (vl_set_S L o vb_any) ht (by rw [vl_set_o (Ne.symm h2)]; exact hle)
  rw [vl_set_set, vl_set_o (Ne.symm h1), vl_set_o (Ne.symm h2)] at H
  exact H
theorem vs_sayings {o w : Nat} (ho : jv_isV K o) (hw : jv_isV K w) (h1 : o ≠ w) {v : vb_S} {n sl : Nat} :
    jv_Ms 151 [.ref o, .ref w] (jv_H K I (vl_set L o v) R) n sl (none, jv_H K I (vl_set L o (vl_S L w)) R, n, sl) := by
  have H := vl_sayings (I := I) (R := R) (L := vl_set L o v) (n := n) (sl := sl) ho hw h1
  rw [vl_set_set, vl_set_o (Ne.symm h1)] at H
  exact H
end V94
