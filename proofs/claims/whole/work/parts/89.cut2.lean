/-! tight if it can be; runs on objects that were told -/
def vb_tt (v : vb_S) : vb_S := if vb_can v = true then vb_ctight v else v
section V89
variable {K : Nat → Option (Nat × Nat)} {I : Nat → Nat → Int32} {L : Nat → Nat → Int64} {R : Nat → Nat → Value}
theorem vl_tight1 {o : Nat} (ho : jv_isV K o) {n sl : Nat} :
    jv_Ms 155 [.ref o] (jv_H K I L R) n sl (some (.int (if vb_can (vl_S L o) = true then 1 else 0)), jv_H K I (vl_set L o (vb_tt (vl_S L o))) R, n, sl) := by
  have H := vl_tighten (I := I) (L := L) (R := R) (n := n) (sl := sl) ho
  refine (congrArg (fun Z => jv_Ms 155 [.ref o] (jv_H K I L R) n sl (some (.int (if vb_can (vl_S L o) = true then 1 else 0)), jv_H K I Z R, n, sl)) ?_).mp H
  unfold vb_tt
  split
  · rfl
  · exact (vl_set_same L o).symm
theorem vl_tight2 {o : Nat} {v : vb_S} (ho : jv_isV K o) {n sl : Nat} :
    jv_Ms 155 [.ref o] (jv_H K I (vl_set L o v) R) n sl (some (.int (if vb_can v = true then 1 else 0)), jv_H K I (vl_set L o (vb_tt v)) R, n, sl) := by
  have H := vl_tight1 (I := I) (L := vl_set L o v) (R := R) (n := n) (sl := sl) ho
  rw [vl_set_S, vl_set_set] at H
  exact H
theorem vl_any2 {o : Nat} {v : vb_S} (ho : jv_isV K o) {n sl : Nat} :
    jv_Ms 149 [.ref o] (jv_H K I (vl_set L o v) R) n sl (none, jv_H K I (vl_set L o vb_any) R, n, sl) := by
  have H := vl_any (I := I) (L := vl_set L o v) (R := R) (n := n) (sl := sl) ho
  rw [vl_set_set] at H
  exact H
theorem vl_sayCut {o x m : Nat} (ho : jv_isV K o) (hx : jv_isV K x) (h1 : o ≠ x) (hm : m ≤ 64) {n sl : Nat} :
    jv_Ms 171 [.ref o, .ref x, .int (vl_I m)] (jv_H K I L R) n sl (none, jv_H K I (vl_set L o (vb_cCut (vl_S L x) m)) R, n, sl) := by
  have H := jv_s171 (I := I) (L := L) (R := R) (n := n) (sl := sl) o x (vl_I m) ho hx h1
  refine (congrArg (fun Z => jv_Ms 171 [.ref o, .ref x, .int (vl_I m)] (jv_H K I L R) n sl (none, jv_H K I Z R, n, sl)) ?_).mp H
  clear H
  have hlt : (vl_I m < (64 : Int32)) ↔ m < 64 := by rw [show (64 : Int32) = vl_I 64 from by decide]; exact vl_I_lt (by omega) (by omega)
  have hl : (jv_clowest (vl_I m)).toBitVec = vb_lowest m := vl_lowk (by omega)
  unfold vb_cCut
  by_cases h : m < 64
  · rw [if_neg (show ¬ 64 ≤ m by omega), if_pos (hlt.mpr h)]
    refine vl_eq ?_ (fun q i hq => ?_)
    · unfold vl_S
      try simp only [vl_lt0, vl_below_eq, vl_x3, vl_clesser, vl_clarger, vl_max, vl_min, vl_ite, Int64.toBitVec_add, Int64.toBitVec_sub, Int64.toBitVec_mul, Int64.toBitVec_and, Int64.toBitVec_xor, Int64.toBitVec_or, vl_x1, vl_zero, vl_one, vl_m1, vl_top, vl_most, vb_S.mask, vb_S.ones, vb_S.low, vb_S.high, vb_S.least, vb_S.greatest, hl, vl_eqb]
      repeat' split
      all_goals simp_all only [vl_at, vl_n01, vl_n02, vl_n03, vl_n04, vl_n05, vl_n10, vl_n12, vl_n13, vl_n14, vl_n15, vl_n20, vl_n21, vl_n23, vl_n24, vl_n25, vl_n30, vl_n31, vl_n32, vl_n34, vl_n35, vl_n40, vl_n41, vl_n42, vl_n43, vl_n45, vl_n50, vl_n51, vl_n52, vl_n53, vl_n54, vl_lt0, vl_below_eq, vl_x3, vl_clesser, vl_clarger, vl_max, vl_min, vl_ite, Int64.toBitVec_add, Int64.toBitVec_sub, Int64.toBitVec_mul, Int64.toBitVec_and, Int64.toBitVec_xor, Int64.toBitVec_or, vl_x1, vl_zero, vl_one, vl_m1, vl_top, vl_most, Bool.false_and, Bool.and_false, Bool.true_and, Bool.and_true, Bool.not_eq_true, Bool.false_eq_true, Bool.true_eq_false, not_false_eq_true, not_true, ne_eq, decide_true, decide_false, Bool.true_or, Bool.or_true, Bool.false_or, Bool.or_false, Bool.not_true, Bool.not_false, vl_eqb, Classical.not_not]
    ·
      have o0 : ∀ (F : Nat → Nat → Int64) x, jv_u F o 0 x q i = F q i := fun F x => vl_out hq rfl
      have o1 : ∀ (F : Nat → Nat → Int64) x, jv_u F o 1 x q i = F q i := fun F x => vl_out hq rfl
      have o2 : ∀ (F : Nat → Nat → Int64) x, jv_u F o 2 x q i = F q i := fun F x => vl_out hq rfl
      have o3 : ∀ (F : Nat → Nat → Int64) x, jv_u F o 3 x q i = F q i := fun F x => vl_out hq rfl
      have o4 : ∀ (F : Nat → Nat → Int64) x, jv_u F o 4 x q i = F q i := fun F x => vl_out hq rfl
      have o5 : ∀ (F : Nat → Nat → Int64) x, jv_u F o 5 x q i = F q i := fun F x => vl_out hq rfl
      repeat' split
      all_goals simp only [o0, o1, o2, o3, o4, o5]
  · rw [if_pos (show 64 ≤ m by omega), if_neg (fun h' => h (hlt.mp h'))]
    refine vl_eq ?_ (fun q i hq => ?_)
    · unfold vl_S
      simp only [vl_at, vl_n01, vl_n02, vl_n03, vl_n04, vl_n05, vl_n10, vl_n12, vl_n13, vl_n14, vl_n15, vl_n20, vl_n21, vl_n23, vl_n24, vl_n25, vl_n30, vl_n31, vl_n32, vl_n34, vl_n35, vl_n40, vl_n41, vl_n42, vl_n43, vl_n45, vl_n50, vl_n51, vl_n52, vl_n53, vl_n54]
    ·
      have o0 : ∀ (F : Nat → Nat → Int64) x, jv_u F o 0 x q i = F q i := fun F x => vl_out hq rfl
      have o1 : ∀ (F : Nat → Nat → Int64) x, jv_u F o 1 x q i = F q i := fun F x => vl_out hq rfl
      have o2 : ∀ (F : Nat → Nat → Int64) x, jv_u F o 2 x q i = F q i := fun F x => vl_out hq rfl
      have o3 : ∀ (F : Nat → Nat → Int64) x, jv_u F o 3 x q i = F q i := fun F x => vl_out hq rfl
      have o4 : ∀ (F : Nat → Nat → Int64) x, jv_u F o 4 x q i = F q i := fun F x => vl_out hq rfl
      have o5 : ∀ (F : Nat → Nat → Int64) x, jv_u F o 5 x q i = F q i := fun F x => vl_out hq rfl
      simp only [o0, o1, o2, o3, o4, o5]
end V89
