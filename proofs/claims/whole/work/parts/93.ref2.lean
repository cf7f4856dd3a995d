/-! refinements of two objects -/
def vl_set2 (L : Nat → Nat → Int64) (x w : Nat) : Option (vb_S × vb_S) → Nat → Nat → Int64
  | none => L
  | some p => vl_set (vl_set L x p.1) w p.2
def vl_b2 : Option (vb_S × vb_S) → Int32
  | none => 0
  | some _ => 1
theorem vl_eq2 {L L' : Nat → Nat → Int64} {x w : Nat} {a b : vb_S} (hne : x ≠ w) (h1 : vl_S L' x = a) (h2 : vl_S L' w = b) (h' : ∀ q i, ¬ (q = x ∧ i < 6) → ¬ (q = w ∧ i < 6) → L' q i = L q i) : L' = vl_set2 L x w (some (a, b)) := by
  show L' = vl_set (vl_set L x a) w b
  refine vl_eq h2 (fun q i hq => ?_)
  by_cases hx : q = x ∧ i < 6
  · obtain ⟨rfl, hi⟩ := hx
    have := congrFun (congrFun (vl_eq (L := L') (L' := L') (o := q) h1 (fun _ _ _ => rfl)) q) i
    rw [this]
    unfold vl_set
    rw [if_pos ⟨rfl, hi⟩, if_pos ⟨rfl, hi⟩]
  · rw [vl_set_out hx]; exact h' q i hx hq
theorem vl_oth {α : Type} {F : Nat → Nat → α} {o j q i : Nat} {x : α} (h : q ≠ o) : jv_u F o j x q i = F q i := by
  unfold jv_u
  rw [show (q.beq o) = false from by cases e : q.beq o; rfl; exact absurd (Nat.eq_of_beq_eq_true e) h]; rfl

theorem vl_sayBelow {K : Nat → Option (Nat × Nat)} {I : Nat → Nat → Int32} {L : Nat → Nat → Int64} {R : Nat → Nat → Value} {x w : Nat} (hx : jv_isV K x) (hw : jv_isV K w) (h1 : x ≠ w) {n sl : Nat} :
    jv_Ms 181 [.ref x, .ref w] (jv_H K I L R) n sl (some (.int (vl_b2 (vb_rBelow (vl_S L x) (vl_S L w)))), jv_H K I (vl_set2 L x w (vb_rBelow (vl_S L x) (vl_S L w))) R, n, sl) := by
  have H := jv_s181 (L := L) (I := I) (R := R) (n := n) (sl := sl) x w hx hw h1
  have nx : ∀ (F : Nat → Nat → Int64) j y i, jv_u F w j y x i = F x i := fun F j y i => vl_oth h1
  have nw : ∀ (F : Nat → Nat → Int64) j y i, jv_u F x j y w i = F w i := fun F j y i => vl_oth (Ne.symm h1)
  by_cases c1 : (L w 3) = (0 : Int64)
  · have r : vb_rBelow (vl_S L x) (vl_S L w) = none := if_pos (Or.inl (congrArg Int64.toBitVec c1))
    rw [r]; simp only [c1, if_true] at H; exact H
  by_cases c2 : (L x 2) = (-1 : Int64)
  · have r : vb_rBelow (vl_S L x) (vl_S L w) = none := if_pos (Or.inr ((congrArg Int64.toBitVec c2).trans vl_m1))
    rw [r]; simp only [c1, c2, not_true, if_false] at H; exact H
  simp only [c1, c2, not_false_eq_true, if_true, if_false] at H
  unfold vb_rBelow
  rw [if_neg (fun h => h.elim (fun h => c1 (Int64.toBitVec_inj.mp h)) (fun h => c2 (Int64.toBitVec_inj.mp h)))]
  refine (congrArg (fun Z => jv_Ms 181 [.ref x, .ref w] (jv_H K I L R) n sl (some (.int 1), jv_H K I Z R, n, sl)) ?_).mp H
  clear H
  refine vl_eq2 h1 ?_ ?_ (fun q i hx hw => ?_)
  · unfold vl_S
    simp only [nx, vl_at, vl_n01, vl_n02, vl_n03, vl_n04, vl_n05, vl_n10, vl_n12, vl_n13, vl_n14, vl_n15, vl_n20, vl_n21, vl_n23, vl_n24, vl_n25, vl_n30, vl_n31, vl_n32, vl_n34, vl_n35, vl_n40, vl_n41, vl_n42, vl_n43, vl_n45, vl_n50, vl_n51, vl_n52, vl_n53, vl_n54, vl_lt0, vl_below_eq, vl_x3, vl_clesser, vl_clarger, vl_max, vl_min, Int64.toBitVec_add, Int64.toBitVec_sub, Int64.toBitVec_mul, Int64.toBitVec_and, Int64.toBitVec_xor, Int64.toBitVec_or, vl_x1, vl_zero, vl_one, vl_m1, vl_top, vl_most]
    try rfl
  · unfold vl_S
    simp only [nw, vl_at, vl_n01, vl_n02, vl_n03, vl_n04, vl_n05, vl_n10, vl_n12, vl_n13, vl_n14, vl_n15, vl_n20, vl_n21, vl_n23, vl_n24, vl_n25, vl_n30, vl_n31, vl_n32, vl_n34, vl_n35, vl_n40, vl_n41, vl_n42, vl_n43, vl_n45, vl_n50, vl_n51, vl_n52, vl_n53, vl_n54, vl_lt0, vl_below_eq, vl_x3, vl_clesser, vl_clarger, vl_max, vl_min, Int64.toBitVec_add, Int64.toBitVec_sub, Int64.toBitVec_mul, Int64.toBitVec_and, Int64.toBitVec_xor, Int64.toBitVec_or, vl_x1, vl_zero, vl_one, vl_m1, vl_top, vl_most]
    try rfl
  ·
    have x0 : ∀ (F : Nat → Nat → Int64) y, jv_u F x 0 y q i = F q i := fun F y => vl_out hx rfl
    have x1 : ∀ (F : Nat → Nat → Int64) y, jv_u F x 1 y q i = F q i := fun F y => vl_out hx rfl
    have x2 : ∀ (F : Nat → Nat → Int64) y, jv_u F x 2 y q i = F q i := fun F y => vl_out hx rfl
    have x3 : ∀ (F : Nat → Nat → Int64) y, jv_u F x 3 y q i = F q i := fun F y => vl_out hx rfl
    have x4 : ∀ (F : Nat → Nat → Int64) y, jv_u F x 4 y q i = F q i := fun F y => vl_out hx rfl
    have x5 : ∀ (F : Nat → Nat → Int64) y, jv_u F x 5 y q i = F q i := fun F y => vl_out hx rfl
    have w0 : ∀ (F : Nat → Nat → Int64) y, jv_u F w 0 y q i = F q i := fun F y => vl_out hw rfl
    have w1 : ∀ (F : Nat → Nat → Int64) y, jv_u F w 1 y q i = F q i := fun F y => vl_out hw rfl
    have w2 : ∀ (F : Nat → Nat → Int64) y, jv_u F w 2 y q i = F q i := fun F y => vl_out hw rfl
    have w3 : ∀ (F : Nat → Nat → Int64) y, jv_u F w 3 y q i = F q i := fun F y => vl_out hw rfl
    have w4 : ∀ (F : Nat → Nat → Int64) y, jv_u F w 4 y q i = F q i := fun F y => vl_out hw rfl
    have w5 : ∀ (F : Nat → Nat → Int64) y, jv_u F w 5 y q i = F q i := fun F y => vl_out hw rfl
    simp only [x0, x1, x2, x3, x4, x5, w0, w1, w2, w3, w4, w5]

theorem vl_sayLess {K : Nat → Option (Nat × Nat)} {I : Nat → Nat → Int32} {L : Nat → Nat → Int64} {R : Nat → Nat → Value} {x w : Nat} (hx : jv_isV K x) (hw : jv_isV K w) (h1 : x ≠ w) {n sl : Nat} :
    jv_Ms 183 [.ref x, .ref w] (jv_H K I L R) n sl (some (.int (vl_b2 (vb_rLess (vl_S L x) (vl_S L w)))), jv_H K I (vl_set2 L x w (vb_rLess (vl_S L x) (vl_S L w))) R, n, sl) := by
  have H := jv_s183 (L := L) (I := I) (R := R) (n := n) (sl := sl) x w hx hw h1 _ rfl _ rfl
  have nx : ∀ (F : Nat → Nat → Int64) j y i, jv_u F w j y x i = F x i := fun F j y i => vl_oth h1
  have nw : ∀ (F : Nat → Nat → Int64) j y i, jv_u F x j y w i = F w i := fun F j y i => vl_oth (Ne.symm h1)
  by_cases c1 : (L w 5) = (-9223372036854775808 : Int64)
  · have r : vb_rLess (vl_S L x) (vl_S L w) = none := if_pos (Or.inl ((congrArg Int64.toBitVec c1).trans vl_top))
    rw [r]; simp only [c1, if_true] at H; exact H
  by_cases c2 : (L x 4) = (9223372036854775807 : Int64)
  · have r : vb_rLess (vl_S L x) (vl_S L w) = none := if_pos (Or.inr ((congrArg Int64.toBitVec c2).trans vl_most))
    rw [r]; simp only [c1, c2, not_true, if_false] at H; exact H
  simp only [c1, c2, not_false_eq_true, if_true, if_false] at H
  unfold vb_rLess
  rw [if_neg (fun h => h.elim (fun h => c1 (Int64.toBitVec_inj.mp h)) (fun h => c2 (Int64.toBitVec_inj.mp h)))]
  refine (congrArg (fun Z => jv_Ms 183 [.ref x, .ref w] (jv_H K I L R) n sl (some (.int 1), jv_H K I Z R, n, sl)) ?_).mp H
  clear H
  refine vl_eq2 h1 ?_ ?_ (fun q i hx hw => ?_)
  · unfold vl_S
    simp only [nx, vl_at, vl_n01, vl_n02, vl_n03, vl_n04, vl_n05, vl_n10, vl_n12, vl_n13, vl_n14, vl_n15, vl_n20, vl_n21, vl_n23, vl_n24, vl_n25, vl_n30, vl_n31, vl_n32, vl_n34, vl_n35, vl_n40, vl_n41, vl_n42, vl_n43, vl_n45, vl_n50, vl_n51, vl_n52, vl_n53, vl_n54, vl_lt0, vl_below_eq, vl_x3, vl_clesser, vl_clarger, vl_max, vl_min, Int64.toBitVec_add, Int64.toBitVec_sub, Int64.toBitVec_mul, Int64.toBitVec_and, Int64.toBitVec_xor, Int64.toBitVec_or, vl_x1, vl_zero, vl_one, vl_m1, vl_top, vl_most]
    try rfl
  · unfold vl_S
    simp only [nw, vl_at, vl_n01, vl_n02, vl_n03, vl_n04, vl_n05, vl_n10, vl_n12, vl_n13, vl_n14, vl_n15, vl_n20, vl_n21, vl_n23, vl_n24, vl_n25, vl_n30, vl_n31, vl_n32, vl_n34, vl_n35, vl_n40, vl_n41, vl_n42, vl_n43, vl_n45, vl_n50, vl_n51, vl_n52, vl_n53, vl_n54, vl_lt0, vl_below_eq, vl_x3, vl_clesser, vl_clarger, vl_max, vl_min, Int64.toBitVec_add, Int64.toBitVec_sub, Int64.toBitVec_mul, Int64.toBitVec_and, Int64.toBitVec_xor, Int64.toBitVec_or, vl_x1, vl_zero, vl_one, vl_m1, vl_top, vl_most]
    try rfl
  ·
    have x0 : ∀ (F : Nat → Nat → Int64) y, jv_u F x 0 y q i = F q i := fun F y => vl_out hx rfl
    have x1 : ∀ (F : Nat → Nat → Int64) y, jv_u F x 1 y q i = F q i := fun F y => vl_out hx rfl
    have x2 : ∀ (F : Nat → Nat → Int64) y, jv_u F x 2 y q i = F q i := fun F y => vl_out hx rfl
    have x3 : ∀ (F : Nat → Nat → Int64) y, jv_u F x 3 y q i = F q i := fun F y => vl_out hx rfl
    have x4 : ∀ (F : Nat → Nat → Int64) y, jv_u F x 4 y q i = F q i := fun F y => vl_out hx rfl
    have x5 : ∀ (F : Nat → Nat → Int64) y, jv_u F x 5 y q i = F q i := fun F y => vl_out hx rfl
    have w0 : ∀ (F : Nat → Nat → Int64) y, jv_u F w 0 y q i = F q i := fun F y => vl_out hw rfl
    have w1 : ∀ (F : Nat → Nat → Int64) y, jv_u F w 1 y q i = F q i := fun F y => vl_out hw rfl
    have w2 : ∀ (F : Nat → Nat → Int64) y, jv_u F w 2 y q i = F q i := fun F y => vl_out hw rfl
    have w3 : ∀ (F : Nat → Nat → Int64) y, jv_u F w 3 y q i = F q i := fun F y => vl_out hw rfl
    have w4 : ∀ (F : Nat → Nat → Int64) y, jv_u F w 4 y q i = F q i := fun F y => vl_out hw rfl
    have w5 : ∀ (F : Nat → Nat → Int64) y, jv_u F w 5 y q i = F q i := fun F y => vl_out hw rfl
    simp only [x0, x1, x2, x3, x4, x5, w0, w1, w2, w3, w4, w5]

theorem vl_sayNotAbove {K : Nat → Option (Nat × Nat)} {I : Nat → Nat → Int32} {L : Nat → Nat → Int64} {R : Nat → Nat → Value} {x w : Nat} (hx : jv_isV K x) (hw : jv_isV K w) (h1 : x ≠ w) {n sl : Nat} :
    jv_Ms 182 [.ref x, .ref w] (jv_H K I L R) n sl (some (.int (vl_b2 (vb_rNotAbove (vl_S L x) (vl_S L w)))), jv_H K I (vl_set2 L x w (vb_rNotAbove (vl_S L x) (vl_S L w))) R, n, sl) := by
  have H := jv_s182 (L := L) (I := I) (R := R) (n := n) (sl := sl) x w hx hw h1
  have nx : ∀ (F : Nat → Nat → Int64) j y i, jv_u F w j y x i = F x i := fun F j y i => vl_oth h1
  have nw : ∀ (F : Nat → Nat → Int64) j y i, jv_u F x j y w i = F w i := fun F j y i => vl_oth (Ne.symm h1)
  unfold vb_rNotAbove
  refine (congrArg (fun Z => jv_Ms 182 [.ref x, .ref w] (jv_H K I L R) n sl (some (.int 1), jv_H K I Z R, n, sl)) ?_).mp H
  clear H
  refine vl_eq2 h1 ?_ ?_ (fun q i hx hw => ?_)
  · unfold vl_S
    simp only [nx, vl_at, vl_n01, vl_n02, vl_n03, vl_n04, vl_n05, vl_n10, vl_n12, vl_n13, vl_n14, vl_n15, vl_n20, vl_n21, vl_n23, vl_n24, vl_n25, vl_n30, vl_n31, vl_n32, vl_n34, vl_n35, vl_n40, vl_n41, vl_n42, vl_n43, vl_n45, vl_n50, vl_n51, vl_n52, vl_n53, vl_n54, vl_lt0, vl_below_eq, vl_x3, vl_clesser, vl_clarger, vl_max, vl_min, Int64.toBitVec_add, Int64.toBitVec_sub, Int64.toBitVec_mul, Int64.toBitVec_and, Int64.toBitVec_xor, Int64.toBitVec_or, vl_x1, vl_zero, vl_one, vl_m1, vl_top, vl_most]
    try rfl
  · unfold vl_S
    simp only [nw, vl_at, vl_n01, vl_n02, vl_n03, vl_n04, vl_n05, vl_n10, vl_n12, vl_n13, vl_n14, vl_n15, vl_n20, vl_n21, vl_n23, vl_n24, vl_n25, vl_n30, vl_n31, vl_n32, vl_n34, vl_n35, vl_n40, vl_n41, vl_n42, vl_n43, vl_n45, vl_n50, vl_n51, vl_n52, vl_n53, vl_n54, vl_lt0, vl_below_eq, vl_x3, vl_clesser, vl_clarger, vl_max, vl_min, Int64.toBitVec_add, Int64.toBitVec_sub, Int64.toBitVec_mul, Int64.toBitVec_and, Int64.toBitVec_xor, Int64.toBitVec_or, vl_x1, vl_zero, vl_one, vl_m1, vl_top, vl_most]
    try rfl
  ·
    have x0 : ∀ (F : Nat → Nat → Int64) y, jv_u F x 0 y q i = F q i := fun F y => vl_out hx rfl
    have x1 : ∀ (F : Nat → Nat → Int64) y, jv_u F x 1 y q i = F q i := fun F y => vl_out hx rfl
    have x2 : ∀ (F : Nat → Nat → Int64) y, jv_u F x 2 y q i = F q i := fun F y => vl_out hx rfl
    have x3 : ∀ (F : Nat → Nat → Int64) y, jv_u F x 3 y q i = F q i := fun F y => vl_out hx rfl
    have x4 : ∀ (F : Nat → Nat → Int64) y, jv_u F x 4 y q i = F q i := fun F y => vl_out hx rfl
    have x5 : ∀ (F : Nat → Nat → Int64) y, jv_u F x 5 y q i = F q i := fun F y => vl_out hx rfl
    have w0 : ∀ (F : Nat → Nat → Int64) y, jv_u F w 0 y q i = F q i := fun F y => vl_out hw rfl
    have w1 : ∀ (F : Nat → Nat → Int64) y, jv_u F w 1 y q i = F q i := fun F y => vl_out hw rfl
    have w2 : ∀ (F : Nat → Nat → Int64) y, jv_u F w 2 y q i = F q i := fun F y => vl_out hw rfl
    have w3 : ∀ (F : Nat → Nat → Int64) y, jv_u F w 3 y q i = F q i := fun F y => vl_out hw rfl
    have w4 : ∀ (F : Nat → Nat → Int64) y, jv_u F w 4 y q i = F q i := fun F y => vl_out hw rfl
    have w5 : ∀ (F : Nat → Nat → Int64) y, jv_u F w 5 y q i = F q i := fun F y => vl_out hw rfl
    simp only [x0, x1, x2, x3, x4, x5, w0, w1, w2, w3, w4, w5]

theorem vl_sayNotMore {K : Nat → Option (Nat × Nat)} {I : Nat → Nat → Int32} {L : Nat → Nat → Int64} {R : Nat → Nat → Value} {x w : Nat} (hx : jv_isV K x) (hw : jv_isV K w) (h1 : x ≠ w) {n sl : Nat} :
    jv_Ms 184 [.ref x, .ref w] (jv_H K I L R) n sl (some (.int (vl_b2 (vb_rNotMore (vl_S L x) (vl_S L w)))), jv_H K I (vl_set2 L x w (vb_rNotMore (vl_S L x) (vl_S L w))) R, n, sl) := by
  have H := jv_s184 (L := L) (I := I) (R := R) (n := n) (sl := sl) x w hx hw h1
  have nx : ∀ (F : Nat → Nat → Int64) j y i, jv_u F w j y x i = F x i := fun F j y i => vl_oth h1
  have nw : ∀ (F : Nat → Nat → Int64) j y i, jv_u F x j y w i = F w i := fun F j y i => vl_oth (Ne.symm h1)
  unfold vb_rNotMore
  refine (congrArg (fun Z => jv_Ms 184 [.ref x, .ref w] (jv_H K I L R) n sl (some (.int 1), jv_H K I Z R, n, sl)) ?_).mp H
  clear H
  refine vl_eq2 h1 ?_ ?_ (fun q i hx hw => ?_)
  · unfold vl_S
    simp only [nx, vl_at, vl_n01, vl_n02, vl_n03, vl_n04, vl_n05, vl_n10, vl_n12, vl_n13, vl_n14, vl_n15, vl_n20, vl_n21, vl_n23, vl_n24, vl_n25, vl_n30, vl_n31, vl_n32, vl_n34, vl_n35, vl_n40, vl_n41, vl_n42, vl_n43, vl_n45, vl_n50, vl_n51, vl_n52, vl_n53, vl_n54, vl_lt0, vl_below_eq, vl_x3, vl_clesser, vl_clarger, vl_max, vl_min, Int64.toBitVec_add, Int64.toBitVec_sub, Int64.toBitVec_mul, Int64.toBitVec_and, Int64.toBitVec_xor, Int64.toBitVec_or, vl_x1, vl_zero, vl_one, vl_m1, vl_top, vl_most]
    try rfl
  · unfold vl_S
    simp only [nw, vl_at, vl_n01, vl_n02, vl_n03, vl_n04, vl_n05, vl_n10, vl_n12, vl_n13, vl_n14, vl_n15, vl_n20, vl_n21, vl_n23, vl_n24, vl_n25, vl_n30, vl_n31, vl_n32, vl_n34, vl_n35, vl_n40, vl_n41, vl_n42, vl_n43, vl_n45, vl_n50, vl_n51, vl_n52, vl_n53, vl_n54, vl_lt0, vl_below_eq, vl_x3, vl_clesser, vl_clarger, vl_max, vl_min, Int64.toBitVec_add, Int64.toBitVec_sub, Int64.toBitVec_mul, Int64.toBitVec_and, Int64.toBitVec_xor, Int64.toBitVec_or, vl_x1, vl_zero, vl_one, vl_m1, vl_top, vl_most]
    try rfl
  ·
    have x0 : ∀ (F : Nat → Nat → Int64) y, jv_u F x 0 y q i = F q i := fun F y => vl_out hx rfl
    have x1 : ∀ (F : Nat → Nat → Int64) y, jv_u F x 1 y q i = F q i := fun F y => vl_out hx rfl
    have x2 : ∀ (F : Nat → Nat → Int64) y, jv_u F x 2 y q i = F q i := fun F y => vl_out hx rfl
    have x3 : ∀ (F : Nat → Nat → Int64) y, jv_u F x 3 y q i = F q i := fun F y => vl_out hx rfl
    have x4 : ∀ (F : Nat → Nat → Int64) y, jv_u F x 4 y q i = F q i := fun F y => vl_out hx rfl
    have x5 : ∀ (F : Nat → Nat → Int64) y, jv_u F x 5 y q i = F q i := fun F y => vl_out hx rfl
    have w0 : ∀ (F : Nat → Nat → Int64) y, jv_u F w 0 y q i = F q i := fun F y => vl_out hw rfl
    have w1 : ∀ (F : Nat → Nat → Int64) y, jv_u F w 1 y q i = F q i := fun F y => vl_out hw rfl
    have w2 : ∀ (F : Nat → Nat → Int64) y, jv_u F w 2 y q i = F q i := fun F y => vl_out hw rfl
    have w3 : ∀ (F : Nat → Nat → Int64) y, jv_u F w 3 y q i = F q i := fun F y => vl_out hw rfl
    have w4 : ∀ (F : Nat → Nat → Int64) y, jv_u F w 4 y q i = F q i := fun F y => vl_out hw rfl
    have w5 : ∀ (F : Nat → Nat → Int64) y, jv_u F w 5 y q i = F q i := fun F y => vl_out hw rfl
    simp only [x0, x1, x2, x3, x4, x5, w0, w1, w2, w3, w4, w5]

def vb_rSame (x y : vb_S) : Option (vb_S × vb_S) := if (x.ones ^^^ y.ones) &&& x.mask &&& y.mask ≠ 0 then none else some (vb_same2 x y, vb_same2 x y)
theorem vl_saySame {K : Nat → Option (Nat × Nat)} {I : Nat → Nat → Int32} {L : Nat → Nat → Int64} {R : Nat → Nat → Value} {x w : Nat} (hx : jv_isV K x) (hw : jv_isV K w) (h1 : x ≠ w) {n sl : Nat} :
    jv_Ms 178 [.ref x, .ref w] (jv_H K I L R) n sl (some (.int (vl_b2 (vb_rSame (vl_S L x) (vl_S L w)))), jv_H K I (vl_set2 L x w (vb_rSame (vl_S L x) (vl_S L w))) R, n, sl) := by
  have H := jv_s178 (L := L) (I := I) (R := R) (n := n) (sl := sl) x w hx hw h1
  have nx : ∀ (F : Nat → Nat → Int64) j y i, jv_u F w j y x i = F x i := fun F j y i => vl_oth h1
  have nw : ∀ (F : Nat → Nat → Int64) j y i, jv_u F x j y w i = F w i := fun F j y i => vl_oth (Ne.symm h1)
  have cc : (((((L x 1) ^^^ (L w 1)) &&& (L x 0)) &&& (L w 0)) = (0 : Int64)) ↔ ((vl_S L x).ones ^^^ (vl_S L w).ones) &&& (vl_S L x).mask &&& (vl_S L w).mask = 0 := by
    rw [vl_eqb, Int64.toBitVec_and, Int64.toBitVec_and, Int64.toBitVec_xor]; rfl
  by_cases c1 : ((((L x 1) ^^^ (L w 1)) &&& (L x 0)) &&& (L w 0)) = (0 : Int64)
  · have r : vb_rSame (vl_S L x) (vl_S L w) = some (vb_same2 (vl_S L x) (vl_S L w), vb_same2 (vl_S L x) (vl_S L w)) := if_neg (fun h => h (cc.mp c1))
    rw [r]
    simp only [c1, if_true] at H
    refine (congrArg (fun Z => jv_Ms 178 [.ref x, .ref w] (jv_H K I L R) n sl (some (.int 1), jv_H K I Z R, n, sl)) ?_).mp H
    clear H
    refine vl_eq2 h1 ?_ ?_ (fun q i hx hw => ?_)
    · unfold vl_S
      simp only [nx, vl_at, vl_n01, vl_n02, vl_n03, vl_n04, vl_n05, vl_n10, vl_n12, vl_n13, vl_n14, vl_n15, vl_n20, vl_n21, vl_n23, vl_n24, vl_n25, vl_n30, vl_n31, vl_n32, vl_n34, vl_n35, vl_n40, vl_n41, vl_n42, vl_n43, vl_n45, vl_n50, vl_n51, vl_n52, vl_n53, vl_n54, vl_lt0, vl_below_eq, vl_x3, vl_clesser, vl_clarger, vl_max, vl_min, Int64.toBitVec_add, Int64.toBitVec_sub, Int64.toBitVec_mul, Int64.toBitVec_and, Int64.toBitVec_xor, Int64.toBitVec_or, vl_x1, vl_zero, vl_one, vl_m1, vl_top, vl_most]
      try rfl
    · unfold vl_S
      simp only [nw, vl_at, vl_n01, vl_n02, vl_n03, vl_n04, vl_n05, vl_n10, vl_n12, vl_n13, vl_n14, vl_n15, vl_n20, vl_n21, vl_n23, vl_n24, vl_n25, vl_n30, vl_n31, vl_n32, vl_n34, vl_n35, vl_n40, vl_n41, vl_n42, vl_n43, vl_n45, vl_n50, vl_n51, vl_n52, vl_n53, vl_n54, vl_lt0, vl_below_eq, vl_x3, vl_clesser, vl_clarger, vl_max, vl_min, Int64.toBitVec_add, Int64.toBitVec_sub, Int64.toBitVec_mul, Int64.toBitVec_and, Int64.toBitVec_xor, Int64.toBitVec_or, vl_x1, vl_zero, vl_one, vl_m1, vl_top, vl_most]
      try rfl
    ·
      have x0 : ∀ (F : Nat → Nat → Int64) y, jv_u F x 0 y q i = F q i := fun F y => vl_out hx rfl
      have x1 : ∀ (F : Nat → Nat → Int64) y, jv_u F x 1 y q i = F q i := fun F y => vl_out hx rfl
      have x2 : ∀ (F : Nat → Nat → Int64) y, jv_u F x 2 y q i = F q i := fun F y => vl_out hx rfl
      have x3 : ∀ (F : Nat → Nat → Int64) y, jv_u F x 3 y q i = F q i := fun F y => vl_out hx rfl
      have x4 : ∀ (F : Nat → Nat → Int64) y, jv_u F x 4 y q i = F q i := fun F y => vl_out hx rfl
      have x5 : ∀ (F : Nat → Nat → Int64) y, jv_u F x 5 y q i = F q i := fun F y => vl_out hx rfl
      have w0 : ∀ (F : Nat → Nat → Int64) y, jv_u F w 0 y q i = F q i := fun F y => vl_out hw rfl
      have w1 : ∀ (F : Nat → Nat → Int64) y, jv_u F w 1 y q i = F q i := fun F y => vl_out hw rfl
      have w2 : ∀ (F : Nat → Nat → Int64) y, jv_u F w 2 y q i = F q i := fun F y => vl_out hw rfl
      have w3 : ∀ (F : Nat → Nat → Int64) y, jv_u F w 3 y q i = F q i := fun F y => vl_out hw rfl
      have w4 : ∀ (F : Nat → Nat → Int64) y, jv_u F w 4 y q i = F q i := fun F y => vl_out hw rfl
      have w5 : ∀ (F : Nat → Nat → Int64) y, jv_u F w 5 y q i = F q i := fun F y => vl_out hw rfl
      simp only [x0, x1, x2, x3, x4, x5, w0, w1, w2, w3, w4, w5]
  · have r : vb_rSame (vl_S L x) (vl_S L w) = none := if_pos (fun h => c1 (cc.mpr h))
    rw [r]; simp only [c1, if_false] at H; exact H

def vb_rApart (x y : vb_S) : Option (vb_S × vb_S) := if x.ones &&& y.ones ≠ 0 then none else some (vb_never x (if y.low = y.high then y.low else 0), vb_never y (if x.low = x.high then x.low else 0))
theorem vl_sayApart {K : Nat → Option (Nat × Nat)} {I : Nat → Nat → Int32} {L : Nat → Nat → Int64} {R : Nat → Nat → Value} {x w : Nat} (hx : jv_isV K x) (hw : jv_isV K w) (h1 : x ≠ w) {n sl : Nat} :
    jv_Ms 186 [.ref x, .ref w] (jv_H K I L R) n sl (some (.int (vl_b2 (vb_rApart (vl_S L x) (vl_S L w)))), jv_H K I (vl_set2 L x w (vb_rApart (vl_S L x) (vl_S L w))) R, n, sl) := by
  have H := jv_s186 (L := L) (I := I) (R := R) (n := n) (sl := sl) x w hx hw h1 _ rfl _ rfl
  have nx : ∀ (F : Nat → Nat → Int64) j y i, jv_u F w j y x i = F x i := fun F j y i => vl_oth h1
  have nw : ∀ (F : Nat → Nat → Int64) j y i, jv_u F x j y w i = F w i := fun F j y i => vl_oth (Ne.symm h1)
  have sx : (if (¬ (L x 2) = (L x 3)) then (0 : Int32) else (1 : Int32)) = 0 ↔ ¬ (vl_S L x).low = (vl_S L x).high := by
    have e : (L x 2) = (L x 3) ↔ (vl_S L x).low = (vl_S L x).high := vl_eqb _ _
    by_cases h : (L x 2) = (L x 3)
    · simp only [h, not_true, if_false]; exact ⟨fun h' => absurd h' (by decide), fun h' => absurd (e.mp h) h'⟩
    · simp only [h, not_false_eq_true, if_true]; exact ⟨fun _ h' => h (e.mpr h'), fun _ => by first | rfl | trivial⟩
  have sw : (if (¬ (L w 2) = (L w 3)) then (0 : Int32) else (1 : Int32)) = 0 ↔ ¬ (vl_S L w).low = (vl_S L w).high := by
    have e : (L w 2) = (L w 3) ↔ (vl_S L w).low = (vl_S L w).high := vl_eqb _ _
    by_cases h : (L w 2) = (L w 3)
    · simp only [h, not_true, if_false]; exact ⟨fun h' => absurd h' (by decide), fun h' => absurd (e.mp h) h'⟩
    · simp only [h, not_false_eq_true, if_true]; exact ⟨fun _ h' => h (e.mpr h'), fun _ => by first | rfl | trivial⟩
  have cc : (((L x 1) &&& (L w 1)) = (0 : Int64)) ↔ (vl_S L x).ones &&& (vl_S L w).ones = 0 := by
    rw [vl_eqb, Int64.toBitVec_and]; rfl
  simp only [sx, sw] at H
  by_cases c1 : ((L x 1) &&& (L w 1)) = (0 : Int64)
  · have r : vb_rApart (vl_S L x) (vl_S L w) = some (vb_never (vl_S L x) (if (vl_S L w).low = (vl_S L w).high then (vl_S L w).low else 0), vb_never (vl_S L w) (if (vl_S L x).low = (vl_S L x).high then (vl_S L x).low else 0)) := if_neg (fun h => h (cc.mp c1))
    rw [r]
    simp only [c1, if_true, ite_not] at H
    refine (congrArg (fun Z => jv_Ms 186 [.ref x, .ref w] (jv_H K I L R) n sl (some (.int 1), jv_H K I Z R, n, sl)) ?_).mp H
    clear H
    refine vl_eq2 h1 ?_ ?_ (fun q i hx hw => ?_)
    · unfold vl_S
      simp only [nx, vl_at, vl_n01, vl_n02, vl_n03, vl_n04, vl_n05, vl_n10, vl_n12, vl_n13, vl_n14, vl_n15, vl_n20, vl_n21, vl_n23, vl_n24, vl_n25, vl_n30, vl_n31, vl_n32, vl_n34, vl_n35, vl_n40, vl_n41, vl_n42, vl_n43, vl_n45, vl_n50, vl_n51, vl_n52, vl_n53, vl_n54, vl_lt0, vl_below_eq, vl_x3, vl_clesser, vl_clarger, vl_max, vl_min, Int64.toBitVec_add, Int64.toBitVec_sub, Int64.toBitVec_mul, Int64.toBitVec_and, Int64.toBitVec_xor, Int64.toBitVec_or, vl_x1, vl_zero, vl_one, vl_m1, vl_top, vl_most, vl_ite]
      try rfl
    · unfold vl_S
      simp only [nw, vl_at, vl_n01, vl_n02, vl_n03, vl_n04, vl_n05, vl_n10, vl_n12, vl_n13, vl_n14, vl_n15, vl_n20, vl_n21, vl_n23, vl_n24, vl_n25, vl_n30, vl_n31, vl_n32, vl_n34, vl_n35, vl_n40, vl_n41, vl_n42, vl_n43, vl_n45, vl_n50, vl_n51, vl_n52, vl_n53, vl_n54, vl_lt0, vl_below_eq, vl_x3, vl_clesser, vl_clarger, vl_max, vl_min, Int64.toBitVec_add, Int64.toBitVec_sub, Int64.toBitVec_mul, Int64.toBitVec_and, Int64.toBitVec_xor, Int64.toBitVec_or, vl_x1, vl_zero, vl_one, vl_m1, vl_top, vl_most, vl_ite]
      try rfl
    ·
      have x0 : ∀ (F : Nat → Nat → Int64) y, jv_u F x 0 y q i = F q i := fun F y => vl_out hx rfl
      have x1 : ∀ (F : Nat → Nat → Int64) y, jv_u F x 1 y q i = F q i := fun F y => vl_out hx rfl
      have x2 : ∀ (F : Nat → Nat → Int64) y, jv_u F x 2 y q i = F q i := fun F y => vl_out hx rfl
      have x3 : ∀ (F : Nat → Nat → Int64) y, jv_u F x 3 y q i = F q i := fun F y => vl_out hx rfl
      have x4 : ∀ (F : Nat → Nat → Int64) y, jv_u F x 4 y q i = F q i := fun F y => vl_out hx rfl
      have x5 : ∀ (F : Nat → Nat → Int64) y, jv_u F x 5 y q i = F q i := fun F y => vl_out hx rfl
      have w0 : ∀ (F : Nat → Nat → Int64) y, jv_u F w 0 y q i = F q i := fun F y => vl_out hw rfl
      have w1 : ∀ (F : Nat → Nat → Int64) y, jv_u F w 1 y q i = F q i := fun F y => vl_out hw rfl
      have w2 : ∀ (F : Nat → Nat → Int64) y, jv_u F w 2 y q i = F q i := fun F y => vl_out hw rfl
      have w3 : ∀ (F : Nat → Nat → Int64) y, jv_u F w 3 y q i = F q i := fun F y => vl_out hw rfl
      have w4 : ∀ (F : Nat → Nat → Int64) y, jv_u F w 4 y q i = F q i := fun F y => vl_out hw rfl
      have w5 : ∀ (F : Nat → Nat → Int64) y, jv_u F w 5 y q i = F q i := fun F y => vl_out hw rfl
      simp only [x0, x1, x2, x3, x4, x5, w0, w1, w2, w3, w4, w5]
  · have r : vb_rApart (vl_S L x) (vl_S L w) = none := if_pos (fun h => c1 (cc.mpr h))
    rw [r]; simp only [c1, if_false] at H; exact H

theorem vl_without_add (a b : Int64) : (a + (if (¬ a = b) then (0 : Int64) else (1 : Int64))).toBitVec = if a.toBitVec = b.toBitVec then a.toBitVec + 1 else a.toBitVec := by
  by_cases h : a = b
  · rw [if_neg (fun h' => h' h), if_pos (congrArg Int64.toBitVec h), Int64.toBitVec_add]; rfl
  · rw [if_pos h, if_neg (fun h' => h (Int64.toBitVec_inj.mp h')), Int64.toBitVec_add, vl_zero]; exact BitVec.add_zero _
theorem vl_without_sub (a b : Int64) : (a - (if (¬ a = b) then (0 : Int64) else (1 : Int64))).toBitVec = if a.toBitVec = b.toBitVec then a.toBitVec - 1 else a.toBitVec := by
  by_cases h : a = b
  · rw [if_neg (fun h' => h' h), if_pos (congrArg Int64.toBitVec h), Int64.toBitVec_sub]; rfl
  · rw [if_pos h, if_neg (fun h' => h (Int64.toBitVec_inj.mp h')), Int64.toBitVec_sub, vl_zero]; exact BitVec.sub_zero _
def vb_rOther (x y : vb_S) : Option (vb_S × vb_S) := if x.low ≠ x.high ∧ y.low ≠ y.high then some (x, y)
     else if x.low = x.high ∧ y.low = y.high then (if x.low = y.low then none else some (x, y))
     else if y.low = y.high then some (vb_without x y.low, y) else some (x, vb_without y x.low)
theorem vl_sayOther {K : Nat → Option (Nat × Nat)} {I : Nat → Nat → Int32} {L : Nat → Nat → Int64} {R : Nat → Nat → Value} {x w : Nat} (hx : jv_isV K x) (hw : jv_isV K w) (h1 : x ≠ w) {n sl : Nat} :
    jv_Ms 179 [.ref x, .ref w] (jv_H K I L R) n sl (some (.int (vl_b2 (vb_rOther (vl_S L x) (vl_S L w)))), jv_H K I (vl_set2 L x w (vb_rOther (vl_S L x) (vl_S L w))) R, n, sl) := by
  have H := jv_s179 (L := L) (I := I) (R := R) (n := n) (sl := sl) x w hx hw h1 _ rfl _ rfl _ rfl _ rfl _ rfl _ rfl _ rfl _ rfl
  have nx : ∀ (F : Nat → Nat → Int64) j y i, jv_u F w j y x i = F x i := fun F j y i => vl_oth h1
  have nw : ∀ (F : Nat → Nat → Int64) j y i, jv_u F x j y w i = F w i := fun F j y i => vl_oth (Ne.symm h1)
  have sx : (if (¬ (L x 2) = (L x 3)) then (0 : Int32) else (1 : Int32)) = 0 ↔ ¬ (vl_S L x).low = (vl_S L x).high := by
    have e : (L x 2) = (L x 3) ↔ (vl_S L x).low = (vl_S L x).high := vl_eqb _ _
    by_cases h : (L x 2) = (L x 3)
    · simp only [h, not_true, if_false]; exact ⟨fun h' => absurd h' (by decide), fun h' => absurd (e.mp h) h'⟩
    · simp only [h, not_false_eq_true, if_true]; exact ⟨fun _ h' => h (e.mpr h'), fun _ => by first | rfl | trivial⟩
  have sw : (if (¬ (L w 2) = (L w 3)) then (0 : Int32) else (1 : Int32)) = 0 ↔ ¬ (vl_S L w).low = (vl_S L w).high := by
    have e : (L w 2) = (L w 3) ↔ (vl_S L w).low = (vl_S L w).high := vl_eqb _ _
    by_cases h : (L w 2) = (L w 3)
    · simp only [h, not_true, if_false]; exact ⟨fun h' => absurd h' (by decide), fun h' => absurd (e.mp h) h'⟩
    · simp only [h, not_false_eq_true, if_true]; exact ⟨fun _ h' => h (e.mpr h'), fun _ => by first | rfl | trivial⟩
  simp only [sx, sw] at H
  have cc : (L x 2) = (L w 2) ↔ (vl_S L x).low = (vl_S L w).low := vl_eqb _ _
  have same : L = vl_set2 L x w (some (vl_S L x, vl_S L w)) := vl_eq2 h1 rfl rfl (fun _ _ _ _ => rfl)
  unfold vb_rOther
  by_cases s1 : (vl_S L x).low = (vl_S L x).high <;> by_cases s2 : (vl_S L w).low = (vl_S L w).high <;> simp only [s1, s2, ne_eq, not_true, not_false_eq_true, and_self, and_true, true_and, and_false, false_and, if_true, if_false] at H ⊢
  · by_cases c : (L x 2) = (L w 2)
    · have c' := cc.mp c
      rw [s1, s2] at c'
      simp only [c, c', if_true] at H ⊢; exact H
    · have c' : ¬ (vl_S L x).high = (vl_S L w).high := fun h => c (cc.mpr (by rw [s1, s2]; exact h))
      simp only [c, c', if_false] at H ⊢
      rw [← same]; exact H
  · rw [← s1]
    refine (congrArg (fun Z => jv_Ms 179 [.ref x, .ref w] (jv_H K I L R) n sl (some (.int 1), jv_H K I Z R, n, sl)) ?_).mp H
    clear H
    refine vl_eq2 h1 ?_ ?_ (fun q i hx hw => ?_)
    · unfold vl_S
      simp only [nx]
    · unfold vl_S vb_without
      simp only [vl_at, vl_n01, vl_n02, vl_n03, vl_n04, vl_n05, vl_n10, vl_n12, vl_n13, vl_n14, vl_n15, vl_n20, vl_n21, vl_n23, vl_n24, vl_n25, vl_n30, vl_n31, vl_n32, vl_n34, vl_n35, vl_n40, vl_n41, vl_n42, vl_n43, vl_n45, vl_n50, vl_n51, vl_n52, vl_n53, vl_n54, vl_without_add, vl_without_sub]
      try rfl
    ·
      have x0 : ∀ (F : Nat → Nat → Int64) y, jv_u F x 0 y q i = F q i := fun F y => vl_out hx rfl
      have x1 : ∀ (F : Nat → Nat → Int64) y, jv_u F x 1 y q i = F q i := fun F y => vl_out hx rfl
      have x2 : ∀ (F : Nat → Nat → Int64) y, jv_u F x 2 y q i = F q i := fun F y => vl_out hx rfl
      have x3 : ∀ (F : Nat → Nat → Int64) y, jv_u F x 3 y q i = F q i := fun F y => vl_out hx rfl
      have x4 : ∀ (F : Nat → Nat → Int64) y, jv_u F x 4 y q i = F q i := fun F y => vl_out hx rfl
      have x5 : ∀ (F : Nat → Nat → Int64) y, jv_u F x 5 y q i = F q i := fun F y => vl_out hx rfl
      have w0 : ∀ (F : Nat → Nat → Int64) y, jv_u F w 0 y q i = F q i := fun F y => vl_out hw rfl
      have w1 : ∀ (F : Nat → Nat → Int64) y, jv_u F w 1 y q i = F q i := fun F y => vl_out hw rfl
      have w2 : ∀ (F : Nat → Nat → Int64) y, jv_u F w 2 y q i = F q i := fun F y => vl_out hw rfl
      have w3 : ∀ (F : Nat → Nat → Int64) y, jv_u F w 3 y q i = F q i := fun F y => vl_out hw rfl
      have w4 : ∀ (F : Nat → Nat → Int64) y, jv_u F w 4 y q i = F q i := fun F y => vl_out hw rfl
      have w5 : ∀ (F : Nat → Nat → Int64) y, jv_u F w 5 y q i = F q i := fun F y => vl_out hw rfl
      simp only [w0, w1, w2, w3, w4, w5]
  · rw [← s2]
    refine (congrArg (fun Z => jv_Ms 179 [.ref x, .ref w] (jv_H K I L R) n sl (some (.int 1), jv_H K I Z R, n, sl)) ?_).mp H
    clear H
    refine vl_eq2 h1 ?_ ?_ (fun q i hx hw => ?_)
    · unfold vl_S vb_without
      simp only [vl_at, vl_n01, vl_n02, vl_n03, vl_n04, vl_n05, vl_n10, vl_n12, vl_n13, vl_n14, vl_n15, vl_n20, vl_n21, vl_n23, vl_n24, vl_n25, vl_n30, vl_n31, vl_n32, vl_n34, vl_n35, vl_n40, vl_n41, vl_n42, vl_n43, vl_n45, vl_n50, vl_n51, vl_n52, vl_n53, vl_n54, vl_without_add, vl_without_sub]
      try rfl
    · unfold vl_S
      simp only [nw]
    ·
      have x0 : ∀ (F : Nat → Nat → Int64) y, jv_u F x 0 y q i = F q i := fun F y => vl_out hx rfl
      have x1 : ∀ (F : Nat → Nat → Int64) y, jv_u F x 1 y q i = F q i := fun F y => vl_out hx rfl
      have x2 : ∀ (F : Nat → Nat → Int64) y, jv_u F x 2 y q i = F q i := fun F y => vl_out hx rfl
      have x3 : ∀ (F : Nat → Nat → Int64) y, jv_u F x 3 y q i = F q i := fun F y => vl_out hx rfl
      have x4 : ∀ (F : Nat → Nat → Int64) y, jv_u F x 4 y q i = F q i := fun F y => vl_out hx rfl
      have x5 : ∀ (F : Nat → Nat → Int64) y, jv_u F x 5 y q i = F q i := fun F y => vl_out hx rfl
      have w0 : ∀ (F : Nat → Nat → Int64) y, jv_u F w 0 y q i = F q i := fun F y => vl_out hw rfl
      have w1 : ∀ (F : Nat → Nat → Int64) y, jv_u F w 1 y q i = F q i := fun F y => vl_out hw rfl
      have w2 : ∀ (F : Nat → Nat → Int64) y, jv_u F w 2 y q i = F q i := fun F y => vl_out hw rfl
      have w3 : ∀ (F : Nat → Nat → Int64) y, jv_u F w 3 y q i = F q i := fun F y => vl_out hw rfl
      have w4 : ∀ (F : Nat → Nat → Int64) y, jv_u F w 4 y q i = F q i := fun F y => vl_out hw rfl
      have w5 : ∀ (F : Nat → Nat → Int64) y, jv_u F w 5 y q i = F q i := fun F y => vl_out hw rfl
      simp only [x0, x1, x2, x3, x4, x5]
  · rw [← same]; exact H
