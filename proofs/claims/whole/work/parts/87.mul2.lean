theorem vl_sayMul {K : Nat → Option (Nat × Nat)} {I : Nat → Nat → Int32} {L : Nat → Nat → Int64} {R : Nat → Nat → Value} {o x w : Nat} (ho : jv_isV K o) (hx : jv_isV K x) (hw : jv_isV K w) (h1 : o ≠ x) (h2 : o ≠ w) (ha : vl_S L o = vb_any) {n sl : Nat} :
    jv_Ms 161 [.ref o, .ref x, .ref w] (jv_H K I L R) n sl (none, jv_H K I (vl_set L o (vb_cMul (vl_S L x) (vl_S L w))) R, n, sl) := by
  have H := jv_s161 (L := L) (I := I) (R := R) (n := n) (sl := sl) o x w ho hx hw h1 h2 _ rfl _ rfl _ rfl _ rfl _ rfl _ rfl _ rfl
  refine (congrArg (fun Z => jv_Ms 161 [.ref o, .ref x, .ref w] (jv_H K I L R) n sl (none, jv_H K I Z R, n, sl)) ?_).mp H
  clear H
  have a0 : (L o 0).toBitVec = 0 := congrArg vb_S.mask ha
  have a1 : (L o 1).toBitVec = 0 := congrArg vb_S.ones ha
  have a2 : (L o 2).toBitVec = 0 := congrArg vb_S.low ha
  have a3 : (L o 3).toBitVec = vb_m1 := congrArg vb_S.high ha
  have a4 : (L o 4).toBitVec = vb_top_ := congrArg vb_S.least ha
  have a5 : (L o 5).toBitVec = vb_most := congrArg vb_S.greatest ha
  have b1 : jv_bits ((L x 0) &&& (((L x 0) ^^^ (-1 : Int64)) - (1 : Int64))) = vl_I (vb_tr (vl_S L x).mask) := vl_bits_tr (by simp only [Int64.toBitVec_and, Int64.toBitVec_sub, vl_xor1, vl_one]; rfl)
  have b2 : jv_bits (((L w 0) &&& ((L w 1) ^^^ (-1 : Int64))) &&& ((((L w 0) ^^^ (-1 : Int64)) ||| (L w 1)) - (1 : Int64))) = vl_I (vb_tr ((vl_S L w).mask &&& ~~~(vl_S L w).ones)) := vl_bits_tr (by rw [BitVec.not_and, BitVec.not_not]; simp only [Int64.toBitVec_and, Int64.toBitVec_or, Int64.toBitVec_sub, vl_xor1, vl_one]; rfl)
  have b3 : jv_bits ((L w 0) &&& (((L w 0) ^^^ (-1 : Int64)) - (1 : Int64))) = vl_I (vb_tr (vl_S L w).mask) := vl_bits_tr (by simp only [Int64.toBitVec_and, Int64.toBitVec_sub, vl_xor1, vl_one]; rfl)
  have b4 : jv_bits (((L x 0) &&& ((L x 1) ^^^ (-1 : Int64))) &&& ((((L x 0) ^^^ (-1 : Int64)) ||| (L x 1)) - (1 : Int64))) = vl_I (vb_tr ((vl_S L x).mask &&& ~~~(vl_S L x).ones)) := vl_bits_tr (by rw [BitVec.not_and, BitVec.not_not]; simp only [Int64.toBitVec_and, Int64.toBitVec_or, Int64.toBitVec_sub, vl_xor1, vl_one]; rfl)
  have l1 := vb_tr_le (vl_S L x).mask
  have l2 := vb_tr_le ((vl_S L w).mask &&& ~~~(vl_S L w).ones)
  have l3 := vb_tr_le (vl_S L w).mask
  have l4 := vb_tr_le ((vl_S L x).mask &&& ~~~(vl_S L x).ones)
  have hm := vl_minI (a := vb_tr (vl_S L w).mask + vb_tr ((vl_S L x).mask &&& ~~~(vl_S L x).ones)) (b := vb_tr (vl_S L x).mask + vb_tr ((vl_S L w).mask &&& ~~~(vl_S L w).ones)) (by omega) (by omega)
  have hl := vl_lowk (n := min (vb_tr (vl_S L x).mask + vb_tr ((vl_S L w).mask &&& ~~~(vl_S L w).ones)) (vb_tr (vl_S L w).mask + vb_tr ((vl_S L x).mask &&& ~~~(vl_S L x).ones))) (by omega)
  rw [b1, b2, b3, b4, vl_I_add, vl_I_add, hm]
  generalize h6 : (if (if ((L x 5) * (L w 5)) < ((L x 5) * (L w 4)) then ((L x 5) * (L w 5)) else ((L x 5) * (L w 4))) < (if ((L x 4) * (L w 5)) < ((L x 4) * (L w 4)) then ((L x 4) * (L w 5)) else ((L x 4) * (L w 4))) then (if ((L x 5) * (L w 5)) < ((L x 5) * (L w 4)) then ((L x 5) * (L w 5)) else ((L x 5) * (L w 4))) else (if ((L x 4) * (L w 5)) < ((L x 4) * (L w 4)) then ((L x 4) * (L w 5)) else ((L x 4) * (L w 4)))) = v6
  generalize h7 : (if (if ((L x 5) * (L w 5)) < ((L x 5) * (L w 4)) then ((L x 5) * (L w 4)) else ((L x 5) * (L w 5))) < (if ((L x 4) * (L w 5)) < ((L x 4) * (L w 4)) then ((L x 4) * (L w 4)) else ((L x 4) * (L w 5))) then (if ((L x 4) * (L w 5)) < ((L x 4) * (L w 4)) then ((L x 4) * (L w 4)) else ((L x 4) * (L w 5))) else (if ((L x 5) * (L w 5)) < ((L x 5) * (L w 4)) then ((L x 5) * (L w 4)) else ((L x 5) * (L w 5)))) = v7
  have e6 : v6.toBitVec = vb_min4 ((L x 4).toBitVec * (L w 4).toBitVec) ((L x 4).toBitVec * (L w 5).toBitVec) ((L x 5).toBitVec * (L w 4).toBitVec) ((L x 5).toBitVec * (L w 5).toBitVec) := by
    rw [← h6, vl_min, vl_min, vl_min]; rfl
  have e7 : v7.toBitVec = vb_max4 ((L x 4).toBitVec * (L w 4).toBitVec) ((L x 4).toBitVec * (L w 5).toBitVec) ((L x 5).toBitVec * (L w 4).toBitVec) ((L x 5).toBitVec * (L w 5).toBitVec) := by
    rw [← h7, vl_max, vl_max, vl_max]; rfl
  clear h6 h7
  unfold vb_cMul
  clear b1 b2 b3 b4 l1 l2 l3 l4 hm
  generalize min (vb_tr (vl_S L x).mask + vb_tr ((vl_S L w).mask &&& ~~~(vl_S L w).ones)) (vb_tr (vl_S L w).mask + vb_tr ((vl_S L x).mask &&& ~~~(vl_S L x).ones)) = nn at hl ⊢
  refine vl_eq ?_ (fun q i hq => ?_)
  · unfold vl_S 
    try simp only [vl_lt0, vl_below_eq, vl_x3, vl_clesser, vl_clarger, vl_max, vl_min, vl_ite, Int64.toBitVec_add, Int64.toBitVec_sub, Int64.toBitVec_mul, Int64.toBitVec_and, Int64.toBitVec_xor, Int64.toBitVec_or, vl_x1, vl_zero, vl_one, vl_m1, vl_top, vl_most, vb_S.mask, vb_S.ones, vb_S.low, vb_S.high, vb_S.least, vb_S.greatest, hl, e6, e7, vl_fits, vl_eqb, vl_below, vl_i10, vl_quotient]
    repeat' split
    all_goals simp_all only [vl_at, vl_n01, vl_n02, vl_n03, vl_n04, vl_n05, vl_n10, vl_n12, vl_n13, vl_n14, vl_n15, vl_n20, vl_n21, vl_n23, vl_n24, vl_n25, vl_n30, vl_n31, vl_n32, vl_n34, vl_n35, vl_n40, vl_n41, vl_n42, vl_n43, vl_n45, vl_n50, vl_n51, vl_n52, vl_n53, vl_n54, vl_lt0, vl_below_eq, vl_x3, vl_clesser, vl_clarger, vl_max, vl_min, vl_ite, Int64.toBitVec_add, Int64.toBitVec_sub, Int64.toBitVec_mul, Int64.toBitVec_and, Int64.toBitVec_xor, Int64.toBitVec_or, vl_x1, vl_zero, vl_one, vl_m1, vl_top, vl_most, Bool.false_and, Bool.and_false, Bool.true_and, Bool.and_true, Bool.not_eq_true, Bool.false_eq_true, Bool.true_eq_false, not_false_eq_true, not_true, ne_eq, decide_true, decide_false, Bool.true_or, Bool.or_true, Bool.false_or, Bool.or_false, Bool.not_true, Bool.not_false, hl, e6, e7, vl_fits, vl_eqb, vl_below, vl_i10, vl_quotient]
  ·
    have o0 : ∀ (F : Nat → Nat → Int64) x, jv_u F o 0 x q i = F q i := fun F x => vl_out hq rfl
    have o1 : ∀ (F : Nat → Nat → Int64) x, jv_u F o 1 x q i = F q i := fun F x => vl_out hq rfl
    have o2 : ∀ (F : Nat → Nat → Int64) x, jv_u F o 2 x q i = F q i := fun F x => vl_out hq rfl
    have o3 : ∀ (F : Nat → Nat → Int64) x, jv_u F o 3 x q i = F q i := fun F x => vl_out hq rfl
    have o4 : ∀ (F : Nat → Nat → Int64) x, jv_u F o 4 x q i = F q i := fun F x => vl_out hq rfl
    have o5 : ∀ (F : Nat → Nat → Int64) x, jv_u F o 5 x q i = F q i := fun F x => vl_out hq rfl
    repeat' split
    all_goals simp only [o0, o1, o2, o3, o4, o5]
