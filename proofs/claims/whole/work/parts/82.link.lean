/-! sayings in objects -/
def vl_S (L : Nat → Nat → Int64) (o : Nat) : vb_S := ⟨(L o 0).toBitVec, (L o 1).toBitVec, (L o 2).toBitVec, (L o 3).toBitVec, (L o 4).toBitVec, (L o 5).toBitVec⟩
def vl_f (v : vb_S) (i : Nat) : Int64 := Int64.ofBitVec (if i = 0 then v.mask else if i = 1 then v.ones else if i = 2 then v.low else if i = 3 then v.high else if i = 4 then v.least else v.greatest)
def vl_set (L : Nat → Nat → Int64) (o : Nat) (v : vb_S) : Nat → Nat → Int64 := fun q i => if q = o ∧ i < 6 then vl_f v i else L q i
theorem vl_set_S (L : Nat → Nat → Int64) (o : Nat) (v : vb_S) : vl_S (vl_set L o v) o = v := by
  unfold vl_S vl_set vl_f
  simp only [true_and, show (0 : Nat) < 6 from by decide, show (1 : Nat) < 6 from by decide, show (2 : Nat) < 6 from by decide, show (3 : Nat) < 6 from by decide, show (4 : Nat) < 6 from by decide, show (5 : Nat) < 6 from by decide, if_true]
  rfl
theorem vl_set_o {L : Nat → Nat → Int64} {o : Nat} {v : vb_S} {q : Nat} (h : q ≠ o) : vl_S (vl_set L o v) q = vl_S L q := by
  unfold vl_S vl_set
  simp only [h, false_and, if_false]
theorem vl_set_out {L : Nat → Nat → Int64} {o : Nat} {v : vb_S} {q i : Nat} (h : ¬ (q = o ∧ i < 6)) : vl_set L o v q i = L q i := if_neg h
theorem vl_set_set (L : Nat → Nat → Int64) (o : Nat) (v w : vb_S) : vl_set (vl_set L o v) o w = vl_set L o w := by
  funext q i
  unfold vl_set
  by_cases h : q = o ∧ i < 6
  · rw [if_pos h, if_pos h]
  · rw [if_neg h, if_neg h, if_neg h]
theorem vl_eq {L L' : Nat → Nat → Int64} {o : Nat} {v : vb_S} (h : vl_S L' o = v) (h' : ∀ q i, ¬ (q = o ∧ i < 6) → L' q i = L q i) : L' = vl_set L o v := by
  funext q i
  by_cases hq : q = o ∧ i < 6
  · obtain ⟨rfl, hi⟩ := hq
    unfold vl_set
    rw [if_pos ⟨rfl, hi⟩, ← h]
    unfold vl_f vl_S
    match i, hi with
    | 0, _ => rfl
    | 1, _ => rfl
    | 2, _ => rfl
    | 3, _ => rfl
    | 4, _ => rfl
    | 5, _ => rfl
  · rw [vl_set_out hq]; exact h' q i hq
theorem vl_set_same (L : Nat → Nat → Int64) (o : Nat) : vl_set L o (vl_S L o) = L := (vl_eq rfl (fun _ _ _ => rfl)).symm
theorem vl_out {α : Type} {F : Nat → Nat → α} {o j : Nat} {x : α} {q i : Nat} (h : ¬ (q = o ∧ i < 6)) (hj : Nat.blt j 6 = true) : jv_u F o j x q i = F q i := by
  unfold jv_u
  have : (q.beq o && i.beq j) = false := by
    cases e : (q.beq o && i.beq j)
    · rfl
    · rw [Bool.and_eq_true] at e
      exact absurd ⟨Nat.eq_of_beq_eq_true e.1, by rw [Nat.eq_of_beq_eq_true e.2]; exact Nat.le_of_ble_eq_true hj⟩ h
  rw [this]; rfl
theorem vl_at {α : Type} (F : Nat → Nat → α) (o j : Nat) (x : α) : jv_u F o j x o j = x := by
  unfold jv_u
  rw [show (o.beq o && j.beq j) = true from by rw [Nat.beq_refl, Nat.beq_refl]; rfl]; rfl
theorem vl_ne2 {α : Type} {F : Nat → Nat → α} {o j i : Nat} {x : α} (h : ¬ i = j) : jv_u F o j x o i = F o i := by
  unfold jv_u; rw [show i.beq j = false from by cases e : i.beq j; rfl; exact absurd (Nat.eq_of_beq_eq_true e) h, Bool.and_false]; rfl
theorem vl_ne {α : Type} {F : Nat → Nat → α} {o j i : Nat} {x : α} (h : Nat.beq i j = false) : jv_u F o j x o i = F o i := by
  unfold jv_u; rw [h, Bool.and_false]; rfl

theorem vl_n01 {α : Type} (F : Nat → Nat → α) (o : Nat) (x : α) : jv_u F o 0 x o 1 = F o 1 := vl_ne rfl
theorem vl_n02 {α : Type} (F : Nat → Nat → α) (o : Nat) (x : α) : jv_u F o 0 x o 2 = F o 2 := vl_ne rfl
theorem vl_n03 {α : Type} (F : Nat → Nat → α) (o : Nat) (x : α) : jv_u F o 0 x o 3 = F o 3 := vl_ne rfl
theorem vl_n04 {α : Type} (F : Nat → Nat → α) (o : Nat) (x : α) : jv_u F o 0 x o 4 = F o 4 := vl_ne rfl
theorem vl_n05 {α : Type} (F : Nat → Nat → α) (o : Nat) (x : α) : jv_u F o 0 x o 5 = F o 5 := vl_ne rfl
theorem vl_n10 {α : Type} (F : Nat → Nat → α) (o : Nat) (x : α) : jv_u F o 1 x o 0 = F o 0 := vl_ne rfl
theorem vl_n12 {α : Type} (F : Nat → Nat → α) (o : Nat) (x : α) : jv_u F o 1 x o 2 = F o 2 := vl_ne rfl
theorem vl_n13 {α : Type} (F : Nat → Nat → α) (o : Nat) (x : α) : jv_u F o 1 x o 3 = F o 3 := vl_ne rfl
theorem vl_n14 {α : Type} (F : Nat → Nat → α) (o : Nat) (x : α) : jv_u F o 1 x o 4 = F o 4 := vl_ne rfl
theorem vl_n15 {α : Type} (F : Nat → Nat → α) (o : Nat) (x : α) : jv_u F o 1 x o 5 = F o 5 := vl_ne rfl
theorem vl_n20 {α : Type} (F : Nat → Nat → α) (o : Nat) (x : α) : jv_u F o 2 x o 0 = F o 0 := vl_ne rfl
theorem vl_n21 {α : Type} (F : Nat → Nat → α) (o : Nat) (x : α) : jv_u F o 2 x o 1 = F o 1 := vl_ne rfl
theorem vl_n23 {α : Type} (F : Nat → Nat → α) (o : Nat) (x : α) : jv_u F o 2 x o 3 = F o 3 := vl_ne rfl
theorem vl_n24 {α : Type} (F : Nat → Nat → α) (o : Nat) (x : α) : jv_u F o 2 x o 4 = F o 4 := vl_ne rfl
theorem vl_n25 {α : Type} (F : Nat → Nat → α) (o : Nat) (x : α) : jv_u F o 2 x o 5 = F o 5 := vl_ne rfl
theorem vl_n30 {α : Type} (F : Nat → Nat → α) (o : Nat) (x : α) : jv_u F o 3 x o 0 = F o 0 := vl_ne rfl
theorem vl_n31 {α : Type} (F : Nat → Nat → α) (o : Nat) (x : α) : jv_u F o 3 x o 1 = F o 1 := vl_ne rfl
theorem vl_n32 {α : Type} (F : Nat → Nat → α) (o : Nat) (x : α) : jv_u F o 3 x o 2 = F o 2 := vl_ne rfl
theorem vl_n34 {α : Type} (F : Nat → Nat → α) (o : Nat) (x : α) : jv_u F o 3 x o 4 = F o 4 := vl_ne rfl
theorem vl_n35 {α : Type} (F : Nat → Nat → α) (o : Nat) (x : α) : jv_u F o 3 x o 5 = F o 5 := vl_ne rfl
theorem vl_n40 {α : Type} (F : Nat → Nat → α) (o : Nat) (x : α) : jv_u F o 4 x o 0 = F o 0 := vl_ne rfl
theorem vl_n41 {α : Type} (F : Nat → Nat → α) (o : Nat) (x : α) : jv_u F o 4 x o 1 = F o 1 := vl_ne rfl
theorem vl_n42 {α : Type} (F : Nat → Nat → α) (o : Nat) (x : α) : jv_u F o 4 x o 2 = F o 2 := vl_ne rfl
theorem vl_n43 {α : Type} (F : Nat → Nat → α) (o : Nat) (x : α) : jv_u F o 4 x o 3 = F o 3 := vl_ne rfl
theorem vl_n45 {α : Type} (F : Nat → Nat → α) (o : Nat) (x : α) : jv_u F o 4 x o 5 = F o 5 := vl_ne rfl
theorem vl_n50 {α : Type} (F : Nat → Nat → α) (o : Nat) (x : α) : jv_u F o 5 x o 0 = F o 0 := vl_ne rfl
theorem vl_n51 {α : Type} (F : Nat → Nat → α) (o : Nat) (x : α) : jv_u F o 5 x o 1 = F o 1 := vl_ne rfl
theorem vl_n52 {α : Type} (F : Nat → Nat → α) (o : Nat) (x : α) : jv_u F o 5 x o 2 = F o 2 := vl_ne rfl
theorem vl_n53 {α : Type} (F : Nat → Nat → α) (o : Nat) (x : α) : jv_u F o 5 x o 3 = F o 3 := vl_ne rfl
theorem vl_n54 {α : Type} (F : Nat → Nat → α) (o : Nat) (x : α) : jv_u F o 5 x o 4 = F o 4 := vl_ne rfl

/-! longs as rows of bits -/
theorem vl_xor1 (a : Int64) : (a ^^^ (-1 : Int64)).toBitVec = ~~~a.toBitVec := by
  rw [Int64.toBitVec_xor, show (-1 : Int64).toBitVec = ~~~(0 : BitVec 64) from by decide]
  refine BitVec.eq_of_getLsbD_eq (fun k hk => ?_)
  rw [BitVec.getLsbD_xor, BitVec.getLsbD_not, BitVec.getLsbD_not, vb_bit0]
  simp [hk]
theorem vl_x1 (a : BitVec 64) : a ^^^ (-1 : Int64).toBitVec = ~~~a := by
  have := vl_xor1 (Int64.ofBitVec a)
  rw [Int64.toBitVec_xor] at this
  exact this
theorem vl_lt0 (a : Int64) : (a < 0) ↔ ¬ (0 : BitVec 64).sle a.toBitVec = true := by
  rw [Int64.lt_iff_toBitVec_slt, vb_sle0]
  rw [show (0 : Int64).toBitVec = (0 : BitVec 64) from rfl, vb_slt0]
  cases a.toBitVec.msb <;> decide
theorem vl_lt (a b : Int64) : (a < b) ↔ a.toBitVec.toInt < b.toBitVec.toInt := by
  rw [Int64.lt_iff_toBitVec_slt]; exact vb_slt
theorem vl_le (a b : Int64) : (a ≤ b) ↔ a.toBitVec.toInt ≤ b.toBitVec.toInt := by
  rw [Int64.le_iff_toBitVec_sle]; exact vb_sle
theorem vl_eqb (a b : Int64) : (a = b) ↔ a.toBitVec = b.toBitVec := Int64.toBitVec_inj.symm
theorem vl_min_add (a : BitVec 64) : (a + vb_top_).toNat = if a.toNat < 9223372036854775808 then a.toNat + 9223372036854775808 else a.toNat - 9223372036854775808 := by
  have h := vb_addC a vb_top_
  rw [show vb_top_.toNat = 9223372036854775808 from rfl] at h
  have := vb_lt_nat a
  generalize a + vb_top_ = s at h ⊢
  split <;> omega
theorem vl_unsigned (a b : Int64) : (a + (-9223372036854775808 : Int64) < b + (-9223372036854775808 : Int64)) ↔ a.toBitVec < b.toBitVec := by
  rw [vl_lt, Int64.toBitVec_add, Int64.toBitVec_add, BitVec.lt_def, show (-9223372036854775808 : Int64).toBitVec = vb_top_ from by decide]
  have h1 := vl_min_add a.toBitVec
  have h2 := vl_min_add b.toBitVec
  generalize a.toBitVec = x at *
  generalize b.toBitVec = y at *
  generalize x + vb_top_ = s at *
  generalize y + vb_top_ = t at *
  have := vb_lt_nat x; have := vb_lt_nat y
  split at h1 <;> split at h2 <;> rcases vb_val s with ⟨p, q, r⟩ | ⟨p, q, r, r2⟩ <;> rcases vb_val t with ⟨p', q', r'⟩ | ⟨p', q', r', r2'⟩ <;> omega
theorem vl_unsigned_le (a b : Int64) : (b + (-9223372036854775808 : Int64) ≤ a + (-9223372036854775808 : Int64)) ↔ ¬ a.toBitVec < b.toBitVec := by
  rw [← vl_unsigned, vl_lt, vl_le]; omega
theorem vl_below (a b : Int64) : jv_cbelow a b = if a.toBitVec < b.toBitVec then 1 else 0 := by
  unfold jv_cbelow
  simp only [vl_unsigned_le]
  by_cases h : a.toBitVec < b.toBitVec <;> simp [h]
theorem vl_below_eq (a b c d : Int64) : jv_cbelow a b = jv_cbelow c d ↔ (decide (a.toBitVec < b.toBitVec) == decide (c.toBitVec < d.toBitVec)) = true := by
  rw [vl_below, vl_below]
  by_cases h : a.toBitVec < b.toBitVec <;> by_cases h2 : c.toBitVec < d.toBitVec <;> simp [h, h2]
theorem vl_clesser (a b : Int64) : (jv_clesser a b).toBitVec = vb_lesser a.toBitVec b.toBitVec := by
  unfold jv_clesser vb_lesser
  simp only [vl_unsigned_le]
  by_cases h : a.toBitVec < b.toBitVec <;> simp [h]
theorem vl_clarger (a b : Int64) : (jv_clarger a b).toBitVec = vb_larger a.toBitVec b.toBitVec := by
  unfold jv_clarger vb_larger
  simp only [vl_unsigned_le]
  by_cases h : a.toBitVec < b.toBitVec <;> simp [h]

theorem vl_sayAdd {K : Nat → Option (Nat × Nat)} {I : Nat → Nat → Int32} {L : Nat → Nat → Int64} {R : Nat → Nat → Value} {o x w : Nat} (ho : jv_isV K o) (hx : jv_isV K x) (hw : jv_isV K w) (h1 : o ≠ x) (h2 : o ≠ w) (ha : vl_S L o = vb_any) {n sl : Nat} :
    jv_Ms 159 [.ref o, .ref x, .ref w] (jv_H K I L R) n sl (none, jv_H K I (vl_set L o (vb_cAdd (vl_S L x) (vl_S L w))) R, n, sl) := by
  have H := jv_s159 (L := L) (I := I) (R := R) (n := n) (sl := sl) o x w ho hx hw h1 h2 _ rfl _ rfl
  refine (congrArg (fun Z => jv_Ms 159 [.ref o, .ref x, .ref w] (jv_H K I L R) n sl (none, jv_H K I Z R, n, sl)) ?_).mp H
  clear H
  have a2 : (L o 2).toBitVec = 0 := congrArg vb_S.low ha
  have a3 : (L o 3).toBitVec = vb_m1 := congrArg vb_S.high ha
  have a4 : (L o 4).toBitVec = vb_top_ := congrArg vb_S.least ha
  have a5 : (L o 5).toBitVec = vb_most := congrArg vb_S.greatest ha
  refine vl_eq ?_ (fun q i hq => ?_)
  · unfold vl_S vb_cAdd
    simp only [vl_lt0, vl_below_eq, Int64.toBitVec_add, Int64.toBitVec_and, Int64.toBitVec_xor, Int64.toBitVec_or, vb_S.mask, vb_S.ones, vb_S.low, vb_S.high, vb_S.least, vb_S.greatest]
    repeat' split
    all_goals simp_all only [vl_at, vl_n01, vl_n02, vl_n03, vl_n04, vl_n05, vl_n10, vl_n12, vl_n13, vl_n14, vl_n15, vl_n20, vl_n21, vl_n23, vl_n24, vl_n25, vl_n30, vl_n31, vl_n32, vl_n34, vl_n35, vl_n40, vl_n41, vl_n42, vl_n43, vl_n45, vl_n50, vl_n51, vl_n52, vl_n53, vl_n54, not_false_eq_true, not_true, ne_eq, Int64.toBitVec_add, Int64.toBitVec_and, Int64.toBitVec_xor, Int64.toBitVec_or, vl_x1, Bool.false_and, Bool.and_false, Bool.true_and, Bool.and_true, Bool.not_eq_true, Bool.false_eq_true, Bool.true_eq_false]
  · have o0 : ∀ (F : Nat → Nat → Int64) x, jv_u F o 0 x q i = F q i := fun F x => vl_out hq rfl
    have o1 : ∀ (F : Nat → Nat → Int64) x, jv_u F o 1 x q i = F q i := fun F x => vl_out hq rfl
    have o2 : ∀ (F : Nat → Nat → Int64) x, jv_u F o 2 x q i = F q i := fun F x => vl_out hq rfl
    have o3 : ∀ (F : Nat → Nat → Int64) x, jv_u F o 3 x q i = F q i := fun F x => vl_out hq rfl
    have o4 : ∀ (F : Nat → Nat → Int64) x, jv_u F o 4 x q i = F q i := fun F x => vl_out hq rfl
    have o5 : ∀ (F : Nat → Nat → Int64) x, jv_u F o 5 x q i = F q i := fun F x => vl_out hq rfl
    repeat' split
    all_goals simp only [o0, o1, o2, o3, o4, o5]

/-! tighten, of an object's sayings -/
theorem vl_ushr (u : Int64) {s : Int32} {k : Nat} (h : (s.toInt64.toUInt64 &&& Int64.toUInt64 63).toBitVec.toNat % 64 = k) : ((u.toUInt64 >>> (s.toInt64.toUInt64 &&& Int64.toUInt64 63)).toInt64).toBitVec = u.toBitVec >>> k := by
  rw [UInt64.toBitVec_toInt64, UInt64.toBitVec_shiftRight, Int64.toBitVec_toUInt64]
  refine BitVec.eq_of_toNat_eq ?_
  rw [BitVec.ushiftRight_eq', vb_shr_nat, vb_shr_nat, BitVec.toNat_umod, show (64 : BitVec 64).toNat = 64 from rfl, h]
theorem vl_sm (u : Int64) {s : Int32} {k : Nat} (h : (s.toInt64.toUInt64 &&& Int64.toUInt64 63).toBitVec.toNat % 64 = k) : (jv_sm s u).toBitVec = vb_sm k u.toBitVec := by
  unfold jv_sm vb_sm
  rw [Int64.toBitVec_or, vl_ushr u h]
theorem vl_smear (u : Int64) : (jv_smear u).toBitVec = vb_smear u.toBitVec := by
  unfold jv_smear vb_smear
  rw [vl_sm _ (k := 32) (by decide), vl_sm _ (k := 16) (by decide), vl_sm _ (k := 8) (by decide), vl_sm _ (k := 4) (by decide), vl_sm _ (k := 2) (by decide), vl_sm _ (k := 1) (by decide)]
theorem vl_same (a b : Int64) : (jv_same a b).toBitVec = vb_same a.toBitVec b.toBitVec := by
  unfold jv_same vb_same
  rw [vl_xor1, vl_smear, Int64.toBitVec_xor]
theorem vl_zero : (0 : Int64).toBitVec = 0 := rfl
theorem vl_one : (1 : Int64).toBitVec = 1 := rfl
theorem vl_ite {p : Prop} [Decidable p] {a b : Int64} : (if p then a else b).toBitVec = if p then a.toBitVec else b.toBitVec := by split <;> rfl
theorem vl_x2 (a : BitVec 64) : a ^^^ (-1 : BitVec 64) = ~~~a := by
  have := vl_x1 a; exact this
theorem vl_ffrom (m o a : Int64) : (jv_ffrom m o a).toBitVec = vb_first m.toBitVec o.toBitVec a.toBitVec := by
  unfold jv_ffrom vb_first
  simp only [vl_ite, vl_eqb, Int64.toBitVec_and, Int64.toBitVec_or, Int64.toBitVec_neg, Int64.toBitVec_sub, Int64.toBitVec_xor, vl_x1, vl_x2, vl_smear, vl_zero, vl_one, vl_ushr _ (s := 1) (k := 1) (by decide), ite_not]

theorem vl_max (a b : Int64) : (if b < a then a else b).toBitVec = vb_smax a.toBitVec b.toBitVec := by
  refine BitVec.eq_of_toInt_eq ?_
  rw [vb_smax_int, vl_ite]
  by_cases h : b < a
  · rw [if_pos h]; rw [vl_lt] at h; split <;> omega
  · rw [if_neg h]; rw [vl_lt] at h; split <;> omega
theorem vl_min (a b : Int64) : (if b < a then b else a).toBitVec = vb_smin a.toBitVec b.toBitVec := by
  refine BitVec.eq_of_toInt_eq ?_
  rw [vb_smin_int, vl_ite]
  by_cases h : b < a
  · rw [if_pos h]; rw [vl_lt] at h; split <;> omega
  · rw [if_neg h]; rw [vl_lt] at h; split <;> omega
theorem vl_max' (a b : Int64) : (if a < b then b else a).toBitVec = vb_smax a.toBitVec b.toBitVec := by
  refine BitVec.eq_of_toInt_eq ?_
  rw [vb_smax_int, vl_ite]
  by_cases h : a < b
  · rw [if_pos h]; rw [vl_lt] at h; split <;> omega
  · rw [if_neg h]; rw [vl_lt] at h; split <;> omega
theorem vl_sle0 (a : Int64) : (0 : Int64) ≤ a ↔ (0 : BitVec 64).sle a.toBitVec = true := by
  rw [vl_le, vb_sle]; rfl
theorem vl_slt0 (a : Int64) : a < (0 : Int64) ↔ a.toBitVec.slt 0 = true := by
  rw [vl_lt, vb_slt]; rfl
theorem vl_sle (a b : Int64) : a ≤ b ↔ a.toBitVec.sle b.toBitVec = true := by rw [vl_le, vb_sle]
theorem vl_slt (a b : Int64) : a < b ↔ a.toBitVec.slt b.toBitVec = true := by rw [vl_lt, vb_slt]
theorem vl_top : (-9223372036854775808 : Int64).toBitVec = vb_top_ := by decide
theorem vl_most : (9223372036854775807 : Int64).toBitVec = vb_most := by decide
theorem vl_m1 : (-1 : Int64).toBitVec = vb_m1 := by decide
theorem vl_nlt {a b : BitVec 64} : a.slt b = !b.sle a := by
  rw [Bool.eq_iff_iff, vb_slt, Bool.not_eq_true', ← Bool.not_eq_true, vb_sle]; omega

/-- what tighten answers, and leaves -/
theorem vl_tighten {K : Nat → Option (Nat × Nat)} {I : Nat → Nat → Int32} {L : Nat → Nat → Int64} {R : Nat → Nat → Value} {o : Nat} (ho : jv_isV K o) {n sl : Nat} :
    jv_Ms 155 [.ref o] (jv_H K I L R) n sl (some (.int (if vb_can (vl_S L o) = true then 1 else 0)), jv_H K I (if vb_can (vl_S L o) = true then vl_set L o (vb_ctight (vl_S L o)) else L) R, n, sl) := by
  have b0 : ∀ {p : Bool} {x : Int32}, (x = if p = true then 1 else 0) → ((x = 0) ↔ ¬ p = true) := by
    intro p x h; subst h; cases p <;> decide
  generalize h1 : (if (0 : Int64) < (if (L o 4) < (L o 2) then (L o 2) else (L o 4)) then (if (L o 4) < (L o 2) then (L o 2) else (L o 4)) else (0 : Int64)) = v1
  have e1 : v1.toBitVec = vb_from1 (vl_S L o) := by
    rw [← h1, vl_max, vl_max]; rfl
  generalize h2 : (if ((0 : Int64) ≤ (L o 3)) then (L o 3) else (9223372036854775807 : Int64)) = v2
  have e2' : (if (L o 5) < v2 then (L o 5) else v2).toBitVec = vb_to1 (vl_S L o) := by
    rw [← h2, vl_min, vl_ite]
    unfold vb_to1
    simp only [vl_sle0, vl_most]
    show vb_smin (if (0 : BitVec 64).sle (L o 3).toBitVec = true then (L o 3).toBitVec else vb_most) (L o 5).toBitVec = vb_smin (if (L o 3).toBitVec.slt 0 = true then vb_most else (L o 3).toBitVec) (L o 5).toBitVec
    rw [vl_nlt]
    cases (0 : BitVec 64).sle (L o 3).toBitVec <;> rfl
  generalize h2b : (if (L o 5) < v2 then (L o 5) else v2) = t1 at e2'
  generalize h4 : (if ((L o 2) < (0 : Int64)) then (0 : Int32) else (if ((L o 1) < (0 : Int64)) then (0 : Int32) else (if (t1 < v1) then (0 : Int32) else (1 : Int32)))) = v4
  have e4 : v4 = if vb_p0 (vl_S L o) = true then 1 else 0 := by
    rw [← h4]
    unfold vb_p0
    rw [← e1, ← e2']
    simp only [vl_slt, vl_nlt, vl_zero]
    show _ = if ((0 : BitVec 64).sle (L o 2).toBitVec && (0 : BitVec 64).sle (L o 1).toBitVec && v1.toBitVec.sle t1.toBitVec) = true then 1 else 0
    cases (0 : BitVec 64).sle (L o 2).toBitVec <;> cases (0 : BitVec 64).sle (L o 1).toBitVec <;> cases v1.toBitVec.sle t1.toBitVec <;> rfl
  have e4' := b0 e4
  have ones : (L o 1).toBitVec = (vl_S L o).ones := rfl
  have mask : (L o 0).toBitVec = (vl_S L o).mask := rfl
  -- the first and the last without the sign
  generalize h5 : (if (v4 = 0) then (0 : Int64) else (jv_ffrom ((L o 0) ||| (-9223372036854775808 : Int64)) (L o 1) v1)) = pf
  have e5 : pf.toBitVec = vb_pf (vl_S L o) := by
    rw [← h5, vl_ite, vl_ffrom, Int64.toBitVec_or, vl_top, e1, vl_zero]
    unfold vb_pf
    simp only [e4', ite_not]; rfl
  generalize h7 : (if (v4 = 0) then (0 : Int64) else ((jv_ffrom ((L o 0) ||| (-9223372036854775808 : Int64)) (((L o 1) ^^^ (-1 : Int64)) &&& ((L o 0) ||| (-9223372036854775808 : Int64))) (t1 ^^^ (-1 : Int64))) ^^^ (-1 : Int64))) = pl
  have e7 : pl.toBitVec = vb_pl (vl_S L o) := by
    rw [← h7, vl_ite, vl_xor1, vl_ffrom, Int64.toBitVec_and, vl_xor1, Int64.toBitVec_or, vl_top, vl_xor1, e2', vl_zero]
    unfold vb_pl
    simp only [e4', ite_not]; rfl
  generalize h10 : (if (v4 = 0) then (0 : Int32) else (if (pf < v1) then (0 : Int32) else (if (t1 < pl) then (0 : Int32) else (if (pl < pf) then (0 : Int32) else (1 : Int32))))) = P
  have e10 : P = if vb_p (vl_S L o) = true then 1 else 0 := by
    rw [← h10]
    unfold vb_p
    rw [← e1, ← e2', ← e5, ← e7]
    simp only [vl_slt, vl_nlt, e4', ite_not]
    cases vb_p0 (vl_S L o) <;> cases v1.toBitVec.sle pf.toBitVec <;> cases pl.toBitVec.sle t1.toBitVec <;> cases pf.toBitVec.sle pl.toBitVec <;> rfl
  have e10' := b0 e10
  -- those with the sign
  generalize h11 : (if ((0 : Int64) ≤ (L o 2)) then (-9223372036854775808 : Int64) else (L o 2)) = v11
  have e11 : (if (L o 4) < v11 then v11 else (L o 4)).toBitVec = vb_from2 (vl_S L o) := by
    rw [← h11, vl_max, vl_ite]
    unfold vb_from2
    simp only [vl_sle0, vl_top]
    show vb_smax (if (0 : BitVec 64).sle (L o 2).toBitVec = true then vb_top_ else (L o 2).toBitVec) (L o 4).toBitVec = vb_smax (if (L o 2).toBitVec.slt 0 = true then (L o 2).toBitVec else vb_top_) (L o 4).toBitVec
    rw [vl_nlt]
    cases (0 : BitVec 64).sle (L o 2).toBitVec <;> rfl
  generalize h11b : (if (L o 4) < v11 then v11 else (L o 4)) = f2 at e11
  generalize h12 : (if (-1 : Int64) < (if (L o 5) < (L o 3) then (L o 5) else (L o 3)) then (-1 : Int64) else (if (L o 5) < (L o 3) then (L o 5) else (L o 3))) = v12
  have e12 : v12.toBitVec = vb_to2 (vl_S L o) := by
    rw [← h12, vl_min, vl_min, vl_m1]; rfl
  generalize h14 : (if ((0 : Int64) ≤ (L o 3)) then (0 : Int32) else (if ((0 : Int64) ≤ (L o 0)) then (if (v12 < f2) then (0 : Int32) else (1 : Int32)) else (if ((0 : Int64) ≤ (L o 1)) then (0 : Int32) else (if (v12 < f2) then (0 : Int32) else (1 : Int32))))) = v14
  have e14 : v14 = if vb_q0 (vl_S L o) = true then 1 else 0 := by
    rw [← h14]
    unfold vb_q0
    rw [← e11, ← e12]
    simp only [vl_sle0, vl_slt, vl_nlt]
    show _ = if ((!(0 : BitVec 64).sle (L o 3).toBitVec) && ((0 : BitVec 64).sle (L o 0).toBitVec || !(0 : BitVec 64).sle (L o 1).toBitVec) && f2.toBitVec.sle v12.toBitVec) = true then 1 else 0
    cases (0 : BitVec 64).sle (L o 3).toBitVec <;> cases (0 : BitVec 64).sle (L o 0).toBitVec <;> cases (0 : BitVec 64).sle (L o 1).toBitVec <;> cases f2.toBitVec.sle v12.toBitVec <;> rfl
  have e14' := b0 e14
  generalize h16 : (if (v14 = 0) then (0 : Int64) else (jv_ffrom ((L o 0) ||| (-9223372036854775808 : Int64)) ((L o 1) ||| (-9223372036854775808 : Int64)) f2)) = mf
  have e16 : mf.toBitVec = vb_mf (vl_S L o) := by
    rw [← h16, vl_ite, vl_ffrom, Int64.toBitVec_or, Int64.toBitVec_or, vl_top, e11, vl_zero]
    unfold vb_mf
    simp only [e14', ite_not]; rfl
  generalize h19 : (if (v14 = 0) then (0 : Int64) else ((jv_ffrom ((L o 0) ||| (-9223372036854775808 : Int64)) ((((L o 1) ^^^ (-1 : Int64)) &&& (L o 0)) &&& ((-9223372036854775808 : Int64) ^^^ (-1 : Int64))) (v12 ^^^ (-1 : Int64))) ^^^ (-1 : Int64))) = ml
  have e19 : ml.toBitVec = vb_ml (vl_S L o) := by
    rw [← h19, vl_ite, vl_xor1, vl_ffrom, Int64.toBitVec_and, Int64.toBitVec_and, vl_xor1, vl_xor1, Int64.toBitVec_or, vl_top, vl_xor1, e12, vl_zero]
    unfold vb_ml
    simp only [e14', ite_not]; rfl
  generalize h22 : (if (v14 = 0) then (0 : Int32) else (if (mf < f2) then (0 : Int32) else (if (v12 < ml) then (0 : Int32) else (if (ml < mf) then (0 : Int32) else (1 : Int32))))) = Q
  have e22 : Q = if vb_q (vl_S L o) = true then 1 else 0 := by
    rw [← h22]
    unfold vb_q
    rw [← e11, ← e12, ← e16, ← e19]
    simp only [vl_slt, vl_nlt, e14', ite_not]
    cases vb_q0 (vl_S L o) <;> cases f2.toBitVec.sle mf.toBitVec <;> cases ml.toBitVec.sle v12.toBitVec <;> cases mf.toBitVec.sle ml.toBitVec <;> rfl
  have e22' := b0 e22
  have H := jv_s155 (I := I) (L := L) (R := R) (n := n) (sl := sl) o ho _ rfl _ rfl _ rfl _ rfl _ rfl _ rfl _ rfl _ rfl _ rfl _ rfl _ rfl _ rfl _ rfl _ rfl _ rfl _ rfl _ rfl _ rfl _ rfl _ rfl _ rfl _ rfl _ rfl _ rfl _ rfl _ rfl _ rfl _ rfl _ rfl _ rfl
  simp only [h1, h2, h2b, h4, h5, h7, h10, h11, h11b, h12, h14, h16, h19, h22] at H
  clear h1 h2 h2b h4 h5 h7 h10 h11 h11b h12 h14 h16 h19 h22
  have out : ∀ (a b c d e f : Int64), jv_u (jv_u (jv_u (jv_u (jv_u (jv_u L o 2 c) o 3 d) o 4 e) o 5 f) o 0 a) o 1 b = vl_set L o ⟨a.toBitVec, b.toBitVec, c.toBitVec, d.toBitVec, e.toBitVec, f.toBitVec⟩ := by
    intro a b c d e f
    refine vl_eq ?_ (fun q i hq => ?_)
    · unfold vl_S
      simp only [vl_at, vl_n01, vl_n02, vl_n03, vl_n04, vl_n05, vl_n10, vl_n12, vl_n13, vl_n14, vl_n15, vl_n20, vl_n21, vl_n23, vl_n24, vl_n25, vl_n30, vl_n31, vl_n32, vl_n34, vl_n35, vl_n40, vl_n41, vl_n42, vl_n43, vl_n45, vl_n50, vl_n51, vl_n52, vl_n53, vl_n54]
    · rw [vl_out hq rfl, vl_out hq rfl, vl_out hq rfl, vl_out hq rfl, vl_out hq rfl, vl_out hq rfl]
  cases hp : vb_p (vl_S L o) <;> cases hq : vb_q (vl_S L o) <;> simp only [e10', e22', hp, hq, Bool.false_eq_true, not_false_eq_true, not_true, if_true, if_false, vb_can, Bool.or_false, Bool.or_true, Bool.false_or, Bool.true_or, out] at H ⊢
  · exact H
  · refine (congrArg (fun Z => jv_Ms 155 [.ref o] (jv_H K I L R) n sl (some (.int 1), jv_H K I Z R, n, sl)) ?_).mp H
    congr 1
    unfold vb_ctight vb_cmask
    simp only [hp, hq, Bool.false_eq_true, if_false, if_true, false_and, Int64.toBitVec_and, Int64.toBitVec_or, vl_same, e16, e19]; rfl
  · refine (congrArg (fun Z => jv_Ms 155 [.ref o] (jv_H K I L R) n sl (some (.int 1), jv_H K I Z R, n, sl)) ?_).mp H
    congr 1
    unfold vb_ctight vb_cmask
    simp only [hp, hq, Bool.false_eq_true, if_false, if_true, and_false, Int64.toBitVec_and, Int64.toBitVec_or, vl_same, e5, e7]; rfl
  · refine (congrArg (fun Z => jv_Ms 155 [.ref o] (jv_H K I L R) n sl (some (.int 1), jv_H K I Z R, n, sl)) ?_).mp H
    congr 1
    unfold vb_ctight vb_cmask
    simp only [hp, hq, if_true, and_self, Int64.toBitVec_and, Int64.toBitVec_or, vl_same, vl_x1, Int64.toBitVec_xor, e5, e7, e16, e19]; rfl
