/-! what operate leaves -/
theorem vl_ite_set {p : Prop} [Decidable p] (L : Nat → Nat → Int64) (o : Nat) (a b : vb_S) : (if p then vl_set L o a else vl_set L o b) = vl_set L o (if p then a else b) := by split <;> rfl
/-- operation c, before it is made tight -/
def vb_cOp (c : Int32) (x y : vb_S) (top : Nat) : vb_S :=
  if c = Int32.ofInt 0 then vb_cAdd x y else if c = Int32.ofInt 1 then vb_cSub x y else if c = Int32.ofInt 2 then vb_cMul x y else if c = Int32.ofInt 3 then vb_cDiv x y
  else if c = Int32.ofInt 4 then vb_cBits c x y else if c = Int32.ofInt 5 then vb_cBits c x y else if c = Int32.ofInt 6 then vb_cLeft x y top else if c = Int32.ofInt 7 then vb_cRight x y top
  else if c = Int32.ofInt 9 then vb_cRest x y else if c = Int32.ofInt 10 then vb_cBits c x y else if c = Int32.ofInt 11 then y else if c = Int32.ofInt 12 then vb_cSRight x y top else vb_any
theorem vl_operate {K : Nat → Option (Nat × Nat)} {I : Nat → Nat → Int32} {L : Nat → Nat → Int64} {R : Nat → Nat → Value} {o x w : Nat} {c t : Int32} {top : Nat} (ho : K o = some (9, 6)) (hx : jv_isV K x) (hw : jv_isV K w) (ht : (t = 63 ∧ top = 63) ∨ (t = 31 ∧ top = 31)) (hle : (vl_S L w).low.toNat ≤ (vl_S L w).high.toNat) (h1 : o ≠ x) (h2 : o ≠ w) {n sl : Nat} :
    jv_Ms 158 [.ref o, .int c, .ref x, .ref w, .int t] (jv_H K I L R) n sl (none, jv_H K I (vl_set L o (vb_tt (vb_cOp c (vl_S L x) (vl_S L w) top))) R, n, sl) := by
  have H := jv_s158 (L := L) (I := I) (R := R) (n := n) (sl := sl) o c x w t top ho hx hw ht hle h1 h2 _ rfl
  simp only [vl_ite_set, vl_set_S, vl_set_set] at H
  exact H

/-- the concrete operation -/
def vb_op (c : Int32) (n m : BitVec 64) (top : Nat) : BitVec 64 :=
  if c = Int32.ofInt 0 then n + m else if c = Int32.ofInt 1 then n - m else if c = Int32.ofInt 2 then n * m else if c = Int32.ofInt 3 then n / m
  else if c = Int32.ofInt 4 then n ||| m else if c = Int32.ofInt 5 then n &&& m else if c = Int32.ofInt 6 then n <<< (m.toNat % (top + 1)) else if c = Int32.ofInt 7 then n >>> (m.toNat % (top + 1))
  else if c = Int32.ofInt 9 then (if m = 0 then n else n % m) else if c = Int32.ofInt 10 then n ^^^ m else if c = Int32.ofInt 11 then m else n.sshiftRight (m.toNat % (top + 1))
theorem vb_any_mem (n : BitVec 64) : vb_mem vb_any n := vb_mem_of (vb_pat0 n) (Nat.zero_le _) (vb_nat_hi n) (vb_int_lo n) (vb_int_hi n)
theorem vb_op_sound {c : Int32} {x y : vb_S} {n m : BitVec 64} {top : Nat} (ht : top = 63 ∨ top = 31) (hx : x.ones &&& x.mask = x.ones) (hy : y.ones &&& y.mask = y.ones) (hn : vb_mem x n) (hm : vb_mem y m) : vb_mem (vb_cOp c x y top) (vb_op c n m top) := by
  unfold vb_cOp vb_op
  by_cases c0 : c = Int32.ofInt 0
  · rw [if_pos c0, if_pos c0]; exact vb_add_sound hx hy hn hm
  rw [if_neg c0, if_neg c0]
  by_cases c1 : c = Int32.ofInt 1
  · rw [if_pos c1, if_pos c1]; exact vb_sub_sound hx hy hn hm
  rw [if_neg c1, if_neg c1]
  by_cases c2 : c = Int32.ofInt 2
  · rw [if_pos c2, if_pos c2]; exact vb_mul_sound hn hm
  rw [if_neg c2, if_neg c2]
  by_cases c3 : c = Int32.ofInt 3
  · rw [if_pos c3, if_pos c3]; exact vb_div_sound hn hm
  rw [if_neg c3, if_neg c3]
  by_cases c4 : c = Int32.ofInt 4
  · rw [if_pos c4, if_pos c4]; unfold vb_cBits; rw [c4, if_neg (by decide), if_pos (by decide)]; exact vb_or_sound hn hm
  rw [if_neg c4, if_neg c4]
  by_cases c5 : c = Int32.ofInt 5
  · rw [if_pos c5, if_pos c5]; unfold vb_cBits; rw [c5, if_pos (by decide)]; exact vb_and_sound hn hm
  rw [if_neg c5, if_neg c5]
  by_cases c6 : c = Int32.ofInt 6
  · rw [if_pos c6, if_pos c6]; exact vb_left_sound ht hn hm
  rw [if_neg c6, if_neg c6]
  by_cases c7 : c = Int32.ofInt 7
  · rw [if_pos c7, if_pos c7]; exact vb_right_sound ht hn hm
  rw [if_neg c7, if_neg c7]
  by_cases c9 : c = Int32.ofInt 9
  · rw [if_pos c9, if_pos c9]; exact vb_rest_sound hn hm
  rw [if_neg c9, if_neg c9]
  by_cases c10 : c = Int32.ofInt 10
  · rw [if_pos c10, if_pos c10]; unfold vb_cBits; rw [c10, if_neg (by decide), if_neg (by decide)]; exact vb_xor_sound hn hm
  rw [if_neg c10, if_neg c10]
  by_cases c11 : c = Int32.ofInt 11
  · rw [if_pos c11, if_pos c11]; exact hm
  rw [if_neg c11, if_neg c11]
  by_cases c12 : c = Int32.ofInt 12
  · rw [if_pos c12]; exact vb_sright_sound ht hn hm
  rw [if_neg c12]; exact vb_any_mem _
