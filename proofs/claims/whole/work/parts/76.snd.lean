/-! what sums and differences say holds of the sums and differences -/
theorem vb_pat_le2 {v : vb_S} (hv : v.ones &&& v.mask = v.ones) {n : BitVec 64} (h : vb_pat v.mask v.ones n) (k : Nat) : vb_le2 (v.ones.getLsbD k) (n.getLsbD k) = true ∧ vb_le2 (n.getLsbD k) ((v.ones ||| ~~~v.mask).getLsbD k) = true := by
  have h1 := vb_pat_bit h k
  by_cases hk : k < 64
  · rw [BitVec.getLsbD_or, BitVec.getLsbD_not]
    simp only [hk, decide_true, Bool.true_and]
    revert h1
    cases v.ones.getLsbD k <;> cases n.getLsbD k <;> cases v.mask.getLsbD k <;> decide
  · rw [BitVec.getLsbD_of_ge _ k (by omega), BitVec.getLsbD_of_ge _ k (by omega), BitVec.getLsbD_of_ge _ k (by omega)]
    decide

theorem vb_int_nat (x : BitVec 64) : x.toInt = if x.toNat < 9223372036854775808 then (x.toNat : Int) else (x.toNat : Int) - 18446744073709551616 := by
  rcases vb_val x with ⟨a, b, c⟩ | ⟨a, b, c, d⟩
  · rw [if_pos c]; exact b
  · rw [if_neg (by omega)]; exact b
theorem vb_lt_nat (x : BitVec 64) : x.toNat < 18446744073709551616 := x.isLt
theorem vb_add_nat (a b : BitVec 64) : (a + b).toNat = if a.toNat + b.toNat < 18446744073709551616 then a.toNat + b.toNat else a.toNat + b.toNat - 18446744073709551616 := by
  have := vb_lt_nat a; have := vb_lt_nat b
  rw [BitVec.toNat_add, show (2 : Nat) ^ 64 = 18446744073709551616 from rfl]
  split <;> omega
theorem vb_sub_nat (a b : BitVec 64) : (a - b).toNat = if b.toNat ≤ a.toNat then a.toNat - b.toNat else a.toNat + 18446744073709551616 - b.toNat := by
  have := vb_lt_nat a; have := vb_lt_nat b
  rw [BitVec.toNat_sub, show (2 : Nat) ^ 64 = 18446744073709551616 from rfl]
  split <;> omega

theorem vb_addC (a b : BitVec 64) : (a.toNat + b.toNat < 18446744073709551616 ∧ (a + b).toNat = a.toNat + b.toNat) ∨ (18446744073709551616 ≤ a.toNat + b.toNat ∧ (a + b).toNat + 18446744073709551616 = a.toNat + b.toNat) := by
  have h := vb_add_nat a b
  split at h <;> omega
theorem vb_subC (a b : BitVec 64) : (b.toNat ≤ a.toNat ∧ (a - b).toNat + b.toNat = a.toNat) ∨ (a.toNat < b.toNat ∧ (a - b).toNat + b.toNat = a.toNat + 18446744073709551616) := by
  have h := vb_sub_nat a b
  have := vb_lt_nat a; have := vb_lt_nat b
  split at h <;> omega
/-- of two longs the sum is a long -/
theorem vb_sumIsLong_iff (a b : BitVec 64) : vb_sumIsLong a b = true ↔ -9223372036854775808 ≤ a.toInt + b.toInt ∧ a.toInt + b.toInt < 9223372036854775808 := by
  unfold vb_sumIsLong
  rw [vb_slt0, vb_slt0, vb_slt0]
  have h0 := vb_add_nat a b
  generalize a + b = s at h0 ⊢
  rcases vb_val a with ⟨a1, a2, a3⟩ | ⟨a1, a2, a3, a4⟩ <;> rcases vb_val b with ⟨b1, b2, b3⟩ | ⟨b1, b2, b3, b4⟩ <;> rcases vb_val s with ⟨c1, c2, c3⟩ | ⟨c1, c2, c3, c4⟩ <;> rw [a1, b1, c1] <;> simp <;> split at h0 <;> omega
theorem vb_difIsLong_iff (a b : BitVec 64) : vb_difIsLong a b = true ↔ -9223372036854775808 ≤ a.toInt - b.toInt ∧ a.toInt - b.toInt < 9223372036854775808 := by
  unfold vb_difIsLong
  rw [vb_slt0, vb_slt0, vb_slt0]
  have h0 := vb_sub_nat a b
  generalize a - b = s at h0 ⊢
  rcases vb_val a with ⟨a1, a2, a3⟩ | ⟨a1, a2, a3, a4⟩ <;> rcases vb_val b with ⟨b1, b2, b3⟩ | ⟨b1, b2, b3, b4⟩ <;> rcases vb_val s with ⟨c1, c2, c3⟩ | ⟨c1, c2, c3, c4⟩ <;> rw [a1, b1, c1] <;> simp <;> split at h0 <;> omega
theorem vb_add_int {a b : BitVec 64} (h : -9223372036854775808 ≤ a.toInt + b.toInt) (h2 : a.toInt + b.toInt < 9223372036854775808) : (a + b).toInt = a.toInt + b.toInt := by
  have h0 := vb_add_nat a b
  generalize a + b = s at h0 ⊢
  rcases vb_val a with ⟨a1, a2, a3⟩ | ⟨a1, a2, a3, a4⟩ <;> rcases vb_val b with ⟨b1, b2, b3⟩ | ⟨b1, b2, b3, b4⟩ <;> rcases vb_val s with ⟨c1, c2, c3⟩ | ⟨c1, c2, c3, c4⟩ <;> split at h0 <;> omega
theorem vb_sub_int {a b : BitVec 64} (h : -9223372036854775808 ≤ a.toInt - b.toInt) (h2 : a.toInt - b.toInt < 9223372036854775808) : (a - b).toInt = a.toInt - b.toInt := by
  have h0 := vb_sub_nat a b
  generalize a - b = s at h0 ⊢
  rcases vb_val a with ⟨a1, a2, a3⟩ | ⟨a1, a2, a3, a4⟩ <;> rcases vb_val b with ⟨b1, b2, b3⟩ | ⟨b1, b2, b3, b4⟩ <;> rcases vb_val s with ⟨c1, c2, c3⟩ | ⟨c1, c2, c3, c4⟩ <;> split at h0 <;> omega

/-- a number is among sayings: bits, unsigned and signed bounds apart -/
theorem vb_mem_of {v : vb_S} {n : BitVec 64} (h1 : vb_pat v.mask v.ones n) (h2 : v.low.toNat ≤ n.toNat) (h3 : n.toNat ≤ v.high.toNat) (h4 : v.least.toInt ≤ n.toInt) (h5 : n.toInt ≤ v.greatest.toInt) : vb_mem v n := ⟨h1, by rw [BitVec.le_def]; exact h2, by rw [BitVec.le_def]; exact h3, h4, h5⟩
theorem vb_int_lo (n : BitVec 64) : vb_top_.toInt ≤ n.toInt := by
  rw [show vb_top_.toInt = -9223372036854775808 from by decide]; rcases vb_val n with ⟨a, b, c⟩ | ⟨a, b, c, d⟩ <;> omega
theorem vb_int_hi (n : BitVec 64) : n.toInt ≤ vb_most.toInt := by
  rw [show vb_most.toInt = 9223372036854775807 from by decide]; rcases vb_val n with ⟨a, b, c⟩ | ⟨a, b, c, d⟩ <;> omega
theorem vb_nat_hi (n : BitVec 64) : n.toNat ≤ vb_m1.toNat := by
  rw [show vb_m1.toNat = 18446744073709551615 from rfl]; have := n.isLt; omega

theorem vb_add_sound {x y : vb_S} (hx : x.ones &&& x.mask = x.ones) (hy : y.ones &&& y.mask = y.ones) {n m : BitVec 64} (hn : vb_mem x n) (hm : vb_mem y m) : vb_mem (vb_cAdd x y) (n + m) := by
  obtain ⟨n1, n2, n3, n4⟩ := vb_mem_int hn
  obtain ⟨m1, m2, m3, m4⟩ := vb_mem_int hm
  refine vb_mem_of (vb_pat_of (fun k hk => ?_)) ?_ ?_ ?_ ?_
  · show ((x.ones + y.ones) &&& ~~~(~~~x.mask ||| ~~~y.mask ||| ((x.ones + y.ones + ~~~x.mask + ~~~y.mask) ^^^ (x.ones + y.ones)))).getLsbD k = ((n + m).getLsbD k && (~~~(~~~x.mask ||| ~~~y.mask ||| ((x.ones + y.ones + ~~~x.mask + ~~~y.mask) ^^^ (x.ones + y.ones)))).getLsbD k)
    rw [BitVec.getLsbD_and, BitVec.getLsbD_not, vb_add_opn hx hy hk, vb_add_bit _ _ hk, vb_add_bit _ _ hk]
    have c1 := vb_cr_mono (fun k => (vb_pat_le2 hx hn.1 k).1) (fun k => (vb_pat_le2 hy hm.1 k).1) k
    have c2 := vb_cr_mono (fun k => (vb_pat_le2 hx hn.1 k).2) (fun k => (vb_pat_le2 hy hm.1 k).2) k
    have p1 := vb_pat_bit hn.1 k
    have p2 := vb_pat_bit hm.1 k
    simp only [vb_toR, vb_R.opn, vb_R.bits, vb_chLo, vb_chHi, Bool.false_eq_true, if_false, BitVec.getLsbD_not, hk, decide_true, Bool.true_and] at c1 c2 p1 p2 ⊢
    revert c1 c2 p1 p2
    generalize vb_cr x.ones y.ones k = l
    generalize vb_cr (x.ones ||| ~~~x.mask) (y.ones ||| ~~~y.mask) k = h
    generalize vb_cr n m k = c
    generalize x.mask.getLsbD k = xo
    generalize y.mask.getLsbD k = yo
    generalize x.ones.getLsbD k = xb
    generalize y.ones.getLsbD k = yb
    generalize n.getLsbD k = nb
    generalize m.getLsbD k = mb
    revert l h c xo yo xb yb nb mb
    decide
  · show (if (decide (x.low + y.low < x.low) == decide (x.high + y.high < x.high)) = true then x.low + y.low else 0).toNat ≤ (n + m).toNat
    split
    · rename_i hb
      rw [beq_iff_eq, decide_eq_decide, BitVec.lt_def, BitVec.lt_def] at hb
      rcases vb_addC x.low y.low with ⟨a1, a2⟩ | ⟨a1, a2⟩ <;> rcases vb_addC x.high y.high with ⟨b1, b2⟩ | ⟨b1, b2⟩ <;> rcases vb_addC n m with ⟨c1, c2⟩ | ⟨c1, c2⟩ <;> omega
    · exact Nat.zero_le _
  · show (n + m).toNat ≤ (if (decide (x.low + y.low < x.low) == decide (x.high + y.high < x.high)) = true then x.high + y.high else vb_m1).toNat
    split
    · rename_i hb
      rw [beq_iff_eq, decide_eq_decide, BitVec.lt_def, BitVec.lt_def] at hb
      rcases vb_addC x.low y.low with ⟨a1, a2⟩ | ⟨a1, a2⟩ <;> rcases vb_addC x.high y.high with ⟨b1, b2⟩ | ⟨b1, b2⟩ <;> rcases vb_addC n m with ⟨c1, c2⟩ | ⟨c1, c2⟩ <;> omega
    · exact vb_nat_hi _
  · show (if ((0 : BitVec 64).sle ((x.least ^^^ (x.least + y.least)) &&& (y.least ^^^ (x.least + y.least))) && (0 : BitVec 64).sle ((x.greatest ^^^ (x.greatest + y.greatest)) &&& (y.greatest ^^^ (x.greatest + y.greatest)))) = true then x.least + y.least else vb_top_).toInt ≤ (n + m).toInt
    split
    · rename_i hb
      rw [vb_sumLong_eq, vb_sumLong_eq, Bool.and_eq_true, vb_sumIsLong_iff, vb_sumIsLong_iff] at hb
      rw [vb_add_int (by omega) (by omega), vb_add_int (by omega) (by omega)]; omega
    · exact vb_int_lo _
  · show (n + m).toInt ≤ (if ((0 : BitVec 64).sle ((x.least ^^^ (x.least + y.least)) &&& (y.least ^^^ (x.least + y.least))) && (0 : BitVec 64).sle ((x.greatest ^^^ (x.greatest + y.greatest)) &&& (y.greatest ^^^ (x.greatest + y.greatest)))) = true then x.greatest + y.greatest else vb_most).toInt
    split
    · rename_i hb
      rw [vb_sumLong_eq, vb_sumLong_eq, Bool.and_eq_true, vb_sumIsLong_iff, vb_sumIsLong_iff] at hb
      rw [vb_add_int (by omega) (by omega), vb_add_int (by omega) (by omega)]; omega
    · exact vb_int_hi _

theorem vb_sub_sound {x y : vb_S} (hx : x.ones &&& x.mask = x.ones) (hy : y.ones &&& y.mask = y.ones) {n m : BitVec 64} (hn : vb_mem x n) (hm : vb_mem y m) : vb_mem (vb_cSub x y) (n - m) := by
  obtain ⟨n1, n2, n3, n4⟩ := vb_mem_int hn
  obtain ⟨m1, m2, m3, m4⟩ := vb_mem_int hm
  refine vb_mem_of (vb_pat_of (fun k hk => ?_)) ?_ ?_ ?_ ?_
  · show ((x.ones - y.ones) &&& ~~~(~~~x.mask ||| ~~~y.mask ||| ((x.ones - y.ones + ~~~x.mask) ^^^ (x.ones - y.ones - ~~~y.mask)))).getLsbD k = ((n - m).getLsbD k && (~~~(~~~x.mask ||| ~~~y.mask ||| ((x.ones - y.ones + ~~~x.mask) ^^^ (x.ones - y.ones - ~~~y.mask)))).getLsbD k)
    rw [BitVec.getLsbD_and, BitVec.getLsbD_not, vb_sub_opn hx hy hk, vb_sub_bit _ _ hk, vb_sub_bit _ _ hk]
    have c1 := vb_bo_mono (fun k => (vb_pat_le2 hx hn.1 k).2) (fun k => (vb_pat_le2 hy hm.1 k).1) k (by omega)
    have c2 := vb_bo_mono (fun k => (vb_pat_le2 hx hn.1 k).1) (fun k => (vb_pat_le2 hy hm.1 k).2) k (by omega)
    obtain ⟨q1, q2⟩ := vb_sub_mid (x := x) (y := y) (k := k) (by omega)
    have p1 := vb_pat_bit hn.1 k
    have p2 := vb_pat_bit hm.1 k
    simp only [vb_toR, vb_R.opn, vb_R.bits, vb_chLo, vb_chHi, if_true, BitVec.getLsbD_not, hk, decide_true, Bool.true_and] at c1 c2 p1 p2 q1 q2 ⊢
    revert c1 c2 p1 p2 q1 q2
    generalize vb_bo (x.ones ||| ~~~x.mask) y.ones k = l
    generalize vb_bo x.ones (y.ones ||| ~~~y.mask) k = h
    generalize vb_bo x.ones y.ones k = b
    generalize vb_bo n m k = c
    generalize x.mask.getLsbD k = xo
    generalize y.mask.getLsbD k = yo
    generalize x.ones.getLsbD k = xb
    generalize y.ones.getLsbD k = yb
    generalize n.getLsbD k = nb
    generalize m.getLsbD k = mb
    revert l h b c xo yo xb yb nb mb
    decide
  · show (if (decide (x.low < y.high) == decide (x.high < y.low)) = true then x.low - y.high else 0).toNat ≤ (n - m).toNat
    split
    · rename_i hb
      rw [beq_iff_eq, decide_eq_decide, BitVec.lt_def, BitVec.lt_def] at hb
      rcases vb_subC x.low y.high with ⟨a1, a2⟩ | ⟨a1, a2⟩ <;> rcases vb_subC x.high y.low with ⟨b1, b2⟩ | ⟨b1, b2⟩ <;> rcases vb_subC n m with ⟨c1, c2⟩ | ⟨c1, c2⟩ <;> omega
    · exact Nat.zero_le _
  · show (n - m).toNat ≤ (if (decide (x.low < y.high) == decide (x.high < y.low)) = true then x.high - y.low else vb_m1).toNat
    split
    · rename_i hb
      rw [beq_iff_eq, decide_eq_decide, BitVec.lt_def, BitVec.lt_def] at hb
      rcases vb_subC x.low y.high with ⟨a1, a2⟩ | ⟨a1, a2⟩ <;> rcases vb_subC x.high y.low with ⟨b1, b2⟩ | ⟨b1, b2⟩ <;> rcases vb_subC n m with ⟨c1, c2⟩ | ⟨c1, c2⟩ <;> omega
    · exact vb_nat_hi _
  · show (if ((0 : BitVec 64).sle ((x.least ^^^ y.greatest) &&& (x.least ^^^ (x.least - y.greatest))) && (0 : BitVec 64).sle ((x.greatest ^^^ y.least) &&& (x.greatest ^^^ (x.greatest - y.least)))) = true then x.least - y.greatest else vb_top_).toInt ≤ (n - m).toInt
    split
    · rename_i hb
      rw [vb_difLong_eq, vb_difLong_eq, Bool.and_eq_true, vb_difIsLong_iff, vb_difIsLong_iff] at hb
      rw [vb_sub_int (by omega) (by omega), vb_sub_int (by omega) (by omega)]; omega
    · exact vb_int_lo _
  · show (n - m).toInt ≤ (if ((0 : BitVec 64).sle ((x.least ^^^ y.greatest) &&& (x.least ^^^ (x.least - y.greatest))) && (0 : BitVec 64).sle ((x.greatest ^^^ y.least) &&& (x.greatest ^^^ (x.greatest - y.least)))) = true then x.greatest - y.least else vb_most).toInt
    split
    · rename_i hb
      rw [vb_difLong_eq, vb_difLong_eq, Bool.and_eq_true, vb_difIsLong_iff, vb_difIsLong_iff] at hb
      rw [vb_sub_int (by omega) (by omega), vb_sub_int (by omega) (by omega)]; omega
    · exact vb_int_hi _
