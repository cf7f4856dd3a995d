/-! joins, widenings, refinements -/
def vb_cJoin (x y : vb_S) : vb_S :=
  ⟨x.mask &&& y.mask &&& ~~~(x.ones ^^^ y.ones), x.ones &&& (x.mask &&& y.mask &&& ~~~(x.ones ^^^ y.ones)), vb_lesser x.low y.low, vb_larger x.high y.high, vb_smin x.least y.least, vb_smax x.greatest y.greatest⟩
def vb_cWiden (x y : vb_S) : vb_S :=
  ⟨x.mask &&& y.mask &&& ~~~(x.ones ^^^ y.ones), x.ones &&& (x.mask &&& y.mask &&& ~~~(x.ones ^^^ y.ones)), if y.low < x.low then 0 else x.low, if x.high < y.high then vb_m1 else x.high, if x.least.sle y.least = true then x.least else vb_top_, if y.greatest.sle x.greatest = true then x.greatest else vb_most⟩

theorem vb_join_pat {x y : vb_S} {n : BitVec 64} (h : vb_pat x.mask x.ones n ∨ vb_pat y.mask y.ones n) (hx : x.ones &&& x.mask = x.ones) : vb_pat (x.mask &&& y.mask &&& ~~~(x.ones ^^^ y.ones)) (x.ones &&& (x.mask &&& y.mask &&& ~~~(x.ones ^^^ y.ones))) n := by
  refine vb_pat_of (fun k hk => ?_)
  simp only [BitVec.getLsbD_and, BitVec.getLsbD_not, BitVec.getLsbD_xor, hk, decide_true, Bool.true_and]
  have q := vb_and_bit hx k
  rcases h with h | h
  · have p := vb_pat_bit h k
    revert p q
    generalize x.mask.getLsbD k = a
    generalize y.mask.getLsbD k = b
    generalize x.ones.getLsbD k = c
    generalize y.ones.getLsbD k = d
    generalize n.getLsbD k = e
    revert a b c d e
    decide
  · have p := vb_pat_bit h k
    revert p q
    generalize x.mask.getLsbD k = a
    generalize y.mask.getLsbD k = b
    generalize x.ones.getLsbD k = c
    generalize y.ones.getLsbD k = d
    generalize n.getLsbD k = e
    revert a b c d e
    decide
theorem vb_join_sound {x y : vb_S} {n : BitVec 64} (hx : x.ones &&& x.mask = x.ones) (h : vb_mem x n ∨ vb_mem y n) : vb_mem (vb_cJoin x y) n := by
  refine vb_mem_of (vb_join_pat (h.imp And.left And.left) hx) ?_ ?_ ?_ ?_
  · show (vb_lesser x.low y.low).toNat ≤ n.toNat
    rw [vb_lesser_nat]; rcases h with h | h <;> have := vb_mem_int h <;> omega
  · show n.toNat ≤ (vb_larger x.high y.high).toNat
    rw [vb_larger_nat]; rcases h with h | h <;> have := vb_mem_int h <;> omega
  · show (vb_smin x.least y.least).toInt ≤ n.toInt
    rw [vb_smin_int]; rcases h with h | h <;> have := vb_mem_int h <;> omega
  · show n.toInt ≤ (vb_smax x.greatest y.greatest).toInt
    rw [vb_smax_int]; rcases h with h | h <;> have := vb_mem_int h <;> omega
theorem vb_widen_sound {x y : vb_S} {n : BitVec 64} (hx : x.ones &&& x.mask = x.ones) (h : vb_mem x n ∨ vb_mem y n) : vb_mem (vb_cWiden x y) n := by
  refine vb_mem_of (vb_join_pat (h.imp And.left And.left) hx) ?_ ?_ ?_ ?_
  · show (if y.low < x.low then 0 else x.low).toNat ≤ n.toNat
    split
    · exact Nat.zero_le _
    · rename_i g; rw [BitVec.lt_def] at g; rcases h with h | h <;> have := vb_mem_int h <;> omega
  · show n.toNat ≤ (if x.high < y.high then vb_m1 else x.high).toNat
    split
    · exact vb_nat_hi _
    · rename_i g; rw [BitVec.lt_def] at g; rcases h with h | h <;> have := vb_mem_int h <;> omega
  · show (if x.least.sle y.least = true then x.least else vb_top_).toInt ≤ n.toInt
    split
    · rename_i g; rw [vb_sle] at g; rcases h with h | h <;> have := vb_mem_int h <;> omega
    · exact vb_int_lo _
  · show n.toInt ≤ (if y.greatest.sle x.greatest = true then x.greatest else vb_most).toInt
    split
    · rename_i g; rw [vb_sle] at g; rcases h with h | h <;> have := vb_mem_int h <;> omega
    · exact vb_int_hi _

/-- what is in x already changes nothing -/
theorem vb_tight_ones {v : vb_S} (h : vb_tight v) : v.ones &&& v.mask = v.ones := by
  have e := vb_hull.ones h
  rw [e, BitVec.and_assoc, BitVec.and_self]
theorem vb_sub_bounds {x y : vb_S} (hx : vb_tight x) (hy : vb_tight y) (h : ∀ n, vb_mem y n → vb_mem x n) : x.low.toNat ≤ y.low.toNat ∧ y.high.toNat ≤ x.high.toNat ∧ x.least.toInt ≤ y.least.toInt ∧ y.greatest.toInt ≤ x.greatest.toInt := by
  have h1 := vb_mem_int (h _ (vb_hull.low hy))
  have h2 := vb_mem_int (h _ (vb_hull.high hy))
  have h3 := vb_mem_int (h _ (vb_hull.least hy))
  have h4 := vb_mem_int (h _ (vb_hull.greatest hy))
  exact ⟨h1.1, h2.2.1, h3.2.2.1, h4.2.2.2⟩
theorem vb_sub_mask {x y : vb_S} (hx : vb_tight x) (hy : vb_tight y) (h : ∀ n, vb_mem y n → vb_mem x n) : x.mask &&& y.mask &&& ~~~(x.ones ^^^ y.ones) = x.mask := by
  refine BitVec.eq_of_getLsbD_eq (fun k hk => ?_)
  simp only [BitVec.getLsbD_and, BitVec.getLsbD_not, BitVec.getLsbD_xor, hk, decide_true, Bool.true_and]
  cases e : x.mask.getLsbD k
  · rfl
  · have ag := (vb_hull.mask hx k hk).mp e
    have e2 : y.mask.getLsbD k = true := (vb_hull.mask hy k hk).mpr (fun n n' hn hn' => ag n n' (h n hn) (h n' hn'))
    have e3 := vb_pat_o (vb_hull.low hy).1 e2
    have e4 := vb_pat_o (h _ (vb_hull.low hy)).1 e
    rw [e2, ← e3, ← e4]; simp
theorem vb_join_absorb {x y : vb_S} (hx : vb_tight x) (hy : vb_tight y) (h : ∀ n, vb_mem y n → vb_mem x n) : vb_cJoin x y = x := by
  obtain ⟨b1, b2, b3, b4⟩ := vb_sub_bounds hx hy h
  have m := vb_sub_mask hx hy h
  refine vb_S_ext m ?_ ?_ ?_ ?_ ?_
  · show x.ones &&& (x.mask &&& y.mask &&& ~~~(x.ones ^^^ y.ones)) = x.ones
    rw [m]; exact vb_tight_ones hx
  · exact BitVec.eq_of_toNat_eq (by show (vb_lesser x.low y.low).toNat = x.low.toNat; rw [vb_lesser_nat]; omega)
  · exact BitVec.eq_of_toNat_eq (by show (vb_larger x.high y.high).toNat = x.high.toNat; rw [vb_larger_nat]; omega)
  · exact BitVec.eq_of_toInt_eq (by show (vb_smin x.least y.least).toInt = x.least.toInt; rw [vb_smin_int]; omega)
  · exact BitVec.eq_of_toInt_eq (by show (vb_smax x.greatest y.greatest).toInt = x.greatest.toInt; rw [vb_smax_int]; omega)
theorem vb_widen_absorb {x y : vb_S} (hx : vb_tight x) (hy : vb_tight y) (h : ∀ n, vb_mem y n → vb_mem x n) : vb_cWiden x y = x := by
  obtain ⟨b1, b2, b3, b4⟩ := vb_sub_bounds hx hy h
  have m := vb_sub_mask hx hy h
  refine vb_S_ext m ?_ ?_ ?_ ?_ ?_
  · show x.ones &&& (x.mask &&& y.mask &&& ~~~(x.ones ^^^ y.ones)) = x.ones
    rw [m]; exact vb_tight_ones hx
  · show (if y.low < x.low then 0 else x.low) = x.low
    rw [if_neg (by rw [BitVec.lt_def]; omega)]
  · show (if x.high < y.high then vb_m1 else x.high) = x.high
    rw [if_neg (by rw [BitVec.lt_def]; omega)]
  · show (if x.least.sle y.least = true then x.least else vb_top_) = x.least
    rw [if_pos (vb_sle.mpr b3)]
  · show (if y.greatest.sle x.greatest = true then x.greatest else vb_most) = x.greatest
    rw [if_pos (vb_sle.mpr b4)]

/-! refinements: whether it can be at first sight, and both -/
def vb_same2 (x y : vb_S) : vb_S := ⟨x.mask ||| y.mask, x.ones ||| y.ones, vb_larger x.low y.low, vb_lesser x.high y.high, vb_smax x.least y.least, vb_smin x.greatest y.greatest⟩
def vb_without (x : vb_S) (n : BitVec 64) : vb_S := ⟨x.mask, x.ones, if x.low = n then x.low + 1 else x.low, if x.high = n then x.high - 1 else x.high, if x.least = n then x.least + 1 else x.least, if x.greatest = n then x.greatest - 1 else x.greatest⟩
def vb_setHigh (x : vb_S) (h : BitVec 64) : vb_S := ⟨x.mask, x.ones, x.low, vb_lesser x.high h, x.least, x.greatest⟩
def vb_setLow (x : vb_S) (l : BitVec 64) : vb_S := ⟨x.mask, x.ones, vb_larger x.low l, x.high, x.least, x.greatest⟩
def vb_setGreatest (x : vb_S) (h : BitVec 64) : vb_S := ⟨x.mask, x.ones, x.low, x.high, x.least, vb_smin x.greatest h⟩
def vb_setLeast (x : vb_S) (l : BitVec 64) : vb_S := ⟨x.mask, x.ones, x.low, x.high, vb_smax x.least l, x.greatest⟩
def vb_oneBit (v : BitVec 64) : Bool := decide (v ≠ 0 ∧ v &&& (v - 1) = 0)
def vb_sure (x : vb_S) (v : BitVec 64) : vb_S := ⟨x.mask ||| v, x.ones ||| v, x.low, x.high, x.least, x.greatest⟩
def vb_never (x : vb_S) (v : BitVec 64) : vb_S := ⟨x.mask ||| v, x.ones, x.low, x.high, x.least, x.greatest⟩
def vb_rBelow (x y : vb_S) : Option (vb_S × vb_S) := if y.high = 0 ∨ x.low = vb_m1 then none else some (vb_setHigh x (y.high - 1), vb_setLow y (x.low + 1))
def vb_rNotAbove (x y : vb_S) : Option (vb_S × vb_S) := some (vb_setHigh x y.high, vb_setLow y x.low)
def vb_rLess (x y : vb_S) : Option (vb_S × vb_S) := if y.greatest = vb_top_ ∨ x.least = vb_most then none else some (vb_setGreatest x (y.greatest - 1), vb_setLeast y (x.least + 1))
def vb_rNotMore (x y : vb_S) : Option (vb_S × vb_S) := some (vb_setGreatest x y.greatest, vb_setLeast y x.least)
def vb_swp : Option (vb_S × vb_S) → Option (vb_S × vb_S)
  | none => none
  | some (a, b) => some (b, a)
/-- before both are made tight -/
def vb_say (c : Nat) (x y : vb_S) : Option (vb_S × vb_S) :=
  if c = 0 then (if (x.ones ^^^ y.ones) &&& x.mask &&& y.mask ≠ 0 then none else some (vb_same2 x y, vb_same2 x y))
  else if c = 1 then
    (if x.low ≠ x.high ∧ y.low ≠ y.high then some (x, y)
     else if x.low = x.high ∧ y.low = y.high then (if x.low = y.low then none else some (x, y))
     else if y.low = y.high then some (vb_without x y.low, y) else some (x, vb_without y x.low))
  else if c = 2 then vb_rBelow x y
  else if c = 3 then vb_rNotAbove x y
  else if c = 4 then vb_swp (vb_rBelow y x)
  else if c = 5 then vb_swp (vb_rNotAbove y x)
  else if c = 6 then vb_rLess x y
  else if c = 7 then vb_rNotMore x y
  else if c = 8 then vb_swp (vb_rLess y x)
  else if c = 9 then vb_swp (vb_rNotMore y x)
  else if c = 10 then
    (if (~~~x.mask ||| x.ones) &&& (~~~y.mask ||| y.ones) = 0 then none
     else some (vb_sure x (if y.low = y.high ∧ vb_oneBit y.low = true then y.low else 0), vb_sure y (if x.low = x.high ∧ vb_oneBit x.low = true then x.low else 0)))
  else
    (if x.ones &&& y.ones ≠ 0 then none
     else some (vb_never x (if y.low = y.high then y.low else 0), vb_never y (if x.low = x.high then x.low else 0)))
/-- refined: what is left of both; none, when it can't be -/
def vb_refine (c : Nat) (x y : vb_S) : Option (vb_S × vb_S) := match vb_say c x y with
  | none => none
  | some (a, b) => if vb_can a = true ∧ vb_can b = true then some (vb_ctight a, vb_ctight b) else none
/-- comparison c of two numbers -/
def vb_cmp (c : Nat) (n m : BitVec 64) : Prop :=
  if c = 0 then n = m else if c = 1 then n ≠ m else if c = 2 then n < m else if c = 3 then n ≤ m else if c = 4 then m < n else if c = 5 then m ≤ n
  else if c = 6 then n.toInt < m.toInt else if c = 7 then n.toInt ≤ m.toInt else if c = 8 then m.toInt < n.toInt else if c = 9 then m.toInt ≤ n.toInt
  else if c = 10 then n &&& m ≠ 0 else n &&& m = 0

theorem vb_m1_nat : vb_m1.toNat = 18446744073709551615 := rfl
theorem vb_one_nat : (1 : BitVec 64).toNat = 1 := rfl
theorem vb_zero_nat : (0 : BitVec 64).toNat = 0 := rfl
theorem vb_pred_nat {a : BitVec 64} (h : a ≠ 0) : (a - 1).toNat + 1 = a.toNat := by
  have h0 : a.toNat ≠ 0 := fun e => h (BitVec.eq_of_toNat_eq e)
  rcases vb_subC a 1 with ⟨p, q⟩ | ⟨p, q⟩ <;> rw [vb_one_nat] at p q <;> omega
theorem vb_succ_nat {a : BitVec 64} (h : a ≠ vb_m1) : (a + 1).toNat = a.toNat + 1 := by
  have h0 : a.toNat ≠ 18446744073709551615 := fun e => h (BitVec.eq_of_toNat_eq e)
  have := vb_lt_nat a
  rcases vb_addC a 1 with ⟨p, q⟩ | ⟨p, q⟩ <;> rw [vb_one_nat] at p q <;> omega
theorem vb_pred_int {a : BitVec 64} (h : a ≠ vb_top_) : (a - 1).toInt + 1 = a.toInt := by
  have h0 : a.toNat ≠ 9223372036854775808 := fun e => h (BitVec.eq_of_toNat_eq e)
  have h3 := vb_subC a 1
  rw [vb_one_nat] at h3
  generalize a - 1 = s at h3 ⊢
  rcases vb_val a with ⟨a1, a2, a3⟩ | ⟨a1, a2, a3, a4⟩ <;> rcases vb_val s with ⟨b1, b2, b3⟩ | ⟨b1, b2, b3, b4⟩ <;> omega
theorem vb_succ_int {a : BitVec 64} (h : a ≠ vb_most) : (a + 1).toInt = a.toInt + 1 := by
  have h0 : a.toNat ≠ 9223372036854775807 := fun e => h (BitVec.eq_of_toNat_eq e)
  have h3 := vb_addC a 1
  rw [vb_one_nat] at h3
  generalize a + 1 = s at h3 ⊢
  rcases vb_val a with ⟨a1, a2, a3⟩ | ⟨a1, a2, a3, a4⟩ <;> rcases vb_val s with ⟨b1, b2, b3⟩ | ⟨b1, b2, b3, b4⟩ <;> omega

theorem vb_setHigh_mem {x : vb_S} {n h : BitVec 64} (hn : vb_mem x n) (h1 : n.toNat ≤ h.toNat) : vb_mem (vb_setHigh x h) n := by
  have q := vb_mem_int hn
  exact vb_mem_of hn.1 q.1 (by show n.toNat ≤ (vb_lesser x.high h).toNat; rw [vb_lesser_nat]; omega) q.2.2.1 q.2.2.2
theorem vb_setLow_mem {x : vb_S} {n h : BitVec 64} (hn : vb_mem x n) (h1 : h.toNat ≤ n.toNat) : vb_mem (vb_setLow x h) n := by
  have q := vb_mem_int hn
  exact vb_mem_of hn.1 (by show (vb_larger x.low h).toNat ≤ n.toNat; rw [vb_larger_nat]; omega) q.2.1 q.2.2.1 q.2.2.2
theorem vb_setGreatest_mem {x : vb_S} {n h : BitVec 64} (hn : vb_mem x n) (h1 : n.toInt ≤ h.toInt) : vb_mem (vb_setGreatest x h) n := by
  have q := vb_mem_int hn
  exact vb_mem_of hn.1 q.1 q.2.1 q.2.2.1 (by show n.toInt ≤ (vb_smin x.greatest h).toInt; rw [vb_smin_int]; omega)
theorem vb_setLeast_mem {x : vb_S} {n h : BitVec 64} (hn : vb_mem x n) (h1 : h.toInt ≤ n.toInt) : vb_mem (vb_setLeast x h) n := by
  have q := vb_mem_int hn
  exact vb_mem_of hn.1 q.1 q.2.1 (by show (vb_smax x.least h).toInt ≤ n.toInt; rw [vb_smax_int]; omega) q.2.2.2
theorem vb_without_mem {x : vb_S} {n m : BitVec 64} (hn : vb_mem x n) (hne : n ≠ m) (hs : x.low ≠ x.high) : vb_mem (vb_without x m) n := by
  obtain ⟨q1, q2, q3, q4⟩ := vb_mem_int hn
  have hn1 : n.toNat ≠ m.toNat := fun e => hne (BitVec.eq_of_toNat_eq e)
  have hn2 : n.toInt ≠ m.toInt := fun e => hne (BitVec.eq_of_toInt_eq e)
  refine vb_mem_of hn.1 ?_ ?_ ?_ ?_
  · show (if x.low = m then x.low + 1 else x.low).toNat ≤ n.toNat
    split
    · rename_i e; subst e
      rcases vb_addC x.low 1 with ⟨p, q⟩ | ⟨p, q⟩ <;> rw [vb_one_nat] at p q <;> omega
    · exact q1
  · show n.toNat ≤ (if x.high = m then x.high - 1 else x.high).toNat
    split
    · rename_i e; subst e
      rcases vb_subC x.high 1 with ⟨p, q⟩ | ⟨p, q⟩ <;> rw [vb_one_nat] at p q <;> omega
    · exact q2
  · show (if x.least = m then x.least + 1 else x.least).toInt ≤ n.toInt
    split
    · rename_i e; subst e
      have : x.least ≠ vb_most := by
        intro e; have := vb_int_hi n; rw [e] at q3 hn2; omega
      rw [vb_succ_int this]; omega
    · exact q3
  · show n.toInt ≤ (if x.greatest = m then x.greatest - 1 else x.greatest).toInt
    split
    · rename_i e; subst e
      have : x.greatest ≠ vb_top_ := by
        intro e; have := vb_int_lo n; rw [e] at q4 hn2; omega
      have := vb_pred_int this; omega
    · exact q4
theorem vb_oneBit_bit {v : BitVec 64} (h : vb_oneBit v = true) : ∃ p, p < 64 ∧ v = BitVec.twoPow 64 p := by
  unfold vb_oneBit at h
  rw [decide_eq_true_eq] at h
  obtain ⟨h0, h1⟩ := h
  have hne : v &&& -v ≠ 0 := by
    intro e
    apply h0
    refine BitVec.eq_of_getLsbD_eq (fun k hk => ?_)
    rw [vb_bit0]
    have : ∀ N, ∀ k, k < N → v.getLsbD k = false := by
      intro N
      induction N with
      | zero => intro k hk; omega
      | succ N ih =>
        intro k hk
        rcases Nat.lt_or_eq_of_le (Nat.le_of_lt_succ hk) with h' | h'
        · exact ih k h'
        · subst h'
          have h8 := congrArg (fun x => x.getLsbD k) e
          simp only [BitVec.getLsbD_and, BitVec.getLsbD_neg, vb_bit0] at h8
          have h9 : decide (∃ j, j < k ∧ v.getLsbD j = true) = false := decide_eq_false (fun ⟨j, hj, hx⟩ => by rw [ih j hj] at hx; exact absurd hx (by decide))
          rw [h9] at h8
          revert h8
          cases v.getLsbD k <;> simp
    exact this 64 k hk
  obtain ⟨p, hp, h2, h3, h4⟩ := vb_low hne
  refine ⟨p, hp, ?_⟩
  -- above p: v - 1 agrees with v
  have hv : v - 1 = v - 1 := rfl
  refine BitVec.eq_of_getLsbD_eq (fun k hk => ?_)
  rw [vb_tp_bit hk]
  rcases Nat.lt_trichotomy k p with h5 | h5 | h5
  · rw [h3 k h5]; have : ¬ k = p := by omega
    simp [this]
  · subst h5; rw [h2]; simp
  · have bo : ∀ j, j ≤ 64 → vb_bo v 1 j = decide (0 < j ∧ j ≤ p) := by
      intro j
      induction j with
      | zero => intro _; rw [vb_bo0]; simp
      | succ j ih =>
        intro hj
        rw [vb_bo_succ _ _ (by omega), ih (by omega)]
        have o : (1 : BitVec 64).getLsbD j = decide (j = 0) := by
          have : (1 : BitVec 64) = BitVec.twoPow 64 0 := by decide
          rw [this, vb_tp_bit (by omega)]
        rw [o]
        unfold vb_carries
        rcases Nat.lt_trichotomy j p with h6 | h6 | h6
        · rw [h3 j h6]
          by_cases e : j = 0
          · subst e; simp; omega
          · have a1 : 0 < j ∧ j ≤ p := by omega
            have a2 : 0 < j + 1 ∧ j + 1 ≤ p := by omega
            simp [e, a1, a2]
        · subst h6; rw [h2]
          have a2 : ¬ (0 < j + 1 ∧ j + 1 ≤ j) := by omega
          by_cases e : j = 0
          · subst e; simp
          · simp [e, a2]
        · have a1 : ¬ (0 < j ∧ j ≤ p) := by omega
          have a2 : ¬ (0 < j + 1 ∧ j + 1 ≤ p) := by omega
          have e : ¬ j = 0 := by omega
          rw [decide_eq_false a1, decide_eq_false a2, decide_eq_false e]
          cases v.getLsbD j <;> rfl
    have h6 := congrArg (fun x => x.getLsbD k) h1
    simp only [BitVec.getLsbD_and, vb_bit0, vb_sub_bit _ _ hk, bo k (by omega)] at h6
    have o : (1 : BitVec 64).getLsbD k = false := by
      have : (1 : BitVec 64) = BitVec.twoPow 64 0 := by decide
      rw [this, vb_tp_bit hk]; have : ¬ k = 0 := by omega
      simp [this]
    have a1 : ¬ (0 < k ∧ k ≤ p) := by omega
    rw [o] at h6
    have a2 : ¬ k = p := by omega
    unfold vb_par at h6
    simp only [a1, decide_false, a2] at h6 ⊢
    revert h6
    cases v.getLsbD k <;> decide

theorem vb_and_ne {n m : BitVec 64} (h : n &&& m ≠ 0) : ∃ k, k < 64 ∧ n.getLsbD k = true ∧ m.getLsbD k = true := by
  obtain ⟨k, hk, h1, _⟩ := vb_top h
  rw [vb_bit0, BitVec.getLsbD_and] at h1
  refine ⟨k, hk, ?_⟩
  revert h1
  cases n.getLsbD k <;> cases m.getLsbD k <;> simp

theorem vb_or_0 (a : BitVec 64) : a ||| (0 : BitVec 64) = a := BitVec.or_zero
theorem vb_sure_mem {x y : vb_S} {n m : BitVec 64} (hn : vb_mem x n) (hm : vb_mem y m) (h : n &&& m ≠ 0) : vb_mem (vb_sure x (if y.low = y.high ∧ vb_oneBit y.low = true then y.low else 0)) n := by
  have q := vb_mem_int hn
  refine vb_mem_of (vb_pat_of (fun k hk => ?_)) q.1 q.2.1 q.2.2.1 q.2.2.2
  have p := vb_pat_bit hn.1 k
  split
  · rename_i hc
    obtain ⟨t, ht, e⟩ := vb_oneBit_bit hc.2
    have em := vb_single_mem hm hc.1
    obtain ⟨j, hj, h1, h2⟩ := vb_and_ne h
    rw [em, e, vb_tp_bit hj, decide_eq_true_eq] at h2
    subst h2
    show (x.ones ||| y.low).getLsbD k = (n.getLsbD k && (x.mask ||| y.low).getLsbD k)
    rw [BitVec.getLsbD_or, BitVec.getLsbD_or, e, vb_tp_bit hk, p]
    by_cases e2 : k = j
    · subst e2; rw [h1]; simp
    · simp [e2]
  · show (x.ones ||| 0).getLsbD k = (n.getLsbD k && (x.mask ||| 0).getLsbD k)
    rw [vb_or_0, vb_or_0]; exact p
theorem vb_never_mem {x y : vb_S} {n m : BitVec 64} (hn : vb_mem x n) (hm : vb_mem y m) (h : n &&& m = 0) : vb_mem (vb_never x (if y.low = y.high then y.low else 0)) n := by
  have q := vb_mem_int hn
  refine vb_mem_of (vb_pat_of (fun k hk => ?_)) q.1 q.2.1 q.2.2.1 q.2.2.2
  have p := vb_pat_bit hn.1 k
  split
  · rename_i hc
    have em := vb_single_mem hm hc
    have h2 := congrArg (fun x => x.getLsbD k) h
    simp only [BitVec.getLsbD_and, vb_bit0, em] at h2
    show x.ones.getLsbD k = (n.getLsbD k && (x.mask ||| y.low).getLsbD k)
    rw [BitVec.getLsbD_or, p]
    revert h2
    cases n.getLsbD k <;> cases y.low.getLsbD k <;> simp
  · show x.ones.getLsbD k = (n.getLsbD k && (x.mask ||| 0).getLsbD k)
    rw [vb_or_0]; exact p

/-- two numbers that compare so are left of both -/
theorem vb_say_sound {c : Nat} {x y : vb_S} {n m : BitVec 64} (hn : vb_mem x n) (hm : vb_mem y m) (h : vb_cmp c n m) : ∃ a b, vb_say c x y = some (a, b) ∧ vb_mem a n ∧ vb_mem b m := by
  have qn := vb_mem_int hn
  have qm := vb_mem_int hm
  have below : ∀ {x y : vb_S} {n m : BitVec 64}, vb_mem x n → vb_mem y m → n < m → ∃ a b, vb_rBelow x y = some (a, b) ∧ vb_mem a n ∧ vb_mem b m := by
    intro x y n m hn hm h
    have qn := vb_mem_int hn
    have qm := vb_mem_int hm
    rw [BitVec.lt_def] at h
    have hl := vb_lt_nat m
    have c1 : y.high ≠ 0 := fun e => by rw [e, vb_zero_nat] at qm; omega
    have c2 : x.low ≠ vb_m1 := fun e => by rw [e, vb_m1_nat] at qn; omega
    refine ⟨_, _, if_neg (fun h' => h'.elim c1 c2), vb_setHigh_mem hn ?_, vb_setLow_mem hm ?_⟩
    · have := vb_pred_nat c1; omega
    · rw [vb_succ_nat c2]; omega
  have less : ∀ {x y : vb_S} {n m : BitVec 64}, vb_mem x n → vb_mem y m → n.toInt < m.toInt → ∃ a b, vb_rLess x y = some (a, b) ∧ vb_mem a n ∧ vb_mem b m := by
    intro x y n m hn hm h
    have qn := vb_mem_int hn
    have qm := vb_mem_int hm
    have hl := vb_int_hi m
    have hl2 := vb_int_lo n
    have c1 : y.greatest ≠ vb_top_ := fun e => by rw [e] at qm; omega
    have c2 : x.least ≠ vb_most := fun e => by rw [e] at qn; omega
    refine ⟨_, _, if_neg (fun h' => h'.elim c1 c2), vb_setGreatest_mem hn ?_, vb_setLeast_mem hm ?_⟩
    · have := vb_pred_int c1; omega
    · rw [vb_succ_int c2]; omega
  unfold vb_say
  unfold vb_cmp at h
  by_cases c0 : c = 0
  · rw [if_pos c0] at h ⊢
    subst h
    have e : (x.ones ^^^ y.ones) &&& x.mask &&& y.mask = 0 := BitVec.eq_of_getLsbD_eq (fun k hk => by
      have p1 := vb_pat_bit hn.1 k
      have p2 := vb_pat_bit hm.1 k
      rw [BitVec.getLsbD_and, BitVec.getLsbD_and, BitVec.getLsbD_xor, vb_bit0, p1, p2]
      cases n.getLsbD k <;> cases x.mask.getLsbD k <;> cases y.mask.getLsbD k <;> rfl)
    have both : vb_mem (vb_same2 x y) n := by
      refine vb_mem_of (vb_pat_of (fun k hk => ?_)) ?_ ?_ ?_ ?_
      · show (x.ones ||| y.ones).getLsbD k = (n.getLsbD k && (x.mask ||| y.mask).getLsbD k)
        rw [BitVec.getLsbD_or, BitVec.getLsbD_or, vb_pat_bit hn.1 k, vb_pat_bit hm.1 k]
        cases n.getLsbD k <;> simp
      · show (vb_larger x.low y.low).toNat ≤ n.toNat; rw [vb_larger_nat]; omega
      · show n.toNat ≤ (vb_lesser x.high y.high).toNat; rw [vb_lesser_nat]; omega
      · show (vb_smax x.least y.least).toInt ≤ n.toInt; rw [vb_smax_int]; omega
      · show n.toInt ≤ (vb_smin x.greatest y.greatest).toInt; rw [vb_smin_int]; omega
    exact ⟨_, _, if_neg (fun h' => h' e), both, both⟩
  rw [if_neg c0] at h ⊢
  by_cases c1 : c = 1
  · rw [if_pos c1] at h ⊢
    by_cases s1 : x.low = x.high <;> by_cases s2 : y.low = y.high
    · have hne : ¬ x.low = y.low := by
        rw [← vb_single_mem hn s1, ← vb_single_mem hm s2]; exact h
      exact ⟨x, y, by simp [s1, s2]; rw [← s1, ← s2]; exact hne, hn, hm⟩
    · refine ⟨x, vb_without y x.low, by simp [s1, s2], hn, vb_without_mem hm (fun e => h ?_) s2⟩
      rw [vb_single_mem hn s1, e]
    · refine ⟨vb_without x y.low, y, by simp [s1, s2], vb_without_mem hn (fun e => h ?_) s1, hm⟩
      rw [vb_single_mem hm s2, e]
    · exact ⟨x, y, by simp [s1, s2], hn, hm⟩
  rw [if_neg c1] at h ⊢
  by_cases c2 : c = 2
  · rw [if_pos c2] at h ⊢; exact below hn hm h
  rw [if_neg c2] at h ⊢
  by_cases c3 : c = 3
  · rw [if_pos c3] at h ⊢
    rw [BitVec.le_def] at h
    exact ⟨_, _, rfl, vb_setHigh_mem hn (by omega), vb_setLow_mem hm (by omega)⟩
  rw [if_neg c3] at h ⊢
  by_cases c4 : c = 4
  · rw [if_pos c4] at h ⊢
    obtain ⟨a, b, e, h1, h2⟩ := below hm hn h
    exact ⟨b, a, by rw [e]; rfl, h2, h1⟩
  rw [if_neg c4] at h ⊢
  by_cases c5 : c = 5
  · rw [if_pos c5] at h ⊢
    rw [BitVec.le_def] at h
    exact ⟨_, _, rfl, vb_setLow_mem hn (by omega), vb_setHigh_mem hm (by omega)⟩
  rw [if_neg c5] at h ⊢
  by_cases c6 : c = 6
  · rw [if_pos c6] at h ⊢; exact less hn hm h
  rw [if_neg c6] at h ⊢
  by_cases c7 : c = 7
  · rw [if_pos c7] at h ⊢
    exact ⟨_, _, rfl, vb_setGreatest_mem hn (by omega), vb_setLeast_mem hm (by omega)⟩
  rw [if_neg c7] at h ⊢
  by_cases c8 : c = 8
  · rw [if_pos c8] at h ⊢
    obtain ⟨a, b, e, h1, h2⟩ := less hm hn h
    exact ⟨b, a, by rw [e]; rfl, h2, h1⟩
  rw [if_neg c8] at h ⊢
  by_cases c9 : c = 9
  · rw [if_pos c9] at h ⊢
    exact ⟨_, _, rfl, vb_setLeast_mem hn (by omega), vb_setGreatest_mem hm (by omega)⟩
  rw [if_neg c9] at h ⊢
  by_cases c10 : c = 10
  · rw [if_pos c10] at h ⊢
    have e : (~~~x.mask ||| x.ones) &&& (~~~y.mask ||| y.ones) ≠ 0 := by
      obtain ⟨k, hk, h1, h2⟩ := vb_and_ne h
      intro e
      have e2 := congrArg (fun z => z.getLsbD k) e
      have p1 := vb_pat_bit hn.1 k
      have p2 := vb_pat_bit hm.1 k
      simp only [BitVec.getLsbD_and, BitVec.getLsbD_or, BitVec.getLsbD_not, vb_bit0, hk, decide_true, Bool.true_and, p1, p2, h1, h2] at e2
      revert e2
      cases x.mask.getLsbD k <;> cases y.mask.getLsbD k <;> decide
    exact ⟨_, _, if_neg e, vb_sure_mem hn hm h, vb_sure_mem hm hn (by rw [BitVec.and_comm]; exact h)⟩
  rw [if_neg c10] at h ⊢
  have e : x.ones &&& y.ones = 0 := BitVec.eq_of_getLsbD_eq (fun k hk => by
    have e2 := congrArg (fun z => z.getLsbD k) h
    have p1 := vb_pat_bit hn.1 k
    have p2 := vb_pat_bit hm.1 k
    simp only [BitVec.getLsbD_and, vb_bit0] at e2 ⊢
    rw [p1, p2]
    revert e2
    cases n.getLsbD k <;> cases m.getLsbD k <;> simp)
  exact ⟨_, _, if_neg (fun h' => h' e), vb_never_mem hn hm h, vb_never_mem hm hn (by rw [BitVec.and_comm]; exact h)⟩
