/-! sums and differences -/

/-! sums and differences, bit by bit -/
def vb_any : vb_S := ⟨0, 0, 0, vb_m1, vb_top_, vb_most⟩
def vb_cAdd (x y : vb_S) : vb_S :=
  let sum := x.ones + y.ones
  let opn := ~~~x.mask ||| ~~~y.mask ||| ((sum + ~~~x.mask + ~~~y.mask) ^^^ sum)
  let l := x.low + y.low
  let h := x.high + y.high
  let l2 := x.least + y.least
  let h2 := x.greatest + y.greatest
  let b := decide (l < x.low) == decide (h < x.high)
  let c := (0 : BitVec 64).sle ((x.least ^^^ l2) &&& (y.least ^^^ l2)) && (0 : BitVec 64).sle ((x.greatest ^^^ h2) &&& (y.greatest ^^^ h2))
  ⟨~~~opn, sum &&& ~~~opn, if b = true then l else 0, if b = true then h else vb_m1, if c = true then l2 else vb_top_, if c = true then h2 else vb_most⟩
def vb_cSub (x y : vb_S) : vb_S :=
  let dif := x.ones - y.ones
  let opn := ~~~x.mask ||| ~~~y.mask ||| ((dif + ~~~x.mask) ^^^ (dif - ~~~y.mask))
  let l2 := x.least - y.greatest
  let h2 := x.greatest - y.least
  let b := decide (x.low < y.high) == decide (x.high < y.low)
  let c := (0 : BitVec 64).sle ((x.least ^^^ y.greatest) &&& (x.least ^^^ l2)) && (0 : BitVec 64).sle ((x.greatest ^^^ y.least) &&& (x.greatest ^^^ h2))
  ⟨~~~opn, dif &&& ~~~opn, if b = true then x.low - y.high else 0, if b = true then x.high - y.low else vb_m1, if c = true then l2 else vb_top_, if c = true then h2 else vb_most⟩

def vb_may (o b v : Bool) : Bool := o || (b == v)
def vb_sumAny (f : Bool → Bool → Bool → Bool) (xo xb yo yb zero one : Bool) : Bool :=
  let g := fun x y c => (vb_may xo xb x && vb_may yo yb y && (if c = true then one else zero)) && f x y c
  g false false false || g true false false || g false true false || g true true false || g false false true || g true false true || g false true true || g true true true
def vb_carries (minus x y c : Bool) : Bool := if minus = true then (!x && (y || c)) || (x && y && c) else Bool.atLeastTwo x y c
def vb_par (x y c : Bool) : Bool := x ^^ (y ^^ c)
/-- values, unknown bits, whether the next carry may be 0, or 1 -/
def vb_sumLoop (minus : Bool) (X Y : vb_R) : Nat → BitVec 64 × BitVec 64 × Bool × Bool
  | 0 => (0, 0, true, false)
  | k + 1 =>
    let s := vb_sumLoop minus X Y k
    let A := fun f => vb_sumAny f (X.opn.getLsbD k) (X.bits.getLsbD k) (Y.opn.getLsbD k) (Y.bits.getLsbD k) s.2.2.1 s.2.2.2
    let isZero := A (fun x y c => !vb_par x y c)
    let isOne := A vb_par
    (if isOne = true ∧ ¬ isZero = true then s.1 ||| BitVec.twoPow 64 k else s.1, if isZero = true ∧ isOne = true then s.2.1 ||| BitVec.twoPow 64 k else s.2.1, A (fun x y c => !vb_carries minus x y c), A (vb_carries minus))
def vb_sumIsLong (a b : BitVec 64) : Bool := (a.slt 0 != b.slt 0) || ((a + b).slt 0 == a.slt 0)
def vb_difIsLong (a b : BitVec 64) : Bool := (a.slt 0 == b.slt 0) || ((a - b).slt 0 == a.slt 0)
def vb_rAdd (X Y : vb_R) : vb_R :=
  let s := vb_sumLoop false X Y 64
  let b := decide (X.low + Y.low < X.low) == decide (X.high + Y.high < X.high)
  let c := vb_sumIsLong X.least Y.least && vb_sumIsLong X.greatest Y.greatest
  ⟨s.1, s.2.1, if b = true then X.low + Y.low else 0, if b = true then X.high + Y.high else vb_m1, if c = true then X.least + Y.least else vb_top_, if c = true then X.greatest + Y.greatest else vb_most⟩
def vb_rSub (X Y : vb_R) : vb_R :=
  let s := vb_sumLoop true X Y 64
  let b := decide (X.low < Y.high) == decide (X.high < Y.low)
  let c := vb_difIsLong X.least Y.greatest && vb_difIsLong X.greatest Y.least
  ⟨s.1, s.2.1, if b = true then X.low - Y.high else 0, if b = true then X.high - Y.low else vb_m1, if c = true then X.least - Y.greatest else vb_top_, if c = true then X.greatest - Y.least else vb_most⟩

/-- the carry into bit k; the borrow -/
def vb_cr (a b : BitVec 64) (k : Nat) : Bool := BitVec.carry k a b false
def vb_bo (a b : BitVec 64) (k : Nat) : Bool := !BitVec.carry k a (~~~b) true
theorem vb_cr0 (a b : BitVec 64) : vb_cr a b 0 = false := by simp [vb_cr, BitVec.carry]; omega
theorem vb_cr_succ (a b : BitVec 64) (k : Nat) : vb_cr a b (k + 1) = vb_carries false (a.getLsbD k) (b.getLsbD k) (vb_cr a b k) := by
  unfold vb_cr vb_carries; rw [BitVec.carry_succ]; rfl
theorem vb_bo0 (a b : BitVec 64) : vb_bo a b 0 = false := by
  unfold vb_bo BitVec.carry
  simp
theorem vb_bo_succ (a b : BitVec 64) {k : Nat} (hk : k < 64) : vb_bo a b (k + 1) = vb_carries true (a.getLsbD k) (b.getLsbD k) (vb_bo a b k) := by
  unfold vb_bo vb_carries; rw [BitVec.carry_succ, BitVec.getLsbD_not]
  simp only [hk, decide_true, Bool.true_and]
  cases a.getLsbD k <;> cases b.getLsbD k <;> cases BitVec.carry k a (~~~b) true <;> rfl
theorem vb_add_bit (a b : BitVec 64) {k : Nat} (hk : k < 64) : (a + b).getLsbD k = vb_par (a.getLsbD k) (b.getLsbD k) (vb_cr a b k) := BitVec.getLsbD_add hk a b
theorem vb_aab {a b : BitVec 64} {c : Bool} {k : Nat} (hk : k < 64) : (a + b + BitVec.setWidth 64 (BitVec.ofBool c)).getLsbD k = (a.getLsbD k ^^ (b.getLsbD k ^^ BitVec.carry k a b c)) := by
  first | exact BitVec.getLsbD_add_add_bool hk a b c | (rw [BitVec.add_assoc]; exact BitVec.getLsbD_add_add_bool hk a b c)
theorem vb_sub_bit (a b : BitVec 64) {k : Nat} (hk : k < 64) : (a - b).getLsbD k = vb_par (a.getLsbD k) (b.getLsbD k) (vb_bo a b k) := by
  have e : a - b = a + (~~~b + BitVec.setWidth 64 (BitVec.ofBool true)) := by
    rw [BitVec.sub_eq_add_neg, BitVec.neg_eq_not_add]; rfl
  rw [e, ← BitVec.add_assoc, vb_aab hk, BitVec.getLsbD_not]
  unfold vb_par vb_bo
  simp only [hk, decide_true, Bool.true_and]
  cases a.getLsbD k <;> cases b.getLsbD k <;> cases BitVec.carry k a (~~~b) true <;> rfl

/-- both of one bit: the least and the greatest way, the one that is gone -/
def vb_le2 (a b : Bool) : Bool := !a || b
theorem vb_carries_mono (m : Bool) : ∀ x y c x' y' c' : Bool, (if m = true then vb_le2 x' x else vb_le2 x x') = true → vb_le2 y y' = true → vb_le2 c c' = true → vb_le2 (vb_carries m x y c) (vb_carries m x' y' c') = true := by
  cases m <;> decide

theorem vb_cr_mono {a b a' b' : BitVec 64} (h1 : ∀ k, vb_le2 (a.getLsbD k) (a'.getLsbD k) = true) (h2 : ∀ k, vb_le2 (b.getLsbD k) (b'.getLsbD k) = true) (k : Nat) : vb_le2 (vb_cr a b k) (vb_cr a' b' k) = true := by
  induction k with
  | zero => rw [vb_cr0, vb_cr0]; rfl
  | succ k ih => rw [vb_cr_succ, vb_cr_succ]; exact vb_carries_mono false _ _ _ _ _ _ (h1 k) (h2 k) ih
theorem vb_bo_mono {a b a' b' : BitVec 64} (h1 : ∀ k, vb_le2 (a'.getLsbD k) (a.getLsbD k) = true) (h2 : ∀ k, vb_le2 (b.getLsbD k) (b'.getLsbD k) = true) : ∀ k, k ≤ 64 → vb_le2 (vb_bo a b k) (vb_bo a' b' k) = true := by
  intro k
  induction k with
  | zero => intro _; rw [vb_bo0, vb_bo0]; rfl
  | succ k ih => intro hk; rw [vb_bo_succ _ _ (by omega), vb_bo_succ _ _ (by omega)]; exact vb_carries_mono true _ _ _ _ _ _ (h1 k) (h2 k) (ih (by omega))

/-- what the eight cases of a bit come to -/
theorem vb_sum_case (m : Bool) : ∀ xo xb yo yb l h : Bool, (xo && xb) = false → (yo && yb) = false → vb_le2 l h = true →
    vb_sumAny (fun x y c => !vb_par x y c) xo xb yo yb (!l) h = (xo || yo || (l != h) || !vb_par xb yb l) ∧
    vb_sumAny vb_par xo xb yo yb (!l) h = (xo || yo || (l != h) || vb_par xb yb l) ∧
    vb_sumAny (fun x y c => !vb_carries m x y c) xo xb yo yb (!l) h = !(vb_carries m (if m = true then xb || xo else xb) yb l) ∧
    vb_sumAny (vb_carries m) xo xb yo yb (!l) h = vb_carries m (if m = true then xb else xb || xo) (yb || yo) h := by
  cases m <;> decide

/-- the chains of the least and of the greatest carries -/
def vb_chLo (m : Bool) (X Y : vb_R) (k : Nat) : Bool := if m = true then vb_bo (X.bits ||| X.opn) Y.bits k else vb_cr X.bits Y.bits k
def vb_chHi (m : Bool) (X Y : vb_R) (k : Nat) : Bool := if m = true then vb_bo X.bits (Y.bits ||| Y.opn) k else vb_cr (X.bits ||| X.opn) (Y.bits ||| Y.opn) k
theorem vb_le2_or (a b : Bool) : vb_le2 a (a || b) = true := by cases a <;> cases b <;> rfl
theorem vb_le2_rf (a : Bool) : vb_le2 a a = true := by cases a <;> rfl
theorem vb_ch_le (m : Bool) (X Y : vb_R) {k : Nat} (hk : k ≤ 64) : vb_le2 (vb_chLo m X Y k) (vb_chHi m X Y k) = true := by
  unfold vb_chLo vb_chHi
  cases m
  · exact vb_cr_mono (fun k => by rw [BitVec.getLsbD_or]; exact vb_le2_or _ _) (fun k => by rw [BitVec.getLsbD_or]; exact vb_le2_or _ _) k
  · exact vb_bo_mono (fun k => by rw [BitVec.getLsbD_or]; exact vb_le2_or _ _) (fun k => by rw [BitVec.getLsbD_or]; exact vb_le2_or _ _) k hk

theorem vb_sumLoop_ok (m : Bool) {X Y : vb_R} (hX : X.bits &&& X.opn = 0) (hY : Y.bits &&& Y.opn = 0) : ∀ N, N ≤ 64 →
    (vb_sumLoop m X Y N).2.2.1 = (!vb_chLo m X Y N) ∧ (vb_sumLoop m X Y N).2.2.2 = vb_chHi m X Y N ∧
    ∀ i, i < 64 → (vb_sumLoop m X Y N).1.getLsbD i = (decide (i < N) && (!(X.opn.getLsbD i || Y.opn.getLsbD i || (vb_chLo m X Y i != vb_chHi m X Y i)) && vb_par (X.bits.getLsbD i) (Y.bits.getLsbD i) (vb_chLo m X Y i))) ∧
      (vb_sumLoop m X Y N).2.1.getLsbD i = (decide (i < N) && (X.opn.getLsbD i || Y.opn.getLsbD i || (vb_chLo m X Y i != vb_chHi m X Y i))) := by
  have dis : ∀ {v u : BitVec 64}, v &&& u = 0 → ∀ k, (u.getLsbD k && v.getLsbD k) = false := by
    intro v u h k
    cases e : u.getLsbD k
    · rfl
    · rw [vb_dis_bit h e]; rfl
  intro N
  induction N with
  | zero =>
    intro _
    refine ⟨?_, ?_, fun i hi => ⟨?_, ?_⟩⟩
    · show true = _; unfold vb_chLo; cases m <;> simp [vb_cr0, vb_bo0]
    · show false = _; unfold vb_chHi; cases m <;> simp [vb_cr0, vb_bo0]
    · show (0 : BitVec 64).getLsbD i = _; rw [vb_bit0]; simp
    · show (0 : BitVec 64).getLsbD i = _; rw [vb_bit0]; simp
  | succ N ih =>
    intro hN
    obtain ⟨h1, h2, h3⟩ := ih (by omega)
    obtain ⟨c1, c2, c3, c4⟩ := vb_sum_case m (X.opn.getLsbD N) (X.bits.getLsbD N) (Y.opn.getLsbD N) (Y.bits.getLsbD N) (vb_chLo m X Y N) (vb_chHi m X Y N) (dis hX N) (dis hY N) (vb_ch_le m X Y (by omega))
    unfold vb_sumLoop
    simp only [h1, h2, c1, c2, c3, c4]
    have hN' : N < 64 := by omega
    refine ⟨?_, ?_, fun i hi => ?_⟩
    · unfold vb_chLo
      cases m
      · simp only [Bool.false_eq_true, if_false]; rw [vb_cr_succ]
      · simp only [if_true]; rw [vb_bo_succ _ _ hN', BitVec.getLsbD_or]
    · unfold vb_chHi
      cases m
      · simp only [Bool.false_eq_true, if_false]; rw [vb_cr_succ, BitVec.getLsbD_or, BitVec.getLsbD_or]
      · simp only [if_true]; rw [vb_bo_succ _ _ hN', BitVec.getLsbD_or]
    · obtain ⟨h4, h5⟩ := h3 i hi
      by_cases e : i = N
      · subst e
        have l1 : i < i + 1 := by omega
        have l2 : ¬ i < i := by omega
        simp only [l2, decide_false, Bool.false_and] at h4 h5
        simp only [l1, decide_true, Bool.true_and]
        cases X.opn.getLsbD i <;> cases Y.opn.getLsbD i <;> cases vb_chLo m X Y i <;> cases vb_chHi m X Y i <;> cases vb_par (X.bits.getLsbD i) (Y.bits.getLsbD i) _ <;> simp only [Bool.or_false, Bool.or_true, Bool.false_or, Bool.true_or, Bool.not_false, Bool.not_true, bne_self_eq_false, Bool.false_eq_true, Bool.true_eq_false, if_true, if_false, not_true, not_false_eq_true, and_self, and_true, true_and, and_false, false_and, Bool.and_true, Bool.and_false, Bool.true_and, Bool.false_and, show (false != true) = true from rfl, show (true != false) = true from rfl, h4, h5, BitVec.getLsbD_or, vb_tp_bit hi, decide_true]
      · have l : decide (i < N + 1) = decide (i < N) := by by_cases h : i < N <;> simp [h] <;> omega
        rw [l, ← h4, ← h5]
        constructor
        · split
          · rw [BitVec.getLsbD_or, vb_tp_bit hi]; simp [e]
          · rfl
        · split
          · rw [BitVec.getLsbD_or, vb_tp_bit hi]; simp [e]
          · rfl

theorem vb_dis_of {v : vb_S} (h : v.ones &&& v.mask = v.ones) : v.ones &&& ~~~v.mask = 0 := BitVec.eq_of_getLsbD_eq (fun k hk => by
  have := vb_and_bit h k
  rw [BitVec.getLsbD_and, BitVec.getLsbD_not, vb_bit0]
  revert this; cases v.ones.getLsbD k <;> cases v.mask.getLsbD k <;> simp)

theorem vb_sle0 (z : BitVec 64) : (0 : BitVec 64).sle z = !z.msb := by
  rcases vb_val z with ⟨a, b, c⟩ | ⟨a, b, c, d⟩
  · rw [a]; exact vb_sle.mpr (by rw [vb_int0]; omega)
  · rw [a]; cases e : (0 : BitVec 64).sle z
    · rfl
    · have := vb_sle.mp e; rw [vb_int0] at this; omega
theorem vb_sumLong_eq (a b : BitVec 64) : (0 : BitVec 64).sle ((a ^^^ (a + b)) &&& (b ^^^ (a + b))) = vb_sumIsLong a b := by
  unfold vb_sumIsLong
  rw [vb_sle0, vb_slt0, vb_slt0, vb_slt0, BitVec.msb_and, BitVec.msb_xor, BitVec.msb_xor]
  cases a.msb <;> cases b.msb <;> cases (a + b).msb <;> rfl
theorem vb_difLong_eq (a b : BitVec 64) : (0 : BitVec 64).sle ((a ^^^ b) &&& (a ^^^ (a - b))) = vb_difIsLong a b := by
  unfold vb_difIsLong
  rw [vb_sle0, vb_slt0, vb_slt0, vb_slt0, BitVec.msb_and, BitVec.msb_xor, BitVec.msb_xor]
  cases a.msb <;> cases b.msb <;> cases (a - b).msb <;> rfl

theorem vb_add_opn {x y : vb_S} (hx : x.ones &&& x.mask = x.ones) (hy : y.ones &&& y.mask = y.ones) {k : Nat} (hk : k < 64) :
    (~~~x.mask ||| ~~~y.mask ||| ((x.ones + y.ones + ~~~x.mask + ~~~y.mask) ^^^ (x.ones + y.ones))).getLsbD k = ((vb_toR x).opn.getLsbD k || (vb_toR y).opn.getLsbD k || (vb_chLo false (vb_toR x) (vb_toR y) k != vb_chHi false (vb_toR x) (vb_toR y) k)) := by
  have dx := vb_dis_of hx
  have dy := vb_dis_of hy
  have e : x.ones + y.ones + ~~~x.mask + ~~~y.mask = (x.ones ||| ~~~x.mask) + (y.ones ||| ~~~y.mask) := by
    rw [← BitVec.add_eq_or_of_and_eq_zero _ _ dx, ← BitVec.add_eq_or_of_and_eq_zero _ _ dy]
    ac_rfl
  rw [e]
  simp only [BitVec.getLsbD_or, BitVec.getLsbD_xor, vb_add_bit _ _ hk, vb_toR, vb_chLo, vb_chHi, Bool.false_eq_true, if_false]
  have e1 : x.ones.getLsbD k = true → (~~~x.mask).getLsbD k = false := fun h => by
    cases e2 : (~~~x.mask).getLsbD k
    · rfl
    · rw [vb_dis_bit dx e2] at h; exact absurd h (by decide)
  have e2 : y.ones.getLsbD k = true → (~~~y.mask).getLsbD k = false := fun h => by
    cases e2 : (~~~y.mask).getLsbD k
    · rfl
    · rw [vb_dis_bit dy e2] at h; exact absurd h (by decide)
  revert e1 e2
  generalize vb_cr x.ones y.ones k = l
  generalize vb_cr (x.ones ||| ~~~x.mask) (y.ones ||| ~~~y.mask) k = h
  generalize (~~~x.mask).getLsbD k = xo
  generalize (~~~y.mask).getLsbD k = yo
  generalize x.ones.getLsbD k = xb
  generalize y.ones.getLsbD k = yb
  revert l h xo yo xb yb
  decide

theorem vb_sub_opn {x y : vb_S} (hx : x.ones &&& x.mask = x.ones) (hy : y.ones &&& y.mask = y.ones) {k : Nat} (hk : k < 64) :
    (~~~x.mask ||| ~~~y.mask ||| ((x.ones - y.ones + ~~~x.mask) ^^^ (x.ones - y.ones - ~~~y.mask))).getLsbD k = ((vb_toR x).opn.getLsbD k || (vb_toR y).opn.getLsbD k || (vb_chLo true (vb_toR x) (vb_toR y) k != vb_chHi true (vb_toR x) (vb_toR y) k)) := by
  have dx := vb_dis_of hx
  have dy := vb_dis_of hy
  have e : x.ones - y.ones + ~~~x.mask = (x.ones ||| ~~~x.mask) - y.ones := by
    rw [← BitVec.add_eq_or_of_and_eq_zero _ _ dx, BitVec.sub_eq_add_neg, BitVec.sub_eq_add_neg]
    ac_rfl
  have e' : x.ones - y.ones - ~~~y.mask = x.ones - (y.ones ||| ~~~y.mask) := by
    rw [← BitVec.add_eq_or_of_and_eq_zero _ _ dy]
    rw [BitVec.sub_eq_add_neg, BitVec.sub_eq_add_neg, BitVec.sub_eq_add_neg, BitVec.neg_add, BitVec.sub_eq_add_neg]
    ac_rfl
  rw [e, e']
  simp only [BitVec.getLsbD_or, BitVec.getLsbD_xor, vb_sub_bit _ _ hk, vb_toR, vb_chLo, vb_chHi, if_true]
  have e1 : x.ones.getLsbD k = true → (~~~x.mask).getLsbD k = false := fun h => by
    cases e2 : (~~~x.mask).getLsbD k
    · rfl
    · rw [vb_dis_bit dx e2] at h; exact absurd h (by decide)
  have e2 : y.ones.getLsbD k = true → (~~~y.mask).getLsbD k = false := fun h => by
    cases e2 : (~~~y.mask).getLsbD k
    · rfl
    · rw [vb_dis_bit dy e2] at h; exact absurd h (by decide)
  revert e1 e2
  generalize vb_bo (x.ones ||| ~~~x.mask) y.ones k = l
  generalize vb_bo x.ones (y.ones ||| ~~~y.mask) k = h
  generalize (~~~x.mask).getLsbD k = xo
  generalize (~~~y.mask).getLsbD k = yo
  generalize x.ones.getLsbD k = xb
  generalize y.ones.getLsbD k = yb
  revert l h xo yo xb yb
  decide

/-- the borrow of the least parts lies between both -/
theorem vb_sub_mid {x y : vb_S} {k : Nat} (hk : k ≤ 64) : vb_le2 (vb_chLo true (vb_toR x) (vb_toR y) k) (vb_bo x.ones y.ones k) = true ∧ vb_le2 (vb_bo x.ones y.ones k) (vb_chHi true (vb_toR x) (vb_toR y) k) = true := by
  unfold vb_chLo vb_chHi
  simp only [if_true]
  exact ⟨vb_bo_mono (fun k => by simp only [vb_toR]; rw [BitVec.getLsbD_or]; exact vb_le2_or _ _) (fun k => vb_le2_rf _) k hk, vb_bo_mono (fun k => vb_le2_rf _) (fun k => by simp only [vb_toR]; rw [BitVec.getLsbD_or]; exact vb_le2_or _ _) k hk⟩

theorem vb_add_same {x y : vb_S} (hx : x.ones &&& x.mask = x.ones) (hy : y.ones &&& y.mask = y.ones) : vb_toR (vb_cAdd x y) = vb_rAdd (vb_toR x) (vb_toR y) := by
  obtain ⟨_, _, H⟩ := vb_sumLoop_ok false (vb_dis_of hx) (vb_dis_of hy) (X := vb_toR x) (Y := vb_toR y) 64 (Nat.le_refl _)
  refine vb_R_ext ?_ ?_ rfl rfl ?_ ?_
  · refine BitVec.eq_of_getLsbD_eq (fun k hk => ?_)
    show ((x.ones + y.ones) &&& ~~~(~~~x.mask ||| ~~~y.mask ||| ((x.ones + y.ones + ~~~x.mask + ~~~y.mask) ^^^ (x.ones + y.ones)))).getLsbD k = (vb_sumLoop false (vb_toR x) (vb_toR y) 64).1.getLsbD k
    rw [(H k hk).1, BitVec.getLsbD_and, BitVec.getLsbD_not, vb_add_opn hx hy hk, vb_add_bit _ _ hk]
    simp only [hk, decide_true, Bool.true_and]
    rw [Bool.and_comm]
    simp only [vb_toR, vb_chLo, Bool.false_eq_true, if_false]
  · refine BitVec.eq_of_getLsbD_eq (fun k hk => ?_)
    show (~~~~~~(~~~x.mask ||| ~~~y.mask ||| ((x.ones + y.ones + ~~~x.mask + ~~~y.mask) ^^^ (x.ones + y.ones)))).getLsbD k = (vb_sumLoop false (vb_toR x) (vb_toR y) 64).2.1.getLsbD k
    rw [(H k hk).2, BitVec.not_not, vb_add_opn hx hy hk]
    simp only [hk, decide_true, Bool.true_and]
  · show (if ((0 : BitVec 64).sle ((x.least ^^^ (x.least + y.least)) &&& (y.least ^^^ (x.least + y.least))) && (0 : BitVec 64).sle ((x.greatest ^^^ (x.greatest + y.greatest)) &&& (y.greatest ^^^ (x.greatest + y.greatest)))) = true then x.least + y.least else vb_top_) = _
    rw [vb_sumLong_eq, vb_sumLong_eq]; rfl
  · show (if ((0 : BitVec 64).sle ((x.least ^^^ (x.least + y.least)) &&& (y.least ^^^ (x.least + y.least))) && (0 : BitVec 64).sle ((x.greatest ^^^ (x.greatest + y.greatest)) &&& (y.greatest ^^^ (x.greatest + y.greatest)))) = true then x.greatest + y.greatest else vb_most) = _
    rw [vb_sumLong_eq, vb_sumLong_eq]; rfl

theorem vb_sub_same {x y : vb_S} (hx : x.ones &&& x.mask = x.ones) (hy : y.ones &&& y.mask = y.ones) : vb_toR (vb_cSub x y) = vb_rSub (vb_toR x) (vb_toR y) := by
  obtain ⟨_, _, H⟩ := vb_sumLoop_ok true (vb_dis_of hx) (vb_dis_of hy) (X := vb_toR x) (Y := vb_toR y) 64 (Nat.le_refl _)
  refine vb_R_ext ?_ ?_ rfl rfl ?_ ?_
  · refine BitVec.eq_of_getLsbD_eq (fun k hk => ?_)
    show ((x.ones - y.ones) &&& ~~~(~~~x.mask ||| ~~~y.mask ||| ((x.ones - y.ones + ~~~x.mask) ^^^ (x.ones - y.ones - ~~~y.mask)))).getLsbD k = (vb_sumLoop true (vb_toR x) (vb_toR y) 64).1.getLsbD k
    rw [(H k hk).1, BitVec.getLsbD_and, BitVec.getLsbD_not, vb_sub_opn hx hy hk, vb_sub_bit _ _ hk]
    simp only [hk, decide_true, Bool.true_and]
    rw [Bool.and_comm]
    obtain ⟨m1, m2⟩ := vb_sub_mid (x := x) (y := y) (k := k) (by omega)
    simp only [vb_toR] at m1 m2 ⊢
    revert m1 m2
    generalize vb_bo x.ones y.ones k = b
    generalize vb_chLo true _ _ k = l
    generalize vb_chHi true _ _ k = h
    generalize (~~~x.mask).getLsbD k = xo
    generalize (~~~y.mask).getLsbD k = yo
    generalize x.ones.getLsbD k = xb
    generalize y.ones.getLsbD k = yb
    revert b l h xo yo xb yb
    decide
  · refine BitVec.eq_of_getLsbD_eq (fun k hk => ?_)
    show (~~~~~~(~~~x.mask ||| ~~~y.mask ||| ((x.ones - y.ones + ~~~x.mask) ^^^ (x.ones - y.ones - ~~~y.mask)))).getLsbD k = (vb_sumLoop true (vb_toR x) (vb_toR y) 64).2.1.getLsbD k
    rw [(H k hk).2, BitVec.not_not, vb_sub_opn hx hy hk]
    simp only [hk, decide_true, Bool.true_and]
  · show (if ((0 : BitVec 64).sle ((x.least ^^^ y.greatest) &&& (x.least ^^^ (x.least - y.greatest))) && (0 : BitVec 64).sle ((x.greatest ^^^ y.least) &&& (x.greatest ^^^ (x.greatest - y.least)))) = true then x.least - y.greatest else vb_top_) = _
    rw [vb_difLong_eq, vb_difLong_eq]; rfl
  · show (if ((0 : BitVec 64).sle ((x.least ^^^ y.greatest) &&& (x.least ^^^ (x.least - y.greatest))) && (0 : BitVec 64).sle ((x.greatest ^^^ y.least) &&& (x.greatest ^^^ (x.greatest - y.least)))) = true then x.greatest - y.least else vb_most) = _
    rw [vb_difLong_eq, vb_difLong_eq]; rfl
