/-! values: bits, the least number with some bits from a bound on -/
theorem vb_lt_of_bits {a b : BitVec 64} (j : Nat) (ha : a.getLsbD j = false) (hb : b.getLsbD j = true) (h : ∀ k, j < k → a.getLsbD k = b.getLsbD k) : a < b := by
  rw [BitVec.lt_def]
  have e : a.toNat / 2 ^ (j + 1) = b.toNat / 2 ^ (j + 1) := by
    refine Nat.eq_of_testBit_eq (fun k => ?_)
    rw [Nat.testBit_div_two_pow, Nat.testBit_div_two_pow, BitVec.testBit_toNat, BitVec.testBit_toNat]
    exact h _ (by omega)
  rw [← BitVec.testBit_toNat, Nat.testBit_eq_decide_div_mod_eq] at ha hb
  have ha' := of_decide_eq_false ha
  have hb' := of_decide_eq_true hb
  rw [Nat.pow_succ, ← Nat.div_div_eq_div_mul, ← Nat.div_div_eq_div_mul] at e
  have hlt : a.toNat / 2 ^ j < b.toNat / 2 ^ j := by omega
  exact Nat.lt_of_div_lt_div hlt

/-- two that differ: the highest bit in which they do -/
theorem vb_top {a b : BitVec 64} (h : a ≠ b) : ∃ j, j < 64 ∧ a.getLsbD j ≠ b.getLsbD j ∧ ∀ k, j < k → a.getLsbD k = b.getLsbD k := by
  have hx : ∀ N, (∀ k, N ≤ k → a.getLsbD k = b.getLsbD k) → ∃ j, j < N ∧ a.getLsbD j ≠ b.getLsbD j ∧ ∀ k, j < k → a.getLsbD k = b.getLsbD k := by
    intro N
    induction N with
    | zero => intro hN; exact absurd (BitVec.eq_of_getLsbD_eq (fun i _ => hN i (Nat.zero_le i))) h
    | succ N ih =>
      intro hN
      by_cases e : a.getLsbD N = b.getLsbD N
      · obtain ⟨j, h1, h2, h3⟩ := ih (fun k hk => by
          rcases Nat.lt_or_eq_of_le hk with h' | h'
          · exact hN k h'
          · exact h' ▸ e)
        exact ⟨j, by omega, h2, h3⟩
      · exact ⟨N, by omega, e, fun k hk => hN k hk⟩
  exact hx 64 (fun k hk => by rw [BitVec.getLsbD_of_ge a k hk, BitVec.getLsbD_of_ge b k hk])

theorem vb_lt_bits {a b : BitVec 64} (h : a < b) : ∃ j, j < 64 ∧ a.getLsbD j = false ∧ b.getLsbD j = true ∧ ∀ k, j < k → a.getLsbD k = b.getLsbD k := by
  have hne : a ≠ b := by intro e; subst e; exact absurd h (by simp)
  obtain ⟨j, h1, h2, h3⟩ := vb_top hne
  cases ha : a.getLsbD j <;> cases hb : b.getLsbD j
  · exact absurd (ha.trans hb.symm) h2
  · exact ⟨j, h1, rfl.trans ha, hb, h3⟩
  · exact absurd (vb_lt_of_bits j hb ha (fun k hk => (h3 k hk).symm)) (by rw [BitVec.lt_def] at *; omega)
  · exact absurd (ha.trans hb.symm) h2

theorem vb_le_of_sub {a b : BitVec 64} (h : ∀ k, a.getLsbD k = true → b.getLsbD k = true) : a ≤ b := by
  by_cases e : a = b
  · subst e; simp
  · rw [BitVec.le_def]
    obtain ⟨j, h1, h2, h3⟩ := vb_top e
    cases ha : a.getLsbD j
    · have hb : b.getLsbD j = true := by cases hb : b.getLsbD j; exact absurd (ha.trans hb.symm) h2; rfl
      exact Nat.le_of_lt (vb_lt_of_bits j ha hb h3)
    · exact absurd (ha.trans (h j ha).symm) h2

/-- n has the bits o where m has 1 -/
def vb_pat (m o n : BitVec 64) : Prop := n &&& m = o

theorem vb_pat_bit {m o n : BitVec 64} (h : vb_pat m o n) (k : Nat) : o.getLsbD k = (n.getLsbD k && m.getLsbD k) := by
  unfold vb_pat at h; rw [← h]; simp

theorem vb_pat_of {m o n : BitVec 64} (h : ∀ k, k < 64 → o.getLsbD k = (n.getLsbD k && m.getLsbD k)) : vb_pat m o n := by
  unfold vb_pat
  refine BitVec.eq_of_getLsbD_eq (fun k hk => ?_)
  rw [h k hk]; simp

/-- r is the first with these bits from a on, or below a, when there is none -/
def vb_isFirst (m o a r : BitVec 64) : Prop := vb_pat m o r ∧ ∀ n, vb_pat m o n → a ≤ n → a ≤ r ∧ r ≤ n

def vb_sm (s : Nat) (u : BitVec 64) : BitVec 64 := u ||| (u >>> s)
def vb_smear (u : BitVec 64) : BitVec 64 := vb_sm 32 (vb_sm 16 (vb_sm 8 (vb_sm 4 (vb_sm 2 (vb_sm 1 u)))))

theorem vb_sm_bit {u x : BitVec 64} {s : Nat} (h : ∀ k, x.getLsbD k = true ↔ ∃ j, k ≤ j ∧ j < k + s ∧ u.getLsbD j = true) (k : Nat) : (vb_sm s x).getLsbD k = true ↔ ∃ j, k ≤ j ∧ j < k + 2 * s ∧ u.getLsbD j = true := by
  unfold vb_sm
  rw [BitVec.getLsbD_or, Bool.or_eq_true, BitVec.getLsbD_ushiftRight, h k, h (s + k)]
  constructor
  · rintro (⟨j, h1, h2, h3⟩ | ⟨j, h1, h2, h3⟩)
    · exact ⟨j, h1, by omega, h3⟩
    · exact ⟨j, by omega, by omega, h3⟩
  · rintro ⟨j, h1, h2, h3⟩
    by_cases hj : j < k + s
    · exact Or.inl ⟨j, h1, hj, h3⟩
    · exact Or.inr ⟨j, by omega, by omega, h3⟩

theorem vb_smear_bit (u : BitVec 64) (k : Nat) : (vb_smear u).getLsbD k = true ↔ ∃ j, k ≤ j ∧ u.getLsbD j = true := by
  have h0 : ∀ k, u.getLsbD k = true ↔ ∃ j, k ≤ j ∧ j < k + 1 ∧ u.getLsbD j = true := by
    intro k
    refine ⟨fun h => ⟨k, by omega, by omega, h⟩, fun ⟨j, h1, h2, h3⟩ => ?_⟩
    have : j = k := by omega
    exact this ▸ h3
  have h6 := vb_sm_bit (vb_sm_bit (vb_sm_bit (vb_sm_bit (vb_sm_bit (vb_sm_bit h0))))) k
  unfold vb_smear
  refine h6.trans ⟨fun ⟨j, h1, _, h3⟩ => ⟨j, h1, h3⟩, fun ⟨j, h1, h3⟩ => ⟨j, h1, ?_, h3⟩⟩
  have : j < 64 := BitVec.lt_of_getLsbD h3
  omega

/-- of the lowest 1 of x -/
theorem vb_low {x : BitVec 64} (h : x &&& -x ≠ 0) : ∃ p, p < 64 ∧ x.getLsbD p = true ∧ (∀ j, j < p → x.getLsbD j = false) ∧ x &&& -x = BitVec.twoPow 64 p := by
  have hb : ∀ k, (x &&& -x).getLsbD k = true ↔ (k < 64 ∧ x.getLsbD k = true ∧ ∀ j, j < k → x.getLsbD j = false) := by
    intro k
    rw [BitVec.getLsbD_and, BitVec.getLsbD_neg, Bool.and_eq_true]
    constructor
    · rintro ⟨h2, h3⟩
      have h1 : k < 64 := BitVec.lt_of_getLsbD h2
      refine ⟨h1, h2, fun j hj => ?_⟩
      rw [h2] at h3
      cases hx : x.getLsbD j
      · rfl
      · have : decide (∃ j, j < k ∧ x.getLsbD j = true) = true := decide_eq_true ⟨j, hj, hx⟩
        rw [this, decide_eq_true h1] at h3; exact absurd h3 (by decide)
    · rintro ⟨h1, h2, h3⟩
      refine ⟨h2, ?_⟩
      have : decide (∃ j, j < k ∧ x.getLsbD j = true) = false := decide_eq_false (fun ⟨j, hj, hx⟩ => by rw [h3 j hj] at hx; exact absurd hx (by decide))
      rw [this, h2, Bool.and_false]; rfl
  obtain ⟨p, hp1, hp2, _⟩ := vb_top h
  have hp : (x &&& -x).getLsbD p = true := by
    cases hq : (x &&& -x).getLsbD p
    · rw [hq] at hp2; exact absurd (show false = (0#64).getLsbD p from BitVec.getLsbD_zero.symm) hp2
    · rfl
  obtain ⟨_, h2, h3⟩ := (hb p).mp hp
  refine ⟨p, hp1, h2, h3, BitVec.eq_of_getLsbD_eq (fun k hk => ?_)⟩
  rw [BitVec.getLsbD_twoPow]
  by_cases e : p = k
  · subst e; rw [hp]; simp [hk]
  · have : (x &&& -x).getLsbD k = false := by
      cases hq : (x &&& -x).getLsbD k
      · rfl
      · obtain ⟨_, h4, h5⟩ := (hb k).mp hq
        rcases Nat.lt_or_gt_of_ne e with h' | h'
        · rw [h5 p h'] at h2; exact absurd h2 (by decide)
        · rw [h3 k h'] at h4; exact absurd h4 (by decide)
    rw [this]; simp [e]

theorem vb_tp1 {p : Nat} (hp : p < 64) (k : Nat) : (BitVec.twoPow 64 p - 1).getLsbD k = decide (k < p) := by
  have : BitVec.twoPow 64 p - 1 = BitVec.ofNat 64 (2 ^ p - 1) := by
    apply BitVec.eq_of_toNat_eq
    have h2 : 2 ^ p < 2 ^ 64 := Nat.pow_lt_pow_right (by decide) hp
    have h3 : 0 < 2 ^ p := Nat.two_pow_pos p
    rw [BitVec.toNat_sub, BitVec.toNat_twoPow, BitVec.toNat_ofNat, Nat.mod_eq_of_lt h2, show (1 : BitVec 64).toNat = 1 from rfl, Nat.mod_eq_of_lt (show 2 ^ p - 1 < 2 ^ 64 by omega)]
    omega
  rw [this, BitVec.getLsbD_ofNat, Nat.testBit_two_pow_sub_one]
  by_cases h : k < p
  · simp [h]; omega
  · simp [h]

def vb_first (m o a : BitVec 64) : BitVec 64 :=
  let wrong := (a ^^^ o) &&& m
  if wrong = 0 then a else
    let under := vb_smear wrong
    if a &&& under &&& ~~~(under >>> 1) = 0 then a &&& ~~~under ||| o &&& under
    else
      let free := ~~~m &&& ~~~a &&& ~~~under
      let up := free &&& -free
      if up = 0 then o else a &&& ~~~(up ||| (up - 1)) ||| up ||| o &&& (up - 1)

theorem vb_pat_o {m o n : BitVec 64} (h : vb_pat m o n) {k : Nat} (hm : m.getLsbD k = true) : n.getLsbD k = o.getLsbD k := by
  rw [vb_pat_bit h k, hm, Bool.and_true]

theorem vb_and_bit {m o : BitVec 64} (ho : o &&& m = o) (k : Nat) : o.getLsbD k = (o.getLsbD k && m.getLsbD k) := by
  have := congrArg (fun x => x.getLsbD k) ho
  simpa using this.symm

theorem vb_fst_le {a n : BitVec 64} (h : a ≤ n ∧ a ≠ n) : a < n := by
  obtain ⟨h1, h2⟩ := h
  rw [BitVec.le_def] at h1; rw [BitVec.lt_def]
  have : a.toNat ≠ n.toNat := fun e => h2 (BitVec.eq_of_toNat_eq e)
  omega

theorem vb_first_ok {m o a : BitVec 64} (ho : o &&& m = o) : vb_isFirst m o a (vb_first m o a) := by
  unfold vb_first
  simp only
  have wb : ∀ k, ((a ^^^ o) &&& m).getLsbD k = ((a.getLsbD k ^^ o.getLsbD k) && m.getLsbD k) := fun k => by rw [BitVec.getLsbD_and, BitVec.getLsbD_xor]
  by_cases hw : (a ^^^ o) &&& m = 0
  · rw [if_pos hw]
    refine ⟨vb_pat_of (fun k hk => ?_), fun n _ h => ⟨by simp, h⟩⟩
    have h1 := wb k
    rw [hw, show (0 : BitVec 64).getLsbD k = false from BitVec.getLsbD_zero] at h1
    have h2 := vb_and_bit ho k
    revert h1 h2
    cases a.getLsbD k <;> cases o.getLsbD k <;> cases m.getLsbD k <;> simp
  · rw [if_neg hw]
    obtain ⟨h, hh, h1, h2⟩ := vb_top hw
    simp only [show ∀ k, (0 : BitVec 64).getLsbD k = false from fun k => BitVec.getLsbD_zero] at h1 h2
    have h1 : ((a ^^^ o) &&& m).getLsbD h = true := by simpa using h1
    have ub : ∀ k, (vb_smear ((a ^^^ o) &&& m)).getLsbD k = decide (k ≤ h) := by
      intro k
      rw [Bool.eq_iff_iff, vb_smear_bit, decide_eq_true_eq]
      constructor
      · rintro ⟨j, h3, h4⟩
        rcases Nat.lt_or_ge h j with h5 | h5
        · rw [h2 j h5] at h4; exact absurd h4 (by decide)
        · omega
      · exact fun h3 => ⟨h, h3, h1⟩
    generalize vb_smear ((a ^^^ o) &&& m) = under at ub ⊢
    rw [wb h] at h1
    have hmh : m.getLsbD h = true := by revert h1; cases m.getLsbD h <;> simp
    have hx : (a.getLsbD h ^^ o.getLsbD h) = true := by revert h1; rw [hmh]; simp
    have hr : ∀ k, h < k → m.getLsbD k = true → a.getLsbD k = o.getLsbD k := by
      intro k hk hm
      have := h2 k hk
      rw [wb k, hm] at this
      revert this
      cases a.getLsbD k <;> cases o.getLsbD k <;> simp
    by_cases hc : a &&& under &&& ~~~(under >>> 1) = 0
    · rw [if_pos hc]
      have ah : a.getLsbD h = false := by
        have := congrArg (fun x => x.getLsbD h) hc
        simp only [BitVec.getLsbD_and, BitVec.getLsbD_not, BitVec.getLsbD_ushiftRight, ub, show (0 : BitVec 64).getLsbD h = false from BitVec.getLsbD_zero] at this
        revert this
        cases a.getLsbD h <;> simp
        omega
      have oh : o.getLsbD h = true := by revert hx; rw [ah]; simp
      have rb : ∀ k, k < 64 → (a &&& ~~~under ||| o &&& under).getLsbD k = if k ≤ h then o.getLsbD k else a.getLsbD k := by
        intro k hk
        simp only [BitVec.getLsbD_and, BitVec.getLsbD_not, BitVec.getLsbD_or, ub]
        by_cases e : k ≤ h <;> simp [e, hk]
      generalize a &&& ~~~under ||| o &&& under = r at rb ⊢
      refine ⟨vb_pat_of (fun k hk => ?_), fun n hn hle => ?_⟩
      · rw [rb k hk]
        by_cases e : k ≤ h
        · rw [if_pos e]; exact vb_and_bit ho k
        · rw [if_neg e]
          have h3 := vb_and_bit ho k
          have h4 := hr k (by omega)
          revert h3 h4
          cases a.getLsbD k <;> cases o.getLsbD k <;> cases m.getLsbD k <;> simp
      · have hne : a ≠ n := by
          intro e; subst e
          have := vb_pat_o hn hmh
          rw [ah, oh] at this; exact absurd this (by decide)
        obtain ⟨j, hj, h3, h4, h5⟩ := vb_lt_bits (vb_fst_le ⟨hle, hne⟩)
        have hjh : h ≤ j := by
          rcases Nat.lt_or_ge j h with h6 | h6
          · have h7 := h5 h h6
            rw [vb_pat_o hn hmh, ah, oh] at h7; exact absurd h7 (by decide)
          · exact h6
        constructor
        · have : a < r := by
            refine vb_lt_of_bits h ah (by rw [rb h hh, if_pos (Nat.le_refl h)]; exact oh) (fun k hk => ?_)
            by_cases hk' : k < 64
            · rw [rb k hk', if_neg (by omega)]
            · rw [BitVec.getLsbD_of_ge _ _ (by omega), BitVec.getLsbD_of_ge _ _ (by omega)]
          rw [BitVec.le_def]; rw [BitVec.lt_def] at this; omega
        · by_cases ej : j = h
          · refine vb_le_of_sub (fun k hk => ?_)
            have hk' : k < 64 := BitVec.lt_of_getLsbD hk
            rw [rb k hk'] at hk
            by_cases e : k ≤ h
            · rw [if_pos e] at hk
              rw [vb_pat_bit hn k, Bool.and_eq_true] at hk
              exact hk.1
            · rw [if_neg e] at hk
              rw [← h5 k (by omega)]; exact hk
          · have : r < n := by
              refine vb_lt_of_bits j (by rw [rb j hj, if_neg (by omega)]; exact h3) h4 (fun k hk => ?_)
              by_cases hk' : k < 64
              · rw [rb k hk', if_neg (by omega)]; exact h5 k hk
              · rw [BitVec.getLsbD_of_ge _ _ (by omega), BitVec.getLsbD_of_ge _ _ (by omega)]
            rw [BitVec.le_def]; rw [BitVec.lt_def] at this; omega
    · rw [if_neg hc]
      have ah : a.getLsbD h = true := by
        cases e : a.getLsbD h
        · refine absurd (BitVec.eq_of_getLsbD_eq (fun k hk => ?_)) hc
          simp only [BitVec.getLsbD_and, BitVec.getLsbD_not, BitVec.getLsbD_ushiftRight, ub, show (0 : BitVec 64).getLsbD k = false from BitVec.getLsbD_zero]
          by_cases e2 : k = h
          · subst e2; simp [e]
          · by_cases e3 : k ≤ h
            · have : 1 + k ≤ h := by omega
              simp [this]
            · simp [e3]
        · rfl
      have oh : o.getLsbD h = false := by revert hx; rw [ah]; simp
      have fb : ∀ k, (~~~m &&& ~~~a &&& ~~~under).getLsbD k = (decide (k < 64) && (!m.getLsbD k && !a.getLsbD k && decide (h < k))) := by
        intro k
        simp only [BitVec.getLsbD_and, BitVec.getLsbD_not, ub]
        by_cases hk : k < 64 <;> by_cases e : k ≤ h
        · have : ¬ h < k := by omega
          simp [hk, e, this]
        · have : h < k := by omega
          simp [hk, e, this]
        · simp [hk]
        · simp [hk]
      generalize ~~~m &&& ~~~a &&& ~~~under = free at fb ⊢
      -- any one of the pattern from a on differs from a first at a free place
      have hn : ∀ n, vb_pat m o n → a ≤ n → ∃ j, j < 64 ∧ free.getLsbD j = true ∧ n.getLsbD j = true ∧ ∀ k, j < k → a.getLsbD k = n.getLsbD k := by
        intro n hn hle
        have hne : a ≠ n := by
          intro e; subst e
          have := vb_pat_o hn hmh
          rw [ah, oh] at this; exact absurd this (by decide)
        obtain ⟨j, hj, h3, h4, h5⟩ := vb_lt_bits (vb_fst_le ⟨hle, hne⟩)
        have hjh : h < j := by
          rcases Nat.lt_or_ge h j with h6 | h6
          · exact h6
          · rcases Nat.lt_or_eq_of_le h6 with h6 | h6
            · have h7 := h5 h h6
              rw [vb_pat_o hn hmh, ah, oh] at h7; exact absurd h7 (by decide)
            · subst h6; rw [ah] at h3; exact absurd h3 (by decide)
        refine ⟨j, hj, ?_, h4, h5⟩
        rw [fb j]
        have : m.getLsbD j = false := by
          cases e : m.getLsbD j
          · rfl
          · have h8 := hr j hjh e
            have h9 := vb_pat_o hn e
            rw [← h8, h3, h4] at h9; exact absurd h9 (by decide)
        rw [this, h3]; simp [hj, hjh]
      by_cases hu : free &&& -free = 0
      · rw [if_pos hu]
        refine ⟨ho, fun n hp hle => ?_⟩
        exfalso
        obtain ⟨j, hj, h3, _, _⟩ := hn n hp hle
        -- a lowest one
        have hf : free = 0 := by
          refine Classical.byContradiction fun hne => ?_
          have : ∀ N, ∀ k, k < N → free.getLsbD k = false := by
            intro N
            induction N with
            | zero => intro k hk; omega
            | succ N ih =>
              intro k hk
              rcases Nat.lt_or_eq_of_le (Nat.le_of_lt_succ hk) with h' | h'
              · exact ih k h'
              · subst h'
                have h8 := congrArg (fun x => x.getLsbD k) hu
                simp only [BitVec.getLsbD_and, BitVec.getLsbD_neg, show (0 : BitVec 64).getLsbD k = false from BitVec.getLsbD_zero] at h8
                have h9 : decide (∃ j, j < k ∧ free.getLsbD j = true) = false := decide_eq_false (fun ⟨j, hj, hx⟩ => by rw [ih j hj] at hx; exact absurd hx (by decide))
                rw [h9] at h8
                revert h8
                cases free.getLsbD k <;> simp
          rw [this 64 j hj] at h3; exact absurd h3 (by decide)
        rw [hf, show (0 : BitVec 64).getLsbD j = false from BitVec.getLsbD_zero] at h3
        exact absurd h3 (by decide)
      · rw [if_neg hu]
        obtain ⟨p, hp, h3, h4, h5⟩ := vb_low hu
        rw [h5]
        have hpf := h3
        rw [fb p] at hpf
        simp only [Bool.and_eq_true, decide_eq_true_eq, Bool.not_eq_true'] at hpf
        obtain ⟨_, ⟨mp, ap⟩, php⟩ := hpf
        have rb : ∀ k, k < 64 → (a &&& ~~~(BitVec.twoPow 64 p ||| (BitVec.twoPow 64 p - 1)) ||| BitVec.twoPow 64 p ||| o &&& (BitVec.twoPow 64 p - 1)).getLsbD k = if k < p then o.getLsbD k else if k = p then true else a.getLsbD k := by
          intro k hk
          simp only [BitVec.getLsbD_and, BitVec.getLsbD_not, BitVec.getLsbD_or, vb_tp1 hp, BitVec.getLsbD_twoPow]
          by_cases e : k < p
          · have e2 : ¬ p = k := by omega
            simp [hk, e, e2]
          · by_cases e2 : k = p
            · subst e2; simp [hk]
            · have e3 : ¬ p = k := by omega
              simp [hk, e, e2, e3]
        generalize a &&& ~~~(BitVec.twoPow 64 p ||| (BitVec.twoPow 64 p - 1)) ||| BitVec.twoPow 64 p ||| o &&& (BitVec.twoPow 64 p - 1) = r at rb ⊢
        refine ⟨vb_pat_of (fun k hk => ?_), fun n hnp hle => ?_⟩
        · rw [rb k hk]
          by_cases e : k < p
          · rw [if_pos e]; exact vb_and_bit ho k
          · rw [if_neg e]
            have h6 := vb_and_bit ho k
            by_cases e2 : k = p
            · subst e2; rw [if_pos rfl, mp]; rw [mp] at h6; simpa using h6
            · rw [if_neg e2]
              have h7 := hr k (by omega)
              revert h6 h7
              cases a.getLsbD k <;> cases o.getLsbD k <;> cases m.getLsbD k <;> simp
        · constructor
          · have : a < r := by
              refine vb_lt_of_bits p ap (by rw [rb p hp, if_neg (by omega), if_pos rfl]) (fun k hk => ?_)
              by_cases hk' : k < 64
              · rw [rb k hk', if_neg (by omega), if_neg (by omega)]
              · rw [BitVec.getLsbD_of_ge _ _ (by omega), BitVec.getLsbD_of_ge _ _ (by omega)]
            rw [BitVec.le_def]; rw [BitVec.lt_def] at this; omega
          · obtain ⟨j, hj, h6, h7, h8⟩ := hn n hnp hle
            have hjp : p ≤ j := by
              rcases Nat.lt_or_ge j p with h9 | h9
              · rw [h4 j h9] at h6; exact absurd h6 (by decide)
              · exact h9
            by_cases ej : j = p
            · subst ej
              refine vb_le_of_sub (fun k hk => ?_)
              have hk' : k < 64 := BitVec.lt_of_getLsbD hk
              rw [rb k hk'] at hk
              by_cases e : k < j
              · rw [if_pos e] at hk
                rw [vb_pat_bit hnp k, Bool.and_eq_true] at hk
                exact hk.1
              · rw [if_neg e] at hk
                by_cases e2 : k = j
                · subst e2; exact h7
                · rw [if_neg e2] at hk
                  rw [← h8 k (by omega)]; exact hk
            · have : r < n := by
                have aj : a.getLsbD j = false := by
                  rw [fb j] at h6
                  simp only [Bool.and_eq_true, Bool.not_eq_true'] at h6
                  exact h6.2.1.2
                refine vb_lt_of_bits j (by rw [rb j hj, if_neg (by omega), if_neg ej]; exact aj) h7 (fun k hk => ?_)
                by_cases hk' : k < 64
                · rw [rb k hk', if_neg (by omega), if_neg (by omega)]; exact h8 k hk
                · rw [BitVec.getLsbD_of_ge _ _ (by omega), BitVec.getLsbD_of_ge _ _ (by omega)]
              rw [BitVec.le_def]; rw [BitVec.lt_def] at this; omega

/-! the other side's: bit by bit from the highest on -/
def vb_upL : Nat → BitVec 64 → BitVec 64 → BitVec 64 → BitVec 64
  | 0, n, _, _ => n
  | k + 1, n, left, bound =>
    if left &&& BitVec.twoPow 64 k ≠ 0 then
      vb_upL k (if n ||| (left &&& ~~~BitVec.twoPow 64 k) < bound then n ||| BitVec.twoPow 64 k else n) (left &&& ~~~BitVec.twoPow 64 k) bound
    else vb_upL k n left bound

theorem vb_bit_ne {x : BitVec 64} {k : Nat} (hk : k < 64) : x &&& BitVec.twoPow 64 k ≠ 0 ↔ x.getLsbD k = true := by
  constructor
  · intro h
    cases e : x.getLsbD k
    · refine absurd (BitVec.eq_of_getLsbD_eq (fun i hi => ?_)) h
      rw [BitVec.getLsbD_and, BitVec.getLsbD_twoPow, show (0 : BitVec 64).getLsbD i = false from BitVec.getLsbD_zero]
      by_cases e2 : k = i
      · subst e2; rw [e]; rfl
      · simp [e2]
    · rfl
  · intro h e
    have := congrArg (fun y => y.getLsbD k) e
    simp only [BitVec.getLsbD_and, BitVec.getLsbD_twoPow, show (0 : BitVec 64).getLsbD k = false from BitVec.getLsbD_zero, h] at this
    simp [hk] at this

theorem vb_and_n0 (m : BitVec 64) : m &&& ~~~(0 : BitVec 64) = m := BitVec.eq_of_getLsbD_eq (fun i hi => by
  rw [BitVec.getLsbD_and, BitVec.getLsbD_not, show (0 : BitVec 64).getLsbD i = false from BitVec.getLsbD_zero]; simp [hi])

theorem vb_upL_ok {bound : BitVec 64} : ∀ (k : Nat) (n left : BitVec 64), k ≤ 64 → (∀ i, k ≤ i → left.getLsbD i = false) → (∀ i, left.getLsbD i = true → n.getLsbD i = false) → vb_isFirst (~~~left) n bound (vb_upL k n left bound) := by
  intro k
  induction k with
  | zero =>
    intro n left _ hl _
    have e : left = 0 := BitVec.eq_of_getLsbD_eq (fun i _ => by rw [hl i (Nat.zero_le i)]; exact BitVec.getLsbD_zero.symm)
    subst e
    refine ⟨by unfold vb_pat vb_upL; exact vb_and_n0 n, fun m hm hle => ?_⟩
    have : m = n := by unfold vb_pat at hm; rw [vb_and_n0] at hm; exact hm
    subst this
    unfold vb_upL
    exact ⟨hle, by simp⟩
  | succ k ih =>
    intro n left hk hl hd
    unfold vb_upL
    by_cases hb : left &&& BitVec.twoPow 64 k ≠ 0
    · rw [if_pos hb]
      rw [vb_bit_ne (by omega)] at hb
      have lb : ∀ i, (left &&& ~~~BitVec.twoPow 64 k).getLsbD i = (left.getLsbD i && !decide (i = k)) := by
        intro i
        rw [BitVec.getLsbD_and, BitVec.getLsbD_not, BitVec.getLsbD_twoPow]
        by_cases hi : i < 64
        · by_cases e : i = k
          · subst e; simp [hi]
          · have e2 : ¬ k = i := by omega
            simp [hi, e, e2]
        · rw [BitVec.getLsbD_of_ge left i (by omega)]; rfl
      generalize left &&& ~~~BitVec.twoPow 64 k = l2 at lb ⊢
      have hl2 : ∀ i, k ≤ i → l2.getLsbD i = false := by
        intro i hi
        rw [lb i]
        by_cases e : i = k
        · simp [e]
        · rw [hl i (by omega)]; rfl
      have nb : ∀ i, (n ||| BitVec.twoPow 64 k).getLsbD i = (n.getLsbD i || decide (i = k)) := by
        intro i
        rw [BitVec.getLsbD_or, BitVec.getLsbD_twoPow]
        by_cases e : i = k
        · subst e
          have : i < 64 := by omega
          simp [this]
        · have e2 : ¬ k = i := by omega
          simp [e, e2]
      by_cases hc : n ||| l2 < bound
      · rw [if_pos hc]
        generalize n ||| BitVec.twoPow 64 k = n2 at nb ⊢
        obtain ⟨h1, h2⟩ := ih n2 l2 (by omega) hl2 (fun i hi => by
          rw [lb i] at hi; rw [nb i]
          simp only [Bool.and_eq_true, Bool.not_eq_true', decide_eq_false_iff_not] at hi
          rw [hd i hi.1]; simp [hi.2])
        refine ⟨vb_pat_of (fun i hi => ?_), fun m hm hle => ?_⟩
        · have h3 := vb_pat_bit h1 i
          rw [nb i, BitVec.getLsbD_not, lb i] at h3
          rw [BitVec.getLsbD_not]
          have h4 := hd i
          revert h3 h4
          by_cases e : i = k
          · subst e; rw [hb]; simp
          · simp only [hi, e, decide_false, decide_true]
            cases n.getLsbD i <;> cases left.getLsbD i <;> simp
        · refine h2 m (vb_pat_of (fun i hi => ?_)) hle
          rw [nb i, BitVec.getLsbD_not, lb i]
          have h3 := vb_pat_bit hm i
          rw [BitVec.getLsbD_not] at h3
          by_cases e : i = k
          · subst e
            have : m.getLsbD i = true := by
              cases e2 : m.getLsbD i
              · exfalso
                have : m ≤ n ||| l2 := by
                  refine vb_le_of_sub (fun j hj => ?_)
                  have h5 := vb_pat_bit hm j
                  have hj' : j < 64 := BitVec.lt_of_getLsbD hj
                  rw [BitVec.getLsbD_not, hj] at h5
                  rw [BitVec.getLsbD_or, lb j]
                  by_cases e3 : j = i
                  · subst e3; rw [e2] at hj; exact absurd hj (by decide)
                  · revert h5
                    simp only [e3, hj', decide_false, decide_true]
                    cases n.getLsbD j <;> cases left.getLsbD j <;> simp
                rw [BitVec.le_def] at this hle; rw [BitVec.lt_def] at hc; omega
              · rfl
            rw [this]; simp [hi]
          · revert h3
            simp only [hi, e, decide_false, decide_true]
            cases n.getLsbD i <;> cases left.getLsbD i <;> simp
      · rw [if_neg hc]
        obtain ⟨h1, h2⟩ := ih n l2 (by omega) hl2 (fun i hi => by
          rw [lb i] at hi
          simp only [Bool.and_eq_true] at hi
          exact hd i hi.1)
        have all : vb_pat (~~~l2) n (n ||| l2) := vb_pat_of (fun i hi => by
          rw [BitVec.getLsbD_or, BitVec.getLsbD_not]
          have h6 : l2.getLsbD i = true → n.getLsbD i = false := fun h => hd i (by
            rw [lb i, Bool.and_eq_true] at h; exact h.1)
          revert h6
          cases n.getLsbD i <;> cases l2.getLsbD i <;> simp [hi])
        have hge : bound ≤ n ||| l2 := by rw [BitVec.le_def]; rw [BitVec.lt_def] at hc; omega
        have h3 := h2 _ all hge
        refine ⟨vb_pat_of (fun i hi => ?_), fun m hm hle => ⟨h3.1, ?_⟩⟩
        · have h4 := vb_pat_bit h1 i
          have h6 := vb_pat_bit h1 k
          rw [BitVec.getLsbD_not, lb i] at h4
          rw [BitVec.getLsbD_not]
          have h5 := hd i
          revert h4 h5
          by_cases e : i = k
          · subst e; rw [hb]; simp [hi]
          · simp only [hi, e, decide_false, decide_true]
            cases n.getLsbD i <;> cases left.getLsbD i <;> simp
        · cases e : m.getLsbD k
          · refine (h2 m (vb_pat_of (fun i hi => ?_)) hle).2
            have h4 := vb_pat_bit hm i
            rw [BitVec.getLsbD_not] at h4 ⊢
            rw [lb i]
            by_cases e2 : i = k
            · subst e2; rw [e, hd i hb]; rfl
            · revert h4
              simp only [hi, e2, decide_false, decide_true]
              cases n.getLsbD i <;> cases left.getLsbD i <;> simp
          · have h7 : (n ||| l2) < m := by
              refine vb_lt_of_bits k ?_ e (fun i hi => ?_)
              · rw [BitVec.getLsbD_or, hl2 k (Nat.le_refl k), hd k hb]; rfl
              · rw [BitVec.getLsbD_or, hl2 i (by omega), Bool.or_false]
                have h4 := vb_pat_bit hm i
                rw [BitVec.getLsbD_not, hl i (by omega)] at h4
                by_cases hi' : i < 64
                · simpa [hi'] using h4
                · rw [BitVec.getLsbD_of_ge n i (by omega), BitVec.getLsbD_of_ge m i (by omega)]
            have h8 := h3.2
            rw [BitVec.le_def] at h8 ⊢; rw [BitVec.lt_def] at h7; omega
    · rw [if_neg hb]
      have hb : left.getLsbD k = false := by
        cases e : left.getLsbD k
        · rfl
        · exact absurd ((vb_bit_ne (by omega)).mpr e) hb
      exact ih n left (by omega) (fun i hi => by
        rcases Nat.lt_or_eq_of_le hi with h' | h'
        · exact hl i h'
        · exact h' ▸ hb) hd

def vb_up (v u bound : BitVec 64) : BitVec 64 := vb_upL 64 v u bound
theorem vb_up_ok {v u bound : BitVec 64} (h : v &&& u = 0) : vb_isFirst (~~~u) v bound (vb_up v u bound) := by
  refine vb_upL_ok 64 v u (Nat.le_refl _) (fun i hi => BitVec.getLsbD_of_ge u i hi) (fun i hi => ?_)
  have := congrArg (fun y => y.getLsbD i) h
  simp only [BitVec.getLsbD_and, show (0 : BitVec 64).getLsbD i = false from BitVec.getLsbD_zero, hi] at this
  simpa using this

def vb_downL : Nat → BitVec 64 → BitVec 64 → BitVec 64 → BitVec 64
  | 0, n, _, _ => n
  | k + 1, n, left, bound =>
    if left &&& BitVec.twoPow 64 k ≠ 0 then
      vb_downL k (if bound < n &&& ~~~(left &&& ~~~BitVec.twoPow 64 k) then n &&& ~~~BitVec.twoPow 64 k else n) (left &&& ~~~BitVec.twoPow 64 k) bound
    else vb_downL k n left bound

theorem vb_not_lt {a b : BitVec 64} : ~~~a < ~~~b ↔ b < a := by
  rw [BitVec.lt_def, BitVec.lt_def, BitVec.toNat_not, BitVec.toNat_not]
  have := a.isLt; have := b.isLt; omega
theorem vb_not_le {a b : BitVec 64} : ~~~a ≤ ~~~b ↔ b ≤ a := by
  rw [BitVec.le_def, BitVec.le_def, BitVec.toNat_not, BitVec.toNat_not]
  have := a.isLt; have := b.isLt; omega

theorem vb_downL_eq {bound : BitVec 64} : ∀ (k : Nat) (n left : BitVec 64), vb_downL k n left bound = ~~~vb_upL k (~~~n) left (~~~bound) := by
  intro k
  induction k with
  | zero => intro n left; unfold vb_downL vb_upL; simp
  | succ k ih =>
    intro n left
    unfold vb_downL vb_upL
    by_cases hb : left &&& BitVec.twoPow 64 k ≠ 0
    · rw [if_pos hb, if_pos hb, ih]
      congr 2
      have : (~~~n ||| left &&& ~~~BitVec.twoPow 64 k < ~~~bound) ↔ (bound < n &&& ~~~(left &&& ~~~BitVec.twoPow 64 k)) := by
        rw [← vb_not_lt (a := n &&& ~~~(left &&& ~~~BitVec.twoPow 64 k)), BitVec.not_and, BitVec.not_not]
      by_cases hc : bound < n &&& ~~~(left &&& ~~~BitVec.twoPow 64 k)
      · rw [if_pos hc, if_pos (this.mpr hc), BitVec.not_and, BitVec.not_not]
      · rw [if_neg hc, if_neg (fun h => hc (this.mp h))]
    · rw [if_neg hb, if_neg hb, ih]

def vb_isLast (m o a r : BitVec 64) : Prop := vb_pat m o r ∧ ∀ n, vb_pat m o n → n ≤ a → r ≤ a ∧ n ≤ r
theorem vb_pat_not {m o n : BitVec 64} (h : vb_pat m o n) : vb_pat m (~~~o &&& m) (~~~n) := by
  refine vb_pat_of (fun k hk => ?_)
  have := vb_pat_bit h k
  rw [BitVec.getLsbD_and, BitVec.getLsbD_not, BitVec.getLsbD_not]
  revert this
  cases n.getLsbD k <;> cases o.getLsbD k <;> cases m.getLsbD k <;> simp
theorem vb_last_of {m o a r : BitVec 64} (ho : o &&& m = o) (h : vb_isFirst m (~~~o &&& m) (~~~a) r) : vb_isLast m o a (~~~r) := by
  obtain ⟨h1, h2⟩ := h
  refine ⟨?_, fun n hn hle => ?_⟩
  · have := vb_pat_not h1
    unfold vb_pat at this ⊢
    rw [this]
    refine BitVec.eq_of_getLsbD_eq (fun k hk => ?_)
    have h3 := vb_and_bit ho k
    simp only [BitVec.getLsbD_and, BitVec.getLsbD_not]
    revert h3
    cases o.getLsbD k <;> cases m.getLsbD k <;> simp [hk]
  · have := h2 (~~~n) (vb_pat_not hn) (vb_not_le.mpr hle)
    refine ⟨?_, ?_⟩
    · rw [← vb_not_le, BitVec.not_not]; exact this.1
    · rw [← vb_not_le, BitVec.not_not]; exact this.2
def vb_down (v u bound : BitVec 64) : BitVec 64 := vb_downL 64 (v ||| u) u bound
theorem vb_down_ok {v u bound : BitVec 64} (h : v &&& u = 0) : vb_isLast (~~~u) v bound (vb_down v u bound) := by
  unfold vb_down
  rw [vb_downL_eq]
  have hb : ∀ k, v.getLsbD k = true → u.getLsbD k = false := by
    intro k hk
    have := congrArg (fun y => y.getLsbD k) h
    simp only [BitVec.getLsbD_and, show (0 : BitVec 64).getLsbD k = false from BitVec.getLsbD_zero, hk] at this
    simpa using this
  refine vb_last_of (BitVec.eq_of_getLsbD_eq (fun k hk => ?_)) ?_
  · rw [BitVec.getLsbD_and, BitVec.getLsbD_not]
    have := hb k
    revert this
    cases v.getLsbD k <;> cases u.getLsbD k <;> simp [hk]
  · have e : ~~~v &&& ~~~u = ~~~(v ||| u) := by rw [BitVec.not_or]
    rw [e]
    refine vb_up_ok (BitVec.eq_of_getLsbD_eq (fun k hk => ?_))
    rw [BitVec.getLsbD_and, BitVec.getLsbD_not, BitVec.getLsbD_or, show (0 : BitVec 64).getLsbD k = false from BitVec.getLsbD_zero]
    cases v.getLsbD k <;> cases u.getLsbD k <;> simp

/-! sayings, their numbers, the closest ones -/
abbrev vb_S : Type := BitVec 64 × BitVec 64 × BitVec 64 × BitVec 64 × BitVec 64 × BitVec 64
abbrev vb_S.mask (v : vb_S) : BitVec 64 := v.1
abbrev vb_S.ones (v : vb_S) : BitVec 64 := v.2.1
abbrev vb_S.low (v : vb_S) : BitVec 64 := v.2.2.1
abbrev vb_S.high (v : vb_S) : BitVec 64 := v.2.2.2.1
abbrev vb_S.least (v : vb_S) : BitVec 64 := v.2.2.2.2.1
abbrev vb_S.greatest (v : vb_S) : BitVec 64 := v.2.2.2.2.2
theorem vb_S_ext {a b : vb_S} (h1 : a.mask = b.mask) (h2 : a.ones = b.ones) (h3 : a.low = b.low) (h4 : a.high = b.high) (h5 : a.least = b.least) (h6 : a.greatest = b.greatest) : a = b :=
  Prod.ext h1 (Prod.ext h2 (Prod.ext h3 (Prod.ext h4 (Prod.ext h5 h6))))

def vb_mem (v : vb_S) (n : BitVec 64) : Prop := vb_pat v.mask v.ones n ∧ v.low ≤ n ∧ n ≤ v.high ∧ v.least.toInt ≤ n.toInt ∧ n.toInt ≤ v.greatest.toInt

abbrev vb_hull (v w : vb_S) : Prop := vb_mem v w.low ∧ vb_mem v w.high ∧ vb_mem v w.least ∧ vb_mem v w.greatest ∧
  (∀ n, vb_mem v n → w.low ≤ n ∧ n ≤ w.high ∧ w.least.toInt ≤ n.toInt ∧ n.toInt ≤ w.greatest.toInt) ∧
  (∀ k, k < 64 → (w.mask.getLsbD k = true ↔ ∀ n n', vb_mem v n → vb_mem v n' → n.getLsbD k = n'.getLsbD k)) ∧ w.ones = w.low &&& w.mask
theorem vb_hull.low {v w : vb_S} (h : vb_hull v w) : vb_mem v w.low := h.1
theorem vb_hull.high {v w : vb_S} (h : vb_hull v w) : vb_mem v w.high := h.2.1
theorem vb_hull.least {v w : vb_S} (h : vb_hull v w) : vb_mem v w.least := h.2.2.1
theorem vb_hull.greatest {v w : vb_S} (h : vb_hull v w) : vb_mem v w.greatest := h.2.2.2.1
theorem vb_hull.all {v w : vb_S} (h : vb_hull v w) : ∀ n, vb_mem v n → w.low ≤ n ∧ n ≤ w.high ∧ w.least.toInt ≤ n.toInt ∧ n.toInt ≤ w.greatest.toInt := h.2.2.2.2.1
theorem vb_hull.mask {v w : vb_S} (h : vb_hull v w) : ∀ k, k < 64 → (w.mask.getLsbD k = true ↔ ∀ n n', vb_mem v n → vb_mem v n' → n.getLsbD k = n'.getLsbD k) := h.2.2.2.2.2.1
theorem vb_hull.ones {v w : vb_S} (h : vb_hull v w) : w.ones = w.low &&& w.mask := h.2.2.2.2.2.2

theorem vb_le_antisymm {a b : BitVec 64} (h : a ≤ b) (h2 : b ≤ a) : a = b := by
  rw [BitVec.le_def] at h h2; exact BitVec.eq_of_toNat_eq (by omega)
theorem vb_int_antisymm {a b : BitVec 64} (h : a.toInt ≤ b.toInt) (h2 : b.toInt ≤ a.toInt) : a = b := BitVec.eq_of_toInt_eq (by omega)

theorem vb_hull_unique {v w w' : vb_S} (h : vb_hull v w) (h' : vb_hull v w') : w = w' := by
  have e1 : w.low = w'.low := vb_le_antisymm (h.all _ h'.low).1 (h'.all _ h.low).1
  have e2 : w.high = w'.high := vb_le_antisymm (h'.all _ h.high).2.1 (h.all _ h'.high).2.1
  have e3 : w.least = w'.least := vb_int_antisymm (h.all _ h'.least).2.2.1 (h'.all _ h.least).2.2.1
  have e4 : w.greatest = w'.greatest := vb_int_antisymm (h'.all _ h.greatest).2.2.2 (h.all _ h'.greatest).2.2.2
  have e5 : w.mask = w'.mask := BitVec.eq_of_getLsbD_eq (fun k hk => by rw [Bool.eq_iff_iff, h.mask k hk, h'.mask k hk])
  have e6 : w.ones = w'.ones := by rw [h.ones, h'.ones, e1, e5]
  exact vb_S_ext e5 e6 e1 e2 e3 e4

theorem vb_hull_congr {v v' w : vb_S} (e : ∀ n, vb_mem v n ↔ vb_mem v' n) (h : vb_hull v w) : vb_hull v' w :=
  ⟨(e _).mp h.low, (e _).mp h.high, (e _).mp h.least, (e _).mp h.greatest, fun n hn => h.all n ((e n).mpr hn), fun k hk => by
    rw [h.mask k hk]
    exact ⟨fun H n n' hn hn' => H n n' ((e n).mpr hn) ((e n').mpr hn'), fun H n n' hn hn' => H n n' ((e n).mp hn) ((e n').mp hn')⟩, h.ones⟩

theorem vb_hull_mem {v w : vb_S} (h : vb_hull v w) (n : BitVec 64) : vb_mem w n ↔ vb_mem v n := by
  constructor
  · rintro ⟨h1, h2, h3, h4, h5⟩
    obtain ⟨l1, l2, l3, l4, l5⟩ := h.low
    obtain ⟨g1, g2, g3, g4, g5⟩ := h.high
    obtain ⟨a1, a2, a3, a4, a5⟩ := h.least
    obtain ⟨b1, b2, b3, b4, b5⟩ := h.greatest
    refine ⟨vb_pat_of (fun k hk => ?_), ?_, ?_, by omega, by omega⟩
    · by_cases e : v.mask.getLsbD k = true
      · have hm : w.mask.getLsbD k = true := (h.mask k hk).mpr (fun n n' hn hn' => by rw [vb_pat_o hn.1 e, vb_pat_o hn'.1 e])
        have h6 := vb_pat_o h1 hm
        rw [h.ones, BitVec.getLsbD_and, hm, Bool.and_true, vb_pat_o l1 e] at h6
        rw [h6, e, Bool.and_true]
      · have e : v.mask.getLsbD k = false := by simpa using e
        have h7 := vb_pat_bit l1 k
        rw [e, Bool.and_false] at h7 ⊢
        exact h7
    · rw [BitVec.le_def] at *; omega
    · rw [BitVec.le_def] at *; omega
  · intro hn
    obtain ⟨h1, h2, h3, h4⟩ := h.all n hn
    refine ⟨vb_pat_of (fun k hk => ?_), h1, h2, h3, h4⟩
    rw [h.ones, BitVec.getLsbD_and]
    by_cases e : w.mask.getLsbD k = true
    · rw [e, (h.mask k hk).mp e n w.low hn h.low]
    · have e : w.mask.getLsbD k = false := by simpa using e
      rw [e, Bool.and_false, Bool.and_false]

def vb_tight (v : vb_S) : Prop := vb_hull v v
theorem vb_hull_tight {v w : vb_S} (h : vb_hull v w) : vb_tight w := vb_hull_congr (fun n => (vb_hull_mem h n).symm) h
theorem vb_tight_hull {v w : vb_S} (h : vb_tight v) (h' : vb_hull v w) : w = v := vb_hull_unique h' h

theorem vb_val (x : BitVec 64) : (x.msb = false ∧ x.toInt = (x.toNat : Int) ∧ x.toNat < 9223372036854775808) ∨ (x.msb = true ∧ x.toInt = (x.toNat : Int) - 18446744073709551616 ∧ 9223372036854775808 ≤ x.toNat ∧ x.toNat < 18446744073709551616) := by
  have h := BitVec.toInt_eq_msb_cond x
  have h2 := x.isLt
  have h3 := BitVec.msb_eq_decide x
  cases hm : x.msb
  · rw [hm] at h h3
    have := of_decide_eq_false h3.symm
    exact Or.inl ⟨rfl, by simpa using h, by simpa using this⟩
  · rw [hm] at h h3
    have := of_decide_eq_true h3.symm
    exact Or.inr ⟨rfl, by simpa using h, by simpa using this, by simpa using h2⟩

/-- f and l are the first and the last of those with (or without) the sign -/
def vb_half (v : vb_S) (b : Bool) (f l : BitVec 64) : Prop := (vb_mem v f ∧ f.msb = b) ∧ (vb_mem v l ∧ l.msb = b) ∧ ∀ n, vb_mem v n → n.msb = b → f ≤ n ∧ n ≤ l

theorem vb_half_in {v : vb_S} {b : Bool} {f l n : BitVec 64} (h : vb_half v b f l) (hp : vb_pat v.mask v.ones n) (h1 : f ≤ n) (h2 : n ≤ l) : vb_mem v n ∧ n.msb = b := by
  obtain ⟨⟨⟨_, f2, f3, f4, f5⟩, f6⟩, ⟨⟨_, l2, l3, l4, l5⟩, l6⟩, _⟩ := h
  rw [BitVec.le_def] at *
  rcases vb_val f with ⟨a1, a2, a3⟩ | ⟨a1, a2, a3, a4⟩ <;> rcases vb_val l with ⟨b1, b2, b3⟩ | ⟨b1, b2, b3, b4⟩ <;> rcases vb_val n with ⟨c1, c2, c3⟩ | ⟨c1, c2, c3, c4⟩ <;> rw [a1] at f6 <;> rw [b1] at l6 <;> subst f6 <;> first | exact absurd l6 (by decide) | (exfalso; omega) | exact ⟨⟨hp, by rw [BitVec.le_def]; omega, by rw [BitVec.le_def]; omega, by omega, by omega⟩, c1⟩

def vb_same (a b : BitVec 64) : BitVec 64 := ~~~vb_smear (a ^^^ b)
theorem vb_same_bit (a b : BitVec 64) {k : Nat} (hk : k < 64) : (vb_same a b).getLsbD k = true ↔ ∀ j, k ≤ j → a.getLsbD j = b.getLsbD j := by
  unfold vb_same
  rw [BitVec.getLsbD_not]
  simp only [hk, decide_true, Bool.true_and, Bool.not_eq_true']
  rw [← Bool.not_eq_true, vb_smear_bit]
  constructor
  · intro h j hj
    cases e : (a ^^^ b).getLsbD j
    · rw [BitVec.getLsbD_xor] at e
      revert e; cases a.getLsbD j <;> cases b.getLsbD j <;> simp
    · exact absurd ⟨j, hj, e⟩ h
  · rintro h ⟨j, hj, e⟩
    rw [BitVec.getLsbD_xor, h j hj, Bool.xor_self] at e
    exact absurd e (by decide)

theorem vb_between {a b n : BitVec 64} {k : Nat} (h : ∀ j, k ≤ j → a.getLsbD j = b.getLsbD j) (h1 : a ≤ n) (h2 : n ≤ b) : n.getLsbD k = a.getLsbD k := by
  have e : ∀ x : BitVec 64, x.getLsbD k = decide (x.toNat / 2 ^ k % 2 = 1) := fun x => by rw [← BitVec.testBit_toNat, Nat.testBit_eq_decide_div_mod_eq]
  have e2 : a.toNat / 2 ^ k = b.toNat / 2 ^ k := by
    refine Nat.eq_of_testBit_eq (fun i => ?_)
    rw [Nat.testBit_div_two_pow, Nat.testBit_div_two_pow, BitVec.testBit_toNat, BitVec.testBit_toNat]
    exact h _ (by omega)
  rw [BitVec.le_def] at h1 h2
  have e3 : a.toNat / 2 ^ k ≤ n.toNat / 2 ^ k := Nat.div_le_div_right h1
  have e4 : n.toNat / 2 ^ k ≤ b.toNat / 2 ^ k := Nat.div_le_div_right h2
  have e5 : n.toNat / 2 ^ k = a.toNat / 2 ^ k := by omega
  rw [e n, e a, e5]

/-- what is known of a half: what is known, and what is above the highest bit in which its ends differ -/
theorem vb_half_mask {v : vb_S} {b : Bool} {f l : BitVec 64} (h : vb_half v b f l) {k : Nat} (hk : k < 64) : (v.mask ||| vb_same f l).getLsbD k = true ↔ ∀ n n', vb_mem v n → n.msb = b → vb_mem v n' → n'.msb = b → n.getLsbD k = n'.getLsbD k := by
  have hh := h
  obtain ⟨⟨hf, hf6⟩, ⟨hl, hl6⟩, hA⟩ := h
  rw [BitVec.getLsbD_or, Bool.or_eq_true, vb_same_bit _ _ hk]
  constructor
  · rintro (h1 | h1) n n' hn hb hn' hb'
    · rw [vb_pat_o hn.1 h1, vb_pat_o hn'.1 h1]
    · obtain ⟨h2, h3⟩ := hA n hn hb
      obtain ⟨h4, h5⟩ := hA n' hn' hb'
      rw [vb_between h1 h2 h3, vb_between h1 h4 h5]
  · intro H
    cases hm : v.mask.getLsbD k
    · right
      refine Classical.byContradiction fun hc => ?_
      have hfl : f ≤ l := (hA l hl hl6).1
      have hne : f ≠ l := by intro e; exact hc (fun j _ => by rw [e])
      obtain ⟨t, ht, t1, t2, t3⟩ := vb_lt_bits (vb_fst_le ⟨hfl, hne⟩)
      have htk : k ≤ t := by
        rcases Nat.lt_or_ge t k with h' | h'
        · exact absurd (fun j hj => t3 j (by omega)) hc
        · exact h'
      have h0 := H f l hf hf6 hl hl6
      by_cases ek : k = t
      · subst ek; rw [t1, t2] at h0; exact absurd h0 (by decide)
      · have bb : ∀ j, j < 64 → (BitVec.twoPow 64 k).getLsbD j = decide (j = k) := by
          intro j hj
          rw [BitVec.getLsbD_twoPow]
          by_cases e : j = k
          · subst e; simp [hj]
          · have : ¬ k = j := by omega
            simp [e, this]
        cases hfk : f.getLsbD k
        · have nb : ∀ j, j < 64 → (f ||| BitVec.twoPow 64 k).getLsbD j = if j = k then true else f.getLsbD j := by
            intro j hj
            rw [BitVec.getLsbD_or, bb j hj]
            by_cases e : j = k <;> simp [e]
          generalize f ||| BitVec.twoPow 64 k = n at nb
          have hp : vb_pat v.mask v.ones n := vb_pat_of (fun j hj => by
            rw [vb_pat_bit hf.1 j, nb j hj]
            by_cases e : j = k
            · rw [if_pos e, e, hm, Bool.and_false, Bool.and_false]
            · rw [if_neg e])
          have h1 : f ≤ n := vb_le_of_sub (fun j hj => by
            rw [nb j (BitVec.lt_of_getLsbD hj)]
            by_cases e : j = k
            · rw [if_pos e]
            · rw [if_neg e]; exact hj)
          have h2 : n < l := vb_lt_of_bits t (by rw [nb t ht, if_neg (by omega)]; exact t1) t2 (fun j hj => by
            by_cases hj' : j < 64
            · rw [nb j hj', if_neg (by omega)]; exact t3 j hj
            · rw [BitVec.getLsbD_of_ge n j (by omega), BitVec.getLsbD_of_ge l j (by omega)])
          have h2' : n ≤ l := by rw [BitVec.le_def]; rw [BitVec.lt_def] at h2; omega
          obtain ⟨hn, hnb⟩ := vb_half_in hh hp h1 h2'
          have := H f n hf hf6 hn hnb
          rw [nb k hk, if_pos rfl, hfk] at this
          exact absurd this (by decide)
        · have nb : ∀ j, j < 64 → (l &&& ~~~BitVec.twoPow 64 k).getLsbD j = if j = k then false else l.getLsbD j := by
            intro j hj
            rw [BitVec.getLsbD_and, BitVec.getLsbD_not, bb j hj]
            by_cases e : j = k <;> simp [e, hj]
          generalize l &&& ~~~BitVec.twoPow 64 k = n at nb
          have hp : vb_pat v.mask v.ones n := vb_pat_of (fun j hj => by
            rw [vb_pat_bit hl.1 j, nb j hj]
            by_cases e : j = k
            · rw [if_pos e, e, hm, Bool.and_false, Bool.and_false]
            · rw [if_neg e])
          have h1 : n ≤ l := vb_le_of_sub (fun j hj => by
            rw [nb j (BitVec.lt_of_getLsbD hj)] at hj
            by_cases e : j = k
            · rw [if_pos e] at hj; exact absurd hj (by decide)
            · rw [if_neg e] at hj; exact hj)
          have h2 : f < n := vb_lt_of_bits t t1 (by rw [nb t ht, if_neg (by omega)]; exact t2) (fun j hj => by
            by_cases hj' : j < 64
            · rw [nb j hj', if_neg (by omega)]; exact t3 j hj
            · rw [BitVec.getLsbD_of_ge n j (by omega), BitVec.getLsbD_of_ge f j (by omega)])
          have h2' : f ≤ n := by rw [BitVec.le_def]; rw [BitVec.lt_def] at h2; omega
          obtain ⟨hn, hnb⟩ := vb_half_in hh hp h2' h1
          have := H f n hf hf6 hn hnb
          rw [nb k hk, if_pos rfl, hfk] at this
          exact absurd this (by decide)
    · exact Or.inl rfl

/-- the closest ones, put together of two halves -/
theorem vb_hull_of {v : vb_S} {p m : Bool} {pf pl mf ml mask : BitVec 64} (hp : if p = true then vb_half v false pf pl else ∀ n, vb_mem v n → n.msb = true) (hm : if m = true then vb_half v true mf ml else ∀ n, vb_mem v n → n.msb = false) (h : p = true ∨ m = true) (hk : ∀ k, k < 64 → (mask.getLsbD k = true ↔ ∀ n n', vb_mem v n → vb_mem v n' → n.getLsbD k = n'.getLsbD k)) :
    vb_hull v ⟨mask, (if p = true then pf else mf) &&& mask, if p = true then pf else mf, if m = true then ml else pl, if m = true then mf else pf, if p = true then pl else ml⟩ := by
  cases p <;> cases m
  · exact absurd h (by decide)
  · simp only [Bool.false_eq_true, if_false, if_true] at hp hm ⊢
    obtain ⟨⟨f1, f2⟩, ⟨l1, l2⟩, hA⟩ := hm
    refine ⟨f1, l1, f1, l1, fun n hn => ?_, hk, rfl⟩
    obtain ⟨h1, h2⟩ := hA n hn (hp n hn)
    have h3 := hp n hn
    refine ⟨h1, h2, ?_⟩
    rw [BitVec.le_def] at h1 h2
    rcases vb_val n with ⟨c1, _⟩ | ⟨c1, c2, c3, c4⟩
    · rw [c1] at h3; exact absurd h3 (by decide)
    rcases vb_val mf with ⟨a1, _⟩ | ⟨a1, a2, a3, a4⟩
    · rw [a1] at f2; exact absurd f2 (by decide)
    rcases vb_val ml with ⟨b1, _⟩ | ⟨b1, b2, b3, b4⟩
    · rw [b1] at l2; exact absurd l2 (by decide)
    show mf.toInt ≤ n.toInt ∧ n.toInt ≤ ml.toInt
    constructor <;> omega
  · simp only [Bool.false_eq_true, if_false, if_true] at hp hm ⊢
    obtain ⟨⟨f1, f2⟩, ⟨l1, l2⟩, hA⟩ := hp
    refine ⟨f1, l1, f1, l1, fun n hn => ?_, hk, rfl⟩
    obtain ⟨h1, h2⟩ := hA n hn (hm n hn)
    have h3 := hm n hn
    refine ⟨h1, h2, ?_⟩
    rw [BitVec.le_def] at h1 h2
    rcases vb_val n with ⟨c1, c2, c3⟩ | ⟨c1, _⟩
    case inr => rw [c1] at h3; exact absurd h3 (by decide)
    rcases vb_val pf with ⟨a1, a2, a3⟩ | ⟨a1, _⟩
    case inr => rw [a1] at f2; exact absurd f2 (by decide)
    rcases vb_val pl with ⟨b1, b2, b3⟩ | ⟨b1, _⟩
    case inr => rw [b1] at l2; exact absurd l2 (by decide)
    show pf.toInt ≤ n.toInt ∧ n.toInt ≤ pl.toInt
    constructor <;> omega
  · simp only [if_true] at hp hm ⊢
    obtain ⟨⟨f1, f2⟩, ⟨l1, l2⟩, hA⟩ := hp
    obtain ⟨⟨f3, f4⟩, ⟨l3, l4⟩, hB⟩ := hm
    refine ⟨f1, l3, f3, l1, fun n hn => ?_, hk, rfl⟩
    show pf ≤ n ∧ n ≤ ml ∧ mf.toInt ≤ n.toInt ∧ n.toInt ≤ pl.toInt
    simp only [BitVec.le_def]
    rcases vb_val pf with ⟨a1, a2, a3⟩ | ⟨a1, _⟩
    case inr => rw [a1] at f2; exact absurd f2 (by decide)
    rcases vb_val pl with ⟨b1, b2, b3⟩ | ⟨b1, _⟩
    case inr => rw [b1] at l2; exact absurd l2 (by decide)
    rcases vb_val mf with ⟨d1, _⟩ | ⟨d1, d2, d3, d4⟩
    · rw [d1] at f4; exact absurd f4 (by decide)
    rcases vb_val ml with ⟨e1, _⟩ | ⟨e1, e2, e3, e4⟩
    · rw [e1] at l4; exact absurd l4 (by decide)
    rcases vb_val n with ⟨c1, c2, c3⟩ | ⟨c1, c2, c3, c4⟩
    · obtain ⟨h1, h2⟩ := hA n hn c1
      rw [BitVec.le_def] at h1 h2; omega
    · obtain ⟨h1, h2⟩ := hB n hn c1
      rw [BitVec.le_def] at h1 h2; omega

/-! tighten, as one side does it: the two halves apart -/
def vb_smax (a b : BitVec 64) : BitVec 64 := if a.slt b = true then b else a
def vb_smin (a b : BitVec 64) : BitVec 64 := if b.slt a = true then b else a
theorem vb_slt {a b : BitVec 64} : a.slt b = true ↔ a.toInt < b.toInt := BitVec.slt_iff_toInt_lt
theorem vb_sle {a b : BitVec 64} : a.sle b = true ↔ a.toInt ≤ b.toInt := BitVec.sle_iff_toInt_le
theorem vb_smax_int (a b : BitVec 64) : (vb_smax a b).toInt = if a.toInt < b.toInt then b.toInt else a.toInt := by
  unfold vb_smax
  by_cases h : a.slt b = true
  · rw [if_pos h, if_pos (vb_slt.mp h)]
  · rw [if_neg h, if_neg (fun h' => h (vb_slt.mpr h'))]
theorem vb_smin_int (a b : BitVec 64) : (vb_smin a b).toInt = if b.toInt < a.toInt then b.toInt else a.toInt := by
  unfold vb_smin
  by_cases h : b.slt a = true
  · rw [if_pos h, if_pos (vb_slt.mp h)]
  · rw [if_neg h, if_neg (fun h' => h (vb_slt.mpr h'))]

abbrev vb_top_ : BitVec 64 := 9223372036854775808#64
abbrev vb_most : BitVec 64 := 9223372036854775807#64
abbrev vb_m1 : BitVec 64 := 18446744073709551615#64

def vb_from1 (v : vb_S) : BitVec 64 := vb_smax (vb_smax v.low v.least) 0
def vb_to1 (v : vb_S) : BitVec 64 := vb_smin (if v.high.slt 0 = true then vb_most else v.high) v.greatest
def vb_p0 (v : vb_S) : Bool := (0 : BitVec 64).sle v.low && (0 : BitVec 64).sle v.ones && (vb_from1 v).sle (vb_to1 v)
def vb_pf (v : vb_S) : BitVec 64 := if vb_p0 v = true then vb_first (v.mask ||| vb_top_) v.ones (vb_from1 v) else 0
def vb_pl (v : vb_S) : BitVec 64 := if vb_p0 v = true then ~~~vb_first (v.mask ||| vb_top_) (~~~v.ones &&& (v.mask ||| vb_top_)) (~~~vb_to1 v) else 0
def vb_p (v : vb_S) : Bool := vb_p0 v && (vb_from1 v).sle (vb_pf v) && (vb_pl v).sle (vb_to1 v) && (vb_pf v).sle (vb_pl v)

theorem vb_top_bit (k : Nat) : (vb_top_).getLsbD k = decide (k = 63) := by
  have : vb_top_ = BitVec.twoPow 64 63 := by decide
  rw [this, BitVec.getLsbD_twoPow]
  by_cases e : k = 63
  · subst e; rfl
  · have : ¬ 63 = k := by omega
    simp [e, this]
theorem vb_msb_bit (x : BitVec 64) : x.msb = x.getLsbD 63 := by rw [BitVec.msb_eq_getLsbD_last]

/-- with the sign as one of the bits -/
theorem vb_pat_sign {m o n : BitVec 64} {b : Bool} {o2 : BitVec 64} (ho : o &&& m = o) (hb : b = o2.getLsbD 63) (h2 : ∀ k, k < 63 → o2.getLsbD k = o.getLsbD k) (hc : m.getLsbD 63 = true → o.getLsbD 63 = b) :
    vb_pat (m ||| vb_top_) o2 n ↔ vb_pat m o n ∧ n.msb = b := by
  constructor
  · intro h
    have h63 := vb_pat_bit h 63
    rw [BitVec.getLsbD_or, vb_top_bit] at h63
    simp only [decide_true, Bool.or_true, Bool.and_true] at h63
    refine ⟨vb_pat_of (fun k hk => ?_), by rw [vb_msb_bit, ← h63, hb]⟩
    by_cases e : k = 63
    · subst e
      have h3 := vb_and_bit ho 63
      cases hm : m.getLsbD 63
      · rw [hm, Bool.and_false] at h3; rw [h3, Bool.and_false]
      · rw [hc hm, hb, h63, Bool.and_true]
    · have h4 := vb_pat_bit h k
      rw [BitVec.getLsbD_or, vb_top_bit, h2 k (by omega)] at h4
      simpa [e] using h4
  · rintro ⟨h, h1⟩
    refine vb_pat_of (fun k hk => ?_)
    rw [BitVec.getLsbD_or, vb_top_bit]
    by_cases e : k = 63
    · subst e
      rw [← hb, ← h1, vb_msb_bit]; simp
    · rw [h2 k (by omega), vb_pat_bit h k]; simp [e]

theorem vb_and_top {m o : BitVec 64} (h : ∀ k, k < 64 → o.getLsbD k = true → m.getLsbD k = true ∨ k = 63) : o &&& (m ||| vb_top_) = o := by
  refine BitVec.eq_of_getLsbD_eq (fun k hk => ?_)
  rw [BitVec.getLsbD_and, BitVec.getLsbD_or, vb_top_bit]
  cases e : o.getLsbD k
  · rfl
  · rcases h k hk e with h' | h'
    · rw [h']; rfl
    · rw [h']; simp

theorem vb_mem_int {v : vb_S} {n : BitVec 64} (h : vb_mem v n) : v.low.toNat ≤ n.toNat ∧ n.toNat ≤ v.high.toNat ∧ v.least.toInt ≤ n.toInt ∧ n.toInt ≤ v.greatest.toInt := ⟨by have := h.2.1; rwa [BitVec.le_def] at this, by have := h.2.2.1; rwa [BitVec.le_def] at this, h.2.2.2.1, h.2.2.2.2⟩

theorem vb_p0_iff (v : vb_S) : vb_p0 v = true ↔ (0 : Int) ≤ v.low.toInt ∧ (0 : Int) ≤ v.ones.toInt ∧ (vb_from1 v).toInt ≤ (vb_to1 v).toInt := by
  unfold vb_p0
  rw [Bool.and_eq_true, Bool.and_eq_true, vb_sle, vb_sle, vb_sle, show (0 : BitVec 64).toInt = 0 from rfl, and_assoc]

theorem vb_from1_int (v : vb_S) : (vb_from1 v).toInt = max (max v.low.toInt v.least.toInt) 0 := by
  unfold vb_from1
  rw [vb_smax_int, vb_smax_int, show (0 : BitVec 64).toInt = 0 from rfl]
  omega
theorem vb_to1_int (v : vb_S) : (vb_to1 v).toInt = min (if v.high.toInt < 0 then 9223372036854775807 else v.high.toInt) v.greatest.toInt := by
  unfold vb_to1
  rw [vb_smin_int]
  by_cases h : v.high.slt 0 = true
  · have h' := vb_slt.mp h
    rw [show (0 : BitVec 64).toInt = 0 from rfl] at h'
    rw [if_pos h, if_pos h', show vb_most.toInt = 9223372036854775807 from by decide]; omega
  · have h' : ¬ v.high.toInt < 0 := fun h2 => h (vb_slt.mpr (by rw [show (0 : BitVec 64).toInt = 0 from rfl]; exact h2))
    rw [if_neg h, if_neg h']; omega

theorem vb_pat_pos {v : vb_S} (ho : v.ones &&& v.mask = v.ones) (h0 : v.ones.msb = false) (n : BitVec 64) : vb_pat (v.mask ||| vb_top_) v.ones n ↔ vb_pat v.mask v.ones n ∧ n.msb = false :=
  vb_pat_sign ho (by rw [← vb_msb_bit, h0]) (fun _ _ => rfl) (fun _ => by rw [← vb_msb_bit, h0])

theorem vb_plus_ok {v : vb_S} (ho : v.ones &&& v.mask = v.ones) : if vb_p v = true then vb_half v false (vb_pf v) (vb_pl v) else ∀ n, vb_mem v n → n.msb = true := by
  by_cases h0 : vb_p0 v = true
  · have h00 := (vb_p0_iff v).mp h0
    obtain ⟨i1, i2, i3⟩ := h00
    have g1 := vb_from1_int v
    have g2 := vb_to1_int v
    have om : v.ones.msb = false := by
      rcases vb_val v.ones with ⟨a, _⟩ | ⟨a, b, c, d⟩
      · exact a
      · omega
    have P := vb_pat_pos ho om
    have hoM : v.ones &&& (v.mask ||| vb_top_) = v.ones := vb_and_top (fun k hk e => Or.inl (by
      have := vb_and_bit ho k; rw [e] at this; simpa using this.symm))
    have F : vb_isFirst (v.mask ||| vb_top_) v.ones (vb_from1 v) (vb_pf v) := by unfold vb_pf; rw [if_pos h0]; exact vb_first_ok hoM
    have L : vb_isLast (v.mask ||| vb_top_) v.ones (vb_to1 v) (vb_pl v) := by
      unfold vb_pl; rw [if_pos h0]
      refine vb_last_of hoM (vb_first_ok ?_)
      rw [BitVec.and_assoc, BitVec.and_self]
    obtain ⟨F1, F2⟩ := F
    obtain ⟨L1, L2⟩ := L
    rw [P] at F1 L1
    by_cases hp : vb_p v = true
    · rw [if_pos hp]
      unfold vb_p at hp
      rw [Bool.and_eq_true, Bool.and_eq_true, Bool.and_eq_true, vb_sle, vb_sle, vb_sle] at hp
      obtain ⟨⟨⟨_, c1⟩, c2⟩, c3⟩ := hp
      have mem : ∀ n, vb_pat v.mask v.ones n → n.msb = false → (vb_from1 v).toInt ≤ n.toInt → n.toInt ≤ (vb_to1 v).toInt → vb_mem v n := by
        intro n hn hb h1 h2
        rcases vb_val n with ⟨a1, a2, a3⟩ | ⟨a1, _⟩
        case inr => rw [a1] at hb; exact absurd hb (by decide)
        refine ⟨hn, ?_, ?_, by omega, by omega⟩
        · rw [BitVec.le_def]; rcases vb_val v.low with ⟨b1, b2, b3⟩ | ⟨b1, b2, b3, b4⟩ <;> omega
        · rw [BitVec.le_def]; rcases vb_val v.high with ⟨b1, b2, b3⟩ | ⟨b1, b2, b3, b4⟩ <;> omega
      refine ⟨⟨mem _ F1.1 F1.2 c1 (by omega), F1.2⟩, ⟨mem _ L1.1 L1.2 (by omega) c2, L1.2⟩, fun n hn hb => ?_⟩
      have hn' := vb_mem_int hn
      have hnP : vb_pat (v.mask ||| vb_top_) v.ones n := (P n).mpr ⟨hn.1, hb⟩
      refine ⟨(F2 n hnP ?_).2, (L2 n hnP ?_).2⟩
      · rw [BitVec.le_def]
        rcases vb_val n with ⟨a1, a2, a3⟩ | ⟨a1, _⟩
        case inr => rw [a1] at hb; exact absurd hb (by decide)
        rcases vb_val (vb_from1 v) with ⟨b1, b2, b3⟩ | ⟨b1, b2, b3, b4⟩ <;> rcases vb_val v.low with ⟨d1, d2, d3⟩ | ⟨d1, d2, d3, d4⟩ <;> omega
      · rw [BitVec.le_def]
        rcases vb_val n with ⟨a1, a2, a3⟩ | ⟨a1, _⟩
        case inr => rw [a1] at hb; exact absurd hb (by decide)
        rcases vb_val (vb_to1 v) with ⟨b1, b2, b3⟩ | ⟨b1, b2, b3, b4⟩ <;> rcases vb_val v.high with ⟨d1, d2, d3⟩ | ⟨d1, d2, d3, d4⟩ <;> omega
    · rw [if_neg hp]
      intro n hn
      cases hb : n.msb
      · exfalso
        apply hp
        have hn' := vb_mem_int hn
        have hnP : vb_pat (v.mask ||| vb_top_) v.ones n := (P n).mpr ⟨hn.1, hb⟩
        rcases vb_val n with ⟨a1, a2, a3⟩ | ⟨a1, _⟩
        case inr => rw [a1] at hb; exact absurd hb (by decide)
        rcases vb_val (vb_pf v) with ⟨d1, d2, d3⟩ | ⟨d1, _⟩
        case inr => rw [d1] at F1; exact absurd F1.2 (by decide)
        rcases vb_val (vb_pl v) with ⟨e1, e2, e3⟩ | ⟨e1, _⟩
        case inr => rw [e1] at L1; exact absurd L1.2 (by decide)
        have k1 : vb_from1 v ≤ n := by
          rw [BitVec.le_def]
          rcases vb_val (vb_from1 v) with ⟨b1, b2, b3⟩ | ⟨b1, b2, b3, b4⟩ <;> rcases vb_val v.low with ⟨d1, d2, d3⟩ | ⟨d1, d2, d3, d4⟩ <;> omega
        have k2 : n ≤ vb_to1 v := by
          rw [BitVec.le_def]
          rcases vb_val (vb_to1 v) with ⟨b1, b2, b3⟩ | ⟨b1, b2, b3, b4⟩ <;> rcases vb_val v.high with ⟨d1, d2, d3⟩ | ⟨d1, d2, d3, d4⟩ <;> omega
        have k3 := F2 n hnP k1
        have k4 := L2 n hnP k2
        simp only [BitVec.le_def] at k1 k2 k3 k4
        unfold vb_p
        rw [Bool.and_eq_true, Bool.and_eq_true, Bool.and_eq_true, vb_sle, vb_sle, vb_sle]
        rcases vb_val (vb_from1 v) with ⟨b1, b2, b3⟩ | ⟨b1, b2, b3, b4⟩ <;> rcases vb_val (vb_to1 v) with ⟨c1, c2, c3⟩ | ⟨c1, c2, c3, c4⟩ <;> exact ⟨⟨⟨h0, by omega⟩, by omega⟩, by omega⟩
      · rfl
  · have hp : ¬ vb_p v = true := fun h => h0 (by unfold vb_p at h; simp only [Bool.and_eq_true] at h; exact h.1.1.1)
    rw [if_neg hp]
    intro n hn
    cases hb : n.msb
    · exfalso
      apply h0
      have hn' := vb_mem_int hn
      rw [vb_p0_iff, vb_from1_int, vb_to1_int]
      rcases vb_val n with ⟨a1, a2, a3⟩ | ⟨a1, _⟩
      case inr => rw [a1] at hb; exact absurd hb (by decide)
      have om : v.ones.msb = false := by
        have := vb_pat_bit hn.1 63
        rw [← vb_msb_bit, ← vb_msb_bit, hb] at this; simpa using this
      rcases vb_val v.ones with ⟨o1, o2, o3⟩ | ⟨o1, _⟩
      case inr => rw [o1] at om; exact absurd om (by decide)
      rcases vb_val v.low with ⟨d1, d2, d3⟩ | ⟨d1, d2, d3, d4⟩ <;> rcases vb_val v.high with ⟨e1, e2, e3⟩ | ⟨e1, e2, e3, e4⟩ <;> omega
    · rfl

def vb_from2 (v : vb_S) : BitVec 64 := vb_smax (if v.low.slt 0 = true then v.low else vb_top_) v.least
def vb_to2 (v : vb_S) : BitVec 64 := vb_smin (vb_smin v.high v.greatest) vb_m1
def vb_q0 (v : vb_S) : Bool := v.high.slt 0 && ((0 : BitVec 64).sle v.mask || v.ones.slt 0) && (vb_from2 v).sle (vb_to2 v)
def vb_mf (v : vb_S) : BitVec 64 := if vb_q0 v = true then vb_first (v.mask ||| vb_top_) (v.ones ||| vb_top_) (vb_from2 v) else 0
def vb_ml (v : vb_S) : BitVec 64 := if vb_q0 v = true then ~~~vb_first (v.mask ||| vb_top_) (~~~v.ones &&& v.mask &&& ~~~vb_top_) (~~~vb_to2 v) else 0
def vb_q (v : vb_S) : Bool := vb_q0 v && (vb_from2 v).sle (vb_mf v) && (vb_ml v).sle (vb_to2 v) && (vb_mf v).sle (vb_ml v)

theorem vb_q0_iff (v : vb_S) : vb_q0 v = true ↔ v.high.toInt < 0 ∧ ((0 : Int) ≤ v.mask.toInt ∨ v.ones.toInt < 0) ∧ (vb_from2 v).toInt ≤ (vb_to2 v).toInt := by
  unfold vb_q0
  rw [Bool.and_eq_true, Bool.and_eq_true, Bool.or_eq_true, vb_sle, vb_sle, vb_slt, vb_slt, show (0 : BitVec 64).toInt = 0 from rfl, and_assoc]
theorem vb_from2_int (v : vb_S) : (vb_from2 v).toInt = max (if v.low.toInt < 0 then v.low.toInt else -9223372036854775808) v.least.toInt := by
  unfold vb_from2
  rw [vb_smax_int]
  by_cases h : v.low.slt 0 = true
  · have h' := vb_slt.mp h
    rw [show (0 : BitVec 64).toInt = 0 from rfl] at h'
    rw [if_pos h, if_pos h']; omega
  · have h' : ¬ v.low.toInt < 0 := fun h2 => h (vb_slt.mpr (by rw [show (0 : BitVec 64).toInt = 0 from rfl]; exact h2))
    rw [if_neg h, if_neg h', show vb_top_.toInt = -9223372036854775808 from by decide]; omega
theorem vb_to2_int (v : vb_S) : (vb_to2 v).toInt = min (min v.high.toInt v.greatest.toInt) (-1) := by
  unfold vb_to2
  rw [vb_smin_int, vb_smin_int, show vb_m1.toInt = -1 from by decide]
  omega

theorem vb_minus_ok {v : vb_S} (ho : v.ones &&& v.mask = v.ones) : if vb_q v = true then vb_half v true (vb_mf v) (vb_ml v) else ∀ n, vb_mem v n → n.msb = false := by
  by_cases h0 : vb_q0 v = true
  · have h00 := (vb_q0_iff v).mp h0
    obtain ⟨i1, i2, i3⟩ := h00
    have g1 := vb_from2_int v
    have g2 := vb_to2_int v
    have hc : v.mask.getLsbD 63 = true → v.ones.getLsbD 63 = true := by
      intro h
      rw [← vb_msb_bit] at h ⊢
      rcases vb_val v.mask with ⟨a, _⟩ | ⟨a, b, c, d⟩
      · rw [a] at h; exact absurd h (by decide)
      · rcases vb_val v.ones with ⟨a', b', c'⟩ | ⟨a', b', c', d'⟩
        · omega
        · exact a'
    have ob : ∀ k, (v.ones ||| vb_top_).getLsbD k = (v.ones.getLsbD k || decide (k = 63)) := fun k => by rw [BitVec.getLsbD_or, vb_top_bit]
    have P : ∀ n, vb_pat (v.mask ||| vb_top_) (v.ones ||| vb_top_) n ↔ vb_pat v.mask v.ones n ∧ n.msb = true := fun n =>
      vb_pat_sign ho (by rw [ob]; simp) (fun k hk => by rw [ob]; have : ¬ k = 63 := by omega
                                                        simp [this]) hc
    have hoM : (v.ones ||| vb_top_) &&& (v.mask ||| vb_top_) = v.ones ||| vb_top_ := vb_and_top (fun k hk e => by
      rw [ob, Bool.or_eq_true, decide_eq_true_eq] at e
      rcases e with e | e
      · left; have := vb_and_bit ho k; rw [e] at this; simpa using this.symm
      · exact Or.inr e)
    have F : vb_isFirst (v.mask ||| vb_top_) (v.ones ||| vb_top_) (vb_from2 v) (vb_mf v) := by unfold vb_mf; rw [if_pos h0]; exact vb_first_ok hoM
    have L : vb_isLast (v.mask ||| vb_top_) (v.ones ||| vb_top_) (vb_to2 v) (vb_ml v) := by
      unfold vb_ml; rw [if_pos h0]
      have e : ~~~v.ones &&& v.mask &&& ~~~vb_top_ = ~~~(v.ones ||| vb_top_) &&& (v.mask ||| vb_top_) := by
        refine BitVec.eq_of_getLsbD_eq (fun k hk => ?_)
        simp only [BitVec.getLsbD_and, BitVec.getLsbD_not, BitVec.getLsbD_or, vb_top_bit]
        by_cases e : k = 63
        · subst e; simp
        · simp [e, hk]
      rw [e]
      refine vb_last_of hoM (vb_first_ok ?_)
      rw [BitVec.and_assoc, BitVec.and_self]
    obtain ⟨F1, F2⟩ := F
    obtain ⟨L1, L2⟩ := L
    rw [P] at F1 L1
    by_cases hp : vb_q v = true
    · rw [if_pos hp]
      unfold vb_q at hp
      rw [Bool.and_eq_true, Bool.and_eq_true, Bool.and_eq_true, vb_sle, vb_sle, vb_sle] at hp
      obtain ⟨⟨⟨_, c1⟩, c2⟩, c3⟩ := hp
      have mem : ∀ n, vb_pat v.mask v.ones n → n.msb = true → (vb_from2 v).toInt ≤ n.toInt → n.toInt ≤ (vb_to2 v).toInt → vb_mem v n := by
        intro n hn hb h1 h2
        rcases vb_val n with ⟨a1, _⟩ | ⟨a1, a2, a3, a4⟩
        · rw [a1] at hb; exact absurd hb (by decide)
        refine ⟨hn, ?_, ?_, by omega, by omega⟩
        · rw [BitVec.le_def]; rcases vb_val v.low with ⟨b1, b2, b3⟩ | ⟨b1, b2, b3, b4⟩ <;> omega
        · rw [BitVec.le_def]; rcases vb_val v.high with ⟨b1, b2, b3⟩ | ⟨b1, b2, b3, b4⟩ <;> omega
      refine ⟨⟨mem _ F1.1 F1.2 c1 (by omega), F1.2⟩, ⟨mem _ L1.1 L1.2 (by omega) c2, L1.2⟩, fun n hn hb => ?_⟩
      have hn' := vb_mem_int hn
      have hnP : vb_pat (v.mask ||| vb_top_) (v.ones ||| vb_top_) n := (P n).mpr ⟨hn.1, hb⟩
      refine ⟨(F2 n hnP ?_).2, (L2 n hnP ?_).2⟩
      · rw [BitVec.le_def]
        rcases vb_val n with ⟨a1, _⟩ | ⟨a1, a2, a3, a4⟩
        · rw [a1] at hb; exact absurd hb (by decide)
        rcases vb_val (vb_from2 v) with ⟨b1, b2, b3⟩ | ⟨b1, b2, b3, b4⟩ <;> rcases vb_val v.low with ⟨d1, d2, d3⟩ | ⟨d1, d2, d3, d4⟩ <;> omega
      · rw [BitVec.le_def]
        rcases vb_val n with ⟨a1, _⟩ | ⟨a1, a2, a3, a4⟩
        · rw [a1] at hb; exact absurd hb (by decide)
        rcases vb_val (vb_to2 v) with ⟨b1, b2, b3⟩ | ⟨b1, b2, b3, b4⟩ <;> rcases vb_val v.high with ⟨d1, d2, d3⟩ | ⟨d1, d2, d3, d4⟩ <;> omega
    · rw [if_neg hp]
      intro n hn
      cases hb : n.msb
      · rfl
      · exfalso
        apply hp
        have hn' := vb_mem_int hn
        have hnP : vb_pat (v.mask ||| vb_top_) (v.ones ||| vb_top_) n := (P n).mpr ⟨hn.1, hb⟩
        rcases vb_val n with ⟨a1, _⟩ | ⟨a1, a2, a3, a4⟩
        · rw [a1] at hb; exact absurd hb (by decide)
        rcases vb_val (vb_mf v) with ⟨d1, _⟩ | ⟨d1, d2, d3, d4⟩
        · rw [d1] at F1; exact absurd F1.2 (by decide)
        rcases vb_val (vb_ml v) with ⟨e1, _⟩ | ⟨e1, e2, e3, e4⟩
        · rw [e1] at L1; exact absurd L1.2 (by decide)
        have k1 : vb_from2 v ≤ n := by
          rw [BitVec.le_def]
          rcases vb_val (vb_from2 v) with ⟨b1, b2, b3⟩ | ⟨b1, b2, b3, b4⟩ <;> rcases vb_val v.low with ⟨d1, d2, d3⟩ | ⟨d1, d2, d3, d4⟩ <;> omega
        have k2 : n ≤ vb_to2 v := by
          rw [BitVec.le_def]
          rcases vb_val (vb_to2 v) with ⟨b1, b2, b3⟩ | ⟨b1, b2, b3, b4⟩ <;> rcases vb_val v.high with ⟨d1, d2, d3⟩ | ⟨d1, d2, d3, d4⟩ <;> omega
        have k3 := F2 n hnP k1
        have k4 := L2 n hnP k2
        simp only [BitVec.le_def] at k1 k2 k3 k4
        unfold vb_q
        rw [Bool.and_eq_true, Bool.and_eq_true, Bool.and_eq_true, vb_sle, vb_sle, vb_sle]
        rcases vb_val (vb_from2 v) with ⟨b1, b2, b3⟩ | ⟨b1, b2, b3, b4⟩ <;> rcases vb_val (vb_to2 v) with ⟨c1, c2, c3⟩ | ⟨c1, c2, c3, c4⟩ <;> exact ⟨⟨⟨h0, by omega⟩, by omega⟩, by omega⟩
  · have hp : ¬ vb_q v = true := fun h => h0 (by unfold vb_q at h; simp only [Bool.and_eq_true] at h; exact h.1.1.1)
    rw [if_neg hp]
    intro n hn
    cases hb : n.msb
    · rfl
    · exfalso
      apply h0
      have hn' := vb_mem_int hn
      rw [vb_q0_iff, vb_from2_int, vb_to2_int]
      rcases vb_val n with ⟨a1, _⟩ | ⟨a1, a2, a3, a4⟩
      · rw [a1] at hb; exact absurd hb (by decide)
      have om : (0 : Int) ≤ v.mask.toInt ∨ v.ones.toInt < 0 := by
        have := vb_pat_bit hn.1 63
        rw [← vb_msb_bit, ← vb_msb_bit, ← vb_msb_bit, hb, Bool.true_and] at this
        rcases vb_val v.mask with ⟨o1, o2, o3⟩ | ⟨o1, o2, o3, o4⟩
        · left; omega
        · right
          rw [o1] at this
          rcases vb_val v.ones with ⟨p1, _⟩ | ⟨p1, p2, p3, p4⟩
          · rw [p1] at this; exact absurd this (by decide)
          · omega
      rcases vb_val v.low with ⟨d1, d2, d3⟩ | ⟨d1, d2, d3, d4⟩ <;> rcases vb_val v.high with ⟨e1, e2, e3⟩ | ⟨e1, e2, e3, e4⟩ <;> exact ⟨by omega, om, by omega⟩

def vb_cmask (v : vb_S) : BitVec 64 :=
  if vb_p v = true ∧ vb_q v = true then (v.mask ||| vb_same (vb_pf v) (vb_pl v)) &&& (v.mask ||| vb_same (vb_mf v) (vb_ml v)) &&& ~~~(vb_pf v ^^^ vb_mf v)
  else if vb_p v = true then v.mask ||| vb_same (vb_pf v) (vb_pl v) else v.mask ||| vb_same (vb_mf v) (vb_ml v)
/-- the one side's tighten -/
def vb_ctight (v : vb_S) : vb_S :=
  ⟨vb_cmask v, (if vb_p v = true then vb_pf v else vb_mf v) &&& vb_cmask v, if vb_p v = true then vb_pf v else vb_mf v, if vb_q v = true then vb_ml v else vb_pl v, if vb_q v = true then vb_mf v else vb_pf v, if vb_p v = true then vb_pl v else vb_ml v⟩
def vb_can (v : vb_S) : Bool := vb_p v || vb_q v

theorem vb_can_iff {v : vb_S} (ho : v.ones &&& v.mask = v.ones) : vb_can v = true ↔ ∃ n, vb_mem v n := by
  have hp := vb_plus_ok ho
  have hm := vb_minus_ok ho
  unfold vb_can
  rw [Bool.or_eq_true]
  constructor
  · rintro (h | h)
    · rw [if_pos h] at hp; exact ⟨_, hp.1.1⟩
    · rw [if_pos h] at hm; exact ⟨_, hm.1.1⟩
  · rintro ⟨n, hn⟩
    cases h1 : vb_p v
    · cases h2 : vb_q v
      · rw [h1, if_neg (by decide)] at hp
        rw [h2, if_neg (by decide)] at hm
        have := hp n hn; rw [hm n hn] at this; exact absurd this (by decide)
      · exact Or.inr rfl
    · exact Or.inl rfl

theorem vb_ctight_ok {v : vb_S} (ho : v.ones &&& v.mask = v.ones) (h : vb_can v = true) : vb_hull v (vb_ctight v) := by
  have hp := vb_plus_ok ho
  have hm := vb_minus_ok ho
  unfold vb_can at h
  rw [Bool.or_eq_true] at h
  refine vb_hull_of hp hm h (fun k hk => ?_)
  unfold vb_cmask
  cases h1 : vb_p v <;> cases h2 : vb_q v
  · rw [h1, h2] at h; exact absurd h (by decide)
  · rw [h1, if_neg (by decide)] at hp
    rw [h2, if_pos rfl] at hm
    simp only [Bool.false_eq_true, false_and, if_false]
    rw [vb_half_mask hm hk]
    exact ⟨fun H n n' hn hn' => H n n' hn (hp n hn) hn' (hp n' hn'), fun H n n' hn _ hn' _ => H n n' hn hn'⟩
  · rw [h1, if_pos rfl] at hp
    rw [h2, if_neg (by decide)] at hm
    simp only [Bool.false_eq_true, and_false, if_false, if_true]
    rw [vb_half_mask hp hk]
    exact ⟨fun H n n' hn hn' => H n n' hn (hm n hn) hn' (hm n' hn'), fun H n n' hn _ hn' _ => H n n' hn hn'⟩
  · rw [h1, if_pos rfl] at hp
    rw [h2, if_pos rfl] at hm
    simp only [and_self, if_true]
    rw [BitVec.getLsbD_and, BitVec.getLsbD_and, Bool.and_eq_true, Bool.and_eq_true, vb_half_mask hp hk, vb_half_mask hm hk, BitVec.getLsbD_not, BitVec.getLsbD_xor]
    have e : (decide (k < 64) && !((vb_pf v).getLsbD k ^^ (vb_mf v).getLsbD k)) = true ↔ (vb_pf v).getLsbD k = (vb_mf v).getLsbD k := by
      cases (vb_pf v).getLsbD k <;> cases (vb_mf v).getLsbD k <;> simp [hk]
    rw [e]
    constructor
    · rintro ⟨⟨h3, h4⟩, h5⟩ n n' hn hn'
      have a : ∀ n, vb_mem v n → n.getLsbD k = (vb_pf v).getLsbD k := by
        intro n hn
        cases hb : n.msb
        · exact h3 n _ hn hb hp.1.1 hp.1.2
        · rw [h4 n _ hn hb hm.1.1 hm.1.2, h5]
      rw [a n hn, a n' hn']
    · intro H
      exact ⟨⟨fun n n' hn _ hn' _ => H n n' hn hn', fun n n' hn _ hn' _ => H n n' hn hn'⟩, H _ _ hp.1.1 hm.1.1⟩

/-! tighten, as the other side does it -/
/-- a row of sayings: bits, unknown ones, and the bounds; of a row that isn't empty -/
abbrev vb_R : Type := BitVec 64 × BitVec 64 × BitVec 64 × BitVec 64 × BitVec 64 × BitVec 64
abbrev vb_R.bits (v : vb_R) : BitVec 64 := v.1
abbrev vb_R.opn (v : vb_R) : BitVec 64 := v.2.1
abbrev vb_R.low (v : vb_R) : BitVec 64 := v.2.2.1
abbrev vb_R.high (v : vb_R) : BitVec 64 := v.2.2.2.1
abbrev vb_R.least (v : vb_R) : BitVec 64 := v.2.2.2.2.1
abbrev vb_R.greatest (v : vb_R) : BitVec 64 := v.2.2.2.2.2
theorem vb_R_ext {a b : vb_R} (h1 : a.bits = b.bits) (h2 : a.opn = b.opn) (h3 : a.low = b.low) (h4 : a.high = b.high) (h5 : a.least = b.least) (h6 : a.greatest = b.greatest) : a = b :=
  Prod.ext h1 (Prod.ext h2 (Prod.ext h3 (Prod.ext h4 (Prod.ext h5 h6))))
def vb_toS (r : vb_R) : vb_S := ⟨~~~r.opn, r.bits, r.low, r.high, r.least, r.greatest⟩
def vb_toR (v : vb_S) : vb_R := ⟨v.ones, ~~~v.mask, v.low, v.high, v.least, v.greatest⟩
theorem vb_toS_toR (v : vb_S) : vb_toS (vb_toR v) = v := vb_S_ext BitVec.not_not rfl rfl rfl rfl rfl
theorem vb_toR_toS (r : vb_R) : vb_toR (vb_toS r) = r := vb_R_ext rfl BitVec.not_not rfl rfl rfl rfl

def vb_larger (a b : BitVec 64) : BitVec 64 := if a < b then b else a
def vb_lesser (a b : BitVec 64) : BitVec 64 := if a < b then a else b
def vb_halfOf (minus : Bool) : BitVec 64 := if minus = true then vb_top_ else 0
def vb_rfrom (r : vb_R) (minus : Bool) : BitVec 64 := vb_larger (vb_larger r.low (vb_halfOf minus)) (if minus = r.least.slt 0 then r.least else vb_halfOf minus)
def vb_rto (r : vb_R) (minus : Bool) : BitVec 64 := vb_lesser (vb_lesser r.high (if minus = true then vb_m1 else vb_most)) (if minus = r.greatest.slt 0 then r.greatest else if minus = true then vb_m1 else vb_most)
def vb_rend (r : vb_R) (v u : BitVec 64) (minus first : Bool) : BitVec 64 :=
  if first = true then vb_up (v &&& vb_most ||| vb_halfOf minus) (u &&& vb_most) (vb_rfrom r minus) else vb_down (v &&& vb_most ||| vb_halfOf minus) (u &&& vb_most) (vb_rto r minus)
def vb_rhas (r : vb_R) (v u : BitVec 64) (minus : Bool) : Bool :=
  if ¬ ((u &&& vb_top_ ≠ 0 ∨ v.slt 0 = minus) ∧ (if minus = true then r.least.slt 0 = true else (0 : BitVec 64).sle r.greatest = true)) then false
  else decide (vb_rend r v u minus true &&& ~~~(u ||| vb_top_) = v &&& ~~~(u ||| vb_top_)) && !decide (vb_rend r v u minus true < r.low) && !decide (r.high < vb_rend r v u minus true) && r.least.sle (vb_rend r v u minus true) && (vb_rend r v u minus true).sle r.greatest
def vb_rhasAny (r : vb_R) (v u : BitVec 64) : Bool := vb_rhas r v u false || vb_rhas r v u true

/-- the numbers of a row, with other bits -/
def vb_rmem (r : vb_R) (v u n : BitVec 64) : Prop := vb_mem ⟨~~~u, v, r.low, r.high, r.least, r.greatest⟩ n

theorem vb_most_bit {k : Nat} (hk : k < 64) : (vb_most).getLsbD k = !decide (k = 63) := by
  have : vb_most = ~~~vb_top_ := by decide
  rw [this, BitVec.getLsbD_not, vb_top_bit]; simp [hk]
theorem vb_half_bit (minus : Bool) {k : Nat} : (vb_halfOf minus).getLsbD k = (minus && decide (k = 63)) := by
  unfold vb_halfOf
  cases minus
  · simp only [Bool.false_eq_true, if_false, Bool.false_and]; exact BitVec.getLsbD_zero
  · simp only [if_true, Bool.true_and]; exact vb_top_bit k
theorem vb_slt0 (x : BitVec 64) : x.slt 0 = x.msb := by
  rcases vb_val x with ⟨a, b, c⟩ | ⟨a, b, c, d⟩
  · rw [a]; cases e : x.slt 0
    · rfl
    · have := vb_slt.mp e; rw [show (0 : BitVec 64).toInt = 0 from rfl] at this; omega
  · rw [a]; exact vb_slt.mpr (by rw [show (0 : BitVec 64).toInt = 0 from rfl]; omega)

theorem vb_rpat {v u n : BitVec 64} {minus : Bool} (h : v &&& u = 0) : vb_pat (~~~(u &&& vb_most)) (v &&& vb_most ||| vb_halfOf minus) n ↔ (∀ k, k < 63 → v.getLsbD k = (n.getLsbD k && !u.getLsbD k)) ∧ n.msb = minus := by
  have hv : ∀ k, v.getLsbD k = true → u.getLsbD k = false := by
    intro k hk
    have := congrArg (fun y => y.getLsbD k) h
    simp only [BitVec.getLsbD_and, show (0 : BitVec 64).getLsbD k = false from BitVec.getLsbD_zero, hk] at this
    simpa using this
  have ob : ∀ k, k < 64 → (v &&& vb_most ||| vb_halfOf minus).getLsbD k = if k = 63 then minus else v.getLsbD k := by
    intro k hk
    rw [BitVec.getLsbD_or, BitVec.getLsbD_and, vb_most_bit hk, vb_half_bit]
    by_cases e : k = 63 <;> simp [e]
  have mb : ∀ k, k < 64 → (~~~(u &&& vb_most)).getLsbD k = if k = 63 then true else !u.getLsbD k := by
    intro k hk
    rw [BitVec.getLsbD_not, BitVec.getLsbD_and, vb_most_bit hk]
    by_cases e : k = 63 <;> simp [e, hk]
  constructor
  · intro hp
    refine ⟨fun k hk => ?_, ?_⟩
    · have h1 := vb_pat_bit hp k
      rw [ob k (by omega), mb k (by omega), if_neg (by omega), if_neg (by omega)] at h1
      exact h1
    · have h1 := vb_pat_bit hp 63
      rw [ob 63 (by omega), mb 63 (by omega), if_pos rfl, if_pos rfl, Bool.and_true] at h1
      rw [vb_msb_bit, ← h1]
  · rintro ⟨h1, h2⟩
    refine vb_pat_of (fun k hk => ?_)
    rw [ob k hk, mb k hk]
    by_cases e : k = 63
    · rw [if_pos e, if_pos e, e, Bool.and_true, ← vb_msb_bit, h2]
    · rw [if_neg e, if_neg e]; exact h1 k (by omega)

theorem vb_rcan {v u : BitVec 64} {minus : Bool} : (u &&& vb_top_ ≠ 0 ∨ v.slt 0 = minus) ↔ (u.msb = true ∨ v.msb = minus) := by
  have : u &&& vb_top_ ≠ 0 ↔ u.msb = true := by
    rw [show vb_top_ = BitVec.twoPow 64 63 from by decide, vb_bit_ne (by omega), vb_msb_bit]
  rw [this, vb_slt0]

theorem vb_rmem_iff {r : vb_R} {v u n : BitVec 64} {minus : Bool} (h : v &&& u = 0) : (vb_rmem r v u n ∧ n.msb = minus) ↔ ((u.msb = true ∨ v.msb = minus) ∧ vb_pat (~~~(u &&& vb_most)) (v &&& vb_most ||| vb_halfOf minus) n ∧ r.low ≤ n ∧ n ≤ r.high ∧ r.least.toInt ≤ n.toInt ∧ n.toInt ≤ r.greatest.toInt) := by
  rw [vb_rpat h]
  unfold vb_rmem vb_mem
  simp only [vb_S.mask, vb_S.ones, vb_S.low, vb_S.high, vb_S.least, vb_S.greatest]
  have hv : v.getLsbD 63 = true → u.getLsbD 63 = false := by
    intro hk
    have := congrArg (fun y => y.getLsbD 63) h
    simp only [BitVec.getLsbD_and, show (0 : BitVec 64).getLsbD 63 = false from BitVec.getLsbD_zero, hk] at this
    simpa using this
  constructor
  · rintro ⟨⟨h1, h2⟩, h3⟩
    refine ⟨?_, ⟨fun k hk => ?_, h3⟩, h2⟩
    · have h4 := vb_pat_bit h1 63
      rw [BitVec.getLsbD_not, ← vb_msb_bit, ← vb_msb_bit, ← vb_msb_bit, h3] at h4
      cases hu : u.msb
      · right; rw [h4, hu]; simp
      · exact Or.inl rfl
    · have h4 := vb_pat_bit h1 k
      have hk' : k < 64 := by omega
      rw [BitVec.getLsbD_not] at h4
      simpa [hk'] using h4
  · rintro ⟨h1, ⟨h2, h3⟩, h4⟩
    refine ⟨⟨vb_pat_of (fun k hk => ?_), h4⟩, h3⟩
    rw [BitVec.getLsbD_not]
    by_cases e : k = 63
    · subst e
      rw [← vb_msb_bit, ← vb_msb_bit, ← vb_msb_bit, h3]
      rw [← vb_msb_bit, ← vb_msb_bit] at hv
      revert h1 hv
      cases u.msb <;> cases v.msb <;> cases minus <;> simp
    · have := h2 k (by omega)
      simp only [hk, decide_true, Bool.true_and]; exact this

theorem vb_rdis {v u : BitVec 64} (h : v &&& u = 0) (minus : Bool) : (v &&& vb_most ||| vb_halfOf minus) &&& (u &&& vb_most) = 0 := by
  refine BitVec.eq_of_getLsbD_eq (fun k hk => ?_)
  have := congrArg (fun y => y.getLsbD k) h
  simp only [BitVec.getLsbD_and, show (0 : BitVec 64).getLsbD k = false from BitVec.getLsbD_zero] at this
  simp only [BitVec.getLsbD_and, BitVec.getLsbD_or, vb_most_bit hk, vb_half_bit, show (0 : BitVec 64).getLsbD k = false from BitVec.getLsbD_zero]
  revert this
  by_cases e : k = 63
  · simp [e]
  · simp [e]

theorem vb_halfOf_nat (minus : Bool) : (vb_halfOf minus).toNat = if minus = true then 9223372036854775808 else 0 := by
  unfold vb_halfOf; cases minus <;> rfl
theorem vb_larger_nat (a b : BitVec 64) : (vb_larger a b).toNat = max a.toNat b.toNat := by
  unfold vb_larger; by_cases h : a < b
  · rw [if_pos h]; rw [BitVec.lt_def] at h; omega
  · rw [if_neg h]; rw [BitVec.lt_def] at h; omega
theorem vb_lesser_nat (a b : BitVec 64) : (vb_lesser a b).toNat = min a.toNat b.toNat := by
  unfold vb_lesser; by_cases h : a < b
  · rw [if_pos h]; rw [BitVec.lt_def] at h; omega
  · rw [if_neg h]; rw [BitVec.lt_def] at h; omega

/-- the bounds of a half are those of its numbers -/
theorem vb_rfrom_le {r : vb_R} {minus : Bool} {n : BitVec 64} (hb : n.msb = minus) (h1 : r.low ≤ n) (h2 : r.least.toInt ≤ n.toInt) : vb_rfrom r minus ≤ n := by
  unfold vb_rfrom
  rw [BitVec.le_def, vb_larger_nat, vb_larger_nat, vb_halfOf_nat, vb_slt0]
  rw [BitVec.le_def] at h1
  rcases vb_val n with ⟨a1, a2, a3⟩ | ⟨a1, a2, a3, a4⟩ <;> rcases vb_val r.least with ⟨b1, b2, b3⟩ | ⟨b1, b2, b3, b4⟩ <;> rw [b1] <;> rw [a1] at hb <;> subst hb <;> simp only [Bool.false_eq_true, if_false, if_true, Bool.true_eq_false, vb_halfOf_nat] <;> omega
theorem vb_rto_le {r : vb_R} {minus : Bool} {n : BitVec 64} (hb : n.msb = minus) (h1 : n ≤ r.high) (h2 : n.toInt ≤ r.greatest.toInt) : n ≤ vb_rto r minus := by
  unfold vb_rto
  rw [BitVec.le_def, vb_lesser_nat, vb_lesser_nat, vb_slt0]
  rw [BitVec.le_def] at h1
  have e1 : vb_m1.toNat = 18446744073709551615 := rfl
  have e2 : vb_most.toNat = 9223372036854775807 := rfl
  rcases vb_val n with ⟨a1, a2, a3⟩ | ⟨a1, a2, a3, a4⟩ <;> rcases vb_val r.greatest with ⟨b1, b2, b3⟩ | ⟨b1, b2, b3, b4⟩ <;> rw [b1] <;> rw [a1] at hb <;> subst hb <;> simp only [Bool.false_eq_true, if_false, if_true, Bool.true_eq_false] <;> omega
theorem vb_rfrom_ge {r : vb_R} {minus : Bool} {n : BitVec 64} (hb : n.msb = minus) (hs : minus = false ∨ r.least.msb = true) (h : vb_rfrom r minus ≤ n) : r.low ≤ n ∧ r.least.toInt ≤ n.toInt := by
  unfold vb_rfrom at h
  rw [BitVec.le_def, vb_larger_nat, vb_larger_nat, vb_halfOf_nat, vb_slt0] at h
  rw [BitVec.le_def]
  rcases vb_val n with ⟨a1, a2, a3⟩ | ⟨a1, a2, a3, a4⟩ <;> rcases vb_val r.least with ⟨b1, b2, b3⟩ | ⟨b1, b2, b3, b4⟩ <;> rw [b1] at h hs <;> rw [a1] at hb <;> subst hb <;> simp only [Bool.false_eq_true, if_false, if_true, Bool.true_eq_false, vb_halfOf_nat, or_self, or_true, true_or] at h hs <;> first | exact absurd hs (by decide) | (constructor <;> omega)
theorem vb_rto_ge {r : vb_R} {minus : Bool} {n : BitVec 64} (hb : n.msb = minus) (hs : minus = true ∨ r.greatest.msb = false) (h : n ≤ vb_rto r minus) : n ≤ r.high ∧ n.toInt ≤ r.greatest.toInt := by
  unfold vb_rto at h
  rw [BitVec.le_def, vb_lesser_nat, vb_lesser_nat, vb_slt0] at h
  rw [BitVec.le_def]
  have e1 : vb_m1.toNat = 18446744073709551615 := rfl
  have e2 : vb_most.toNat = 9223372036854775807 := rfl
  rcases vb_val n with ⟨a1, a2, a3⟩ | ⟨a1, a2, a3, a4⟩ <;> rcases vb_val r.greatest with ⟨b1, b2, b3⟩ | ⟨b1, b2, b3, b4⟩ <;> rw [b1] at h hs <;> rw [a1] at hb <;> subst hb <;> simp only [Bool.false_eq_true, if_false, if_true, Bool.true_eq_false, or_self, or_true, true_or] at h hs <;> first | exact absurd hs (by decide) | (constructor <;> omega)

/-- what 'has' and 'end' are of a half -/
theorem vb_rhas_ok {r : vb_R} {v u : BitVec 64} (h : v &&& u = 0) (minus : Bool) : if vb_rhas r v u minus = true then vb_half ⟨~~~u, v, r.low, r.high, r.least, r.greatest⟩ minus (vb_rend r v u minus true) (vb_rend r v u minus false) else ∀ n, vb_rmem r v u n → n.msb ≠ minus := by
  have F : vb_isFirst (~~~(u &&& vb_most)) (v &&& vb_most ||| vb_halfOf minus) (vb_rfrom r minus) (vb_rend r v u minus true) := by unfold vb_rend; rw [if_pos rfl]; exact vb_up_ok (vb_rdis h minus)
  have L : vb_isLast (~~~(u &&& vb_most)) (v &&& vb_most ||| vb_halfOf minus) (vb_rto r minus) (vb_rend r v u minus false) := by unfold vb_rend; rw [if_neg (by decide)]; exact vb_down_ok (vb_rdis h minus)
  obtain ⟨F1, F2⟩ := F
  obtain ⟨L1, L2⟩ := L
  have Fm := ((vb_rpat h).mp F1).2
  have Lm := ((vb_rpat h).mp L1).2
  -- what a number of the half tells of both ends
  have key : ∀ n, vb_rmem r v u n → n.msb = minus → (u.msb = true ∨ v.msb = minus) ∧ vb_rfrom r minus ≤ vb_rend r v u minus true ∧ vb_rend r v u minus true ≤ n ∧ n ≤ vb_rend r v u minus false ∧ vb_rend r v u minus false ≤ vb_rto r minus ∧ r.low ≤ n ∧ n ≤ r.high ∧ r.least.toInt ≤ n.toInt ∧ n.toInt ≤ r.greatest.toInt := by
    intro n hn hb
    obtain ⟨h1, h2, h3, h4, h5, h6⟩ := (vb_rmem_iff h).mp ⟨hn, hb⟩
    have k1 := F2 n h2 (vb_rfrom_le hb h3 h5)
    have k2 := L2 n h2 (vb_rto_le hb h4 h6)
    exact ⟨h1, k1.1, k1.2, k2.2, k2.1, h3, h4, h5, h6⟩
  have hpat : ∀ n, vb_pat (~~~(u &&& vb_most)) (v &&& vb_most ||| vb_halfOf minus) n → n &&& ~~~(u ||| vb_top_) = v &&& ~~~(u ||| vb_top_) := by
    intro n hn
    have h1 := ((vb_rpat h).mp hn).1
    refine BitVec.eq_of_getLsbD_eq (fun k hk => ?_)
    simp only [BitVec.getLsbD_and, BitVec.getLsbD_not, BitVec.getLsbD_or, vb_top_bit]
    by_cases e : k = 63
    · simp [e]
    · rw [h1 k (by omega)]
      simp only [e, hk, decide_false, decide_true]
      cases n.getLsbD k <;> cases u.getLsbD k <;> simp
  by_cases hh : vb_rhas r v u minus = true
  · rw [if_pos hh]
    unfold vb_rhas at hh
    by_cases hc : (u &&& vb_top_ ≠ 0 ∨ v.slt 0 = minus) ∧ (if minus = true then r.least.slt 0 = true else (0 : BitVec 64).sle r.greatest = true)
    · rw [if_neg (fun h' => h' hc)] at hh
      simp only [Bool.and_eq_true, decide_eq_true_eq, Bool.not_eq_true', decide_eq_false_iff_not, vb_sle] at hh
      obtain ⟨⟨⟨⟨_, g2⟩, g3⟩, g4⟩, g5⟩ := hh
      have hm : vb_rmem r v u (vb_rend r v u minus true) ∧ (vb_rend r v u minus true).msb = minus := (vb_rmem_iff h).mpr ⟨vb_rcan.mp hc.1, F1, by rw [BitVec.le_def]; rw [BitVec.lt_def] at g2; omega, by rw [BitVec.le_def]; rw [BitVec.lt_def] at g3; omega, g4, g5⟩
      obtain ⟨k1, k2, k3, k4, k5, k6, k7, k8, k9⟩ := key _ hm.1 hm.2
      have hl : vb_rmem r v u (vb_rend r v u minus false) ∧ (vb_rend r v u minus false).msb = minus := by
        refine (vb_rmem_iff h).mpr ⟨k1, L1, ?_⟩
        have hs : minus = true ∨ r.greatest.msb = false := by
          have := hc.2
          cases minus
          · right
            rw [if_neg (by decide), vb_sle, show (0 : BitVec 64).toInt = 0 from rfl] at this
            rcases vb_val r.greatest with ⟨a, _⟩ | ⟨a, b, c, d⟩
            · exact a
            · omega
          · exact Or.inl rfl
        have t1 := vb_rto_ge Lm hs k5
        refine ⟨?_, t1.1, ?_, t1.2⟩
        · rw [BitVec.le_def] at *; omega
        · rw [BitVec.le_def] at k4
          rcases vb_val (vb_rend r v u minus true) with ⟨a1, a2, a3⟩ | ⟨a1, a2, a3, a4⟩ <;> rcases vb_val (vb_rend r v u minus false) with ⟨b1, b2, b3⟩ | ⟨b1, b2, b3, b4⟩ <;> rw [a1] at Fm <;> rw [b1, ← Fm] at Lm <;> first | exact absurd Lm (by decide) | omega
      exact ⟨hm, hl, fun n hn hb => by
        obtain ⟨_, _, q3, q4, _⟩ := key n hn hb
        exact ⟨q3, q4⟩⟩
    · rw [if_pos hc] at hh; exact absurd hh (by decide)
  · rw [if_neg hh]
    intro n hn hb
    apply hh
    obtain ⟨k1, k2, k3, k4, k5, k6, k7, k8, k9⟩ := key n hn hb
    have hc : (u &&& vb_top_ ≠ 0 ∨ v.slt 0 = minus) ∧ (if minus = true then r.least.slt 0 = true else (0 : BitVec 64).sle r.greatest = true) := by
      refine ⟨vb_rcan.mpr k1, ?_⟩
      cases minus
      · rw [if_neg (by decide), vb_sle, show (0 : BitVec 64).toInt = 0 from rfl]
        rcases vb_val n with ⟨a1, a2, a3⟩ | ⟨a1, _⟩
        · omega
        · rw [a1] at hb; exact absurd hb (by decide)
      · rw [if_pos rfl, vb_slt, show (0 : BitVec 64).toInt = 0 from rfl]
        rcases vb_val n with ⟨a1, _⟩ | ⟨a1, a2, a3, a4⟩
        · rw [a1] at hb; exact absurd hb (by decide)
        · omega
    unfold vb_rhas
    rw [if_neg (fun h' => h' hc)]
    simp only [Bool.and_eq_true, decide_eq_true_eq, Bool.not_eq_true', decide_eq_false_iff_not, vb_sle]
    have hs : minus = false ∨ r.least.msb = true := by
      have := hc.2
      cases minus
      · exact Or.inl rfl
      · right
        rw [if_pos rfl, vb_slt0] at this; exact this
    have t1 := vb_rfrom_ge Fm hs k2
    rw [BitVec.le_def] at k3 k7 t1
    rw [BitVec.lt_def, BitVec.lt_def]
    refine ⟨⟨⟨⟨hpat _ F1, by omega⟩, by omega⟩, t1.2⟩, ?_⟩
    rcases vb_val (vb_rend r v u minus true) with ⟨a1, a2, a3⟩ | ⟨a1, a2, a3, a4⟩ <;> rcases vb_val n with ⟨b1, b2, b3⟩ | ⟨b1, b2, b3, b4⟩ <;> rw [a1] at Fm <;> rw [b1, ← Fm] at hb <;> first | exact absurd hb (by decide) | omega

theorem vb_rhasAny_iff {r : vb_R} {v u : BitVec 64} (h : v &&& u = 0) : vb_rhasAny r v u = true ↔ ∃ n, vb_rmem r v u n := by
  have hp := vb_rhas_ok (r := r) h false
  have hm := vb_rhas_ok (r := r) h true
  unfold vb_rhasAny
  rw [Bool.or_eq_true]
  constructor
  · rintro (h' | h')
    · rw [if_pos h'] at hp; exact ⟨_, hp.1.1⟩
    · rw [if_pos h'] at hm; exact ⟨_, hm.1.1⟩
  · rintro ⟨n, hn⟩
    cases h1 : vb_rhas r v u false
    · cases h2 : vb_rhas r v u true
      · rw [h1, if_neg (by decide)] at hp
        rw [h2, if_neg (by decide)] at hm
        have a := hp n hn; have b := hm n hn
        cases e : n.msb
        · exact absurd e a
        · exact absurd e b
      · exact Or.inr rfl
    · exact Or.inl rfl

/-! the whole of the other side's tighten -/
def vb_rstep (r : vb_R) (k : Nat) (s : BitVec 64 × BitVec 64) : BitVec 64 × BitVec 64 :=
  if r.opn &&& BitVec.twoPow 64 k ≠ 0 then
    (if vb_rhasAny r (r.bits ||| BitVec.twoPow 64 k) (r.opn &&& ~~~BitVec.twoPow 64 k) = true ∧ ¬ vb_rhasAny r r.bits (r.opn &&& ~~~BitVec.twoPow 64 k) = true then s.1 ||| BitVec.twoPow 64 k else s.1,
     if vb_rhasAny r r.bits (r.opn &&& ~~~BitVec.twoPow 64 k) = true ∧ vb_rhasAny r (r.bits ||| BitVec.twoPow 64 k) (r.opn &&& ~~~BitVec.twoPow 64 k) = true then s.2 else s.2 &&& ~~~BitVec.twoPow 64 k)
  else s
def vb_rloop (r : vb_R) : Nat → BitVec 64 × BitVec 64
  | 0 => (r.bits, r.opn)
  | k + 1 => vb_rstep r k (vb_rloop r k)

theorem vb_tp_bit {k i : Nat} (hi : i < 64) : (BitVec.twoPow 64 k).getLsbD i = decide (i = k) := by
  rw [BitVec.getLsbD_twoPow]
  by_cases e : i = k
  · subst e; simp [hi]
  · have : ¬ k = i := by omega
    simp [e, this]

/-- which bits of a row are unknown in its numbers -/
def vb_rz (r : vb_R) (k : Nat) : Bool := vb_rhasAny r r.bits (r.opn &&& ~~~BitVec.twoPow 64 k)
def vb_ro (r : vb_R) (k : Nat) : Bool := vb_rhasAny r (r.bits ||| BitVec.twoPow 64 k) (r.opn &&& ~~~BitVec.twoPow 64 k)

theorem vb_rloop_bit (r : vb_R) : ∀ N, N ≤ 64 → ∀ i, i < 64 → (vb_rloop r N).1.getLsbD i = (if i < N ∧ r.opn.getLsbD i = true then r.bits.getLsbD i || (vb_ro r i && !vb_rz r i) else r.bits.getLsbD i) ∧ (vb_rloop r N).2.getLsbD i = (if i < N then r.opn.getLsbD i && (vb_rz r i && vb_ro r i) else r.opn.getLsbD i) := by
  intro N
  induction N with
  | zero => intro _ i hi; simp [vb_rloop]
  | succ N ih =>
    intro hN i hi
    obtain ⟨h1, h2⟩ := ih (by omega) i hi
    have e : vb_rloop r (N + 1) = vb_rstep r N (vb_rloop r N) := rfl
    rw [e]
    unfold vb_rstep
    change (if r.opn &&& BitVec.twoPow 64 N ≠ 0 then (if vb_ro r N = true ∧ ¬ vb_rz r N = true then (vb_rloop r N).1 ||| BitVec.twoPow 64 N else (vb_rloop r N).1, if vb_rz r N = true ∧ vb_ro r N = true then (vb_rloop r N).2 else (vb_rloop r N).2 &&& ~~~BitVec.twoPow 64 N) else vb_rloop r N).1.getLsbD i = _ ∧ (if r.opn &&& BitVec.twoPow 64 N ≠ 0 then (if vb_ro r N = true ∧ ¬ vb_rz r N = true then (vb_rloop r N).1 ||| BitVec.twoPow 64 N else (vb_rloop r N).1, if vb_rz r N = true ∧ vb_ro r N = true then (vb_rloop r N).2 else (vb_rloop r N).2 &&& ~~~BitVec.twoPow 64 N) else vb_rloop r N).2.getLsbD i = _
    by_cases hb : r.opn &&& BitVec.twoPow 64 N ≠ 0
    · rw [if_pos hb]
      have hb' := (vb_bit_ne (by omega)).mp hb
      by_cases ei : i = N
      · subst ei
        have l1 : i < i + 1 := by omega
        have l2 : ¬ i < i := by omega
        rw [hb'] at h2 ⊢
        simp only [l1, l2, false_and, if_false, true_and, if_true] at h1 h2 ⊢
        cases hz : vb_rz r i <;> cases ho : vb_ro r i <;> simp only [Bool.false_eq_true, not_true, not_false_eq_true, false_and, and_false, and_self, if_false, if_true] <;> simp only [BitVec.getLsbD_or, BitVec.getLsbD_and, BitVec.getLsbD_not, vb_tp_bit hi, h1, h2, hi, decide_true, Bool.not_true, Bool.not_false, Bool.and_true, Bool.and_false, Bool.or_false, Bool.or_true, Bool.true_and, and_self]
      · have l : (i < N + 1) = (i < N) := by simp; omega
        simp only [l]
        constructor
        · rw [← h1]; split
          · simp [vb_tp_bit hi, ei]
          · rfl
        · rw [← h2]; split
          · rfl
          · simp [vb_tp_bit hi, ei, hi]
    · rw [if_neg hb]
      have hb' : r.opn.getLsbD N = false := by
        cases e : r.opn.getLsbD N
        · rfl
        · exact absurd ((vb_bit_ne (by omega)).mpr e) hb
      rw [h1, h2]
      by_cases ei : i = N
      · subst ei
        have l1 : i < i + 1 := by omega
        have l2 : ¬ i < i := by omega
        simp [hb']
      · have l : (i < N + 1) = (i < N) := by simp; omega
        constructor <;> simp only [l]

theorem vb_dis_bit {v u : BitVec 64} (h : v &&& u = 0) {k : Nat} (hk : u.getLsbD k = true) : v.getLsbD k = false := by
  have := congrArg (fun y => y.getLsbD k) h
  simp only [BitVec.getLsbD_and, show (0 : BitVec 64).getLsbD k = false from BitVec.getLsbD_zero, hk] at this
  simpa using this

theorem vb_rz_iff {r : vb_R} (h : r.bits &&& r.opn = 0) {k : Nat} (hk : k < 64) (hu : r.opn.getLsbD k = true) : vb_rz r k = true ↔ ∃ n, vb_mem (vb_toS r) n ∧ n.getLsbD k = false := by
  unfold vb_rz
  rw [vb_rhasAny_iff (BitVec.eq_of_getLsbD_eq (fun i hi => by
    have := congrArg (fun y => y.getLsbD i) h
    simp only [BitVec.getLsbD_and, show (0 : BitVec 64).getLsbD i = false from BitVec.getLsbD_zero] at this
    simp only [BitVec.getLsbD_and, show (0 : BitVec 64).getLsbD i = false from BitVec.getLsbD_zero]
    revert this; cases r.bits.getLsbD i <;> cases r.opn.getLsbD i <;> simp))]
  have vk := vb_dis_bit h hu
  constructor
  · rintro ⟨n, hn, hB⟩
    have hb : ∀ i, i < 64 → r.bits.getLsbD i = (n.getLsbD i && !(r.opn.getLsbD i && !decide (i = k))) := by
      intro i hi
      have := vb_pat_bit hn i
      simpa [vb_S.mask, vb_S.ones, vb_S.low, vb_S.high, vb_S.least, vb_S.greatest, vb_tp_bit hi, hi] using this
    refine ⟨n, ⟨vb_pat_of (fun i hi => ?_), hB⟩, ?_⟩
    · have h1 := hb i hi
      show r.bits.getLsbD i = (n.getLsbD i && (~~~r.opn).getLsbD i)
      rw [BitVec.getLsbD_not]
      by_cases e : i = k
      · subst e; rw [hu, vk]; simp
      · rw [h1]; simp [e, hi]
    · have h1 := hb k hk
      rw [vk, hu] at h1; simpa using h1.symm
  · rintro ⟨n, ⟨hn, hB⟩, h0⟩
    refine ⟨n, ⟨vb_pat_of (fun i hi => ?_), hB⟩⟩
    have h1 := vb_pat_bit hn i
    show r.bits.getLsbD i = (n.getLsbD i && (~~~(r.opn &&& ~~~BitVec.twoPow 64 k)).getLsbD i)
    change r.bits.getLsbD i = (n.getLsbD i && (~~~r.opn).getLsbD i) at h1
    rw [BitVec.getLsbD_not] at h1
    by_cases e : i = k
    · subst e; rw [vk, h0]; rfl
    · rw [h1]; simp [vb_tp_bit hi, e, hi]

theorem vb_ro_iff {r : vb_R} (h : r.bits &&& r.opn = 0) {k : Nat} (hk : k < 64) (hu : r.opn.getLsbD k = true) : vb_ro r k = true ↔ ∃ n, vb_mem (vb_toS r) n ∧ n.getLsbD k = true := by
  unfold vb_ro
  rw [vb_rhasAny_iff (BitVec.eq_of_getLsbD_eq (fun i hi => by
    have := congrArg (fun y => y.getLsbD i) h
    simp only [BitVec.getLsbD_and, show (0 : BitVec 64).getLsbD i = false from BitVec.getLsbD_zero] at this
    simp only [BitVec.getLsbD_and, BitVec.getLsbD_or, BitVec.getLsbD_not, vb_tp_bit hi, show (0 : BitVec 64).getLsbD i = false from BitVec.getLsbD_zero]
    revert this
    by_cases e : i = k <;> cases r.bits.getLsbD i <;> cases r.opn.getLsbD i <;> simp [e, hi]))]
  have vk := vb_dis_bit h hu
  constructor
  · rintro ⟨n, hn, hB⟩
    have hb : ∀ i, i < 64 → (r.bits.getLsbD i || decide (i = k)) = (n.getLsbD i && !(r.opn.getLsbD i && !decide (i = k))) := by
      intro i hi
      have := vb_pat_bit hn i
      simpa [vb_S.mask, vb_S.ones, vb_S.low, vb_S.high, vb_S.least, vb_S.greatest, vb_tp_bit hi, hi] using this
    refine ⟨n, ⟨vb_pat_of (fun i hi => ?_), hB⟩, ?_⟩
    · have h1 := hb i hi
      show r.bits.getLsbD i = (n.getLsbD i && (~~~r.opn).getLsbD i)
      rw [BitVec.getLsbD_not]
      by_cases e : i = k
      · subst e; rw [hu, vk]; simp
      · simp only [e, decide_false, Bool.or_false, Bool.not_false, Bool.and_true] at h1
        rw [h1]; simp [hi]
    · have h1 := hb k hk
      rw [vk, hu] at h1; simpa using h1.symm
  · rintro ⟨n, ⟨hn, hB⟩, h0⟩
    refine ⟨n, ⟨vb_pat_of (fun i hi => ?_), hB⟩⟩
    have h1 := vb_pat_bit hn i
    show (r.bits ||| BitVec.twoPow 64 k).getLsbD i = (n.getLsbD i && (~~~(r.opn &&& ~~~BitVec.twoPow 64 k)).getLsbD i)
    change r.bits.getLsbD i = (n.getLsbD i && (~~~r.opn).getLsbD i) at h1
    rw [BitVec.getLsbD_not] at h1
    rw [BitVec.getLsbD_or, vb_tp_bit hi]
    by_cases e : i = k
    · subst e; rw [h0]; simp [vb_tp_bit hi, hi]
    · rw [h1]; simp [vb_tp_bit hi, e, hi]

/-- what is plain to see: the emptiness, the row -/
def vb_rplain (r : vb_R) : Option (Bool × vb_R) :=
  if r.opn = vb_m1 ∧ r.low = 0 ∧ r.high = vb_m1 ∧ r.least = vb_top_ ∧ r.greatest = vb_most then some (false, r)
  else if r.opn = 0 then
    (if r.bits < r.low ∨ r.high < r.bits ∨ r.bits.slt r.least = true ∨ r.greatest.slt r.bits = true then some (true, r) else some (false, ⟨r.bits, 0, r.bits, r.bits, r.bits, r.bits⟩))
  else if (r.bits = 0 ∧ (0 : BitVec 64).slt r.opn = true ∧ r.opn &&& (r.opn + 1) = 0) ∧ r.low = 0 ∧ ¬ r.high < r.opn ∧ r.least.sle 0 = true ∧ r.opn.sle r.greatest = true then some (false, ⟨r.bits, r.opn, r.low, r.opn, 0, r.opn⟩)
  else none
def vb_rfull (r : vb_R) : Bool × vb_R :=
  if vb_rhasAny r r.bits r.opn = true then
    (false, ⟨(vb_rloop r 64).1, (vb_rloop r 64).2, vb_rend r r.bits r.opn (!vb_rhas r r.bits r.opn false) true, vb_rend r r.bits r.opn (vb_rhas r r.bits r.opn true) false, vb_rend r r.bits r.opn (vb_rhas r r.bits r.opn true) true, vb_rend r r.bits r.opn (!vb_rhas r r.bits r.opn false) false⟩)
  else (true, r)
def vb_rtight (r : vb_R) : Bool × vb_R := match vb_rplain r with
  | some x => x
  | none => vb_rfull r

theorem vb_rmk {v : vb_S} {P : Bool → Bool} {E : Bool → Bool → BitVec 64} {b o : BitVec 64} (hp : if P false = true then vb_half v false (E false true) (E false false) else ∀ n, vb_mem v n → n.msb ≠ false) (hm : if P true = true then vb_half v true (E true true) (E true false) else ∀ n, vb_mem v n → n.msb ≠ true) (h : P false = true ∨ P true = true) (hk : ∀ k, k < 64 → ((~~~o).getLsbD k = true ↔ ∀ n n', vb_mem v n → vb_mem v n' → n.getLsbD k = n'.getLsbD k))
    (e5 : ∀ lo, vb_mem v lo → b = lo &&& ~~~o) : vb_hull v (vb_toS ⟨b, o, E (!P false) true, E (P true) false, E (P true) true, E (!P false) false⟩) := by
  have H := vb_hull_of (v := v) (p := P false) (m := P true) (mask := ~~~o) (pf := E false true) (pl := E false false) (mf := E true true) (ml := E true false) (by
    by_cases e : P false = true
    · rw [if_pos e] at hp ⊢; exact hp
    · rw [if_neg e] at hp ⊢
      intro n hn
      have := hp n hn
      cases e : n.msb
      · exact absurd e this
      · rfl) (by
    by_cases e : P true = true
    · rw [if_pos e] at hm ⊢; exact hm
    · rw [if_neg e] at hm ⊢
      intro n hn
      have := hm n hn
      cases e : n.msb
      · rfl
      · exact absurd e this) h hk
  have e := e5 _ H.low
  unfold vb_toS
  simp only [vb_S.mask, vb_S.ones, vb_S.low, vb_S.high, vb_S.least, vb_S.greatest] at e
  revert H e
  cases P false <;> cases P true <;> simp only [Bool.false_eq_true, if_false, if_true, Bool.not_false, Bool.not_true] <;> (intro H e; rw [e]; exact H)

theorem vb_rfull_ok {r : vb_R} (h : r.bits &&& r.opn = 0) : if (vb_rfull r).1 = true then ∀ n, ¬ vb_mem (vb_toS r) n else vb_hull (vb_toS r) (vb_toS (vb_rfull r).2) := by
  unfold vb_rfull
  by_cases ha : vb_rhasAny r r.bits r.opn = true
  · rw [if_pos ha]
    have mk : ∀ k, k < 64 → ((~~~(vb_rloop r 64).2).getLsbD k = true ↔ ∀ n n', vb_mem (vb_toS r) n → vb_mem (vb_toS r) n' → n.getLsbD k = n'.getLsbD k) := by
      intro k hk
      rw [BitVec.getLsbD_not, ((vb_rloop_bit r 64 (Nat.le_refl _) k hk).2), if_pos hk]
      simp only [hk, decide_true, Bool.true_and, Bool.not_eq_true']
      cases hu : r.opn.getLsbD k
      · simp only [Bool.false_and, true_iff]
        intro n n' hn hn'
        have e : (vb_toS r).mask.getLsbD k = true := by show (~~~r.opn).getLsbD k = true; rw [BitVec.getLsbD_not, hu]; simp [hk]
        rw [vb_pat_o hn.1 e, vb_pat_o hn'.1 e]
      · rw [Bool.true_and]
        constructor
        · intro h1 n n' hn hn'
          have hz := vb_rz_iff h hk hu
          have ho := vb_ro_iff h hk hu
          cases e1 : n.getLsbD k <;> cases e2 : n'.getLsbD k
          · rfl
          · rw [hz.mpr ⟨n, hn, e1⟩, ho.mpr ⟨n', hn', e2⟩] at h1; exact absurd h1 (by decide)
          · rw [hz.mpr ⟨n', hn', e2⟩, ho.mpr ⟨n, hn, e1⟩] at h1; exact absurd h1 (by decide)
          · rfl
        · intro H
          cases e1 : vb_rz r k
          · rfl
          · cases e2 : vb_ro r k
            · rfl
            · obtain ⟨n, hn, h1⟩ := (vb_rz_iff h hk hu).mp e1
              obtain ⟨n', hn', h2⟩ := (vb_ro_iff h hk hu).mp e2
              have := H n n' hn hn'
              rw [h1, h2] at this; exact absurd this (by decide)
    have e5 : ∀ lo, vb_mem (vb_toS r) lo → (vb_rloop r 64).1 = lo &&& ~~~(vb_rloop r 64).2 := by
      intro lo low
      refine BitVec.eq_of_getLsbD_eq (fun k hk => ?_)
      rw [BitVec.getLsbD_and, BitVec.getLsbD_not, (vb_rloop_bit r 64 (Nat.le_refl _) k hk).1, (vb_rloop_bit r 64 (Nat.le_refl _) k hk).2, if_pos hk]
      simp only [hk, true_and, decide_true, Bool.true_and]
      cases hu : r.opn.getLsbD k
      · simp only [Bool.false_eq_true, if_false, Bool.false_and, Bool.not_false, Bool.and_true]
        have e : (vb_toS r).mask.getLsbD k = true := by show (~~~r.opn).getLsbD k = true; rw [BitVec.getLsbD_not, hu]; simp [hk]
        exact (vb_pat_o low.1 e).symm
      · simp only [if_true, Bool.true_and, vb_dis_bit h hu, Bool.false_or]
        have hz := vb_rz_iff h hk hu
        have ho := vb_ro_iff h hk hu
        have ag := mk k hk
        rw [BitVec.getLsbD_not, (vb_rloop_bit r 64 (Nat.le_refl _) k hk).2, if_pos hk, hu, Bool.true_and] at ag
        simp only [hk, decide_true, Bool.true_and, Bool.not_eq_true'] at ag
        cases e1 : lo.getLsbD k
        · have z := hz.mpr ⟨lo, low, e1⟩
          rw [z]; simp
        · have o := ho.mpr ⟨lo, low, e1⟩
          rw [o]; simp
    have hp := vb_rhas_ok (r := r) h false
    have hm := vb_rhas_ok (r := r) h true
    unfold vb_rhasAny at ha
    rw [Bool.or_eq_true] at ha
    show if false = true then (∀ n, ¬ vb_mem (vb_toS r) n) else vb_hull _ _
    rw [if_neg Bool.false_ne_true]
    exact vb_rmk (P := vb_rhas r r.bits r.opn) (E := vb_rend r r.bits r.opn) hp hm ha mk e5
  · rw [if_neg ha, if_pos rfl]
    exact fun n hn => ha ((vb_rhasAny_iff h).mpr ⟨n, hn⟩)

theorem vb_int0 : (0 : BitVec 64).toInt = 0 := rfl
theorem vb_bit0 (k : Nat) : (0 : BitVec 64).getLsbD k = false := BitVec.getLsbD_zero
theorem vb_nn0 : ~~~(0 : BitVec 64) = vb_m1 := by decide
theorem vb_m1_bit {k : Nat} (hk : k < 64) : (vb_m1).getLsbD k = true := by
  rw [← vb_nn0, BitVec.getLsbD_not, vb_bit0]; simp [hk]

theorem vb_rplain_ok {r : vb_R} (h : r.bits &&& r.opn = 0) {x : Bool × vb_R} (hx : vb_rplain r = some x) : if x.1 = true then ∀ n, ¬ vb_mem (vb_toS r) n else vb_hull (vb_toS r) (vb_toS x.2) := by
  unfold vb_rplain at hx
  by_cases c1 : r.opn = vb_m1 ∧ r.low = 0 ∧ r.high = vb_m1 ∧ r.least = vb_top_ ∧ r.greatest = vb_most
  · rw [if_pos c1] at hx
    obtain rfl := Option.some.inj hx
    simp only [Bool.false_eq_true, if_false]
    obtain ⟨h1, h2, h3, h4, h5⟩ := c1
    have hb : r.bits = 0 := BitVec.eq_of_getLsbD_eq (fun k hk => by rw [vb_bit0]; exact vb_dis_bit h (by rw [h1]; exact vb_m1_bit hk))
    have all : ∀ n, vb_mem (vb_toS r) n := by
      intro n
      refine ⟨vb_pat_of (fun k hk => ?_), ?_, ?_, ?_, ?_⟩
      · show r.bits.getLsbD k = (n.getLsbD k && (~~~r.opn).getLsbD k)
        rw [hb, vb_bit0, BitVec.getLsbD_not, h1, vb_m1_bit hk]; simp
      · show r.low ≤ n; rw [h2, BitVec.le_def]; exact Nat.zero_le _
      · show n ≤ r.high; rw [h3, BitVec.le_def, show vb_m1.toNat = 18446744073709551615 from rfl]; have := n.isLt; omega
      · show r.least.toInt ≤ n.toInt; rw [h4, show vb_top_.toInt = -9223372036854775808 from by decide]; rcases vb_val n with ⟨a, b, c⟩ | ⟨a, b, c, d⟩ <;> omega
      · show n.toInt ≤ r.greatest.toInt; rw [h5, show vb_most.toInt = 9223372036854775807 from by decide]; rcases vb_val n with ⟨a, b, c⟩ | ⟨a, b, c, d⟩ <;> omega
    refine ⟨all _, all _, all _, all _, fun n _ => (all n).2, fun k hk => ?_, ?_⟩
    · show (~~~r.opn).getLsbD k = true ↔ _
      rw [BitVec.getLsbD_not, h1, vb_m1_bit hk]
      simp only [Bool.not_true, Bool.and_false, Bool.false_eq_true, false_iff]
      intro H
      have := H 0 vb_m1 (all _) (all _)
      rw [vb_bit0, vb_m1_bit hk] at this; exact absurd this (by decide)
    · show r.bits = r.low &&& ~~~r.opn
      rw [hb, h2]; exact (BitVec.zero_and).symm
  · rw [if_neg c1] at hx
    by_cases c2 : r.opn = 0
    · rw [if_pos c2] at hx
      have only : ∀ n, vb_mem (vb_toS r) n → n = r.bits := by
        intro n hn
        refine BitVec.eq_of_getLsbD_eq (fun k hk => ?_)
        refine vb_pat_o hn.1 ?_
        show (~~~r.opn).getLsbD k = true
        rw [c2, vb_nn0]; exact vb_m1_bit hk
      by_cases c3 : r.bits < r.low ∨ r.high < r.bits ∨ r.bits.slt r.least = true ∨ r.greatest.slt r.bits = true
      · rw [if_pos c3] at hx
        obtain rfl := Option.some.inj hx
        simp only [if_true]
        intro n hn
        have e := only n hn
        subst e
        have := vb_mem_int hn
        change r.low.toNat ≤ r.bits.toNat ∧ r.bits.toNat ≤ r.high.toNat ∧ r.least.toInt ≤ r.bits.toInt ∧ r.bits.toInt ≤ r.greatest.toInt at this
        rw [BitVec.lt_def, BitVec.lt_def, vb_slt, vb_slt] at c3
        omega
      · rw [if_neg c3] at hx
        obtain rfl := Option.some.inj hx
        simp only [Bool.false_eq_true, if_false]
        rw [BitVec.lt_def, BitVec.lt_def, vb_slt, vb_slt] at c3
        have mem : vb_mem (vb_toS r) r.bits := by
          refine ⟨vb_pat_of (fun k hk => ?_), ?_, ?_, ?_, ?_⟩
          · show r.bits.getLsbD k = (r.bits.getLsbD k && (~~~r.opn).getLsbD k)
            rw [c2, vb_nn0, vb_m1_bit hk, Bool.and_true]
          · show r.low ≤ r.bits; rw [BitVec.le_def]; omega
          · show r.bits ≤ r.high; rw [BitVec.le_def]; omega
          · show r.least.toInt ≤ r.bits.toInt; omega
          · show r.bits.toInt ≤ r.greatest.toInt; omega
        refine ⟨mem, mem, mem, mem, fun n hn => ?_, fun k hk => ?_, ?_⟩
        · rw [only n hn]
          show r.bits ≤ r.bits ∧ r.bits ≤ r.bits ∧ r.bits.toInt ≤ r.bits.toInt ∧ r.bits.toInt ≤ r.bits.toInt
          rw [BitVec.le_def]; omega
        · show (~~~(0 : BitVec 64)).getLsbD k = true ↔ _
          rw [vb_nn0, vb_m1_bit hk]
          simp only [true_iff]
          intro n n' hn hn'
          rw [only n hn, only n' hn']
        · show r.bits = r.bits &&& ~~~(0 : BitVec 64)
          exact (vb_and_n0 _).symm
    · rw [if_neg c2] at hx
      by_cases c3 : (r.bits = 0 ∧ (0 : BitVec 64).slt r.opn = true ∧ r.opn &&& (r.opn + 1) = 0) ∧ r.low = 0 ∧ ¬ r.high < r.opn ∧ r.least.sle 0 = true ∧ r.opn.sle r.greatest = true
      · rw [if_pos c3] at hx
        obtain rfl := Option.some.inj hx
        simp only [Bool.false_eq_true, if_false]
        obtain ⟨⟨h1, h2, _⟩, h3, h4, h5, h6⟩ := c3
        rw [vb_slt, vb_int0] at h2
        rw [vb_sle, vb_int0] at h5
        rw [vb_sle] at h6
        rw [BitVec.lt_def] at h4
        have sub : ∀ n, vb_mem (vb_toS r) n → n ≤ r.opn := by
          intro n hn
          refine vb_le_of_sub (fun k hk => ?_)
          have hk' : k < 64 := BitVec.lt_of_getLsbD hk
          have h7 := vb_pat_bit hn.1 k
          change r.bits.getLsbD k = (n.getLsbD k && (~~~r.opn).getLsbD k) at h7
          rw [h1, vb_bit0, hk, BitVec.getLsbD_not] at h7
          simpa [hk'] using h7
        have in0 : ∀ n, (∀ k, n.getLsbD k = true → r.opn.getLsbD k = true) → vb_mem (vb_toS r) n := by
          intro n hn
          have h7 := vb_le_of_sub hn
          rw [BitVec.le_def] at h7
          refine ⟨vb_pat_of (fun k hk => ?_), ?_, ?_, ?_, ?_⟩
          · show r.bits.getLsbD k = (n.getLsbD k && (~~~r.opn).getLsbD k)
            rw [h1, vb_bit0, BitVec.getLsbD_not]
            cases e : n.getLsbD k
            · rfl
            · rw [hn k e]; simp
          · show r.low ≤ n; rw [h3, BitVec.le_def]; exact Nat.zero_le _
          · show n ≤ r.high; rw [BitVec.le_def]; omega
          · show r.least.toInt ≤ n.toInt
            rcases vb_val n with ⟨a, b, c⟩ | ⟨a, b, c, d⟩ <;> rcases vb_val r.opn with ⟨a', b', c'⟩ | ⟨a', b', c', d'⟩ <;> omega
          · show n.toInt ≤ r.greatest.toInt
            rcases vb_val n with ⟨a, b, c⟩ | ⟨a, b, c, d⟩ <;> rcases vb_val r.opn with ⟨a', b', c'⟩ | ⟨a', b', c', d'⟩ <;> omega
        have m0 : vb_mem (vb_toS r) 0 := in0 0 (fun k hk => by rw [vb_bit0] at hk; exact absurd hk (by decide))
        have mo : vb_mem (vb_toS r) r.opn := in0 r.opn (fun k hk => hk)
        have ml : vb_mem (vb_toS r) r.low := by rw [h3]; exact m0
        refine ⟨ml, mo, m0, mo, fun n hn => ?_, fun k hk => ?_, ?_⟩
        · have h7 := sub n hn
          show r.low ≤ n ∧ n ≤ r.opn ∧ (0 : BitVec 64).toInt ≤ n.toInt ∧ n.toInt ≤ r.opn.toInt
          rw [h3, vb_int0]
          rw [BitVec.le_def] at h7 ⊢
          refine ⟨Nat.zero_le _, by rw [BitVec.le_def]; exact h7, ?_⟩
          rcases vb_val n with ⟨a, b, c⟩ | ⟨a, b, c, d⟩ <;> rcases vb_val r.opn with ⟨a', b', c'⟩ | ⟨a', b', c', d'⟩ <;> omega
        · show (~~~r.opn).getLsbD k = true ↔ _
          rw [BitVec.getLsbD_not]
          simp only [hk, decide_true, Bool.true_and, Bool.not_eq_true']
          constructor
          · intro hu n n' hn hn'
            have e : (vb_toS r).mask.getLsbD k = true := by show (~~~r.opn).getLsbD k = true; rw [BitVec.getLsbD_not, hu]; simp [hk]
            rw [vb_pat_o hn.1 e, vb_pat_o hn'.1 e]
          · intro H
            have := H _ _ m0 mo
            rw [← this, vb_bit0]
        · show r.bits = r.low &&& ~~~r.opn
          rw [h1, h3]; exact (BitVec.zero_and).symm
      · rw [if_neg c3] at hx; exact absurd hx (by simp)

theorem vb_rtight_ok {r : vb_R} (h : r.bits &&& r.opn = 0) : if (vb_rtight r).1 = true then ∀ n, ¬ vb_mem (vb_toS r) n else vb_hull (vb_toS r) (vb_toS (vb_rtight r).2) := by
  unfold vb_rtight
  cases hx : vb_rplain r with
  | some x => exact vb_rplain_ok h hx
  | none => exact vb_rfull_ok h

/-- both sides' tighten say the same of sayings that are the same -/
theorem vb_tight_both {v : vb_S} {r : vb_R} (e : ∀ n, vb_mem v n ↔ vb_mem (vb_toS r) n) (hv : v.ones &&& v.mask = v.ones) (hr : r.bits &&& r.opn = 0) : vb_can v = !(vb_rtight r).1 ∧ (vb_can v = true → vb_toR (vb_ctight v) = (vb_rtight r).2) := by
  have h1 := vb_rtight_ok hr
  cases hc : (vb_rtight r).1
  · rw [hc, if_neg (by decide)] at h1
    have hv' : vb_can v = true := (vb_can_iff hv).mpr ⟨_, (e _).mpr h1.low⟩
    refine ⟨by rw [hv']; rfl, fun _ => ?_⟩
    have h2 := vb_ctight_ok hv hv'
    have h3 := vb_hull_unique (vb_hull_congr e h2) h1
    rw [h3, vb_toR_toS]
  · rw [hc, if_pos rfl] at h1
    have hv' : ¬ vb_can v = true := fun h => by
      obtain ⟨n, hn⟩ := (vb_can_iff hv).mp h
      exact h1 n ((e n).mp hn)
    refine ⟨by simpa using hv', fun h => absurd h hv'⟩
