/-! part b02: what is in already changes nothing: things and states -/
/-- as things stand: their sort, what they have, and values that are tight -/
def vt_ok (t : vt_T) : Prop := (t.sort = 0 → t = vt_none t.det.toNat ∧ t.det.toNat < 256) ∧ (vt_has t.sort = true → vb_tight t.val) ∧ (t.sort = 1 → t.det = 0 ∧ t.org = -1)
/-- u is within t -/
def vt_le (t u : vt_T) : Prop := (t.sort = 0 ∧ vt_wr t &&& vt_wr u = vt_wr t) ∨ (t.sort ≠ 0 ∧ t.sort = u.sort ∧ t.det = u.det ∧ t.org = u.org ∧ (vt_has t.sort = true → ∀ n, vb_mem u.val n → vb_mem t.val n))
theorem vt_has1 : vt_has 1 = true := rfl
theorem vt_le_refl (t : vt_T) : vt_le t t := by
  by_cases h : t.sort = 0
  · exact Or.inl ⟨h, Nat.and_self _⟩
  · exact Or.inr ⟨h, rfl, rfl, rfl, fun _ _ z => z⟩
theorem vt_wr_none (w : Nat) : vt_wr (vt_none w) = w := by
  unfold vt_wr vt_none
  rw [if_pos rfl]
  exact Int.toNat_natCast w
theorem vt_wr_lt {t : vt_T} (h : vt_ok t) : vt_wr t < 256 := by
  unfold vt_wr
  by_cases h0 : t.sort = 0
  · rw [if_pos h0]; exact (h.1 h0).2
  · rw [if_neg h0]; split <;> omega
/-- the same sort says the same of bytes -/
theorem vt_wr_same {t u : vt_T} (h1 : t.sort = u.sort) (h2 : t.det = u.det) : vt_wr t = vt_wr u := by
  unfold vt_wr; rw [h1, h2]
theorem vt_le_wr {t u : vt_T} (h : vt_le t u) : vt_wr t &&& vt_wr u = vt_wr t := by
  rcases h with h | h
  · exact h.2
  · rw [vt_wr_same h.2.1 h.2.2.1, Nat.and_self]
theorem vt_le_trans {a b c : vt_T} (h1 : vt_le a b) (h2 : vt_le b c) : vt_le a c := by
  by_cases ha : a.sort = 0
  · refine Or.inl ⟨ha, ?_⟩
    have e1 := vt_le_wr h1
    have e2 := vt_le_wr h2
    rw [← e1, Nat.and_assoc, e2]
  · rcases h1 with h1 | ⟨_, s1, d1, o1, v1⟩
    · exact absurd h1.1 ha
    · rcases h2 with h2 | ⟨_, s2, d2, o2, v2⟩
      · exact absurd (s1.trans h2.1) ha
      · exact Or.inr ⟨ha, s1.trans s2, d1.trans d2, o1.trans o2, fun h n hn => v1 h n (v2 (s1 ▸ h) n hn)⟩
/-- what is in already changes nothing -/
theorem vt_absorb {w : Bool} {t u : vt_T} (ht : vt_ok t) (hu : vt_ok u) (h : vt_le t u) : vt_meet w t u = t := by
  unfold vt_meet
  rcases h with ⟨h0, hw⟩ | ⟨h0, s, d, o, v⟩
  · rw [if_neg (fun z => z.1 h0), hw]
    have e := (ht.1 h0).1
    unfold vt_wr
    rw [if_pos h0]
    exact e.symm
  · rw [if_pos ⟨h0, s, d, o⟩]
    by_cases hh : vt_has t.sort = true
    · rw [if_pos hh, vb_meet_absorb (ht.2.1 hh) (hu.2.1 (s ▸ hh)) (v hh)]
    · rw [if_neg hh]
theorem vt_meet_ok {w : Bool} {t u : vt_T} (ht : vt_ok t) (hu : vt_ok u) : vt_ok (vt_meet w t u) := by
  unfold vt_meet
  by_cases c : t.sort ≠ 0 ∧ t.sort = u.sort ∧ t.det = u.det ∧ t.org = u.org
  · rw [if_pos c]
    by_cases hh : vt_has t.sort = true
    · rw [if_pos hh]
      exact ⟨fun z => absurd z c.1, fun _ => vb_meet_tight (ht.2.1 hh), ht.2.2⟩
    · rw [if_neg hh]; exact ht
  · rw [if_neg c]
    refine ⟨fun _ => ?_, fun z => absurd (show vt_has 0 = true from z) (by decide), fun z => absurd (show (0 : Nat) = 1 from z) (by decide)⟩
    have : ((vt_none (vt_wr t &&& vt_wr u)).det).toNat = vt_wr t &&& vt_wr u := Int.toNat_natCast _
    rw [this]
    exact ⟨rfl, Nat.lt_of_le_of_lt Nat.and_le_left (vt_wr_lt ht)⟩
theorem vt_le_meet {w : Bool} {t u : vt_T} (ht : vt_ok t) (hu : vt_ok u) : vt_le (vt_meet w t u) t ∧ vt_le (vt_meet w t u) u := by
  unfold vt_meet
  by_cases c : t.sort ≠ 0 ∧ t.sort = u.sort ∧ t.det = u.det ∧ t.org = u.org
  · rw [if_pos c]
    by_cases hh : vt_has t.sort = true
    · rw [if_pos hh]
      have ho := vb_tight_ones (ht.2.1 hh)
      exact ⟨Or.inr ⟨c.1, rfl, rfl, rfl, fun _ n hn => vb_meet_sound ho (Or.inl hn)⟩, Or.inr ⟨c.1, c.2.1, c.2.2.1, c.2.2.2, fun _ n hn => vb_meet_sound ho (Or.inr hn)⟩⟩
    · rw [if_neg hh]
      exact ⟨vt_le_refl t, Or.inr ⟨c.1, c.2.1, c.2.2.1, c.2.2.2, fun z => absurd z hh⟩⟩
  · rw [if_neg c]
    refine ⟨Or.inl ⟨rfl, ?_⟩, Or.inl ⟨rfl, ?_⟩⟩
    · rw [vt_wr_none, Nat.and_assoc, Nat.and_comm (vt_wr u), ← Nat.and_assoc, Nat.and_self]
    · rw [vt_wr_none, Nat.and_assoc, Nat.and_self]
def vt_okA (A : vt_A) : Prop := ∀ n, n < 75 → vt_ok (A.1 n)
def vt_leA (A B : vt_A) : Prop := (∀ n, n < 75 → vt_le (A.1 n) (B.1 n)) ∧ A.2 ≤ B.2
theorem vt_leA_refl (A : vt_A) : vt_leA A A := ⟨fun _ _ => vt_le_refl _, Int.le_refl _⟩
theorem vt_leA_trans {A B C : vt_A} (h1 : vt_leA A B) (h2 : vt_leA B C) : vt_leA A C := ⟨fun n hn => vt_le_trans (h1.1 n hn) (h2.1 n hn), Int.le_trans h1.2 h2.2⟩
theorem vt_absorbA {w : Bool} {A B : vt_A} (hA : vt_okA A) (hB : vt_okA B) (h : vt_leA A B) : vt_meetA w A B = A := by
  unfold vt_meetA
  refine Prod.ext (funext fun n => ?_) ?_
  · show (if n < 75 then vt_meet w (A.1 n) (B.1 n) else A.1 n) = A.1 n
    by_cases hn : n < 75
    · rw [if_pos hn, vt_absorb (hA n hn) (hB n hn) (h.1 n hn)]
    · rw [if_neg hn]
  · show (if B.2 < A.2 then B.2 else A.2) = A.2
    rw [if_neg (by have := h.2; omega)]
theorem vt_meetA_ok {w : Bool} {A B : vt_A} (hA : vt_okA A) (hB : vt_okA B) : vt_okA (vt_meetA w A B) := fun n hn => by
  show vt_ok (if n < 75 then vt_meet w (A.1 n) (B.1 n) else A.1 n)
  rw [if_pos hn]; exact vt_meet_ok (hA n hn) (hB n hn)
theorem vt_le_meetA {w : Bool} {A B : vt_A} (hA : vt_okA A) (hB : vt_okA B) : vt_leA (vt_meetA w A B) A ∧ vt_leA (vt_meetA w A B) B := by
  refine ⟨⟨fun n hn => ?_, ?_⟩, ⟨fun n hn => ?_, ?_⟩⟩
  · show vt_le (if n < 75 then vt_meet w (A.1 n) (B.1 n) else A.1 n) (A.1 n)
    rw [if_pos hn]; exact (vt_le_meet (hA n hn) (hB n hn)).1
  · show (if B.2 < A.2 then B.2 else A.2) ≤ A.2
    split <;> omega
  · show vt_le (if n < 75 then vt_meet w (A.1 n) (B.1 n) else A.1 n) (B.1 n)
    rw [if_pos hn]; exact (vt_le_meet (hA n hn) (hB n hn)).2
  · show (if B.2 < A.2 then B.2 else A.2) ≤ B.2
    split <;> omega
/-! passes -/
abbrev vz_S : Type := (Nat → Option vt_A) × (Nat → Nat)
def vz_u {α : Type} (f : Nat → α) (k : Nat) (x : α) : Nat → α := fun j => if j = k then x else f j
theorem vz_u_self {α : Type} (f : Nat → α) (k : Nat) (x : α) : vz_u f k x k = x := if_pos rfl
theorem vz_u_ne {α : Type} (f : Nat → α) {k j : Nat} (x : α) (h : j ≠ k) : vz_u f k x j = f j := if_neg h
/-- a state goes to a place: what there is then, and whether that is a change -/
noncomputable def vz_go (fr q : Nat) (B : vt_A) (st : vz_S) : vz_S × Bool := match st.1 q with
  | none => ((vz_u st.1 q (some B), vz_u st.2 q 0), true)
  | some C =>
    haveI := Classical.propDecidable (vt_meetA (decide (q ≤ fr ∧ 2 ≤ st.2 q)) C B = C)
    if vt_meetA (decide (q ≤ fr ∧ 2 ≤ st.2 q)) C B = C then (st, false) else ((vz_u st.1 q (some (vt_meetA (decide (q ≤ fr ∧ 2 ≤ st.2 q)) C B)), vz_u st.2 q (st.2 q + 1)), true)
noncomputable def vz_gos (fr : Nat) : List (Int × vt_A) → vz_S → vz_S × Bool
  | [], st => (st, false)
  | e :: l, st => ((vz_gos fr l (vz_go fr e.1.toNat e.2 st).1).1, (vz_go fr e.1.toNat e.2 st).2 || (vz_gos fr l (vz_go fr e.1.toNat e.2 st).1).2)
abbrev vz_D : Type := Nat → vt_A → Nat × List (Int × vt_A)
/-- a pass from place p on over k places: a reason and its place, what there is then, whether something changed -/
noncomputable def vz_pass (D : vz_D) : Nat → Nat → vz_S → Bool → (Nat × Nat) × vz_S × Bool
  | 0, _, st, c => ((0, 0), st, c)
  | k + 1, p, st, c => match st.1 p with
    | none => vz_pass D k (p + 1) st c
    | some A => if (D p A).1 ≠ 0 then (((D p A).1, p), st, c) else vz_pass D k (p + 1) (vz_gos p (D p A).2 st).1 (c || (vz_gos p (D p A).2 st).2)
/-- passes: at most k more; the reason and the place -/
noncomputable def vz_passes (D : vz_D) (N : Nat) : Nat → vz_S → (Nat × Nat) × vz_S
  | 0, st => ((10, 0), st)
  | k + 1, st =>
    if (vz_pass D N 0 st false).1.1 ≠ 0 then ((vz_pass D N 0 st false).1, (vz_pass D N 0 st false).2.1)
    else if (vz_pass D N 0 st false).2.2 = true then vz_passes D N k (vz_pass D N 0 st false).2.1
    else ((0, 0), (vz_pass D N 0 st false).2.1)
noncomputable def vz_start : vz_S := (fun p => if p = 0 then some vt_start else none, fun _ => 0)
/-- the same with a mark at places that changed since they were gone through: the others are left out -/
abbrev vz_F : Type := vz_S × (Nat → Bool)
noncomputable def vz_goF (fr q : Nat) (B : vt_A) (st : vz_F) : vz_F × Bool := (((vz_go fr q B st.1).1, if (vz_go fr q B st.1).2 = true then vz_u st.2 q true else st.2), (vz_go fr q B st.1).2)
noncomputable def vz_gosF (fr : Nat) : List (Int × vt_A) → vz_F → vz_F × Bool
  | [], st => (st, false)
  | e :: l, st => ((vz_gosF fr l (vz_goF fr e.1.toNat e.2 st).1).1, (vz_goF fr e.1.toNat e.2 st).2 || (vz_gosF fr l (vz_goF fr e.1.toNat e.2 st).1).2)
noncomputable def vz_passF (D : vz_D) : Nat → Nat → vz_F → Bool → (Nat × Nat) × vz_F × Bool
  | 0, _, st, c => ((0, 0), st, c)
  | k + 1, p, st, c =>
    if st.2 p = true then (match st.1.1 p with
      | none => vz_passF D k (p + 1) (st.1, vz_u st.2 p false) c
      | some A => if (D p A).1 ≠ 0 then (((D p A).1, p), (st.1, vz_u st.2 p false), c) else vz_passF D k (p + 1) (vz_gosF p (D p A).2 (st.1, vz_u st.2 p false)).1 (c || (vz_gosF p (D p A).2 (st.1, vz_u st.2 p false)).2))
    else vz_passF D k (p + 1) st c
noncomputable def vz_passesF (D : vz_D) (N : Nat) : Nat → vz_F → (Nat × Nat) × vz_F
  | 0, st => ((10, 0), st)
  | k + 1, st =>
    if (vz_passF D N 0 st false).1.1 ≠ 0 then ((vz_passF D N 0 st false).1, (vz_passF D N 0 st false).2.1)
    else if (vz_passF D N 0 st false).2.2 = true then vz_passesF D N k (vz_passF D N 0 st false).2.1
    else ((0, 0), (vz_passF D N 0 st false).2.1)
/-- what comes of well formed states is well formed -/
def vz_good (D : vz_D) : Prop := ∀ p A, vt_okA A → (D p A).1 = 0 → ∀ e ∈ (D p A).2, vt_okA e.2
def vz_okS (st : vz_S) : Prop := ∀ p A, st.1 p = some A → vt_okA A
/-- st' has all that st has, or more -/
def vz_grow (st st' : vz_S) : Prop := ∀ p A, st.1 p = some A → ∃ A', st'.1 p = some A' ∧ vt_leA A' A
theorem vz_grow_refl (st : vz_S) : vz_grow st st := fun _ A h => ⟨A, h, vt_leA_refl A⟩
theorem vz_grow_trans {a b c : vz_S} (h1 : vz_grow a b) (h2 : vz_grow b c) : vz_grow a c := fun p A h => by
  obtain ⟨B, hB, l1⟩ := h1 p A h
  obtain ⟨C, hC, l2⟩ := h2 p B hB
  exact ⟨C, hC, vt_leA_trans l2 l1⟩
theorem vz_go_ok {fr q : Nat} {B : vt_A} {st : vz_S} (hB : vt_okA B) (h : vz_okS st) : vz_okS (vz_go fr q B st).1 ∧ vz_grow st (vz_go fr q B st).1 ∧ (∃ C, (vz_go fr q B st).1.1 q = some C ∧ vt_leA C B) ∧ (∀ p, p ≠ q → (vz_go fr q B st).1.1 p = st.1 p) ∧ ((vz_go fr q B st).2 = false → (vz_go fr q B st).1 = st) := by
  have key : ∀ (X : vt_A) (ch : Nat → Nat), vt_okA X → vt_leA X B → (∀ A, st.1 q = some A → vt_leA X A) → vz_okS (vz_u st.1 q (some X), ch) ∧ vz_grow st (vz_u st.1 q (some X), ch) ∧ (∃ C, vz_u st.1 q (some X) q = some C ∧ vt_leA C B) ∧ (∀ p, p ≠ q → vz_u st.1 q (some X) p = st.1 p) := by
    intro X ch oX lX gX
    refine ⟨fun p A hp => ?_, fun p A hp => ?_, ⟨X, vz_u_self _ _ _, lX⟩, fun p hp => vz_u_ne _ _ hp⟩
    · change vz_u st.1 q (some X) p = some A at hp
      by_cases e : p = q
      · rw [e, vz_u_self] at hp; cases hp; exact oX
      · rw [vz_u_ne _ _ e] at hp; exact h p A hp
    · show ∃ A', vz_u st.1 q (some X) p = some A' ∧ vt_leA A' A
      by_cases e : p = q
      · rw [e] at hp
        exact ⟨X, by rw [e, vz_u_self], gX A hp⟩
      · exact ⟨A, by rw [vz_u_ne _ _ e]; exact hp, vt_leA_refl A⟩
  unfold vz_go
  cases hq : st.1 q with
  | none =>
    have k := key B (vz_u st.2 q 0) hB (vt_leA_refl B) (fun A hA => by rw [hq] at hA; cases hA)
    exact ⟨k.1, k.2.1, k.2.2.1, k.2.2.2, fun z => by cases z⟩
  | some C =>
    dsimp only
    have hC := h q C hq
    have lm := vt_le_meetA (w := decide (q ≤ fr ∧ 2 ≤ st.2 q)) hC hB
    have om := vt_meetA_ok (w := decide (q ≤ fr ∧ 2 ≤ st.2 q)) hC hB
    by_cases hm : vt_meetA (decide (q ≤ fr ∧ 2 ≤ st.2 q)) C B = C
    · rw [if_pos hm]
      rw [hm] at lm
      exact ⟨h, vz_grow_refl st, ⟨C, hq, lm.2⟩, fun _ _ => rfl, fun _ => rfl⟩
    · rw [if_neg hm]
      have k := key _ (vz_u st.2 q (st.2 q + 1)) om lm.2 (fun A hA => by rw [hq] at hA; cases hA; exact lm.1)
      exact ⟨k.1, k.2.1, k.2.2.1, k.2.2.2, fun z => by cases z⟩
/-- a state that is in already changes nothing -/
theorem vz_go_in {fr q : Nat} {B C : vt_A} {st : vz_S} (hB : vt_okA B) (hC : vt_okA C) (hq : st.1 q = some C) (hl : vt_leA C B) : vz_go fr q B st = (st, false) := by
  unfold vz_go
  rw [hq]
  dsimp only
  rw [if_pos (vt_absorbA hC hB hl)]
theorem vz_gos_ok {fr : Nat} : ∀ {l : List (Int × vt_A)} {st : vz_S}, (∀ e ∈ l, vt_okA e.2) → vz_okS st → vz_okS (vz_gos fr l st).1 ∧ vz_grow st (vz_gos fr l st).1 ∧ ∀ e ∈ l, ∃ C, (vz_gos fr l st).1.1 e.1.toNat = some C ∧ vt_leA C e.2 := by
  intro l
  induction l with
  | nil => intro st _ h; exact ⟨h, vz_grow_refl st, fun e he => absurd he List.not_mem_nil⟩
  | cons e l ih =>
    intro st hl h
    have g := vz_go_ok (fr := fr) (q := e.1.toNat) (hl e List.mem_cons_self) h
    have r := ih (st := (vz_go fr e.1.toNat e.2 st).1) (fun x hx => hl x (List.mem_cons_of_mem _ hx)) g.1
    refine ⟨r.1, vz_grow_trans g.2.1 r.2.1, fun x hx => ?_⟩
    rcases List.mem_cons.mp hx with hx | hx
    · subst hx
      obtain ⟨C, hC, lC⟩ := g.2.2.1
      obtain ⟨C', hC', lC'⟩ := r.2.1 _ _ hC
      exact ⟨C', hC', vt_leA_trans lC' lC⟩
    · exact r.2.2 x hx
theorem vz_gos_in {fr : Nat} : ∀ {l : List (Int × vt_A)} {st : vz_S}, (∀ e ∈ l, vt_okA e.2) → vz_okS st → (∀ e ∈ l, ∃ C, st.1 e.1.toNat = some C ∧ vt_leA C e.2) → vz_gos fr l st = (st, false) := by
  intro l
  induction l with
  | nil => intro st _ _ _; rfl
  | cons e l ih =>
    intro st hl h hin
    obtain ⟨C, hC, lC⟩ := hin e List.mem_cons_self
    have g := vz_go_in (fr := fr) (hl e List.mem_cons_self) (h _ _ hC) hC lC
    show ((vz_gos fr l (vz_go fr e.1.toNat e.2 st).1).1, (vz_go fr e.1.toNat e.2 st).2 || (vz_gos fr l (vz_go fr e.1.toNat e.2 st).1).2) = (st, false)
    rw [g, ih (fun x hx => hl x (List.mem_cons_of_mem _ hx)) h (fun x hx => hin x (List.mem_cons_of_mem _ hx))]
    rfl
/-- what a place that isn't marked makes is in already where it goes -/
def vz_in (D : vz_D) (st : vz_S) (p : Nat) : Prop := ∀ A, st.1 p = some A → (D p A).1 = 0 ∧ ∀ e ∈ (D p A).2, ∃ C, st.1 e.1.toNat = some C ∧ vt_leA C e.2
def vz_J (D : vz_D) (st : vz_F) : Prop := vz_okS st.1 ∧ ∀ p, st.2 p = false → vz_in D st.1 p
theorem vz_gosF_ok {fr : Nat} : ∀ {l : List (Int × vt_A)} {st : vz_F}, (∀ e ∈ l, vt_okA e.2) → vz_okS st.1 → (vz_gosF fr l st).1.1 = (vz_gos fr l st.1).1 ∧ (vz_gosF fr l st).2 = (vz_gos fr l st.1).2 ∧ ∀ p, (vz_gosF fr l st).1.2 p = false → st.2 p = false ∧ (vz_gos fr l st.1).1.1 p = st.1.1 p := by
  intro l
  induction l with
  | nil => intro st _ _; exact ⟨rfl, rfl, fun p hp => ⟨hp, rfl⟩⟩
  | cons e l ih =>
    intro st hl h
    have g := vz_go_ok (fr := fr) (q := e.1.toNat) (hl e List.mem_cons_self) h
    have r := ih (st := (vz_goF fr e.1.toNat e.2 st).1) (fun x hx => hl x (List.mem_cons_of_mem _ hx)) g.1
    refine ⟨r.1, ?_, fun p hp => ?_⟩
    · show ((vz_go fr e.1.toNat e.2 st.1).2 || (vz_gosF fr l (vz_goF fr e.1.toNat e.2 st).1).2) = _
      rw [r.2.1]; rfl
    · obtain ⟨f1, f2⟩ := r.2.2 p hp
      have f1 : (if (vz_go fr e.1.toNat e.2 st.1).2 = true then vz_u st.2 e.1.toNat true else st.2) p = false := f1
      have f2 : (vz_gos fr l (vz_go fr e.1.toNat e.2 st.1).1).1.1 p = (vz_go fr e.1.toNat e.2 st.1).1.1 p := f2
      by_cases c : (vz_go fr e.1.toNat e.2 st.1).2 = true
      · rw [if_pos c] at f1
        by_cases e1 : p = e.1.toNat
        · rw [e1, vz_u_self] at f1; cases f1
        · rw [vz_u_ne _ _ e1] at f1
          exact ⟨f1, f2.trans (g.2.2.2.1 p e1)⟩
      · rw [if_neg c] at f1
        have c' : (vz_go fr e.1.toNat e.2 st.1).2 = false := by simpa using c
        exact ⟨f1, f2.trans (by rw [g.2.2.2.2 c'])⟩
/-- a pass that leaves out what isn't marked is the whole pass -/
theorem vz_pass_same {D : vz_D} (hD : vz_good D) : ∀ (k p : Nat) (st : vz_F) (c : Bool), vz_J D st → (vz_passF D k p st c).1 = (vz_pass D k p st.1 c).1 ∧ (vz_passF D k p st c).2.1.1 = (vz_pass D k p st.1 c).2.1 ∧ (vz_passF D k p st c).2.2 = (vz_pass D k p st.1 c).2.2 ∧ ((vz_pass D k p st.1 c).1.1 = 0 → vz_J D (vz_passF D k p st c).2.1) := by
  intro k
  induction k with
  | zero => intro p st c hJ; exact ⟨rfl, rfl, rfl, fun _ => hJ⟩
  | succ k ih =>
    intro p st c hJ
    cases hS : st.1.1 p with
    | none =>
      have e2 : vz_pass D (k + 1) p st.1 c = vz_pass D k (p + 1) st.1 c := by show (match st.1.1 p with | none => _ | some A => _) = _; rw [hS]
      rw [e2]
      by_cases hf : st.2 p = true
      · have e1 : vz_passF D (k + 1) p st c = vz_passF D k (p + 1) (st.1, vz_u st.2 p false) c := by
          show (if st.2 p = true then _ else _) = _
          rw [if_pos hf, hS]
        rw [e1]
        refine ih (p + 1) (st.1, vz_u st.2 p false) c ⟨hJ.1, fun q hq => ?_⟩
        by_cases e : q = p
        · subst e
          intro A hA
          have hA : st.1.1 q = some A := hA
          rw [hS] at hA; cases hA
        · have hq : vz_u st.2 p false q = false := hq
          rw [vz_u_ne _ _ e] at hq
          exact hJ.2 q hq
      · have e1 : vz_passF D (k + 1) p st c = vz_passF D k (p + 1) st c := by
          show (if st.2 p = true then _ else _) = _
          rw [if_neg hf]
        rw [e1]
        exact ih (p + 1) st c hJ
    | some A =>
      have hA := hJ.1 p A hS
      have e2 : vz_pass D (k + 1) p st.1 c = if (D p A).1 ≠ 0 then (((D p A).1, p), st.1, c) else vz_pass D k (p + 1) (vz_gos p (D p A).2 st.1).1 (c || (vz_gos p (D p A).2 st.1).2) := by show (match st.1.1 p with | none => _ | some A => _) = _; rw [hS]
      by_cases hf : st.2 p = true
      · have e1 : vz_passF D (k + 1) p st c = if (D p A).1 ≠ 0 then (((D p A).1, p), (st.1, vz_u st.2 p false), c) else vz_passF D k (p + 1) (vz_gosF p (D p A).2 (st.1, vz_u st.2 p false)).1 (c || (vz_gosF p (D p A).2 (st.1, vz_u st.2 p false)).2) := by
          show (if st.2 p = true then _ else _) = _
          rw [if_pos hf, hS]
        rw [e1, e2]
        by_cases h0 : (D p A).1 = 0
        · rw [if_neg (fun z => z h0), if_neg (fun z => z h0)]
          have hl := hD p A hA h0
          have g := vz_gos_ok (fr := p) hl hJ.1
          have gF := vz_gosF_ok (fr := p) (st := (st.1, vz_u st.2 p false)) hl hJ.1
          rw [gF.2.1]
          have r := ih (p + 1) (vz_gosF p (D p A).2 (st.1, vz_u st.2 p false)).1 (c || (vz_gos p (D p A).2 st.1).2) ⟨by rw [gF.1]; exact g.1, fun q hq => ?_⟩
          · rw [gF.1] at r
            exact r
          · rw [gF.1]
            obtain ⟨f1, f2⟩ := gF.2.2 q hq
            have f1 : vz_u st.2 p false q = false := f1
            have f2 : (vz_gos p (D p A).2 st.1).1.1 q = st.1.1 q := f2
            intro B hB
            rw [f2] at hB
            by_cases e : q = p
            · subst e
              rw [hS] at hB; cases hB
              exact ⟨h0, g.2.2⟩
            · rw [vz_u_ne _ _ e] at f1
              obtain ⟨z0, z1⟩ := hJ.2 q f1 B hB
              refine ⟨z0, fun x hx => ?_⟩
              obtain ⟨C, hC, lC⟩ := z1 x hx
              obtain ⟨C', hC', lC'⟩ := g.2.1 _ _ hC
              exact ⟨C', hC', vt_leA_trans lC' lC⟩
        · rw [if_pos h0, if_pos h0]
          exact ⟨rfl, rfl, rfl, fun z => absurd z h0⟩
      · have hf' : st.2 p = false := by simpa using hf
        have e1 : vz_passF D (k + 1) p st c = vz_passF D k (p + 1) st c := by
          show (if st.2 p = true then _ else _) = _
          rw [if_neg hf]
        obtain ⟨z0, z1⟩ := hJ.2 p hf' A hS
        have hl := hD p A hA z0
        rw [e1, e2, if_neg (fun z => z z0), vz_gos_in (fr := p) hl hJ.1 z1, Bool.or_false]
        exact ih (p + 1) st c hJ
theorem vz_passes_same {D : vz_D} (hD : vz_good D) (N : Nat) : ∀ (k : Nat) (st : vz_F), vz_J D st → (vz_passesF D N k st).1 = (vz_passes D N k st.1).1 ∧ (vz_passesF D N k st).2.1 = (vz_passes D N k st.1).2 := by
  intro k
  induction k with
  | zero => intro st _; exact ⟨rfl, rfl⟩
  | succ k ih =>
    intro st hJ
    obtain ⟨a1, a2, a3, a4⟩ := vz_pass_same hD N 0 st false hJ
    unfold vz_passesF vz_passes
    rw [a1, a3]
    by_cases h0 : (vz_pass D N 0 st.1 false).1.1 = 0
    · have d0 : ¬ (vz_pass D N 0 st.1 false).1.1 ≠ 0 := fun z => z h0
      rw [if_neg d0, if_neg d0]
      by_cases hc : (vz_pass D N 0 st.1 false).2.2 = true
      · rw [if_pos hc, if_pos hc]
        have r := ih _ (a4 h0)
        rw [a2] at r
        exact r
      · rw [if_neg hc, if_neg hc]
        exact ⟨rfl, a2⟩
    · rw [if_pos h0, if_pos h0]
      exact ⟨rfl, a2⟩
/-- nothing refuses and nothing more comes: what an accepted program leaves -/
def vz_fix (D : vz_D) (N : Nat) (st : vz_S) : Prop := vz_okS st ∧ (∃ A, st.1 0 = some A ∧ vt_leA A vt_start) ∧ ∀ p, p < N → vz_in D st p
theorem vz_gos_false {fr : Nat} : ∀ {l : List (Int × vt_A)} {st : vz_S}, (∀ e ∈ l, vt_okA e.2) → vz_okS st → (vz_gos fr l st).2 = false → (vz_gos fr l st).1 = st := by
  intro l
  induction l with
  | nil => intro st _ _ _; rfl
  | cons e l ih =>
    intro st hl h hc
    have g := vz_go_ok (fr := fr) (q := e.1.toNat) (hl e List.mem_cons_self) h
    have hc : ((vz_go fr e.1.toNat e.2 st).2 || (vz_gos fr l (vz_go fr e.1.toNat e.2 st).1).2) = false := hc
    rw [Bool.or_eq_false_iff] at hc
    have e1 := g.2.2.2.2 hc.1
    show (vz_gos fr l (vz_go fr e.1.toNat e.2 st).1).1 = st
    rw [ih (fun x hx => hl x (List.mem_cons_of_mem _ hx)) g.1 hc.2, e1]
theorem vz_pass_ok {D : vz_D} (hD : vz_good D) : ∀ (k p : Nat) (st : vz_S) (c : Bool), vz_okS st → vz_okS (vz_pass D k p st c).2.1 ∧ vz_grow st (vz_pass D k p st c).2.1 ∧ ((vz_pass D k p st c).2.2 = false → c = false ∧ ((vz_pass D k p st c).1.1 = 0 → (vz_pass D k p st c).2.1 = st ∧ ∀ q, p ≤ q → q < p + k → vz_in D st q)) := by
  intro k
  induction k with
  | zero => intro p st c h; exact ⟨h, vz_grow_refl st, fun hc => ⟨hc, fun _ => ⟨rfl, fun q h1 h2 => absurd h2 (by omega)⟩⟩⟩
  | succ k ih =>
    intro p st c h
    cases hS : st.1 p with
    | none =>
      have e2 : vz_pass D (k + 1) p st c = vz_pass D k (p + 1) st c := by show (match st.1 p with | none => _ | some A => _) = _; rw [hS]
      rw [e2]
      obtain ⟨r1, r2, r3⟩ := ih (p + 1) st c h
      refine ⟨r1, r2, fun hc => ⟨(r3 hc).1, fun h0 => ⟨((r3 hc).2 h0).1, fun q h1 h2 => ?_⟩⟩⟩
      by_cases e : q = p
      · subst e; intro A hA; rw [hS] at hA; cases hA
      · exact ((r3 hc).2 h0).2 q (by omega) (by omega)
    | some A =>
      have hA := h p A hS
      have e2 : vz_pass D (k + 1) p st c = if (D p A).1 ≠ 0 then (((D p A).1, p), st, c) else vz_pass D k (p + 1) (vz_gos p (D p A).2 st).1 (c || (vz_gos p (D p A).2 st).2) := by show (match st.1 p with | none => _ | some A => _) = _; rw [hS]
      rw [e2]
      by_cases h0 : (D p A).1 = 0
      · rw [if_neg (fun z => z h0)]
        have hl := hD p A hA h0
        have g := vz_gos_ok (fr := p) hl h
        obtain ⟨r1, r2, r3⟩ := ih (p + 1) (vz_gos p (D p A).2 st).1 (c || (vz_gos p (D p A).2 st).2) g.1
        refine ⟨r1, vz_grow_trans g.2.1 r2, fun hc => ?_⟩
        obtain ⟨c1, c2⟩ := r3 hc
        rw [Bool.or_eq_false_iff] at c1
        have es := vz_gos_false (fr := p) hl h c1.2
        refine ⟨c1.1, fun hz => ?_⟩
        obtain ⟨w1, w2⟩ := c2 hz
        rw [es] at w1 w2
        rw [es]
        refine ⟨w1, fun q h1 h2 => ?_⟩
        by_cases e : q = p
        · subst e
          intro B hB
          rw [hS] at hB; cases hB
          have g2 := g.2.2
          rw [es] at g2
          exact ⟨h0, g2⟩
        · exact w2 q (by omega) (by omega)
      · rw [if_pos h0]
        exact ⟨h, vz_grow_refl st, fun hc => ⟨hc, fun z => absurd z h0⟩⟩
theorem vz_passes_fix {D : vz_D} (hD : vz_good D) (N : Nat) : ∀ (k : Nat) (st : vz_S), vz_okS st → (∃ A, st.1 0 = some A ∧ vt_leA A vt_start) → (vz_passes D N k st).1.1 = 0 → vz_fix D N (vz_passes D N k st).2 := by
  intro k
  induction k with
  | zero => intro st _ _ h; exact absurd h (show ¬ (10 : Nat) = 0 by decide)
  | succ k ih =>
    intro st hst ha h
    obtain ⟨r1, r2, r3⟩ := vz_pass_ok hD N 0 st false hst
    unfold vz_passes at h ⊢
    by_cases h0 : (vz_pass D N 0 st false).1.1 = 0
    · rw [if_neg (fun z => z h0)] at h ⊢
      by_cases hc : (vz_pass D N 0 st false).2.2 = true
      · rw [if_pos hc] at h ⊢
        obtain ⟨A, hA, lA⟩ := ha
        obtain ⟨A', hA', lA'⟩ := r2 0 A hA
        exact ih _ r1 ⟨A', hA', vt_leA_trans lA' lA⟩ h
      · rw [if_neg hc] at h ⊢
        have hc' : (vz_pass D N 0 st false).2.2 = false := by simpa using hc
        obtain ⟨w1, w2⟩ := (r3 hc').2 h0
        rw [w1]
        exact ⟨hst, ha, fun p hp => w2 p (Nat.zero_le p) (by omega)⟩
    · rw [if_pos h0] at h
      exact absurd h h0
