/-! part g11: the class's maps against a state (a hand text: this part is the source) -/
def vk_tk (S : vm_S) (k e : Nat) : Nat := S.2 13 (4096 * k + e)
def vk_ky (S : vm_S) (k e j : Nat) : Nat := S.2 14 (131072 * k + 32 * e + j)
theorem vk_fi {g : Nat → Bool} : ∀ k p, p ≤ vf_fi g k p ∧ vf_fi g k p ≤ p + k ∧ (∀ q, p ≤ q → q < vf_fi g k p → g q = true) ∧ (vf_fi g k p < p + k → g (vf_fi g k p) = false)
  | 0, p => ⟨Nat.le_refl p, Nat.le_refl p, fun q a b => absurd (Nat.lt_of_le_of_lt a b) (Nat.lt_irrefl p), fun h => absurd h (Nat.lt_irrefl p)⟩
  | k + 1, p => by
    by_cases c : g p = true
    · have e : vf_fi g (k + 1) p = vf_fi g k (p + 1) := if_pos c
      obtain ⟨a1, a2, a3, a4⟩ := vk_fi (g := g) k (p + 1)
      rw [e]
      refine ⟨by omega, by omega, fun q b1 b2 => ?_, fun h => a4 (by omega)⟩
      by_cases z : q = p
      · rw [z]; exact c
      · exact a3 q (by omega) b2
    · have e : vf_fi g (k + 1) p = p := if_neg c
      rw [e]
      exact ⟨Nat.le_refl p, by omega, fun q a b => absurd (Nat.lt_of_le_of_lt a b) (Nat.lt_irrefl p), fun _ => by
        cases q : g p with
        | false => rfl
        | true => exact absurd q c⟩
theorem vm_has_e {S : vm_S} {k e : Nat} {key : Nat → Nat} : vm_has S k key e = (decide (vk_tk S k e = 1) && vk_eq (vk_ky S k e) key (S.2 9 k)) := rfl
/-- an entry is found: it is taken and has the key -/
theorem vm_ent_some {S : vm_S} {k e : Nat} {key : Nat → Nat} (h1 : S.2 8 k = 1) (h : vm_ent S k key = some e) : e < S.2 11 k ∧ vk_tk S k e = 1 ∧ vk_eq (vk_ky S k e) key (S.2 9 k) = true := by
  unfold vm_ent at h
  rw [if_neg (by omega)] at h
  obtain ⟨-, a2, a3, a4⟩ := vk_fi (g := fun e => !vm_has S k key e) (S.2 11 k) 0
  by_cases c : vm_look S k key < S.2 11 k
  · rw [if_pos c] at h
    have h := Option.some.inj h
    subst h
    have a4 := a4 (by rw [Nat.zero_add]; exact c)
    have y : vm_has S k key (vm_look S k key) = true := by
      cases q : vm_has S k key (vm_look S k key) with
      | true => rfl
      | false =>
        have a4 : (!vm_has S k key (vm_look S k key)) = false := a4
        rw [q] at a4; cases a4
    rw [vm_has_e, Bool.and_eq_true] at y
    exact ⟨c, of_decide_eq_true y.1, y.2⟩
  · rw [if_neg c] at h; cases h
theorem vm_ent_none {S : vm_S} {k : Nat} {key : Nat → Nat} (h1 : S.2 8 k = 1) (h : vm_ent S k key = none) : ∀ e, e < S.2 11 k → vk_tk S k e = 1 → vk_eq (vk_ky S k e) key (S.2 9 k) = false := by
  unfold vm_ent at h
  rw [if_neg (by omega)] at h
  by_cases c : vm_look S k key < S.2 11 k
  · rw [if_pos c] at h; cases h
  · intro e he t
    obtain ⟨-, a2, a3, -⟩ := vk_fi (g := fun e => !vm_has S k key e) (S.2 11 k) 0
    have y : (!vm_has S k key e) = true := a3 e (Nat.zero_le e) (Nat.lt_of_lt_of_le he (Nat.le_of_not_lt c))
    rw [vm_has_e, decide_eq_true t, Bool.true_and] at y
    cases q : vk_eq (vk_ky S k e) key (S.2 9 k) with
    | false => rfl
    | true => rw [q] at y; cases y
/-- no key stands in two entries that are taken -/
def vm_uq (S : vm_S) (k : Nat) : Prop := ∀ e e', e < S.2 11 k → e' < S.2 11 k → vk_tk S k e = 1 → vk_tk S k e' = 1 → (∀ j, j < S.2 9 k → vk_ky S k e j = vk_ky S k e' j) → e = e'
theorem vm_uq_e {S : vm_S} {k e x : Nat} {key : Nat → Nat} (hu : vm_uq S k) (he : e < S.2 11 k) (hx : x < S.2 11 k) (te : vk_tk S k e = 1) (tx : vk_tk S k x = 1) (ke : vk_eq (vk_ky S k e) key (S.2 9 k) = true) (kx : vk_eq (vk_ky S k x) key (S.2 9 k) = true) : x = e :=
  hu x e hx he tx te (fun j hj => (vk_eq_t.mp kx j hj).trans (vk_eq_t.mp ke j hj).symm)
/-- what the class's entryOf answers -/
def vk_res (o : Option Nat) : Int32 := match o with
  | some e => vl_I e
  | none => -1
/-- what is so of maps in every state (Z: how far a ring's tail may be) -/
def vm_ok (Z : Nat) (S : vm_S) : Prop := vm_sh S ∧ (∀ k, k < vm_cnt S → S.2 8 k = 1 → vm_uq S k) ∧ ∀ k, k < vm_cnt S → S.2 8 k = 2 → S.2 18 k ≤ 1 ∧ S.2 16 k ≤ S.2 15 k ∧ S.2 15 k ≤ S.2 16 k + S.2 11 k ∧ 16 * S.2 17 k ≤ S.2 15 k ∧ S.2 16 k ≤ Z
/-- the map k stands at the cell o -/
def vk_at (K : Nat → Option (Nat × Nat)) (I : Nat → Nat → Int32) (L : Nat → Nat → Int64) (R : Nat → Nat → Value) (S : vm_S) (k o : Nat) : Prop :=
  (I o 0 = vl_I (S.2 8 k) ∧ I o 1 = vl_I (S.2 9 k) ∧ I o 2 = vl_I (S.2 10 k) ∧ I o 3 = vl_I (S.2 11 k) ∧ R o 4 = .ref 6 ∧ I o 5 = vl_I (S.2 12 k) ∧ I o 6 = vl_I (vm_fill (S.2 10 k))) ∧
  (S.2 8 k = 0 → K o = some (0, 7)) ∧ (S.2 8 k = 1 → ∃ ch, vk_TW K R o (S.2 9 k) (S.2 11 k) ch ∧ vk_T I o (S.2 9 k) (S.2 11 k) ch (vk_tk S k) (vk_ky S k)) ∧
  (S.2 8 k = 2 → K o = some (4, 11) ∧ L o 7 = vm_J (S.2 15 k) ∧ L o 8 = vm_J (S.2 16 k) ∧ I o 9 = vl_I (S.2 17 k) ∧ I o 10 = vl_I (S.2 18 k))
/-- the class's maps: map k at the cell mo k -/
def vk_M (K : Nat → Option (Nat × Nat)) (I : Nat → Nat → Int32) (L : Nat → Nat → Int64) (R : Nat → Nat → Value) (S : vm_S) (mo : Nat → Nat) : Prop := I 2 7 = vl_I (vm_cnt S) ∧ (∀ k, k < vm_cnt S → R 7 k = .ref (mo k) ∧ 226 < mo k ∧ vk_at K I L R S k (mo k)) ∧ ∀ k k', k < k' → k' < vm_cnt S → mo k + 4 < mo k'
/-- the eight bytes of the area with which an entry's value begins -/
abbrev vk_grn (S : vm_S) (k e : Nat) : Nat := vm_at S k e / 8
def vk_gi (S : vm_S) (g k e i : Nat) : Prop := k < vm_cnt S ∧ S.2 8 k ≠ 2 ∧ e < S.2 11 k ∧ 8 * i < S.2 10 k ∧ g = vk_grn S k e + i
/-- of each eight bytes: how many are a value's, and which run was led there -/
def vk_G (I : Nat → Nat → Int32) (S : vm_S) : Prop := ∃ run, I 171 7 = vl_I run ∧ run ≤ 1073741824 ∧ (∀ g k e i, vk_gi S g k e i → I 8 g = vl_I (min 8 (S.2 10 k - 8 * i)) ∧ (S.2 8 k = 0 → I 9 g = -1) ∧ (S.2 8 k = 1 → ∃ x, I 9 g = vl_I x ∧ x ≤ run ∧ (x = run ↔ S.2 7 (4096 * k + e) = 1))) ∧ ∀ g, g < 8192 → (∀ k e i, ¬ vk_gi S g k e i) → I 8 g = 0
theorem vm_bg_8 {S : vm_S} (h : vm_sh S) : ∀ k, k ≤ vm_cnt S → vm_bg S k % 8 = 0
  | 0, _ => rfl
  | k + 1, hk => by
    have ih := vm_bg_8 h k (by omega)
    show (vm_bg S k + vm_szof S k) % 8 = 0
    have z : vm_szof S k % 8 = 0 := by
      unfold vm_szof
      rcases h.2.1 k (by omega) with y | y
      · rw [if_pos y.1]; exact y.2.2.2.2.2.1
      · rw [if_neg (by omega), Nat.mul_mod, (vm_fill_ge (S.2 10 k)).2.2, Nat.mul_zero, Nat.zero_mod]
    omega
theorem vm_at_8 {S : vm_S} (h : vm_sh S) {k e : Nat} (hk : k < vm_cnt S) : vm_at S k e % 8 = 0 := by
  unfold vm_at
  have a := vm_bg_8 h k (by omega)
  have b := h.2.2.1 k hk
  have c : e * vm_fill (S.2 10 k) % 8 = 0 := by rw [Nat.mul_mod, (vm_fill_ge (S.2 10 k)).2.2, Nat.mul_zero, Nat.zero_mod]
  omega
/-- the values of two entries have nothing in common -/
theorem vm_at_apart {S : vm_S} (h : vm_sh S) {k e k' e' : Nat} (hk : k < vm_cnt S) (hr : S.2 8 k ≠ 2) (he : e < S.2 11 k) (hk' : k' < vm_cnt S) (hr' : S.2 8 k' ≠ 2) (he' : e' < S.2 11 k') (hn : ¬ (k = k' ∧ e = e')) : vm_at S k e + vm_fill (S.2 10 k) ≤ vm_at S k' e' ∨ vm_at S k' e' + vm_fill (S.2 10 k') ≤ vm_at S k e := by
  have a := vm_at_in h hk hr he
  have a' := vm_at_in h hk' hr' he'
  rcases Nat.lt_trichotomy k k' with c | c | c
  · have := vm_bg_mono S (k := k + 1) (m := k') c
    exact Or.inl (by omega)
  · subst c
    rcases Nat.lt_trichotomy e e' with d | d | d
    · have y : (e + 1) * vm_fill (S.2 10 k) ≤ e' * vm_fill (S.2 10 k) := Nat.mul_le_mul_right _ d
      rw [Nat.add_mul, Nat.one_mul] at y
      exact Or.inl (by unfold vm_at; omega)
    · exact absurd ⟨rfl, d⟩ hn
    · have y : (e' + 1) * vm_fill (S.2 10 k) ≤ e * vm_fill (S.2 10 k) := Nat.mul_le_mul_right _ d
      rw [Nat.add_mul, Nat.one_mul] at y
      exact Or.inr (by unfold vm_at; omega)
  · have := vm_bg_mono S (k := k' + 1) (m := k) c
    exact Or.inr (by omega)
theorem vk_gi_at {S : vm_S} (h : vm_sh S) {g k e i : Nat} (hg : vk_gi S g k e i) : vm_at S k e = 8 * vk_grn S k e ∧ g < 8192 ∧ 8 * g = vm_at S k e + 8 * i ∧ vm_at S k e + S.2 10 k ≤ 65536 := by
  obtain ⟨h1, h2, h3, h4, h5⟩ := hg
  have a := vm_at_in h h1 h2 h3
  have b := vm_at_8 h (e := e) h1
  have c := vm_fill_ge (S.2 10 k)
  have d : vm_at S k e = 8 * vk_grn S k e := by show _ = 8 * (vm_at S k e / 8); omega
  refine ⟨d, by omega, by omega, by omega⟩
theorem vk_gi_u {S : vm_S} (h : vm_sh S) {g k e i k' e' i' : Nat} (hg : vk_gi S g k e i) (hg' : vk_gi S g k' e' i') : k = k' ∧ e = e' := by
  by_cases c : k = k' ∧ e = e'
  · exact c
  · have a := vk_gi_at h hg
    have a' := vk_gi_at h hg'
    have f := vm_fill_ge (S.2 10 k)
    have f' := vm_fill_ge (S.2 10 k')
    have := hg.2.2.2.1
    have := hg'.2.2.2.1
    rcases vm_at_apart h hg.1 hg.2.1 hg.2.2.1 hg'.1 hg'.2.1 hg'.2.2.1 c with z | z <;> omega
theorem vl_n1 {x : Nat} (h : x ≤ 1073741824) : vl_I x ≠ (-1 : Int32) := vl_I_n1 (by omega)
/-- the class's books of the area say what was found -/
theorem vk_led {I : Nat → Nat → Int32} {S : vm_S} (h : vm_sh S) (hG : vk_G I S) : ∀ q, q < 65536 → (vm_led S q ↔ vc_led I q) := by
  intro q hq
  obtain ⟨run, g1, g2, g3, g4⟩ := hG
  constructor
  · rintro ⟨k, e, h1, h2, h3, h4, h5, h6⟩
    have hg : vk_gi S (q / 8) k e ((q - vm_at S k e) / 8) := by
      have b := vm_at_8 h (e := e) h1
      exact ⟨h1, h2, h3, by omega, by show q / 8 = vm_at S k e / 8 + _; omega⟩
    obtain ⟨y1, y2, y3⟩ := g3 _ _ _ _ hg
    have y := vk_gi_at h hg
    refine ⟨?_, ?_⟩
    · rw [y1, vl_I_i (by omega)]; omega
    · rcases h6 with z | z
      · exact Or.inr (y2 z)
      · by_cases c : S.2 8 k = 0
        · exact Or.inr (y2 c)
        · obtain ⟨x, x1, x2, x3⟩ := y3 (by have := h.2.1 k h1; omega)
          exact Or.inl (by rw [x1, g1, x3.mpr z])
  · rintro ⟨c1, c2⟩
    by_cases c : ∃ k e i, vk_gi S (q / 8) k e i
    · obtain ⟨k, e, i, hg⟩ := c
      obtain ⟨y1, y2, y3⟩ := g3 _ _ _ _ hg
      have y := vk_gi_at h hg
      rw [y1, vl_I_i (by omega)] at c1
      refine ⟨k, e, hg.1, hg.2.1, hg.2.2.1, by omega, by omega, ?_⟩
      by_cases z : S.2 8 k = 0
      · exact Or.inl z
      · obtain ⟨x, x1, x2, x3⟩ := y3 (by have := h.2.1 k hg.1; have := hg.2.1; omega)
        refine Or.inr (x3.mp ?_)
        rw [x1, g1] at c2
        rcases c2 with c2 | c2
        · exact (vl_I_inj (by omega) (by omega)).mp c2
        · exact absurd c2 (vl_n1 (by omega))
    · have := g4 (q / 8) (by omega) (fun k e i z => c ⟨k, e, i, z⟩)
      rw [this] at c1
      exact absurd c1 (by rw [show (0 : Int32).toInt = 0 from rfl]; omega)
/-- the machine, its maps, what was found, and what is so of maps -/
def vk_all (Z : Nat) (K : Nat → Option (Nat × Nat)) (I : Nat → Nat → Int32) (L : Nat → Nat → Int64) (R : Nat → Nat → Value) (S : vm_S) (mo : Nat → Nat) : Prop := vm_c I L S ∧ vk_M K I L R S mo ∧ vk_G I S ∧ vm_ok Z S
theorem vk_at_B {Z : Nat} {K : Nat → Option (Nat × Nat)} {I : Nat → Nat → Int32} {L : Nat → Nat → Int64} {R : Nat → Nat → Value} {S : vm_S} {k o : Nat} (hC : vm_CW K R) (h : vk_at K I L R S k o) (hok : vm_ok Z S) (hk : k < vm_cnt S) (hr : S.2 8 k ≠ 2) : vk_B K I R o (S.2 12 k) (vm_fill (S.2 10 k)) (S.2 10 k) (S.2 11 k) := by
  obtain ⟨⟨b0, b1, b2, b3, b4, b5, b6⟩, -⟩ := h
  have s := hok.1
  have e : 1 ≤ S.2 11 k := by
    rcases s.2.1 k hk with y | y
    · exact absurd y.1 hr
    · omega
  have y := vm_at_in s hk hr (show S.2 11 k - 1 < S.2 11 k by omega)
  refine ⟨vm_cK hC 6 101 65536 (by decide), b4, b5, b6, b2, (vm_fill_ge _).1, e, ?_⟩
  have z : S.2 11 k * vm_fill (S.2 10 k) = (S.2 11 k - 1) * vm_fill (S.2 10 k) + vm_fill (S.2 10 k) := by
    rw [← Nat.succ_mul]; congr 1; omega
  unfold vm_at at y
  omega
