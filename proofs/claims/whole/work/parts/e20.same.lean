/-! part e20: passes look at the first places of instructions alone; class and reference look with the same end (a hand text: this part is the source) -/
/-- states stand at places of P alone -/
def vz_onP (P : Nat → Prop) (st : vz_S) : Prop := ∀ q A, st.1 q = some A → P q
theorem vz_go_at {P : Nat → Prop} {fr q : Nat} {B : vt_A} {st : vz_S} (hq : P q) (h : vz_onP P st) : vz_onP P (vz_go fr q B st).1 := by
  have key : ∀ (X : vt_A) (ch : Nat → Nat), vz_onP P (vz_u st.1 q (some X), ch) := fun X ch r A e => by
    by_cases c : r = q
    · rw [c]; exact hq
    · exact h r A ((vz_u_ne st.1 (some X) c).symm.trans e)
  unfold vz_go
  split
  · exact key _ _
  · split
    · exact h
    · exact key _ _
theorem vz_gos_at {P : Nat → Prop} {fr : Nat} : ∀ {l : List (Int × vt_A)} {st : vz_S}, (∀ e ∈ l, P e.1.toNat) → vz_onP P st → vz_onP P (vz_gos fr l st).1
  | [], _, _, h => h
  | e :: l, st, hl, h => vz_gos_at (l := l) (fun x hx => hl x (List.mem_cons_of_mem _ hx)) (vz_go_at (hl e List.mem_cons_self) h)
theorem vz_pass_P {D D' : vz_D} {P : Nat → Prop} (hD : ∀ p A, P p → D p A = D' p A) (hn : ∀ p A, P p → ∀ e ∈ (D p A).2, P e.1.toNat) : ∀ (k p : Nat) (st : vz_S) (c : Bool), vz_onP P st → vz_pass D k p st c = vz_pass D' k p st c ∧ vz_onP P (vz_pass D' k p st c).2.1
  | 0, _, _, _, h => ⟨rfl, h⟩
  | k + 1, p, st, c, h => by
    unfold vz_pass
    split
    · exact vz_pass_P hD hn k (p + 1) st c h
    · next A hA =>
      have hp : P p := h p A hA
      rw [← hD p A hp]
      split
      · exact ⟨rfl, h⟩
      · exact vz_pass_P hD hn k (p + 1) _ _ (vz_gos_at (hn p A hp) h)
theorem vz_passes_P {D D' : vz_D} {P : Nat → Prop} (N : Nat) (hD : ∀ p A, P p → D p A = D' p A) (hn : ∀ p A, P p → ∀ e ∈ (D p A).2, P e.1.toNat) : ∀ (k : Nat) (st : vz_S), vz_onP P st → vz_passes D N k st = vz_passes D' N k st ∧ vz_onP P (vz_passes D' N k st).2
  | 0, _, h => ⟨rfl, h⟩
  | k + 1, st, h => by
    have y := vz_pass_P hD hn N 0 st false h
    unfold vz_passes
    rw [y.1]
    split
    · exact ⟨rfl, y.2⟩
    · split
      · exact vz_passes_P N hD hn k _ y.2
      · exact ⟨rfl, y.2⟩
theorem vz_gosF_at {P : Nat → Prop} {fr : Nat} : ∀ {l : List (Int × vt_A)} {st : vz_F}, (∀ e ∈ l, P e.1.toNat) → vz_onP P st.1 → vz_onP P (vz_gosF fr l st).1.1
  | [], _, _, h => h
  | e :: l, st, hl, h => vz_gosF_at (l := l) (fun x hx => hl x (List.mem_cons_of_mem _ hx)) (vz_go_at (hl e List.mem_cons_self) h)
theorem vz_passF_P {D D' : vz_D} {P : Nat → Prop} (hD : ∀ p A, P p → D p A = D' p A) (hn : ∀ p A, P p → ∀ e ∈ (D p A).2, P e.1.toNat) : ∀ (k p : Nat) (st : vz_F) (c : Bool), vz_onP P st.1 → vz_passF D k p st c = vz_passF D' k p st c ∧ vz_onP P (vz_passF D' k p st c).2.1.1
  | 0, _, _, _, h => ⟨rfl, h⟩
  | k + 1, p, st, c, h => by
    unfold vz_passF
    split
    · split
      · exact vz_passF_P hD hn k (p + 1) _ c h
      · next A hA =>
        have hp : P p := h p A hA
        rw [← hD p A hp]
        split
        · exact ⟨rfl, h⟩
        · exact vz_passF_P hD hn k (p + 1) _ _ (vz_gosF_at (st := (st.1, vz_u st.2 p false)) (hn p A hp) h)
    · exact vz_passF_P hD hn k (p + 1) st c h
theorem vz_passesF_P {D D' : vz_D} {P : Nat → Prop} (N : Nat) (hD : ∀ p A, P p → D p A = D' p A) (hn : ∀ p A, P p → ∀ e ∈ (D p A).2, P e.1.toNat) : ∀ (k : Nat) (st : vz_F), vz_onP P st.1 → vz_passesF D N k st = vz_passesF D' N k st
  | 0, _, _ => rfl
  | k + 1, st, h => by
    have y := vz_passF_P hD hn N 0 st false h
    unfold vz_passesF
    rw [y.1]
    split
    · rfl
    · split
      · exact vz_passesF_P N hD hn k _ y.2
      · rfl
abbrev vf_onP (fst : Nat → Bool) (N : Nat) : Nat → Prop := fun p => p < N ∧ fst p = true
/-- the same looks, but what isn't the first place of an instruction is refused -/
noncomputable def vx_D' (M : vf_M) (F : Nat → vf_F) (fst : Nat → Bool) (N : Nat) : vz_D := fun p A => if p < N ∧ fst p = true then vx_D M F p A else (1, [])
theorem vx_D'_eq {M : vf_M} {F : Nat → vf_F} {fst : Nat → Bool} {N p : Nat} {A : vt_A} (h : vf_onP fst N p) : vx_D M F p A = vx_D' M F fst N p A := (if_pos h).symm
theorem vx_D_next {M : vf_M} {F : Nat → vf_F} {fst : Nat → Bool} {N : Nat} (hf : vf_form F N fst) : ∀ p A, vf_onP fst N p → ∀ e ∈ (vx_D M F p A).2, vf_onP fst N e.1.toNat := fun p _ h e he => by
  have y := vx_does_to (hf.2.2 p h.1 h.2) e he
  exact ⟨by omega, y.2.2⟩
theorem vx_D'_good {M : vf_M} {F : Nat → vf_F} {fst : Nat → Bool} {N : Nat} (hok : ∀ p, p < N → fst p = true → vf_ok (F p) ∧ (F p).d < 16 ∧ (F p).s < 16) : vz_good (vx_D' M F fst N) := fun p A hA _ e he => by
  unfold vx_D' at he
  by_cases c : p < N ∧ fst p = true
  · rw [if_pos c] at he
    have y := hok p c.1 c.2
    exact vx_does_ok y.1 y.2.1 y.2.2 hA e he
  · rw [if_neg c] at he; exact absurd he List.not_mem_nil
theorem vz_start_onP {fst : Nat → Bool} {N : Nat} (hN : 0 < N) (h0 : fst 0 = true) : vz_onP (vf_onP fst N) vz_start := fun q A h => by
  by_cases c : q = 0
  · rw [c]; exact ⟨hN, h0⟩
  · exfalso; exact nomatch (show (if q = 0 then some vt_start else none) = some A from h).symm.trans (if_neg c)
theorem vx_D_same {M : vf_M} {F F' : Nat → vf_F} {fst : Nat → Bool} {N : Nat} (hf : vf_form F N fst) (hok : ∀ p, p < N → fst p = true → vf_ok (F p) ∧ (F p).d < 16 ∧ (F p).s < 16) (hF : ∀ p, p < N → F' p = F p) (hw : ∀ p, p < N → fst p = true → (F p).kind = 0 → p + 1 < N) (k : Nat) : (vz_passesF (vx_D M F') N k (vz_start, fun p => decide (p = 0))).1 = (vz_passes (vx_D M F) N k vz_start).1 := by
  have hne : ∀ f : vf_F, f.kind ≠ 0 → ∀ i j p A, vx_does M f i p A = vx_does M f j p A := fun f hk i j p A => by
    unfold vx_does
    rw [if_neg hk, if_neg hk]
  have e1 : ∀ p A, vf_onP fst N p → vx_D M F' p A = vx_D' M F fst N p A := fun p A h => by
    rw [← vx_D'_eq h]
    show vx_does M (F' p) (F' (p + 1)).i p A = vx_does M (F p) (F (p + 1)).i p A
    rw [hF p h.1]
    by_cases c : (F p).kind = 0
    · rw [hF (p + 1) (hw p h.1 h.2 c)]
    · exact hne _ c _ _ p A
  have at0 := vz_start_onP (fst := fst) hf.1 hf.2.1
  have n1 : ∀ p A, vf_onP fst N p → ∀ e ∈ (vx_D M F' p A).2, vf_onP fst N e.1.toNat := fun p A h e he => by
    rw [e1 p A h, ← vx_D'_eq h] at he
    exact vx_D_next hf p A h e he
  rw [vz_passesF_P N e1 n1 k (vz_start, fun p => decide (p = 0)) at0, (vz_passes_P (D := vx_D M F) (D' := vx_D' M F fst N) N (fun p A h => vx_D'_eq h) (vx_D_next hf) k vz_start at0).1]
  refine (vz_passes_same (vx_D'_good hok) N k _ ⟨vz_start_ok, fun p hp A hA => ?_⟩).1
  exfalso
  have c : p ≠ 0 := of_decide_eq_false hp
  exact nomatch (show (if p = 0 then some vt_start else none) = some A from hA).symm.trans (if_neg c)
/-- what an accepted program leaves -/
theorem vx_fix {M : vf_M} {F : Nat → vf_F} {fst : Nat → Bool} {N : Nat} (hf : vf_form F N fst) (hok : ∀ p, p < N → fst p = true → vf_ok (F p) ∧ (F p).d < 16 ∧ (F p).s < 16) {k : Nat} (h : (vz_passes (vx_D M F) N k vz_start).1.1 = 0) : ∃ st : vz_S, vz_okS st ∧ vz_onP (vf_onP fst N) st ∧ (∃ A, st.1 0 = some A ∧ vt_leA A vt_start) ∧ ∀ p A, st.1 p = some A → vf_onP fst N p ∧ vt_okA A ∧ (vx_D M F p A).1 = 0 ∧ ∀ e ∈ (vx_D M F p A).2, ∃ C, st.1 e.1.toNat = some C ∧ vt_leA C e.2 := by
  have at0 := vz_start_onP (fst := fst) hf.1 hf.2.1
  have y := vz_passes_P (D := vx_D M F) (D' := vx_D' M F fst N) N (fun p A h => vx_D'_eq h) (vx_D_next hf) k vz_start at0
  rw [y.1] at h
  obtain ⟨a, b, c⟩ := vz_passes_fix (vx_D'_good (M := M) hok) N k vz_start vz_start_ok ⟨vt_start, rfl, vt_leA_refl _⟩ h
  refine ⟨(vz_passes (vx_D' M F fst N) N k vz_start).2, a, y.2, b, fun p A hA => ?_⟩
  have hp := y.2 p A hA
  have w := c p hp.1 A hA
  rw [← vx_D'_eq hp] at w
  exact ⟨hp, a p A hA, w.1, w.2⟩
