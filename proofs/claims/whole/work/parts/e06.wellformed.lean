/-! part e06: a program of which no place is wrong is well formed (gen/te06.py) -/
/-- an instruction keeps its limits -/
theorem vf_lim {f : vf_F} {q all lo hi : Nat} (h : vf_bI f q all lo hi = true) : vf_ok f ∧ vf_x f ∧ (f.kind = 0 → f.code = 24 ∧ (f.s ≠ 0 → 0 ≤ f.i)) ∧ (f.kind = 5 ∨ f.kind = 6 → (f.n = 8 → f.code = 133) ∧ (f.n = 9 → f.code = 149)) := by
  have k8 : f.kind < 8 := Nat.mod_lt _ (by decide)
  have kc : f.kind = f.code % 8 := rfl
  have b3 : ∀ {g : vf_F}, g.code / 8 % 2 ≠ 1 → g.bit3 = false := fun z => decide_eq_false z
  have zz := vf_z f
  by_cases k0 : f.kind = 0
  · have h := of_decide_eq_true ((vf_bI_0 k0).symm.trans h)
    obtain ⟨a1, a2, a3, a4, a5, a6, a7⟩ := h
    exact ⟨⟨fun z => by omega, fun z => by omega, fun z => by omega⟩, ⟨by omega, by omega, fun z => by omega, fun z => by omega, fun z => by omega, fun _ => ⟨a2, by omega⟩, fun z => by omega⟩, fun _ => ⟨a1, fun z => by omega⟩, fun z => by omega⟩
  by_cases k1 : f.kind = 1
  · have h := of_decide_eq_true ((vf_bI_1 k1).symm.trans h)
    obtain ⟨a1, a2, a3, a4⟩ := h
    exact ⟨⟨fun z => by omega, fun z => by omega, fun _ z => by omega⟩, ⟨by omega, by omega, fun z => by omega, fun _ => a2, fun z => by omega, fun z => by omega, fun z => by omega⟩, fun z => by omega, fun z => by omega⟩
  by_cases k2 : f.kind = 2
  · have h := of_decide_eq_true ((vf_bI_2 k2).symm.trans h)
    obtain ⟨a1, a2, a3⟩ := h
    exact ⟨⟨fun z => by omega, fun z => by omega, fun z => by omega⟩, ⟨by omega, by omega, fun z => by omega, fun z => by omega, fun z => by omega, fun z => by omega, fun z => by omega⟩, fun z => by omega, fun z => by omega⟩
  by_cases k3 : f.kind = 3
  · have h := of_decide_eq_true ((vf_bI_3 k3).symm.trans h)
    have a : f.d < 11 ∧ f.s < 11 ∧ (f.mode = 6 → vf_pT f) := by
      rcases h with h | h
      · exact ⟨h.2.2.1, h.2.2.2, fun z => by omega⟩
      · have y := h.2.2
        exact ⟨y.2.1, by have := y.2.2; omega, fun _ => y⟩
    exact ⟨⟨fun z => by omega, fun z => by omega, fun z => by omega⟩, ⟨a.1, a.2.1, fun z => by omega, fun z => by omega, fun _ m => by have y := (a.2.2 m).2.2; omega, fun z => by omega, fun z => by omega⟩, fun z => by omega, fun z => by omega⟩
  by_cases k56 : f.kind = 5 ∨ f.kind = 6
  · have h := of_decide_eq_true ((vf_bI_56 k56).symm.trans h)
    have a : f.d < 11 ∧ f.s < 11 ∧ (f.n = 0 → f.code / 8 % 2 ≠ 1) ∧ (f.n = 8 → f.code = 133) ∧ (f.n = 9 → f.code = 149) := by
      rcases h with h | h | h | h <;> omega
    exact ⟨⟨fun z => by omega, fun z => by omega, fun z => by omega⟩, ⟨a.1, a.2.1, fun z => by omega, fun z => by omega, fun z => by omega, fun z => by omega, fun _ z => b3 (a.2.2.1 z)⟩, fun z => by omega, fun _ => a.2.2.2⟩
  have k47 : f.kind = 4 ∨ f.kind = 7 := by omega
  have h := of_decide_eq_true ((vf_bI_47 k47).symm.trans h)
  have a : f.d ≤ 9 ∧ f.s < 11 ∧ f.n ≤ 13 ∧ (f.n = 8 → f.code / 8 % 2 ≠ 1) ∧ (f.n ≠ 13 → f.n ≠ 11 → f.o ≠ 0 → (f.n = 3 ∨ f.n = 9) ∧ f.o = 1) ∧ (f.n = 11 → f.o ≠ 0 → f.o = 8 ∨ f.o = 16 ∨ f.o = 32) ∧ (f.n = 13 → f.i = 16 ∨ f.i = 32 ∨ f.i = 64) := by
    obtain ⟨h0, h⟩ := h
    refine ⟨h0, ?_⟩
    rcases h with h | h | h | h | h
    · omega
    · omega
    · have s := h.2.1
      have s1 : f.s < 11 := by omega
      have n1 := h.1; have o1 := h.2.2
      clear s h
      omega
    · have s := h.2.1
      have s1 : f.s < 11 := by omega
      have n1 := h.1; have o1 := h.2.2
      clear s h
      omega
    · have s := h.2.2.2.2.2.1
      have s1 : f.s < 11 := by omega
      have n1 := h.1; have n2 := h.2.1; have n3 := h.2.2.1; have n4 := h.2.2.2.1; have n5 := h.2.2.2.2.1; have o1 := h.2.2.2.2.2.2
      clear s h
      omega
  obtain ⟨a1, a2, a3, a4, a5, a6, a7⟩ := a
  exact ⟨⟨fun _ z => a7 z, fun _ _ z y => a6 y z, fun z => by omega⟩, ⟨by omega, a2, fun _ => ⟨⟨a3, fun z => b3 (a4 z), a5, a6, a7⟩, by omega⟩, fun z => by omega, fun z => by omega, fun z => by omega, fun z => by omega⟩, fun z => by omega, fun z => by omega⟩
theorem vf_form_of {B : Nat → Nat} {N : Nat} (hN : 0 < N) (h1 : ∀ q, q < N → vf_g1 B N q = true) (h2 : ∀ q, q < N → vf_g2 B N q = true) : vf_form (vr_F B) N (vf_fs (vf_c B)) ∧ ∀ p, p < N → vf_fs (vf_c B) p = true → vf_x (vr_F B p) := by
  have P : ∀ p, p < N → vf_fs (vf_c B) p = true → vf_P B N p = true := fun p hp fs => by have := h1 p hp; unfold vf_g1 at this; rw [fs] at this; exact this
  have W : ∀ p, p < N → vf_fs (vf_c B) p = true → vf_W B N p := fun p hp fs => by have := h2 p hp; unfold vf_g2 at this; rw [fs] at this; exact of_decide_eq_true this
  refine ⟨⟨hN, rfl, fun p hp fs => ?_⟩, fun p hp fs => (vf_lim (P p hp fs)).2.1⟩
  obtain ⟨l1, l2, l3, l4⟩ := vf_lim (P p hp fs)
  obtain ⟨w1, w2⟩ := W p hp fs
  have f1 := @vf_fs1 B p fs
  have f2 := @vf_fs2 B p fs
  unfold vf_wel
  generalize vr_F B p = f at l1 l2 l3 l4 w1 w2 f1 f2 ⊢
  have kc : f.kind = f.code % 8 := rfl
  have nc : f.n = f.code / 16 := rfl
  refine ⟨l1, fun k s => (l3 k).2 s, fun k => ?_, fun k c5 c6 c9 => ?_, fun k c6 => ?_, fun k c6 c3 c9 => ?_⟩
  · have c := (l3 k).1
    have w3 : vf_nx f p < N := w2.elim (fun z => absurd z (by omega)) (fun z => z.elim (fun z => absurd z (by omega)) id)
    unfold vf_nx at w3; rw [if_pos c] at w3
    exact ⟨w3, (f2 c).2⟩
  · have c : f.code ≠ 24 := fun z => k (by omega)
    have w3 : vf_nx f p < N := w2.elim (fun z => absurd z (by omega)) (fun z => z.elim (fun z => absurd z (by omega)) id)
    unfold vf_nx at w3; rw [if_neg c] at w3
    exact ⟨w3, f1 c⟩
  · have w3 := w1 ⟨k, by omega, by omega⟩
    unfold vf_gl at w3; rw [if_pos c6] at w3; exact w3
  · have w3 := w1 ⟨k, fun z => c3 ((l4 k).1 z), fun z => c9 ((l4 k).2 z)⟩
    unfold vf_gl at w3; rw [if_neg c6] at w3; exact w3