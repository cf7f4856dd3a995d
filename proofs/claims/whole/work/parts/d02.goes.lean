/-! part b36: where instructions go, by the form of a program -/
/-- a place is well formed, among N, of which fst are no second ones -/
def vf_wel (F : Nat → vf_F) (N : Nat) (fst : Nat → Bool) (p : Nat) : Prop :=
  vf_ok (F p) ∧ ((F p).kind = 0 → (F p).s ≠ 0 → 0 ≤ (F p).i) ∧ ((F p).kind = 0 → p + 2 < N ∧ fst (p + 2) = true) ∧
  ((F p).kind ≠ 0 → (F p).code ≠ 5 → (F p).code ≠ 6 → (F p).code ≠ 149 → p + 1 < N ∧ fst (p + 1) = true) ∧
  ((F p).kind = 5 ∨ (F p).kind = 6 → (F p).code = 6 → 0 ≤ (p : Int) + 1 + (F p).i ∧ (p : Int) + 1 + (F p).i < N ∧ fst ((p : Int) + 1 + (F p).i).toNat = true) ∧
  ((F p).kind = 5 ∨ (F p).kind = 6 → (F p).code ≠ 6 → (F p).code ≠ 133 → (F p).code ≠ 149 → 0 ≤ (p : Int) + 1 + (F p).o ∧ (p : Int) + 1 + (F p).o < N ∧ fst ((p : Int) + 1 + (F p).o).toNat = true)
/-- a program of N places that is well formed -/
def vf_form (F : Nat → vf_F) (N : Nat) (fst : Nat → Bool) : Prop := 0 < N ∧ fst 0 = true ∧ ∀ p, p < N → fst p = true → vf_wel F N fst p
theorem vx_one_e {r : Nat × vt_A} {q : Int} {e : Int × vt_A} (h : e ∈ (vx_one r q).2) : e.1 = q := by
  unfold vx_one at h
  by_cases c : r.1 ≠ 0
  · rw [if_pos c] at h; exact absurd h List.not_mem_nil
  · rw [if_neg c] at h; rw [List.mem_singleton.mp h]
theorem vx_does_to {M : vf_M} {F : Nat → vf_F} {N : Nat} {fst : Nat → Bool} {i2 : Int} {p : Nat} {A : vt_A} (h : vf_wel F N fst p) : ∀ e ∈ (vx_does M (F p) i2 p A).2, 0 ≤ e.1 ∧ e.1 < N ∧ fst e.1.toNat = true := by
  obtain ⟨h1, h2, h3, h4, h5, h6⟩ := h
  have k8 : (F p).kind < 8 := Nat.mod_lt _ (by decide)
  have kc : (F p).kind = (F p).code % 8 := rfl
  have nx : ∀ (k : Nat) (e : Int × vt_A), e.1 = (p : Int) + k → p + k < N ∧ fst (p + k) = true → 0 ≤ e.1 ∧ e.1 < N ∧ fst e.1.toNat = true := fun k e he z => by
    rw [he]
    have q : ((p : Int) + k).toNat = p + k := by omega
    rw [q]; exact ⟨by omega, by omega, z.2⟩
  by_cases k0 : (F p).kind = 0
  · rw [vx_do0 k0]; exact fun e he => nx 2 e (vx_one_e he) (h3 k0)
  have n1 : (F p).code ≠ 5 → (F p).code ≠ 6 → (F p).code ≠ 149 → ∀ e : Int × vt_A, e.1 = (p : Int) + 1 → 0 ≤ e.1 ∧ e.1 < N ∧ fst e.1.toNat = true := fun a b c e he => nx 1 e he (h4 k0 a b c)
  by_cases k1 : (F p).kind = 1
  · rw [vx_do1 k1]; exact fun e he => n1 (by omega) (by omega) (by omega) e (vx_one_e he)
  by_cases k2 : (F p).kind = 2
  · rw [vx_do2 k2]; exact fun e he => n1 (by omega) (by omega) (by omega) e (vx_one_e he)
  by_cases k3 : (F p).kind = 3
  · by_cases m : (F p).mode = 6
    · rw [vx_do3a k3 m]; exact fun e he => n1 (by omega) (by omega) (by omega) e (vx_one_e he)
    · rw [vx_do3s k3 m]; exact fun e he => n1 (by omega) (by omega) (by omega) e (vx_one_e he)
  by_cases k4 : (F p).kind = 4 ∨ (F p).kind = 7
  · rw [vx_do4 k4]; exact fun e he => n1 (by omega) (by omega) (by omega) e (vx_one_e he)
  have kj : (F p).kind = 5 ∨ (F p).kind = 6 := by omega
  rw [vx_doj kj]
  by_cases c5 : (F p).code = 5
  · rw [if_pos c5]; exact fun e he => by rw [List.mem_singleton.mp he]; exact h6 kj (by omega) (by omega) (by omega)
  rw [if_neg c5]
  by_cases c6 : (F p).code = 6
  · rw [if_pos c6]; exact fun e he => by rw [List.mem_singleton.mp he]; exact h5 kj c6
  rw [if_neg c6]
  by_cases c133 : (F p).code = 133
  · rw [if_pos c133]; exact fun e he => n1 c5 c6 (by omega) e (vx_one_e he)
  rw [if_neg c133]
  by_cases c149 : (F p).code = 149
  · rw [if_pos c149]; exact fun e he => absurd he List.not_mem_nil
  rw [if_neg c149]
  dsimp only
  split
  · exact fun e he => absurd he List.not_mem_nil
  · intro e he
    rcases List.mem_append.mp he with he | he
    · cases c : (vx_jump (F p) A).2.1 with
      | none => rw [c] at he; exact absurd he List.not_mem_nil
      | some B => rw [c] at he; rw [List.mem_singleton.mp he]; exact n1 c5 c6 c149 _ rfl
    · cases c : (vx_jump (F p) A).2.2 with
      | none => rw [c] at he; exact absurd he List.not_mem_nil
      | some B => rw [c] at he; rw [List.mem_singleton.mp he]; exact h6 kj c6 c133 c149
/-- the places that have states, in a run of the passes: each is a first one of N -/
def vz_at (N : Nat) (fst : Nat → Bool) (st : vz_S) : Prop := ∀ p, (st.1 p).isSome = true → p < N ∧ fst p = true
/-- what is known of all states -/
def vz_gS (st : vz_S) : Prop := ∀ p A, st.1 p = some A → vt_gA A
theorem vz_go_g {fr q : Nat} {B : vt_A} {st : vz_S} {N : Nat} {fst : Nat → Bool} (hB : vt_okA B) (gB : vt_gA B) (hq : q < N ∧ fst q = true) (h : vz_okS st) (g : vz_gS st) (a : vz_at N fst st) : vz_gS (vz_go fr q B st).1 ∧ vz_at N fst (vz_go fr q B st).1 ∧ ∀ p, (vz_go fr q B st).1.2 p ≤ st.2 p + 1 := by
  cases hc : st.1 q with
  | none =>
    rw [vz_go_none hc]
    refine ⟨fun p A z => ?_, fun p z => ?_, fun p => ?_⟩
    · by_cases e : p = q
      · subst e
        have z : vz_u st.1 p (some B) p = some A := z
        rw [vz_u_self] at z; cases z; exact gB
      · have z : vz_u st.1 q (some B) p = some A := z
        rw [vz_u_ne _ _ e] at z; exact g p A z
    · by_cases e : p = q
      · subst e; exact hq
      · have z : (vz_u st.1 q (some B) p).isSome = true := z
        rw [vz_u_ne _ _ e] at z; exact a p z
    · show vz_u st.2 q 0 p ≤ _
      by_cases e : p = q
      · subst e; rw [vz_u_self]; omega
      · rw [vz_u_ne _ _ e]; omega
  | some C =>
    by_cases e : vt_meetA (decide (q ≤ fr ∧ 2 ≤ st.2 q)) C B = C
    · rw [vz_go_same hc e]
      exact ⟨g, a, fun p => Nat.le_succ _⟩
    · rw [vz_go_new hc e]
      have gm := vt_gA_meet (w := decide (q ≤ fr ∧ 2 ≤ st.2 q)) (h q C hc) hB (g q C hc)
      refine ⟨fun p A z => ?_, fun p z => ?_, fun p => ?_⟩
      · by_cases e : p = q
        · subst e
          have z : vz_u st.1 p (some _) p = some A := z
          rw [vz_u_self] at z; cases z; exact gm
        · have z : vz_u st.1 q (some _) p = some A := z
          rw [vz_u_ne _ _ e] at z; exact g p A z
      · by_cases e : p = q
        · subst e; exact hq
        · have z : (vz_u st.1 q (some _) p).isSome = true := z
          rw [vz_u_ne _ _ e] at z; exact a p z
      · show vz_u st.2 q (st.2 q + 1) p ≤ _
        by_cases e : p = q
        · subst e; rw [vz_u_self]; omega
        · rw [vz_u_ne _ _ e]; omega