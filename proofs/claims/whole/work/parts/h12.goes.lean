/-! part h12: a certificate's states are good ones; class and reference go on alike (a hand text: this part is the source) -/
section
variable {M : vf_M} {F : Nat → vf_F} {fst : Nat → Bool} {N : Nat}
/-- what all states are like while passes go over a program -/
def vz_q (N : Nat) (fst : Nat → Bool) (st : vz_S) : Prop := ∃ b, vz_rS N fst st b
/-- good states become good ones -/
abbrev vz_Dq (D : vz_D) (N : Nat) (fst : Nat → Bool) : Prop := ∀ p A, p < N → fst p = true → vt_okA A → vt_gA A → vt_10 A → ∀ e ∈ (D p A).2, vt_okA e.2 ∧ vt_gA e.2 ∧ vt_10 e.2 ∧ e.1.toNat < N ∧ fst e.1.toNat = true
theorem vz_pass_q {D : vz_D} (hD : vz_Dq D N fst) : ∀ (k p : Nat) (st : vz_S) (c : Bool), vz_q N fst st → vz_q N fst (vz_pass D k p st c).2.1
  | 0, _, _, _, h => h
  | k + 1, p, st, c, h => by
    unfold vz_pass
    split
    · exact vz_pass_q hD k (p + 1) st c h
    · next A hA =>
      split
      · exact h
      · obtain ⟨b, hb⟩ := h
        have a := hb.2.2.1 p (by rw [hA]; rfl)
        exact vz_pass_q hD k (p + 1) _ _ ⟨_, vz_gos_r _ hb (hD p A a.1 a.2 (hb.1 p A hA) (hb.2.1 p A hA) (hb.2.2.2.1 p A hA))⟩
theorem vz_passes_q {D : vz_D} (hD : vz_Dq D N fst) : ∀ (k : Nat) (st : vz_S), vz_q N fst st → vz_q N fst (vz_passes D N k st).2
  | 0, _, h => h
  | k + 1, st, h => by
    have y := vz_pass_q hD N 0 st false h
    unfold vz_passes
    split
    · exact y
    · split
      · exact vz_passes_q hD k _ y
      · exact y
theorem vz_start_q (hN : 0 < N) (h0 : fst 0 = true) : vz_q N fst vz_start := by
  have e : ∀ p A, vz_start.1 p = some A → p = 0 ∧ A = vt_start := fun p A h => by
    have h : (if p = 0 then some vt_start else none) = some A := h
    by_cases c : p = 0
    · rw [if_pos c] at h; exact ⟨c, (Option.some.inj h).symm⟩
    · rw [if_neg c] at h; cases h
  refine ⟨0, vz_start_ok, fun p A h => ?_, fun p h => ?_, fun p A h => ?_, fun p => Nat.le_refl 0⟩
  · rw [(e p A h).2]; exact vt_start_g
  · obtain ⟨A, hA⟩ := Option.isSome_iff_exists.mp h
    rw [(e p A hA).1]; exact ⟨hN, h0⟩
  · rw [(e p A h).2]; exact vt_start_10
/-- what is known of an accepted program's words -/
def vs_F (F : Nat → vf_F) (N : Nat) (fst : Nat → Bool) : Prop := vf_form F N fst ∧ ∀ p, p < N → fst p = true → vf_ok (F p) ∧ vf_x (F p) ∧ (-2147483648 ≤ (F p).i ∧ (F p).i ≤ 2147483647) ∧ ((F p).kind = 0 → (F p).s ≠ 0 → (F (p + 1)).i = 0)
/-- states, one for a place, that look after themselves -/
def vs_C (M : vf_M) (F : Nat → vf_F) (N : Nat) (fst : Nat → Bool) (st : vz_S) : Prop := vz_q N fst st ∧ (∃ A, st.1 0 = some A ∧ vt_leA A vt_start) ∧ ∀ p A, st.1 p = some A → (vx_D M F p A).1 = 0 ∧ ∀ e ∈ (vx_D M F p A).2, ∃ C, st.1 e.1.toNat = some C ∧ vt_leA C e.2
theorem vs_cert (hM8 : ∀ k, 8 ≤ k → M k = none) (hF : vs_F F N fst) {k : Nat} (h : (vz_passes (vx_D M F) N k vz_start).1.1 = 0) : ∃ st, vs_C M F N fst st := by
  obtain ⟨hf, hw⟩ := hF
  have hok : ∀ p, p < N → fst p = true → vf_ok (F p) ∧ (F p).d < 16 ∧ (F p).s < 16 := fun p a b => ⟨(hw p a b).1, by have := (hw p a b).2.1.1; omega, by have := (hw p a b).2.1.2.1; omega⟩
  have at0 := vz_start_onP (fst := fst) hf.1 hf.2.1
  have y := vz_passes_P (D := vx_D M F) (D' := vx_D' M F fst N) N (fun p A h => vx_D'_eq h) (vx_D_next hf) k vz_start at0
  rw [y.1] at h
  obtain ⟨a, b, c⟩ := vz_passes_fix (vx_D'_good (M := M) hok) N k vz_start vz_start_ok ⟨vt_start, rfl, vt_leA_refl _⟩ h
  have hDq : vz_Dq (vx_D' M F fst N) N fst := fun p A hp hs oA gA tA e he => by
    rw [← vx_D'_eq ⟨hp, hs⟩] at he
    have u := hok p hp hs
    have g := hf.2.2 p hp hs
    have t := vx_does_to g e he
    exact ⟨vx_does_ok u.1 u.2.1 u.2.2 oA e he, vx_does_g hM8 u.2.1 u.2.2 g.2.1 oA gA e he, (vx_does_10 (hw p hp hs).2.1 tA).1 e he, by omega, t.2.2⟩
  refine ⟨(vz_passes (vx_D' M F fst N) N k vz_start).2, vz_passes_q hDq k vz_start (vz_start_q hf.1 hf.2.1), b, fun p A hA => ?_⟩
  have hp := y.2 p A hA
  have w := c p hp.1 A hA
  rw [← vx_D'_eq hp] at w
  exact w
/-- two machines stand at a place, each as the certificate's state says -/
def vs_at (M : vf_M) (st : vz_S) (p : Nat) (SE1 AB1 : Int) (S1 : vm_S) (SE2 AB2 : Int) (S2 : vm_S) : Prop := ∃ A w rho wn we wb, st.1 p = some A ∧ vs_O M w A ∧ vs_A SE1 AB1 w rho wn we wb A S1 ∧ vs_A SE2 AB2 w rho wn we wb A S2
/-- they go on, to the same place -/
theorem vs_goes {st : vz_S} {p : Nat} {SE1 AB1 : Int} {S1 : vm_S} {SE2 AB2 : Int} {S2 : vm_S} (b1 : vs_b SE1 AB1) (b2 : vs_b SE2 AB2) (hF : vs_F F N fst) (hC : vs_C M F N fst st) (h : vs_at M st p SE1 AB1 S1 SE2 AB2 S2) (h9 : (F p).kind = 5 ∨ (F p).kind = 6 → (F p).code ≠ 149) : ∃ q T1 T2, q < N ∧ fst q = true ∧ vm_step SE1 AB1 (F p) (F (p + 1)).i p S1 = some ((q : Int), T1) ∧ vm_step SE2 AB2 (F p) (F (p + 1)).i p S2 = some ((q : Int), T2) ∧ vs_at M st q SE1 AB1 T1 SE2 AB2 T2 := by
  obtain ⟨A, w, rho, wn, we, wb, hA, hO, h1, h2⟩ := h
  obtain ⟨⟨b, hb⟩, _, hc⟩ := hC
  have hp := hb.2.2.1 p (by rw [hA]; rfl)
  obtain ⟨ok, hx, hi, hw⟩ := hF.2 p hp.1 hp.2
  have g := hF.1.2.2 p hp.1 hp.2
  obtain ⟨c1, c2⟩ := hc p A hA
  obtain ⟨q, B, w', rho', wn', we', wb', hm, hO', H⟩ := vs_step (i2 := (F (p + 1)).i) (p := p) hO (hb.1 p A hA) (hb.2.1 p A hA) ok (fun z => (hx.2.2.1 z).1) ok.2.2 hx.1 hx.2.1 hi (fun z y => ⟨hw z y, g.2.1 z y⟩) h9 c1 ⟨SE1, AB1, S1, b1, h1⟩
  obtain ⟨C, hC, lC⟩ := c2 _ hm
  have t := vx_does_to g _ hm
  have t1 : 0 ≤ q := t.1
  have t2 : q < N := t.2.1
  obtain ⟨T1, e1, a1⟩ := H SE1 AB1 S1 b1 h1
  obtain ⟨T2, e2, a2⟩ := H SE2 AB2 S2 b2 h2
  have eq : ((q.toNat : Nat) : Int) = q := Int.toNat_of_nonneg t1
  refine ⟨q.toNat, T1, T2, by omega, t.2.2, by rw [eq]; exact e1, by rw [eq]; exact e2, C, w', rho', wn', we', vs_sb B wn' wb', hC, ?_, vs_le lC a1, vs_le lC a2⟩
  obtain ⟨o1, o2, o3, o4⟩ := hO'
  exact ⟨o1, o2, Int.le_trans lC.2 o3, o4⟩
/-- at an exit both tell the same number -/
theorem vs_exits {st : vz_S} {p : Nat} {SE1 AB1 : Int} {S1 : vm_S} {SE2 AB2 : Int} {S2 : vm_S} (hC : vs_C M F N fst st) (h : vs_at M st p SE1 AB1 S1 SE2 AB2 S2) (hk : (F p).kind = 5 ∨ (F p).kind = 6) (h9 : (F p).code = 149) : ∃ v, vm_rd S1 0 = some v ∧ vm_rd S2 0 = some v := by
  obtain ⟨A, w, rho, wn, we, wb, hA, hO, h1, h2⟩ := h
  obtain ⟨c1, _⟩ := hC.2.2 p A hA
  have e : vx_D M F p A = (vx_isnum A 0 6, []) := vx_do149 hk h9
  rw [e] at c1
  have n0 := vx_isnum0 (by decide) c1
  have x1 := vs_rd h1 (r := 0) (by decide) (by rw [n0]; decide)
  have x2 := vs_rd h2 (r := 0) (by decide) (by rw [n0]; decide)
  have e1 := (x1.2.1 n0).1; have e2 := (x2.2.1 n0).1
  refine ⟨S1.1 0 0, x1.1, ?_⟩
  rw [x2.1, show S2.1 0 0 = S1.1 0 0 from Int64.toBitVec_inj.mp (e2.trans e1.symm)]
/-- what both have in common at a place -/
theorem vs_same {st : vz_S} {p : Nat} {SE1 AB1 : Int} {S1 : vm_S} {SE2 AB2 : Int} {S2 : vm_S} (h : vs_at M st p SE1 AB1 S1 SE2 AB2 S2) : (∀ c, ¬ (1 ≤ c ∧ c ≤ 3) → S1.2 c = S2.2 c) ∧ S1.1 1 = S2.1 1 := by
  obtain ⟨A, w, rho, wn, we, wb, hA, hO, h1, h2⟩ := h
  exact ⟨fun c z => (h1.1.1 c z).trans (h2.1.1 c z).symm, h1.1.2.trans h2.1.2.symm⟩
end
