/-! part e19: class and reference find the same wrong place (a hand text: this part is the source) -/
theorem vf_fi_eq {g g' : Nat → Bool} : ∀ (k p : Nat), (∀ q, p ≤ q → q < p + k → g q = g' q) → vf_fi g k p = vf_fi g' k p
  | 0, _, _ => rfl
  | k + 1, p, h => by
    show (if g p = true then vf_fi g k (p + 1) else p) = (if g' p = true then vf_fi g' k (p + 1) else p)
    rw [h p (Nat.le_refl p) (by omega), vf_fi_eq k (p + 1) (fun q a b => h q (by omega) (by omega))]
theorem vf_fs_eq {c c' : Nat → Nat} {N : Nat} (h : ∀ q, q < N → c q = c' q) : ∀ p, p ≤ N → vf_fs c p = vf_fs c' p
  | 0, _ => rfl
  | p + 1, hp => by
    show (!(vf_fs c p && decide (c p = 24))) = (!(vf_fs c' p && decide (c' p = 24)))
    rw [vf_fs_eq h p (by omega), h p (by omega)]
theorem vf_bI_end {f : vf_F} {N lo hi lo' hi' : Nat} : vf_bI f N N lo hi = vf_bI f N N lo' hi' := by
  unfold vf_bI
  rw [show decide (vf_p0 f N N lo hi) = false from decide_eq_false (fun z => absurd z.2.2.2.2.1 (Nat.lt_irrefl N)), show decide (vf_p0 f N N lo' hi') = false from decide_eq_false (fun z => absurd z.2.2.2.2.1 (Nat.lt_irrefl N))]
theorem vf_second {B : Nat → Nat} {N : Nat} (h1 : ∀ q, q < N → vf_g1 B N q = true) : ∀ p, p ≤ N → (vf_fs (vf_c B) p = false ↔ 0 < p ∧ B (8 * (p - 1)) = 24)
  | 0, _ => ⟨fun z => Bool.noConfusion z, fun z => absurd z.1 (Nat.lt_irrefl 0)⟩
  | p + 1, hp => by
    have ih := vf_second h1 p (by omega)
    have e : (8 * (p + 1 - 1)) = 8 * p := by omega
    rw [e]
    rw [vf_fs_s]
    constructor
    · intro z
      have z : (vf_fs (vf_c B) p && decide (B (8 * p) = 24)) = true := by simpa using z
      exact ⟨Nat.succ_pos p, of_decide_eq_true (Bool.and_eq_true_iff.mp z).2⟩
    · intro z
      have fs : vf_fs (vf_c B) p = true := by
        cases hh : vf_fs (vf_c B) p with
        | true => rfl
        | false =>
          exfalso
          obtain ⟨a, b⟩ := ih.mp hh
          obtain ⟨r, rfl⟩ : ∃ r, p = r + 1 := ⟨p - 1, by omega⟩
          have e : 8 * (r + 1 - 1) = 8 * r := by omega
          rw [e] at b
          have fr : vf_fs (vf_c B) r = true := by
            cases hr : vf_fs (vf_c B) r with
            | true => rfl
            | false => exfalso; rw [vf_fs_s, hr] at hh; exact Bool.noConfusion hh
          have P : vf_P B N r = true := by
            have y := h1 r (by omega)
            unfold vf_g1 at y; rw [fr] at y; exact y
          have kc : (vr_F B r).kind = 0 := by show B (8 * r) % 8 = 0; omega
          have p0 := of_decide_eq_true ((vf_bI_0 kc).symm.trans P)
          have lo := p0.2.2.2.2.2.1
          unfold vr_n4 at lo
          have z2 := z.2
          rw [show 8 * (r + 1) = 8 * r + 8 by omega] at z2
          omega
      rw [fs, show decide (vf_c B p = 24) = true from decide_eq_true z.2]; rfl
theorem vf_go_fst {B : Nat → Nat} {W : Nat → Int64} {N : Nat} (hF : ∀ p, p < N → vc_F (W p) = vr_F B p) (h1 : ∀ q, q < N → vf_g1 B N q = true) (g : Int) : vc_fst W N g ↔ vf_go (vf_c B) N g := by
  refine ⟨fun z => ⟨z.1.1, z.1.2, ?_⟩, fun z => ⟨⟨z.1, z.2.1⟩, fun y => ?_⟩⟩
  · cases hh : vf_fs (vf_c B) g.toNat with
    | true => rfl
    | false =>
      have hn : g.toNat < N := by omega
      have y := (vf_second h1 g.toNat (by omega)).mp hh
      refine absurd ⟨by omega, by omega, ?_⟩ z.2
      rw [hF _ (by omega)]; exact y.2
  · have hn : g.toNat < N := by omega
    have k : vf_fs (vf_c B) g.toNat = false := (vf_second h1 g.toNat (by omega)).mpr ⟨by omega, by have w := y.2.2; rw [hF _ (by omega)] at w; exact w⟩
    exact Bool.noConfusion (k.symm.trans z.2.2)
theorem vc_bad_eq {B : Nat → Nat} {W : Nat → Int64} {N T : Nat} (hF : ∀ p, p < N → vc_F (W p) = vr_F B p) (hlo : ∀ p, p + 1 < N → vc_N (W (p + 1)) % 4294967296 = vr_n4 B (8 * p + 8)) (hhi : ∀ p, p + 1 < N → vc_N (W (p + 1)) / 4294967296 = vr_n4 B (8 * p + 12)) : vc_bad W N (decide (T % 8 ≠ 0)) = vf_bad B N T := by
  have hc : ∀ q, q < N → vc_c W q = vf_c B q := fun q hq => by show (vc_F (W q)).code = _; rw [hF q hq]; rfl
  have hs := vf_fs_eq hc
  have e1 : ∀ q, q < N → vc_g1 W N q = vf_g1 B N q := fun q hq => by
    unfold vc_g1 vf_g1 vc_bI
    rw [hs q (by omega), hF q hq]
    refine congrArg (fun z => !vf_fs (vf_c B) q || z) ?_
    by_cases h : q + 1 < N
    · rw [hlo q h, hhi q h]
    · have : q + 1 = N := by omega
      unfold vf_P; rw [this]; exact vf_bI_end
  have f1 : vf_fi (vc_g1 W N) N 0 = vf_fi (vf_g1 B N) N 0 := vf_fi_eq N 0 (fun q _ b => e1 q (by omega))
  unfold vc_bad vf_bad
  rw [f1]
  by_cases c1 : vf_fi (vf_g1 B N) N 0 < N
  · rw [if_pos c1, if_pos c1]
  rw [if_neg c1, if_neg c1]
  have h1 : ∀ q, q < N → vf_g1 B N q = true := fun q hq => vf_fi_all N 0 (by omega) q (Nat.zero_le q) (by omega)
  by_cases c2 : T % 8 ≠ 0 ∨ N = 0
  · rw [if_pos c2, if_pos (c2.imp (fun z => decide_eq_true z) id)]
  rw [if_neg c2, if_neg (fun z => c2 (z.imp (fun y => of_decide_eq_true y) id))]
  have e2 : ∀ q, q < N → vc_g2 W N q = vf_g2 B N q := fun q hq => by
    have sec : decide (vc_sec W N q) = !vf_fs (vf_c B) q := by
      have y := vf_second h1 q (by omega)
      have k : vc_sec W N q ↔ vf_fs (vf_c B) q = false := by
        rw [y]
        refine ⟨fun z => ⟨by omega, ?_⟩, fun z => ⟨by omega, by omega, ?_⟩⟩
        · have w := z.2.2; rw [hF _ (by omega)] at w; exact w
        · rw [hF _ (by omega)]; exact z.2
      cases hh : vf_fs (vf_c B) q with
      | true => exact decide_eq_false (fun z => by rw [k, hh] at z; exact Bool.noConfusion z)
      | false => exact decide_eq_true (k.mpr hh)
    unfold vc_g2 vf_g2
    rw [sec]
    cases hh : vf_fs (vf_c B) q with
    | false => rfl
    | true =>
      refine congrArg (fun z => !true || z) (decide_eq_decide.mpr ?_)
      rw [hF q hq]
      have P : vf_P B N q = true := by have y := h1 q hq; unfold vf_g1 at y; rw [hh] at y; exact y
      have lim := (vf_lim P).2.2.2
      have gf := vf_go_fst hF h1 (vf_gl (vr_F B q) q)
      obtain ⟨f, hf⟩ : ∃ f, f = vr_F B q := ⟨_, rfl⟩
      unfold vf_W vc_gw
      rw [← hf] at lim gf ⊢
      have kc : f.kind = f.code % 8 := rfl
      have nc : f.n = f.code / 16 := rfl
      obtain ⟨A, hA⟩ : ∃ A : Prop, A = vc_fst W N (vf_gl f q) := ⟨_, rfl⟩
      obtain ⟨A', hA'⟩ : ∃ A : Prop, A = vf_go (vf_c B) N (vf_gl f q) := ⟨_, rfl⟩
      rw [← hA, ← hA'] at gf ⊢
      obtain ⟨M, hM⟩ : ∃ A : Prop, A = (vf_nx f q < N) := ⟨_, rfl⟩
      rw [← hM]
      have bb : f.code ≠ 149 → (vc_bj f ↔ vf_b4 f) := fun z => ⟨fun y => ⟨y.1, fun n8 => y.2 ((lim y.1).1 n8), fun n9 => z ((lim y.1).2 n9)⟩, fun y => ⟨y.1, fun c => by have := y.2.1; omega⟩⟩
      constructor
      · intro z
        rcases z with z | z | z
        · exact ⟨fun b => absurd b.2.2 (by omega), Or.inr (Or.inl z)⟩
        · exact ⟨fun _ => gf.mp z.2, Or.inl z.1⟩
        · exact ⟨fun b => gf.mp (z.2.1 ((bb z.1.1).mpr b)), Or.inr (Or.inr z.2.2)⟩
      · intro z
        by_cases c149 : f.code = 149
        · exact Or.inl c149
        · by_cases c5 : f.code = 5 ∨ f.code = 6
          · exact Or.inr (Or.inl ⟨c5, gf.mpr (z.1 ⟨by omega, by omega, by omega⟩)⟩)
          · refine Or.inr (Or.inr ⟨⟨c149, fun y => c5 (Or.inl y), fun y => c5 (Or.inr y)⟩, fun y => gf.mpr (z.1 ((bb c149).mp y)), ?_⟩)
            rcases z.2 with y | y | y
            · exact absurd y c5
            · exact absurd y c149
            · exact y
  rw [vf_fi_eq N 0 (fun q _ b => e2 q (by omega))]
