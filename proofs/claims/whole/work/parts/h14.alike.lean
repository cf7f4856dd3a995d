/-! part h14: what is known of an accepted program's words (a hand text: this part is the source) -/
theorem vs_bad_none {B : Nat → Nat} {N T : Nat} (h : vf_bad B N T = none) : T % 8 = 0 ∧ 0 < N ∧ (∀ q, q < N → vf_g1 B N q = true) ∧ ∀ q, q < N → vf_g2 B N q = true := by
  unfold vf_bad at h
  by_cases c1 : vf_fi (vf_g1 B N) N 0 < N
  · rw [if_pos c1] at h; cases h
  rw [if_neg c1] at h
  by_cases c2 : T % 8 ≠ 0 ∨ N = 0
  · rw [if_pos c2] at h; cases h
  rw [if_neg c2] at h
  by_cases c3 : vf_fi (vf_g2 B N) N 0 < N
  · rw [if_pos c3] at h; cases h
  exact ⟨by omega, by omega, fun q hq => vf_fi_all N 0 (by omega) q (Nat.zero_le _) (by omega), fun q hq => vf_fi_all N 0 (by omega) q (Nat.zero_le _) (by omega)⟩
theorem vr_32_b {n : Nat} (h : n < 4294967296) : -2147483648 ≤ vr_32 n ∧ vr_32 n ≤ 2147483647 := by
  unfold vr_32; split <;> omega
theorem vs_F_of {B : Nat → Nat} {N T : Nat} (hB : ∀ k, k < 8 * N → B k < 256) (h : vf_bad B N T = none) : vs_F (vr_F B) N (vf_fs (vf_c B)) := by
  obtain ⟨_, hN, h1, h2⟩ := vs_bad_none h
  have y := vf_form_of hN h1 h2
  refine ⟨y.1, fun p hp hs => ⟨(y.1.2.2 p hp hs).1, y.2 p hp hs, ?_, fun k s => ?_⟩⟩
  · have b4 := hB (8 * p + 4) (by omega)
    have b5 := hB (8 * p + 4 + 1) (by omega)
    have b6 := hB (8 * p + 4 + 2) (by omega)
    have b7 := hB (8 * p + 4 + 3) (by omega)
    have z : vr_n4 B (8 * p + 4) < 4294967296 := by unfold vr_n4; omega
    exact vr_32_b z
  · have P : vf_bI (vr_F B p) (p + 1) N (vr_n4 B (8 * p + 8)) (vr_n4 B (8 * p + 12)) = true := by
      have := h1 p hp
      unfold vf_g1 at this
      rw [hs] at this; exact this
    rw [vf_bI_0 k] at P
    obtain ⟨_, _, _, _, _, _, a7⟩ := of_decide_eq_true P
    have hi : vr_n4 B (8 * p + 12) = 0 := (a7.elim (fun z => absurd z s) id).2
    show vr_32 (vr_n4 B (8 * (p + 1) + 4)) = 0
    rw [show 8 * (p + 1) + 4 = 8 * p + 12 by omega, hi]; rfl
/-- accepted: the form is right, and the passes end with nothing -/
theorem vs_cert_of {M : vf_M} {B : Nat → Nat} {N T k : Nat} (hM8 : ∀ k, 8 ≤ k → M k = none) (hB : ∀ k, k < 8 * N → B k < 256) (h : vf_bad B N T = none) (hp : (vz_passes (vx_D M (vr_F B)) N k vz_start).1.1 = 0) : vs_F (vr_F B) N (vf_fs (vf_c B)) ∧ ∃ st, vs_C M (vr_F B) N (vf_fs (vf_c B)) st := ⟨vs_F_of hB h, vs_cert hM8 (vs_F_of hB h) hp⟩
/-- a program that was let in runs alike in both machines, from beginnings of one world on -/
theorem vs_alike {M : vf_M} {B : Nat → Nat} {N T k n : Nat} {w : vm_S} {SE1 AB1 SE2 AB2 : Int} {S1 S2 : vm_S} (hM8 : ∀ k, 8 ≤ k → M k = none) (hB : ∀ k, k < 8 * N → B k < 256) (h : vf_bad B N T = none) (hp : (vz_passes (vx_D M (vr_F B)) N k vz_start).1.1 = 0) (b1 : vs_b SE1 AB1) (b2 : vs_b SE2 AB2) (hw : vs_w M w) (h1 : vs_B SE1 w S1) (h2 : vs_B SE2 w S2) : ∃ m q v T1 T2, vm_go SE1 AB1 (vr_F B) n 0 S1 = some (m, q, v, T1) ∧ vm_go SE2 AB2 (vr_F B) n 0 S2 = some (m, q, v, T2) ∧ q < N ∧ vf_fs (vf_c B) q = true ∧ (∀ c, ¬ (1 ≤ c ∧ c ≤ 3) → T1.2 c = T2.2 c) ∧ T1.1 1 = T2.1 1 := by
  obtain ⟨hF, st, hC⟩ := vs_cert_of hM8 hB h hp
  exact vs_run b1 b2 hF hC n 0 S1 S2 (vs_begin hC hw h1 h2)
/-- the two machines' own places -/
theorem vs_bc : vs_b 1073750528 1073807360 := by omega
theorem vs_br : vs_b 1073750016 1073758208 := by omega
