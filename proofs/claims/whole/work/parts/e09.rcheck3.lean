/-! part e09: check, of the reference: all of it (gen/te08.py) -/
theorem vf_bad_none {B : Nat → Nat} {N T : Nat} (h : vf_bad B N T = none) : 0 < N ∧ (∀ q, q < N → vf_g1 B N q = true) ∧ ∀ q, q < N → vf_g2 B N q = true := by
  unfold vf_bad at h
  by_cases a : vf_fi (vf_g1 B N) N 0 < N
  · rw [if_pos a] at h; cases h
  · rw [if_neg a] at h
    by_cases b : T % 8 ≠ 0 ∨ N = 0
    · rw [if_pos b] at h; cases h
    · rw [if_neg b] at h
      by_cases c : vf_fi (vf_g2 B N) N 0 < N
      · rw [if_pos c] at h; cases h
      · exact ⟨by omega, fun q hq => vf_fi_all N 0 (by rw [Nat.zero_add]; exact a) q (by omega) (by omega), fun q hq => vf_fi_all N 0 (by rw [Nat.zero_add]; exact c) q (by omega) (by omega)⟩
theorem vf_bad_le {B : Nat → Nat} {N T k : Nat} (h : vf_bad B N T = some k) : k ≤ N := by
  unfold vf_bad at h
  by_cases a : vf_fi (vf_g1 B N) N 0 < N
  · rw [if_pos a] at h; cases h; omega
  · rw [if_neg a] at h
    by_cases b : T % 8 ≠ 0 ∨ N = 0
    · rw [if_pos b] at h; cases h; omega
    · rw [if_neg b] at h
      by_cases c : vf_fi (vf_g2 B N) N 0 < N
      · rw [if_pos c] at h; cases h; omega
      · rw [if_neg c] at h; cases h
/-- what a check answers: the place (or -1), and why -/
noncomputable def vr_ckv (M : vf_M) (B : Nat → Nat) (N T : Nat) : Int32 × Nat :=
  match vf_bad B N T with
  | some k => (vl_I k, 9)
  | none => ((if (vz_passes (vx_D M (vr_F B)) N 256 vz_start).1.1 = 0 then -1 else vl_I (vz_passes (vx_D M (vr_F B)) N 256 vz_start).1.2), (vz_passes (vx_D M (vr_F B)) N 256 vz_start).1.1)
/-- what a check may change -/
def vr_wfk (I : Nat → Nat → Int32) (L : Nat → Nat → Int64) (I1 : Nat → Nat → Int32) (L1 : Nat → Nat → Int64) : Prop := vr_fl I1 ∧ (∀ q f, ¬ (202 ≤ q ∧ q ≤ 207) → q ≠ 215 → ¬ (q = 198 ∧ f < 8192) → ¬ (q = 196 ∧ (f = 0 ∨ f = 2 ∨ 4 ≤ f)) → I1 q f = I q f) ∧ ∀ q f, ¬ (209 ≤ q ∧ q ≤ 214) → L1 q f = L q f
theorem vq_check {K : Nat → Option (Nat × Nat)} {I : Nat → Nat → Int32} {L : Nat → Nat → Int64} {R : Nat → Nat → Value} {M : vf_M} {B : Nat → Nat} {N T : Nat} (hW : jv_rW K R) (hf : vr_fl I) (hj : vr_j10 I) (hM : vr_M I M) (hM8 : ∀ k, 8 ≤ k → M k = none) (h : vr_tp I 197 T B) (hl : T ≤ 8192) (hT : T / 8 = N) (h2 : I 196 2 = vl_I T) {n sl : Nat} : ∃ I1 L1, jv_Ms 315 [.ref 196] (jv_H K I L R) n sl (some (.int (vr_ckv M B N T).1), jv_H K I1 L1 R, n, sl) ∧ I1 196 5 = vl_I (vr_ckv M B N T).2 ∧ vr_j10 I1 ∧ vr_wfk I L I1 L1 := by
  obtain ⟨Q, hQ⟩ : ∃ Q : jv_R → Prop, Q = fun X => ∃ I1 L1, X = (some (.int (vr_ckv M B N T).1), jv_H K I1 L1 R, n, sl) ∧ I1 196 5 = vl_I (vr_ckv M B N T).2 ∧ vr_j10 I1 ∧ vr_wfk I L I1 L1 := ⟨_, rfl⟩
  suffices h : jv_Wp 315 0 [(0, .ref 196)] [] (jv_H K I L R) n sl Q by
    rw [hQ] at h
    obtain ⟨X, h, I1, L1, e, h'⟩ := h
    subst e
    exact ⟨I1, L1, h, h'⟩
  have hN : N ≤ 1024 := by omega
  have hle : 8 * N ≤ T := by omega
  refine vq_ck_0 hW ((vi_div8 hl).trans (congrArg vl_I hT)) h2 ?_
  have F0 := vr_fr196 (L := L) hf 0 (0 : Int32)
  generalize jv_u I 196 0 (0 : Int32) = I0 at F0 ⊢
  refine vq_ck_13 hW hN (vr_fl_of F0) (vr_tp_fr F0 (Or.inl rfl) (fun j z => by omega) h) hl hle ((F0.2.1 196 2 (fun z => by omega) (by decide) (fun z => by omega)).trans h2) (fun I1 L1 F1 => ?_)
  have FF : vr_fr noP vr_E0 I L I1 L1 := vr_fr_trans (vr_fr_mono F0 (fun _ z => z) (fun q g z => ⟨z.1, Or.inl z.2⟩)) (vr_fr_mono F1 (fun _ z => z) (fun q g z => ⟨z.1, Or.inr z.2⟩))
  clear F0 F1
  refine jv_Wp.lift (fun _ Kz => jv_Ev.steps jv_i315 2 (pc' := 36) (l' := [(3, .int (vl_I 0)), (0, .ref 196), (1, .int (vl_I N)), (2, .int (vr_on (vf_bad B N T)))]) (st' := []) rfl Kz) ?_
  refine jv_Wp.loc (l := [(0, .ref 196), (1, .int (vl_I N)), (2, .int (vr_on (vf_bad B N T))), (3, .int (vl_I 0))]) ⟨List.forall_mem_cons.mpr ⟨.tail _ (.head _), List.forall_mem_cons.mpr ⟨.tail _ (.tail _ (.head _)), List.forall_mem_cons.mpr ⟨.tail _ (.tail _ (.tail _ (.head _))), List.forall_mem_cons.mpr ⟨.head _, fun _ h => absurd h List.not_mem_nil⟩⟩⟩⟩, by show List.Nodup [3, 0, 1, 2]; decide⟩ ?_
  refine vq_ck_36 (T := T) hW hN (fun I2 cp => ?_)
  have F2 : vr_fr noP (fun q g => q = 198 ∧ g < 8192) I1 L1 I2 L1 := ⟨fun q hq => (cp.2 215 q (fun z => by omega)).trans (vr_fl_of FF q hq), fun q f _ _ c => cp.2 q f (fun z => c ⟨by omega, z⟩), fun _ _ _ => rfl⟩
  have t1 : vr_tp I1 197 T B := vr_tp_fr FF (Or.inl rfl) (fun j z => by omega) h
  have t2 : vr_tp I2 198 (8 * N) B := fun i hi => ⟨(cp.1 i hi).trans (t1 i (by omega)).1, (h i (by omega)).2⟩
  have jj : vr_j10 I2 := by unfold vr_j10; rw [(vr_fr_i F2 (x := 76885) (fun z => z)).1, (vr_fr_i FF (x := 76885) (fun z => z)).1]; exact hj
  have m2 : vr_M I2 M := vr_M_fr F2 (fun q g a b z => by omega) (vr_M_fr FF (fun q g a b z => by omega) hM)
  have fin : ∀ I3 L3, vr_wfc I2 L1 I3 L3 → vr_wfk I L I3 L3 := fun I3 L3 w => ⟨w.1, fun q f a b c d => (w.2.1 q f a b (fun z => d ⟨z.1, by omega⟩)).trans ((cp.2 q f c).trans (FF.2.1 q f (fun z => a ⟨by omega, by omega⟩) b (fun z => d ⟨z.2.1, by have := z.2.2; omega⟩))), fun q f a => (w.2.2 q f a).trans (FF.2.2 q f (fun z => a ⟨z.1, z.2.1⟩))⟩
  cases hb : vf_bad B N T with
  | none =>
    obtain ⟨n0, g1, g2⟩ := vf_bad_none hb
    obtain ⟨hF, hX⟩ := vf_form_of n0 g1 g2
    have ev : vr_ckv M B N T = ((if (vz_passes (vx_D M (vr_F B)) N 256 vz_start).1.1 = 0 then -1 else vl_I (vz_passes (vx_D M (vr_F B)) N 256 vz_start).1.2), (vz_passes (vx_D M (vr_F B)) N 256 vz_start).1.1) := by unfold vr_ckv; rw [hb]
    exact vq_ck_62n (T := T) hW (vr_fl_of F2) jj m2 hM8 t2 hN hF hX (fun I3 L3 r5 r4 j w => by rw [hQ, ev]; exact ⟨I3, L3, rfl, r5, j, fin I3 L3 w⟩)
  | some k =>
    have ev : vr_ckv M B N T = (vl_I k, 9) := by unfold vr_ckv; rw [hb]
    exact vq_ck_62s (T := T) hW (vr_fl_of F2) jj (k := k) (by have := vf_bad_le hb; omega) (fun I3 L3 r5 r4 j w => by rw [hQ, ev]; exact ⟨I3, L3, rfl, r5, j, fin I3 L3 w⟩)