/-! part d09: the passes of the reference (gen/td09.py) -/
theorem vq_inner {K : Nat → Option (Nat × Nat)} {I0 : Nat → Nat → Int32} {L0 : Nat → Nat → Int64} {R : Nat → Nat → Value} {M : vf_M} {B : Nat → Nat} {N : Nat} {fst : Nat → Bool} (hW : jv_rW K R) (hM : vr_M I0 M) (hM8 : ∀ k, 8 ≤ k → M k = none) (hB : vr_tp I0 198 (8 * N) B) (hN : N ≤ 1024) (h40 : I0 196 4 = vl_I N) (hF : vf_form (vr_F B) N fst) (hX : ∀ p, p < N → fst p = true → vf_x (vr_F B p)) (hZ6 : vb_toS (vr_S L0 6) = vb_just 0) {n sl : Nat} {Q : jv_R → Prop} : ∀ (k p : Nat) (st : vz_S) (b : Nat) (c : Bool) (I : Nat → Nat → Int32) (L : Nat → Nat → Int64), p + k = N → b + 2 * k + 2 < 2147483000 → vr_go M B N fst I0 L0 st b I L → I 196 17 = vr_b c → I 196 5 = 0 →
    ((vz_pass (vx_D M (vr_F B)) k p st c).1.1 ≠ 0 → ∀ I1 L1, I1 196 5 = vl_I (vz_pass (vx_D M (vr_F B)) k p st c).1.1 → vr_fr anyP vr_E4 I0 L0 I1 L1 → vr_j10 I1 → Q (some (.int (vl_I (vz_pass (vx_D M (vr_F B)) k p st c).1.2)), jv_H K I1 L1 R, n, sl)) →
    ((vz_pass (vx_D M (vr_F B)) k p st c).1.1 = 0 → ∀ I1 L1, vr_go M B N fst I0 L0 (vz_pass (vx_D M (vr_F B)) k p st c).2.1 (b + 2 * k) I1 L1 → I1 196 17 = vr_b (vz_pass (vx_D M (vr_F B)) k p st c).2.2 → I1 196 5 = 0 → I1 196 6 = I 196 6 → jv_Wp 314 9 [(0, .ref 196)] [] (jv_H K I1 L1 R) n sl Q) → jv_Wp 314 51 [(0, .ref 196), (1, .int (vl_I p))] [] (jv_H K I L R) n sl Q := by
  intro k
  induction k with
  | zero =>
    intro p st b c I L hpk hb g gc g5 HB HG
    exact vq_turn hW hM hM8 hB hN h40 hF hX hZ6 hpk (by omega) g gc (fun _ => HG rfl I L g gc g5 rfl) (fun z => absurd z (by omega)) (fun z => absurd z (by omega)) (fun z => absurd z (by omega))
  | succ k ih =>
    intro p st b c I L hpk hb g gc g5 HB HG
    refine vq_turn hW hM hM8 hB hN h40 hF hX hZ6 hpk (by omega) g gc (fun z => absurd z (Nat.succ_ne_zero k)) (fun hp nn => ?_) (fun hp A hA r I1 L1 e5 fr j => ?_) (fun hp A hA r I1 L1 g' gc' g5' g6' => ?_)
    · rw [vz_pass_none nn] at HB HG
      exact ih (p + 1) st b c I L (by omega) (by omega) g gc g5 HB (fun z I1 L1 a1 a2 a3 a4 => HG z I1 L1 ⟨a1.1, a1.2.1, vz_rS_le a1.2.2.1 (by omega), a1.2.2.2⟩ a2 a3 a4)
    · rw [vz_pass_bad hA r] at HB
      exact HB r I1 L1 e5 fr j
    · rw [vz_pass_go hA r] at HB HG
      exact ih (p + 1) _ (b + 2) _ I1 L1 (by omega) (by omega) g' gc' g5' HB (fun z I2 L2 a1 a2 a3 a4 => HG z I2 L2 ⟨a1.1, a1.2.1, vz_rS_le a1.2.2.1 (by omega), a1.2.2.2⟩ a2 a3 (a4.trans g6'))
theorem vq_out_end {K : Nat → Option (Nat × Nat)} {I : Nat → Nat → Int32} {L : Nat → Nat → Int64} {R : Nat → Nat → Value} (hW : jv_rW K R) (g17 : I 196 17 = 0) {n sl : Nat} {Q : jv_R → Prop} (hQ : Q (some (.int (-1)), jv_H K I L R, n, sl)) : jv_Wp 314 9 [(0, .ref 196)] [] (jv_H K I L R) n sl Q := by
  refine jv_Wp.lift (fun _ Kz => jv_Ev.steps jv_i314 1 (pc' := 10) (l' := [(0, .ref 196)]) (st' := [.ref 196]) rfl Kz) ?_
  refine jv_Wp.lift (fun _ Kz => jv_Ev.m jv_i314 (pc' := 13) (st' := [.int (0 : Int32)]) (G' := (jv_H K I L R)) rfl rfl (jv_m_getI (jv_rwK hW 196 12 24 (by decide)) rfl rfl g17) Kz) ?_
  refine jv_Wp.lift (fun _ Kz => jv_Ev.br jv_i314 (pc' := 95) (st' := []) rfl (by rfl) Kz) ?_
  refine jv_Wp.lift (fun _ Kz => jv_Ev.steps jv_i314 1 (pc' := 96) (l' := [(0, .ref 196)]) (st' := [.int (-1 : Int32)]) rfl Kz) ?_
  refine jv_Wp.of (jv_Ev.ret jv_i314 rfl rfl) ?_
  exact hQ
theorem vq_out_stuck {K : Nat → Option (Nat × Nat)} {I0 I : Nat → Nat → Int32} {L0 L : Nat → Nat → Int64} {R : Nat → Nat → Value} {M : vf_M} {B : Nat → Nat} {N : Nat} {fst : Nat → Bool} {st : vz_S} {b : Nat} (hW : jv_rW K R) (g : vr_go M B N fst I0 L0 st b I L) (g17 : I 196 17 = 1) (g6 : I 196 6 = 256) {n sl : Nat} {Q : jv_R → Prop} (hQ : ∀ I1 L1, I1 196 5 = 10 → vr_fr anyP vr_E4 I0 L0 I1 L1 → vr_j10 I1 → Q (some (.int 0), jv_H K I1 L1 R, n, sl)) : jv_Wp 314 9 [(0, .ref 196)] [] (jv_H K I L R) n sl Q := by
  refine jv_Wp.lift (fun _ Kz => jv_Ev.steps jv_i314 1 (pc' := 10) (l' := [(0, .ref 196)]) (st' := [.ref 196]) rfl Kz) ?_
  refine jv_Wp.lift (fun _ Kz => jv_Ev.m jv_i314 (pc' := 13) (st' := [.int (1 : Int32)]) (G' := (jv_H K I L R)) rfl rfl (jv_m_getI (jv_rwK hW 196 12 24 (by decide)) rfl rfl g17) Kz) ?_
  refine jv_Wp.lift (fun _ Kz => jv_Ev.br jv_i314 (pc' := 16) (st' := []) rfl (by rfl) Kz) ?_
  refine jv_Wp.lift (fun _ Kz => jv_Ev.steps jv_i314 1 (pc' := 17) (l' := [(0, .ref 196)]) (st' := [.ref 196]) rfl Kz) ?_
  refine jv_Wp.lift (fun _ Kz => jv_Ev.m jv_i314 (pc' := 20) (st' := [.int (256 : Int32)]) (G' := (jv_H K I L R)) rfl rfl (jv_m_getI (jv_rwK hW 196 12 24 (by decide)) rfl rfl g6) Kz) ?_
  refine jv_Wp.lift (fun _ Kz => jv_Ev.steps jv_i314 1 (pc' := 23) (l' := [(0, .ref 196)]) (st' := [.int (256 : Int32), .int (256 : Int32)]) rfl Kz) ?_
  refine jv_Wp.lift (fun _ Kz => jv_Ev.br jv_i314 (pc' := 26) (st' := []) rfl (by rfl) Kz) ?_
  refine jv_Wp.lift (fun _ Kz => jv_Ev.steps jv_i314 2 (pc' := 29) (l' := [(0, .ref 196)]) (st' := [.int (10 : Int32), .ref 196]) rfl Kz) ?_
  refine jv_Wp.lift (fun _ Kz => jv_Ev.m jv_i314 (pc' := 32) (st' := []) (G' := (jv_H K (jv_u I 196 5 (10 : Int32)) L R)) rfl rfl (jv_m_putI (jv_rwK hW 196 12 24 (by decide)) rfl rfl rfl rfl) Kz) ?_
  refine jv_Wp.lift (fun _ Kz => jv_Ev.steps jv_i314 1 (pc' := 33) (l' := [(0, .ref 196)]) (st' := [.int (0 : Int32)]) rfl Kz) ?_
  refine jv_Wp.of (jv_Ev.ret jv_i314 rfl rfl) ?_
  have U := vr_go_up g 5 (by decide) (10 : Int32)
  exact hQ _ L (jv_u_self _ _ _ _) U.1 U.2.2.2
theorem vq_out_go {K : Nat → Option (Nat × Nat)} {I0 I : Nat → Nat → Int32} {L0 L : Nat → Nat → Int64} {R : Nat → Nat → Value} {M : vf_M} {B : Nat → Nat} {N : Nat} {fst : Nat → Bool} {st : vz_S} {b : Nat} (hW : jv_rW K R) {q : Nat} (g : vr_go M B N fst I0 L0 st b I L) (g17 : I 196 17 = 1) (g6 : I 196 6 = vl_I q) (g5 : I 196 5 = 0) (hq : q < 256) {n sl : Nat} {Q : jv_R → Prop} (cont : ∀ I1, vr_go M B N fst I0 L0 st b I1 L → I1 196 17 = vr_b false → I1 196 6 = vl_I (q + 1) → I1 196 5 = 0 → jv_Wp 314 51 [(0, .ref 196), (1, .int (vl_I 0))] [] (jv_H K I1 L R) n sl Q) : jv_Wp 314 9 [(0, .ref 196)] [] (jv_H K I L R) n sl Q := by
  refine jv_Wp.lift (fun _ Kz => jv_Ev.steps jv_i314 1 (pc' := 10) (l' := [(0, .ref 196)]) (st' := [.ref 196]) rfl Kz) ?_
  refine jv_Wp.lift (fun _ Kz => jv_Ev.m jv_i314 (pc' := 13) (st' := [.int (1 : Int32)]) (G' := (jv_H K I L R)) rfl rfl (jv_m_getI (jv_rwK hW 196 12 24 (by decide)) rfl rfl g17) Kz) ?_
  refine jv_Wp.lift (fun _ Kz => jv_Ev.br jv_i314 (pc' := 16) (st' := []) rfl (by rfl) Kz) ?_
  refine jv_Wp.lift (fun _ Kz => jv_Ev.steps jv_i314 1 (pc' := 17) (l' := [(0, .ref 196)]) (st' := [.ref 196]) rfl Kz) ?_
  refine jv_Wp.lift (fun _ Kz => jv_Ev.m jv_i314 (pc' := 20) (st' := [.int (vl_I q)]) (G' := (jv_H K I L R)) rfl rfl (jv_m_getI (jv_rwK hW 196 12 24 (by decide)) rfl rfl g6) Kz) ?_
  refine jv_Wp.lift (fun _ Kz => jv_Ev.steps jv_i314 1 (pc' := 23) (l' := [(0, .ref 196)]) (st' := [.int (256 : Int32), .int (vl_I q)]) rfl Kz) ?_
  refine jv_Wp.cnd jv_i314 (pt := 34) (pe := 26) (p := (¬ (vl_I q) = (256 : Int32))) (q := (¬ (vl_I q) = (256 : Int32))) rfl jv_bc_ne rfl rfl Iff.rfl (fun _ => ?_) (fun hz => absurd (fun z => by have y := (vl_I_inj (b := 256) (by omega) (by decide)).mp z; omega) hz)
  refine jv_Wp.lift (fun _ Kz => jv_Ev.steps jv_i314 2 (pc' := 36) (l' := [(0, .ref 196)]) (st' := [.int (0 : Int32), .ref 196]) rfl Kz) ?_
  refine jv_Wp.lift (fun _ Kz => jv_Ev.m jv_i314 (pc' := 39) (st' := []) (G' := (jv_H K (jv_u I 196 17 (0 : Int32)) L R)) rfl rfl (jv_m_putI (jv_rwK hW 196 12 24 (by decide)) rfl rfl rfl (jv_fit_b (Or.inl rfl))) Kz) ?_
  refine jv_Wp.lift (fun _ Kz => jv_Ev.steps jv_i314 2 (pc' := 41) (l' := [(0, .ref 196)]) (st' := [.ref 196, .ref 196]) rfl Kz) ?_
  refine jv_Wp.lift (fun _ Kz => jv_Ev.m jv_i314 (pc' := 44) (st' := [.int (vl_I q), .ref 196]) (G' := (jv_H K (jv_u I 196 17 (0 : Int32)) L R)) rfl rfl (jv_m_getI (jv_rwK hW 196 12 24 (by decide)) rfl rfl ((jv_u_j _ _ _ _ (by decide)).trans g6)) Kz) ?_
  refine jv_Wp.lift (fun _ Kz => jv_Ev.steps jv_i314 2 (pc' := 46) (l' := [(0, .ref 196)]) (st' := [.int ((vl_I q) + (1 : Int32)), .ref 196]) rfl Kz) ?_
  refine jv_Wp.lift (fun _ Kz => jv_Ev.m jv_i314 (pc' := 49) (st' := []) (G' := (jv_H K (jv_u (jv_u I 196 17 (0 : Int32)) 196 6 ((vl_I q) + (1 : Int32))) L R)) rfl rfl (jv_m_putI (jv_rwK hW 196 12 24 (by decide)) rfl rfl rfl rfl) Kz) ?_
  refine jv_Wp.lift (fun _ Kz => jv_Ev.steps jv_i314 2 (pc' := 51) (l' := [(1, .int (0 : Int32)), (0, .ref 196)]) (st' := []) rfl Kz) ?_
  refine jv_Wp.loc (l := [(0, .ref 196), (1, .int (0 : Int32))]) ⟨List.forall_mem_cons.mpr ⟨.tail _ (.head _), List.forall_mem_cons.mpr ⟨.head _, fun _ h => absurd h List.not_mem_nil⟩⟩, by show List.Nodup [1, 0]; decide⟩ ?_
  obtain ⟨J, hJ⟩ : ∃ J, J = (jv_u (jv_u I 196 17 (0 : Int32)) 196 6 ((vl_I q) + (1 : Int32))) := ⟨_, rfl⟩
  rw [← hJ]
  have U := vr_go_up (vr_go_up g 17 (by decide) (0 : Int32)) 6 (by decide) (vl_I q + (1 : Int32))
  rw [← show J = _ from hJ] at U
  have e17 : J 196 17 = vr_b false := by rw [hJ]; exact (jv_u_j _ _ _ _ (by decide)).trans (jv_u_self _ _ _ _)
  have e6 : J 196 6 = vl_I (q + 1) := by rw [hJ]; exact (jv_u_self _ _ _ _).trans (vl_I_p1 q)
  have e5 : J 196 5 = 0 := by rw [hJ]; exact (jv_u_j _ _ _ _ (by decide)).trans ((jv_u_j _ _ _ _ (by decide)).trans g5)
  exact cont J U e17 e6 e5
theorem vq_outer {K : Nat → Option (Nat × Nat)} {I0 : Nat → Nat → Int32} {L0 : Nat → Nat → Int64} {R : Nat → Nat → Value} {M : vf_M} {B : Nat → Nat} {N : Nat} {fst : Nat → Bool} (hW : jv_rW K R) (hM : vr_M I0 M) (hM8 : ∀ k, 8 ≤ k → M k = none) (hB : vr_tp I0 198 (8 * N) B) (hN : N ≤ 1024) (h40 : I0 196 4 = vl_I N) (hF : vf_form (vr_F B) N fst) (hX : ∀ p, p < N → fst p = true → vf_x (vr_F B p)) (hZ6 : vb_toS (vr_S L0 6) = vb_just 0) {n sl : Nat} {Q : jv_R → Prop} : ∀ (k q : Nat) (st : vz_S) (b : Nat) (I : Nat → Nat → Int32) (L : Nat → Nat → Int64), q + k = 256 → b + 2050 * k + 2 < 2147483000 → vr_go M B N fst I0 L0 st b I L → I 196 17 = 1 → I 196 6 = vl_I q → I 196 5 = 0 →
    (∀ I1 L1, I1 196 5 = vl_I (vz_passes (vx_D M (vr_F B)) N k st).1.1 → vr_fr anyP vr_E4 I0 L0 I1 L1 → vr_j10 I1 → Q (some (.int (if (vz_passes (vx_D M (vr_F B)) N k st).1.1 = 0 then -1 else vl_I (vz_passes (vx_D M (vr_F B)) N k st).1.2)), jv_H K I1 L1 R, n, sl)) → jv_Wp 314 9 [(0, .ref 196)] [] (jv_H K I L R) n sl Q := by
  intro k
  induction k with
  | zero =>
    intro q st b I L hq hb g g17 g6 g5 HQ
    have e : q = 256 := by omega
    subst e
    exact vq_out_stuck hW g g17 g6 (fun I1 L1 a1 a2 a3 => HQ I1 L1 a1 a2 a3)
  | succ k ih =>
    intro q st b I L hq hb g g17 g6 g5 HQ
    refine vq_out_go hW g g17 g6 g5 (by omega) (fun I1 g1 e17 e6 e5 => ?_)
    obtain ⟨P, hP⟩ : ∃ P, P = vz_pass (vx_D M (vr_F B)) N 0 st false := ⟨_, rfl⟩
    have cz : (vz_passes (vx_D M (vr_F B)) N (k + 1) st) = (if P.1.1 ≠ 0 then (P.1, P.2.1) else if P.2.2 = true then (vz_passes (vx_D M (vr_F B)) N k P.2.1) else ((0, 0), P.2.1)) := by rw [hP]; rfl
    refine vq_inner hW hM hM8 hB hN h40 hF hX hZ6 N 0 st b false I1 L (by omega) (by omega) g1 e17 e5 (fun r I2 L2 a1 a2 a3 => ?_) (fun r I2 L2 a1 a2 a3 a4 => ?_)
    · rw [← hP] at r a1 ⊢
      have c2 : (vz_passes (vx_D M (vr_F B)) N (k + 1) st).1 = P.1 := by rw [cz, if_pos r]
      rw [c2] at HQ
      have h := HQ I2 L2 a1 a2 a3
      rw [if_neg r] at h; exact h
    · rw [← hP] at r a1 a2
      by_cases ch : P.2.2 = true
      · have c2 : (vz_passes (vx_D M (vr_F B)) N (k + 1) st) = (vz_passes (vx_D M (vr_F B)) N k P.2.1) := by rw [cz, if_neg (fun z => z r), if_pos ch]
        rw [c2] at HQ
        rw [ch] at a2
        have a6 : I2 196 6 = vl_I (q + 1) := a4.trans e6
        exact ih (q + 1) P.2.1 (b + 2 * N) I2 L2 (by omega) (by omega) a1 a2 a6 a3 HQ
      · have c2 : (vz_passes (vx_D M (vr_F B)) N (k + 1) st).1 = (0, 0) := by rw [cz, if_neg (fun z => z r), if_neg ch]
        rw [c2] at HQ
        rw [Bool.eq_false_iff.mpr ch] at a2
        exact vq_out_end hW a2 (HQ I2 L2 a3 a1.1 a1.2.2.2)