/-! part e08: check, of the reference: the rest (gen/te07.py) -/
theorem vr_ck_J {I J : Nat → Nat → Int32} {v w : Int32} (hJ : J = (jv_u (jv_u (jv_u (jv_u I 196 2 (0 : Int32)) 196 6 (0 : Int32)) 196 5 v) 196 4 w)) : J 196 4 = w ∧ J 196 5 = v ∧ J 196 6 = 0 ∧ J 196 2 = 0 ∧ ∀ q f, ¬ (q = 196 ∧ (f = 2 ∨ (4 ≤ f ∧ f ≤ 6))) → J q f = I q f := by
  subst hJ
  refine ⟨jv_u_self _ _ _ _, (jv_u_j _ _ _ _ (by decide)).trans (jv_u_self _ _ _ _), (jv_u_j _ _ _ _ (by decide)).trans ((jv_u_j _ _ _ _ (by decide)).trans (jv_u_self _ _ _ _)), (jv_u_j _ _ _ _ (by decide)).trans ((jv_u_j _ _ _ _ (by decide)).trans ((jv_u_j _ _ _ _ (by decide)).trans (jv_u_self _ _ _ _))), fun q f a => ?_⟩
  have t : ∀ (j : Nat) (G : Nat → Nat → Int32) (z : Int32), (j = 2 ∨ (4 ≤ j ∧ j ≤ 6)) → jv_u G 196 j z q f = G q f := fun j G z hj => by
    by_cases e : q = 196
    · rw [e]; exact jv_u_j _ _ _ _ (fun y => a ⟨e, by omega⟩)
    · exact jv_u_o _ _ _ _ e
  rw [t 4 _ _ (by omega), t 5 _ _ (by omega), t 6 _ _ (by omega), t 2 _ _ (by omega)]
abbrev vr_Ec : Nat → Nat → Prop := fun q f => q = 196 ∧ (f = 2 ∨ (4 ≤ f ∧ f ≤ 6))
theorem vr_ck_F {I J : Nat → Nat → Int32} {L : Nat → Nat → Int64} {v w : Int32} (hf : vr_fl I) (hJ : J = (jv_u (jv_u (jv_u (jv_u I 196 2 (0 : Int32)) 196 6 (0 : Int32)) 196 5 v) 196 4 w)) : vr_fr noP vr_Ec I L J L :=
  ⟨fun q h => ((vr_ck_J hJ).2.2.2.2 215 q (fun z => by omega)).trans (hf q h), fun q f _ _ c => (vr_ck_J hJ).2.2.2.2 q f (fun z => c ⟨by omega, z⟩), fun _ _ _ => rfl⟩
theorem vq_ck_36t {K : Nat → Option (Nat × Nat)} {I : Nat → Nat → Int32} {L : Nat → Nat → Int64} {R : Nat → Nat → Value} {N T : Nat} (hW : jv_rW K R) (hN : N ≤ 1024) {w : Int32} {j : Nat} (hj : j ≤ 8 * N) {n sl : Nat} {Q : jv_R → Prop} (contE : 8 * N ≤ j → jv_Wp 315 62 [(0, .ref 196), (1, .int (vl_I N)), (2, .int w), (3, .int (vl_I j))] [] (jv_H K I L R) n sl Q) (contG : j < 8 * N → jv_Wp 315 36 [(0, .ref 196), (1, .int (vl_I N)), (2, .int w), (3, .int (vl_I (j + 1)))] [] (jv_H K (jv_u I 198 j (I 197 j)) L R) n sl Q) : jv_Wp 315 36 [(0, .ref 196), (1, .int (vl_I N)), (2, .int w), (3, .int (vl_I j))] [] (jv_H K I L R) n sl Q := by
  refine jv_Wp.lift (fun _ Kz => jv_Ev.steps jv_i315 4 (pc' := 41) (l' := [(0, .ref 196), (1, .int (vl_I N)), (2, .int w), (3, .int (vl_I j))]) (st' := [.int ((8 : Int32) * (vl_I N)), .int (vl_I j)]) rfl Kz) ?_
  refine jv_Wp.cnd jv_i315 (pt := 62) (pe := 44) (p := (((8 : Int32) * (vl_I N)) ≤ (vl_I j))) (q := (((8 : Int32) * (vl_I N)) ≤ (vl_I j))) rfl jv_bc_ge rfl rfl Iff.rfl (fun h1 => ?_) (fun h1 => ?_)
  · exact contE ((show ((8 : Int32) * (vl_I N)) ≤ (vl_I j) ↔ 8 * N ≤ j by rw [vi_mul8]; exact vl_I_le (by omega) (by omega)).mp h1)
  · refine jv_Wp.lift (fun _ Kz => jv_Ev.steps jv_i315 1 (pc' := 45) (l' := [(0, .ref 196), (1, .int (vl_I N)), (2, .int w), (3, .int (vl_I j))]) (st' := [.ref 196]) rfl Kz) ?_
    refine jv_Wp.lift (fun _ Kz => jv_Ev.m jv_i315 (pc' := 48) (st' := [.ref 198]) (G' := (jv_H K I L R)) rfl rfl (jv_m_getR (jv_rwK hW 196 12 24 (by decide)) rfl rfl (jv_rwR hW 196 3 198 (by decide))) Kz) ?_
    refine jv_Wp.lift (fun _ Kz => jv_Ev.steps jv_i315 2 (pc' := 50) (l' := [(0, .ref 196), (1, .int (vl_I N)), (2, .int w), (3, .int (vl_I j))]) (st' := [.ref 196, .int (vl_I j), .ref 198]) rfl Kz) ?_
    refine jv_Wp.lift (fun _ Kz => jv_Ev.m jv_i315 (pc' := 53) (st' := [.ref 197, .int (vl_I j), .ref 198]) (G' := (jv_H K I L R)) rfl rfl (jv_m_getR (jv_rwK hW 196 12 24 (by decide)) rfl rfl (jv_rwR hW 196 1 197 (by decide))) Kz) ?_
    refine jv_Wp.lift (fun _ Kz => jv_Ev.steps jv_i315 1 (pc' := 54) (l' := [(0, .ref 196), (1, .int (vl_I N)), (2, .int w), (3, .int (vl_I j))]) (st' := [.int (vl_I j), .ref 197, .int (vl_I j), .ref 198]) rfl Kz) ?_
    have qN : j < 8 * N := Nat.lt_of_not_le (fun z => h1 ((show ((8 : Int32) * (vl_I N)) ≤ (vl_I j) ↔ 8 * N ≤ j by rw [vi_mul8]; exact vl_I_le (by omega) (by omega)).mpr z))
    refine jv_Wp.lift (fun _ Kz => jv_Ev.m jv_i315 (pc' := 55) (st' := [.int (I 197 j), .int (vl_I j), .ref 198]) (G' := (jv_H K I L R)) rfl rfl (jv_m_ialdv (jv_rwK hW 197 102 8192 (by decide)) rfl (vl_I_ix (by omega) (by decide)) rfl ((congrArg (I 197) (vl_I_nat (by omega))).trans rfl)) Kz) ?_
    refine jv_Wp.lift (fun _ Kz => jv_Ev.m jv_i315 (pc' := 56) (st' := []) (G' := (jv_H K (jv_u I 198 j (I 197 j)) L R)) rfl rfl (by rw [jv_m_iast (jv_rwK hW 198 102 8192 (by decide)) (vl_I_ix (by omega) (by decide)), (vl_I_nat (by omega))]) Kz) ?_
    refine jv_Wp.lift (fun _ Kz => jv_Ev.steps jv_i315 2 (pc' := 36) (l' := [(3, .int ((vl_I j) + Int32.ofInt 1)), (0, .ref 196), (1, .int (vl_I N)), (2, .int w)]) (st' := []) rfl Kz) ?_
    refine jv_Wp.loc (l := [(0, .ref 196), (1, .int (vl_I N)), (2, .int w), (3, .int ((vl_I j) + Int32.ofInt 1))]) ⟨List.forall_mem_cons.mpr ⟨.tail _ (.head _), List.forall_mem_cons.mpr ⟨.tail _ (.tail _ (.head _)), List.forall_mem_cons.mpr ⟨.tail _ (.tail _ (.tail _ (.head _))), List.forall_mem_cons.mpr ⟨.head _, fun _ h => absurd h List.not_mem_nil⟩⟩⟩⟩, by show List.Nodup [3, 0, 1, 2]; decide⟩ ?_
    rw [show vl_I j + Int32.ofInt 1 = vl_I (j + 1) from vl_I_add j 1]
    exact contG qN
theorem vq_ck_36 {K : Nat → Option (Nat × Nat)} {I : Nat → Nat → Int32} {L : Nat → Nat → Int64} {R : Nat → Nat → Value} {N T : Nat} (hW : jv_rW K R) (hN : N ≤ 1024) {w : Int32} {n sl : Nat} {Q : jv_R → Prop} (cont : ∀ I1, vr_cp (8 * N) I I1 → jv_Wp 315 62 [(0, .ref 196), (1, .int (vl_I N)), (2, .int w), (3, .int (vl_I (8 * N)))] [] (jv_H K I1 L R) n sl Q) : jv_Wp 315 36 [(0, .ref 196), (1, .int (vl_I N)), (2, .int w), (3, .int (vl_I 0))] [] (jv_H K I L R) n sl Q := by
  have go : ∀ d j : Nat, j + d = 8 * N → ∀ I1, vr_cp j I I1 → jv_Wp 315 36 [(0, .ref 196), (1, .int (vl_I N)), (2, .int w), (3, .int (vl_I j))] [] (jv_H K I1 L R) n sl Q := by
    intro d
    induction d with
    | zero =>
      intro j hj I1 h
      have e : j = 8 * N := by omega
      subst e
      exact vq_ck_36t (T := T) hW hN (Nat.le_refl _) (fun _ => cont I1 h) (fun z => absurd z (by omega))
    | succ d ih =>
      intro j hj I1 h
      exact vq_ck_36t (T := T) hW hN (by omega) (fun z => absurd z (by omega)) (fun z => ih (j + 1) (by omega) _ (vr_cp_step (by omega) h))
  exact go (8 * N) 0 (by omega) I ⟨fun i hi => absurd hi (by omega), fun _ _ _ => rfl⟩
theorem vq_ck_99t {K : Nat → Option (Nat × Nat)} {I : Nat → Nat → Int32} {L : Nat → Nat → Int64} {R : Nat → Nat → Value} {N T : Nat} (hW : jv_rW K R) {w : Int32} {j : Nat} (hj : j ≤ 1024) {n sl : Nat} {Q : jv_R → Prop} (contE : 1024 ≤ j → jv_Wp 315 119 [(0, .ref 196), (1, .int (vl_I N)), (2, .int w), (3, .int (vl_I j))] [] (jv_H K I L R) n sl Q) (contG : j < 1024 → jv_Wp 315 99 [(0, .ref 196), (1, .int (vl_I N)), (2, .int w), (3, .int (vl_I (j + 1)))] [] (jv_H K (jv_u I 202 j ((0 : Int32) &&& 1)) L R) n sl Q) : jv_Wp 315 99 [(0, .ref 196), (1, .int (vl_I N)), (2, .int w), (3, .int (vl_I j))] [] (jv_H K I L R) n sl Q := by
  refine jv_Wp.lift (fun _ Kz => jv_Ev.steps jv_i315 2 (pc' := 103) (l' := [(0, .ref 196), (1, .int (vl_I N)), (2, .int w), (3, .int (vl_I j))]) (st' := [.int (1024 : Int32), .int (vl_I j)]) rfl Kz) ?_
  refine jv_Wp.cnd jv_i315 (pt := 119) (pe := 106) (p := ((1024 : Int32) ≤ (vl_I j))) (q := ((1024 : Int32) ≤ (vl_I j))) rfl jv_bc_ge rfl rfl Iff.rfl (fun h1 => ?_) (fun h1 => ?_)
  · exact contE ((vl_I_le (a := 1024) (by decide) (by omega)).mp h1)
  · refine jv_Wp.lift (fun _ Kz => jv_Ev.steps jv_i315 1 (pc' := 107) (l' := [(0, .ref 196), (1, .int (vl_I N)), (2, .int w), (3, .int (vl_I j))]) (st' := [.ref 196]) rfl Kz) ?_
    refine jv_Wp.lift (fun _ Kz => jv_Ev.m jv_i315 (pc' := 110) (st' := [.ref 202]) (G' := (jv_H K I L R)) rfl rfl (jv_m_getR (jv_rwK hW 196 12 24 (by decide)) rfl rfl (jv_rwR hW 196 10 202 (by decide))) Kz) ?_
    refine jv_Wp.lift (fun _ Kz => jv_Ev.steps jv_i315 2 (pc' := 112) (l' := [(0, .ref 196), (1, .int (vl_I N)), (2, .int w), (3, .int (vl_I j))]) (st' := [.int (0 : Int32), .int (vl_I j), .ref 202]) rfl Kz) ?_
    refine jv_Wp.lift (fun _ Kz => jv_Ev.m jv_i315 (pc' := 113) (st' := []) (G' := (jv_H K (jv_u I 202 j ((0 : Int32) &&& 1)) L R)) rfl rfl (by rw [jv_m_zast (jv_rwK hW 202 100 1028 (by decide)) (vl_I_ix (by omega) (by decide)), (vl_I_nat (by omega))]) Kz) ?_
    refine jv_Wp.lift (fun _ Kz => jv_Ev.steps jv_i315 2 (pc' := 99) (l' := [(3, .int ((vl_I j) + Int32.ofInt 1)), (0, .ref 196), (1, .int (vl_I N)), (2, .int w)]) (st' := []) rfl Kz) ?_
    refine jv_Wp.loc (l := [(0, .ref 196), (1, .int (vl_I N)), (2, .int w), (3, .int ((vl_I j) + Int32.ofInt 1))]) ⟨List.forall_mem_cons.mpr ⟨.tail _ (.head _), List.forall_mem_cons.mpr ⟨.tail _ (.tail _ (.head _)), List.forall_mem_cons.mpr ⟨.tail _ (.tail _ (.tail _ (.head _))), List.forall_mem_cons.mpr ⟨.head _, fun _ h => absurd h List.not_mem_nil⟩⟩⟩⟩, by show List.Nodup [3, 0, 1, 2]; decide⟩ ?_
    rw [show vl_I j + Int32.ofInt 1 = vl_I (j + 1) from vl_I_add j 1]
    exact contG (Nat.lt_of_not_le (fun z => h1 ((vl_I_le (a := 1024) (by decide) (by omega)).mpr z)))
theorem vq_ck_99 {K : Nat → Option (Nat × Nat)} {I : Nat → Nat → Int32} {L : Nat → Nat → Int64} {R : Nat → Nat → Value} {N T : Nat} (hW : jv_rW K R) {w : Int32} {n sl : Nat} {Q : jv_R → Prop} (cont : ∀ I1, vr_ha 1024 I I1 → jv_Wp 315 119 [(0, .ref 196), (1, .int (vl_I N)), (2, .int w), (3, .int (vl_I 1024))] [] (jv_H K I1 L R) n sl Q) : jv_Wp 315 99 [(0, .ref 196), (1, .int (vl_I N)), (2, .int w), (3, .int (vl_I 0))] [] (jv_H K I L R) n sl Q := by
  have go : ∀ d j : Nat, j + d = 1024 → ∀ I1, vr_ha j I I1 → jv_Wp 315 99 [(0, .ref 196), (1, .int (vl_I N)), (2, .int w), (3, .int (vl_I j))] [] (jv_H K I1 L R) n sl Q := by
    intro d
    induction d with
    | zero =>
      intro j hj I1 h
      have e : j = 1024 := by omega
      subst e
      exact vq_ck_99t (T := T) hW (Nat.le_refl _) (fun _ => cont I1 h) (fun z => absurd z (by omega))
    | succ d ih =>
      intro j hj I1 h
      exact vq_ck_99t (T := T) hW (by omega) (fun z => absurd z (by omega)) (fun z => ih (j + 1) (by omega) _ (fun q f a => (jv_u_o _ _ _ _ a).trans (h q f a)))
  exact go 1024 0 (by omega) I (fun _ _ _ => rfl)
/-- what a check may change of the checker's own cells -/
def vr_wfc (I : Nat → Nat → Int32) (L : Nat → Nat → Int64) (I1 : Nat → Nat → Int32) (L1 : Nat → Nat → Int64) : Prop := vr_fl I1 ∧ (∀ q f, ¬ (202 ≤ q ∧ q ≤ 207) → q ≠ 215 → ¬ (q = 196 ∧ (f = 2 ∨ 4 ≤ f)) → I1 q f = I q f) ∧ ∀ q f, ¬ (209 ≤ q ∧ q ≤ 214) → L1 q f = L q f
theorem vq_ck_62n {K : Nat → Option (Nat × Nat)} {I : Nat → Nat → Int32} {L : Nat → Nat → Int64} {R : Nat → Nat → Value} {N T : Nat} (hW : jv_rW K R) {M : vf_M} {B : Nat → Nat} (hf : vr_fl I) (hj : vr_j10 I) (hM : vr_M I M) (hM8 : ∀ k, 8 ≤ k → M k = none) (hB : vr_tp I 198 (8 * N) B) (hN : N ≤ 1024) (hF : vf_form (vr_F B) N (vf_fs (vf_c B))) (hX : ∀ p, p < N → vf_fs (vf_c B) p = true → vf_x (vr_F B p)) {n sl : Nat} {Q : jv_R → Prop} (HQ : ∀ I1 L1, I1 196 5 = vl_I (vz_passes (vx_D M (vr_F B)) N 256 vz_start).1.1 → I1 196 4 = vl_I N → vr_j10 I1 → vr_wfc I L I1 L1 → Q (some (.int (if (vz_passes (vx_D M (vr_F B)) N 256 vz_start).1.1 = 0 then -1 else vl_I (vz_passes (vx_D M (vr_F B)) N 256 vz_start).1.2)), jv_H K I1 L1 R, n, sl)) : jv_Wp 315 62 [(0, .ref 196), (1, .int (vl_I N)), (2, .int (-1 : Int32)), (3, .int (vl_I (8 * N)))] [] (jv_H K I L R) n sl Q := by
  refine jv_Wp.lift (fun _ Kz => jv_Ev.steps jv_i315 2 (pc' := 64) (l' := [(0, .ref 196), (1, .int (vl_I N)), (2, .int (-1 : Int32)), (3, .int (vl_I (8 * N)))]) (st' := [.int (0 : Int32), .ref 196]) rfl Kz) ?_
  refine jv_Wp.lift (fun _ Kz => jv_Ev.m jv_i315 (pc' := 67) (st' := []) (G' := (jv_H K (jv_u I 196 2 (0 : Int32)) L R)) rfl rfl (jv_m_putI (jv_rwK hW 196 12 24 (by decide)) rfl rfl rfl rfl) Kz) ?_
  refine jv_Wp.lift (fun _ Kz => jv_Ev.steps jv_i315 2 (pc' := 69) (l' := [(0, .ref 196), (1, .int (vl_I N)), (2, .int (-1 : Int32)), (3, .int (vl_I (8 * N)))]) (st' := [.int (0 : Int32), .ref 196]) rfl Kz) ?_
  refine jv_Wp.lift (fun _ Kz => jv_Ev.m jv_i315 (pc' := 72) (st' := []) (G' := (jv_H K (jv_u (jv_u I 196 2 (0 : Int32)) 196 6 (0 : Int32)) L R)) rfl rfl (jv_m_putI (jv_rwK hW 196 12 24 (by decide)) rfl rfl rfl rfl) Kz) ?_
  refine jv_Wp.lift (fun _ Kz => jv_Ev.steps jv_i315 3 (pc' := 75) (l' := [(0, .ref 196), (1, .int (vl_I N)), (2, .int (-1 : Int32)), (3, .int (vl_I (8 * N)))]) (st' := [.int (-1 : Int32), .int (-1 : Int32), .ref 196]) rfl Kz) ?_
  refine jv_Wp.lift (fun _ Kz => jv_Ev.br jv_i315 (pc' := 78) (st' := [.ref 196]) rfl (by rfl) Kz) ?_
  refine jv_Wp.lift (fun _ Kz => jv_Ev.steps jv_i315 2 (pc' := 84) (l' := [(0, .ref 196), (1, .int (vl_I N)), (2, .int (-1 : Int32)), (3, .int (vl_I (8 * N)))]) (st' := [.int (0 : Int32), .ref 196]) rfl Kz) ?_
  refine jv_Wp.lift (fun _ Kz => jv_Ev.m jv_i315 (pc' := 87) (st' := []) (G' := (jv_H K (jv_u (jv_u (jv_u I 196 2 (0 : Int32)) 196 6 (0 : Int32)) 196 5 (0 : Int32)) L R)) rfl rfl (jv_m_putI (jv_rwK hW 196 12 24 (by decide)) rfl rfl rfl rfl) Kz) ?_
  refine jv_Wp.lift (fun _ Kz => jv_Ev.steps jv_i315 2 (pc' := 89) (l' := [(0, .ref 196), (1, .int (vl_I N)), (2, .int (-1 : Int32)), (3, .int (vl_I (8 * N)))]) (st' := [.int (vl_I N), .ref 196]) rfl Kz) ?_
  refine jv_Wp.lift (fun _ Kz => jv_Ev.m jv_i315 (pc' := 92) (st' := []) (G' := (jv_H K (jv_u (jv_u (jv_u (jv_u I 196 2 (0 : Int32)) 196 6 (0 : Int32)) 196 5 (0 : Int32)) 196 4 (vl_I N)) L R)) rfl rfl (jv_m_putI (jv_rwK hW 196 12 24 (by decide)) rfl rfl rfl rfl) Kz) ?_
  refine jv_Wp.lift (fun _ Kz => jv_Ev.steps jv_i315 2 (pc' := 94) (l' := [(0, .ref 196), (1, .int (vl_I N)), (2, .int (-1 : Int32)), (3, .int (vl_I (8 * N)))]) (st' := [.int (-1 : Int32), .int (-1 : Int32)]) rfl Kz) ?_
  refine jv_Wp.lift (fun _ Kz => jv_Ev.br jv_i315 (pc' := 121) (st' := []) rfl (by rfl) Kz) ?_
  refine jv_Wp.lift (fun _ Kz => jv_Ev.steps jv_i315 1 (pc' := 122) (l' := [(0, .ref 196), (1, .int (vl_I N)), (2, .int (-1 : Int32)), (3, .int (vl_I (8 * N)))]) (st' := [.ref 196]) rfl Kz) ?_
  obtain ⟨J, hJ⟩ : ∃ J, J = (jv_u (jv_u (jv_u (jv_u I 196 2 (0 : Int32)) 196 6 (0 : Int32)) 196 5 (0 : Int32)) 196 4 (vl_I N)) := ⟨_, rfl⟩
  rw [← hJ]
  have F := vr_ck_F (L := L) hf hJ
  obtain ⟨j4, j5, j6, j2, jo⟩ := vr_ck_J hJ
  have jj : vr_j10 J := by unfold vr_j10; rw [(vr_fr_i F (x := 76885) (fun z => z)).1]; exact hj
  obtain ⟨I3, L3, H3, r5, wf, jf⟩ := vq_goOver (I := J) (L := L) (R := R) (n := n) (sl := sl) hW (vr_fl_of F) jj (vr_M_fr F (fun q g a b z => by omega) hM) hM8 (vr_tp_fr F (Or.inr rfl) (fun j z => by omega) hB) hN j4 hF hX j6 j5
  refine jv_Wp.lift (fun _ Kz => jv_Ev.c jv_i315 (pc' := 125) (S' := [.int (if (vz_passes (vx_D M (vr_F B)) N 256 vz_start).1.1 = 0 then -1 else vl_I (vz_passes (vx_D M (vr_F B)) N 256 vz_start).1.2)]) (G1 := (jv_H K I3 L3 R)) jv_i314 [.ref 196] rfl rfl rfl rfl (jv_cal rfl (jv_H_at (jv_rwK hW 196 12 24 (by decide))) rfl rfl) rfl H3 rfl rfl Kz) ?_
  refine jv_Wp.of (jv_Ev.ret jv_i315 rfl rfl) ?_
  exact HQ I3 L3 r5 ((wf.2.1 196 4 (fun z => by omega) (by decide) (fun z => by omega)).trans j4) jf ⟨wf.1, fun q f a b c => (wf.2.1 q f a b (fun z => c ⟨z.1, by omega⟩)).trans (jo q f (fun z => c ⟨z.1, by omega⟩)), wf.2.2⟩
theorem vq_ck_62s {K : Nat → Option (Nat × Nat)} {I : Nat → Nat → Int32} {L : Nat → Nat → Int64} {R : Nat → Nat → Value} {N T : Nat} (hW : jv_rW K R) (hf : vr_fl I) (hj : vr_j10 I) {k : Nat} (hk : k < 2147483648) {n sl : Nat} {Q : jv_R → Prop} (HQ : ∀ I1 L1, I1 196 5 = vl_I 9 → I1 196 4 = vl_I N → vr_j10 I1 → vr_wfc I L I1 L1 → Q (some (.int (vl_I k)), jv_H K I1 L1 R, n, sl)) : jv_Wp 315 62 [(0, .ref 196), (1, .int (vl_I N)), (2, .int (vl_I k)), (3, .int (vl_I (8 * N)))] [] (jv_H K I L R) n sl Q := by
  refine jv_Wp.lift (fun _ Kz => jv_Ev.steps jv_i315 2 (pc' := 64) (l' := [(0, .ref 196), (1, .int (vl_I N)), (2, .int (vl_I k)), (3, .int (vl_I (8 * N)))]) (st' := [.int (0 : Int32), .ref 196]) rfl Kz) ?_
  refine jv_Wp.lift (fun _ Kz => jv_Ev.m jv_i315 (pc' := 67) (st' := []) (G' := (jv_H K (jv_u I 196 2 (0 : Int32)) L R)) rfl rfl (jv_m_putI (jv_rwK hW 196 12 24 (by decide)) rfl rfl rfl rfl) Kz) ?_
  refine jv_Wp.lift (fun _ Kz => jv_Ev.steps jv_i315 2 (pc' := 69) (l' := [(0, .ref 196), (1, .int (vl_I N)), (2, .int (vl_I k)), (3, .int (vl_I (8 * N)))]) (st' := [.int (0 : Int32), .ref 196]) rfl Kz) ?_
  refine jv_Wp.lift (fun _ Kz => jv_Ev.m jv_i315 (pc' := 72) (st' := []) (G' := (jv_H K (jv_u (jv_u I 196 2 (0 : Int32)) 196 6 (0 : Int32)) L R)) rfl rfl (jv_m_putI (jv_rwK hW 196 12 24 (by decide)) rfl rfl rfl rfl) Kz) ?_
  refine jv_Wp.lift (fun _ Kz => jv_Ev.steps jv_i315 3 (pc' := 75) (l' := [(0, .ref 196), (1, .int (vl_I N)), (2, .int (vl_I k)), (3, .int (vl_I (8 * N)))]) (st' := [.int (-1 : Int32), .int (vl_I k), .ref 196]) rfl Kz) ?_
  refine jv_Wp.cnd jv_i315 (pt := 82) (pe := 78) (p := (¬ (vl_I k) = (-1 : Int32))) (q := (¬ (vl_I k) = (-1 : Int32))) rfl jv_bc_ne rfl rfl Iff.rfl (fun _ => ?_) (fun hz => absurd (vl_I_n1 hk) hz)
  refine jv_Wp.lift (fun _ Kz => jv_Ev.steps jv_i315 1 (pc' := 84) (l' := [(0, .ref 196), (1, .int (vl_I N)), (2, .int (vl_I k)), (3, .int (vl_I (8 * N)))]) (st' := [.int (9 : Int32), .ref 196]) rfl Kz) ?_
  refine jv_Wp.lift (fun _ Kz => jv_Ev.m jv_i315 (pc' := 87) (st' := []) (G' := (jv_H K (jv_u (jv_u (jv_u I 196 2 (0 : Int32)) 196 6 (0 : Int32)) 196 5 (9 : Int32)) L R)) rfl rfl (jv_m_putI (jv_rwK hW 196 12 24 (by decide)) rfl rfl rfl rfl) Kz) ?_
  refine jv_Wp.lift (fun _ Kz => jv_Ev.steps jv_i315 2 (pc' := 89) (l' := [(0, .ref 196), (1, .int (vl_I N)), (2, .int (vl_I k)), (3, .int (vl_I (8 * N)))]) (st' := [.int (vl_I N), .ref 196]) rfl Kz) ?_
  refine jv_Wp.lift (fun _ Kz => jv_Ev.m jv_i315 (pc' := 92) (st' := []) (G' := (jv_H K (jv_u (jv_u (jv_u (jv_u I 196 2 (0 : Int32)) 196 6 (0 : Int32)) 196 5 (9 : Int32)) 196 4 (vl_I N)) L R)) rfl rfl (jv_m_putI (jv_rwK hW 196 12 24 (by decide)) rfl rfl rfl rfl) Kz) ?_
  refine jv_Wp.lift (fun _ Kz => jv_Ev.steps jv_i315 2 (pc' := 94) (l' := [(0, .ref 196), (1, .int (vl_I N)), (2, .int (vl_I k)), (3, .int (vl_I (8 * N)))]) (st' := [.int (-1 : Int32), .int (vl_I k)]) rfl Kz) ?_
  refine jv_Wp.cnd jv_i315 (pt := 121) (pe := 97) (p := ((vl_I k) = (-1 : Int32))) (q := ((vl_I k) = (-1 : Int32))) rfl jv_bc_eq rfl rfl Iff.rfl (fun hz => absurd hz (vl_I_n1 hk)) (fun _ => ?_)
  refine jv_Wp.lift (fun _ Kz => jv_Ev.steps jv_i315 2 (pc' := 99) (l' := [(3, .int (0 : Int32)), (0, .ref 196), (1, .int (vl_I N)), (2, .int (vl_I k))]) (st' := []) rfl Kz) ?_
  refine jv_Wp.loc (l := [(0, .ref 196), (1, .int (vl_I N)), (2, .int (vl_I k)), (3, .int (0 : Int32))]) ⟨List.forall_mem_cons.mpr ⟨.tail _ (.head _), List.forall_mem_cons.mpr ⟨.tail _ (.tail _ (.head _)), List.forall_mem_cons.mpr ⟨.tail _ (.tail _ (.tail _ (.head _))), List.forall_mem_cons.mpr ⟨.head _, fun _ h => absurd h List.not_mem_nil⟩⟩⟩⟩, by show List.Nodup [3, 0, 1, 2]; decide⟩ ?_
  obtain ⟨J, hJ⟩ : ∃ J, J = (jv_u (jv_u (jv_u (jv_u I 196 2 (0 : Int32)) 196 6 (0 : Int32)) 196 5 (9 : Int32)) 196 4 (vl_I N)) := ⟨_, rfl⟩
  rw [← hJ]
  have F := vr_ck_F (L := L) hf hJ
  obtain ⟨j4, j5, j6, j2, jo⟩ := vr_ck_J hJ
  have jj : vr_j10 J := by unfold vr_j10; rw [(vr_fr_i F (x := 76885) (fun z => z)).1]; exact hj
  refine vq_ck_99 (T := T) hW (fun I1 h => ?_)
  refine jv_Wp.lift (fun _ Kz => jv_Ev.steps jv_i315 1 (pc' := 120) (l' := [(0, .ref 196), (1, .int (vl_I N)), (2, .int (vl_I k)), (3, .int (vl_I 1024))]) (st' := [.int (vl_I k)]) rfl Kz) ?_
  refine jv_Wp.of (jv_Ev.ret jv_i315 rfl rfl) ?_
  exact HQ I1 L ((h 196 5 (by decide)).trans j5) ((h 196 4 (by decide)).trans j4) (by unfold vr_j10; rw [h 205 76885 (by decide)]; exact jj) ⟨fun q hq => (h 215 q (by decide)).trans (vr_fl_of F q hq), fun q f a b c => (h q f (fun z => a (by omega))).trans (jo q f (fun z => c ⟨z.1, by omega⟩)), fun _ _ _ => rfl⟩