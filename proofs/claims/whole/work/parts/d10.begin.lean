/-! part d10: the check of a program begins; all of it (gen/td10.py) -/
/-- the checker's own cells may have changed -/
def vr_wf (I : Nat → Nat → Int32) (L : Nat → Nat → Int64) (I1 : Nat → Nat → Int32) (L1 : Nat → Nat → Int64) : Prop := vr_fl I1 ∧ (∀ q f, ¬ (202 ≤ q ∧ q ≤ 207) → q ≠ 215 → ¬ (q = 196 ∧ 5 ≤ f) → I1 q f = I q f) ∧ ∀ q f, ¬ (209 ≤ q ∧ q ≤ 214) → L1 q f = L q f
theorem vr_wf_trans {I I1 I2 : Nat → Nat → Int32} {L L1 L2 : Nat → Nat → Int64} (h1 : vr_wf I L I1 L1) (h2 : vr_wf I1 L1 I2 L2) : vr_wf I L I2 L2 := ⟨h2.1, fun q f a b c => (h2.2.1 q f a b c).trans (h1.2.1 q f a b c), fun q f a => (h2.2.2 q f a).trans (h1.2.2 q f a)⟩
theorem vr_wf_fr {P : Nat → Prop} {E : Nat → Nat → Prop} {I I1 : Nat → Nat → Int32} {L L1 : Nat → Nat → Int64} (h : vr_fr P E I L I1 L1) (hE : ∀ q f, E q f → vr_E4 q f) : vr_wf I L I1 L1 := ⟨h.1, fun q f a b c => h.2.1 q f (fun z => a ⟨by omega, by omega⟩) b (fun z => (hE q f z.2).elim (fun y => a ⟨y.1, by omega⟩) c), fun q f a => h.2.2 q f (fun z => a ⟨z.1, z.2.1⟩)⟩
theorem vr_wf_rf {t : Nat} {I I1 : Nat → Nat → Int32} {L L1 : Nat → Nat → Int64} (h : vq_rf t I L I1 L1) : vr_wf I L I1 L1 := ⟨h.1, fun q f _ b _ => h.2.1 q f b, fun q f a => h.2.2 q f (fun z => a ⟨z.1, z.2.1⟩)⟩
/-- no place has a state -/
def vr_no (j : Nat) (I I1 : Nat → Nat → Int32) : Prop := (∀ p, p < j → I1 202 p = 0 ∧ I1 204 p = 0) ∧ ∀ q f, ¬ (202 ≤ q ∧ q ≤ 204) → I1 q f = I q f
theorem vr_no_step {j : Nat} {I I1 : Nat → Nat → Int32} (h : vr_no j I I1) : vr_no (j + 1) I (jv_u (jv_u (jv_u I1 202 j ((0 : Int32) &&& 1)) 203 j (-1 : Int32)) 204 j (0 : Int32)) := by
  refine ⟨fun p hp => ?_, fun q f a => ?_⟩
  · by_cases e : p = j
    · subst e
      exact ⟨(jv_u_o _ _ _ _ (by decide)).trans ((jv_u_o _ _ _ _ (by decide)).trans (jv_u_self _ _ _ _)), jv_u_self _ _ _ _⟩
    · obtain ⟨a, b⟩ := h.1 p (by omega)
      exact ⟨(jv_u_o _ _ _ _ (by decide)).trans ((jv_u_o _ _ _ _ (by decide)).trans ((jv_u_j _ _ _ _ e).trans a)), (jv_u_j _ _ _ _ e).trans ((jv_u_o _ _ _ _ (by decide)).trans ((jv_u_o _ _ _ _ (by decide)).trans b))⟩
  · exact (jv_u_o _ _ _ _ (by omega)).trans ((jv_u_o _ _ _ _ (by omega)).trans ((jv_u_o _ _ _ _ (by omega)).trans (h.2 q f a)))
theorem vz_start_r {N : Nat} {fst : Nat → Bool} (hN : 0 < N) (h0 : fst 0 = true) : vz_rS N fst vz_start 0 := by
  have s : ∀ p A, vz_start.1 p = some A → p = 0 ∧ A = vt_start := fun p A h => by
    have h : (if p = 0 then some vt_start else none) = some A := h
    by_cases c : p = 0
    · rw [if_pos c] at h; exact ⟨c, (Option.some.inj h).symm⟩
    · rw [if_neg c] at h; cases h
  refine ⟨fun p A h => ?_, fun p A h => ?_, fun p h => ?_, fun p A h => ?_, fun p => Nat.le_refl 0⟩
  · rw [(s p A h).2]; exact vt_start_ok
  · rw [(s p A h).2]; exact vt_start_g
  · obtain ⟨A, hA⟩ := Option.isSome_iff_exists.mp h
    rw [(s p A hA).1]; exact ⟨hN, h0⟩
  · rw [(s p A h).2]; exact vt_start_10
theorem vr_u23 (J : Nat → Nat → Int32) (j : Nat) (v w : Int32) {r f : Nat} (h : ¬ ((r = 202 ∨ r = 203) ∧ f = j)) : jv_u (jv_u J 202 j v) 203 j w r f = J r f := by
  have t : ∀ o, o = 202 ∨ o = 203 → ∀ (J : Nat → Nat → Int32) (w : Int32), jv_u J o j w r f = J r f := fun o ho J w => by
    by_cases e : r = o
    · rw [e]; exact jv_u_j _ _ _ _ (fun y => h ⟨by omega, y⟩)
    · exact jv_u_o _ _ _ _ e
  exact (t 203 (Or.inr rfl) _ _).trans (t 202 (Or.inl rfl) _ _)
theorem vr_u1 (J : Nat → Nat → Int32) (o j : Nat) (v : Int32) {q f : Nat} (h : ¬ (q = o ∧ f = j)) : jv_u J o j v q f = J q f := by
  by_cases e : q = o
  · rw [e]; exact jv_u_j _ _ _ _ (fun y => h ⟨e, y⟩)
  · exact jv_u_o _ _ _ _ e
theorem jv_i313 : jv_I 313 2 none 2 45 jv_c313 := ⟨rfl, rfl, rfl, rfl, rfl⟩
theorem vq_beg1t {K : Nat → Option (Nat × Nat)} {I : Nat → Nat → Int32} {L : Nat → Nat → Int64} {R : Nat → Nat → Value} {j : Nat} (hW : jv_rW K R) (hj : j < 1024) {n sl : Nat} {Q : jv_R → Prop} (k0 : jv_Wp 313 2 [(0, .ref 196), (1, .int (vl_I (j + 1)))] [] (jv_H K (jv_u (jv_u (jv_u I 202 j ((0 : Int32) &&& 1)) 203 j (-1 : Int32)) 204 j (0 : Int32)) L R) n sl Q) : jv_Wp 313 2 [(0, .ref 196), (1, .int (vl_I j))] [] (jv_H K I L R) n sl Q := by
  refine jv_Wp.lift (fun _ Kz => jv_Ev.steps jv_i313 2 (pc' := 6) (l' := [(0, .ref 196), (1, .int (vl_I j))]) (st' := [.int (1024 : Int32), .int (vl_I j)]) rfl Kz) ?_
  refine jv_Wp.cnd jv_i313 (pt := 36) (pe := 9) (p := ((1024 : Int32) ≤ (vl_I j))) (q := ((1024 : Int32) ≤ (vl_I j))) rfl jv_bc_ge rfl rfl Iff.rfl (fun h1 => ?_) (fun h1 => ?_)
  · exact absurd ((vl_I_le (a := 1024) (by decide) (by omega)).mp h1) (by omega)
  · refine jv_Wp.lift (fun _ Kz => jv_Ev.steps jv_i313 1 (pc' := 10) (l' := [(0, .ref 196), (1, .int (vl_I j))]) (st' := [.ref 196]) rfl Kz) ?_
    refine jv_Wp.lift (fun _ Kz => jv_Ev.m jv_i313 (pc' := 13) (st' := [.ref 202]) (G' := (jv_H K I L R)) rfl rfl (jv_m_getR (jv_rwK hW 196 12 24 (by decide)) rfl rfl (jv_rwR hW 196 10 202 (by decide))) Kz) ?_
    refine jv_Wp.lift (fun _ Kz => jv_Ev.steps jv_i313 2 (pc' := 15) (l' := [(0, .ref 196), (1, .int (vl_I j))]) (st' := [.int (0 : Int32), .int (vl_I j), .ref 202]) rfl Kz) ?_
    refine jv_Wp.lift (fun _ Kz => jv_Ev.m jv_i313 (pc' := 16) (st' := []) (G' := (jv_H K (jv_u I 202 j ((0 : Int32) &&& 1)) L R)) rfl rfl (by rw [jv_m_zast (jv_rwK hW 202 100 1028 (by decide)) (vl_I_ix (by omega) (by decide)), (vl_I_nat (by omega))]) Kz) ?_
    refine jv_Wp.lift (fun _ Kz => jv_Ev.steps jv_i313 1 (pc' := 17) (l' := [(0, .ref 196), (1, .int (vl_I j))]) (st' := [.ref 196]) rfl Kz) ?_
    refine jv_Wp.lift (fun _ Kz => jv_Ev.m jv_i313 (pc' := 20) (st' := [.ref 203]) (G' := (jv_H K (jv_u I 202 j ((0 : Int32) &&& 1)) L R)) rfl rfl (jv_m_getR (jv_rwK hW 196 12 24 (by decide)) rfl rfl (jv_rwR hW 196 11 203 (by decide))) Kz) ?_
    refine jv_Wp.lift (fun _ Kz => jv_Ev.steps jv_i313 2 (pc' := 22) (l' := [(0, .ref 196), (1, .int (vl_I j))]) (st' := [.int (-1 : Int32), .int (vl_I j), .ref 203]) rfl Kz) ?_
    refine jv_Wp.lift (fun _ Kz => jv_Ev.m jv_i313 (pc' := 23) (st' := []) (G' := (jv_H K (jv_u (jv_u I 202 j ((0 : Int32) &&& 1)) 203 j (-1 : Int32)) L R)) rfl rfl (by rw [jv_m_iast (jv_rwK hW 203 102 1028 (by decide)) (vl_I_ix (by omega) (by decide)), (vl_I_nat (by omega))]) Kz) ?_
    refine jv_Wp.lift (fun _ Kz => jv_Ev.steps jv_i313 1 (pc' := 24) (l' := [(0, .ref 196), (1, .int (vl_I j))]) (st' := [.ref 196]) rfl Kz) ?_
    refine jv_Wp.lift (fun _ Kz => jv_Ev.m jv_i313 (pc' := 27) (st' := [.ref 204]) (G' := (jv_H K (jv_u (jv_u I 202 j ((0 : Int32) &&& 1)) 203 j (-1 : Int32)) L R)) rfl rfl (jv_m_getR (jv_rwK hW 196 12 24 (by decide)) rfl rfl (jv_rwR hW 196 12 204 (by decide))) Kz) ?_
    refine jv_Wp.lift (fun _ Kz => jv_Ev.steps jv_i313 2 (pc' := 29) (l' := [(0, .ref 196), (1, .int (vl_I j))]) (st' := [.int (0 : Int32), .int (vl_I j), .ref 204]) rfl Kz) ?_
    refine jv_Wp.lift (fun _ Kz => jv_Ev.m jv_i313 (pc' := 30) (st' := []) (G' := (jv_H K (jv_u (jv_u (jv_u I 202 j ((0 : Int32) &&& 1)) 203 j (-1 : Int32)) 204 j (0 : Int32)) L R)) rfl rfl (by rw [jv_m_iast (jv_rwK hW 204 102 1028 (by decide)) (vl_I_ix (by omega) (by decide)), (vl_I_nat (by omega))]) Kz) ?_
    refine jv_Wp.lift (fun _ Kz => jv_Ev.steps jv_i313 2 (pc' := 2) (l' := [(1, .int ((vl_I j) + Int32.ofInt 1)), (0, .ref 196)]) (st' := []) rfl Kz) ?_
    refine jv_Wp.loc (l := [(0, .ref 196), (1, .int ((vl_I j) + Int32.ofInt 1))]) ⟨List.forall_mem_cons.mpr ⟨.tail _ (.head _), List.forall_mem_cons.mpr ⟨.head _, fun _ h => absurd h List.not_mem_nil⟩⟩, by show List.Nodup [1, 0]; decide⟩ ?_
    rw [show vl_I j + Int32.ofInt 1 = vl_I (j + 1) from vl_I_add j 1]
    exact k0
theorem vq_beg1 {K : Nat → Option (Nat × Nat)} {I : Nat → Nat → Int32} {L : Nat → Nat → Int64} {R : Nat → Nat → Value} (hW : jv_rW K R) {n sl : Nat} {Q : jv_R → Prop} (k0 : ∀ I1, vr_no 1024 I I1 → jv_Wp 313 2 [(0, .ref 196), (1, .int (vl_I 1024))] [] (jv_H K I1 L R) n sl Q) : jv_Wp 313 2 [(0, .ref 196), (1, .int (vl_I 0))] [] (jv_H K I L R) n sl Q := by
  have go : ∀ d j : Nat, j + d = 1024 → ∀ I1, vr_no j I I1 → jv_Wp 313 2 [(0, .ref 196), (1, .int (vl_I j))] [] (jv_H K I1 L R) n sl Q := by
    intro d
    induction d with
    | zero => intro j hj I1 h; have e : j = 1024 := by omega
              subst e; exact k0 I1 h
    | succ d ih => intro j hj I1 h; exact vq_beg1t hW (by omega) (ih (j + 1) (by omega) _ (vr_no_step h))
  exact go 1024 0 rfl I ⟨fun p hp => absurd hp (Nat.not_lt_zero p), fun _ _ _ => rfl⟩
theorem vq_begin {K : Nat → Option (Nat × Nat)} {I : Nat → Nat → Int32} {L : Nat → Nat → Int64} {R : Nat → Nat → Value}  (hW : jv_rW K R) (hf : vr_fl I) (hj : vr_j10 I) {n sl : Nat} : ∃ I1 L1, jv_Ms 313 [.ref 196] (jv_H K I L R) n sl (none, jv_H K I1 L1 R, n, sl) ∧ vr_ST I1 L1 vz_start ∧ vb_toS (vr_S L1 6) = vb_just 0 ∧ vr_wf I L I1 L1 ∧ (∀ f, I1 196 f = I 196 f) ∧ vr_j10 I1 := by
  obtain ⟨Q, hQ⟩ : ∃ Q : jv_R → Prop, Q = fun X => ∃ I1 L1, X = (none, jv_H K I1 L1 R, n, sl) ∧ vr_ST I1 L1 vz_start ∧ vb_toS (vr_S L1 6) = vb_just 0 ∧ vr_wf I L I1 L1 ∧ (∀ f, I1 196 f = I 196 f) ∧ vr_j10 I1 := ⟨_, rfl⟩
  suffices h : jv_Wp 313 0 [(0, .ref 196)] [] (jv_H K I L R) n sl Q by
    rw [hQ] at h
    obtain ⟨X, h, I1, L1, e, h'⟩ := h
    subst e
    exact ⟨I1, L1, h, h'⟩
  refine jv_Wp.lift (fun _ Kz => jv_Ev.steps jv_i313 2 (pc' := 2) (l' := [(1, .int (0 : Int32)), (0, .ref 196)]) (st' := []) rfl Kz) ?_
  refine jv_Wp.loc (l := [(0, .ref 196), (1, .int (0 : Int32))]) ⟨List.forall_mem_cons.mpr ⟨.tail _ (.head _), List.forall_mem_cons.mpr ⟨.head _, fun _ h => absurd h List.not_mem_nil⟩⟩, by show List.Nodup [1, 0]; decide⟩ ?_
  rw [show (0 : Int32) = vl_I 0 from rfl]
  refine vq_beg1 hW (fun I1 N1 => ?_)
  have W1 : vr_wf I L I1 L := ⟨fun q hq => (N1.2 215 q (by decide)).trans (hf q hq), fun q f a _ _ => N1.2 q f (fun z => a ⟨z.1, by omega⟩), fun _ _ _ => rfl⟩
  have Z1 := W1.1
  refine jv_Wp.lift (fun _ Kz => jv_Ev.steps jv_i313 2 (pc' := 6) (l' := [(0, .ref 196), (1, .int (vl_I 1024))]) (st' := [.int (1024 : Int32), .int (vl_I 1024)]) rfl Kz) ?_
  refine jv_Wp.cnd jv_i313 (pt := 36) (pe := 9) (p := ((1024 : Int32) ≤ (vl_I 1024))) (q := ((1024 : Int32) ≤ (vl_I 1024))) rfl jv_bc_ge rfl rfl Iff.rfl (fun _ => ?_) (fun hz => absurd (Int32.le_refl _) hz)
  refine jv_Wp.lift (fun _ Kz => jv_Ev.steps jv_i313 1 (pc' := 37) (l' := [(0, .ref 196), (1, .int (vl_I 1024))]) (st' := [.ref 196]) rfl Kz) ?_
  refine jv_Wp.lift (fun _ Kz => jv_Ev.m jv_i313 (pc' := 40) (st' := [.ref 208]) (G' := (jv_H K I1 L R)) rfl rfl (jv_m_getR (jv_rwK hW 196 12 24 (by decide)) rfl rfl (jv_rwR hW 196 16 208 (by decide))) Kz) ?_
  refine jv_Wp.lift (fun _ Kz => jv_Ev.steps jv_i313 2 (pc' := 43) (l' := [(0, .ref 196), (1, .int (vl_I 1024))]) (st' := [.long (0 : Int64), .int (6 : Int32), .ref 208]) rfl Kz) ?_
  obtain ⟨I1, L1, H1, S1, F1⟩ := vq_single (I := I1) (L := L) (R := R) (n := n) (sl := sl) (d := 6) (0 : Int64) hW (by decide) Z1
  have Z1 := F1.1
  refine jv_Wp.lift (fun _ Kz => jv_Ev.c jv_i313 (pc' := 46) (S' := []) (G1 := (jv_H K I1 L1 R)) jv_i217 [.ref 208, .int (6 : Int32), .long (0 : Int64)] rfl rfl rfl rfl (jv_cal rfl (jv_H_at (jv_rwK hW 208 11 7 (by decide))) rfl rfl) rfl H1 rfl rfl Kz) ?_
  refine jv_Wp.lift (fun _ Kz => jv_Ev.steps jv_i313 2 (pc' := 48) (l' := [(1, .int (0 : Int32)), (0, .ref 196)]) (st' := []) rfl Kz) ?_
  refine jv_Wp.loc (l := [(0, .ref 196), (1, .int (0 : Int32))]) ⟨List.forall_mem_cons.mpr ⟨.tail _ (.head _), List.forall_mem_cons.mpr ⟨.head _, fun _ h => absurd h List.not_mem_nil⟩⟩, by show List.Nodup [1, 0]; decide⟩ ?_
  rw [show (0 : Int32) = vl_I 0 from rfl]
  refine vr_loop0 (j := 0) (I0 := I1) (L0 := L1) (f := fun _ _ => vt_none 0) (P := fun i Iz Lz => jv_Wp 313 48 [(0, .ref 196), (1, .int (vl_I i))] [] (jv_H K Iz Lz R) n sl Q) Z1 (fun i hi Ia La fr1 ta okA k0 => ?_) (fun Ib Lb ht fr1 => ?_)
  · have Za := vr_fl_of fr1
    refine jv_Wp.lift (fun _ Kz => jv_Ev.steps jv_i313 2 (pc' := 51) (l' := [(0, .ref 196), (1, .int (vl_I i))]) (st' := [.int (75 : Int32), .int (vl_I i)]) rfl Kz) ?_
    refine jv_Wp.cnd jv_i313 (pt := 79) (pe := 54) (p := ((75 : Int32) ≤ (vl_I i))) (q := ((75 : Int32) ≤ (vl_I i))) rfl jv_bc_ge rfl rfl Iff.rfl (fun h1 => ?_) (fun h1 => ?_)
    · exact absurd ((vl_I_le (a := 75) (by decide) (by omega)).mp h1) (by omega)
    · refine jv_Wp.lift (fun _ Kz => jv_Ev.steps jv_i313 5 (pc' := 60) (l' := [(0, .ref 196), (1, .int (vl_I i))]) (st' := [.int (11 : Int32), .int (vl_I i), .int (vl_I i), .int (0 : Int32), .ref 196]) rfl Kz) ?_
      refine jv_Wp.cnd jv_i313 (pt := 67) (pe := 63) (p := ((11 : Int32) ≤ (vl_I i))) (q := ((11 : Int32) ≤ (vl_I i))) rfl jv_bc_ge rfl rfl Iff.rfl (fun h2 => ?_) (fun h2 => ?_)
      · refine jv_Wp.lift (fun _ Kz => jv_Ev.steps jv_i313 2 (pc' := 70) (l' := [(0, .ref 196), (1, .int (vl_I i))]) (st' := [.int (0 : Int32), .int (9 : Int32), .int (vl_I i), .int (0 : Int32), .ref 196]) rfl Kz) ?_
        obtain ⟨I2, L2, H2, A2, B2, C2, F2, eL2⟩ := vq_setx (I := Ia) (L := La) (R := R) (n := n) (sl := sl) 0 i (9 : Int32) (0 : Int32) hW Za (by omega)
        refine jv_Wp.lift (fun _ Kz => jv_Ev.c jv_i313 (pc' := 73) (S' := []) (G1 := (jv_H K I2 L2 R)) jv_i272 [.ref 196, .int (0 : Int32), .int (vl_I i), .int (9 : Int32), .int (0 : Int32)] rfl rfl rfl rfl (jv_cal rfl (jv_H_at (jv_rwK hW 196 12 24 (by decide))) rfl rfl) rfl H2 rfl rfl Kz) ?_
        refine jv_Wp.lift (fun _ Kz => jv_Ev.steps jv_i313 2 (pc' := 48) (l' := [(1, .int ((vl_I i) + Int32.ofInt 1)), (0, .ref 196)]) (st' := []) rfl Kz) ?_
        refine jv_Wp.loc (l := [(0, .ref 196), (1, .int ((vl_I i) + Int32.ofInt 1))]) ⟨List.forall_mem_cons.mpr ⟨.tail _ (.head _), List.forall_mem_cons.mpr ⟨.head _, fun _ h => absurd h List.not_mem_nil⟩⟩, by show List.Nodup [1, 0]; decide⟩ ?_
        have i11 : 11 ≤ i := (vl_I_le (a := 11) (by decide) (by omega)).mp h2
        rw [show vl_I i + Int32.ofInt 1 = vl_I (i + 1) from vl_I_add i 1]
        refine k0 I2 L2 ((vr_T_set A2 B2 C2).trans ?_) (by unfold vr_ok; rw [A2, B2, C2]; exact Or.inl ⟨rfl, i11, rfl, by decide, by decide⟩) F2
        rfl
      · refine jv_Wp.lift (fun _ Kz => jv_Ev.steps jv_i313 3 (pc' := 70) (l' := [(0, .ref 196), (1, .int (vl_I i))]) (st' := [.int (0 : Int32), .int (0 : Int32), .int (vl_I i), .int (0 : Int32), .ref 196]) rfl Kz) ?_
        obtain ⟨I3, L3, H3, A3, B3, C3, F3, eL3⟩ := vq_setx (I := Ia) (L := La) (R := R) (n := n) (sl := sl) 0 i (0 : Int32) (0 : Int32) hW Za (by omega)
        refine jv_Wp.lift (fun _ Kz => jv_Ev.c jv_i313 (pc' := 73) (S' := []) (G1 := (jv_H K I3 L3 R)) jv_i272 [.ref 196, .int (0 : Int32), .int (vl_I i), .int (0 : Int32), .int (0 : Int32)] rfl rfl rfl rfl (jv_cal rfl (jv_H_at (jv_rwK hW 196 12 24 (by decide))) rfl rfl) rfl H3 rfl rfl Kz) ?_
        refine jv_Wp.lift (fun _ Kz => jv_Ev.steps jv_i313 2 (pc' := 48) (l' := [(1, .int ((vl_I i) + Int32.ofInt 1)), (0, .ref 196)]) (st' := []) rfl Kz) ?_
        refine jv_Wp.loc (l := [(0, .ref 196), (1, .int ((vl_I i) + Int32.ofInt 1))]) ⟨List.forall_mem_cons.mpr ⟨.tail _ (.head _), List.forall_mem_cons.mpr ⟨.head _, fun _ h => absurd h List.not_mem_nil⟩⟩, by show List.Nodup [1, 0]; decide⟩ ?_
        have i11 : i < 11 := Nat.lt_of_not_le (fun z => h2 ((vl_I_le (a := 11) (by decide) (by omega)).mpr z))
        rw [show vl_I i + Int32.ofInt 1 = vl_I (i + 1) from vl_I_add i 1]
        refine k0 I3 L3 ((vr_T_set A3 B3 C3).trans ?_) (by unfold vr_ok; rw [A3, B3, C3]; exact Or.inr (Or.inl ⟨rfl, i11, rfl, rfl⟩)) F3
        rfl
  · have Zb := vr_fl_of fr1
    have ob : vr_okA Ib 0 := fun m hm => (ht m hm).2
    refine jv_Wp.lift (fun _ Kz => jv_Ev.steps jv_i313 2 (pc' := 51) (l' := [(0, .ref 196), (1, .int (vl_I 75))]) (st' := [.int (75 : Int32), .int (vl_I 75)]) rfl Kz) ?_
    refine jv_Wp.cnd jv_i313 (pt := 79) (pe := 54) (p := ((75 : Int32) ≤ (vl_I 75))) (q := ((75 : Int32) ≤ (vl_I 75))) rfl jv_bc_ge rfl rfl Iff.rfl (fun _ => ?_) (fun hz => absurd (Int32.le_refl _) hz)
    refine jv_Wp.lift (fun _ Kz => jv_Ev.steps jv_i313 5 (pc' := 84) (l' := [(0, .ref 196), (1, .int (vl_I 75))]) (st' := [.int (0 : Int32), .int (2 : Int32), .int (1 : Int32), .int (0 : Int32), .ref 196]) rfl Kz) ?_
    obtain ⟨I4, L4, H4, A4, B4, C4, F4, eL4⟩ := vq_setx (I := Ib) (L := Lb) (R := R) (n := n) (sl := sl) 0 1 (2 : Int32) (0 : Int32) hW Zb (by decide)
    have Z4 := vr_fl_of F4
    have U4 := vr_upA (I := Ib) (L := Lb) (k := 0) (r := 1) (t := (vt_ctx 0)) (by decide) ((vr_T_set A4 B4 C4).trans rfl) (by unfold vr_ok; rw [A4, B4, C4]; exact Or.inr (Or.inr (Or.inr (Or.inl ⟨Or.inl rfl, rfl⟩)))) F4 (fun n hn e q => e (by omega)) ob
    refine jv_Wp.lift (fun _ Kz => jv_Ev.c jv_i313 (pc' := 87) (S' := []) (G1 := (jv_H K I4 L4 R)) jv_i272 [.ref 196, .int (0 : Int32), .int (1 : Int32), .int (2 : Int32), .int (0 : Int32)] rfl rfl rfl rfl (jv_cal rfl (jv_H_at (jv_rwK hW 196 12 24 (by decide))) rfl rfl) rfl H4 rfl rfl Kz) ?_
    refine jv_Wp.lift (fun _ Kz => jv_Ev.steps jv_i313 5 (pc' := 93) (l' := [(0, .ref 196), (1, .int (vl_I 75))]) (st' := [.int (0 : Int32), .int (3 : Int32), .int (10 : Int32), .int (0 : Int32), .ref 196]) rfl Kz) ?_
    obtain ⟨I5, L5, H5, A5, B5, C5, F5, eL5⟩ := vq_setx (I := I4) (L := L4) (R := R) (n := n) (sl := sl) 0 10 (3 : Int32) (0 : Int32) hW Z4 (by decide)
    have Z5 := vr_fl_of F5
    have U5 := vr_upA (I := I4) (L := L4) (k := 0) (r := 10) (t := (vt_stk 0)) (by decide) ((vr_T_set A5 B5 C5).trans rfl) (by unfold vr_ok; rw [A5, B5, C5]; exact Or.inr (Or.inr (Or.inr (Or.inl ⟨Or.inr (Or.inl rfl), rfl⟩)))) F5 (fun n hn e q => e (by omega)) U4.2
    refine jv_Wp.lift (fun _ Kz => jv_Ev.c jv_i313 (pc' := 96) (S' := []) (G1 := (jv_H K I5 L5 R)) jv_i272 [.ref 196, .int (0 : Int32), .int (10 : Int32), .int (3 : Int32), .int (0 : Int32)] rfl rfl rfl rfl (jv_cal rfl (jv_H_at (jv_rwK hW 196 12 24 (by decide))) rfl rfl) rfl H5 rfl rfl Kz) ?_
    refine jv_Wp.lift (fun _ Kz => jv_Ev.steps jv_i313 1 (pc' := 97) (l' := [(0, .ref 196), (1, .int (vl_I 75))]) (st' := [.ref 196]) rfl Kz) ?_
    refine jv_Wp.lift (fun _ Kz => jv_Ev.m jv_i313 (pc' := 100) (st' := [.ref 202]) (G' := (jv_H K I5 L5 R)) rfl rfl (jv_m_getR (jv_rwK hW 196 12 24 (by decide)) rfl rfl (jv_rwR hW 196 10 202 (by decide))) Kz) ?_
    refine jv_Wp.lift (fun _ Kz => jv_Ev.steps jv_i313 2 (pc' := 102) (l' := [(0, .ref 196), (1, .int (vl_I 75))]) (st' := [.int (1 : Int32), .int (0 : Int32), .ref 202]) rfl Kz) ?_
    refine jv_Wp.lift (fun _ Kz => jv_Ev.m jv_i313 (pc' := 103) (st' := []) (G' := (jv_H K (jv_u I5 202 0 ((1 : Int32) &&& 1)) L5 R)) rfl rfl (jv_m_zast (jv_rwK hW 202 100 1028 (by decide)) (by decide)) Kz) ?_
    refine jv_Wp.lift (fun _ Kz => jv_Ev.steps jv_i313 1 (pc' := 104) (l' := [(0, .ref 196), (1, .int (vl_I 75))]) (st' := [.ref 196]) rfl Kz) ?_
    refine jv_Wp.lift (fun _ Kz => jv_Ev.m jv_i313 (pc' := 107) (st' := [.ref 203]) (G' := (jv_H K (jv_u I5 202 0 ((1 : Int32) &&& 1)) L5 R)) rfl rfl (jv_m_getR (jv_rwK hW 196 12 24 (by decide)) rfl rfl (jv_rwR hW 196 11 203 (by decide))) Kz) ?_
    refine jv_Wp.lift (fun _ Kz => jv_Ev.steps jv_i313 2 (pc' := 109) (l' := [(0, .ref 196), (1, .int (vl_I 75))]) (st' := [.int (0 : Int32), .int (0 : Int32), .ref 203]) rfl Kz) ?_
    refine jv_Wp.lift (fun _ Kz => jv_Ev.m jv_i313 (pc' := 110) (st' := []) (G' := (jv_H K (jv_u (jv_u I5 202 0 ((1 : Int32) &&& 1)) 203 0 (0 : Int32)) L5 R)) rfl rfl (jv_m_iast (jv_rwK hW 203 102 1028 (by decide)) (by decide)) Kz) ?_
    refine jv_Wp.of (jv_Ev.ret jv_i313 rfl rfl) ?_
    rw [hQ]
    obtain ⟨J, hJ⟩ : ∃ J, J = (jv_u (jv_u I5 202 0 ((1 : Int32) &&& 1)) 203 0 (0 : Int32)) := ⟨_, rfl⟩
    rw [← hJ]
    have FJ : vr_fr noP (fun q g => (q = 202 ∨ q = 203) ∧ g = 0) I5 L5 J L5 := by rw [hJ]; exact ⟨fun q hq => (jv_u_o _ _ _ _ (by decide)).trans ((jv_u_o _ _ _ _ (by decide)).trans (Z5 q hq)), fun q g x y z => vr_u23 _ _ _ _ (fun w => z ⟨by omega, w⟩), fun _ _ _ => rfl⟩
    have j2 : J 202 0 = 1 := by rw [hJ]; exact (jv_u_o _ _ _ _ (by decide)).trans (jv_u_self _ _ _ _)
    have j3 : J 203 0 = 0 := by rw [hJ]; exact jv_u_self _ _ _ _
    have G : vr_fr (vr_th 0) (fun q g => (q = 202 ∨ q = 203) ∧ g = 0) I1 L1 J L5 := vr_fr_trans (vr_fr_mono fr1 (fun _ z => z) (fun _ _ z => z.elim)) (vr_fr_trans (vr_fr_mono F4 (fun x z => by unfold vr_th; omega) (fun _ _ z => z.elim)) (vr_fr_trans (vr_fr_mono F5 (fun x z => by unfold vr_th; omega) (fun _ _ z => z.elim)) (vr_fr_mono FJ (fun _ z => z.elim) (fun _ _ z => z))))
    have AJ : vr_A J L5 0 = vt_start := by
      refine Prod.ext (funext (fun m => ?_)) (by show (J 203 0).toInt = 0; rw [j3]; rfl)
      show (if m < 75 then vr_T J L5 (75 * 0 + m) else vt_none 0) = if m = 1 then vt_ctx 0 else if m = 10 then vt_stk 0 else vt_none 0
      by_cases hm : m < 75
      · rw [if_pos hm, vr_fr_T FJ (fun z => z), ← vr_A1 (I := I5) (L := L5) (k := 0) hm, U5.1, U4.1]
        show (if m = 10 then vt_stk 0 else if m = 1 then vt_ctx 0 else (vr_A Ib Lb 0).1 m) = _
        by_cases m1 : m = 1
        · subst m1; rfl
        · rw [if_neg m1, if_neg m1]
          by_cases m10 : m = 10
          · rw [if_pos m10, if_pos m10]
          · rw [if_neg m10, if_neg m10, vr_A1 hm]; exact (ht m hm).1
      · rw [if_neg hm, if_neg (by omega), if_neg (by omega)]
    have OJ : vr_okA J 0 := vr_fr_okA FJ (fun _ _ z => z) U5.2
    refine ⟨_, _, rfl, fun p hp => ⟨?_, fun A hA => ?_⟩, ?_, ?_, fun f => (G.2.1 196 f (fun z => by omega) (by decide) (fun z => by omega)).trans ((F1.2.1 196 f (by decide)).trans (N1.2 196 f (by decide))), ?_⟩
    · by_cases e : p = 0
      · subst e; exact j2
      · have e1 : J 202 p = 0 := (G.2.1 202 p (fun z => by omega) (by decide) (fun z => by omega)).trans ((F1.2.1 202 p (by decide)).trans (N1.1 p hp).1)
        rw [e1, show vz_start.1 p = none from if_neg e]; rfl
    · have hA : (if p = 0 then some vt_start else none) = some A := hA
      by_cases e : p = 0
      · subst e; rw [if_pos rfl] at hA; cases hA
        exact ⟨AJ, OJ, (G.2.1 204 0 (fun z => by omega) (by decide) (fun z => by omega)).trans ((F1.2.1 204 0 (by decide)).trans (N1.1 0 hp).2), vt_start_ok⟩
      · rw [if_neg e] at hA; cases hA
    · rw [vr_fr_6 G, S1]; exact vb_toS_just _
    · exact vr_wf_trans W1 (vr_wf_trans (vr_wf_rf F1) (vr_wf_fr G (fun q g z => Or.inl (by omega))))
    · unfold vr_j10; rw [(vr_fr_i G (x := 76885) (fun z => by unfold vr_th at z; omega)).1, F1.2.1 205 _ (by decide), N1.2 205 _ (by decide)]; exact hj
theorem vq_goOver {K : Nat → Option (Nat × Nat)} {I : Nat → Nat → Int32} {L : Nat → Nat → Int64} {R : Nat → Nat → Value} {M : vf_M} {B : Nat → Nat} {N : Nat} {fst : Nat → Bool} (hW : jv_rW K R) (hf : vr_fl I) (hj : vr_j10 I) (hM : vr_M I M) (hM8 : ∀ k, 8 ≤ k → M k = none) (hB : vr_tp I 198 (8 * N) B) (hN : N ≤ 1024) (h40 : I 196 4 = vl_I N) (hF : vf_form (vr_F B) N fst) (hX : ∀ p, p < N → fst p = true → vf_x (vr_F B p)) (g6 : I 196 6 = 0) (g5 : I 196 5 = 0) {n sl : Nat} : ∃ I1 L1, jv_Ms 314 [.ref 196] (jv_H K I L R) n sl (some (.int (if (vz_passes (vx_D M (vr_F B)) N 256 vz_start).1.1 = 0 then -1 else vl_I (vz_passes (vx_D M (vr_F B)) N 256 vz_start).1.2)), jv_H K I1 L1 R, n, sl) ∧ I1 196 5 = vl_I (vz_passes (vx_D M (vr_F B)) N 256 vz_start).1.1 ∧ vr_wf I L I1 L1 ∧ vr_j10 I1 := by
  obtain ⟨Q, hQ⟩ : ∃ Q : jv_R → Prop, Q = fun X => ∃ I1 L1, X = (some (.int (if (vz_passes (vx_D M (vr_F B)) N 256 vz_start).1.1 = 0 then -1 else vl_I (vz_passes (vx_D M (vr_F B)) N 256 vz_start).1.2)), jv_H K I1 L1 R, n, sl) ∧ I1 196 5 = vl_I (vz_passes (vx_D M (vr_F B)) N 256 vz_start).1.1 ∧ vr_wf I L I1 L1 ∧ vr_j10 I1 := ⟨_, rfl⟩
  suffices h : jv_Wp 314 0 [(0, .ref 196)] [] (jv_H K I L R) n sl Q by
    rw [hQ] at h
    obtain ⟨X, h, I1, L1, e, h'⟩ := h
    subst e
    exact ⟨I1, L1, h, h'⟩
  refine jv_Wp.lift (fun _ Kz => jv_Ev.steps jv_i314 1 (pc' := 1) (l' := [(0, .ref 196)]) (st' := [.ref 196]) rfl Kz) ?_
  obtain ⟨I1, L1, H1, S1, x6, W1, b6, J1⟩ := vq_begin (I := I) (L := L) (R := R) (n := n) (sl := sl) hW hf hj
  refine jv_Wp.lift (fun _ Kz => jv_Ev.c jv_i314 (pc' := 4) (S' := []) (G1 := (jv_H K I1 L1 R)) jv_i313 [.ref 196] rfl rfl rfl rfl (jv_cal rfl (jv_H_at (jv_rwK hW 196 12 24 (by decide))) rfl rfl) rfl H1 rfl rfl Kz) ?_
  refine jv_Wp.lift (fun _ Kz => jv_Ev.steps jv_i314 2 (pc' := 6) (l' := [(0, .ref 196)]) (st' := [.int (1 : Int32), .ref 196]) rfl Kz) ?_
  refine jv_Wp.lift (fun _ Kz => jv_Ev.m jv_i314 (pc' := 9) (st' := []) (G' := (jv_H K (jv_u I1 196 17 (1 : Int32)) L1 R)) rfl rfl (jv_m_putI (jv_rwK hW 196 12 24 (by decide)) rfl rfl rfl (jv_fit_b (Or.inr rfl))) Kz) ?_
  obtain ⟨J, hJ⟩ : ∃ J, J = (jv_u I1 196 17 (1 : Int32)) := ⟨_, rfl⟩
  rw [← hJ]
  have c6 : ∀ q f, ¬ (202 ≤ q ∧ q ≤ 207) → q ≠ 215 → ¬ (q = 196 ∧ 5 ≤ f) → I1 q f = I q f := W1.2.1
  have g0 : vr_go M B N fst J L1 vz_start 0 J L1 := ⟨vr_fr_refl (by rw [hJ]; exact vr_fl_of (vr_fr196 (L := L1) W1.1 17 _)), by rw [hJ]; exact vr_ST_M (vr_fr196 (L := L1) W1.1 17 _) (fun _ z => z.elim) (fun q g z a b => by omega) S1, vz_start_r hF.1 hF.2.1, by unfold vr_j10; rw [hJ, (vr_fr_i (vr_fr196 (L := L1) W1.1 17 _) (x := 76885) (fun z => z)).1]; exact J1⟩
  have cJ : ∀ q f, ¬ (q = 196 ∧ f = 17) → J q f = I1 q f := fun q f a => by rw [hJ]; exact vr_u1 _ _ _ _ a
  refine vq_outer (I0 := J) (L0 := L1) hW (fun k hk => by rw [cJ 199 k (by omega), cJ 200 k (by omega), cJ 201 k (by omega), c6 199 k (by omega) (by decide) (by omega), c6 200 k (by omega) (by decide) (by omega), c6 201 k (by omega) (by decide) (by omega)]; exact hM k hk) hM8 (fun j hj => ⟨(cJ 198 j (by omega)).trans ((c6 198 j (by omega) (by decide) (by omega)).trans (hB j hj).1), (hB j hj).2⟩) hN ((cJ 196 4 (by omega)).trans ((c6 196 4 (by omega) (by decide) (by omega)).trans h40)) hF hX x6 256 0 vz_start 0 J L1 rfl (by decide) g0 (by rw [hJ]; exact jv_u_self _ _ _ _) ((cJ 196 6 (by omega)).trans ((b6 6).trans g6)) ((cJ 196 5 (by omega)).trans ((b6 5).trans g5)) (fun I2 L2 a1 a2 a3 => ?_)
  rw [hQ]
  exact ⟨I2, L2, rfl, a1, vr_wf_trans W1 (vr_wf_trans (by rw [hJ]; exact vr_wf_fr (vr_fr196 (L := L1) W1.1 17 _) (fun q g z => Or.inr (by omega))) (vr_wf_fr a2 (fun _ _ z => z))), a3⟩