/-! part d08: a pass of the reference (gen/td08.py) -/
def vr_E4 : Nat → Nat → Prop := fun q f => (202 ≤ q ∧ q ≤ 204) ∨ (q = 196 ∧ 5 ≤ f)
theorem vz_rS_le {N : Nat} {fst : Nat → Bool} {st : vz_S} {b b' : Nat} (h : vz_rS N fst st b) (hb : b ≤ b') : vz_rS N fst st b' := ⟨h.1, h.2.1, h.2.2.1, h.2.2.2.1, fun p => Nat.le_trans (h.2.2.2.2 p) hb⟩
/-- while the reference goes over a program: what stays (from I0, L0 on), the states, whether one has changed -/
def vr_go (M : vf_M) (B : Nat → Nat) (N : Nat) (fst : Nat → Bool) (I0 : Nat → Nat → Int32) (L0 : Nat → Nat → Int64) (st : vz_S) (b : Nat) (I : Nat → Nat → Int32) (L : Nat → Nat → Int64) : Prop :=
  vr_fr anyP vr_E4 I0 L0 I L ∧ vr_ST I L st ∧ vz_rS N fst st b ∧ vr_j10 I
theorem vr_go_up {M : vf_M} {B : Nat → Nat} {N b : Nat} {fst : Nat → Bool} {I0 I : Nat → Nat → Int32} {L0 L : Nat → Nat → Int64} {st : vz_S} (h : vr_go M B N fst I0 L0 st b I L) (j : Nat) (hj : 5 ≤ j) (v : Int32) : vr_go M B N fst I0 L0 st b (jv_u I 196 j v) L := by
  obtain ⟨a1, a2, a3, a4⟩ := h
  have F := vr_fr196 (L := L) (vr_fl_of a1) j v
  refine ⟨vr_fr_trans a1 (vr_fr_mono F (fun _ z => z.elim) (fun q g z => Or.inr (by omega))), vr_ST_M F (fun _ z => z.elim) (fun q g z a b => by omega) a2, a3, ?_⟩
  unfold vr_j10; rw [(vr_fr_i F (x := 76885) (fun z => z)).1]; exact a4
theorem vz_pass_none {D : vz_D} {k p : Nat} {st : vz_S} {c : Bool} (h : st.1 p = none) : vz_pass D (k + 1) p st c = vz_pass D k (p + 1) st c := by
  show (match st.1 p with | none => _ | some A => _) = _
  rw [h]
theorem vz_pass_bad {D : vz_D} {k p : Nat} {st : vz_S} {c : Bool} {A : vt_A} (h : st.1 p = some A) (r : (D p A).1 ≠ 0) : vz_pass D (k + 1) p st c = (((D p A).1, p), st, c) := by
  show (match st.1 p with | none => _ | some A => _) = _
  rw [h]; exact if_pos r
theorem vz_pass_go {D : vz_D} {k p : Nat} {st : vz_S} {c : Bool} {A : vt_A} (h : st.1 p = some A) (r : (D p A).1 = 0) : vz_pass D (k + 1) p st c = vz_pass D k (p + 1) (vz_gos p (D p A).2 st).1 (c || (vz_gos p (D p A).2 st).2) := by
  show (match st.1 p with | none => _ | some A => _) = _
  rw [h]; exact if_neg (fun z => z r)
theorem jv_i314 : jv_I 314 2 (some .int) 12 346 jv_c314 := ⟨rfl, rfl, rfl, rfl, rfl⟩
theorem vq_turn {K : Nat → Option (Nat × Nat)} {I0 : Nat → Nat → Int32} {L0 : Nat → Nat → Int64} {R : Nat → Nat → Value} {M : vf_M} {B : Nat → Nat} {N : Nat} {fst : Nat → Bool} (hW : jv_rW K R) (hM : vr_M I0 M) (hM8 : ∀ k, 8 ≤ k → M k = none) (hB : vr_tp I0 198 (8 * N) B) (hN : N ≤ 1024) (h40 : I0 196 4 = vl_I N) (hF : vf_form (vr_F B) N fst) (hX : ∀ p, p < N → fst p = true → vf_x (vr_F B p)) (hZ6 : vb_toS (vr_S L0 6) = vb_just 0) {st : vz_S} {b p k : Nat} {c : Bool} {I : Nat → Nat → Int32} {L : Nat → Nat → Int64} (hpk : p + k = N) (hb : b + 2 < 2147483000) (g : vr_go M B N fst I0 L0 st b I L) (gc : I 196 17 = vr_b c) {n sl : Nat} {Q : jv_R → Prop}
    (cont0 : k = 0 → jv_Wp 314 9 [(0, .ref 196)] [] (jv_H K I L R) n sl Q)
    (contN : p < N → st.1 p = none → jv_Wp 314 51 [(0, .ref 196), (1, .int (vl_I (p + 1)))] [] (jv_H K I L R) n sl Q)
    (contB : p < N → ∀ A, st.1 p = some A → (vx_D M (vr_F B) p A).1 ≠ 0 → ∀ I1 L1, I1 196 5 = vl_I (vx_D M (vr_F B) p A).1 → vr_fr anyP vr_E4 I0 L0 I1 L1 → vr_j10 I1 → Q (some (.int (vl_I p)), jv_H K I1 L1 R, n, sl))
    (contG : p < N → ∀ A, st.1 p = some A → (vx_D M (vr_F B) p A).1 = 0 → ∀ I1 L1, vr_go M B N fst I0 L0 (vz_gos p (vx_D M (vr_F B) p A).2 st).1 (b + 2) I1 L1 → I1 196 17 = vr_b (c || (vz_gos p (vx_D M (vr_F B) p A).2 st).2) → I1 196 5 = 0 → I1 196 6 = I 196 6 → jv_Wp 314 51 [(0, .ref 196), (1, .int (vl_I (p + 1)))] [] (jv_H K I1 L1 R) n sl Q) : jv_Wp 314 51 [(0, .ref 196), (1, .int (vl_I p))] [] (jv_H K I L R) n sl Q := by
  obtain ⟨g1, g2, g3, g4⟩ := g
  have h4 : I 196 4 = vl_I N := (g1.2.1 196 4 (fun z => by omega) (by decide) (fun z => by unfold vr_E4 at z; omega)).trans h40
  refine jv_Wp.lift (fun _ Kz => jv_Ev.steps jv_i314 2 (pc' := 53) (l' := [(0, .ref 196), (1, .int (vl_I p))]) (st' := [.ref 196, .int (vl_I p)]) rfl Kz) ?_
  refine jv_Wp.lift (fun _ Kz => jv_Ev.m jv_i314 (pc' := 56) (st' := [.int (vl_I N), .int (vl_I p)]) (G' := (jv_H K I L R)) rfl rfl (jv_m_getI (jv_rwK hW 196 12 24 (by decide)) rfl rfl h4) Kz) ?_
  refine jv_Wp.cnd jv_i314 (pt := 92) (pe := 59) (p := ((vl_I N) ≤ (vl_I p))) (q := ((vl_I N) ≤ (vl_I p))) rfl jv_bc_ge rfl rfl Iff.rfl (fun h1 => ?_) (fun h1 => ?_)
  · refine jv_Wp.lift (fun _ Kz => jv_Ev.steps jv_i314 1 (pc' := 9) (l' := [(0, .ref 196), (1, .int (vl_I p))]) (st' := []) rfl Kz) ?_
    have pN := (vl_I_le (by omega) (by omega)).mp h1
    have k0 : k = 0 := by omega
    subst k0
    exact jv_Wp.loc (l := [(0, .ref 196)]) ⟨List.forall_mem_cons.mpr ⟨.head _, fun _ h => absurd h List.not_mem_nil⟩, by show List.Nodup [0, 1]; decide⟩ (cont0 rfl)
  · refine jv_Wp.lift (fun _ Kz => jv_Ev.steps jv_i314 1 (pc' := 60) (l' := [(0, .ref 196), (1, .int (vl_I p))]) (st' := [.ref 196]) rfl Kz) ?_
    refine jv_Wp.lift (fun _ Kz => jv_Ev.m jv_i314 (pc' := 63) (st' := [.ref 202]) (G' := (jv_H K I L R)) rfl rfl (jv_m_getR (jv_rwK hW 196 12 24 (by decide)) rfl rfl (jv_rwR hW 196 10 202 (by decide))) Kz) ?_
    refine jv_Wp.lift (fun _ Kz => jv_Ev.steps jv_i314 1 (pc' := 64) (l' := [(0, .ref 196), (1, .int (vl_I p))]) (st' := [.int (vl_I p), .ref 202]) rfl Kz) ?_
    refine jv_Wp.lift (fun _ Kz => jv_Ev.m jv_i314 (pc' := 65) (st' := [.int (vr_b (st.1 p).isSome)]) (G' := (jv_H K I L R)) rfl rfl (jv_m_baldv (jv_rwK hW 202 100 1028 (by decide)) rfl (vl_I_ix (by omega) (by decide)) rfl ((congrArg (I 202) (vl_I_nat (by omega))).trans (g2 p (by have z := Nat.lt_of_not_le (fun z => h1 ((vl_I_le (by omega) (by omega)).mpr z)); omega)).1)) Kz) ?_
    refine jv_Wp.cnd jv_i314 (pt := 86) (pe := 68) (p := ((vr_b (st.1 p).isSome) = 0)) (q := ((vr_b (st.1 p).isSome) = 0)) rfl jv_bi_eq rfl rfl Iff.rfl (fun h2 => ?_) (fun h2 => ?_)
    · refine jv_Wp.lift (fun _ Kz => jv_Ev.steps jv_i314 2 (pc' := 51) (l' := [(1, .int ((vl_I p) + Int32.ofInt 1)), (0, .ref 196)]) (st' := []) rfl Kz) ?_
      refine jv_Wp.loc (l := [(0, .ref 196), (1, .int ((vl_I p) + Int32.ofInt 1))]) ⟨List.forall_mem_cons.mpr ⟨.tail _ (.head _), List.forall_mem_cons.mpr ⟨.head _, fun _ h => absurd h List.not_mem_nil⟩⟩, by show List.Nodup [1, 0]; decide⟩ ?_
      have pN := Nat.lt_of_not_le (fun z => h1 ((vl_I_le (by omega) (by omega)).mpr z))
      have nn : st.1 p = none := Option.isNone_iff_eq_none.mp (by rw [← Option.not_isSome, vr_b_f h2]; rfl)
      rw [show vl_I p + Int32.ofInt 1 = vl_I (p + 1) from vl_I_add p 1]
      exact contN pN nn
    · refine jv_Wp.lift (fun _ Kz => jv_Ev.steps jv_i314 3 (pc' := 71) (l' := [(0, .ref 196), (1, .int (vl_I p))]) (st' := [.int (vl_I p), .ref 196, .ref 196]) rfl Kz) ?_
      have pN := Nat.lt_of_not_le (fun z => h1 ((vl_I_le (by omega) (by omega)).mpr z))
      obtain ⟨A, hA⟩ := Option.isSome_iff_exists.mp (vr_b_t h2)
      have at0 := g3.2.2.1 p (by rw [hA]; rfl)
      have wel := hF.2.2 p at0.1 at0.2
      have hx := hX p at0.1 at0.2
      have okA := g3.1 p A hA
      have hgd : ∀ e ∈ (vx_does M (vr_F B p) (vr_F B (p + 1)).i p A).2, vt_okA e.2 := vx_does_ok wel.1 (by have := hx.1; omega) (by have := hx.2.1; omega) okA
      have hto := vx_does_to (M := M) (i2 := (vr_F B (p + 1)).i) (A := A) wel
      obtain ⟨I1, L1, H1, P1, F1, J1⟩ := vq_does (R := R) (n := n) (sl := sl) (st := st) (I := I) (L := L) (M := M) (B := B) (N := N) (b := b) (fst := fst) (A := A) (vr_F B p) p (vr_F B (p + 1)).i hW (vr_fl_of g1) (vr_M_fr g1 (fun q g a b z => by unfold vr_E4 at z; omega) hM) hM8 (vr_tp_fr g1 (Or.inr rfl) (fun j z => by unfold vr_E4 at z; omega) hB) hN pN rfl rfl wel hx g2 hA g3 (by omega) g4 ((congrArg vb_toS (vr_fr_6 g1)).trans hZ6) hgd hto
      obtain ⟨dr, hdr⟩ : ∃ x : Nat × List (Int × vt_A), x = vx_does M (vr_F B p) (vr_F B (p + 1)).i p A := ⟨_, rfl⟩
      rw [← hdr] at H1 P1 hgd hto
      have d9 : dr.1 ≤ 9 := by rw [hdr]; exact vx_does_le
      refine jv_Wp.lift (fun _ Kz => jv_Ev.c jv_i314 (pc' := 74) (S' := [.int (vl_I dr.1), .ref 196]) (G1 := (jv_H K I1 L1 R)) jv_i310 [.ref 196, .int (vl_I p)] rfl rfl rfl rfl (jv_cal rfl (jv_H_at (jv_rwK hW 196 12 24 (by decide))) rfl rfl) rfl H1 rfl rfl Kz) ?_
      refine jv_Wp.lift (fun _ Kz => jv_Ev.m jv_i314 (pc' := 77) (st' := []) (G' := (jv_H K (jv_u I1 196 5 (vl_I dr.1)) L1 R)) rfl rfl (jv_m_putI (jv_rwK hW 196 12 24 (by decide)) rfl rfl rfl rfl) Kz) ?_
      refine jv_Wp.lift (fun _ Kz => jv_Ev.steps jv_i314 1 (pc' := 78) (l' := [(0, .ref 196), (1, .int (vl_I p))]) (st' := [.ref 196]) rfl Kz) ?_
      refine jv_Wp.lift (fun _ Kz => jv_Ev.m jv_i314 (pc' := 81) (st' := [.int (vl_I dr.1)]) (G' := (jv_H K (jv_u I1 196 5 (vl_I dr.1)) L1 R)) rfl rfl (jv_m_getI (jv_rwK hW 196 12 24 (by decide)) rfl rfl (jv_u_self _ _ _ _)) Kz) ?_
      refine jv_Wp.cnd jv_i314 (pt := 86) (pe := 84) (p := ((vl_I dr.1) ≤ 0)) (q := ((vl_I dr.1) ≤ 0)) rfl jv_bi_le rfl rfl Iff.rfl (fun h3 => ?_) (fun h3 => ?_)
      · refine jv_Wp.lift (fun _ Kz => jv_Ev.steps jv_i314 2 (pc' := 51) (l' := [(1, .int ((vl_I p) + Int32.ofInt 1)), (0, .ref 196)]) (st' := []) rfl Kz) ?_
        refine jv_Wp.loc (l := [(0, .ref 196), (1, .int ((vl_I p) + Int32.ofInt 1))]) ⟨List.forall_mem_cons.mpr ⟨.tail _ (.head _), List.forall_mem_cons.mpr ⟨.head _, fun _ h => absurd h List.not_mem_nil⟩⟩, by show List.Nodup [1, 0]; decide⟩ ?_
        obtain ⟨J, hJ⟩ : ∃ J, J = (jv_u I1 196 5 (vl_I dr.1)) := ⟨_, rfl⟩
        rw [← hJ]
        have G1 : vr_fr anyP vr_E4 I0 L0 I1 L1 := vr_fr_trans g1 (vr_fr_mono F1 (fun _ z => z) (fun q g z => z.elim Or.inl (fun z => Or.inr (by omega))))
        have FJ : vr_fr noP (fun q g => q = 196 ∧ g = 5) I1 L1 J L1 := by rw [hJ]; exact vr_fr196 (vr_fl_of F1) 5 _
        have J5 : J 196 5 = vl_I dr.1 := by rw [hJ]; exact jv_u_self _ _ _ _
        have GJ : vr_fr anyP vr_E4 I0 L0 J L1 := vr_fr_trans G1 (vr_fr_mono FJ (fun _ z => z.elim) (fun q g z => Or.inr (by omega)))
        have jJ : vr_j10 J := by unfold vr_j10; rw [(vr_fr_i FJ (x := 76885) (fun z => z)).1]; exact J1
        have c0 : dr.1 = 0 := (Nat.le_zero.mp ((vl_I_le (b := 0) (by omega) (by decide)).mp h3))
        obtain ⟨q1, q2⟩ := P1 c0
        rw [show vl_I p + Int32.ofInt 1 = vl_I (p + 1) from vl_I_add p 1]
        have S2 : vr_ST J L1 (vz_gos p dr.2 st).1 := vr_ST_M FJ (fun _ z => z.elim) (fun q g z a b => by omega) q1
        have f17 : J 196 17 = vr_b (c || (vz_gos p dr.2 st).2) := (FJ.2.1 196 17 (fun z => by omega) (by decide) (fun z => by omega)).trans (q2.trans (by rw [gc]; cases c <;> cases (vz_gos p dr.2 st).2 <;> rfl))
        have len2 : dr.2.length ≤ 2 := by rw [hdr]; exact (vx_does_10 hx (g3.2.2.2.1 p A hA)).2
        have r2 : vz_rS N fst (vz_gos p dr.2 st).1 (b + 2) := vz_rS_le (vz_gos_r dr.2 g3 (fun e he => ⟨hgd e he, (by rw [hdr] at he; exact vx_does_g hM8 (by have := hx.1; omega) (by have := hx.2.1; omega) wel.2.1 okA (g3.2.1 p A hA) e he), (by rw [hdr] at he; exact (vx_does_10 hx (g3.2.2.2.1 p A hA)).1 e he), (by have q := hto e he; have q1 : 0 ≤ e.1 := q.1; have q2 : e.1 < N := q.2.1; omega), (hto e he).2.2⟩)) (by omega)
        rw [hdr] at S2 f17 r2 c0
        exact contG pN A hA c0 J L1 ⟨GJ, S2, r2, jJ⟩ f17 (J5.trans (by rw [hdr, c0]; rfl)) ((FJ.2.1 196 6 (fun z => by omega) (by decide) (fun z => by omega)).trans (F1.2.1 196 6 (fun z => by omega) (by decide) (fun z => by unfold vr_E18 at z; omega)))
      · refine jv_Wp.lift (fun _ Kz => jv_Ev.steps jv_i314 1 (pc' := 85) (l' := [(0, .ref 196), (1, .int (vl_I p))]) (st' := [.int (vl_I p)]) rfl Kz) ?_
        obtain ⟨J, hJ⟩ : ∃ J, J = (jv_u I1 196 5 (vl_I dr.1)) := ⟨_, rfl⟩
        rw [← hJ]
        have G1 : vr_fr anyP vr_E4 I0 L0 I1 L1 := vr_fr_trans g1 (vr_fr_mono F1 (fun _ z => z) (fun q g z => z.elim Or.inl (fun z => Or.inr (by omega))))
        have FJ : vr_fr noP (fun q g => q = 196 ∧ g = 5) I1 L1 J L1 := by rw [hJ]; exact vr_fr196 (vr_fl_of F1) 5 _
        have J5 : J 196 5 = vl_I dr.1 := by rw [hJ]; exact jv_u_self _ _ _ _
        have GJ : vr_fr anyP vr_E4 I0 L0 J L1 := vr_fr_trans G1 (vr_fr_mono FJ (fun _ z => z.elim) (fun q g z => Or.inr (by omega)))
        have jJ : vr_j10 J := by unfold vr_j10; rw [(vr_fr_i FJ (x := 76885) (fun z => z)).1]; exact J1
        have c0 : dr.1 ≠ 0 := (fun y => h3 (by rw [y]; decide))
        refine jv_Wp.of (jv_Ev.ret jv_i314 rfl rfl) ?_
        exact contB pN A hA (by show (vx_does M (vr_F B p) (vr_F B (p + 1)).i p A).1 ≠ 0; rw [← hdr]; exact c0) J L1 (J5.trans (by rw [hdr]; rfl)) GJ jJ