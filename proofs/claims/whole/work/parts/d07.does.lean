/-! part d07: an instruction of the reference (gen/td07.py) -/
theorem vr_fr196 {I : Nat → Nat → Int32} {L : Nat → Nat → Int64} (hf : vr_fl I) (j : Nat) (v : Int32) : vr_fr noP (fun q g => q = 196 ∧ g = j) I L (jv_u I 196 j v) L := by
  refine ⟨fun q hq => (jv_u_o _ _ _ _ (by decide)).trans (hf q hq), fun q f a b c => ?_, fun _ _ _ => rfl⟩
  by_cases e : q = 196
  · rw [e]; exact jv_u_j _ _ _ _ (fun y => c ⟨by omega, e, y⟩)
  · exact jv_u_o _ _ _ _ e
theorem vx_arith_le {f : vf_F} {A : vt_A} : (vx_arith f A).1 ≤ 9 := by
  unfold vx_arith; dsimp only
  repeat' split
  all_goals first | exact (by decide : (1 : Nat) ≤ 9) | exact (by decide : (0 : Nat) ≤ 9) | exact (by decide : (2 : Nat) ≤ 9) | skip
  unfold vx_move; dsimp only
  repeat' split
  all_goals first | exact (by decide : (2 : Nat) ≤ 9) | exact (by decide : (0 : Nat) ≤ 9)
theorem vx_load_le {M : vf_M} {f : vf_F} {A : vt_A} : (vx_load M f A).1 ≤ 9 := by
  unfold vx_load; dsimp only
  repeat' split
  all_goals first | exact (by decide : (1 : Nat) ≤ 9) | exact (by decide : (0 : Nat) ≤ 9) | exact (by decide : (5 : Nat) ≤ 9) | exact Nat.le_of_lt (Nat.lt_of_lt_of_le vx_reach_lt (by decide))
theorem vx_store_le {M : vf_M} {f : vf_F} {A : vt_A} : (vx_store M f A).1 ≤ 9 := by
  unfold vx_store; dsimp only
  repeat' split
  all_goals first | exact (by decide : (1 : Nat) ≤ 9) | exact (by decide : (0 : Nat) ≤ 9) | exact (by decide : (6 : Nat) ≤ 9) | exact Nat.le_of_lt (Nat.lt_of_lt_of_le vx_reach_lt (by decide))
theorem vx_atomic_le {M : vf_M} {f : vf_F} {A : vt_A} : (vx_atomic M f A).1 ≤ 9 := by
  unfold vx_atomic; dsimp only
  repeat' split
  all_goals first | exact (by decide : (1 : Nat) ≤ 9) | exact (by decide : (0 : Nat) ≤ 9) | exact (by decide : (3 : Nat) ≤ 9) | exact (by decide : (4 : Nat) ≤ 9) | exact (by decide : (6 : Nat) ≤ 9)
theorem vx_wide_le {M : vf_M} {f : vf_F} {i2 : Int} {A : vt_A} : (vx_wide M f i2 A).1 ≤ 9 := by
  unfold vx_wide
  repeat' split
  all_goals first | exact (by decide : (0 : Nat) ≤ 9) | exact (by decide : (8 : Nat) ≤ 9)
theorem vx_isnum_le {A : vt_A} : vx_isnum A 0 6 ≤ 9 := by
  unfold vx_isnum
  repeat' split
  all_goals decide
theorem vx_jump_le {f : vf_F} {A : vt_A} : (vx_jump f A).1 ≤ 9 := by
  by_cases h1 : vx_j1 f A
  · rw [vx_jp1 h1]; exact (by decide : (1 : Nat) ≤ 9)
  by_cases h2 : vx_j2 f A
  · rw [vx_jump_num h1 h2]; exact (by decide)
  by_cases h3 : vx_j3 f A
  · rw [vx_jp3 h1 h2 h3]; exact (by decide : (0 : Nat) ≤ 9)
  by_cases h4 : vx_j4 f A
  · rw [vx_jump_pkt h1 h2 h3 h4]; exact (by decide)
  · rw [vx_jp5 h1 h2 h3 h4]; exact (by decide : (2 : Nat) ≤ 9)
theorem vx_does_le {M : vf_M} {f : vf_F} {i2 : Int} {p : Nat} {A : vt_A} : (vx_does M f i2 p A).1 ≤ 9 := by
  have k8 : f.kind < 8 := Nat.mod_lt _ (by decide)
  by_cases k0 : f.kind = 0
  · rw [vx_do0 k0, vx_one1]; exact vx_wide_le
  by_cases k1 : f.kind = 1
  · rw [vx_do1 k1, vx_one1]; exact vx_load_le
  by_cases k2 : f.kind = 2
  · rw [vx_do2 k2, vx_one1]; exact vx_store_le
  by_cases k3 : f.kind = 3
  · by_cases m : f.mode = 6
    · rw [vx_do3a k3 m, vx_one1]; exact vx_atomic_le
    · rw [vx_do3s k3 m, vx_one1]; exact vx_store_le
  by_cases k4 : f.kind = 4 ∨ f.kind = 7
  · rw [vx_do4 k4, vx_one1]; exact vx_arith_le
  · have kj : f.kind = 5 ∨ f.kind = 6 := by omega
    by_cases c5 : f.code = 5
    · rw [vx_do5 kj c5]; exact (by decide : (0 : Nat) ≤ 9)
    by_cases c6 : f.code = 6
    · rw [vx_do6 kj c6]; exact (by decide : (0 : Nat) ≤ 9)
    by_cases c1 : f.code = 133
    · rw [vx_do133 kj c1, vx_one1]; exact Nat.le_of_lt (Nat.lt_of_lt_of_le vx_call_lt (Nat.le_refl 9))
    by_cases c4 : f.code = 149
    · rw [vx_do149 kj c4]; exact vx_isnum_le
    · rw [vx_dojj kj c5 c6 c1 c4, vx_jif1]; exact vx_jump_le
theorem jv_i310 : jv_I 310 3 (some .int) 11 324 jv_c310 := ⟨rfl, rfl, rfl, rfl, rfl⟩
theorem vq_doT {K : Nat → Option (Nat × Nat)} {I : Nat → Nat → Int32} {L : Nat → Nat → Int64} {R : Nat → Nat → Value} {st : vz_S} (p : Nat) (r : Nat × vt_A) (hW : jv_rW K R) (hf : vr_fl I) (hS : vr_ST I L st) (h18 : I 196 18 = vl_I p) (hp : p < 1024) (hch : ∀ q, st.2 q < 2147483000) (hh : I 202 1024 = vr_b true) (hj : vr_j10 I) (hr : r.1 < 2147483648) (h0 : r.1 = 0 → vr_A I L 1024 = r.2 ∧ vr_okA I 1024 ∧ vt_okA r.2 ∧ p + 1 < 1024) {n sl : Nat} {Q : jv_R → Prop} (hQ : ∀ I1 L1, (r.1 = 0 → vr_ST I1 L1 (vz_gos p (vx_one r (p + 1)).2 st).1 ∧ I1 196 17 = (if (vz_gos p (vx_one r (p + 1)).2 st).2 = true then 1 else I 196 17)) → vr_fr anyP vr_E18 I L I1 L1 → vr_j10 I1 → Q (some (.int (vl_I r.1)), jv_H K I1 L1 R, n, sl)) : jv_Wp 310 136 [(0, .ref 196), (1, .int (vl_I p)), (2, .int (vl_I r.1))] [] (jv_H K I L R) n sl Q := by
  refine jv_Wp.lift (fun _ Kz => jv_Ev.steps jv_i310 1 (pc' := 137) (l' := [(0, .ref 196), (1, .int (vl_I p)), (2, .int (vl_I r.1))]) (st' := [.int (vl_I r.1)]) rfl Kz) ?_
  refine jv_Wp.cnd jv_i310 (pt := 150) (pe := 140) (p := (¬ (vl_I r.1) = 0)) (q := (¬ (vl_I r.1) = 0)) rfl jv_bi_ne rfl rfl Iff.rfl (fun h1 => ?_) (fun h1 => ?_)
  · refine jv_Wp.lift (fun _ Kz => jv_Ev.steps jv_i310 1 (pc' := 151) (l' := [(0, .ref 196), (1, .int (vl_I p)), (2, .int (vl_I r.1))]) (st' := [.int (vl_I r.1)]) rfl Kz) ?_
    refine jv_Wp.of (jv_Ev.ret jv_i310 rfl rfl) ?_
    have c0 : r.1 ≠ 0 := fun y => h1 (by rw [y]; rfl)
    refine hQ I L (fun z => absurd z c0) (vr_fr_refl hf) hj
  · refine jv_Wp.lift (fun _ Kz => jv_Ev.steps jv_i310 5 (pc' := 147) (l' := [(0, .ref 196), (1, .int (vl_I p)), (2, .int (vl_I r.1))]) (st' := [.int ((vl_I p) + (1 : Int32)), .int (1024 : Int32), .ref 196]) rfl Kz) ?_
    have c0 : r.1 = 0 := ((vl_I_inj (b := 0) (by omega) (by decide)).mp (Classical.not_not.mp h1))
    obtain ⟨A4, O4, tg, to⟩ := h0 c0
    obtain ⟨I1, L1, H1, S1, g1, F1⟩ := vq_goTo (R := R) (n := n) (sl := sl) (st := st) 1024 (p + 1) p true hW hf hS (by decide) (by decide) (by decide) to O4 (by rw [A4]; exact tg) hh h18 (by omega) (by have := hch (p + 1); omega)
    rw [← vl_I_p1 p] at H1
    rw [A4] at S1 g1
    refine jv_Wp.lift (fun _ Kz => jv_Ev.c jv_i310 (pc' := 150) (S' := []) (G1 := (jv_H K I1 L1 R)) jv_i281 [.ref 196, .int (1024 : Int32), .int ((vl_I p) + (1 : Int32))] rfl rfl rfl rfl (jv_cal rfl (jv_H_at (jv_rwK hW 196 12 24 (by decide))) rfl rfl) rfl H1 rfl rfl Kz) ?_
    refine jv_Wp.lift (fun _ Kz => jv_Ev.steps jv_i310 1 (pc' := 151) (l' := [(0, .ref 196), (1, .int (vl_I p)), (2, .int (vl_I r.1))]) (st' := [.int (vl_I r.1)]) rfl Kz) ?_
    refine jv_Wp.of (jv_Ev.ret jv_i310 rfl rfl) ?_
    have ep : ((p : Int) + 1).toNat = p + 1 := by omega
    refine hQ I1 L1 (fun _ => ⟨?_, ?_⟩) (vr_fr_mono F1 (fun _ _ => trivial) (fun q g z => z.elim (fun z => Or.inl (by omega)) (fun z => Or.inr (by omega)))) ?_
    · rw [vx_one0 c0, vz_gos1]; show vr_ST I1 L1 (vz_go p _ _ st).1; rw [ep]; exact S1
    · rw [vx_one0 c0, vz_gos1]; show _ = if (vz_go p _ _ st).2 = true then 1 else _; rw [ep]; exact g1
    · unfold vr_j10; rw [(vr_fr_i F1 (x := 76885) (fun z => by unfold vr_th at z; omega)).1]; exact hj
theorem vq_does {K : Nat → Option (Nat × Nat)} {I : Nat → Nat → Int32} {L : Nat → Nat → Int64} {R : Nat → Nat → Value} {st : vz_S} {M : vf_M} {B : Nat → Nat} {N b : Nat} {fst : Nat → Bool} {A : vt_A} (f : vf_F) (p : Nat) (i2 : Int) (hW : jv_rW K R) (hf : vr_fl I) (hM : vr_M I M) (hM8 : ∀ k, 8 ≤ k → M k = none) (hB : vr_tp I 198 (8 * N) B) (hN : N ≤ 1024) (hp : p < N) (ef : f = vr_F B p) (ei : i2 = (vr_F B (p + 1)).i) (wel : vf_wel (vr_F B) N fst p) (hx : vf_x f) (hS : vr_ST I L st) (hA : st.1 p = some A) (hr : vz_rS N fst st b) (hb : b < 2147483000) (hj : vr_j10 I) (hZ6 : vb_toS (vr_S L 6) = vb_just 0) (hgd : ∀ e ∈ (vx_does M f i2 p A).2, vt_okA e.2) (hto : ∀ e ∈ (vx_does M f i2 p A).2, 0 ≤ e.1 ∧ e.1 < N ∧ fst e.1.toNat = true) {n sl : Nat} : ∃ I1 L1, jv_Ms 310 [.ref 196, .int (vl_I p)] (jv_H K I L R) n sl (some (.int (vl_I (vx_does M f i2 p A).1)), jv_H K I1 L1 R, n, sl) ∧ ((vx_does M f i2 p A).1 = 0 → vr_ST I1 L1 (vz_gos p (vx_does M f i2 p A).2 st).1 ∧ I1 196 17 = (if (vz_gos p (vx_does M f i2 p A).2 st).2 = true then 1 else I 196 17)) ∧ vr_fr anyP vr_E18 I L I1 L1 ∧ vr_j10 I1 := by
  obtain ⟨Q, hQ⟩ : ∃ Q : jv_R → Prop, Q = fun X => ∃ I1 L1, X = (some (.int (vl_I (vx_does M f i2 p A).1)), jv_H K I1 L1 R, n, sl) ∧ ((vx_does M f i2 p A).1 = 0 → vr_ST I1 L1 (vz_gos p (vx_does M f i2 p A).2 st).1 ∧ I1 196 17 = (if (vz_gos p (vx_does M f i2 p A).2 st).2 = true then 1 else I 196 17)) ∧ vr_fr anyP vr_E18 I L I1 L1 ∧ vr_j10 I1 := ⟨_, rfl⟩
  suffices h : jv_Wp 310 0 [(0, .ref 196), (1, .int (vl_I p))] [] (jv_H K I L R) n sl Q by
    rw [hQ] at h
    obtain ⟨X, h, I1, L1, e, h'⟩ := h
    subst e
    exact ⟨I1, L1, h, h'⟩
  have h9 : f.code < 256 := by rw [ef]; exact (hB (8 * p) (by omega)).2
  have k8 : f.kind < 8 := Nat.mod_lt _ (by decide)
  have hmd : f.mode < 8 := by unfold vf_F.mode; omega
  unfold vf_wel at wel
  rw [← ef] at wel
  have hok := wel.1
  refine jv_Wp.lift (fun _ Kz => jv_Ev.steps jv_i310 2 (pc' := 2) (l' := [(0, .ref 196), (1, .int (vl_I p))]) (st' := [.int (vl_I p), .ref 196]) rfl Kz) ?_
  refine jv_Wp.lift (fun _ Kz => jv_Ev.m jv_i310 (pc' := 5) (st' := []) (G' := (jv_H K (jv_u I 196 18 (vl_I p)) L R)) rfl rfl (jv_m_putI (jv_rwK hW 196 12 24 (by decide)) rfl rfl rfl rfl) Kz) ?_
  refine jv_Wp.lift (fun _ Kz => jv_Ev.steps jv_i310 3 (pc' := 10) (l' := [(0, .ref 196), (1, .int (vl_I p))]) (st' := [.int (1024 : Int32), .int (vl_I p), .ref 196]) rfl Kz) ?_
  obtain ⟨I0, hI0⟩ : ∃ J, J = (jv_u I 196 18 (vl_I p)) := ⟨_, rfl⟩
  rw [← hI0]
  have F0 : vr_fr noP (fun q g => q = 196 ∧ g = 18) I L I0 L := by rw [hI0]; exact vr_fr196 hf 18 _
  have Z0 := vr_fl_of F0
  have c18 : I0 196 18 = vl_I p := by rw [hI0]; exact jv_u_self _ _ _ _
  have S0 := vr_ST_M F0 (fun _ z => z.elim) (fun q g z a b => by omega) hS
  obtain ⟨h2p, hAp⟩ := S0 p (by omega)
  obtain ⟨eAp, oAp, _, _⟩ := hAp A hA
  obtain ⟨I2, L2, H2, E2, O2, hh2, F2⟩ := vq_copyState (I := I0) (L := L) (R := R) (n := n) (sl := sl) p 1024 true hW Z0 (by omega) (by decide) (by omega) oAp (by rw [h2p, hA]; rfl)
  have Z2 := vr_fl_of F2
  rw [eAp] at E2
  refine jv_Wp.lift (fun _ Kz => jv_Ev.c jv_i310 (pc' := 13) (S' := []) (G1 := (jv_H K I2 L2 R)) jv_i276 [.ref 196, .int (vl_I p), .int (1024 : Int32)] rfl rfl rfl rfl (jv_cal rfl (jv_H_at (jv_rwK hW 196 12 24 (by decide))) rfl rfl) rfl H2 rfl rfl Kz) ?_
  refine jv_Wp.lift (fun _ Kz => jv_Ev.steps jv_i310 2 (pc' := 15) (l' := [(0, .ref 196), (1, .int (vl_I p))]) (st' := [.ref 196, .ref 196]) rfl Kz) ?_
  refine jv_Wp.lift (fun _ Kz => jv_Ev.m jv_i310 (pc' := 18) (st' := [.ref 198, .ref 196]) (G' := (jv_H K I2 L2 R)) rfl rfl (jv_m_getR (jv_rwK hW 196 12 24 (by decide)) rfl rfl (jv_rwR hW 196 3 198 (by decide))) Kz) ?_
  refine jv_Wp.lift (fun _ Kz => jv_Ev.steps jv_i310 1 (pc' := 19) (l' := [(0, .ref 196), (1, .int (vl_I p))]) (st' := [.int (vl_I p), .ref 198, .ref 196]) rfl Kz) ?_
  have tp2 : vr_tp I2 198 (8 * N) B := vr_tp_fr F2 (Or.inr rfl) (fun j z => by omega) (vr_tp_fr F0 (Or.inr rfl) (fun j z => by omega) hB)
  obtain ⟨I3, L3, H3, D3, F3⟩ := vq_take198 (I := I2) (L := L2) (R := R) (n := n) (sl := sl) p (8 * N) B hW Z2 tp2 (by omega) (by omega)
  rw [← ef] at D3
  have Z3 := vr_fl_of F3
  have E3 : vr_A I3 L3 1024 = A := (vr_fr_Ak F3 (fun _ _ z => z) (fun z => by omega)).trans E2
  have O3 : vr_okA I3 1024 := vr_fr_okA F3 (fun _ _ z => z) O2
  have hh3 : I3 202 1024 = vr_b true := (F3.2.1 202 1024 (fun z => by omega) (by decide) (fun z => by omega)).trans hh2
  have c183 : I3 196 18 = vl_I p := (F3.2.1 196 18 (fun z => by omega) (by decide) (fun z => by omega)).trans ((F2.2.1 196 18 (fun z => by omega) (by decide) (fun z => by omega)).trans c18)
  have S3 := vr_ST_M F3 (fun _ z => z.elim) (fun q g z a b => by omega) (vr_ST_M F2 (fun x z => by unfold vr_th at z; omega) (fun q g z a b => by omega) S0)
  have M3 := vr_M_fr F3 (fun q g a b z => by omega) (vr_M_fr F2 (fun q g a b z => by omega) (vr_M_fr F0 (fun q g a b z => by omega) hM))
  have tp3 : vr_tp I3 198 (8 * N) B := vr_tp_fr F3 (Or.inr rfl) (fun j z => by omega) tp2
  have x6 : vb_toS (vr_S L3 6) = vb_just 0 := by rw [vr_fr_6 F3, vr_fr_6 F2, vr_fr_6 F0]; exact hZ6
  have jj : vr_j10 I3 := by unfold vr_j10; rw [(vr_fr_i F3 (x := 76885) (fun z => z)).1, (vr_fr_i F2 (x := 76885) (fun z => by unfold vr_th at z; omega)).1, (vr_fr_i F0 (x := 76885) (fun z => z)).1]; exact hj
  have eT : ∀ n, n < 75 → vr_T I3 L3 (76800 + n) = A.1 n := fun n hn => by rw [← E3]; exact (vr_A1 (k := 1024) hn).symm
  have tA : ∀ n, n < 75 → vt_ok (vr_T I3 L3 (76800 + n)) := fun n hn => by rw [eT n hn]; exact hr.1 p A hA n hn
  have gA : ∀ n, n < 75 → vt_g (vr_T I3 L3 (76800 + n)) := fun n hn => by rw [eT n hn]; exact (hr.2.1 p A hA).1 n hn
  have t10 : vr_T I3 L3 (76800 + 10) = vt_stk 0 := (eT 10 (by decide)).trans (hr.2.2.2.1 p A hA)
  have G : vr_fr anyP vr_E18 I L I3 L3 := vr_fr_trans (vr_fr_mono F0 (fun _ z => z.elim) (fun q g z => Or.inr (by omega))) (vr_fr_trans (vr_fr_mono F2 (fun _ _ => trivial) (fun q g z => Or.inl (by omega))) (vr_fr_mono F3 (fun _ z => z.elim) (fun q g z => Or.inr (by omega))))
  have c17 : I3 196 17 = I 196 17 := (F3.2.1 196 17 (fun z => by omega) (by decide) (fun z => by omega)).trans ((F2.2.1 196 17 (fun z => by omega) (by decide) (fun z => by omega)).trans (F0.2.1 196 17 (fun z => by omega) (by decide) (fun z => by omega)))
  refine jv_Wp.lift (fun _ Kz => jv_Ev.c jv_i310 (pc' := 22) (S' := []) (G1 := (jv_H K I3 L3 R)) jv_i256 [.ref 196, .ref 198, .int (vl_I p)] rfl rfl rfl rfl (jv_cal rfl (jv_H_at (jv_rwK hW 196 12 24 (by decide))) rfl rfl) rfl H3 rfl rfl Kz) ?_
  refine jv_Wp.lift (fun _ Kz => jv_Ev.steps jv_i310 3 (pc' := 25) (l' := [(2, .int (0 : Int32)), (0, .ref 196), (1, .int (vl_I p))]) (st' := [.ref 196]) rfl Kz) ?_
  refine jv_Wp.lift (fun _ Kz => jv_Ev.c jv_i310 (pc' := 28) (S' := [.int (vl_I f.kind)]) jv_i257 [.ref 196] rfl rfl rfl rfl (jv_cal rfl (jv_H_at (jv_rwK hW 196 12 24 (by decide))) rfl rfl) rfl (vq_kind f hW D3) rfl rfl Kz) ?_
  refine jv_Wp.bys (q := ((vl_I f.kind) = Int32.ofInt 0)) (fun h1 => ?_) (fun h1 => ?_)
  · refine jv_Wp.lift (fun _ Kz => jv_Ev.br jv_i310 (pc' := 124) (st' := []) rfl (by rw [h1]; rfl) Kz) ?_
    refine jv_Wp.lift (fun _ Kz => jv_Ev.steps jv_i310 2 (pc' := 126) (l' := [(2, .int (0 : Int32)), (0, .ref 196), (1, .int (vl_I p))]) (st' := [.int (vl_I p), .ref 196]) rfl Kz) ?_
    have k0 : f.kind = 0 := (vl_I_inj (b := 0) (by omega) (by decide)).mp h1
    have wl := (wel.2.2.1 k0).1
    have ed : (vx_does M f i2 p A) = vx_one (vx_wide M f i2 A) (p + 2) := vx_do0 k0
    have WW : ∃ I1 L1, jv_Ms 311 [.ref 196, .int (vl_I p)] (jv_H K I3 L3 R) n sl (some (.int (vl_I (vx_wide M f i2 A).1)), jv_H K I1 L1 R, n, sl) ∧ ((vx_wide M f i2 A).1 = 0 → vr_ST I1 L1 (vz_gos p (vx_one (vx_wide M f i2 A) (p + 2)).2 st).1 ∧ I1 196 17 = (if (vz_gos p (vx_one (vx_wide M f i2 A) (p + 2)).2 st).2 = true then 1 else I3 196 17)) ∧ vr_fr anyP vr_E18 I3 L3 I1 L1 ∧ vr_j10 I1 := by
      rcases (hx.2.2.2.2.2.1 k0).2 with z | z
      · have q := vq_wide0 (R := R) (n := n) (sl := sl) (st := st) (I := I3) (L := L3) (M := M) f p (8 * N) B i2 hW Z3 M3 hM8 S3 D3 c183 (by omega) (fun q => by have := hr.2.2.2.2 q; omega) hx.1 O3 hh3 jj z (wel.2.1 k0) (by omega) tp3 (by omega) (by omega) (by rw [ei]; show vr_32 (vr_n4 B (8 * p + 12)) = vr_32 (vr_n4 B (8 * (p + 1) + 4)); rw [show 8 * (p + 1) + 4 = 8 * p + 12 by omega]) (by rw [E3, ← ed]; exact hgd)
        rw [E3] at q; exact q
      · have q := vq_wide1 (R := R) (n := n) (sl := sl) (st := st) (I := I3) (L := L3) (M := M) f p (8 * N) B i2 hW Z3 M3 hM8 S3 D3 c183 (by omega) (fun q => by have := hr.2.2.2.2 q; omega) hx.1 O3 hh3 jj z (wel.2.1 k0) (by omega) tp3 (by omega) (by omega) (by rw [ei]; show vr_32 (vr_n4 B (8 * p + 12)) = vr_32 (vr_n4 B (8 * (p + 1) + 4)); rw [show 8 * (p + 1) + 4 = 8 * p + 12 by omega]) (by rw [E3, ← ed]; exact hgd)
        rw [E3] at q; exact q
    obtain ⟨I4, L4, H4, P4, F4, J4⟩ := WW
    refine jv_Wp.lift (fun _ Kz => jv_Ev.c jv_i310 (pc' := 129) (S' := [.int (vl_I (vx_wide M f i2 A).1)]) (G1 := (jv_H K I4 L4 R)) jv_i311 [.ref 196, .int (vl_I p)] rfl rfl rfl rfl (jv_cal rfl (jv_H_at (jv_rwK hW 196 12 24 (by decide))) rfl rfl) rfl H4 rfl rfl Kz) ?_
    refine jv_Wp.loc (l := [(0, .ref 196), (1, .int (vl_I p)), (2, .int (0 : Int32))]) ⟨List.forall_mem_cons.mpr ⟨.tail _ (.head _), List.forall_mem_cons.mpr ⟨.tail _ (.tail _ (.head _)), List.forall_mem_cons.mpr ⟨.head _, fun _ h => absurd h List.not_mem_nil⟩⟩⟩, by show List.Nodup [2, 0, 1]; decide⟩ ?_
    refine jv_Wp.of (jv_Ev.ret jv_i310 rfl rfl) ?_
    rw [hQ]
    exact ⟨_, _, by rw [ed, vx_one1], fun z => by rw [ed, vx_one1] at z; obtain ⟨q1, q2⟩ := P4 z; rw [ed]; exact ⟨q1, q2.trans (by rw [c17])⟩, vr_fr_trans G F4, J4⟩
  · refine jv_Wp.bys (q := ((vl_I f.kind) = Int32.ofInt 1)) (fun h2 => ?_) (fun h2 => ?_)
    · refine jv_Wp.lift (fun _ Kz => jv_Ev.br jv_i310 (pc' := 84) (st' := []) rfl (by rw [h2]; rfl) Kz) ?_
      refine jv_Wp.lift (fun _ Kz => jv_Ev.steps jv_i310 1 (pc' := 85) (l' := [(2, .int (0 : Int32)), (0, .ref 196), (1, .int (vl_I p))]) (st' := [.ref 196]) rfl Kz) ?_
      have k0 : ¬ f.kind = 0 := fun z => h1 ((vl_I_inj (b := 0) (by omega) (by decide)).mpr z)
      have k1 : f.kind = 1 := (vl_I_inj (b := 1) (by omega) (by decide)).mp h2
      obtain ⟨I5, L5, H5, P5, F5⟩ := vq_load (I := I3) (L := L3) (R := R) (n := n) (sl := sl) M f hW Z3 M3 D3 O3 jj gA hx.1 hx.2.1 (hok.2.2 (by omega)) x6
      rw [E3] at H5 P5
      refine jv_Wp.lift (fun _ Kz => jv_Ev.c jv_i310 (pc' := 88) (S' := [.int (vl_I (vx_load M f A).1)]) (G1 := (jv_H K I5 L5 R)) jv_i293 [.ref 196] rfl rfl rfl rfl (jv_cal rfl (jv_H_at (jv_rwK hW 196 12 24 (by decide))) rfl rfl) rfl H5 rfl rfl Kz) ?_
      refine jv_Wp.lift (fun _ Kz => jv_Ev.steps jv_i310 2 (pc' := 136) (l' := [(2, .int (vl_I (vx_load M f A).1)), (0, .ref 196), (1, .int (vl_I p))]) (st' := []) rfl Kz) ?_
      refine jv_Wp.loc (l := [(0, .ref 196), (1, .int (vl_I p)), (2, .int (vl_I (vx_load M f A).1))]) ⟨List.forall_mem_cons.mpr ⟨.tail _ (.head _), List.forall_mem_cons.mpr ⟨.tail _ (.tail _ (.head _)), List.forall_mem_cons.mpr ⟨.head _, fun _ h => absurd h List.not_mem_nil⟩⟩⟩, by show List.Nodup [2, 0, 1]; decide⟩ ?_
      have k0 : ¬ f.kind = 0 := fun z => h1 ((vl_I_inj (b := 0) (by omega) (by decide)).mpr z)
      have k1 : f.kind = 1 := (vl_I_inj (b := 1) (by omega) (by decide)).mp h2
      have ed : (vx_does M f i2 p A) = vx_one (vx_load M f A) (p + 1) := vx_do1 (by omega)
      have Z5 := vr_fl_of F5
      have lt : (vx_load M f A).1 < 2147483648 := by rw [← vx_one1 (vx_load M f A) ((p : Int) + 1), ← ed]; exact Nat.lt_of_le_of_lt vx_does_le (by decide)
      have g0 : (vx_load M f A).1 = 0 → vt_okA (vx_load M f A).2 ∧ p + 1 < 1024 := fun z => by
        have e2 : (vx_does M f i2 p A).2 = [((p : Int) + 1, (vx_load M f A).2)] := (congrArg Prod.snd ed).trans (congrArg Prod.snd (vx_one0 z))
        have a1 := hgd _ (by rw [e2]; exact List.mem_singleton.mpr rfl)
        have a2 := hto _ (by rw [e2]; exact List.mem_singleton.mpr rfl)
        have a3 : (p : Int) + 1 < N := a2.2.1
        exact ⟨a1, by omega⟩
      refine vq_doT (st := st) p (vx_load M f A) hW Z5 (vr_ST_M F5 (fun x z => by omega) (fun q g z a b => z.elim) S3) ((vr_fr_c F5 (by decide) (by decide)).trans c183) (by omega) (fun q => by have := hr.2.2.2.2 q; omega) ((vr_fr_c F5 (by decide) (by decide)).trans hh3) (by unfold vr_j10; rw [(vr_fr_i F5 (x := 76885) (fun z => by have := hx.1; have := hx.2.1; omega)).1]; exact jj) lt (fun z => ⟨(P5 z).1, (P5 z).2, g0 z⟩) (fun I1 L1 q1 q2 q3 => ?_)
      rw [hQ]
      exact ⟨I1, L1, by rw [ed, vx_one1], fun z => by rw [ed, vx_one1] at z; rw [ed]; obtain ⟨u1, u2⟩ := q1 z; exact ⟨u1, u2.trans (by rw [vr_fr_c F5 (by decide) (by decide), c17])⟩, vr_fr_trans G (vr_fr_trans (vr_fr_mono F5 (fun _ _ => trivial) (fun _ _ z => z.elim)) q2), q3⟩
    · refine jv_Wp.bys (q := ((vl_I f.kind) = Int32.ofInt 2)) (fun h3 => ?_) (fun h3 => ?_)
      · refine jv_Wp.lift (fun _ Kz => jv_Ev.br jv_i310 (pc' := 92) (st' := []) rfl (by rw [h3]; rfl) Kz) ?_
        refine jv_Wp.lift (fun _ Kz => jv_Ev.steps jv_i310 1 (pc' := 93) (l' := [(2, .int (0 : Int32)), (0, .ref 196), (1, .int (vl_I p))]) (st' := [.ref 196]) rfl Kz) ?_
        have k0 : ¬ f.kind = 0 := fun z => h1 ((vl_I_inj (b := 0) (by omega) (by decide)).mpr z)
        have k1 : ¬ f.kind = 1 := fun z => h2 ((vl_I_inj (b := 1) (by omega) (by decide)).mpr z)
        have k2 : f.kind = 2 := (vl_I_inj (b := 2) (by omega) (by decide)).mp h3
        obtain ⟨I6, L6, H6, P6, F6⟩ := vq_storeI (I := I3) (L := L3) (R := R) (n := n) (sl := sl) M f hW Z3 M3 D3 (by omega) O3 gA hx.1 hx.2.1
        rw [E3] at H6 P6
        refine jv_Wp.lift (fun _ Kz => jv_Ev.c jv_i310 (pc' := 96) (S' := [.int (vl_I (vx_store M f A).1)]) (G1 := (jv_H K I6 L6 R)) jv_i294 [.ref 196] rfl rfl rfl rfl (jv_cal rfl (jv_H_at (jv_rwK hW 196 12 24 (by decide))) rfl rfl) rfl H6 rfl rfl Kz) ?_
        refine jv_Wp.lift (fun _ Kz => jv_Ev.steps jv_i310 2 (pc' := 136) (l' := [(2, .int (vl_I (vx_store M f A).1)), (0, .ref 196), (1, .int (vl_I p))]) (st' := []) rfl Kz) ?_
        refine jv_Wp.loc (l := [(0, .ref 196), (1, .int (vl_I p)), (2, .int (vl_I (vx_store M f A).1))]) ⟨List.forall_mem_cons.mpr ⟨.tail _ (.head _), List.forall_mem_cons.mpr ⟨.tail _ (.tail _ (.head _)), List.forall_mem_cons.mpr ⟨.head _, fun _ h => absurd h List.not_mem_nil⟩⟩⟩, by show List.Nodup [2, 0, 1]; decide⟩ ?_
        have k0 : ¬ f.kind = 0 := fun z => h1 ((vl_I_inj (b := 0) (by omega) (by decide)).mpr z)
        have k1 : ¬ f.kind = 1 := fun z => h2 ((vl_I_inj (b := 1) (by omega) (by decide)).mpr z)
        have k2 : f.kind = 2 := (vl_I_inj (b := 2) (by omega) (by decide)).mp h3
        have ed : (vx_does M f i2 p A) = vx_one (vx_store M f A) (p + 1) := vx_do2 (by omega)
        have Z6 := vr_fl_of F6
        have lt : (vx_store M f A).1 < 2147483648 := by rw [← vx_one1 (vx_store M f A) ((p : Int) + 1), ← ed]; exact Nat.lt_of_le_of_lt vx_does_le (by decide)
        have g0 : (vx_store M f A).1 = 0 → vt_okA (vx_store M f A).2 ∧ p + 1 < 1024 := fun z => by
          have e2 : (vx_does M f i2 p A).2 = [((p : Int) + 1, (vx_store M f A).2)] := (congrArg Prod.snd ed).trans (congrArg Prod.snd (vx_one0 z))
          have a1 := hgd _ (by rw [e2]; exact List.mem_singleton.mpr rfl)
          have a2 := hto _ (by rw [e2]; exact List.mem_singleton.mpr rfl)
          have a3 : (p : Int) + 1 < N := a2.2.1
          exact ⟨a1, by omega⟩
        refine vq_doT (st := st) p (vx_store M f A) hW Z6 (vr_ST_M F6 (fun x z => by omega) (fun q g z a b => z.elim) S3) ((vr_fr_c F6 (by decide) (by decide)).trans c183) (by omega) (fun q => by have := hr.2.2.2.2 q; omega) ((vr_fr_c F6 (by decide) (by decide)).trans hh3) (by unfold vr_j10; rw [(vr_fr_i F6 (x := 76885) (fun z => by have := hx.1; have := hx.2.1; omega)).1]; exact jj) lt (fun z => ⟨(P6 z).1, (P6 z).2, g0 z⟩) (fun I1 L1 q1 q2 q3 => ?_)
        rw [hQ]
        exact ⟨I1, L1, by rw [ed, vx_one1], fun z => by rw [ed, vx_one1] at z; rw [ed]; obtain ⟨u1, u2⟩ := q1 z; exact ⟨u1, u2.trans (by rw [vr_fr_c F6 (by decide) (by decide), c17])⟩, vr_fr_trans G (vr_fr_trans (vr_fr_mono F6 (fun _ _ => trivial) (fun _ _ z => z.elim)) q2), q3⟩
      · refine jv_Wp.bys (q := ((vl_I f.kind) = Int32.ofInt 3)) (fun h4 => ?_) (fun h4 => ?_)
        · refine jv_Wp.lift (fun _ Kz => jv_Ev.br jv_i310 (pc' := 100) (st' := []) rfl (by rw [h4]; rfl) Kz) ?_
          refine jv_Wp.lift (fun _ Kz => jv_Ev.steps jv_i310 1 (pc' := 101) (l' := [(2, .int (0 : Int32)), (0, .ref 196), (1, .int (vl_I p))]) (st' := [.ref 196]) rfl Kz) ?_
          refine jv_Wp.lift (fun _ Kz => jv_Ev.c jv_i310 (pc' := 104) (S' := [.int (vl_I f.mode)]) jv_i261 [.ref 196] rfl rfl rfl rfl (jv_cal rfl (jv_H_at (jv_rwK hW 196 12 24 (by decide))) rfl rfl) rfl (vq_mode f hW D3) rfl rfl Kz) ?_
          refine jv_Wp.lift (fun _ Kz => jv_Ev.steps jv_i310 1 (pc' := 106) (l' := [(2, .int (0 : Int32)), (0, .ref 196), (1, .int (vl_I p))]) (st' := [.int (6 : Int32), .int (vl_I f.mode)]) rfl Kz) ?_
          refine jv_Wp.cnd jv_i310 (pt := 116) (pe := 109) (p := (¬ (vl_I f.mode) = (6 : Int32))) (q := (¬ (vl_I f.mode) = (6 : Int32))) rfl jv_bc_ne rfl rfl Iff.rfl (fun h5 => ?_) (fun h5 => ?_)
          · refine jv_Wp.lift (fun _ Kz => jv_Ev.steps jv_i310 1 (pc' := 117) (l' := [(2, .int (0 : Int32)), (0, .ref 196), (1, .int (vl_I p))]) (st' := [.ref 196]) rfl Kz) ?_
            have k0 : ¬ f.kind = 0 := fun z => h1 ((vl_I_inj (b := 0) (by omega) (by decide)).mpr z)
            have k1 : ¬ f.kind = 1 := fun z => h2 ((vl_I_inj (b := 1) (by omega) (by decide)).mpr z)
            have k2 : ¬ f.kind = 2 := fun z => h3 ((vl_I_inj (b := 2) (by omega) (by decide)).mpr z)
            have k3 : f.kind = 3 := (vl_I_inj (b := 3) (by omega) (by decide)).mp h4
            have m6 : ¬ f.mode = 6 := fun z => h5 ((vl_I_inj (b := 6) (by omega) (by decide)).mpr z)
            obtain ⟨I7, L7, H7, P7, F7⟩ := vq_storeR (I := I3) (L := L3) (R := R) (n := n) (sl := sl) M f hW Z3 M3 D3 (by omega) O3 gA hx.1 hx.2.1
            rw [E3] at H7 P7
            refine jv_Wp.lift (fun _ Kz => jv_Ev.c jv_i310 (pc' := 120) (S' := [.int (vl_I (vx_store M f A).1)]) (G1 := (jv_H K I7 L7 R)) jv_i294 [.ref 196] rfl rfl rfl rfl (jv_cal rfl (jv_H_at (jv_rwK hW 196 12 24 (by decide))) rfl rfl) rfl H7 rfl rfl Kz) ?_
            refine jv_Wp.lift (fun _ Kz => jv_Ev.steps jv_i310 2 (pc' := 136) (l' := [(2, .int (vl_I (vx_store M f A).1)), (0, .ref 196), (1, .int (vl_I p))]) (st' := []) rfl Kz) ?_
            refine jv_Wp.loc (l := [(0, .ref 196), (1, .int (vl_I p)), (2, .int (vl_I (vx_store M f A).1))]) ⟨List.forall_mem_cons.mpr ⟨.tail _ (.head _), List.forall_mem_cons.mpr ⟨.tail _ (.tail _ (.head _)), List.forall_mem_cons.mpr ⟨.head _, fun _ h => absurd h List.not_mem_nil⟩⟩⟩, by show List.Nodup [2, 0, 1]; decide⟩ ?_
            have k0 : ¬ f.kind = 0 := fun z => h1 ((vl_I_inj (b := 0) (by omega) (by decide)).mpr z)
            have k1 : ¬ f.kind = 1 := fun z => h2 ((vl_I_inj (b := 1) (by omega) (by decide)).mpr z)
            have k2 : ¬ f.kind = 2 := fun z => h3 ((vl_I_inj (b := 2) (by omega) (by decide)).mpr z)
            have k3 : f.kind = 3 := (vl_I_inj (b := 3) (by omega) (by decide)).mp h4
            have m6 : ¬ f.mode = 6 := fun z => h5 ((vl_I_inj (b := 6) (by omega) (by decide)).mpr z)
            have ed : (vx_does M f i2 p A) = vx_one (vx_store M f A) (p + 1) := vx_do3s (by omega) (by omega)
            have Z7 := vr_fl_of F7
            have lt : (vx_store M f A).1 < 2147483648 := by rw [← vx_one1 (vx_store M f A) ((p : Int) + 1), ← ed]; exact Nat.lt_of_le_of_lt vx_does_le (by decide)
            have g0 : (vx_store M f A).1 = 0 → vt_okA (vx_store M f A).2 ∧ p + 1 < 1024 := fun z => by
              have e2 : (vx_does M f i2 p A).2 = [((p : Int) + 1, (vx_store M f A).2)] := (congrArg Prod.snd ed).trans (congrArg Prod.snd (vx_one0 z))
              have a1 := hgd _ (by rw [e2]; exact List.mem_singleton.mpr rfl)
              have a2 := hto _ (by rw [e2]; exact List.mem_singleton.mpr rfl)
              have a3 : (p : Int) + 1 < N := a2.2.1
              exact ⟨a1, by omega⟩
            refine vq_doT (st := st) p (vx_store M f A) hW Z7 (vr_ST_M F7 (fun x z => by omega) (fun q g z a b => z.elim) S3) ((vr_fr_c F7 (by decide) (by decide)).trans c183) (by omega) (fun q => by have := hr.2.2.2.2 q; omega) ((vr_fr_c F7 (by decide) (by decide)).trans hh3) (by unfold vr_j10; rw [(vr_fr_i F7 (x := 76885) (fun z => by have := hx.1; have := hx.2.1; omega)).1]; exact jj) lt (fun z => ⟨(P7 z).1, (P7 z).2, g0 z⟩) (fun I1 L1 q1 q2 q3 => ?_)
            rw [hQ]
            exact ⟨I1, L1, by rw [ed, vx_one1], fun z => by rw [ed, vx_one1] at z; rw [ed]; obtain ⟨u1, u2⟩ := q1 z; exact ⟨u1, u2.trans (by rw [vr_fr_c F7 (by decide) (by decide), c17])⟩, vr_fr_trans G (vr_fr_trans (vr_fr_mono F7 (fun _ _ => trivial) (fun _ _ z => z.elim)) q2), q3⟩
          · refine jv_Wp.lift (fun _ Kz => jv_Ev.steps jv_i310 1 (pc' := 110) (l' := [(2, .int (0 : Int32)), (0, .ref 196), (1, .int (vl_I p))]) (st' := [.ref 196]) rfl Kz) ?_
            have k0 : ¬ f.kind = 0 := fun z => h1 ((vl_I_inj (b := 0) (by omega) (by decide)).mpr z)
            have k1 : ¬ f.kind = 1 := fun z => h2 ((vl_I_inj (b := 1) (by omega) (by decide)).mpr z)
            have k2 : ¬ f.kind = 2 := fun z => h3 ((vl_I_inj (b := 2) (by omega) (by decide)).mpr z)
            have k3 : f.kind = 3 := (vl_I_inj (b := 3) (by omega) (by decide)).mp h4
            have m6 : f.mode = 6 := (vl_I_inj (b := 6) (by omega) (by decide)).mp (Classical.not_not.mp h5)
            have h8 := hx.2.2.2.2.1 (by omega) (by omega)
            obtain ⟨I8, L8, H8, P8, F8⟩ := vq_atomic (I := I3) (L := L3) (R := R) (n := n) (sl := sl) M f hW Z3 M3 D3 ⟨h8.1, h8.2.1⟩ O3 gA hx.1 hx.2.1
            rw [E3] at H8 P8
            refine jv_Wp.lift (fun _ Kz => jv_Ev.c jv_i310 (pc' := 113) (S' := [.int (vl_I (vx_atomic M f A).1)]) (G1 := (jv_H K I8 L8 R)) jv_i295 [.ref 196] rfl rfl rfl rfl (jv_cal rfl (jv_H_at (jv_rwK hW 196 12 24 (by decide))) rfl rfl) rfl H8 rfl rfl Kz) ?_
            refine jv_Wp.lift (fun _ Kz => jv_Ev.steps jv_i310 3 (pc' := 136) (l' := [(2, .int (vl_I (vx_atomic M f A).1)), (0, .ref 196), (1, .int (vl_I p))]) (st' := []) rfl Kz) ?_
            refine jv_Wp.loc (l := [(0, .ref 196), (1, .int (vl_I p)), (2, .int (vl_I (vx_atomic M f A).1))]) ⟨List.forall_mem_cons.mpr ⟨.tail _ (.head _), List.forall_mem_cons.mpr ⟨.tail _ (.tail _ (.head _)), List.forall_mem_cons.mpr ⟨.head _, fun _ h => absurd h List.not_mem_nil⟩⟩⟩, by show List.Nodup [2, 0, 1]; decide⟩ ?_
            have k0 : ¬ f.kind = 0 := fun z => h1 ((vl_I_inj (b := 0) (by omega) (by decide)).mpr z)
            have k1 : ¬ f.kind = 1 := fun z => h2 ((vl_I_inj (b := 1) (by omega) (by decide)).mpr z)
            have k2 : ¬ f.kind = 2 := fun z => h3 ((vl_I_inj (b := 2) (by omega) (by decide)).mpr z)
            have k3 : f.kind = 3 := (vl_I_inj (b := 3) (by omega) (by decide)).mp h4
            have m6 : f.mode = 6 := (vl_I_inj (b := 6) (by omega) (by decide)).mp (Classical.not_not.mp h5)
            have ed : (vx_does M f i2 p A) = vx_one (vx_atomic M f A) (p + 1) := vx_do3a (by omega) (by omega)
            have Z8 := vr_fl_of F8
            have lt : (vx_atomic M f A).1 < 2147483648 := by rw [← vx_one1 (vx_atomic M f A) ((p : Int) + 1), ← ed]; exact Nat.lt_of_le_of_lt vx_does_le (by decide)
            have g0 : (vx_atomic M f A).1 = 0 → vt_okA (vx_atomic M f A).2 ∧ p + 1 < 1024 := fun z => by
              have e2 : (vx_does M f i2 p A).2 = [((p : Int) + 1, (vx_atomic M f A).2)] := (congrArg Prod.snd ed).trans (congrArg Prod.snd (vx_one0 z))
              have a1 := hgd _ (by rw [e2]; exact List.mem_singleton.mpr rfl)
              have a2 := hto _ (by rw [e2]; exact List.mem_singleton.mpr rfl)
              have a3 : (p : Int) + 1 < N := a2.2.1
              exact ⟨a1, by omega⟩
            refine vq_doT (st := st) p (vx_atomic M f A) hW Z8 (vr_ST_M F8 (fun x z => by omega) (fun q g z a b => z.elim) S3) ((vr_fr_c F8 (by decide) (by decide)).trans c183) (by omega) (fun q => by have := hr.2.2.2.2 q; omega) ((vr_fr_c F8 (by decide) (by decide)).trans hh3) (by unfold vr_j10; rw [(vr_fr_i F8 (x := 76885) (fun z => by have := hx.1; have := hx.2.1; omega)).1]; exact jj) lt (fun z => ⟨(P8 z).1, (P8 z).2, g0 z⟩) (fun I1 L1 q1 q2 q3 => ?_)
            rw [hQ]
            exact ⟨I1, L1, by rw [ed, vx_one1], fun z => by rw [ed, vx_one1] at z; rw [ed]; obtain ⟨u1, u2⟩ := q1 z; exact ⟨u1, u2.trans (by rw [vr_fr_c F8 (by decide) (by decide), c17])⟩, vr_fr_trans G (vr_fr_trans (vr_fr_mono F8 (fun _ _ => trivial) (fun _ _ z => z.elim)) q2), q3⟩
        · refine jv_Wp.bys (q := ((vl_I f.kind) = Int32.ofInt 4)) (fun h6 => ?_) (fun h6 => ?_)
          · refine jv_Wp.lift (fun _ Kz => jv_Ev.br jv_i310 (pc' := 76) (st' := []) rfl (by rw [h6]; rfl) Kz) ?_
            refine jv_Wp.lift (fun _ Kz => jv_Ev.steps jv_i310 1 (pc' := 77) (l' := [(2, .int (0 : Int32)), (0, .ref 196), (1, .int (vl_I p))]) (st' := [.ref 196]) rfl Kz) ?_
            have k0 : ¬ f.kind = 0 := fun z => h1 ((vl_I_inj (b := 0) (by omega) (by decide)).mpr z)
            have k1 : ¬ f.kind = 1 := fun z => h2 ((vl_I_inj (b := 1) (by omega) (by decide)).mpr z)
            have k2 : ¬ f.kind = 2 := fun z => h3 ((vl_I_inj (b := 2) (by omega) (by decide)).mpr z)
            have k3 : ¬ f.kind = 3 := fun z => h4 ((vl_I_inj (b := 3) (by omega) (by decide)).mpr z)
            have k4 : f.kind = 4 := (vl_I_inj (b := 4) (by omega) (by decide)).mp h6
            obtain ⟨I9, L9, H9, P9, F9⟩ := vq_arith (I := I3) (L := L3) (R := R) (n := n) (sl := sl) f hW Z3 D3 (hx.2.2.1 (by omega)).1 (by omega) hx.1 hx.2.1 O3 tA gA x6
            rw [E3] at H9 P9
            refine jv_Wp.lift (fun _ Kz => jv_Ev.c jv_i310 (pc' := 80) (S' := [.int (vl_I (vx_arith f A).1)]) (G1 := (jv_H K I9 L9 R)) jv_i287 [.ref 196] rfl rfl rfl rfl (jv_cal rfl (jv_H_at (jv_rwK hW 196 12 24 (by decide))) rfl rfl) rfl H9 rfl rfl Kz) ?_
            refine jv_Wp.lift (fun _ Kz => jv_Ev.steps jv_i310 2 (pc' := 136) (l' := [(2, .int (vl_I (vx_arith f A).1)), (0, .ref 196), (1, .int (vl_I p))]) (st' := []) rfl Kz) ?_
            refine jv_Wp.loc (l := [(0, .ref 196), (1, .int (vl_I p)), (2, .int (vl_I (vx_arith f A).1))]) ⟨List.forall_mem_cons.mpr ⟨.tail _ (.head _), List.forall_mem_cons.mpr ⟨.tail _ (.tail _ (.head _)), List.forall_mem_cons.mpr ⟨.head _, fun _ h => absurd h List.not_mem_nil⟩⟩⟩, by show List.Nodup [2, 0, 1]; decide⟩ ?_
            have k0 : ¬ f.kind = 0 := fun z => h1 ((vl_I_inj (b := 0) (by omega) (by decide)).mpr z)
            have k1 : ¬ f.kind = 1 := fun z => h2 ((vl_I_inj (b := 1) (by omega) (by decide)).mpr z)
            have k2 : ¬ f.kind = 2 := fun z => h3 ((vl_I_inj (b := 2) (by omega) (by decide)).mpr z)
            have k3 : ¬ f.kind = 3 := fun z => h4 ((vl_I_inj (b := 3) (by omega) (by decide)).mpr z)
            have k4 : f.kind = 4 := (vl_I_inj (b := 4) (by omega) (by decide)).mp h6
            have ed : (vx_does M f i2 p A) = vx_one (vx_arith f A) (p + 1) := vx_do4 (by omega)
            have Z9 := vr_fl_of F9
            have lt : (vx_arith f A).1 < 2147483648 := by rw [← vx_one1 (vx_arith f A) ((p : Int) + 1), ← ed]; exact Nat.lt_of_le_of_lt vx_does_le (by decide)
            have g0 : (vx_arith f A).1 = 0 → vt_okA (vx_arith f A).2 ∧ p + 1 < 1024 := fun z => by
              have e2 : (vx_does M f i2 p A).2 = [((p : Int) + 1, (vx_arith f A).2)] := (congrArg Prod.snd ed).trans (congrArg Prod.snd (vx_one0 z))
              have a1 := hgd _ (by rw [e2]; exact List.mem_singleton.mpr rfl)
              have a2 := hto _ (by rw [e2]; exact List.mem_singleton.mpr rfl)
              have a3 : (p : Int) + 1 < N := a2.2.1
              exact ⟨a1, by omega⟩
            refine vq_doT (st := st) p (vx_arith f A) hW Z9 (vr_ST_M F9 (fun x z => by omega) (fun q g z a b => z.elim) S3) ((vr_fr_c F9 (by decide) (by decide)).trans c183) (by omega) (fun q => by have := hr.2.2.2.2 q; omega) ((vr_fr_c F9 (by decide) (by decide)).trans hh3) (by unfold vr_j10; rw [(vr_fr_i F9 (x := 76885) (fun z => by have := hx.1; have := hx.2.1; omega)).1]; exact jj) lt (fun z => ⟨(P9 z).1, (P9 z).2, g0 z⟩) (fun I1 L1 q1 q2 q3 => ?_)
            rw [hQ]
            exact ⟨I1, L1, by rw [ed, vx_one1], fun z => by rw [ed, vx_one1] at z; rw [ed]; obtain ⟨u1, u2⟩ := q1 z; exact ⟨u1, u2.trans (by rw [vr_fr_c F9 (by decide) (by decide), c17])⟩, vr_fr_trans G (vr_fr_trans (vr_fr_mono F9 (fun _ _ => trivial) (fun _ _ z => z.elim)) q2), q3⟩
          · refine jv_Wp.bys (q := ((vl_I f.kind) = Int32.ofInt 7)) (fun h7 => ?_) (fun h7 => ?_)
            · refine jv_Wp.lift (fun _ Kz => jv_Ev.br jv_i310 (pc' := 76) (st' := []) rfl (by rw [h7]; rfl) Kz) ?_
              refine jv_Wp.lift (fun _ Kz => jv_Ev.steps jv_i310 1 (pc' := 77) (l' := [(2, .int (0 : Int32)), (0, .ref 196), (1, .int (vl_I p))]) (st' := [.ref 196]) rfl Kz) ?_
              have k0 : ¬ f.kind = 0 := fun z => h1 ((vl_I_inj (b := 0) (by omega) (by decide)).mpr z)
              have k1 : ¬ f.kind = 1 := fun z => h2 ((vl_I_inj (b := 1) (by omega) (by decide)).mpr z)
              have k2 : ¬ f.kind = 2 := fun z => h3 ((vl_I_inj (b := 2) (by omega) (by decide)).mpr z)
              have k3 : ¬ f.kind = 3 := fun z => h4 ((vl_I_inj (b := 3) (by omega) (by decide)).mpr z)
              have k4 : ¬ f.kind = 4 := fun z => h6 ((vl_I_inj (b := 4) (by omega) (by decide)).mpr z)
              have k7 : f.kind = 7 := (vl_I_inj (b := 7) (by omega) (by decide)).mp h7
              obtain ⟨I10, L10, H10, P10, F10⟩ := vq_arith (I := I3) (L := L3) (R := R) (n := n) (sl := sl) f hW Z3 D3 (hx.2.2.1 (by omega)).1 (by omega) hx.1 hx.2.1 O3 tA gA x6
              rw [E3] at H10 P10
              refine jv_Wp.lift (fun _ Kz => jv_Ev.c jv_i310 (pc' := 80) (S' := [.int (vl_I (vx_arith f A).1)]) (G1 := (jv_H K I10 L10 R)) jv_i287 [.ref 196] rfl rfl rfl rfl (jv_cal rfl (jv_H_at (jv_rwK hW 196 12 24 (by decide))) rfl rfl) rfl H10 rfl rfl Kz) ?_
              refine jv_Wp.lift (fun _ Kz => jv_Ev.steps jv_i310 2 (pc' := 136) (l' := [(2, .int (vl_I (vx_arith f A).1)), (0, .ref 196), (1, .int (vl_I p))]) (st' := []) rfl Kz) ?_
              refine jv_Wp.loc (l := [(0, .ref 196), (1, .int (vl_I p)), (2, .int (vl_I (vx_arith f A).1))]) ⟨List.forall_mem_cons.mpr ⟨.tail _ (.head _), List.forall_mem_cons.mpr ⟨.tail _ (.tail _ (.head _)), List.forall_mem_cons.mpr ⟨.head _, fun _ h => absurd h List.not_mem_nil⟩⟩⟩, by show List.Nodup [2, 0, 1]; decide⟩ ?_
              have k0 : ¬ f.kind = 0 := fun z => h1 ((vl_I_inj (b := 0) (by omega) (by decide)).mpr z)
              have k1 : ¬ f.kind = 1 := fun z => h2 ((vl_I_inj (b := 1) (by omega) (by decide)).mpr z)
              have k2 : ¬ f.kind = 2 := fun z => h3 ((vl_I_inj (b := 2) (by omega) (by decide)).mpr z)
              have k3 : ¬ f.kind = 3 := fun z => h4 ((vl_I_inj (b := 3) (by omega) (by decide)).mpr z)
              have k4 : ¬ f.kind = 4 := fun z => h6 ((vl_I_inj (b := 4) (by omega) (by decide)).mpr z)
              have k7 : f.kind = 7 := (vl_I_inj (b := 7) (by omega) (by decide)).mp h7
              have ed : (vx_does M f i2 p A) = vx_one (vx_arith f A) (p + 1) := vx_do4 (by omega)
              have Z10 := vr_fl_of F10
              have lt : (vx_arith f A).1 < 2147483648 := by rw [← vx_one1 (vx_arith f A) ((p : Int) + 1), ← ed]; exact Nat.lt_of_le_of_lt vx_does_le (by decide)
              have g0 : (vx_arith f A).1 = 0 → vt_okA (vx_arith f A).2 ∧ p + 1 < 1024 := fun z => by
                have e2 : (vx_does M f i2 p A).2 = [((p : Int) + 1, (vx_arith f A).2)] := (congrArg Prod.snd ed).trans (congrArg Prod.snd (vx_one0 z))
                have a1 := hgd _ (by rw [e2]; exact List.mem_singleton.mpr rfl)
                have a2 := hto _ (by rw [e2]; exact List.mem_singleton.mpr rfl)
                have a3 : (p : Int) + 1 < N := a2.2.1
                exact ⟨a1, by omega⟩
              refine vq_doT (st := st) p (vx_arith f A) hW Z10 (vr_ST_M F10 (fun x z => by omega) (fun q g z a b => z.elim) S3) ((vr_fr_c F10 (by decide) (by decide)).trans c183) (by omega) (fun q => by have := hr.2.2.2.2 q; omega) ((vr_fr_c F10 (by decide) (by decide)).trans hh3) (by unfold vr_j10; rw [(vr_fr_i F10 (x := 76885) (fun z => by have := hx.1; have := hx.2.1; omega)).1]; exact jj) lt (fun z => ⟨(P10 z).1, (P10 z).2, g0 z⟩) (fun I1 L1 q1 q2 q3 => ?_)
              rw [hQ]
              exact ⟨I1, L1, by rw [ed, vx_one1], fun z => by rw [ed, vx_one1] at z; rw [ed]; obtain ⟨u1, u2⟩ := q1 z; exact ⟨u1, u2.trans (by rw [vr_fr_c F10 (by decide) (by decide), c17])⟩, vr_fr_trans G (vr_fr_trans (vr_fr_mono F10 (fun _ _ => trivial) (fun _ _ z => z.elim)) q2), q3⟩
            · refine jv_Wp.lift (fun _ Kz => jv_Ev.br jv_i310 (pc' := 130) (st' := []) rfl (jv_tsw_def (fun i hi h => by match i, hi, h with 
                    | 0, _, h => exact absurd h (jv_ne_toInt (k := 0) h1) 
                    | 1, _, h => exact absurd h (jv_ne_toInt (k := 1) h2) 
                    | 2, _, h => exact absurd h (jv_ne_toInt (k := 2) h3) 
                    | 3, _, h => exact absurd h (jv_ne_toInt (k := 3) h4) 
                    | 4, _, h => exact absurd h (jv_ne_toInt (k := 4) h6) 
                    | 5, _, _ => rfl 
                    | 6, _, _ => rfl 
                    | 7, _, h => exact absurd h (jv_ne_toInt (k := 7) h7) 
                    | i + 8, hi, _ => exact absurd hi (by simp)) rfl) Kz) ?_
              refine jv_Wp.lift (fun _ Kz => jv_Ev.steps jv_i310 2 (pc' := 132) (l' := [(2, .int (0 : Int32)), (0, .ref 196), (1, .int (vl_I p))]) (st' := [.int (vl_I p), .ref 196]) rfl Kz) ?_
              have k0 : ¬ f.kind = 0 := fun z => h1 ((vl_I_inj (b := 0) (by omega) (by decide)).mpr z)
              have k1 : ¬ f.kind = 1 := fun z => h2 ((vl_I_inj (b := 1) (by omega) (by decide)).mpr z)
              have k2 : ¬ f.kind = 2 := fun z => h3 ((vl_I_inj (b := 2) (by omega) (by decide)).mpr z)
              have k3 : ¬ f.kind = 3 := fun z => h4 ((vl_I_inj (b := 3) (by omega) (by decide)).mpr z)
              have k4 : ¬ f.kind = 4 := fun z => h6 ((vl_I_inj (b := 4) (by omega) (by decide)).mpr z)
              have k7 : ¬ f.kind = 7 := fun z => h7 ((vl_I_inj (b := 7) (by omega) (by decide)).mpr z)
              have k8 : f.kind < 8 := vr_dk D3
              have kj : f.kind = 5 ∨ f.kind = 6 := by omega
              obtain ⟨I11, L11, H11, P11, F11, J11⟩ := vq_flow (R := R) (n := n) (sl := sl) (st := st) (I := I3) (L := L3) (M := M) f p i2 hW Z3 M3 S3 D3 c183 (by omega) (fun q => by have := hr.2.2.2.2 q; omega) hx O3 tA gA hh3 jj (by rw [t10]; exact (by decide : (3 : Nat) ≠ 1)) (by rw [t10]; exact (by decide : (3 : Nat) ≠ 8)) x6 kj (by rw [E3]; exact hgd) (by rw [E3]; exact fun e he => ⟨(hto e he).1, by have := (hto e he).2.1; omega⟩) (fun a b c => by have := (wel.2.2.2.1 (show f.kind ≠ 0 by omega) a b c).1; omega) (fun a b c => by have q := wel.2.2.2.2.2 kj a b c; have q1 : 0 ≤ (p : Int) + 1 + f.o := q.1; have q2 : (p : Int) + 1 + f.o < N := q.2.1; omega)
              rw [E3] at H11 P11
              refine jv_Wp.lift (fun _ Kz => jv_Ev.c jv_i310 (pc' := 135) (S' := [.int (vl_I (vx_does M f i2 p A).1)]) (G1 := (jv_H K I11 L11 R)) jv_i312 [.ref 196, .int (vl_I p)] rfl rfl rfl rfl (jv_cal rfl (jv_H_at (jv_rwK hW 196 12 24 (by decide))) rfl rfl) rfl H11 rfl rfl Kz) ?_
              refine jv_Wp.loc (l := [(0, .ref 196), (1, .int (vl_I p)), (2, .int (0 : Int32))]) ⟨List.forall_mem_cons.mpr ⟨.tail _ (.head _), List.forall_mem_cons.mpr ⟨.tail _ (.tail _ (.head _)), List.forall_mem_cons.mpr ⟨.head _, fun _ h => absurd h List.not_mem_nil⟩⟩⟩, by show List.Nodup [2, 0, 1]; decide⟩ ?_
              refine jv_Wp.of (jv_Ev.ret jv_i310 rfl rfl) ?_
              rw [hQ]
              exact ⟨_, _, rfl, fun z => by obtain ⟨q1, q2⟩ := P11 z; exact ⟨q1, q2.trans (by rw [c17])⟩, vr_fr_trans G F11, J11⟩