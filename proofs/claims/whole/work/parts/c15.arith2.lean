/-! part c15: arithmetic of the reference, the other cases (gen/tc15.py) -/
set_option maxRecDepth 8000 in
theorem vq_arithR0k4 {K : Nat → Option (Nat × Nat)} {I : Nat → Nat → Int32} {L : Nat → Nat → Int64} {R : Nat → Nat → Value} (f : vf_F) (hW : jv_rW K R) (hf : vr_fl I) (D : vr_dec I f) (hfa : vf_ar f) (hk47 : f.kind = 4 ∨ f.kind = 7) (hd11 : f.d < 11) (hs11 : f.s < 11) (oa : vr_okA I 1024) (tA : ∀ n, n < 75 → vt_ok (vr_T I L (76800 + n))) (gA : ∀ n, n < 75 → vt_g (vr_T I L (76800 + n))) (hZ6 : vb_toS (vr_S L 6) = vb_just 0) (hb : f.bit3 = true) (hN11 : f.n ≠ 11) (hN13 : f.n ≠ 13) (hK : f.kind = 4) {n sl : Nat} : ∃ I1 L1, jv_Ms 287 [.ref 196] (jv_H K I L R) n sl (some (.int (vl_I (vx_arith f (vr_A I L 1024)).1)), jv_H K I1 L1 R, n, sl) ∧ ((vx_arith f (vr_A I L 1024)).1 = 0 → vr_A I1 L1 1024 = (vx_arith f (vr_A I L 1024)).2 ∧ vr_okA I1 1024) ∧ vr_fr (fun x => x = 76800 + f.d) noE I L I1 L1 := by
  obtain ⟨Q, hQ⟩ : ∃ Q : jv_R → Prop, Q = fun X => ∃ I1 L1, X = (some (.int (vl_I (vx_arith f (vr_A I L 1024)).1)), jv_H K I1 L1 R, n, sl) ∧ ((vx_arith f (vr_A I L 1024)).1 = 0 → vr_A I1 L1 1024 = (vx_arith f (vr_A I L 1024)).2 ∧ vr_okA I1 1024) ∧ vr_fr (fun x => x = 76800 + f.d) noE I L I1 L1 := ⟨_, rfl⟩
  suffices h : jv_Wp 287 0 [(0, .ref 196)] [] (jv_H K I L R) n sl Q by
    rw [hQ] at h
    obtain ⟨X, h, I1, L1, e, h'⟩ := h
    subst e
    exact ⟨I1, L1, h, h'⟩
  have hn16 := vr_dn D
  have hk8 := vr_dk D
  have hd75 : f.d < 75 := by omega
  have hs75 : f.s < 75 := by omega
  have okd : vr_ok I (76800 + f.d) f.d := oa f.d hd75
  have oks : vr_ok I (76800 + f.s) f.s := oa f.s hs75
  obtain ⟨zd, hd⟩ : ∃ x : Nat, ∀ _ : Unit, (vr_T I L (76800 + f.d)).sort = x := ⟨_, fun _ => rfl⟩
  obtain ⟨zs, hs⟩ : ∃ x : Nat, ∀ _ : Unit, (vr_T I L (76800 + f.s)).sort = x := ⟨_, fun _ => rfl⟩
  obtain ⟨rd, hrd⟩ : ∃ x : Nat, ∀ _ : Unit, vr_rd (I 205 (76800 + f.d)) = x := ⟨_, fun _ => rfl⟩
  obtain ⟨rs, hrs⟩ : ∃ x : Nat, ∀ _ : Unit, vr_rd (I 205 (76800 + f.s)) = x := ⟨_, fun _ => rfl⟩
  have rdd : (zd = 0 → rd = 1) ∧ (zd ≠ 0 → rd = 0) := by rw [← hd (), ← hrd ()]; exact vr_rd_f okd hd11
  have rds : (zs = 0 → rs = 1) ∧ (zs ≠ 0 → rs = 0) := by rw [← hs (), ← hrs ()]; exact vr_rd_f oks hs11
  have W : vr_fr noP noE I L I L := vr_fr_refl hf
  have q0 := hfa.1
  have q8 := hfa.2.1
  have q11 := hfa.2.2.2.1
  have eD : (vr_A I L 1024).1 f.d = (vr_T I L (76800 + f.d)) := vr_A1 hd75
  have eY : vx_y f (vr_A I L 1024) = (vr_T I L (76800 + f.s)) := (if_pos hb).trans (vr_A1 hs75)
  have n8 : f.n ≠ 8 := fun z => by have := q8 z; rw [hb] at this; exact absurd this (by decide)
  refine jv_Wp.lift (fun _ Kz => jv_Ev.steps jv_i287 1 (pc' := 1) (l' := [(0, .ref 196)]) (st' := [.ref 196]) rfl Kz) ?_
  refine jv_Wp.lift (fun _ Kz => jv_Ev.c jv_i287 (pc' := 4) (S' := [.int (vl_I f.n)]) jv_i258 [.ref 196] rfl rfl rfl rfl (jv_cal rfl (jv_H_at (jv_rwK hW 196 12 24 (by decide))) rfl rfl) rfl (vq_n f hW D) rfl rfl Kz) ?_
  refine jv_Wp.lift (fun _ Kz => jv_Ev.steps jv_i287 1 (pc' := 6) (l' := [(0, .ref 196)]) (st' := [.int (11 : Int32), .int (vl_I f.n)]) rfl Kz) ?_
  refine jv_Wp.cnd jv_i287 (pt := 13) (pe := 9) (p := (¬ (vl_I f.n) = (11 : Int32))) (q := (¬ (vl_I f.n) = (11 : Int32))) rfl jv_bc_ne rfl rfl Iff.rfl (fun _ => ?_) (fun hz => absurd (fun z => by have y := (vr_sm (v := 11) (by omega) (by decide) rfl).mp z; omega) hz)
  refine jv_Wp.lift (fun _ Kz => jv_Ev.steps jv_i287 3 (pc' := 16) (l' := [(1, .int (0 : Int32)), (0, .ref 196)]) (st' := [.int (0 : Int32)]) rfl Kz) ?_
  refine jv_Wp.lift (fun _ Kz => jv_Ev.br jv_i287 (pc' := 23) (st' := []) rfl (by rfl) Kz) ?_
  refine jv_Wp.lift (fun _ Kz => jv_Ev.steps jv_i287 2 (pc' := 25) (l' := [(1, .int (0 : Int32)), (0, .ref 196)]) (st' := [.ref 196, .ref 196]) rfl Kz) ?_
  refine jv_Wp.lift (fun _ Kz => jv_Ev.m jv_i287 (pc' := 28) (st' := [.int (vl_I f.d), .ref 196]) (G' := (jv_H K I L R)) rfl rfl (jv_m_getI (jv_rwK hW 196 12 24 (by decide)) rfl rfl D.2.1) Kz) ?_
  have Hr1 := vq_readsW (n := n) (sl := sl) W f.d hW (by omega)
  rw [hrd ()] at Hr1
  refine jv_Wp.lift (fun _ Kz => jv_Ev.c jv_i287 (pc' := 31) (S' := [.int (vl_I rd)]) jv_i283 [.ref 196, .int (vl_I f.d)] rfl rfl rfl rfl (jv_cal rfl (jv_H_at (jv_rwK hW 196 12 24 (by decide))) rfl rfl) rfl Hr1 rfl rfl Kz) ?_
  refine jv_Wp.lift (fun _ Kz => jv_Ev.steps jv_i287 1 (pc' := 32) (l' := [(1, .int (0 : Int32)), (0, .ref 196)]) (st' := [.ref 196, .int (vl_I rd)]) rfl Kz) ?_
  refine jv_Wp.lift (fun _ Kz => jv_Ev.c jv_i287 (pc' := 35) (S' := [.int (vr_b f.bit3), .int (vl_I rd)]) jv_i259 [.ref 196] rfl rfl rfl rfl (jv_cal rfl (jv_H_at (jv_rwK hW 196 12 24 (by decide))) rfl rfl) rfl (vq_bit3 f hW D) rfl rfl Kz) ?_
  refine jv_Wp.cnd jv_i287 (pt := 58) (pe := 38) (p := ((vr_b f.bit3) = 0)) (q := ((vr_b f.bit3) = 0)) rfl jv_bi_eq rfl rfl Iff.rfl (fun hz => absurd hz (by rw [hb]; decide)) (fun _ => ?_)
  refine jv_Wp.lift (fun _ Kz => jv_Ev.steps jv_i287 1 (pc' := 39) (l' := [(1, .int (0 : Int32)), (0, .ref 196)]) (st' := [.ref 196, .int (vl_I rd)]) rfl Kz) ?_
  refine jv_Wp.lift (fun _ Kz => jv_Ev.c jv_i287 (pc' := 42) (S' := [.int (vl_I f.n), .int (vl_I rd)]) jv_i258 [.ref 196] rfl rfl rfl rfl (jv_cal rfl (jv_H_at (jv_rwK hW 196 12 24 (by decide))) rfl rfl) rfl (vq_n f hW D) rfl rfl Kz) ?_
  refine jv_Wp.lift (fun _ Kz => jv_Ev.steps jv_i287 1 (pc' := 44) (l' := [(1, .int (0 : Int32)), (0, .ref 196)]) (st' := [.int (13 : Int32), .int (vl_I f.n), .int (vl_I rd)]) rfl Kz) ?_
  refine jv_Wp.cnd jv_i287 (pt := 58) (pe := 47) (p := ((vl_I f.n) = (13 : Int32))) (q := ((vl_I f.n) = (13 : Int32))) rfl jv_bc_eq rfl rfl Iff.rfl (fun hz => absurd hz (fun z => by have y := (vr_sm (v := 13) (by omega) (by decide) rfl).mp z; omega)) (fun _ => ?_)
  refine jv_Wp.lift (fun _ Kz => jv_Ev.steps jv_i287 2 (pc' := 49) (l' := [(1, .int (0 : Int32)), (0, .ref 196)]) (st' := [.ref 196, .ref 196, .int (vl_I rd)]) rfl Kz) ?_
  refine jv_Wp.lift (fun _ Kz => jv_Ev.m jv_i287 (pc' := 52) (st' := [.int (vl_I f.s), .ref 196, .int (vl_I rd)]) (G' := (jv_H K I L R)) rfl rfl (jv_m_getI (jv_rwK hW 196 12 24 (by decide)) rfl rfl D.2.2.1) Kz) ?_
  have Hr2 := vq_readsW (n := n) (sl := sl) W f.s hW (by omega)
  rw [hrs ()] at Hr2
  refine jv_Wp.lift (fun _ Kz => jv_Ev.c jv_i287 (pc' := 55) (S' := [.int (vl_I rs), .int (vl_I rd)]) jv_i283 [.ref 196, .int (vl_I f.s)] rfl rfl rfl rfl (jv_cal rfl (jv_H_at (jv_rwK hW 196 12 24 (by decide))) rfl rfl) rfl Hr2 rfl rfl Kz) ?_
  refine jv_Wp.lift (fun _ Kz => jv_Ev.steps jv_i287 1 (pc' := 59) (l' := [(1, .int (0 : Int32)), (0, .ref 196)]) (st' := [.int (vl_I rs), .int (vl_I rd)]) rfl Kz) ?_
  obtain ⟨w3, hq3⟩ : ∃ x : Nat, ∀ _ : Unit, vx_fst rd rs = x := ⟨_, fun _ => rfl⟩
  have fq : (rd = 0 → w3 = rs) ∧ (rs = 0 → w3 = rd) ∧ (w3 = rd ∨ w3 = rs) := by rw [← hq3 ()]; exact vx_fst_f rd rs
  have Hf3 := vq_first (I := I) (L := L) (K := K) (R := R) (n := n) (sl := sl) rd rs (by omega) (by omega)
  rw [hq3 ()] at Hf3
  refine jv_Wp.lift (fun _ Kz => jv_Ev.c jv_i287 (pc' := 62) (S' := [.int (vl_I w3)]) jv_i282 [.int (vl_I rd), .int (vl_I rs)] rfl rfl rfl rfl rfl rfl Hf3 rfl rfl Kz) ?_
  refine jv_Wp.lift (fun _ Kz => jv_Ev.steps jv_i287 2 (pc' := 64) (l' := [(2, .int (vl_I w3)), (1, .int (0 : Int32)), (0, .ref 196)]) (st' := [.int (vl_I w3)]) rfl Kz) ?_
  refine jv_Wp.cnd jv_i287 (pt := 69) (pe := 67) (p := ((vl_I w3) ≤ 0)) (q := ((vl_I w3) ≤ 0)) rfl jv_bi_le rfl rfl Iff.rfl (fun h1 => ?_) (fun h1 => ?_)
  · refine jv_Wp.lift (fun _ Kz => jv_Ev.steps jv_i287 1 (pc' := 70) (l' := [(2, .int (vl_I w3)), (1, .int (0 : Int32)), (0, .ref 196)]) (st' := [.ref 196]) rfl Kz) ?_
    refine jv_Wp.lift (fun _ Kz => jv_Ev.c jv_i287 (pc' := 73) (S' := [.int (vr_b f.bit3)]) jv_i259 [.ref 196] rfl rfl rfl rfl (jv_cal rfl (jv_H_at (jv_rwK hW 196 12 24 (by decide))) rfl rfl) rfl (vq_bit3 f hW D) rfl rfl Kz) ?_
    refine jv_Wp.cnd jv_i287 (pt := 89) (pe := 76) (p := ((vr_b f.bit3) = 0)) (q := ((vr_b f.bit3) = 0)) rfl jv_bi_eq rfl rfl Iff.rfl (fun hz => absurd hz (by rw [hb]; decide)) (fun _ => ?_)
    refine jv_Wp.lift (fun _ Kz => jv_Ev.steps jv_i287 1 (pc' := 77) (l' := [(2, .int (vl_I w3)), (1, .int (0 : Int32)), (0, .ref 196)]) (st' := [.ref 196]) rfl Kz) ?_
    refine jv_Wp.lift (fun _ Kz => jv_Ev.c jv_i287 (pc' := 80) (S' := [.int (vl_I f.n)]) jv_i258 [.ref 196] rfl rfl rfl rfl (jv_cal rfl (jv_H_at (jv_rwK hW 196 12 24 (by decide))) rfl rfl) rfl (vq_n f hW D) rfl rfl Kz) ?_
    refine jv_Wp.lift (fun _ Kz => jv_Ev.steps jv_i287 1 (pc' := 82) (l' := [(2, .int (vl_I w3)), (1, .int (0 : Int32)), (0, .ref 196)]) (st' := [.int (13 : Int32), .int (vl_I f.n)]) rfl Kz) ?_
    refine jv_Wp.cnd jv_i287 (pt := 89) (pe := 85) (p := ((vl_I f.n) = (13 : Int32))) (q := ((vl_I f.n) = (13 : Int32))) rfl jv_bc_eq rfl rfl Iff.rfl (fun hz => absurd hz (fun z => by have y := (vr_sm (v := 13) (by omega) (by decide) rfl).mp z; omega)) (fun _ => ?_)
    refine jv_Wp.lift (fun _ Kz => jv_Ev.steps jv_i287 4 (pc' := 92) (l' := [(3, .int (1 : Int32)), (2, .int (vl_I w3)), (1, .int (0 : Int32)), (0, .ref 196)]) (st' := [.int (0 : Int32)]) rfl Kz) ?_
    refine jv_Wp.lift (fun _ Kz => jv_Ev.br jv_i287 (pc' := 135) (st' := []) rfl (by rfl) Kz) ?_
    refine jv_Wp.lift (fun _ Kz => jv_Ev.steps jv_i287 1 (pc' := 136) (l' := [(3, .int (1 : Int32)), (2, .int (vl_I w3)), (1, .int (0 : Int32)), (0, .ref 196)]) (st' := [.ref 196]) rfl Kz) ?_
    refine jv_Wp.lift (fun _ Kz => jv_Ev.m jv_i287 (pc' := 139) (st' := [.ref 208]) (G' := (jv_H K I L R)) rfl rfl (jv_m_getR (jv_rwK hW 196 12 24 (by decide)) rfl rfl (jv_rwR hW 196 16 208 (by decide))) Kz) ?_
    refine jv_Wp.lift (fun _ Kz => jv_Ev.steps jv_i287 2 (pc' := 141) (l' := [(3, .int (1 : Int32)), (2, .int (vl_I w3)), (1, .int (0 : Int32)), (0, .ref 196)]) (st' := [.ref 196, .int (5 : Int32), .ref 208]) rfl Kz) ?_
    refine jv_Wp.lift (fun _ Kz => jv_Ev.m jv_i287 (pc' := 144) (st' := [.int (Int32.ofInt f.i), .int (5 : Int32), .ref 208]) (G' := (jv_H K I L R)) rfl rfl (jv_m_getI (jv_rwK hW 196 12 24 (by decide)) rfl rfl (vr_dJ D)) Kz) ?_
    refine jv_Wp.lift (fun _ Kz => jv_Ev.steps jv_i287 1 (pc' := 145) (l' := [(3, .int (1 : Int32)), (2, .int (vl_I w3)), (1, .int (0 : Int32)), (0, .ref 196)]) (st' := [.long (Int32.ofInt f.i).toInt64, .int (5 : Int32), .ref 208]) rfl Kz) ?_
    obtain ⟨I4, L4, H4, S4, F4⟩ := vq_single (I := I) (L := L) (R := R) (n := n) (sl := sl) (d := 5) (Int32.ofInt f.i).toInt64 hW (by decide) hf
    have Z4 := F4.1
    have D4 := vr_dec_rf F4 D
    have W4 : vr_fr noP noE I L I4 L4 := vr_fr_trans W (vq_rf_fr F4 (by decide))
    have Y4 : vb_toS (vr_S L4 5) = vx_just f.i := by rw [S4, vb_toS_just]; exact vx_just_32 _ _ (vr_dQ D)
    have Yt4 : vb_tight (vb_toS (vr_S L4 5)) := by rw [Y4]; exact vb_just_tight _
    refine jv_Wp.lift (fun _ Kz => jv_Ev.c jv_i287 (pc' := 148) (S' := []) (G1 := (jv_H K I4 L4 R)) jv_i217 [.ref 208, .int (5 : Int32), .long (Int32.ofInt f.i).toInt64] rfl rfl rfl rfl (jv_cal rfl (jv_H_at (jv_rwK hW 208 11 7 (by decide))) rfl rfl) rfl H4 rfl rfl Kz) ?_
    refine jv_Wp.lift (fun _ Kz => jv_Ev.steps jv_i287 1 (pc' := 149) (l' := [(3, .int (1 : Int32)), (2, .int (vl_I w3)), (1, .int (0 : Int32)), (0, .ref 196)]) (st' := [.ref 196]) rfl Kz) ?_
    refine jv_Wp.lift (fun _ Kz => jv_Ev.c jv_i287 (pc' := 152) (S' := [.int (vl_I f.kind)]) jv_i257 [.ref 196] rfl rfl rfl rfl (jv_cal rfl (jv_H_at (jv_rwK hW 196 12 24 (by decide))) rfl rfl) rfl (vq_kind f hW D4) rfl rfl Kz) ?_
    refine jv_Wp.lift (fun _ Kz => jv_Ev.steps jv_i287 1 (pc' := 153) (l' := [(3, .int (1 : Int32)), (2, .int (vl_I w3)), (1, .int (0 : Int32)), (0, .ref 196)]) (st' := [.int (4 : Int32), .int (vl_I f.kind)]) rfl Kz) ?_
    refine jv_Wp.cnd jv_i287 (pt := 167) (pe := 156) (p := (¬ (vl_I f.kind) = (4 : Int32))) (q := (¬ (vl_I f.kind) = (4 : Int32))) rfl jv_bc_ne rfl rfl Iff.rfl (fun hz => absurd hz (fun z => z ((vr_sm (v := 4) (by omega) (by decide) rfl).mpr hK))) (fun _ => ?_)
    refine jv_Wp.lift (fun _ Kz => jv_Ev.steps jv_i287 1 (pc' := 157) (l' := [(3, .int (1 : Int32)), (2, .int (vl_I w3)), (1, .int (0 : Int32)), (0, .ref 196)]) (st' := [.ref 196]) rfl Kz) ?_
    refine jv_Wp.lift (fun _ Kz => jv_Ev.m jv_i287 (pc' := 160) (st' := [.ref 208]) (G' := (jv_H K I4 L4 R)) rfl rfl (jv_m_getR (jv_rwK hW 196 12 24 (by decide)) rfl rfl (jv_rwR hW 196 16 208 (by decide))) Kz) ?_
    refine jv_Wp.lift (fun _ Kz => jv_Ev.steps jv_i287 3 (pc' := 164) (l' := [(3, .int (1 : Int32)), (2, .int (vl_I w3)), (1, .int (0 : Int32)), (0, .ref 196)]) (st' := [.int (32 : Int32), .int (5 : Int32), .int (5 : Int32), .ref 208]) rfl Kz) ?_
    obtain ⟨I5, L5, H5, S5, F5⟩ := vq_cut (I := I4) (L := L4) (R := R) (n := n) (sl := sl) (a := 5) (d := 5) (m := 32) (by decide) hW (by decide) (by decide) (by decide) (by decide) Z4 Yt4
    have Z5 := F5.1
    have D5 := vr_dec_rf F5 D4
    have W5 : vr_fr noP noE I L I5 L5 := vr_fr_trans W4 (vq_rf_fr F5 (by decide))
    have Y5 : vb_toS (vr_S L5 5) = vx_cut (vx_just f.i) 32 := by rw [S5, vb_toS_toR, Y4]
    have Yt5 : vb_tight (vb_toS (vr_S L5 5)) := by rw [Y5]; exact (vx_cut_in (vb_just_mem _)).1
    refine jv_Wp.lift (fun _ Kz => jv_Ev.c jv_i287 (pc' := 167) (S' := []) (G1 := (jv_H K I5 L5 R)) jv_i219 [.ref 208, .int (5 : Int32), .int (5 : Int32), .int (32 : Int32)] rfl rfl rfl rfl (jv_cal rfl (jv_H_at (jv_rwK hW 208 11 7 (by decide))) rfl rfl) rfl H5 rfl rfl Kz) ?_
    refine jv_Wp.lift (fun _ Kz => jv_Ev.steps jv_i287 1 (pc' := 168) (l' := [(3, .int (1 : Int32)), (2, .int (vl_I w3)), (1, .int (0 : Int32)), (0, .ref 196)]) (st' := [.int (0 : Int32)]) rfl Kz) ?_
    refine jv_Wp.lift (fun _ Kz => jv_Ev.br jv_i287 (pc' := 171) (st' := []) rfl (by rfl) Kz) ?_
    refine jv_Wp.lift (fun _ Kz => jv_Ev.steps jv_i287 2 (pc' := 173) (l' := [(3, .int (1 : Int32)), (2, .int (vl_I w3)), (1, .int (0 : Int32)), (0, .ref 196)]) (st' := [.ref 196, .ref 196]) rfl Kz) ?_
    refine jv_Wp.lift (fun _ Kz => jv_Ev.m jv_i287 (pc' := 176) (st' := [.int (vl_I f.d), .ref 196]) (G' := (jv_H K I5 L5 R)) rfl rfl (jv_m_getI (jv_rwK hW 196 12 24 (by decide)) rfl rfl D5.2.1) Kz) ?_
    refine jv_Wp.lift (fun _ Kz => jv_Ev.c jv_i287 (pc' := 179) (S' := [.int (I 205 (76800 + f.d))]) jv_i271 [.ref 196, .int (vl_I f.d)] rfl rfl rfl rfl (jv_cal rfl (jv_H_at (jv_rwK hW 196 12 24 (by decide))) rfl rfl) rfl (vq_sortOfW W5 f.d hW (by omega)) rfl rfl Kz) ?_
    refine jv_Wp.lift (fun _ Kz => jv_Ev.steps jv_i287 1 (pc' := 180) (l' := [(3, .int (1 : Int32)), (2, .int (vl_I w3)), (1, .int (0 : Int32)), (0, .ref 196)]) (st' := [.int (1 : Int32), .int (I 205 (76800 + f.d))]) rfl Kz) ?_
    refine jv_Wp.cnd jv_i287 (pt := 203) (pe := 183) (p := (¬ (I 205 (76800 + f.d)) = (1 : Int32))) (q := (¬ (I 205 (76800 + f.d)) = (1 : Int32))) rfl jv_bc_ne rfl rfl Iff.rfl (fun h2 => ?_) (fun h2 => ?_)
    · refine jv_Wp.lift (fun _ Kz => jv_Ev.steps jv_i287 3 (pc' := 208) (l' := [(4, .int (0 : Int32)), (3, .int (1 : Int32)), (2, .int (vl_I w3)), (1, .int (0 : Int32)), (0, .ref 196)]) (st' := [.int (0 : Int32)]) rfl Kz) ?_
      refine jv_Wp.lift (fun _ Kz => jv_Ev.br jv_i287 (pc' := 245) (st' := []) rfl (by rfl) Kz) ?_
      refine jv_Wp.lift (fun _ Kz => jv_Ev.steps jv_i287 1 (pc' := 246) (l' := [(4, .int (0 : Int32)), (3, .int (1 : Int32)), (2, .int (vl_I w3)), (1, .int (0 : Int32)), (0, .ref 196)]) (st' := [.ref 196]) rfl Kz) ?_
      refine jv_Wp.lift (fun _ Kz => jv_Ev.c jv_i287 (pc' := 249) (S' := [.int (vl_I f.kind)]) jv_i257 [.ref 196] rfl rfl rfl rfl (jv_cal rfl (jv_H_at (jv_rwK hW 196 12 24 (by decide))) rfl rfl) rfl (vq_kind f hW D5) rfl rfl Kz) ?_
      refine jv_Wp.lift (fun _ Kz => jv_Ev.steps jv_i287 1 (pc' := 250) (l' := [(4, .int (0 : Int32)), (3, .int (1 : Int32)), (2, .int (vl_I w3)), (1, .int (0 : Int32)), (0, .ref 196)]) (st' := [.int (4 : Int32), .int (vl_I f.kind)]) rfl Kz) ?_
      refine jv_Wp.cnd jv_i287 (pt := 261) (pe := 253) (p := ((vl_I f.kind) = (4 : Int32))) (q := ((vl_I f.kind) = (4 : Int32))) rfl jv_bc_eq rfl rfl Iff.rfl (fun _ => ?_) (fun hz => absurd ((vr_sm (v := 4) (by omega) (by decide) rfl).mpr hK) hz)
      refine jv_Wp.lift (fun _ Kz => jv_Ev.steps jv_i287 1 (pc' := 262) (l' := [(4, .int (0 : Int32)), (3, .int (1 : Int32)), (2, .int (vl_I w3)), (1, .int (0 : Int32)), (0, .ref 196)]) (st' := [.int (2 : Int32)]) rfl Kz) ?_
      refine jv_Wp.of (jv_Ev.ret jv_i287 rfl rfl) ?_
      rw [hQ]
      have td1 : ¬ zd = 1 := fun z => h2 ((vr_is 1 (by decide) okd).mp ((hd ()).trans z))
      have fe : w3 ≤ 0 := (vl_I_le (b := 0) (by omega) (by decide)).mp h1
      have a1 : ¬ vx_a1 f (vr_T I L (76800 + f.d)) (vr_T I L (76800 + f.s)) := by unfold vx_a1; rw [hd (), hs ()]; omega
      have a2 : ¬ (f.n = 11 ∧ f.kind = 7 ∧ f.o = 0) := by omega
      have a3 : vx_a3 f (vr_T I L (76800 + f.d)) (vr_T I L (76800 + f.s)) := by unfold vx_a3; rw [hd (), hs ()]; omega
      have e : vx_ar f (vr_T I L (76800 + f.d)) (vr_T I L (76800 + f.s)) = (2, (vr_T I L (76800 + f.d))) := by
        by_cases c : f.kind = 7 ∧ (f.n = 0 ∨ f.n = 1)
        · exact (vx_ar3 a1 a2 a3 c).trans (vx_move2 (by rw [hd (), hs ()]; omega) (by rw [hd (), hs ()]; omega))
        · exact vx_ar4 a1 a2 a3 c
      have g := vq_arE (L := L) (f := f) (c := 2) hd75 oa (by rw [eD, eY]; exact congrArg Prod.fst e) (fun z => absurd z (by decide)) (vr_fr_P W5 (fun _ z => z.elim))
      exact ⟨_, _, by rw [g.1]; rfl, g.2, vr_fr_P W5 (fun _ z => z.elim)⟩
    · refine jv_Wp.lift (fun _ Kz => jv_Ev.steps jv_i287 1 (pc' := 184) (l' := [(3, .int (1 : Int32)), (2, .int (vl_I w3)), (1, .int (0 : Int32)), (0, .ref 196)]) (st' := [.int (1 : Int32)]) rfl Kz) ?_
      refine jv_Wp.lift (fun _ Kz => jv_Ev.br jv_i287 (pc' := 187) (st' := []) rfl (by rfl) Kz) ?_
      refine jv_Wp.lift (fun _ Kz => jv_Ev.steps jv_i287 2 (pc' := 189) (l' := [(3, .int (1 : Int32)), (2, .int (vl_I w3)), (1, .int (0 : Int32)), (0, .ref 196)]) (st' := [.ref 196, .ref 196]) rfl Kz) ?_
      refine jv_Wp.lift (fun _ Kz => jv_Ev.m jv_i287 (pc' := 192) (st' := [.int (vl_I f.s), .ref 196]) (G' := (jv_H K I5 L5 R)) rfl rfl (jv_m_getI (jv_rwK hW 196 12 24 (by decide)) rfl rfl D5.2.2.1) Kz) ?_
      refine jv_Wp.lift (fun _ Kz => jv_Ev.c jv_i287 (pc' := 195) (S' := [.int (I 205 (76800 + f.s))]) jv_i271 [.ref 196, .int (vl_I f.s)] rfl rfl rfl rfl (jv_cal rfl (jv_H_at (jv_rwK hW 196 12 24 (by decide))) rfl rfl) rfl (vq_sortOfW W5 f.s hW (by omega)) rfl rfl Kz) ?_
      refine jv_Wp.lift (fun _ Kz => jv_Ev.steps jv_i287 1 (pc' := 196) (l' := [(3, .int (1 : Int32)), (2, .int (vl_I w3)), (1, .int (0 : Int32)), (0, .ref 196)]) (st' := [.int (1 : Int32), .int (I 205 (76800 + f.s))]) rfl Kz) ?_
      refine jv_Wp.cnd jv_i287 (pt := 203) (pe := 199) (p := (¬ (I 205 (76800 + f.s)) = (1 : Int32))) (q := (¬ (I 205 (76800 + f.s)) = (1 : Int32))) rfl jv_bc_ne rfl rfl Iff.rfl (fun h3 => ?_) (fun h3 => ?_)
      · refine jv_Wp.lift (fun _ Kz => jv_Ev.steps jv_i287 3 (pc' := 208) (l' := [(4, .int (0 : Int32)), (3, .int (1 : Int32)), (2, .int (vl_I w3)), (1, .int (0 : Int32)), (0, .ref 196)]) (st' := [.int (0 : Int32)]) rfl Kz) ?_
        refine jv_Wp.lift (fun _ Kz => jv_Ev.br jv_i287 (pc' := 245) (st' := []) rfl (by rfl) Kz) ?_
        refine jv_Wp.lift (fun _ Kz => jv_Ev.steps jv_i287 1 (pc' := 246) (l' := [(4, .int (0 : Int32)), (3, .int (1 : Int32)), (2, .int (vl_I w3)), (1, .int (0 : Int32)), (0, .ref 196)]) (st' := [.ref 196]) rfl Kz) ?_
        refine jv_Wp.lift (fun _ Kz => jv_Ev.c jv_i287 (pc' := 249) (S' := [.int (vl_I f.kind)]) jv_i257 [.ref 196] rfl rfl rfl rfl (jv_cal rfl (jv_H_at (jv_rwK hW 196 12 24 (by decide))) rfl rfl) rfl (vq_kind f hW D5) rfl rfl Kz) ?_
        refine jv_Wp.lift (fun _ Kz => jv_Ev.steps jv_i287 1 (pc' := 250) (l' := [(4, .int (0 : Int32)), (3, .int (1 : Int32)), (2, .int (vl_I w3)), (1, .int (0 : Int32)), (0, .ref 196)]) (st' := [.int (4 : Int32), .int (vl_I f.kind)]) rfl Kz) ?_
        refine jv_Wp.cnd jv_i287 (pt := 261) (pe := 253) (p := ((vl_I f.kind) = (4 : Int32))) (q := ((vl_I f.kind) = (4 : Int32))) rfl jv_bc_eq rfl rfl Iff.rfl (fun _ => ?_) (fun hz => absurd ((vr_sm (v := 4) (by omega) (by decide) rfl).mpr hK) hz)
        refine jv_Wp.lift (fun _ Kz => jv_Ev.steps jv_i287 1 (pc' := 262) (l' := [(4, .int (0 : Int32)), (3, .int (1 : Int32)), (2, .int (vl_I w3)), (1, .int (0 : Int32)), (0, .ref 196)]) (st' := [.int (2 : Int32)]) rfl Kz) ?_
        refine jv_Wp.of (jv_Ev.ret jv_i287 rfl rfl) ?_
        rw [hQ]
        have td1 : zd = 1 := (hd ()).symm.trans ((vr_is 1 (by decide) okd).mpr (Classical.not_not.mp h2))
        have ts1 : ¬ zs = 1 := fun z => h3 ((vr_is 1 (by decide) oks).mp ((hs ()).trans z))
        have fe : w3 ≤ 0 := (vl_I_le (b := 0) (by omega) (by decide)).mp h1
        have a1 : ¬ vx_a1 f (vr_T I L (76800 + f.d)) (vr_T I L (76800 + f.s)) := by unfold vx_a1; rw [hd (), hs ()]; omega
        have a2 : ¬ (f.n = 11 ∧ f.kind = 7 ∧ f.o = 0) := by omega
        have a3 : vx_a3 f (vr_T I L (76800 + f.d)) (vr_T I L (76800 + f.s)) := by unfold vx_a3; rw [hd (), hs ()]; omega
        have e : vx_ar f (vr_T I L (76800 + f.d)) (vr_T I L (76800 + f.s)) = (2, (vr_T I L (76800 + f.d))) := by
          by_cases c : f.kind = 7 ∧ (f.n = 0 ∨ f.n = 1)
          · exact (vx_ar3 a1 a2 a3 c).trans (vx_move2 (by rw [hd (), hs ()]; omega) (by rw [hd (), hs ()]; omega))
          · exact vx_ar4 a1 a2 a3 c
        have g := vq_arE (L := L) (f := f) (c := 2) hd75 oa (by rw [eD, eY]; exact congrArg Prod.fst e) (fun z => absurd z (by decide)) (vr_fr_P W5 (fun _ z => z.elim))
        exact ⟨_, _, by rw [g.1]; rfl, g.2, vr_fr_P W5 (fun _ z => z.elim)⟩
      · refine jv_Wp.lift (fun _ Kz => jv_Ev.steps jv_i287 4 (pc' := 208) (l' := [(4, .int (1 : Int32)), (3, .int (1 : Int32)), (2, .int (vl_I w3)), (1, .int (0 : Int32)), (0, .ref 196)]) (st' := [.int (1 : Int32)]) rfl Kz) ?_
        refine jv_Wp.lift (fun _ Kz => jv_Ev.br jv_i287 (pc' := 211) (st' := []) rfl (by rfl) Kz) ?_
        refine jv_Wp.lift (fun _ Kz => jv_Ev.steps jv_i287 3 (pc' := 216) (l' := [(4, .int (1 : Int32)), (3, .int (1 : Int32)), (2, .int (vl_I w3)), (1, .int (0 : Int32)), (0, .ref 196)]) (st' := [.ref 196, .int (1024 : Int32), .ref 196]) rfl Kz) ?_
        refine jv_Wp.lift (fun _ Kz => jv_Ev.m jv_i287 (pc' := 219) (st' := [.int (vl_I f.d), .int (1024 : Int32), .ref 196]) (G' := (jv_H K I5 L5 R)) rfl rfl (jv_m_getI (jv_rwK hW 196 12 24 (by decide)) rfl rfl D5.2.1) Kz) ?_
        refine jv_Wp.lift (fun _ Kz => jv_Ev.c jv_i287 (pc' := 222) (S' := [.int (vl_I (8 + (76800 + f.d))), .ref 196]) jv_i254 [.int (1024 : Int32), .int (vl_I f.d)] rfl rfl rfl rfl rfl rfl (vq_row 1024 f.d) rfl rfl Kz) ?_
        refine jv_Wp.lift (fun _ Kz => jv_Ev.steps jv_i287 1 (pc' := 223) (l' := [(4, .int (1 : Int32)), (3, .int (1 : Int32)), (2, .int (vl_I w3)), (1, .int (0 : Int32)), (0, .ref 196)]) (st' := [.int (1 : Int32), .int (vl_I (8 + (76800 + f.d))), .ref 196]) rfl Kz) ?_
        refine jv_Wp.lift (fun _ Kz => jv_Ev.br jv_i287 (pc' := 226) (st' := [.int (vl_I (8 + (76800 + f.d))), .ref 196]) rfl (by rfl) Kz) ?_
        refine jv_Wp.lift (fun _ Kz => jv_Ev.steps jv_i287 2 (pc' := 230) (l' := [(4, .int (1 : Int32)), (3, .int (1 : Int32)), (2, .int (vl_I w3)), (1, .int (0 : Int32)), (0, .ref 196)]) (st' := [.ref 196, .int (1024 : Int32), .int (vl_I (8 + (76800 + f.d))), .ref 196]) rfl Kz) ?_
        refine jv_Wp.lift (fun _ Kz => jv_Ev.m jv_i287 (pc' := 233) (st' := [.int (vl_I f.s), .int (1024 : Int32), .int (vl_I (8 + (76800 + f.d))), .ref 196]) (G' := (jv_H K I5 L5 R)) rfl rfl (jv_m_getI (jv_rwK hW 196 12 24 (by decide)) rfl rfl D5.2.2.1) Kz) ?_
        refine jv_Wp.lift (fun _ Kz => jv_Ev.c jv_i287 (pc' := 236) (S' := [.int (vl_I (8 + (76800 + f.s))), .int (vl_I (8 + (76800 + f.d))), .ref 196]) jv_i254 [.int (1024 : Int32), .int (vl_I f.s)] rfl rfl rfl rfl rfl rfl (vq_row 1024 f.s) rfl rfl Kz) ?_
        refine jv_Wp.lift (fun _ Kz => jv_Ev.steps jv_i287 1 (pc' := 240) (l' := [(4, .int (1 : Int32)), (3, .int (1 : Int32)), (2, .int (vl_I w3)), (1, .int (0 : Int32)), (0, .ref 196)]) (st' := [.int (vl_I (8 + (76800 + f.s))), .int (vl_I (8 + (76800 + f.d))), .ref 196]) rfl Kz) ?_
        have td1 : zd = 1 := (hd ()).symm.trans ((vr_is 1 (by decide) okd).mpr (Classical.not_not.mp h2))
        have ts1 : zs = 1 := (hs ()).symm.trans ((vr_is 1 (by decide) oks).mpr (Classical.not_not.mp h3))
        have fe : w3 ≤ 0 := (vl_I_le (b := 0) (by omega) (by decide)).mp h1
        obtain ⟨I6, L6, H6, T6, O6, F6⟩ := vq_reckonB (I := I5) (L := L5) (R := R) (n := n) (sl := sl) f (8 + (76800 + f.d)) (8 + (76800 + f.s)) hW Z5 D5 hfa (by omega) (by omega) (by omega) (by omega) (by omega) ((congrArg vb_toS (vr_fr_6 W5)).trans hZ6) (fun _ => by rw [vr_fr_S W5 (fun z => z)]; exact vr_tight okd (tA f.d (by omega)) (by rw [(vr_is 1 (by decide) okd).mp ((hd ()).trans (by omega))]; rfl)) (fun _ _ => (by rw [vr_fr_S W5 (fun z => z)]; exact vr_tight oks (tA f.s (by omega)) (by rw [(vr_is 1 (by decide) oks).mp ((hs ()).trans (by omega))]; rfl))) (by omega)
        refine jv_Wp.lift (fun _ Kz => jv_Ev.c jv_i287 (pc' := 243) (S' := []) (G1 := (jv_H K I6 L6 R)) jv_i285 [.ref 196, .int (vl_I (8 + (76800 + f.d))), .int (vl_I (8 + (76800 + f.s)))] rfl rfl rfl rfl (jv_cal rfl (jv_H_at (jv_rwK hW 196 12 24 (by decide))) rfl rfl) rfl H6 rfl rfl Kz) ?_
        refine jv_Wp.lift (fun _ Kz => jv_Ev.steps jv_i287 1 (pc' := 244) (l' := [(4, .int (1 : Int32)), (3, .int (1 : Int32)), (2, .int (vl_I w3)), (1, .int (0 : Int32)), (0, .ref 196)]) (st' := [.int (0 : Int32)]) rfl Kz) ?_
        refine jv_Wp.of (jv_Ev.ret jv_i287 rfl rfl) ?_
        rw [hQ]
        have td1 : zd = 1 := (hd ()).symm.trans ((vr_is 1 (by decide) okd).mpr (Classical.not_not.mp h2))
        have ts1 : zs = 1 := (hs ()).symm.trans ((vr_is 1 (by decide) oks).mpr (Classical.not_not.mp h3))
        have fe : w3 ≤ 0 := (vl_I_le (b := 0) (by omega) (by decide)).mp h1
        have a1 : ¬ vx_a1 f (vr_T I L (76800 + f.d)) (vr_T I L (76800 + f.s)) := by unfold vx_a1; rw [hd (), hs ()]; omega
        have a2 : ¬ (f.n = 11 ∧ f.kind = 7 ∧ f.o = 0) := by omega
        have a3 : ¬ vx_a3 f (vr_T I L (76800 + f.d)) (vr_T I L (76800 + f.s)) := by unfold vx_a3; rw [hd (), hs ()]; omega
        have e := vx_ar5 a1 a2 a3
        have ev : vx_reckon f (vb_toS (vr_S L5 (8 + (76800 + f.d)))) (vb_toS (vr_S L5 (8 + (76800 + f.s)))) = vx_reckon f (vr_T I L (76800 + f.d)).val (vr_T I L (76800 + f.s)).val := by
          rw [vr_fr_S W5 (fun z => z), vr_fr_S W5 (fun z => z), show (vr_T I L (76800 + f.s)).val = (vb_toS (vr_S L (8 + (76800 + f.s)))) from vr_valv (by rw [(vr_is 1 (by decide) oks).mp ((hs ()).trans (by omega))]; rfl)]
          rw [show (vr_T I L (76800 + f.d)).val = (vb_toS (vr_S L (8 + (76800 + f.d)))) from vr_valv (by rw [(vr_is 1 (by decide) okd).mp ((hd ()).trans (by omega))]; rfl)]
        have g := vq_arE (L := L) (f := f) (c := 0) hd75 oa (by rw [eD, eY]; exact congrArg Prod.fst e) (fun _ => ⟨by rw [eD, eY, e, T6, ev], O6⟩) (vr_fr_trans (vr_fr_P W5 (fun _ z => z.elim)) F6)
        exact ⟨_, _, by rw [g.1]; rfl, g.2, vr_fr_trans (vr_fr_P W5 (fun _ z => z.elim)) F6⟩
  · refine jv_Wp.lift (fun _ Kz => jv_Ev.steps jv_i287 1 (pc' := 68) (l' := [(2, .int (vl_I w3)), (1, .int (0 : Int32)), (0, .ref 196)]) (st' := [.int (vl_I w3)]) rfl Kz) ?_
    refine jv_Wp.of (jv_Ev.ret jv_i287 rfl rfl) ?_
    rw [hQ]
    have fe : ¬ w3 ≤ 0 := fun z => h1 ((vl_I_le (b := 0) (by omega) (by decide)).mpr z)
    have a1 : vx_a1 f (vr_T I L (76800 + f.d)) (vr_T I L (76800 + f.s)) := by unfold vx_a1; rw [hd (), hs ()]; omega
    have c1 : w3 = 1 := by omega
    have e := vx_ar1 a1
    have g := vq_arE (L := L) (f := f) (c := 1) hd75 oa (by rw [eD, eY]; exact congrArg Prod.fst e) (fun z => absurd z (by decide)) (vr_fr_refl hf)
    exact ⟨_, _, by rw [g.1]; rw [c1], g.2, vr_fr_refl hf⟩
set_option maxRecDepth 8000 in
theorem vq_arithI0k4 {K : Nat → Option (Nat × Nat)} {I : Nat → Nat → Int32} {L : Nat → Nat → Int64} {R : Nat → Nat → Value} (f : vf_F) (hW : jv_rW K R) (hf : vr_fl I) (D : vr_dec I f) (hfa : vf_ar f) (hk47 : f.kind = 4 ∨ f.kind = 7) (hd11 : f.d < 11) (hs11 : f.s < 11) (oa : vr_okA I 1024) (tA : ∀ n, n < 75 → vt_ok (vr_T I L (76800 + n))) (gA : ∀ n, n < 75 → vt_g (vr_T I L (76800 + n))) (hZ6 : vb_toS (vr_S L 6) = vb_just 0) (hb : f.bit3 = false) (hN11 : f.n ≠ 11) (hN13 : f.n ≠ 13) (hK : f.kind = 4) {n sl : Nat} : ∃ I1 L1, jv_Ms 287 [.ref 196] (jv_H K I L R) n sl (some (.int (vl_I (vx_arith f (vr_A I L 1024)).1)), jv_H K I1 L1 R, n, sl) ∧ ((vx_arith f (vr_A I L 1024)).1 = 0 → vr_A I1 L1 1024 = (vx_arith f (vr_A I L 1024)).2 ∧ vr_okA I1 1024) ∧ vr_fr (fun x => x = 76800 + f.d) noE I L I1 L1 := by
  obtain ⟨Q, hQ⟩ : ∃ Q : jv_R → Prop, Q = fun X => ∃ I1 L1, X = (some (.int (vl_I (vx_arith f (vr_A I L 1024)).1)), jv_H K I1 L1 R, n, sl) ∧ ((vx_arith f (vr_A I L 1024)).1 = 0 → vr_A I1 L1 1024 = (vx_arith f (vr_A I L 1024)).2 ∧ vr_okA I1 1024) ∧ vr_fr (fun x => x = 76800 + f.d) noE I L I1 L1 := ⟨_, rfl⟩
  suffices h : jv_Wp 287 0 [(0, .ref 196)] [] (jv_H K I L R) n sl Q by
    rw [hQ] at h
    obtain ⟨X, h, I1, L1, e, h'⟩ := h
    subst e
    exact ⟨I1, L1, h, h'⟩
  have hn16 := vr_dn D
  have hk8 := vr_dk D
  have hd75 : f.d < 75 := by omega
  have hs75 : f.s < 75 := by omega
  have okd : vr_ok I (76800 + f.d) f.d := oa f.d hd75
  have oks : vr_ok I (76800 + f.s) f.s := oa f.s hs75
  obtain ⟨zd, hd⟩ : ∃ x : Nat, ∀ _ : Unit, (vr_T I L (76800 + f.d)).sort = x := ⟨_, fun _ => rfl⟩
  obtain ⟨zs, hs⟩ : ∃ x : Nat, ∀ _ : Unit, (vt_num (vx_just f.i)).sort = x := ⟨_, fun _ => rfl⟩
  obtain ⟨rd, hrd⟩ : ∃ x : Nat, ∀ _ : Unit, vr_rd (I 205 (76800 + f.d)) = x := ⟨_, fun _ => rfl⟩
  obtain ⟨rs, hrs⟩ : ∃ x : Nat, ∀ _ : Unit, vr_rd (I 205 (76800 + f.s)) = x := ⟨_, fun _ => rfl⟩
  have rdd : (zd = 0 → rd = 1) ∧ (zd ≠ 0 → rd = 0) := by rw [← hd (), ← hrd ()]; exact vr_rd_f okd hd11
  have W : vr_fr noP noE I L I L := vr_fr_refl hf
  have q0 := hfa.1
  have q8 := hfa.2.1
  have q11 := hfa.2.2.2.1
  have eD : (vr_A I L 1024).1 f.d = (vr_T I L (76800 + f.d)) := vr_A1 hd75
  have eY : vx_y f (vr_A I L 1024) = (vt_num (vx_just f.i)) := (if_neg (by rw [hb]; decide))
  have ys : zs = 1 := (hs ()).symm
  refine jv_Wp.lift (fun _ Kz => jv_Ev.steps jv_i287 1 (pc' := 1) (l' := [(0, .ref 196)]) (st' := [.ref 196]) rfl Kz) ?_
  refine jv_Wp.lift (fun _ Kz => jv_Ev.c jv_i287 (pc' := 4) (S' := [.int (vl_I f.n)]) jv_i258 [.ref 196] rfl rfl rfl rfl (jv_cal rfl (jv_H_at (jv_rwK hW 196 12 24 (by decide))) rfl rfl) rfl (vq_n f hW D) rfl rfl Kz) ?_
  refine jv_Wp.lift (fun _ Kz => jv_Ev.steps jv_i287 1 (pc' := 6) (l' := [(0, .ref 196)]) (st' := [.int (11 : Int32), .int (vl_I f.n)]) rfl Kz) ?_
  refine jv_Wp.cnd jv_i287 (pt := 13) (pe := 9) (p := (¬ (vl_I f.n) = (11 : Int32))) (q := (¬ (vl_I f.n) = (11 : Int32))) rfl jv_bc_ne rfl rfl Iff.rfl (fun _ => ?_) (fun hz => absurd (fun z => by have y := (vr_sm (v := 11) (by omega) (by decide) rfl).mp z; omega) hz)
  refine jv_Wp.lift (fun _ Kz => jv_Ev.steps jv_i287 3 (pc' := 16) (l' := [(1, .int (0 : Int32)), (0, .ref 196)]) (st' := [.int (0 : Int32)]) rfl Kz) ?_
  refine jv_Wp.lift (fun _ Kz => jv_Ev.br jv_i287 (pc' := 23) (st' := []) rfl (by rfl) Kz) ?_
  refine jv_Wp.lift (fun _ Kz => jv_Ev.steps jv_i287 2 (pc' := 25) (l' := [(1, .int (0 : Int32)), (0, .ref 196)]) (st' := [.ref 196, .ref 196]) rfl Kz) ?_
  refine jv_Wp.lift (fun _ Kz => jv_Ev.m jv_i287 (pc' := 28) (st' := [.int (vl_I f.d), .ref 196]) (G' := (jv_H K I L R)) rfl rfl (jv_m_getI (jv_rwK hW 196 12 24 (by decide)) rfl rfl D.2.1) Kz) ?_
  have Hr7 := vq_readsW (n := n) (sl := sl) W f.d hW (by omega)
  rw [hrd ()] at Hr7
  refine jv_Wp.lift (fun _ Kz => jv_Ev.c jv_i287 (pc' := 31) (S' := [.int (vl_I rd)]) jv_i283 [.ref 196, .int (vl_I f.d)] rfl rfl rfl rfl (jv_cal rfl (jv_H_at (jv_rwK hW 196 12 24 (by decide))) rfl rfl) rfl Hr7 rfl rfl Kz) ?_
  refine jv_Wp.lift (fun _ Kz => jv_Ev.steps jv_i287 1 (pc' := 32) (l' := [(1, .int (0 : Int32)), (0, .ref 196)]) (st' := [.ref 196, .int (vl_I rd)]) rfl Kz) ?_
  refine jv_Wp.lift (fun _ Kz => jv_Ev.c jv_i287 (pc' := 35) (S' := [.int (vr_b f.bit3), .int (vl_I rd)]) jv_i259 [.ref 196] rfl rfl rfl rfl (jv_cal rfl (jv_H_at (jv_rwK hW 196 12 24 (by decide))) rfl rfl) rfl (vq_bit3 f hW D) rfl rfl Kz) ?_
  refine jv_Wp.cnd jv_i287 (pt := 58) (pe := 38) (p := ((vr_b f.bit3) = 0)) (q := ((vr_b f.bit3) = 0)) rfl jv_bi_eq rfl rfl Iff.rfl (fun _ => ?_) (fun hz => absurd (by rw [hb]; rfl) hz)
  refine jv_Wp.lift (fun _ Kz => jv_Ev.steps jv_i287 1 (pc' := 59) (l' := [(1, .int (0 : Int32)), (0, .ref 196)]) (st' := [.int (0 : Int32), .int (vl_I rd)]) rfl Kz) ?_
  obtain ⟨w8, hq8⟩ : ∃ x : Nat, ∀ _ : Unit, vx_fst rd 0 = x := ⟨_, fun _ => rfl⟩
  have fq : (rd = 0 → w8 = 0) ∧ (0 = 0 → w8 = rd) ∧ (w8 = rd ∨ w8 = 0) := by rw [← hq8 ()]; exact vx_fst_f rd 0
  have Hf8 := vq_first (I := I) (L := L) (K := K) (R := R) (n := n) (sl := sl) rd 0 (by omega) (by omega)
  rw [hq8 ()] at Hf8
  refine jv_Wp.lift (fun _ Kz => jv_Ev.c jv_i287 (pc' := 62) (S' := [.int (vl_I w8)]) jv_i282 [.int (vl_I rd), .int (0 : Int32)] rfl rfl rfl rfl rfl rfl Hf8 rfl rfl Kz) ?_
  refine jv_Wp.lift (fun _ Kz => jv_Ev.steps jv_i287 2 (pc' := 64) (l' := [(2, .int (vl_I w8)), (1, .int (0 : Int32)), (0, .ref 196)]) (st' := [.int (vl_I w8)]) rfl Kz) ?_
  refine jv_Wp.cnd jv_i287 (pt := 69) (pe := 67) (p := ((vl_I w8) ≤ 0)) (q := ((vl_I w8) ≤ 0)) rfl jv_bi_le rfl rfl Iff.rfl (fun h1 => ?_) (fun h1 => ?_)
  · refine jv_Wp.lift (fun _ Kz => jv_Ev.steps jv_i287 1 (pc' := 70) (l' := [(2, .int (vl_I w8)), (1, .int (0 : Int32)), (0, .ref 196)]) (st' := [.ref 196]) rfl Kz) ?_
    refine jv_Wp.lift (fun _ Kz => jv_Ev.c jv_i287 (pc' := 73) (S' := [.int (vr_b f.bit3)]) jv_i259 [.ref 196] rfl rfl rfl rfl (jv_cal rfl (jv_H_at (jv_rwK hW 196 12 24 (by decide))) rfl rfl) rfl (vq_bit3 f hW D) rfl rfl Kz) ?_
    refine jv_Wp.cnd jv_i287 (pt := 89) (pe := 76) (p := ((vr_b f.bit3) = 0)) (q := ((vr_b f.bit3) = 0)) rfl jv_bi_eq rfl rfl Iff.rfl (fun _ => ?_) (fun hz => absurd (by rw [hb]; rfl) hz)
    refine jv_Wp.lift (fun _ Kz => jv_Ev.steps jv_i287 3 (pc' := 92) (l' := [(3, .int (0 : Int32)), (2, .int (vl_I w8)), (1, .int (0 : Int32)), (0, .ref 196)]) (st' := [.int (0 : Int32)]) rfl Kz) ?_
    refine jv_Wp.lift (fun _ Kz => jv_Ev.br jv_i287 (pc' := 135) (st' := []) rfl (by rfl) Kz) ?_
    refine jv_Wp.lift (fun _ Kz => jv_Ev.steps jv_i287 1 (pc' := 136) (l' := [(3, .int (0 : Int32)), (2, .int (vl_I w8)), (1, .int (0 : Int32)), (0, .ref 196)]) (st' := [.ref 196]) rfl Kz) ?_
    refine jv_Wp.lift (fun _ Kz => jv_Ev.m jv_i287 (pc' := 139) (st' := [.ref 208]) (G' := (jv_H K I L R)) rfl rfl (jv_m_getR (jv_rwK hW 196 12 24 (by decide)) rfl rfl (jv_rwR hW 196 16 208 (by decide))) Kz) ?_
    refine jv_Wp.lift (fun _ Kz => jv_Ev.steps jv_i287 2 (pc' := 141) (l' := [(3, .int (0 : Int32)), (2, .int (vl_I w8)), (1, .int (0 : Int32)), (0, .ref 196)]) (st' := [.ref 196, .int (5 : Int32), .ref 208]) rfl Kz) ?_
    refine jv_Wp.lift (fun _ Kz => jv_Ev.m jv_i287 (pc' := 144) (st' := [.int (Int32.ofInt f.i), .int (5 : Int32), .ref 208]) (G' := (jv_H K I L R)) rfl rfl (jv_m_getI (jv_rwK hW 196 12 24 (by decide)) rfl rfl (vr_dJ D)) Kz) ?_
    refine jv_Wp.lift (fun _ Kz => jv_Ev.steps jv_i287 1 (pc' := 145) (l' := [(3, .int (0 : Int32)), (2, .int (vl_I w8)), (1, .int (0 : Int32)), (0, .ref 196)]) (st' := [.long (Int32.ofInt f.i).toInt64, .int (5 : Int32), .ref 208]) rfl Kz) ?_
    obtain ⟨I9, L9, H9, S9, F9⟩ := vq_single (I := I) (L := L) (R := R) (n := n) (sl := sl) (d := 5) (Int32.ofInt f.i).toInt64 hW (by decide) hf
    have Z9 := F9.1
    have D9 := vr_dec_rf F9 D
    have W9 : vr_fr noP noE I L I9 L9 := vr_fr_trans W (vq_rf_fr F9 (by decide))
    have Y9 : vb_toS (vr_S L9 5) = vx_just f.i := by rw [S9, vb_toS_just]; exact vx_just_32 _ _ (vr_dQ D)
    have Yt9 : vb_tight (vb_toS (vr_S L9 5)) := by rw [Y9]; exact vb_just_tight _
    refine jv_Wp.lift (fun _ Kz => jv_Ev.c jv_i287 (pc' := 148) (S' := []) (G1 := (jv_H K I9 L9 R)) jv_i217 [.ref 208, .int (5 : Int32), .long (Int32.ofInt f.i).toInt64] rfl rfl rfl rfl (jv_cal rfl (jv_H_at (jv_rwK hW 208 11 7 (by decide))) rfl rfl) rfl H9 rfl rfl Kz) ?_
    refine jv_Wp.lift (fun _ Kz => jv_Ev.steps jv_i287 1 (pc' := 149) (l' := [(3, .int (0 : Int32)), (2, .int (vl_I w8)), (1, .int (0 : Int32)), (0, .ref 196)]) (st' := [.ref 196]) rfl Kz) ?_
    refine jv_Wp.lift (fun _ Kz => jv_Ev.c jv_i287 (pc' := 152) (S' := [.int (vl_I f.kind)]) jv_i257 [.ref 196] rfl rfl rfl rfl (jv_cal rfl (jv_H_at (jv_rwK hW 196 12 24 (by decide))) rfl rfl) rfl (vq_kind f hW D9) rfl rfl Kz) ?_
    refine jv_Wp.lift (fun _ Kz => jv_Ev.steps jv_i287 1 (pc' := 153) (l' := [(3, .int (0 : Int32)), (2, .int (vl_I w8)), (1, .int (0 : Int32)), (0, .ref 196)]) (st' := [.int (4 : Int32), .int (vl_I f.kind)]) rfl Kz) ?_
    refine jv_Wp.cnd jv_i287 (pt := 167) (pe := 156) (p := (¬ (vl_I f.kind) = (4 : Int32))) (q := (¬ (vl_I f.kind) = (4 : Int32))) rfl jv_bc_ne rfl rfl Iff.rfl (fun hz => absurd hz (fun z => z ((vr_sm (v := 4) (by omega) (by decide) rfl).mpr hK))) (fun _ => ?_)
    refine jv_Wp.lift (fun _ Kz => jv_Ev.steps jv_i287 1 (pc' := 157) (l' := [(3, .int (0 : Int32)), (2, .int (vl_I w8)), (1, .int (0 : Int32)), (0, .ref 196)]) (st' := [.ref 196]) rfl Kz) ?_
    refine jv_Wp.lift (fun _ Kz => jv_Ev.m jv_i287 (pc' := 160) (st' := [.ref 208]) (G' := (jv_H K I9 L9 R)) rfl rfl (jv_m_getR (jv_rwK hW 196 12 24 (by decide)) rfl rfl (jv_rwR hW 196 16 208 (by decide))) Kz) ?_
    refine jv_Wp.lift (fun _ Kz => jv_Ev.steps jv_i287 3 (pc' := 164) (l' := [(3, .int (0 : Int32)), (2, .int (vl_I w8)), (1, .int (0 : Int32)), (0, .ref 196)]) (st' := [.int (32 : Int32), .int (5 : Int32), .int (5 : Int32), .ref 208]) rfl Kz) ?_
    obtain ⟨I10, L10, H10, S10, F10⟩ := vq_cut (I := I9) (L := L9) (R := R) (n := n) (sl := sl) (a := 5) (d := 5) (m := 32) (by decide) hW (by decide) (by decide) (by decide) (by decide) Z9 Yt9
    have Z10 := F10.1
    have D10 := vr_dec_rf F10 D9
    have W10 : vr_fr noP noE I L I10 L10 := vr_fr_trans W9 (vq_rf_fr F10 (by decide))
    have Y10 : vb_toS (vr_S L10 5) = vx_cut (vx_just f.i) 32 := by rw [S10, vb_toS_toR, Y9]
    have Yt10 : vb_tight (vb_toS (vr_S L10 5)) := by rw [Y10]; exact (vx_cut_in (vb_just_mem _)).1
    refine jv_Wp.lift (fun _ Kz => jv_Ev.c jv_i287 (pc' := 167) (S' := []) (G1 := (jv_H K I10 L10 R)) jv_i219 [.ref 208, .int (5 : Int32), .int (5 : Int32), .int (32 : Int32)] rfl rfl rfl rfl (jv_cal rfl (jv_H_at (jv_rwK hW 208 11 7 (by decide))) rfl rfl) rfl H10 rfl rfl Kz) ?_
    refine jv_Wp.lift (fun _ Kz => jv_Ev.steps jv_i287 1 (pc' := 168) (l' := [(3, .int (0 : Int32)), (2, .int (vl_I w8)), (1, .int (0 : Int32)), (0, .ref 196)]) (st' := [.int (0 : Int32)]) rfl Kz) ?_
    refine jv_Wp.lift (fun _ Kz => jv_Ev.br jv_i287 (pc' := 171) (st' := []) rfl (by rfl) Kz) ?_
    refine jv_Wp.lift (fun _ Kz => jv_Ev.steps jv_i287 2 (pc' := 173) (l' := [(3, .int (0 : Int32)), (2, .int (vl_I w8)), (1, .int (0 : Int32)), (0, .ref 196)]) (st' := [.ref 196, .ref 196]) rfl Kz) ?_
    refine jv_Wp.lift (fun _ Kz => jv_Ev.m jv_i287 (pc' := 176) (st' := [.int (vl_I f.d), .ref 196]) (G' := (jv_H K I10 L10 R)) rfl rfl (jv_m_getI (jv_rwK hW 196 12 24 (by decide)) rfl rfl D10.2.1) Kz) ?_
    refine jv_Wp.lift (fun _ Kz => jv_Ev.c jv_i287 (pc' := 179) (S' := [.int (I 205 (76800 + f.d))]) jv_i271 [.ref 196, .int (vl_I f.d)] rfl rfl rfl rfl (jv_cal rfl (jv_H_at (jv_rwK hW 196 12 24 (by decide))) rfl rfl) rfl (vq_sortOfW W10 f.d hW (by omega)) rfl rfl Kz) ?_
    refine jv_Wp.lift (fun _ Kz => jv_Ev.steps jv_i287 1 (pc' := 180) (l' := [(3, .int (0 : Int32)), (2, .int (vl_I w8)), (1, .int (0 : Int32)), (0, .ref 196)]) (st' := [.int (1 : Int32), .int (I 205 (76800 + f.d))]) rfl Kz) ?_
    refine jv_Wp.cnd jv_i287 (pt := 203) (pe := 183) (p := (¬ (I 205 (76800 + f.d)) = (1 : Int32))) (q := (¬ (I 205 (76800 + f.d)) = (1 : Int32))) rfl jv_bc_ne rfl rfl Iff.rfl (fun h2 => ?_) (fun h2 => ?_)
    · refine jv_Wp.lift (fun _ Kz => jv_Ev.steps jv_i287 3 (pc' := 208) (l' := [(4, .int (0 : Int32)), (3, .int (0 : Int32)), (2, .int (vl_I w8)), (1, .int (0 : Int32)), (0, .ref 196)]) (st' := [.int (0 : Int32)]) rfl Kz) ?_
      refine jv_Wp.lift (fun _ Kz => jv_Ev.br jv_i287 (pc' := 245) (st' := []) rfl (by rfl) Kz) ?_
      refine jv_Wp.lift (fun _ Kz => jv_Ev.steps jv_i287 1 (pc' := 246) (l' := [(4, .int (0 : Int32)), (3, .int (0 : Int32)), (2, .int (vl_I w8)), (1, .int (0 : Int32)), (0, .ref 196)]) (st' := [.ref 196]) rfl Kz) ?_
      refine jv_Wp.lift (fun _ Kz => jv_Ev.c jv_i287 (pc' := 249) (S' := [.int (vl_I f.kind)]) jv_i257 [.ref 196] rfl rfl rfl rfl (jv_cal rfl (jv_H_at (jv_rwK hW 196 12 24 (by decide))) rfl rfl) rfl (vq_kind f hW D10) rfl rfl Kz) ?_
      refine jv_Wp.lift (fun _ Kz => jv_Ev.steps jv_i287 1 (pc' := 250) (l' := [(4, .int (0 : Int32)), (3, .int (0 : Int32)), (2, .int (vl_I w8)), (1, .int (0 : Int32)), (0, .ref 196)]) (st' := [.int (4 : Int32), .int (vl_I f.kind)]) rfl Kz) ?_
      refine jv_Wp.cnd jv_i287 (pt := 261) (pe := 253) (p := ((vl_I f.kind) = (4 : Int32))) (q := ((vl_I f.kind) = (4 : Int32))) rfl jv_bc_eq rfl rfl Iff.rfl (fun _ => ?_) (fun hz => absurd ((vr_sm (v := 4) (by omega) (by decide) rfl).mpr hK) hz)
      refine jv_Wp.lift (fun _ Kz => jv_Ev.steps jv_i287 1 (pc' := 262) (l' := [(4, .int (0 : Int32)), (3, .int (0 : Int32)), (2, .int (vl_I w8)), (1, .int (0 : Int32)), (0, .ref 196)]) (st' := [.int (2 : Int32)]) rfl Kz) ?_
      refine jv_Wp.of (jv_Ev.ret jv_i287 rfl rfl) ?_
      rw [hQ]
      have td1 : ¬ zd = 1 := fun z => h2 ((vr_is 1 (by decide) okd).mp ((hd ()).trans z))
      have fe : w8 ≤ 0 := (vl_I_le (b := 0) (by omega) (by decide)).mp h1
      have a1 : ¬ vx_a1 f (vr_T I L (76800 + f.d)) (vt_num (vx_just f.i)) := by unfold vx_a1; rw [hd (), hs ()]; omega
      have a2 : ¬ (f.n = 11 ∧ f.kind = 7 ∧ f.o = 0) := by omega
      have a3 : vx_a3 f (vr_T I L (76800 + f.d)) (vt_num (vx_just f.i)) := by unfold vx_a3; rw [hd (), hs ()]; omega
      have e : vx_ar f (vr_T I L (76800 + f.d)) (vt_num (vx_just f.i)) = (2, (vr_T I L (76800 + f.d))) := by
        by_cases c : f.kind = 7 ∧ (f.n = 0 ∨ f.n = 1)
        · exact (vx_ar3 a1 a2 a3 c).trans (vx_move2 (by rw [hd (), hs ()]; omega) (by rw [hd (), hs ()]; omega))
        · exact vx_ar4 a1 a2 a3 c
      have g := vq_arE (L := L) (f := f) (c := 2) hd75 oa (by rw [eD, eY]; exact congrArg Prod.fst e) (fun z => absurd z (by decide)) (vr_fr_P W10 (fun _ z => z.elim))
      exact ⟨_, _, by rw [g.1]; rfl, g.2, vr_fr_P W10 (fun _ z => z.elim)⟩
    · refine jv_Wp.lift (fun _ Kz => jv_Ev.steps jv_i287 1 (pc' := 184) (l' := [(3, .int (0 : Int32)), (2, .int (vl_I w8)), (1, .int (0 : Int32)), (0, .ref 196)]) (st' := [.int (0 : Int32)]) rfl Kz) ?_
      refine jv_Wp.lift (fun _ Kz => jv_Ev.br jv_i287 (pc' := 199) (st' := []) rfl (by rfl) Kz) ?_
      refine jv_Wp.lift (fun _ Kz => jv_Ev.steps jv_i287 4 (pc' := 208) (l' := [(4, .int (1 : Int32)), (3, .int (0 : Int32)), (2, .int (vl_I w8)), (1, .int (0 : Int32)), (0, .ref 196)]) (st' := [.int (1 : Int32)]) rfl Kz) ?_
      refine jv_Wp.lift (fun _ Kz => jv_Ev.br jv_i287 (pc' := 211) (st' := []) rfl (by rfl) Kz) ?_
      refine jv_Wp.lift (fun _ Kz => jv_Ev.steps jv_i287 3 (pc' := 216) (l' := [(4, .int (1 : Int32)), (3, .int (0 : Int32)), (2, .int (vl_I w8)), (1, .int (0 : Int32)), (0, .ref 196)]) (st' := [.ref 196, .int (1024 : Int32), .ref 196]) rfl Kz) ?_
      refine jv_Wp.lift (fun _ Kz => jv_Ev.m jv_i287 (pc' := 219) (st' := [.int (vl_I f.d), .int (1024 : Int32), .ref 196]) (G' := (jv_H K I10 L10 R)) rfl rfl (jv_m_getI (jv_rwK hW 196 12 24 (by decide)) rfl rfl D10.2.1) Kz) ?_
      refine jv_Wp.lift (fun _ Kz => jv_Ev.c jv_i287 (pc' := 222) (S' := [.int (vl_I (8 + (76800 + f.d))), .ref 196]) jv_i254 [.int (1024 : Int32), .int (vl_I f.d)] rfl rfl rfl rfl rfl rfl (vq_row 1024 f.d) rfl rfl Kz) ?_
      refine jv_Wp.lift (fun _ Kz => jv_Ev.steps jv_i287 1 (pc' := 223) (l' := [(4, .int (1 : Int32)), (3, .int (0 : Int32)), (2, .int (vl_I w8)), (1, .int (0 : Int32)), (0, .ref 196)]) (st' := [.int (0 : Int32), .int (vl_I (8 + (76800 + f.d))), .ref 196]) rfl Kz) ?_
      refine jv_Wp.lift (fun _ Kz => jv_Ev.br jv_i287 (pc' := 239) (st' := [.int (vl_I (8 + (76800 + f.d))), .ref 196]) rfl (by rfl) Kz) ?_
      refine jv_Wp.lift (fun _ Kz => jv_Ev.steps jv_i287 1 (pc' := 240) (l' := [(4, .int (1 : Int32)), (3, .int (0 : Int32)), (2, .int (vl_I w8)), (1, .int (0 : Int32)), (0, .ref 196)]) (st' := [.int (5 : Int32), .int (vl_I (8 + (76800 + f.d))), .ref 196]) rfl Kz) ?_
      have td1 : zd = 1 := (hd ()).symm.trans ((vr_is 1 (by decide) okd).mpr (Classical.not_not.mp h2))
      have fe : w8 ≤ 0 := (vl_I_le (b := 0) (by omega) (by decide)).mp h1
      obtain ⟨I11, L11, H11, T11, O11, F11⟩ := vq_reckonB (I := I10) (L := L10) (R := R) (n := n) (sl := sl) f (8 + (76800 + f.d)) 5 hW Z10 D10 hfa (by omega) (by omega) (by omega) (by omega) (by omega) ((congrArg vb_toS (vr_fr_6 W10)).trans hZ6) (fun _ => by rw [vr_fr_S W10 (fun z => z)]; exact vr_tight okd (tA f.d (by omega)) (by rw [(vr_is 1 (by decide) okd).mp ((hd ()).trans (by omega))]; rfl)) (fun _ _ => Yt10) (by omega)
      refine jv_Wp.lift (fun _ Kz => jv_Ev.c jv_i287 (pc' := 243) (S' := []) (G1 := (jv_H K I11 L11 R)) jv_i285 [.ref 196, .int (vl_I (8 + (76800 + f.d))), .int (5 : Int32)] rfl rfl rfl rfl (jv_cal rfl (jv_H_at (jv_rwK hW 196 12 24 (by decide))) rfl rfl) rfl H11 rfl rfl Kz) ?_
      refine jv_Wp.lift (fun _ Kz => jv_Ev.steps jv_i287 1 (pc' := 244) (l' := [(4, .int (1 : Int32)), (3, .int (0 : Int32)), (2, .int (vl_I w8)), (1, .int (0 : Int32)), (0, .ref 196)]) (st' := [.int (0 : Int32)]) rfl Kz) ?_
      refine jv_Wp.of (jv_Ev.ret jv_i287 rfl rfl) ?_
      rw [hQ]
      have td1 : zd = 1 := (hd ()).symm.trans ((vr_is 1 (by decide) okd).mpr (Classical.not_not.mp h2))
      have fe : w8 ≤ 0 := (vl_I_le (b := 0) (by omega) (by decide)).mp h1
      have a1 : ¬ vx_a1 f (vr_T I L (76800 + f.d)) (vt_num (vx_just f.i)) := by unfold vx_a1; rw [hd (), hs ()]; omega
      have a2 : ¬ (f.n = 11 ∧ f.kind = 7 ∧ f.o = 0) := by omega
      have a3 : ¬ vx_a3 f (vr_T I L (76800 + f.d)) (vt_num (vx_just f.i)) := by unfold vx_a3; rw [hd (), hs ()]; omega
      have e := vx_ar5 a1 a2 a3
      have ev : vx_reckon f (vb_toS (vr_S L10 (8 + (76800 + f.d)))) (vb_toS (vr_S L10 5)) = vx_reckon f (vr_T I L (76800 + f.d)).val (vt_num (vx_just f.i)).val := by
        rw [Y10, vr_fr_S W10 (fun z => z)]
        rw [vx_reckon_cut hfa hK]
        show _ = vx_reckon f (vr_T I L (76800 + f.d)).val (vx_just f.i)
        rw [show (vr_T I L (76800 + f.d)).val = (vb_toS (vr_S L (8 + (76800 + f.d)))) from vr_valv (by rw [(vr_is 1 (by decide) okd).mp ((hd ()).trans (by omega))]; rfl)]
      have g := vq_arE (L := L) (f := f) (c := 0) hd75 oa (by rw [eD, eY]; exact congrArg Prod.fst e) (fun _ => ⟨by rw [eD, eY, e, T11, ev], O11⟩) (vr_fr_trans (vr_fr_P W10 (fun _ z => z.elim)) F11)
      exact ⟨_, _, by rw [g.1]; rfl, g.2, vr_fr_trans (vr_fr_P W10 (fun _ z => z.elim)) F11⟩
  · refine jv_Wp.lift (fun _ Kz => jv_Ev.steps jv_i287 1 (pc' := 68) (l' := [(2, .int (vl_I w8)), (1, .int (0 : Int32)), (0, .ref 196)]) (st' := [.int (vl_I w8)]) rfl Kz) ?_
    refine jv_Wp.of (jv_Ev.ret jv_i287 rfl rfl) ?_
    rw [hQ]
    have fe : ¬ w8 ≤ 0 := fun z => h1 ((vl_I_le (b := 0) (by omega) (by decide)).mpr z)
    have a1 : vx_a1 f (vr_T I L (76800 + f.d)) (vt_num (vx_just f.i)) := by unfold vx_a1; rw [hd (), hs ()]; omega
    have c1 : w8 = 1 := by omega
    have e := vx_ar1 a1
    have g := vq_arE (L := L) (f := f) (c := 1) hd75 oa (by rw [eD, eY]; exact congrArg Prod.fst e) (fun z => absurd z (by decide)) (vr_fr_refl hf)
    exact ⟨_, _, by rw [g.1]; rw [c1], g.2, vr_fr_refl hf⟩
set_option maxRecDepth 8000 in
theorem vq_arithR0k7 {K : Nat → Option (Nat × Nat)} {I : Nat → Nat → Int32} {L : Nat → Nat → Int64} {R : Nat → Nat → Value} (f : vf_F) (hW : jv_rW K R) (hf : vr_fl I) (D : vr_dec I f) (hfa : vf_ar f) (hk47 : f.kind = 4 ∨ f.kind = 7) (hd11 : f.d < 11) (hs11 : f.s < 11) (oa : vr_okA I 1024) (tA : ∀ n, n < 75 → vt_ok (vr_T I L (76800 + n))) (gA : ∀ n, n < 75 → vt_g (vr_T I L (76800 + n))) (hZ6 : vb_toS (vr_S L 6) = vb_just 0) (hb : f.bit3 = true) (hN11 : f.n ≠ 11) (hN13 : f.n ≠ 13) (hK : f.kind = 7) {n sl : Nat} : ∃ I1 L1, jv_Ms 287 [.ref 196] (jv_H K I L R) n sl (some (.int (vl_I (vx_arith f (vr_A I L 1024)).1)), jv_H K I1 L1 R, n, sl) ∧ ((vx_arith f (vr_A I L 1024)).1 = 0 → vr_A I1 L1 1024 = (vx_arith f (vr_A I L 1024)).2 ∧ vr_okA I1 1024) ∧ vr_fr (fun x => x = 76800 + f.d) noE I L I1 L1 := by
  obtain ⟨Q, hQ⟩ : ∃ Q : jv_R → Prop, Q = fun X => ∃ I1 L1, X = (some (.int (vl_I (vx_arith f (vr_A I L 1024)).1)), jv_H K I1 L1 R, n, sl) ∧ ((vx_arith f (vr_A I L 1024)).1 = 0 → vr_A I1 L1 1024 = (vx_arith f (vr_A I L 1024)).2 ∧ vr_okA I1 1024) ∧ vr_fr (fun x => x = 76800 + f.d) noE I L I1 L1 := ⟨_, rfl⟩
  suffices h : jv_Wp 287 0 [(0, .ref 196)] [] (jv_H K I L R) n sl Q by
    rw [hQ] at h
    obtain ⟨X, h, I1, L1, e, h'⟩ := h
    subst e
    exact ⟨I1, L1, h, h'⟩
  have hn16 := vr_dn D
  have hk8 := vr_dk D
  have hd75 : f.d < 75 := by omega
  have hs75 : f.s < 75 := by omega
  have okd : vr_ok I (76800 + f.d) f.d := oa f.d hd75
  have oks : vr_ok I (76800 + f.s) f.s := oa f.s hs75
  obtain ⟨zd, hd⟩ : ∃ x : Nat, ∀ _ : Unit, (vr_T I L (76800 + f.d)).sort = x := ⟨_, fun _ => rfl⟩
  obtain ⟨zs, hs⟩ : ∃ x : Nat, ∀ _ : Unit, (vr_T I L (76800 + f.s)).sort = x := ⟨_, fun _ => rfl⟩
  obtain ⟨rd, hrd⟩ : ∃ x : Nat, ∀ _ : Unit, vr_rd (I 205 (76800 + f.d)) = x := ⟨_, fun _ => rfl⟩
  obtain ⟨rs, hrs⟩ : ∃ x : Nat, ∀ _ : Unit, vr_rd (I 205 (76800 + f.s)) = x := ⟨_, fun _ => rfl⟩
  have rdd : (zd = 0 → rd = 1) ∧ (zd ≠ 0 → rd = 0) := by rw [← hd (), ← hrd ()]; exact vr_rd_f okd hd11
  have rds : (zs = 0 → rs = 1) ∧ (zs ≠ 0 → rs = 0) := by rw [← hs (), ← hrs ()]; exact vr_rd_f oks hs11
  have W : vr_fr noP noE I L I L := vr_fr_refl hf
  have q0 := hfa.1
  have q8 := hfa.2.1
  have q11 := hfa.2.2.2.1
  have eD : (vr_A I L 1024).1 f.d = (vr_T I L (76800 + f.d)) := vr_A1 hd75
  have eY : vx_y f (vr_A I L 1024) = (vr_T I L (76800 + f.s)) := (if_pos hb).trans (vr_A1 hs75)
  have n8 : f.n ≠ 8 := fun z => by have := q8 z; rw [hb] at this; exact absurd this (by decide)
  refine jv_Wp.lift (fun _ Kz => jv_Ev.steps jv_i287 1 (pc' := 1) (l' := [(0, .ref 196)]) (st' := [.ref 196]) rfl Kz) ?_
  refine jv_Wp.lift (fun _ Kz => jv_Ev.c jv_i287 (pc' := 4) (S' := [.int (vl_I f.n)]) jv_i258 [.ref 196] rfl rfl rfl rfl (jv_cal rfl (jv_H_at (jv_rwK hW 196 12 24 (by decide))) rfl rfl) rfl (vq_n f hW D) rfl rfl Kz) ?_
  refine jv_Wp.lift (fun _ Kz => jv_Ev.steps jv_i287 1 (pc' := 6) (l' := [(0, .ref 196)]) (st' := [.int (11 : Int32), .int (vl_I f.n)]) rfl Kz) ?_
  refine jv_Wp.cnd jv_i287 (pt := 13) (pe := 9) (p := (¬ (vl_I f.n) = (11 : Int32))) (q := (¬ (vl_I f.n) = (11 : Int32))) rfl jv_bc_ne rfl rfl Iff.rfl (fun _ => ?_) (fun hz => absurd (fun z => by have y := (vr_sm (v := 11) (by omega) (by decide) rfl).mp z; omega) hz)
  refine jv_Wp.lift (fun _ Kz => jv_Ev.steps jv_i287 3 (pc' := 16) (l' := [(1, .int (0 : Int32)), (0, .ref 196)]) (st' := [.int (0 : Int32)]) rfl Kz) ?_
  refine jv_Wp.lift (fun _ Kz => jv_Ev.br jv_i287 (pc' := 23) (st' := []) rfl (by rfl) Kz) ?_
  refine jv_Wp.lift (fun _ Kz => jv_Ev.steps jv_i287 2 (pc' := 25) (l' := [(1, .int (0 : Int32)), (0, .ref 196)]) (st' := [.ref 196, .ref 196]) rfl Kz) ?_
  refine jv_Wp.lift (fun _ Kz => jv_Ev.m jv_i287 (pc' := 28) (st' := [.int (vl_I f.d), .ref 196]) (G' := (jv_H K I L R)) rfl rfl (jv_m_getI (jv_rwK hW 196 12 24 (by decide)) rfl rfl D.2.1) Kz) ?_
  have Hr12 := vq_readsW (n := n) (sl := sl) W f.d hW (by omega)
  rw [hrd ()] at Hr12
  refine jv_Wp.lift (fun _ Kz => jv_Ev.c jv_i287 (pc' := 31) (S' := [.int (vl_I rd)]) jv_i283 [.ref 196, .int (vl_I f.d)] rfl rfl rfl rfl (jv_cal rfl (jv_H_at (jv_rwK hW 196 12 24 (by decide))) rfl rfl) rfl Hr12 rfl rfl Kz) ?_
  refine jv_Wp.lift (fun _ Kz => jv_Ev.steps jv_i287 1 (pc' := 32) (l' := [(1, .int (0 : Int32)), (0, .ref 196)]) (st' := [.ref 196, .int (vl_I rd)]) rfl Kz) ?_
  refine jv_Wp.lift (fun _ Kz => jv_Ev.c jv_i287 (pc' := 35) (S' := [.int (vr_b f.bit3), .int (vl_I rd)]) jv_i259 [.ref 196] rfl rfl rfl rfl (jv_cal rfl (jv_H_at (jv_rwK hW 196 12 24 (by decide))) rfl rfl) rfl (vq_bit3 f hW D) rfl rfl Kz) ?_
  refine jv_Wp.cnd jv_i287 (pt := 58) (pe := 38) (p := ((vr_b f.bit3) = 0)) (q := ((vr_b f.bit3) = 0)) rfl jv_bi_eq rfl rfl Iff.rfl (fun hz => absurd hz (by rw [hb]; decide)) (fun _ => ?_)
  refine jv_Wp.lift (fun _ Kz => jv_Ev.steps jv_i287 1 (pc' := 39) (l' := [(1, .int (0 : Int32)), (0, .ref 196)]) (st' := [.ref 196, .int (vl_I rd)]) rfl Kz) ?_
  refine jv_Wp.lift (fun _ Kz => jv_Ev.c jv_i287 (pc' := 42) (S' := [.int (vl_I f.n), .int (vl_I rd)]) jv_i258 [.ref 196] rfl rfl rfl rfl (jv_cal rfl (jv_H_at (jv_rwK hW 196 12 24 (by decide))) rfl rfl) rfl (vq_n f hW D) rfl rfl Kz) ?_
  refine jv_Wp.lift (fun _ Kz => jv_Ev.steps jv_i287 1 (pc' := 44) (l' := [(1, .int (0 : Int32)), (0, .ref 196)]) (st' := [.int (13 : Int32), .int (vl_I f.n), .int (vl_I rd)]) rfl Kz) ?_
  refine jv_Wp.cnd jv_i287 (pt := 58) (pe := 47) (p := ((vl_I f.n) = (13 : Int32))) (q := ((vl_I f.n) = (13 : Int32))) rfl jv_bc_eq rfl rfl Iff.rfl (fun hz => absurd hz (fun z => by have y := (vr_sm (v := 13) (by omega) (by decide) rfl).mp z; omega)) (fun _ => ?_)
  refine jv_Wp.lift (fun _ Kz => jv_Ev.steps jv_i287 2 (pc' := 49) (l' := [(1, .int (0 : Int32)), (0, .ref 196)]) (st' := [.ref 196, .ref 196, .int (vl_I rd)]) rfl Kz) ?_
  refine jv_Wp.lift (fun _ Kz => jv_Ev.m jv_i287 (pc' := 52) (st' := [.int (vl_I f.s), .ref 196, .int (vl_I rd)]) (G' := (jv_H K I L R)) rfl rfl (jv_m_getI (jv_rwK hW 196 12 24 (by decide)) rfl rfl D.2.2.1) Kz) ?_
  have Hr13 := vq_readsW (n := n) (sl := sl) W f.s hW (by omega)
  rw [hrs ()] at Hr13
  refine jv_Wp.lift (fun _ Kz => jv_Ev.c jv_i287 (pc' := 55) (S' := [.int (vl_I rs), .int (vl_I rd)]) jv_i283 [.ref 196, .int (vl_I f.s)] rfl rfl rfl rfl (jv_cal rfl (jv_H_at (jv_rwK hW 196 12 24 (by decide))) rfl rfl) rfl Hr13 rfl rfl Kz) ?_
  refine jv_Wp.lift (fun _ Kz => jv_Ev.steps jv_i287 1 (pc' := 59) (l' := [(1, .int (0 : Int32)), (0, .ref 196)]) (st' := [.int (vl_I rs), .int (vl_I rd)]) rfl Kz) ?_
  obtain ⟨w14, hq14⟩ : ∃ x : Nat, ∀ _ : Unit, vx_fst rd rs = x := ⟨_, fun _ => rfl⟩
  have fq : (rd = 0 → w14 = rs) ∧ (rs = 0 → w14 = rd) ∧ (w14 = rd ∨ w14 = rs) := by rw [← hq14 ()]; exact vx_fst_f rd rs
  have Hf14 := vq_first (I := I) (L := L) (K := K) (R := R) (n := n) (sl := sl) rd rs (by omega) (by omega)
  rw [hq14 ()] at Hf14
  refine jv_Wp.lift (fun _ Kz => jv_Ev.c jv_i287 (pc' := 62) (S' := [.int (vl_I w14)]) jv_i282 [.int (vl_I rd), .int (vl_I rs)] rfl rfl rfl rfl rfl rfl Hf14 rfl rfl Kz) ?_
  refine jv_Wp.lift (fun _ Kz => jv_Ev.steps jv_i287 2 (pc' := 64) (l' := [(2, .int (vl_I w14)), (1, .int (0 : Int32)), (0, .ref 196)]) (st' := [.int (vl_I w14)]) rfl Kz) ?_
  refine jv_Wp.cnd jv_i287 (pt := 69) (pe := 67) (p := ((vl_I w14) ≤ 0)) (q := ((vl_I w14) ≤ 0)) rfl jv_bi_le rfl rfl Iff.rfl (fun h1 => ?_) (fun h1 => ?_)
  · refine jv_Wp.lift (fun _ Kz => jv_Ev.steps jv_i287 1 (pc' := 70) (l' := [(2, .int (vl_I w14)), (1, .int (0 : Int32)), (0, .ref 196)]) (st' := [.ref 196]) rfl Kz) ?_
    refine jv_Wp.lift (fun _ Kz => jv_Ev.c jv_i287 (pc' := 73) (S' := [.int (vr_b f.bit3)]) jv_i259 [.ref 196] rfl rfl rfl rfl (jv_cal rfl (jv_H_at (jv_rwK hW 196 12 24 (by decide))) rfl rfl) rfl (vq_bit3 f hW D) rfl rfl Kz) ?_
    refine jv_Wp.cnd jv_i287 (pt := 89) (pe := 76) (p := ((vr_b f.bit3) = 0)) (q := ((vr_b f.bit3) = 0)) rfl jv_bi_eq rfl rfl Iff.rfl (fun hz => absurd hz (by rw [hb]; decide)) (fun _ => ?_)
    refine jv_Wp.lift (fun _ Kz => jv_Ev.steps jv_i287 1 (pc' := 77) (l' := [(2, .int (vl_I w14)), (1, .int (0 : Int32)), (0, .ref 196)]) (st' := [.ref 196]) rfl Kz) ?_
    refine jv_Wp.lift (fun _ Kz => jv_Ev.c jv_i287 (pc' := 80) (S' := [.int (vl_I f.n)]) jv_i258 [.ref 196] rfl rfl rfl rfl (jv_cal rfl (jv_H_at (jv_rwK hW 196 12 24 (by decide))) rfl rfl) rfl (vq_n f hW D) rfl rfl Kz) ?_
    refine jv_Wp.lift (fun _ Kz => jv_Ev.steps jv_i287 1 (pc' := 82) (l' := [(2, .int (vl_I w14)), (1, .int (0 : Int32)), (0, .ref 196)]) (st' := [.int (13 : Int32), .int (vl_I f.n)]) rfl Kz) ?_
    refine jv_Wp.cnd jv_i287 (pt := 89) (pe := 85) (p := ((vl_I f.n) = (13 : Int32))) (q := ((vl_I f.n) = (13 : Int32))) rfl jv_bc_eq rfl rfl Iff.rfl (fun hz => absurd hz (fun z => by have y := (vr_sm (v := 13) (by omega) (by decide) rfl).mp z; omega)) (fun _ => ?_)
    refine jv_Wp.lift (fun _ Kz => jv_Ev.steps jv_i287 4 (pc' := 92) (l' := [(3, .int (1 : Int32)), (2, .int (vl_I w14)), (1, .int (0 : Int32)), (0, .ref 196)]) (st' := [.int (0 : Int32)]) rfl Kz) ?_
    refine jv_Wp.lift (fun _ Kz => jv_Ev.br jv_i287 (pc' := 135) (st' := []) rfl (by rfl) Kz) ?_
    refine jv_Wp.lift (fun _ Kz => jv_Ev.steps jv_i287 1 (pc' := 136) (l' := [(3, .int (1 : Int32)), (2, .int (vl_I w14)), (1, .int (0 : Int32)), (0, .ref 196)]) (st' := [.ref 196]) rfl Kz) ?_
    refine jv_Wp.lift (fun _ Kz => jv_Ev.m jv_i287 (pc' := 139) (st' := [.ref 208]) (G' := (jv_H K I L R)) rfl rfl (jv_m_getR (jv_rwK hW 196 12 24 (by decide)) rfl rfl (jv_rwR hW 196 16 208 (by decide))) Kz) ?_
    refine jv_Wp.lift (fun _ Kz => jv_Ev.steps jv_i287 2 (pc' := 141) (l' := [(3, .int (1 : Int32)), (2, .int (vl_I w14)), (1, .int (0 : Int32)), (0, .ref 196)]) (st' := [.ref 196, .int (5 : Int32), .ref 208]) rfl Kz) ?_
    refine jv_Wp.lift (fun _ Kz => jv_Ev.m jv_i287 (pc' := 144) (st' := [.int (Int32.ofInt f.i), .int (5 : Int32), .ref 208]) (G' := (jv_H K I L R)) rfl rfl (jv_m_getI (jv_rwK hW 196 12 24 (by decide)) rfl rfl (vr_dJ D)) Kz) ?_
    refine jv_Wp.lift (fun _ Kz => jv_Ev.steps jv_i287 1 (pc' := 145) (l' := [(3, .int (1 : Int32)), (2, .int (vl_I w14)), (1, .int (0 : Int32)), (0, .ref 196)]) (st' := [.long (Int32.ofInt f.i).toInt64, .int (5 : Int32), .ref 208]) rfl Kz) ?_
    obtain ⟨I15, L15, H15, S15, F15⟩ := vq_single (I := I) (L := L) (R := R) (n := n) (sl := sl) (d := 5) (Int32.ofInt f.i).toInt64 hW (by decide) hf
    have Z15 := F15.1
    have D15 := vr_dec_rf F15 D
    have W15 : vr_fr noP noE I L I15 L15 := vr_fr_trans W (vq_rf_fr F15 (by decide))
    have Y15 : vb_toS (vr_S L15 5) = vx_just f.i := by rw [S15, vb_toS_just]; exact vx_just_32 _ _ (vr_dQ D)
    have Yt15 : vb_tight (vb_toS (vr_S L15 5)) := by rw [Y15]; exact vb_just_tight _
    refine jv_Wp.lift (fun _ Kz => jv_Ev.c jv_i287 (pc' := 148) (S' := []) (G1 := (jv_H K I15 L15 R)) jv_i217 [.ref 208, .int (5 : Int32), .long (Int32.ofInt f.i).toInt64] rfl rfl rfl rfl (jv_cal rfl (jv_H_at (jv_rwK hW 208 11 7 (by decide))) rfl rfl) rfl H15 rfl rfl Kz) ?_
    refine jv_Wp.lift (fun _ Kz => jv_Ev.steps jv_i287 1 (pc' := 149) (l' := [(3, .int (1 : Int32)), (2, .int (vl_I w14)), (1, .int (0 : Int32)), (0, .ref 196)]) (st' := [.ref 196]) rfl Kz) ?_
    refine jv_Wp.lift (fun _ Kz => jv_Ev.c jv_i287 (pc' := 152) (S' := [.int (vl_I f.kind)]) jv_i257 [.ref 196] rfl rfl rfl rfl (jv_cal rfl (jv_H_at (jv_rwK hW 196 12 24 (by decide))) rfl rfl) rfl (vq_kind f hW D15) rfl rfl Kz) ?_
    refine jv_Wp.lift (fun _ Kz => jv_Ev.steps jv_i287 1 (pc' := 153) (l' := [(3, .int (1 : Int32)), (2, .int (vl_I w14)), (1, .int (0 : Int32)), (0, .ref 196)]) (st' := [.int (4 : Int32), .int (vl_I f.kind)]) rfl Kz) ?_
    refine jv_Wp.cnd jv_i287 (pt := 167) (pe := 156) (p := (¬ (vl_I f.kind) = (4 : Int32))) (q := (¬ (vl_I f.kind) = (4 : Int32))) rfl jv_bc_ne rfl rfl Iff.rfl (fun _ => ?_) (fun hz => absurd (fun z => by have y := (vr_sm (v := 4) (by omega) (by decide) rfl).mp z; omega) hz)
    refine jv_Wp.lift (fun _ Kz => jv_Ev.steps jv_i287 1 (pc' := 168) (l' := [(3, .int (1 : Int32)), (2, .int (vl_I w14)), (1, .int (0 : Int32)), (0, .ref 196)]) (st' := [.int (0 : Int32)]) rfl Kz) ?_
    refine jv_Wp.lift (fun _ Kz => jv_Ev.br jv_i287 (pc' := 171) (st' := []) rfl (by rfl) Kz) ?_
    refine jv_Wp.lift (fun _ Kz => jv_Ev.steps jv_i287 2 (pc' := 173) (l' := [(3, .int (1 : Int32)), (2, .int (vl_I w14)), (1, .int (0 : Int32)), (0, .ref 196)]) (st' := [.ref 196, .ref 196]) rfl Kz) ?_
    refine jv_Wp.lift (fun _ Kz => jv_Ev.m jv_i287 (pc' := 176) (st' := [.int (vl_I f.d), .ref 196]) (G' := (jv_H K I15 L15 R)) rfl rfl (jv_m_getI (jv_rwK hW 196 12 24 (by decide)) rfl rfl D15.2.1) Kz) ?_
    refine jv_Wp.lift (fun _ Kz => jv_Ev.c jv_i287 (pc' := 179) (S' := [.int (I 205 (76800 + f.d))]) jv_i271 [.ref 196, .int (vl_I f.d)] rfl rfl rfl rfl (jv_cal rfl (jv_H_at (jv_rwK hW 196 12 24 (by decide))) rfl rfl) rfl (vq_sortOfW W15 f.d hW (by omega)) rfl rfl Kz) ?_
    refine jv_Wp.lift (fun _ Kz => jv_Ev.steps jv_i287 1 (pc' := 180) (l' := [(3, .int (1 : Int32)), (2, .int (vl_I w14)), (1, .int (0 : Int32)), (0, .ref 196)]) (st' := [.int (1 : Int32), .int (I 205 (76800 + f.d))]) rfl Kz) ?_
    refine jv_Wp.cnd jv_i287 (pt := 203) (pe := 183) (p := (¬ (I 205 (76800 + f.d)) = (1 : Int32))) (q := (¬ (I 205 (76800 + f.d)) = (1 : Int32))) rfl jv_bc_ne rfl rfl Iff.rfl (fun h2 => ?_) (fun h2 => ?_)
    · refine jv_Wp.lift (fun _ Kz => jv_Ev.steps jv_i287 3 (pc' := 208) (l' := [(4, .int (0 : Int32)), (3, .int (1 : Int32)), (2, .int (vl_I w14)), (1, .int (0 : Int32)), (0, .ref 196)]) (st' := [.int (0 : Int32)]) rfl Kz) ?_
      refine jv_Wp.lift (fun _ Kz => jv_Ev.br jv_i287 (pc' := 245) (st' := []) rfl (by rfl) Kz) ?_
      refine jv_Wp.lift (fun _ Kz => jv_Ev.steps jv_i287 1 (pc' := 246) (l' := [(4, .int (0 : Int32)), (3, .int (1 : Int32)), (2, .int (vl_I w14)), (1, .int (0 : Int32)), (0, .ref 196)]) (st' := [.ref 196]) rfl Kz) ?_
      refine jv_Wp.lift (fun _ Kz => jv_Ev.c jv_i287 (pc' := 249) (S' := [.int (vl_I f.kind)]) jv_i257 [.ref 196] rfl rfl rfl rfl (jv_cal rfl (jv_H_at (jv_rwK hW 196 12 24 (by decide))) rfl rfl) rfl (vq_kind f hW D15) rfl rfl Kz) ?_
      refine jv_Wp.lift (fun _ Kz => jv_Ev.steps jv_i287 1 (pc' := 250) (l' := [(4, .int (0 : Int32)), (3, .int (1 : Int32)), (2, .int (vl_I w14)), (1, .int (0 : Int32)), (0, .ref 196)]) (st' := [.int (4 : Int32), .int (vl_I f.kind)]) rfl Kz) ?_
      refine jv_Wp.cnd jv_i287 (pt := 261) (pe := 253) (p := ((vl_I f.kind) = (4 : Int32))) (q := ((vl_I f.kind) = (4 : Int32))) rfl jv_bc_eq rfl rfl Iff.rfl (fun hz => absurd hz (fun z => by have y := (vr_sm (v := 4) (by omega) (by decide) rfl).mp z; omega)) (fun _ => ?_)
      refine jv_Wp.lift (fun _ Kz => jv_Ev.steps jv_i287 1 (pc' := 254) (l' := [(4, .int (0 : Int32)), (3, .int (1 : Int32)), (2, .int (vl_I w14)), (1, .int (0 : Int32)), (0, .ref 196)]) (st' := [.ref 196]) rfl Kz) ?_
      refine jv_Wp.lift (fun _ Kz => jv_Ev.c jv_i287 (pc' := 257) (S' := [.int (vl_I f.n)]) jv_i258 [.ref 196] rfl rfl rfl rfl (jv_cal rfl (jv_H_at (jv_rwK hW 196 12 24 (by decide))) rfl rfl) rfl (vq_n f hW D15) rfl rfl Kz) ?_
      refine jv_Wp.lift (fun _ Kz => jv_Ev.steps jv_i287 1 (pc' := 258) (l' := [(4, .int (0 : Int32)), (3, .int (1 : Int32)), (2, .int (vl_I w14)), (1, .int (0 : Int32)), (0, .ref 196)]) (st' := [.int (1 : Int32), .int (vl_I f.n)]) rfl Kz) ?_
      refine jv_Wp.cnd jv_i287 (pt := 263) (pe := 261) (p := ((vl_I f.n) ≤ (1 : Int32))) (q := ((vl_I f.n) ≤ (1 : Int32))) rfl jv_bc_le rfl rfl Iff.rfl (fun h3 => ?_) (fun h3 => ?_)
      · refine jv_Wp.lift (fun _ Kz => jv_Ev.steps jv_i287 2 (pc' := 265) (l' := [(4, .int (0 : Int32)), (3, .int (1 : Int32)), (2, .int (vl_I w14)), (1, .int (0 : Int32)), (0, .ref 196)]) (st' := [.ref 196, .ref 196]) rfl Kz) ?_
        refine jv_Wp.lift (fun _ Kz => jv_Ev.m jv_i287 (pc' := 268) (st' := [.int (vl_I f.d), .ref 196]) (G' := (jv_H K I15 L15 R)) rfl rfl (jv_m_getI (jv_rwK hW 196 12 24 (by decide)) rfl rfl D15.2.1) Kz) ?_
        refine jv_Wp.lift (fun _ Kz => jv_Ev.c jv_i287 (pc' := 271) (S' := [.int (vr_b (vr_mv (I 205 (76800 + f.d))))]) jv_i288 [.ref 196, .int (vl_I f.d)] rfl rfl rfl rfl (jv_cal rfl (jv_H_at (jv_rwK hW 196 12 24 (by decide))) rfl rfl) rfl (vq_isMovableW W15 f.d hW (by omega)) rfl rfl Kz) ?_
        refine jv_Wp.cnd jv_i287 (pt := 294) (pe := 274) (p := ((vr_b (vr_mv (I 205 (76800 + f.d)))) = 0)) (q := ((vr_b (vr_mv (I 205 (76800 + f.d)))) = 0)) rfl jv_bi_eq rfl rfl Iff.rfl (fun h4 => ?_) (fun h4 => ?_)
        · refine jv_Wp.lift (fun _ Kz => jv_Ev.steps jv_i287 3 (pc' := 298) (l' := [(5, .int (0 : Int32)), (4, .int (0 : Int32)), (3, .int (1 : Int32)), (2, .int (vl_I w14)), (1, .int (0 : Int32)), (0, .ref 196)]) (st' := [.ref 196]) rfl Kz) ?_
          refine jv_Wp.lift (fun _ Kz => jv_Ev.c jv_i287 (pc' := 301) (S' := [.int (vl_I f.n)]) jv_i258 [.ref 196] rfl rfl rfl rfl (jv_cal rfl (jv_H_at (jv_rwK hW 196 12 24 (by decide))) rfl rfl) rfl (vq_n f hW D15) rfl rfl Kz) ?_
          refine jv_Wp.cnd jv_i287 (pt := 335) (pe := 304) (p := (¬ (vl_I f.n) = 0)) (q := (¬ (vl_I f.n) = 0)) rfl jv_bi_ne rfl rfl Iff.rfl (fun h5 => ?_) (fun h5 => ?_)
          · refine jv_Wp.lift (fun _ Kz => jv_Ev.steps jv_i287 3 (pc' := 340) (l' := [(6, .int (0 : Int32)), (5, .int (0 : Int32)), (4, .int (0 : Int32)), (3, .int (1 : Int32)), (2, .int (vl_I w14)), (1, .int (0 : Int32)), (0, .ref 196)]) (st' := [.int (0 : Int32)]) rfl Kz) ?_
            refine jv_Wp.lift (fun _ Kz => jv_Ev.br jv_i287 (pc' := 366) (st' := []) rfl (by rfl) Kz) ?_
            refine jv_Wp.lift (fun _ Kz => jv_Ev.steps jv_i287 1 (pc' := 368) (l' := [(6, .int (0 : Int32)), (5, .int (0 : Int32)), (4, .int (0 : Int32)), (3, .int (1 : Int32)), (2, .int (vl_I w14)), (1, .int (0 : Int32)), (0, .ref 196)]) (st' := [.int (0 : Int32)]) rfl Kz) ?_
            refine jv_Wp.lift (fun _ Kz => jv_Ev.br jv_i287 (pc' := 386) (st' := []) rfl (by rfl) Kz) ?_
            refine jv_Wp.lift (fun _ Kz => jv_Ev.steps jv_i287 1 (pc' := 387) (l' := [(6, .int (0 : Int32)), (5, .int (0 : Int32)), (4, .int (0 : Int32)), (3, .int (1 : Int32)), (2, .int (vl_I w14)), (1, .int (0 : Int32)), (0, .ref 196)]) (st' := [.int (2 : Int32)]) rfl Kz) ?_
            refine jv_Wp.of (jv_Ev.ret jv_i287 rfl rfl) ?_
            rw [hQ]
            have mn0 : ¬ f.n = 0 := (fun z => h5 ((vr_sm (v := 0) (by omega) (by decide) rfl).mpr z))
            have td1 : ¬ zd = 1 := fun z => h2 ((vr_is 1 (by decide) okd).mp ((hd ()).trans z))
            have ud : ¬ (zd = 2 ∨ zd = 3 ∨ zd = 4 ∨ zd = 7) := fun z => absurd (vr_mvF (L := L) okd (by rw [hd ()]; exact z)) (of_decide_eq_false (vr_b_f h4))
            have fe : w14 ≤ 0 := (vl_I_le (b := 0) (by omega) (by decide)).mp h1
            have ge : f.n ≤ 1 := (vl_I_le (b := 1) (by omega) (by decide)).mp h3
            have a1 : ¬ vx_a1 f (vr_T I L (76800 + f.d)) (vr_T I L (76800 + f.s)) := by unfold vx_a1; rw [hd (), hs ()]; omega
            have a2 : ¬ (f.n = 11 ∧ f.kind = 7 ∧ f.o = 0) := by omega
            have a3 : vx_a3 f (vr_T I L (76800 + f.d)) (vr_T I L (76800 + f.s)) := by unfold vx_a3; rw [hd (), hs ()]; omega
            have e : vx_ar f (vr_T I L (76800 + f.d)) (vr_T I L (76800 + f.s)) = (2, (vr_T I L (76800 + f.d))) := by
              by_cases c : f.kind = 7 ∧ (f.n = 0 ∨ f.n = 1)
              · exact (vx_ar3 a1 a2 a3 c).trans (vx_move2 (by rw [hd (), hs ()]; omega) (by rw [hd (), hs ()]; omega))
              · exact vx_ar4 a1 a2 a3 c
            have g := vq_arE (L := L) (f := f) (c := 2) hd75 oa (by rw [eD, eY]; exact congrArg Prod.fst e) (fun z => absurd z (by decide)) (vr_fr_P W15 (fun _ z => z.elim))
            exact ⟨_, _, by rw [g.1]; rfl, g.2, vr_fr_P W15 (fun _ z => z.elim)⟩
          · refine jv_Wp.lift (fun _ Kz => jv_Ev.steps jv_i287 1 (pc' := 305) (l' := [(5, .int (0 : Int32)), (4, .int (0 : Int32)), (3, .int (1 : Int32)), (2, .int (vl_I w14)), (1, .int (0 : Int32)), (0, .ref 196)]) (st' := [.int (1 : Int32)]) rfl Kz) ?_
            refine jv_Wp.lift (fun _ Kz => jv_Ev.br jv_i287 (pc' := 308) (st' := []) rfl (by rfl) Kz) ?_
            refine jv_Wp.lift (fun _ Kz => jv_Ev.steps jv_i287 2 (pc' := 310) (l' := [(5, .int (0 : Int32)), (4, .int (0 : Int32)), (3, .int (1 : Int32)), (2, .int (vl_I w14)), (1, .int (0 : Int32)), (0, .ref 196)]) (st' := [.ref 196, .ref 196]) rfl Kz) ?_
            refine jv_Wp.lift (fun _ Kz => jv_Ev.m jv_i287 (pc' := 313) (st' := [.int (vl_I f.d), .ref 196]) (G' := (jv_H K I15 L15 R)) rfl rfl (jv_m_getI (jv_rwK hW 196 12 24 (by decide)) rfl rfl D15.2.1) Kz) ?_
            refine jv_Wp.lift (fun _ Kz => jv_Ev.c jv_i287 (pc' := 316) (S' := [.int (I 205 (76800 + f.d))]) jv_i271 [.ref 196, .int (vl_I f.d)] rfl rfl rfl rfl (jv_cal rfl (jv_H_at (jv_rwK hW 196 12 24 (by decide))) rfl rfl) rfl (vq_sortOfW W15 f.d hW (by omega)) rfl rfl Kz) ?_
            refine jv_Wp.lift (fun _ Kz => jv_Ev.steps jv_i287 1 (pc' := 317) (l' := [(5, .int (0 : Int32)), (4, .int (0 : Int32)), (3, .int (1 : Int32)), (2, .int (vl_I w14)), (1, .int (0 : Int32)), (0, .ref 196)]) (st' := [.int (1 : Int32), .int (I 205 (76800 + f.d))]) rfl Kz) ?_
            refine jv_Wp.cnd jv_i287 (pt := 335) (pe := 320) (p := (¬ (I 205 (76800 + f.d)) = (1 : Int32))) (q := (¬ (I 205 (76800 + f.d)) = (1 : Int32))) rfl jv_bc_ne rfl rfl Iff.rfl (fun _ => ?_) (fun hz => absurd h2 hz)
            refine jv_Wp.lift (fun _ Kz => jv_Ev.steps jv_i287 3 (pc' := 340) (l' := [(6, .int (0 : Int32)), (5, .int (0 : Int32)), (4, .int (0 : Int32)), (3, .int (1 : Int32)), (2, .int (vl_I w14)), (1, .int (0 : Int32)), (0, .ref 196)]) (st' := [.int (0 : Int32)]) rfl Kz) ?_
            refine jv_Wp.lift (fun _ Kz => jv_Ev.br jv_i287 (pc' := 366) (st' := []) rfl (by rfl) Kz) ?_
            refine jv_Wp.lift (fun _ Kz => jv_Ev.steps jv_i287 1 (pc' := 368) (l' := [(6, .int (0 : Int32)), (5, .int (0 : Int32)), (4, .int (0 : Int32)), (3, .int (1 : Int32)), (2, .int (vl_I w14)), (1, .int (0 : Int32)), (0, .ref 196)]) (st' := [.int (0 : Int32)]) rfl Kz) ?_
            refine jv_Wp.lift (fun _ Kz => jv_Ev.br jv_i287 (pc' := 386) (st' := []) rfl (by rfl) Kz) ?_
            refine jv_Wp.lift (fun _ Kz => jv_Ev.steps jv_i287 1 (pc' := 387) (l' := [(6, .int (0 : Int32)), (5, .int (0 : Int32)), (4, .int (0 : Int32)), (3, .int (1 : Int32)), (2, .int (vl_I w14)), (1, .int (0 : Int32)), (0, .ref 196)]) (st' := [.int (2 : Int32)]) rfl Kz) ?_
            refine jv_Wp.of (jv_Ev.ret jv_i287 rfl rfl) ?_
            rw [hQ]
            have mn0 : f.n = 0 := (vr_sm (v := 0) (by omega) (by decide) rfl).mp (Classical.not_not.mp h5)
            have td1 : ¬ zd = 1 := fun z => h2 ((vr_is 1 (by decide) okd).mp ((hd ()).trans z))
            have ud : ¬ (zd = 2 ∨ zd = 3 ∨ zd = 4 ∨ zd = 7) := fun z => absurd (vr_mvF (L := L) okd (by rw [hd ()]; exact z)) (of_decide_eq_false (vr_b_f h4))
            have fe : w14 ≤ 0 := (vl_I_le (b := 0) (by omega) (by decide)).mp h1
            have ge : f.n ≤ 1 := (vl_I_le (b := 1) (by omega) (by decide)).mp h3
            have a1 : ¬ vx_a1 f (vr_T I L (76800 + f.d)) (vr_T I L (76800 + f.s)) := by unfold vx_a1; rw [hd (), hs ()]; omega
            have a2 : ¬ (f.n = 11 ∧ f.kind = 7 ∧ f.o = 0) := by omega
            have a3 : vx_a3 f (vr_T I L (76800 + f.d)) (vr_T I L (76800 + f.s)) := by unfold vx_a3; rw [hd (), hs ()]; omega
            have e : vx_ar f (vr_T I L (76800 + f.d)) (vr_T I L (76800 + f.s)) = (2, (vr_T I L (76800 + f.d))) := by
              by_cases c : f.kind = 7 ∧ (f.n = 0 ∨ f.n = 1)
              · exact (vx_ar3 a1 a2 a3 c).trans (vx_move2 (by rw [hd (), hs ()]; omega) (by rw [hd (), hs ()]; omega))
              · exact vx_ar4 a1 a2 a3 c
            have g := vq_arE (L := L) (f := f) (c := 2) hd75 oa (by rw [eD, eY]; exact congrArg Prod.fst e) (fun z => absurd z (by decide)) (vr_fr_P W15 (fun _ z => z.elim))
            exact ⟨_, _, by rw [g.1]; rfl, g.2, vr_fr_P W15 (fun _ z => z.elim)⟩
        · refine jv_Wp.lift (fun _ Kz => jv_Ev.steps jv_i287 1 (pc' := 275) (l' := [(4, .int (0 : Int32)), (3, .int (1 : Int32)), (2, .int (vl_I w14)), (1, .int (0 : Int32)), (0, .ref 196)]) (st' := [.int (1 : Int32)]) rfl Kz) ?_
          refine jv_Wp.lift (fun _ Kz => jv_Ev.br jv_i287 (pc' := 278) (st' := []) rfl (by rfl) Kz) ?_
          refine jv_Wp.lift (fun _ Kz => jv_Ev.steps jv_i287 2 (pc' := 280) (l' := [(4, .int (0 : Int32)), (3, .int (1 : Int32)), (2, .int (vl_I w14)), (1, .int (0 : Int32)), (0, .ref 196)]) (st' := [.ref 196, .ref 196]) rfl Kz) ?_
          refine jv_Wp.lift (fun _ Kz => jv_Ev.m jv_i287 (pc' := 283) (st' := [.int (vl_I f.s), .ref 196]) (G' := (jv_H K I15 L15 R)) rfl rfl (jv_m_getI (jv_rwK hW 196 12 24 (by decide)) rfl rfl D15.2.2.1) Kz) ?_
          refine jv_Wp.lift (fun _ Kz => jv_Ev.c jv_i287 (pc' := 286) (S' := [.int (I 205 (76800 + f.s))]) jv_i271 [.ref 196, .int (vl_I f.s)] rfl rfl rfl rfl (jv_cal rfl (jv_H_at (jv_rwK hW 196 12 24 (by decide))) rfl rfl) rfl (vq_sortOfW W15 f.s hW (by omega)) rfl rfl Kz) ?_
          refine jv_Wp.lift (fun _ Kz => jv_Ev.steps jv_i287 1 (pc' := 287) (l' := [(4, .int (0 : Int32)), (3, .int (1 : Int32)), (2, .int (vl_I w14)), (1, .int (0 : Int32)), (0, .ref 196)]) (st' := [.int (1 : Int32), .int (I 205 (76800 + f.s))]) rfl Kz) ?_
          refine jv_Wp.cnd jv_i287 (pt := 294) (pe := 290) (p := (¬ (I 205 (76800 + f.s)) = (1 : Int32))) (q := (¬ (I 205 (76800 + f.s)) = (1 : Int32))) rfl jv_bc_ne rfl rfl Iff.rfl (fun h6 => ?_) (fun h6 => ?_)
          · refine jv_Wp.lift (fun _ Kz => jv_Ev.steps jv_i287 3 (pc' := 298) (l' := [(5, .int (0 : Int32)), (4, .int (0 : Int32)), (3, .int (1 : Int32)), (2, .int (vl_I w14)), (1, .int (0 : Int32)), (0, .ref 196)]) (st' := [.ref 196]) rfl Kz) ?_
            refine jv_Wp.lift (fun _ Kz => jv_Ev.c jv_i287 (pc' := 301) (S' := [.int (vl_I f.n)]) jv_i258 [.ref 196] rfl rfl rfl rfl (jv_cal rfl (jv_H_at (jv_rwK hW 196 12 24 (by decide))) rfl rfl) rfl (vq_n f hW D15) rfl rfl Kz) ?_
            refine jv_Wp.cnd jv_i287 (pt := 335) (pe := 304) (p := (¬ (vl_I f.n) = 0)) (q := (¬ (vl_I f.n) = 0)) rfl jv_bi_ne rfl rfl Iff.rfl (fun h7 => ?_) (fun h7 => ?_)
            · refine jv_Wp.lift (fun _ Kz => jv_Ev.steps jv_i287 3 (pc' := 340) (l' := [(6, .int (0 : Int32)), (5, .int (0 : Int32)), (4, .int (0 : Int32)), (3, .int (1 : Int32)), (2, .int (vl_I w14)), (1, .int (0 : Int32)), (0, .ref 196)]) (st' := [.int (0 : Int32)]) rfl Kz) ?_
              refine jv_Wp.lift (fun _ Kz => jv_Ev.br jv_i287 (pc' := 366) (st' := []) rfl (by rfl) Kz) ?_
              refine jv_Wp.lift (fun _ Kz => jv_Ev.steps jv_i287 1 (pc' := 368) (l' := [(6, .int (0 : Int32)), (5, .int (0 : Int32)), (4, .int (0 : Int32)), (3, .int (1 : Int32)), (2, .int (vl_I w14)), (1, .int (0 : Int32)), (0, .ref 196)]) (st' := [.int (0 : Int32)]) rfl Kz) ?_
              refine jv_Wp.lift (fun _ Kz => jv_Ev.br jv_i287 (pc' := 386) (st' := []) rfl (by rfl) Kz) ?_
              refine jv_Wp.lift (fun _ Kz => jv_Ev.steps jv_i287 1 (pc' := 387) (l' := [(6, .int (0 : Int32)), (5, .int (0 : Int32)), (4, .int (0 : Int32)), (3, .int (1 : Int32)), (2, .int (vl_I w14)), (1, .int (0 : Int32)), (0, .ref 196)]) (st' := [.int (2 : Int32)]) rfl Kz) ?_
              refine jv_Wp.of (jv_Ev.ret jv_i287 rfl rfl) ?_
              rw [hQ]
              have mn0 : ¬ f.n = 0 := (fun z => h7 ((vr_sm (v := 0) (by omega) (by decide) rfl).mpr z))
              have td1 : ¬ zd = 1 := fun z => h2 ((vr_is 1 (by decide) okd).mp ((hd ()).trans z))
              have vd : I 205 (76800 + f.d) = 2 ∨ I 205 (76800 + f.d) = 3 ∨ I 205 (76800 + f.d) = 4 ∨ I 205 (76800 + f.d) = 7 := of_decide_eq_true (vr_b_t h4)
              have ud : zd = 2 ∨ zd = 3 ∨ zd = 4 ∨ zd = 7 := by have z := vr_mvT (L := L) okd vd; rw [hd ()] at z; exact z
              have ts1 : ¬ zs = 1 := fun z => h6 ((vr_is 1 (by decide) oks).mp ((hs ()).trans z))
              have fe : w14 ≤ 0 := (vl_I_le (b := 0) (by omega) (by decide)).mp h1
              have ge : f.n ≤ 1 := (vl_I_le (b := 1) (by omega) (by decide)).mp h3
              have a1 : ¬ vx_a1 f (vr_T I L (76800 + f.d)) (vr_T I L (76800 + f.s)) := by unfold vx_a1; rw [hd (), hs ()]; omega
              have a2 : ¬ (f.n = 11 ∧ f.kind = 7 ∧ f.o = 0) := by omega
              have a3 : vx_a3 f (vr_T I L (76800 + f.d)) (vr_T I L (76800 + f.s)) := by unfold vx_a3; rw [hd (), hs ()]; omega
              have e : vx_ar f (vr_T I L (76800 + f.d)) (vr_T I L (76800 + f.s)) = (2, (vr_T I L (76800 + f.d))) := by
                by_cases c : f.kind = 7 ∧ (f.n = 0 ∨ f.n = 1)
                · exact (vx_ar3 a1 a2 a3 c).trans (vx_move2 (by rw [hd (), hs ()]; omega) (by rw [hd (), hs ()]; omega))
                · exact vx_ar4 a1 a2 a3 c
              have g := vq_arE (L := L) (f := f) (c := 2) hd75 oa (by rw [eD, eY]; exact congrArg Prod.fst e) (fun z => absurd z (by decide)) (vr_fr_P W15 (fun _ z => z.elim))
              exact ⟨_, _, by rw [g.1]; rfl, g.2, vr_fr_P W15 (fun _ z => z.elim)⟩
            · refine jv_Wp.lift (fun _ Kz => jv_Ev.steps jv_i287 1 (pc' := 305) (l' := [(5, .int (0 : Int32)), (4, .int (0 : Int32)), (3, .int (1 : Int32)), (2, .int (vl_I w14)), (1, .int (0 : Int32)), (0, .ref 196)]) (st' := [.int (1 : Int32)]) rfl Kz) ?_
              refine jv_Wp.lift (fun _ Kz => jv_Ev.br jv_i287 (pc' := 308) (st' := []) rfl (by rfl) Kz) ?_
              refine jv_Wp.lift (fun _ Kz => jv_Ev.steps jv_i287 2 (pc' := 310) (l' := [(5, .int (0 : Int32)), (4, .int (0 : Int32)), (3, .int (1 : Int32)), (2, .int (vl_I w14)), (1, .int (0 : Int32)), (0, .ref 196)]) (st' := [.ref 196, .ref 196]) rfl Kz) ?_
              refine jv_Wp.lift (fun _ Kz => jv_Ev.m jv_i287 (pc' := 313) (st' := [.int (vl_I f.d), .ref 196]) (G' := (jv_H K I15 L15 R)) rfl rfl (jv_m_getI (jv_rwK hW 196 12 24 (by decide)) rfl rfl D15.2.1) Kz) ?_
              refine jv_Wp.lift (fun _ Kz => jv_Ev.c jv_i287 (pc' := 316) (S' := [.int (I 205 (76800 + f.d))]) jv_i271 [.ref 196, .int (vl_I f.d)] rfl rfl rfl rfl (jv_cal rfl (jv_H_at (jv_rwK hW 196 12 24 (by decide))) rfl rfl) rfl (vq_sortOfW W15 f.d hW (by omega)) rfl rfl Kz) ?_
              refine jv_Wp.lift (fun _ Kz => jv_Ev.steps jv_i287 1 (pc' := 317) (l' := [(5, .int (0 : Int32)), (4, .int (0 : Int32)), (3, .int (1 : Int32)), (2, .int (vl_I w14)), (1, .int (0 : Int32)), (0, .ref 196)]) (st' := [.int (1 : Int32), .int (I 205 (76800 + f.d))]) rfl Kz) ?_
              refine jv_Wp.cnd jv_i287 (pt := 335) (pe := 320) (p := (¬ (I 205 (76800 + f.d)) = (1 : Int32))) (q := (¬ (I 205 (76800 + f.d)) = (1 : Int32))) rfl jv_bc_ne rfl rfl Iff.rfl (fun _ => ?_) (fun hz => absurd h2 hz)
              refine jv_Wp.lift (fun _ Kz => jv_Ev.steps jv_i287 3 (pc' := 340) (l' := [(6, .int (0 : Int32)), (5, .int (0 : Int32)), (4, .int (0 : Int32)), (3, .int (1 : Int32)), (2, .int (vl_I w14)), (1, .int (0 : Int32)), (0, .ref 196)]) (st' := [.int (0 : Int32)]) rfl Kz) ?_
              refine jv_Wp.lift (fun _ Kz => jv_Ev.br jv_i287 (pc' := 366) (st' := []) rfl (by rfl) Kz) ?_
              refine jv_Wp.lift (fun _ Kz => jv_Ev.steps jv_i287 1 (pc' := 368) (l' := [(6, .int (0 : Int32)), (5, .int (0 : Int32)), (4, .int (0 : Int32)), (3, .int (1 : Int32)), (2, .int (vl_I w14)), (1, .int (0 : Int32)), (0, .ref 196)]) (st' := [.int (0 : Int32)]) rfl Kz) ?_
              refine jv_Wp.lift (fun _ Kz => jv_Ev.br jv_i287 (pc' := 386) (st' := []) rfl (by rfl) Kz) ?_
              refine jv_Wp.lift (fun _ Kz => jv_Ev.steps jv_i287 1 (pc' := 387) (l' := [(6, .int (0 : Int32)), (5, .int (0 : Int32)), (4, .int (0 : Int32)), (3, .int (1 : Int32)), (2, .int (vl_I w14)), (1, .int (0 : Int32)), (0, .ref 196)]) (st' := [.int (2 : Int32)]) rfl Kz) ?_
              refine jv_Wp.of (jv_Ev.ret jv_i287 rfl rfl) ?_
              rw [hQ]
              have mn0 : f.n = 0 := (vr_sm (v := 0) (by omega) (by decide) rfl).mp (Classical.not_not.mp h7)
              have td1 : ¬ zd = 1 := fun z => h2 ((vr_is 1 (by decide) okd).mp ((hd ()).trans z))
              have vd : I 205 (76800 + f.d) = 2 ∨ I 205 (76800 + f.d) = 3 ∨ I 205 (76800 + f.d) = 4 ∨ I 205 (76800 + f.d) = 7 := of_decide_eq_true (vr_b_t h4)
              have ud : zd = 2 ∨ zd = 3 ∨ zd = 4 ∨ zd = 7 := by have z := vr_mvT (L := L) okd vd; rw [hd ()] at z; exact z
              have ts1 : ¬ zs = 1 := fun z => h6 ((vr_is 1 (by decide) oks).mp ((hs ()).trans z))
              have fe : w14 ≤ 0 := (vl_I_le (b := 0) (by omega) (by decide)).mp h1
              have ge : f.n ≤ 1 := (vl_I_le (b := 1) (by omega) (by decide)).mp h3
              have a1 : ¬ vx_a1 f (vr_T I L (76800 + f.d)) (vr_T I L (76800 + f.s)) := by unfold vx_a1; rw [hd (), hs ()]; omega
              have a2 : ¬ (f.n = 11 ∧ f.kind = 7 ∧ f.o = 0) := by omega
              have a3 : vx_a3 f (vr_T I L (76800 + f.d)) (vr_T I L (76800 + f.s)) := by unfold vx_a3; rw [hd (), hs ()]; omega
              have e : vx_ar f (vr_T I L (76800 + f.d)) (vr_T I L (76800 + f.s)) = (2, (vr_T I L (76800 + f.d))) := by
                by_cases c : f.kind = 7 ∧ (f.n = 0 ∨ f.n = 1)
                · exact (vx_ar3 a1 a2 a3 c).trans (vx_move2 (by rw [hd (), hs ()]; omega) (by rw [hd (), hs ()]; omega))
                · exact vx_ar4 a1 a2 a3 c
              have g := vq_arE (L := L) (f := f) (c := 2) hd75 oa (by rw [eD, eY]; exact congrArg Prod.fst e) (fun z => absurd z (by decide)) (vr_fr_P W15 (fun _ z => z.elim))
              exact ⟨_, _, by rw [g.1]; rfl, g.2, vr_fr_P W15 (fun _ z => z.elim)⟩
          · refine jv_Wp.lift (fun _ Kz => jv_Ev.steps jv_i287 4 (pc' := 298) (l' := [(5, .int (1 : Int32)), (4, .int (0 : Int32)), (3, .int (1 : Int32)), (2, .int (vl_I w14)), (1, .int (0 : Int32)), (0, .ref 196)]) (st' := [.ref 196]) rfl Kz) ?_
            refine jv_Wp.lift (fun _ Kz => jv_Ev.c jv_i287 (pc' := 301) (S' := [.int (vl_I f.n)]) jv_i258 [.ref 196] rfl rfl rfl rfl (jv_cal rfl (jv_H_at (jv_rwK hW 196 12 24 (by decide))) rfl rfl) rfl (vq_n f hW D15) rfl rfl Kz) ?_
            refine jv_Wp.cnd jv_i287 (pt := 335) (pe := 304) (p := (¬ (vl_I f.n) = 0)) (q := (¬ (vl_I f.n) = 0)) rfl jv_bi_ne rfl rfl Iff.rfl (fun h8 => ?_) (fun h8 => ?_)
            · refine jv_Wp.lift (fun _ Kz => jv_Ev.steps jv_i287 3 (pc' := 340) (l' := [(6, .int (0 : Int32)), (5, .int (1 : Int32)), (4, .int (0 : Int32)), (3, .int (1 : Int32)), (2, .int (vl_I w14)), (1, .int (0 : Int32)), (0, .ref 196)]) (st' := [.int (1 : Int32)]) rfl Kz) ?_
              refine jv_Wp.lift (fun _ Kz => jv_Ev.br jv_i287 (pc' := 343) (st' := []) rfl (by rfl) Kz) ?_
              refine jv_Wp.lift (fun _ Kz => jv_Ev.steps jv_i287 2 (pc' := 345) (l' := [(6, .int (0 : Int32)), (5, .int (1 : Int32)), (4, .int (0 : Int32)), (3, .int (1 : Int32)), (2, .int (vl_I w14)), (1, .int (0 : Int32)), (0, .ref 196)]) (st' := [.ref 196, .ref 196]) rfl Kz) ?_
              refine jv_Wp.lift (fun _ Kz => jv_Ev.m jv_i287 (pc' := 348) (st' := [.int (vl_I f.d), .ref 196]) (G' := (jv_H K I15 L15 R)) rfl rfl (jv_m_getI (jv_rwK hW 196 12 24 (by decide)) rfl rfl D15.2.1) Kz) ?_
              refine jv_Wp.lift (fun _ Kz => jv_Ev.steps jv_i287 1 (pc' := 349) (l' := [(6, .int (0 : Int32)), (5, .int (1 : Int32)), (4, .int (0 : Int32)), (3, .int (1 : Int32)), (2, .int (vl_I w14)), (1, .int (0 : Int32)), (0, .ref 196)]) (st' := [.int (1 : Int32), .int (vl_I f.d), .ref 196]) rfl Kz) ?_
              refine jv_Wp.lift (fun _ Kz => jv_Ev.br jv_i287 (pc' := 352) (st' := [.int (vl_I f.d), .ref 196]) rfl (by rfl) Kz) ?_
              refine jv_Wp.lift (fun _ Kz => jv_Ev.steps jv_i287 1 (pc' := 353) (l' := [(6, .int (0 : Int32)), (5, .int (1 : Int32)), (4, .int (0 : Int32)), (3, .int (1 : Int32)), (2, .int (vl_I w14)), (1, .int (0 : Int32)), (0, .ref 196)]) (st' := [.ref 196, .int (vl_I f.d), .ref 196]) rfl Kz) ?_
              refine jv_Wp.lift (fun _ Kz => jv_Ev.m jv_i287 (pc' := 356) (st' := [.int (vl_I f.s), .int (vl_I f.d), .ref 196]) (G' := (jv_H K I15 L15 R)) rfl rfl (jv_m_getI (jv_rwK hW 196 12 24 (by decide)) rfl rfl D15.2.2.1) Kz) ?_
              refine jv_Wp.lift (fun _ Kz => jv_Ev.steps jv_i287 1 (pc' := 360) (l' := [(6, .int (0 : Int32)), (5, .int (1 : Int32)), (4, .int (0 : Int32)), (3, .int (1 : Int32)), (2, .int (vl_I w14)), (1, .int (0 : Int32)), (0, .ref 196)]) (st' := [.int (vl_I f.s), .int (vl_I f.d), .ref 196]) rfl Kz) ?_
              have mn0 : ¬ f.n = 0 := (fun z => h8 ((vr_sm (v := 0) (by omega) (by decide) rfl).mpr z))
              have td1 : ¬ zd = 1 := fun z => h2 ((vr_is 1 (by decide) okd).mp ((hd ()).trans z))
              have vd : I 205 (76800 + f.d) = 2 ∨ I 205 (76800 + f.d) = 3 ∨ I 205 (76800 + f.d) = 4 ∨ I 205 (76800 + f.d) = 7 := of_decide_eq_true (vr_b_t h4)
              have ud : zd = 2 ∨ zd = 3 ∨ zd = 4 ∨ zd = 7 := by have z := vr_mvT (L := L) okd vd; rw [hd ()] at z; exact z
              have ts1 : zs = 1 := (hs ()).symm.trans ((vr_is 1 (by decide) oks).mpr (Classical.not_not.mp h6))
              have fe : w14 ≤ 0 := (vl_I_le (b := 0) (by omega) (by decide)).mp h1
              have ge : f.n ≤ 1 := (vl_I_le (b := 1) (by omega) (by decide)).mp h3
              obtain ⟨I16, L16, H16, T16, F16⟩ := vq_moveR (I := I15) (L := L15) (R := R) (n := n) (sl := sl) f f.d f.s hW Z15 D15 (by omega) (by omega) (by omega) ((vr_fr_ok W15 (fun z => z)).mpr okd) (by rw [vr_fr_T W15 (fun z => z)]; exact tA f.d (by omega)) (by rw [vr_fr_T W15 (fun z => z)]; exact gA f.d (by omega)) (by rw [(vr_fr_i W15 (fun z => z)).1]; exact vd) (by rw [vr_fr_S W15 (fun z => z)]; exact vr_tight oks (tA f.s (by omega)) (by rw [(vr_is 1 (by decide) oks).mp ((hs ()).trans (by omega))]; rfl))
              rw [vr_fr_T W15 (fun z => z), vr_fr_S W15 (fun z => z)] at H16 T16
              refine jv_Wp.lift (fun _ Kz => jv_Ev.c jv_i287 (pc' := 363) (S' := [.int (vl_I (vx_mq f.n (vr_T I L (76800 + f.d)) (vb_toS (vr_S L (8 + (76800 + f.s))))).1)]) (G1 := (jv_H K I16 L16 R)) jv_i286 [.ref 196, .int (vl_I f.d), .int (vl_I f.s)] rfl rfl rfl rfl (jv_cal rfl (jv_H_at (jv_rwK hW 196 12 24 (by decide))) rfl rfl) rfl H16 rfl rfl Kz) ?_
              refine jv_Wp.lift (fun _ Kz => jv_Ev.steps jv_i287 1 (pc' := 387) (l' := [(6, .int (0 : Int32)), (5, .int (1 : Int32)), (4, .int (0 : Int32)), (3, .int (1 : Int32)), (2, .int (vl_I w14)), (1, .int (0 : Int32)), (0, .ref 196)]) (st' := [.int (vl_I (vx_mq f.n (vr_T I L (76800 + f.d)) (vb_toS (vr_S L (8 + (76800 + f.s))))).1)]) rfl Kz) ?_
              refine jv_Wp.of (jv_Ev.ret jv_i287 rfl rfl) ?_
              rw [hQ]
              have mn0 : ¬ f.n = 0 := (fun z => h8 ((vr_sm (v := 0) (by omega) (by decide) rfl).mpr z))
              have td1 : ¬ zd = 1 := fun z => h2 ((vr_is 1 (by decide) okd).mp ((hd ()).trans z))
              have vd : I 205 (76800 + f.d) = 2 ∨ I 205 (76800 + f.d) = 3 ∨ I 205 (76800 + f.d) = 4 ∨ I 205 (76800 + f.d) = 7 := of_decide_eq_true (vr_b_t h4)
              have ud : zd = 2 ∨ zd = 3 ∨ zd = 4 ∨ zd = 7 := by have z := vr_mvT (L := L) okd vd; rw [hd ()] at z; exact z
              have ts1 : zs = 1 := (hs ()).symm.trans ((vr_is 1 (by decide) oks).mpr (Classical.not_not.mp h6))
              have fe : w14 ≤ 0 := (vl_I_le (b := 0) (by omega) (by decide)).mp h1
              have ge : f.n ≤ 1 := (vl_I_le (b := 1) (by omega) (by decide)).mp h3
              have a1 : ¬ vx_a1 f (vr_T I L (76800 + f.d)) (vr_T I L (76800 + f.s)) := by unfold vx_a1; rw [hd (), hs ()]; omega
              have a2 : ¬ (f.n = 11 ∧ f.kind = 7 ∧ f.o = 0) := by omega
              have a3 : vx_a3 f (vr_T I L (76800 + f.d)) (vr_T I L (76800 + f.s)) := by unfold vx_a3; rw [hd (), hs ()]; omega
              have e := vx_ar3 a1 a2 a3 (by omega)
              have e2 := vx_mv_q (n := f.n) (d := (vr_T I L (76800 + f.d))) (b := (vr_T I L (76800 + f.d))) (x := (vr_T I L (76800 + f.s))) (rev := False) ((hs ()).trans (by omega)) (fun z => z.2) (by rw [hd ()]; omega)
              rw [← vx_mvB (by rw [hd ()]; omega), ← e] at e2
              rw [show (vr_T I L (76800 + f.s)).val = (vb_toS (vr_S L (8 + (76800 + f.s)))) from vr_valv (by rw [(vr_is 1 (by decide) oks).mp ((hs ()).trans (by omega))]; rfl)] at e2
              have g := vq_arE (L := L) (f := f) (c := (vx_mq f.n (vr_T I L (76800 + f.d)) (vb_toS (vr_S L (8 + (76800 + f.s))))).1) hd75 oa (by rw [eD, eY]; exact e2.1) (fun z => ⟨by rw [eD, eY]; exact (T16 z).1.trans (e2.2 z).symm, (T16 z).2⟩) (vr_fr_trans (vr_fr_P W15 (fun _ z => z.elim)) F16)
              exact ⟨_, _, by rw [g.1], g.2, vr_fr_trans (vr_fr_P W15 (fun _ z => z.elim)) F16⟩
            · refine jv_Wp.lift (fun _ Kz => jv_Ev.steps jv_i287 1 (pc' := 305) (l' := [(5, .int (1 : Int32)), (4, .int (0 : Int32)), (3, .int (1 : Int32)), (2, .int (vl_I w14)), (1, .int (0 : Int32)), (0, .ref 196)]) (st' := [.int (1 : Int32)]) rfl Kz) ?_
              refine jv_Wp.lift (fun _ Kz => jv_Ev.br jv_i287 (pc' := 308) (st' := []) rfl (by rfl) Kz) ?_
              refine jv_Wp.lift (fun _ Kz => jv_Ev.steps jv_i287 2 (pc' := 310) (l' := [(5, .int (1 : Int32)), (4, .int (0 : Int32)), (3, .int (1 : Int32)), (2, .int (vl_I w14)), (1, .int (0 : Int32)), (0, .ref 196)]) (st' := [.ref 196, .ref 196]) rfl Kz) ?_
              refine jv_Wp.lift (fun _ Kz => jv_Ev.m jv_i287 (pc' := 313) (st' := [.int (vl_I f.d), .ref 196]) (G' := (jv_H K I15 L15 R)) rfl rfl (jv_m_getI (jv_rwK hW 196 12 24 (by decide)) rfl rfl D15.2.1) Kz) ?_
              refine jv_Wp.lift (fun _ Kz => jv_Ev.c jv_i287 (pc' := 316) (S' := [.int (I 205 (76800 + f.d))]) jv_i271 [.ref 196, .int (vl_I f.d)] rfl rfl rfl rfl (jv_cal rfl (jv_H_at (jv_rwK hW 196 12 24 (by decide))) rfl rfl) rfl (vq_sortOfW W15 f.d hW (by omega)) rfl rfl Kz) ?_
              refine jv_Wp.lift (fun _ Kz => jv_Ev.steps jv_i287 1 (pc' := 317) (l' := [(5, .int (1 : Int32)), (4, .int (0 : Int32)), (3, .int (1 : Int32)), (2, .int (vl_I w14)), (1, .int (0 : Int32)), (0, .ref 196)]) (st' := [.int (1 : Int32), .int (I 205 (76800 + f.d))]) rfl Kz) ?_
              refine jv_Wp.cnd jv_i287 (pt := 335) (pe := 320) (p := (¬ (I 205 (76800 + f.d)) = (1 : Int32))) (q := (¬ (I 205 (76800 + f.d)) = (1 : Int32))) rfl jv_bc_ne rfl rfl Iff.rfl (fun _ => ?_) (fun hz => absurd h2 hz)
              refine jv_Wp.lift (fun _ Kz => jv_Ev.steps jv_i287 3 (pc' := 340) (l' := [(6, .int (0 : Int32)), (5, .int (1 : Int32)), (4, .int (0 : Int32)), (3, .int (1 : Int32)), (2, .int (vl_I w14)), (1, .int (0 : Int32)), (0, .ref 196)]) (st' := [.int (1 : Int32)]) rfl Kz) ?_
              refine jv_Wp.lift (fun _ Kz => jv_Ev.br jv_i287 (pc' := 343) (st' := []) rfl (by rfl) Kz) ?_
              refine jv_Wp.lift (fun _ Kz => jv_Ev.steps jv_i287 2 (pc' := 345) (l' := [(6, .int (0 : Int32)), (5, .int (1 : Int32)), (4, .int (0 : Int32)), (3, .int (1 : Int32)), (2, .int (vl_I w14)), (1, .int (0 : Int32)), (0, .ref 196)]) (st' := [.ref 196, .ref 196]) rfl Kz) ?_
              refine jv_Wp.lift (fun _ Kz => jv_Ev.m jv_i287 (pc' := 348) (st' := [.int (vl_I f.d), .ref 196]) (G' := (jv_H K I15 L15 R)) rfl rfl (jv_m_getI (jv_rwK hW 196 12 24 (by decide)) rfl rfl D15.2.1) Kz) ?_
              refine jv_Wp.lift (fun _ Kz => jv_Ev.steps jv_i287 1 (pc' := 349) (l' := [(6, .int (0 : Int32)), (5, .int (1 : Int32)), (4, .int (0 : Int32)), (3, .int (1 : Int32)), (2, .int (vl_I w14)), (1, .int (0 : Int32)), (0, .ref 196)]) (st' := [.int (1 : Int32), .int (vl_I f.d), .ref 196]) rfl Kz) ?_
              refine jv_Wp.lift (fun _ Kz => jv_Ev.br jv_i287 (pc' := 352) (st' := [.int (vl_I f.d), .ref 196]) rfl (by rfl) Kz) ?_
              refine jv_Wp.lift (fun _ Kz => jv_Ev.steps jv_i287 1 (pc' := 353) (l' := [(6, .int (0 : Int32)), (5, .int (1 : Int32)), (4, .int (0 : Int32)), (3, .int (1 : Int32)), (2, .int (vl_I w14)), (1, .int (0 : Int32)), (0, .ref 196)]) (st' := [.ref 196, .int (vl_I f.d), .ref 196]) rfl Kz) ?_
              refine jv_Wp.lift (fun _ Kz => jv_Ev.m jv_i287 (pc' := 356) (st' := [.int (vl_I f.s), .int (vl_I f.d), .ref 196]) (G' := (jv_H K I15 L15 R)) rfl rfl (jv_m_getI (jv_rwK hW 196 12 24 (by decide)) rfl rfl D15.2.2.1) Kz) ?_
              refine jv_Wp.lift (fun _ Kz => jv_Ev.steps jv_i287 1 (pc' := 360) (l' := [(6, .int (0 : Int32)), (5, .int (1 : Int32)), (4, .int (0 : Int32)), (3, .int (1 : Int32)), (2, .int (vl_I w14)), (1, .int (0 : Int32)), (0, .ref 196)]) (st' := [.int (vl_I f.s), .int (vl_I f.d), .ref 196]) rfl Kz) ?_
              have mn0 : f.n = 0 := (vr_sm (v := 0) (by omega) (by decide) rfl).mp (Classical.not_not.mp h8)
              have td1 : ¬ zd = 1 := fun z => h2 ((vr_is 1 (by decide) okd).mp ((hd ()).trans z))
              have vd : I 205 (76800 + f.d) = 2 ∨ I 205 (76800 + f.d) = 3 ∨ I 205 (76800 + f.d) = 4 ∨ I 205 (76800 + f.d) = 7 := of_decide_eq_true (vr_b_t h4)
              have ud : zd = 2 ∨ zd = 3 ∨ zd = 4 ∨ zd = 7 := by have z := vr_mvT (L := L) okd vd; rw [hd ()] at z; exact z
              have ts1 : zs = 1 := (hs ()).symm.trans ((vr_is 1 (by decide) oks).mpr (Classical.not_not.mp h6))
              have fe : w14 ≤ 0 := (vl_I_le (b := 0) (by omega) (by decide)).mp h1
              have ge : f.n ≤ 1 := (vl_I_le (b := 1) (by omega) (by decide)).mp h3
              obtain ⟨I17, L17, H17, T17, F17⟩ := vq_moveR (I := I15) (L := L15) (R := R) (n := n) (sl := sl) f f.d f.s hW Z15 D15 (by omega) (by omega) (by omega) ((vr_fr_ok W15 (fun z => z)).mpr okd) (by rw [vr_fr_T W15 (fun z => z)]; exact tA f.d (by omega)) (by rw [vr_fr_T W15 (fun z => z)]; exact gA f.d (by omega)) (by rw [(vr_fr_i W15 (fun z => z)).1]; exact vd) (by rw [vr_fr_S W15 (fun z => z)]; exact vr_tight oks (tA f.s (by omega)) (by rw [(vr_is 1 (by decide) oks).mp ((hs ()).trans (by omega))]; rfl))
              rw [vr_fr_T W15 (fun z => z), vr_fr_S W15 (fun z => z)] at H17 T17
              refine jv_Wp.lift (fun _ Kz => jv_Ev.c jv_i287 (pc' := 363) (S' := [.int (vl_I (vx_mq f.n (vr_T I L (76800 + f.d)) (vb_toS (vr_S L (8 + (76800 + f.s))))).1)]) (G1 := (jv_H K I17 L17 R)) jv_i286 [.ref 196, .int (vl_I f.d), .int (vl_I f.s)] rfl rfl rfl rfl (jv_cal rfl (jv_H_at (jv_rwK hW 196 12 24 (by decide))) rfl rfl) rfl H17 rfl rfl Kz) ?_
              refine jv_Wp.lift (fun _ Kz => jv_Ev.steps jv_i287 1 (pc' := 387) (l' := [(6, .int (0 : Int32)), (5, .int (1 : Int32)), (4, .int (0 : Int32)), (3, .int (1 : Int32)), (2, .int (vl_I w14)), (1, .int (0 : Int32)), (0, .ref 196)]) (st' := [.int (vl_I (vx_mq f.n (vr_T I L (76800 + f.d)) (vb_toS (vr_S L (8 + (76800 + f.s))))).1)]) rfl Kz) ?_
              refine jv_Wp.of (jv_Ev.ret jv_i287 rfl rfl) ?_
              rw [hQ]
              have mn0 : f.n = 0 := (vr_sm (v := 0) (by omega) (by decide) rfl).mp (Classical.not_not.mp h8)
              have td1 : ¬ zd = 1 := fun z => h2 ((vr_is 1 (by decide) okd).mp ((hd ()).trans z))
              have vd : I 205 (76800 + f.d) = 2 ∨ I 205 (76800 + f.d) = 3 ∨ I 205 (76800 + f.d) = 4 ∨ I 205 (76800 + f.d) = 7 := of_decide_eq_true (vr_b_t h4)
              have ud : zd = 2 ∨ zd = 3 ∨ zd = 4 ∨ zd = 7 := by have z := vr_mvT (L := L) okd vd; rw [hd ()] at z; exact z
              have ts1 : zs = 1 := (hs ()).symm.trans ((vr_is 1 (by decide) oks).mpr (Classical.not_not.mp h6))
              have fe : w14 ≤ 0 := (vl_I_le (b := 0) (by omega) (by decide)).mp h1
              have ge : f.n ≤ 1 := (vl_I_le (b := 1) (by omega) (by decide)).mp h3
              have a1 : ¬ vx_a1 f (vr_T I L (76800 + f.d)) (vr_T I L (76800 + f.s)) := by unfold vx_a1; rw [hd (), hs ()]; omega
              have a2 : ¬ (f.n = 11 ∧ f.kind = 7 ∧ f.o = 0) := by omega
              have a3 : vx_a3 f (vr_T I L (76800 + f.d)) (vr_T I L (76800 + f.s)) := by unfold vx_a3; rw [hd (), hs ()]; omega
              have e := vx_ar3 a1 a2 a3 (by omega)
              have e2 := vx_mv_q (n := f.n) (d := (vr_T I L (76800 + f.d))) (b := (vr_T I L (76800 + f.d))) (x := (vr_T I L (76800 + f.s))) (rev := False) ((hs ()).trans (by omega)) (fun z => z.2) (by rw [hd ()]; omega)
              rw [← vx_mvB (by rw [hd ()]; omega), ← e] at e2
              rw [show (vr_T I L (76800 + f.s)).val = (vb_toS (vr_S L (8 + (76800 + f.s)))) from vr_valv (by rw [(vr_is 1 (by decide) oks).mp ((hs ()).trans (by omega))]; rfl)] at e2
              have g := vq_arE (L := L) (f := f) (c := (vx_mq f.n (vr_T I L (76800 + f.d)) (vb_toS (vr_S L (8 + (76800 + f.s))))).1) hd75 oa (by rw [eD, eY]; exact e2.1) (fun z => ⟨by rw [eD, eY]; exact (T17 z).1.trans (e2.2 z).symm, (T17 z).2⟩) (vr_fr_trans (vr_fr_P W15 (fun _ z => z.elim)) F17)
              exact ⟨_, _, by rw [g.1], g.2, vr_fr_trans (vr_fr_P W15 (fun _ z => z.elim)) F17⟩
      · refine jv_Wp.lift (fun _ Kz => jv_Ev.steps jv_i287 1 (pc' := 262) (l' := [(4, .int (0 : Int32)), (3, .int (1 : Int32)), (2, .int (vl_I w14)), (1, .int (0 : Int32)), (0, .ref 196)]) (st' := [.int (2 : Int32)]) rfl Kz) ?_
        refine jv_Wp.of (jv_Ev.ret jv_i287 rfl rfl) ?_
        rw [hQ]
        have td1 : ¬ zd = 1 := fun z => h2 ((vr_is 1 (by decide) okd).mp ((hd ()).trans z))
        have fe : w14 ≤ 0 := (vl_I_le (b := 0) (by omega) (by decide)).mp h1
        have ge : ¬ f.n ≤ 1 := fun z => h3 ((vl_I_le (b := 1) (by omega) (by decide)).mpr z)
        have a1 : ¬ vx_a1 f (vr_T I L (76800 + f.d)) (vr_T I L (76800 + f.s)) := by unfold vx_a1; rw [hd (), hs ()]; omega
        have a2 : ¬ (f.n = 11 ∧ f.kind = 7 ∧ f.o = 0) := by omega
        have a3 : vx_a3 f (vr_T I L (76800 + f.d)) (vr_T I L (76800 + f.s)) := by unfold vx_a3; rw [hd (), hs ()]; omega
        have e : vx_ar f (vr_T I L (76800 + f.d)) (vr_T I L (76800 + f.s)) = (2, (vr_T I L (76800 + f.d))) := by
          by_cases c : f.kind = 7 ∧ (f.n = 0 ∨ f.n = 1)
          · exact (vx_ar3 a1 a2 a3 c).trans (vx_move2 (by rw [hd (), hs ()]; omega) (by rw [hd (), hs ()]; omega))
          · exact vx_ar4 a1 a2 a3 c
        have g := vq_arE (L := L) (f := f) (c := 2) hd75 oa (by rw [eD, eY]; exact congrArg Prod.fst e) (fun z => absurd z (by decide)) (vr_fr_P W15 (fun _ z => z.elim))
        exact ⟨_, _, by rw [g.1]; rfl, g.2, vr_fr_P W15 (fun _ z => z.elim)⟩
    · refine jv_Wp.lift (fun _ Kz => jv_Ev.steps jv_i287 1 (pc' := 184) (l' := [(3, .int (1 : Int32)), (2, .int (vl_I w14)), (1, .int (0 : Int32)), (0, .ref 196)]) (st' := [.int (1 : Int32)]) rfl Kz) ?_
      refine jv_Wp.lift (fun _ Kz => jv_Ev.br jv_i287 (pc' := 187) (st' := []) rfl (by rfl) Kz) ?_
      refine jv_Wp.lift (fun _ Kz => jv_Ev.steps jv_i287 2 (pc' := 189) (l' := [(3, .int (1 : Int32)), (2, .int (vl_I w14)), (1, .int (0 : Int32)), (0, .ref 196)]) (st' := [.ref 196, .ref 196]) rfl Kz) ?_
      refine jv_Wp.lift (fun _ Kz => jv_Ev.m jv_i287 (pc' := 192) (st' := [.int (vl_I f.s), .ref 196]) (G' := (jv_H K I15 L15 R)) rfl rfl (jv_m_getI (jv_rwK hW 196 12 24 (by decide)) rfl rfl D15.2.2.1) Kz) ?_
      refine jv_Wp.lift (fun _ Kz => jv_Ev.c jv_i287 (pc' := 195) (S' := [.int (I 205 (76800 + f.s))]) jv_i271 [.ref 196, .int (vl_I f.s)] rfl rfl rfl rfl (jv_cal rfl (jv_H_at (jv_rwK hW 196 12 24 (by decide))) rfl rfl) rfl (vq_sortOfW W15 f.s hW (by omega)) rfl rfl Kz) ?_
      refine jv_Wp.lift (fun _ Kz => jv_Ev.steps jv_i287 1 (pc' := 196) (l' := [(3, .int (1 : Int32)), (2, .int (vl_I w14)), (1, .int (0 : Int32)), (0, .ref 196)]) (st' := [.int (1 : Int32), .int (I 205 (76800 + f.s))]) rfl Kz) ?_
      refine jv_Wp.cnd jv_i287 (pt := 203) (pe := 199) (p := (¬ (I 205 (76800 + f.s)) = (1 : Int32))) (q := (¬ (I 205 (76800 + f.s)) = (1 : Int32))) rfl jv_bc_ne rfl rfl Iff.rfl (fun h9 => ?_) (fun h9 => ?_)
      · refine jv_Wp.lift (fun _ Kz => jv_Ev.steps jv_i287 3 (pc' := 208) (l' := [(4, .int (0 : Int32)), (3, .int (1 : Int32)), (2, .int (vl_I w14)), (1, .int (0 : Int32)), (0, .ref 196)]) (st' := [.int (0 : Int32)]) rfl Kz) ?_
        refine jv_Wp.lift (fun _ Kz => jv_Ev.br jv_i287 (pc' := 245) (st' := []) rfl (by rfl) Kz) ?_
        refine jv_Wp.lift (fun _ Kz => jv_Ev.steps jv_i287 1 (pc' := 246) (l' := [(4, .int (0 : Int32)), (3, .int (1 : Int32)), (2, .int (vl_I w14)), (1, .int (0 : Int32)), (0, .ref 196)]) (st' := [.ref 196]) rfl Kz) ?_
        refine jv_Wp.lift (fun _ Kz => jv_Ev.c jv_i287 (pc' := 249) (S' := [.int (vl_I f.kind)]) jv_i257 [.ref 196] rfl rfl rfl rfl (jv_cal rfl (jv_H_at (jv_rwK hW 196 12 24 (by decide))) rfl rfl) rfl (vq_kind f hW D15) rfl rfl Kz) ?_
        refine jv_Wp.lift (fun _ Kz => jv_Ev.steps jv_i287 1 (pc' := 250) (l' := [(4, .int (0 : Int32)), (3, .int (1 : Int32)), (2, .int (vl_I w14)), (1, .int (0 : Int32)), (0, .ref 196)]) (st' := [.int (4 : Int32), .int (vl_I f.kind)]) rfl Kz) ?_
        refine jv_Wp.cnd jv_i287 (pt := 261) (pe := 253) (p := ((vl_I f.kind) = (4 : Int32))) (q := ((vl_I f.kind) = (4 : Int32))) rfl jv_bc_eq rfl rfl Iff.rfl (fun hz => absurd hz (fun z => by have y := (vr_sm (v := 4) (by omega) (by decide) rfl).mp z; omega)) (fun _ => ?_)
        refine jv_Wp.lift (fun _ Kz => jv_Ev.steps jv_i287 1 (pc' := 254) (l' := [(4, .int (0 : Int32)), (3, .int (1 : Int32)), (2, .int (vl_I w14)), (1, .int (0 : Int32)), (0, .ref 196)]) (st' := [.ref 196]) rfl Kz) ?_
        refine jv_Wp.lift (fun _ Kz => jv_Ev.c jv_i287 (pc' := 257) (S' := [.int (vl_I f.n)]) jv_i258 [.ref 196] rfl rfl rfl rfl (jv_cal rfl (jv_H_at (jv_rwK hW 196 12 24 (by decide))) rfl rfl) rfl (vq_n f hW D15) rfl rfl Kz) ?_
        refine jv_Wp.lift (fun _ Kz => jv_Ev.steps jv_i287 1 (pc' := 258) (l' := [(4, .int (0 : Int32)), (3, .int (1 : Int32)), (2, .int (vl_I w14)), (1, .int (0 : Int32)), (0, .ref 196)]) (st' := [.int (1 : Int32), .int (vl_I f.n)]) rfl Kz) ?_
        refine jv_Wp.cnd jv_i287 (pt := 263) (pe := 261) (p := ((vl_I f.n) ≤ (1 : Int32))) (q := ((vl_I f.n) ≤ (1 : Int32))) rfl jv_bc_le rfl rfl Iff.rfl (fun h10 => ?_) (fun h10 => ?_)
        · refine jv_Wp.lift (fun _ Kz => jv_Ev.steps jv_i287 2 (pc' := 265) (l' := [(4, .int (0 : Int32)), (3, .int (1 : Int32)), (2, .int (vl_I w14)), (1, .int (0 : Int32)), (0, .ref 196)]) (st' := [.ref 196, .ref 196]) rfl Kz) ?_
          refine jv_Wp.lift (fun _ Kz => jv_Ev.m jv_i287 (pc' := 268) (st' := [.int (vl_I f.d), .ref 196]) (G' := (jv_H K I15 L15 R)) rfl rfl (jv_m_getI (jv_rwK hW 196 12 24 (by decide)) rfl rfl D15.2.1) Kz) ?_
          refine jv_Wp.lift (fun _ Kz => jv_Ev.c jv_i287 (pc' := 271) (S' := [.int (vr_b (vr_mv (I 205 (76800 + f.d))))]) jv_i288 [.ref 196, .int (vl_I f.d)] rfl rfl rfl rfl (jv_cal rfl (jv_H_at (jv_rwK hW 196 12 24 (by decide))) rfl rfl) rfl (vq_isMovableW W15 f.d hW (by omega)) rfl rfl Kz) ?_
          refine jv_Wp.cnd jv_i287 (pt := 294) (pe := 274) (p := ((vr_b (vr_mv (I 205 (76800 + f.d)))) = 0)) (q := ((vr_b (vr_mv (I 205 (76800 + f.d)))) = 0)) rfl jv_bi_eq rfl rfl Iff.rfl (fun h11 => ?_) (fun h11 => ?_)
          · refine jv_Wp.lift (fun _ Kz => jv_Ev.steps jv_i287 3 (pc' := 298) (l' := [(5, .int (0 : Int32)), (4, .int (0 : Int32)), (3, .int (1 : Int32)), (2, .int (vl_I w14)), (1, .int (0 : Int32)), (0, .ref 196)]) (st' := [.ref 196]) rfl Kz) ?_
            refine jv_Wp.lift (fun _ Kz => jv_Ev.c jv_i287 (pc' := 301) (S' := [.int (vl_I f.n)]) jv_i258 [.ref 196] rfl rfl rfl rfl (jv_cal rfl (jv_H_at (jv_rwK hW 196 12 24 (by decide))) rfl rfl) rfl (vq_n f hW D15) rfl rfl Kz) ?_
            refine jv_Wp.cnd jv_i287 (pt := 335) (pe := 304) (p := (¬ (vl_I f.n) = 0)) (q := (¬ (vl_I f.n) = 0)) rfl jv_bi_ne rfl rfl Iff.rfl (fun h12 => ?_) (fun h12 => ?_)
            · refine jv_Wp.lift (fun _ Kz => jv_Ev.steps jv_i287 3 (pc' := 340) (l' := [(6, .int (0 : Int32)), (5, .int (0 : Int32)), (4, .int (0 : Int32)), (3, .int (1 : Int32)), (2, .int (vl_I w14)), (1, .int (0 : Int32)), (0, .ref 196)]) (st' := [.int (0 : Int32)]) rfl Kz) ?_
              refine jv_Wp.lift (fun _ Kz => jv_Ev.br jv_i287 (pc' := 366) (st' := []) rfl (by rfl) Kz) ?_
              refine jv_Wp.lift (fun _ Kz => jv_Ev.steps jv_i287 1 (pc' := 368) (l' := [(6, .int (0 : Int32)), (5, .int (0 : Int32)), (4, .int (0 : Int32)), (3, .int (1 : Int32)), (2, .int (vl_I w14)), (1, .int (0 : Int32)), (0, .ref 196)]) (st' := [.int (0 : Int32)]) rfl Kz) ?_
              refine jv_Wp.lift (fun _ Kz => jv_Ev.br jv_i287 (pc' := 386) (st' := []) rfl (by rfl) Kz) ?_
              refine jv_Wp.lift (fun _ Kz => jv_Ev.steps jv_i287 1 (pc' := 387) (l' := [(6, .int (0 : Int32)), (5, .int (0 : Int32)), (4, .int (0 : Int32)), (3, .int (1 : Int32)), (2, .int (vl_I w14)), (1, .int (0 : Int32)), (0, .ref 196)]) (st' := [.int (2 : Int32)]) rfl Kz) ?_
              refine jv_Wp.of (jv_Ev.ret jv_i287 rfl rfl) ?_
              rw [hQ]
              have mn0 : ¬ f.n = 0 := (fun z => h12 ((vr_sm (v := 0) (by omega) (by decide) rfl).mpr z))
              have td1 : zd = 1 := (hd ()).symm.trans ((vr_is 1 (by decide) okd).mpr (Classical.not_not.mp h2))
              have ts1 : ¬ zs = 1 := fun z => h9 ((vr_is 1 (by decide) oks).mp ((hs ()).trans z))
              have ud : ¬ (zd = 2 ∨ zd = 3 ∨ zd = 4 ∨ zd = 7) := fun z => absurd (vr_mvF (L := L) okd (by rw [hd ()]; exact z)) (of_decide_eq_false (vr_b_f h11))
              have fe : w14 ≤ 0 := (vl_I_le (b := 0) (by omega) (by decide)).mp h1
              have ge : f.n ≤ 1 := (vl_I_le (b := 1) (by omega) (by decide)).mp h10
              have a1 : ¬ vx_a1 f (vr_T I L (76800 + f.d)) (vr_T I L (76800 + f.s)) := by unfold vx_a1; rw [hd (), hs ()]; omega
              have a2 : ¬ (f.n = 11 ∧ f.kind = 7 ∧ f.o = 0) := by omega
              have a3 : vx_a3 f (vr_T I L (76800 + f.d)) (vr_T I L (76800 + f.s)) := by unfold vx_a3; rw [hd (), hs ()]; omega
              have e : vx_ar f (vr_T I L (76800 + f.d)) (vr_T I L (76800 + f.s)) = (2, (vr_T I L (76800 + f.d))) := by
                by_cases c : f.kind = 7 ∧ (f.n = 0 ∨ f.n = 1)
                · exact (vx_ar3 a1 a2 a3 c).trans (vx_move2 (by rw [hd (), hs ()]; omega) (by rw [hd (), hs ()]; omega))
                · exact vx_ar4 a1 a2 a3 c
              have g := vq_arE (L := L) (f := f) (c := 2) hd75 oa (by rw [eD, eY]; exact congrArg Prod.fst e) (fun z => absurd z (by decide)) (vr_fr_P W15 (fun _ z => z.elim))
              exact ⟨_, _, by rw [g.1]; rfl, g.2, vr_fr_P W15 (fun _ z => z.elim)⟩
            · refine jv_Wp.lift (fun _ Kz => jv_Ev.steps jv_i287 1 (pc' := 305) (l' := [(5, .int (0 : Int32)), (4, .int (0 : Int32)), (3, .int (1 : Int32)), (2, .int (vl_I w14)), (1, .int (0 : Int32)), (0, .ref 196)]) (st' := [.int (1 : Int32)]) rfl Kz) ?_
              refine jv_Wp.lift (fun _ Kz => jv_Ev.br jv_i287 (pc' := 308) (st' := []) rfl (by rfl) Kz) ?_
              refine jv_Wp.lift (fun _ Kz => jv_Ev.steps jv_i287 2 (pc' := 310) (l' := [(5, .int (0 : Int32)), (4, .int (0 : Int32)), (3, .int (1 : Int32)), (2, .int (vl_I w14)), (1, .int (0 : Int32)), (0, .ref 196)]) (st' := [.ref 196, .ref 196]) rfl Kz) ?_
              refine jv_Wp.lift (fun _ Kz => jv_Ev.m jv_i287 (pc' := 313) (st' := [.int (vl_I f.d), .ref 196]) (G' := (jv_H K I15 L15 R)) rfl rfl (jv_m_getI (jv_rwK hW 196 12 24 (by decide)) rfl rfl D15.2.1) Kz) ?_
              refine jv_Wp.lift (fun _ Kz => jv_Ev.c jv_i287 (pc' := 316) (S' := [.int (I 205 (76800 + f.d))]) jv_i271 [.ref 196, .int (vl_I f.d)] rfl rfl rfl rfl (jv_cal rfl (jv_H_at (jv_rwK hW 196 12 24 (by decide))) rfl rfl) rfl (vq_sortOfW W15 f.d hW (by omega)) rfl rfl Kz) ?_
              refine jv_Wp.lift (fun _ Kz => jv_Ev.steps jv_i287 1 (pc' := 317) (l' := [(5, .int (0 : Int32)), (4, .int (0 : Int32)), (3, .int (1 : Int32)), (2, .int (vl_I w14)), (1, .int (0 : Int32)), (0, .ref 196)]) (st' := [.int (1 : Int32), .int (I 205 (76800 + f.d))]) rfl Kz) ?_
              refine jv_Wp.cnd jv_i287 (pt := 335) (pe := 320) (p := (¬ (I 205 (76800 + f.d)) = (1 : Int32))) (q := (¬ (I 205 (76800 + f.d)) = (1 : Int32))) rfl jv_bc_ne rfl rfl Iff.rfl (fun hz => absurd hz (fun z => z (Classical.not_not.mp h2))) (fun _ => ?_)
              refine jv_Wp.lift (fun _ Kz => jv_Ev.steps jv_i287 2 (pc' := 322) (l' := [(5, .int (0 : Int32)), (4, .int (0 : Int32)), (3, .int (1 : Int32)), (2, .int (vl_I w14)), (1, .int (0 : Int32)), (0, .ref 196)]) (st' := [.ref 196, .ref 196]) rfl Kz) ?_
              refine jv_Wp.lift (fun _ Kz => jv_Ev.m jv_i287 (pc' := 325) (st' := [.int (vl_I f.s), .ref 196]) (G' := (jv_H K I15 L15 R)) rfl rfl (jv_m_getI (jv_rwK hW 196 12 24 (by decide)) rfl rfl D15.2.2.1) Kz) ?_
              refine jv_Wp.lift (fun _ Kz => jv_Ev.c jv_i287 (pc' := 328) (S' := [.int (vr_b (vr_mv (I 205 (76800 + f.s))))]) jv_i288 [.ref 196, .int (vl_I f.s)] rfl rfl rfl rfl (jv_cal rfl (jv_H_at (jv_rwK hW 196 12 24 (by decide))) rfl rfl) rfl (vq_isMovableW W15 f.s hW (by omega)) rfl rfl Kz) ?_
              refine jv_Wp.cnd jv_i287 (pt := 335) (pe := 331) (p := ((vr_b (vr_mv (I 205 (76800 + f.s)))) = 0)) (q := ((vr_b (vr_mv (I 205 (76800 + f.s)))) = 0)) rfl jv_bi_eq rfl rfl Iff.rfl (fun h13 => ?_) (fun h13 => ?_)
              · refine jv_Wp.lift (fun _ Kz => jv_Ev.steps jv_i287 3 (pc' := 340) (l' := [(6, .int (0 : Int32)), (5, .int (0 : Int32)), (4, .int (0 : Int32)), (3, .int (1 : Int32)), (2, .int (vl_I w14)), (1, .int (0 : Int32)), (0, .ref 196)]) (st' := [.int (0 : Int32)]) rfl Kz) ?_
                refine jv_Wp.lift (fun _ Kz => jv_Ev.br jv_i287 (pc' := 366) (st' := []) rfl (by rfl) Kz) ?_
                refine jv_Wp.lift (fun _ Kz => jv_Ev.steps jv_i287 1 (pc' := 368) (l' := [(6, .int (0 : Int32)), (5, .int (0 : Int32)), (4, .int (0 : Int32)), (3, .int (1 : Int32)), (2, .int (vl_I w14)), (1, .int (0 : Int32)), (0, .ref 196)]) (st' := [.int (0 : Int32)]) rfl Kz) ?_
                refine jv_Wp.lift (fun _ Kz => jv_Ev.br jv_i287 (pc' := 386) (st' := []) rfl (by rfl) Kz) ?_
                refine jv_Wp.lift (fun _ Kz => jv_Ev.steps jv_i287 1 (pc' := 387) (l' := [(6, .int (0 : Int32)), (5, .int (0 : Int32)), (4, .int (0 : Int32)), (3, .int (1 : Int32)), (2, .int (vl_I w14)), (1, .int (0 : Int32)), (0, .ref 196)]) (st' := [.int (2 : Int32)]) rfl Kz) ?_
                refine jv_Wp.of (jv_Ev.ret jv_i287 rfl rfl) ?_
                rw [hQ]
                have mn0 : f.n = 0 := (vr_sm (v := 0) (by omega) (by decide) rfl).mp (Classical.not_not.mp h12)
                have td1 : zd = 1 := (hd ()).symm.trans ((vr_is 1 (by decide) okd).mpr (Classical.not_not.mp h2))
                have ts1 : ¬ zs = 1 := fun z => h9 ((vr_is 1 (by decide) oks).mp ((hs ()).trans z))
                have ud : ¬ (zd = 2 ∨ zd = 3 ∨ zd = 4 ∨ zd = 7) := fun z => absurd (vr_mvF (L := L) okd (by rw [hd ()]; exact z)) (of_decide_eq_false (vr_b_f h11))
                have us : ¬ (zs = 2 ∨ zs = 3 ∨ zs = 4 ∨ zs = 7) := fun z => absurd (vr_mvF (L := L) oks (by rw [hs ()]; exact z)) (of_decide_eq_false (vr_b_f h13))
                have fe : w14 ≤ 0 := (vl_I_le (b := 0) (by omega) (by decide)).mp h1
                have ge : f.n ≤ 1 := (vl_I_le (b := 1) (by omega) (by decide)).mp h10
                have a1 : ¬ vx_a1 f (vr_T I L (76800 + f.d)) (vr_T I L (76800 + f.s)) := by unfold vx_a1; rw [hd (), hs ()]; omega
                have a2 : ¬ (f.n = 11 ∧ f.kind = 7 ∧ f.o = 0) := by omega
                have a3 : vx_a3 f (vr_T I L (76800 + f.d)) (vr_T I L (76800 + f.s)) := by unfold vx_a3; rw [hd (), hs ()]; omega
                have e : vx_ar f (vr_T I L (76800 + f.d)) (vr_T I L (76800 + f.s)) = (2, (vr_T I L (76800 + f.d))) := by
                  by_cases c : f.kind = 7 ∧ (f.n = 0 ∨ f.n = 1)
                  · exact (vx_ar3 a1 a2 a3 c).trans (vx_move2 (by rw [hd (), hs ()]; omega) (by rw [hd (), hs ()]; omega))
                  · exact vx_ar4 a1 a2 a3 c
                have g := vq_arE (L := L) (f := f) (c := 2) hd75 oa (by rw [eD, eY]; exact congrArg Prod.fst e) (fun z => absurd z (by decide)) (vr_fr_P W15 (fun _ z => z.elim))
                exact ⟨_, _, by rw [g.1]; rfl, g.2, vr_fr_P W15 (fun _ z => z.elim)⟩
              · refine jv_Wp.lift (fun _ Kz => jv_Ev.steps jv_i287 4 (pc' := 340) (l' := [(6, .int (1 : Int32)), (5, .int (0 : Int32)), (4, .int (0 : Int32)), (3, .int (1 : Int32)), (2, .int (vl_I w14)), (1, .int (0 : Int32)), (0, .ref 196)]) (st' := [.int (0 : Int32)]) rfl Kz) ?_
                refine jv_Wp.lift (fun _ Kz => jv_Ev.br jv_i287 (pc' := 366) (st' := []) rfl (by rfl) Kz) ?_
                refine jv_Wp.lift (fun _ Kz => jv_Ev.steps jv_i287 1 (pc' := 368) (l' := [(6, .int (1 : Int32)), (5, .int (0 : Int32)), (4, .int (0 : Int32)), (3, .int (1 : Int32)), (2, .int (vl_I w14)), (1, .int (0 : Int32)), (0, .ref 196)]) (st' := [.int (1 : Int32)]) rfl Kz) ?_
                refine jv_Wp.lift (fun _ Kz => jv_Ev.br jv_i287 (pc' := 371) (st' := []) rfl (by rfl) Kz) ?_
                refine jv_Wp.lift (fun _ Kz => jv_Ev.steps jv_i287 2 (pc' := 373) (l' := [(6, .int (1 : Int32)), (5, .int (0 : Int32)), (4, .int (0 : Int32)), (3, .int (1 : Int32)), (2, .int (vl_I w14)), (1, .int (0 : Int32)), (0, .ref 196)]) (st' := [.ref 196, .ref 196]) rfl Kz) ?_
                refine jv_Wp.lift (fun _ Kz => jv_Ev.m jv_i287 (pc' := 376) (st' := [.int (vl_I f.s), .ref 196]) (G' := (jv_H K I15 L15 R)) rfl rfl (jv_m_getI (jv_rwK hW 196 12 24 (by decide)) rfl rfl D15.2.2.1) Kz) ?_
                refine jv_Wp.lift (fun _ Kz => jv_Ev.steps jv_i287 1 (pc' := 377) (l' := [(6, .int (1 : Int32)), (5, .int (0 : Int32)), (4, .int (0 : Int32)), (3, .int (1 : Int32)), (2, .int (vl_I w14)), (1, .int (0 : Int32)), (0, .ref 196)]) (st' := [.ref 196, .int (vl_I f.s), .ref 196]) rfl Kz) ?_
                refine jv_Wp.lift (fun _ Kz => jv_Ev.m jv_i287 (pc' := 380) (st' := [.int (vl_I f.d), .int (vl_I f.s), .ref 196]) (G' := (jv_H K I15 L15 R)) rfl rfl (jv_m_getI (jv_rwK hW 196 12 24 (by decide)) rfl rfl D15.2.1) Kz) ?_
                have mn0 : f.n = 0 := (vr_sm (v := 0) (by omega) (by decide) rfl).mp (Classical.not_not.mp h12)
                have td1 : zd = 1 := (hd ()).symm.trans ((vr_is 1 (by decide) okd).mpr (Classical.not_not.mp h2))
                have ts1 : ¬ zs = 1 := fun z => h9 ((vr_is 1 (by decide) oks).mp ((hs ()).trans z))
                have ud : ¬ (zd = 2 ∨ zd = 3 ∨ zd = 4 ∨ zd = 7) := fun z => absurd (vr_mvF (L := L) okd (by rw [hd ()]; exact z)) (of_decide_eq_false (vr_b_f h11))
                have vs : I 205 (76800 + f.s) = 2 ∨ I 205 (76800 + f.s) = 3 ∨ I 205 (76800 + f.s) = 4 ∨ I 205 (76800 + f.s) = 7 := of_decide_eq_true (vr_b_t h13)
                have us : zs = 2 ∨ zs = 3 ∨ zs = 4 ∨ zs = 7 := by have z := vr_mvT (L := L) oks vs; rw [hs ()] at z; exact z
                have fe : w14 ≤ 0 := (vl_I_le (b := 0) (by omega) (by decide)).mp h1
                have ge : f.n ≤ 1 := (vl_I_le (b := 1) (by omega) (by decide)).mp h10
                obtain ⟨I18, L18, H18, T18, F18⟩ := vq_moveR (I := I15) (L := L15) (R := R) (n := n) (sl := sl) f f.s f.d hW Z15 D15 (by omega) (by omega) (by omega) ((vr_fr_ok W15 (fun z => z)).mpr oks) (by rw [vr_fr_T W15 (fun z => z)]; exact tA f.s (by omega)) (by rw [vr_fr_T W15 (fun z => z)]; exact gA f.s (by omega)) (by rw [(vr_fr_i W15 (fun z => z)).1]; exact vs) (by rw [vr_fr_S W15 (fun z => z)]; exact vr_tight okd (tA f.d (by omega)) (by rw [(vr_is 1 (by decide) okd).mp ((hd ()).trans (by omega))]; rfl))
                rw [vr_fr_T W15 (fun z => z), vr_fr_S W15 (fun z => z)] at H18 T18
                refine jv_Wp.lift (fun _ Kz => jv_Ev.c jv_i287 (pc' := 383) (S' := [.int (vl_I (vx_mq f.n (vr_T I L (76800 + f.s)) (vb_toS (vr_S L (8 + (76800 + f.d))))).1)]) (G1 := (jv_H K I18 L18 R)) jv_i286 [.ref 196, .int (vl_I f.s), .int (vl_I f.d)] rfl rfl rfl rfl (jv_cal rfl (jv_H_at (jv_rwK hW 196 12 24 (by decide))) rfl rfl) rfl H18 rfl rfl Kz) ?_
                refine jv_Wp.lift (fun _ Kz => jv_Ev.steps jv_i287 1 (pc' := 387) (l' := [(6, .int (1 : Int32)), (5, .int (0 : Int32)), (4, .int (0 : Int32)), (3, .int (1 : Int32)), (2, .int (vl_I w14)), (1, .int (0 : Int32)), (0, .ref 196)]) (st' := [.int (vl_I (vx_mq f.n (vr_T I L (76800 + f.s)) (vb_toS (vr_S L (8 + (76800 + f.d))))).1)]) rfl Kz) ?_
                refine jv_Wp.of (jv_Ev.ret jv_i287 rfl rfl) ?_
                rw [hQ]
                have mn0 : f.n = 0 := (vr_sm (v := 0) (by omega) (by decide) rfl).mp (Classical.not_not.mp h12)
                have td1 : zd = 1 := (hd ()).symm.trans ((vr_is 1 (by decide) okd).mpr (Classical.not_not.mp h2))
                have ts1 : ¬ zs = 1 := fun z => h9 ((vr_is 1 (by decide) oks).mp ((hs ()).trans z))
                have ud : ¬ (zd = 2 ∨ zd = 3 ∨ zd = 4 ∨ zd = 7) := fun z => absurd (vr_mvF (L := L) okd (by rw [hd ()]; exact z)) (of_decide_eq_false (vr_b_f h11))
                have vs : I 205 (76800 + f.s) = 2 ∨ I 205 (76800 + f.s) = 3 ∨ I 205 (76800 + f.s) = 4 ∨ I 205 (76800 + f.s) = 7 := of_decide_eq_true (vr_b_t h13)
                have us : zs = 2 ∨ zs = 3 ∨ zs = 4 ∨ zs = 7 := by have z := vr_mvT (L := L) oks vs; rw [hs ()] at z; exact z
                have fe : w14 ≤ 0 := (vl_I_le (b := 0) (by omega) (by decide)).mp h1
                have ge : f.n ≤ 1 := (vl_I_le (b := 1) (by omega) (by decide)).mp h10
                have a1 : ¬ vx_a1 f (vr_T I L (76800 + f.d)) (vr_T I L (76800 + f.s)) := by unfold vx_a1; rw [hd (), hs ()]; omega
                have a2 : ¬ (f.n = 11 ∧ f.kind = 7 ∧ f.o = 0) := by omega
                have a3 : vx_a3 f (vr_T I L (76800 + f.d)) (vr_T I L (76800 + f.s)) := by unfold vx_a3; rw [hd (), hs ()]; omega
                have e := vx_ar3 a1 a2 a3 (by omega)
                have e2 := vx_mv_q (n := f.n) (d := (vr_T I L (76800 + f.d))) (b := (vr_T I L (76800 + f.s))) (x := (vr_T I L (76800 + f.d))) (rev := True) ((hd ()).trans (by omega)) (by omega) (by rw [hs ()]; omega)
                rw [← vx_mvA ((hd ()).trans (by omega)), ← e] at e2
                rw [show (vr_T I L (76800 + f.d)).val = (vb_toS (vr_S L (8 + (76800 + f.d)))) from vr_valv (by rw [(vr_is 1 (by decide) okd).mp ((hd ()).trans (by omega))]; rfl)] at e2
                have g := vq_arE (L := L) (f := f) (c := (vx_mq f.n (vr_T I L (76800 + f.s)) (vb_toS (vr_S L (8 + (76800 + f.d))))).1) hd75 oa (by rw [eD, eY]; exact e2.1) (fun z => ⟨by rw [eD, eY]; exact (T18 z).1.trans (e2.2 z).symm, (T18 z).2⟩) (vr_fr_trans (vr_fr_P W15 (fun _ z => z.elim)) F18)
                exact ⟨_, _, by rw [g.1], g.2, vr_fr_trans (vr_fr_P W15 (fun _ z => z.elim)) F18⟩
          · refine jv_Wp.lift (fun _ Kz => jv_Ev.steps jv_i287 1 (pc' := 275) (l' := [(4, .int (0 : Int32)), (3, .int (1 : Int32)), (2, .int (vl_I w14)), (1, .int (0 : Int32)), (0, .ref 196)]) (st' := [.int (1 : Int32)]) rfl Kz) ?_
            refine jv_Wp.lift (fun _ Kz => jv_Ev.br jv_i287 (pc' := 278) (st' := []) rfl (by rfl) Kz) ?_
            refine jv_Wp.lift (fun _ Kz => jv_Ev.steps jv_i287 2 (pc' := 280) (l' := [(4, .int (0 : Int32)), (3, .int (1 : Int32)), (2, .int (vl_I w14)), (1, .int (0 : Int32)), (0, .ref 196)]) (st' := [.ref 196, .ref 196]) rfl Kz) ?_
            refine jv_Wp.lift (fun _ Kz => jv_Ev.m jv_i287 (pc' := 283) (st' := [.int (vl_I f.s), .ref 196]) (G' := (jv_H K I15 L15 R)) rfl rfl (jv_m_getI (jv_rwK hW 196 12 24 (by decide)) rfl rfl D15.2.2.1) Kz) ?_
            refine jv_Wp.lift (fun _ Kz => jv_Ev.c jv_i287 (pc' := 286) (S' := [.int (I 205 (76800 + f.s))]) jv_i271 [.ref 196, .int (vl_I f.s)] rfl rfl rfl rfl (jv_cal rfl (jv_H_at (jv_rwK hW 196 12 24 (by decide))) rfl rfl) rfl (vq_sortOfW W15 f.s hW (by omega)) rfl rfl Kz) ?_
            refine jv_Wp.lift (fun _ Kz => jv_Ev.steps jv_i287 1 (pc' := 287) (l' := [(4, .int (0 : Int32)), (3, .int (1 : Int32)), (2, .int (vl_I w14)), (1, .int (0 : Int32)), (0, .ref 196)]) (st' := [.int (1 : Int32), .int (I 205 (76800 + f.s))]) rfl Kz) ?_
            refine jv_Wp.cnd jv_i287 (pt := 294) (pe := 290) (p := (¬ (I 205 (76800 + f.s)) = (1 : Int32))) (q := (¬ (I 205 (76800 + f.s)) = (1 : Int32))) rfl jv_bc_ne rfl rfl Iff.rfl (fun _ => ?_) (fun hz => absurd h9 hz)
            refine jv_Wp.lift (fun _ Kz => jv_Ev.steps jv_i287 3 (pc' := 298) (l' := [(5, .int (0 : Int32)), (4, .int (0 : Int32)), (3, .int (1 : Int32)), (2, .int (vl_I w14)), (1, .int (0 : Int32)), (0, .ref 196)]) (st' := [.ref 196]) rfl Kz) ?_
            refine jv_Wp.lift (fun _ Kz => jv_Ev.c jv_i287 (pc' := 301) (S' := [.int (vl_I f.n)]) jv_i258 [.ref 196] rfl rfl rfl rfl (jv_cal rfl (jv_H_at (jv_rwK hW 196 12 24 (by decide))) rfl rfl) rfl (vq_n f hW D15) rfl rfl Kz) ?_
            refine jv_Wp.cnd jv_i287 (pt := 335) (pe := 304) (p := (¬ (vl_I f.n) = 0)) (q := (¬ (vl_I f.n) = 0)) rfl jv_bi_ne rfl rfl Iff.rfl (fun h14 => ?_) (fun h14 => ?_)
            · refine jv_Wp.lift (fun _ Kz => jv_Ev.steps jv_i287 3 (pc' := 340) (l' := [(6, .int (0 : Int32)), (5, .int (0 : Int32)), (4, .int (0 : Int32)), (3, .int (1 : Int32)), (2, .int (vl_I w14)), (1, .int (0 : Int32)), (0, .ref 196)]) (st' := [.int (0 : Int32)]) rfl Kz) ?_
              refine jv_Wp.lift (fun _ Kz => jv_Ev.br jv_i287 (pc' := 366) (st' := []) rfl (by rfl) Kz) ?_
              refine jv_Wp.lift (fun _ Kz => jv_Ev.steps jv_i287 1 (pc' := 368) (l' := [(6, .int (0 : Int32)), (5, .int (0 : Int32)), (4, .int (0 : Int32)), (3, .int (1 : Int32)), (2, .int (vl_I w14)), (1, .int (0 : Int32)), (0, .ref 196)]) (st' := [.int (0 : Int32)]) rfl Kz) ?_
              refine jv_Wp.lift (fun _ Kz => jv_Ev.br jv_i287 (pc' := 386) (st' := []) rfl (by rfl) Kz) ?_
              refine jv_Wp.lift (fun _ Kz => jv_Ev.steps jv_i287 1 (pc' := 387) (l' := [(6, .int (0 : Int32)), (5, .int (0 : Int32)), (4, .int (0 : Int32)), (3, .int (1 : Int32)), (2, .int (vl_I w14)), (1, .int (0 : Int32)), (0, .ref 196)]) (st' := [.int (2 : Int32)]) rfl Kz) ?_
              refine jv_Wp.of (jv_Ev.ret jv_i287 rfl rfl) ?_
              rw [hQ]
              have mn0 : ¬ f.n = 0 := (fun z => h14 ((vr_sm (v := 0) (by omega) (by decide) rfl).mpr z))
              have td1 : zd = 1 := (hd ()).symm.trans ((vr_is 1 (by decide) okd).mpr (Classical.not_not.mp h2))
              have ts1 : ¬ zs = 1 := fun z => h9 ((vr_is 1 (by decide) oks).mp ((hs ()).trans z))
              have vd : I 205 (76800 + f.d) = 2 ∨ I 205 (76800 + f.d) = 3 ∨ I 205 (76800 + f.d) = 4 ∨ I 205 (76800 + f.d) = 7 := of_decide_eq_true (vr_b_t h11)
              have ud : zd = 2 ∨ zd = 3 ∨ zd = 4 ∨ zd = 7 := by have z := vr_mvT (L := L) okd vd; rw [hd ()] at z; exact z
              have fe : w14 ≤ 0 := (vl_I_le (b := 0) (by omega) (by decide)).mp h1
              have ge : f.n ≤ 1 := (vl_I_le (b := 1) (by omega) (by decide)).mp h10
              have a1 : ¬ vx_a1 f (vr_T I L (76800 + f.d)) (vr_T I L (76800 + f.s)) := by unfold vx_a1; rw [hd (), hs ()]; omega
              have a2 : ¬ (f.n = 11 ∧ f.kind = 7 ∧ f.o = 0) := by omega
              have a3 : vx_a3 f (vr_T I L (76800 + f.d)) (vr_T I L (76800 + f.s)) := by unfold vx_a3; rw [hd (), hs ()]; omega
              have e : vx_ar f (vr_T I L (76800 + f.d)) (vr_T I L (76800 + f.s)) = (2, (vr_T I L (76800 + f.d))) := by
                by_cases c : f.kind = 7 ∧ (f.n = 0 ∨ f.n = 1)
                · exact (vx_ar3 a1 a2 a3 c).trans (vx_move2 (by rw [hd (), hs ()]; omega) (by rw [hd (), hs ()]; omega))
                · exact vx_ar4 a1 a2 a3 c
              have g := vq_arE (L := L) (f := f) (c := 2) hd75 oa (by rw [eD, eY]; exact congrArg Prod.fst e) (fun z => absurd z (by decide)) (vr_fr_P W15 (fun _ z => z.elim))
              exact ⟨_, _, by rw [g.1]; rfl, g.2, vr_fr_P W15 (fun _ z => z.elim)⟩
            · refine jv_Wp.lift (fun _ Kz => jv_Ev.steps jv_i287 1 (pc' := 305) (l' := [(5, .int (0 : Int32)), (4, .int (0 : Int32)), (3, .int (1 : Int32)), (2, .int (vl_I w14)), (1, .int (0 : Int32)), (0, .ref 196)]) (st' := [.int (1 : Int32)]) rfl Kz) ?_
              refine jv_Wp.lift (fun _ Kz => jv_Ev.br jv_i287 (pc' := 308) (st' := []) rfl (by rfl) Kz) ?_
              refine jv_Wp.lift (fun _ Kz => jv_Ev.steps jv_i287 2 (pc' := 310) (l' := [(5, .int (0 : Int32)), (4, .int (0 : Int32)), (3, .int (1 : Int32)), (2, .int (vl_I w14)), (1, .int (0 : Int32)), (0, .ref 196)]) (st' := [.ref 196, .ref 196]) rfl Kz) ?_
              refine jv_Wp.lift (fun _ Kz => jv_Ev.m jv_i287 (pc' := 313) (st' := [.int (vl_I f.d), .ref 196]) (G' := (jv_H K I15 L15 R)) rfl rfl (jv_m_getI (jv_rwK hW 196 12 24 (by decide)) rfl rfl D15.2.1) Kz) ?_
              refine jv_Wp.lift (fun _ Kz => jv_Ev.c jv_i287 (pc' := 316) (S' := [.int (I 205 (76800 + f.d))]) jv_i271 [.ref 196, .int (vl_I f.d)] rfl rfl rfl rfl (jv_cal rfl (jv_H_at (jv_rwK hW 196 12 24 (by decide))) rfl rfl) rfl (vq_sortOfW W15 f.d hW (by omega)) rfl rfl Kz) ?_
              refine jv_Wp.lift (fun _ Kz => jv_Ev.steps jv_i287 1 (pc' := 317) (l' := [(5, .int (0 : Int32)), (4, .int (0 : Int32)), (3, .int (1 : Int32)), (2, .int (vl_I w14)), (1, .int (0 : Int32)), (0, .ref 196)]) (st' := [.int (1 : Int32), .int (I 205 (76800 + f.d))]) rfl Kz) ?_
              refine jv_Wp.cnd jv_i287 (pt := 335) (pe := 320) (p := (¬ (I 205 (76800 + f.d)) = (1 : Int32))) (q := (¬ (I 205 (76800 + f.d)) = (1 : Int32))) rfl jv_bc_ne rfl rfl Iff.rfl (fun hz => absurd hz (fun z => z (Classical.not_not.mp h2))) (fun _ => ?_)
              refine jv_Wp.lift (fun _ Kz => jv_Ev.steps jv_i287 2 (pc' := 322) (l' := [(5, .int (0 : Int32)), (4, .int (0 : Int32)), (3, .int (1 : Int32)), (2, .int (vl_I w14)), (1, .int (0 : Int32)), (0, .ref 196)]) (st' := [.ref 196, .ref 196]) rfl Kz) ?_
              refine jv_Wp.lift (fun _ Kz => jv_Ev.m jv_i287 (pc' := 325) (st' := [.int (vl_I f.s), .ref 196]) (G' := (jv_H K I15 L15 R)) rfl rfl (jv_m_getI (jv_rwK hW 196 12 24 (by decide)) rfl rfl D15.2.2.1) Kz) ?_
              refine jv_Wp.lift (fun _ Kz => jv_Ev.c jv_i287 (pc' := 328) (S' := [.int (vr_b (vr_mv (I 205 (76800 + f.s))))]) jv_i288 [.ref 196, .int (vl_I f.s)] rfl rfl rfl rfl (jv_cal rfl (jv_H_at (jv_rwK hW 196 12 24 (by decide))) rfl rfl) rfl (vq_isMovableW W15 f.s hW (by omega)) rfl rfl Kz) ?_
              refine jv_Wp.cnd jv_i287 (pt := 335) (pe := 331) (p := ((vr_b (vr_mv (I 205 (76800 + f.s)))) = 0)) (q := ((vr_b (vr_mv (I 205 (76800 + f.s)))) = 0)) rfl jv_bi_eq rfl rfl Iff.rfl (fun h15 => ?_) (fun h15 => ?_)
              · refine jv_Wp.lift (fun _ Kz => jv_Ev.steps jv_i287 3 (pc' := 340) (l' := [(6, .int (0 : Int32)), (5, .int (0 : Int32)), (4, .int (0 : Int32)), (3, .int (1 : Int32)), (2, .int (vl_I w14)), (1, .int (0 : Int32)), (0, .ref 196)]) (st' := [.int (0 : Int32)]) rfl Kz) ?_
                refine jv_Wp.lift (fun _ Kz => jv_Ev.br jv_i287 (pc' := 366) (st' := []) rfl (by rfl) Kz) ?_
                refine jv_Wp.lift (fun _ Kz => jv_Ev.steps jv_i287 1 (pc' := 368) (l' := [(6, .int (0 : Int32)), (5, .int (0 : Int32)), (4, .int (0 : Int32)), (3, .int (1 : Int32)), (2, .int (vl_I w14)), (1, .int (0 : Int32)), (0, .ref 196)]) (st' := [.int (0 : Int32)]) rfl Kz) ?_
                refine jv_Wp.lift (fun _ Kz => jv_Ev.br jv_i287 (pc' := 386) (st' := []) rfl (by rfl) Kz) ?_
                refine jv_Wp.lift (fun _ Kz => jv_Ev.steps jv_i287 1 (pc' := 387) (l' := [(6, .int (0 : Int32)), (5, .int (0 : Int32)), (4, .int (0 : Int32)), (3, .int (1 : Int32)), (2, .int (vl_I w14)), (1, .int (0 : Int32)), (0, .ref 196)]) (st' := [.int (2 : Int32)]) rfl Kz) ?_
                refine jv_Wp.of (jv_Ev.ret jv_i287 rfl rfl) ?_
                rw [hQ]
                have mn0 : f.n = 0 := (vr_sm (v := 0) (by omega) (by decide) rfl).mp (Classical.not_not.mp h14)
                have td1 : zd = 1 := (hd ()).symm.trans ((vr_is 1 (by decide) okd).mpr (Classical.not_not.mp h2))
                have ts1 : ¬ zs = 1 := fun z => h9 ((vr_is 1 (by decide) oks).mp ((hs ()).trans z))
                have vd : I 205 (76800 + f.d) = 2 ∨ I 205 (76800 + f.d) = 3 ∨ I 205 (76800 + f.d) = 4 ∨ I 205 (76800 + f.d) = 7 := of_decide_eq_true (vr_b_t h11)
                have ud : zd = 2 ∨ zd = 3 ∨ zd = 4 ∨ zd = 7 := by have z := vr_mvT (L := L) okd vd; rw [hd ()] at z; exact z
                have us : ¬ (zs = 2 ∨ zs = 3 ∨ zs = 4 ∨ zs = 7) := fun z => absurd (vr_mvF (L := L) oks (by rw [hs ()]; exact z)) (of_decide_eq_false (vr_b_f h15))
                have fe : w14 ≤ 0 := (vl_I_le (b := 0) (by omega) (by decide)).mp h1
                have ge : f.n ≤ 1 := (vl_I_le (b := 1) (by omega) (by decide)).mp h10
                have a1 : ¬ vx_a1 f (vr_T I L (76800 + f.d)) (vr_T I L (76800 + f.s)) := by unfold vx_a1; rw [hd (), hs ()]; omega
                have a2 : ¬ (f.n = 11 ∧ f.kind = 7 ∧ f.o = 0) := by omega
                have a3 : vx_a3 f (vr_T I L (76800 + f.d)) (vr_T I L (76800 + f.s)) := by unfold vx_a3; rw [hd (), hs ()]; omega
                have e : vx_ar f (vr_T I L (76800 + f.d)) (vr_T I L (76800 + f.s)) = (2, (vr_T I L (76800 + f.d))) := by
                  by_cases c : f.kind = 7 ∧ (f.n = 0 ∨ f.n = 1)
                  · exact (vx_ar3 a1 a2 a3 c).trans (vx_move2 (by rw [hd (), hs ()]; omega) (by rw [hd (), hs ()]; omega))
                  · exact vx_ar4 a1 a2 a3 c
                have g := vq_arE (L := L) (f := f) (c := 2) hd75 oa (by rw [eD, eY]; exact congrArg Prod.fst e) (fun z => absurd z (by decide)) (vr_fr_P W15 (fun _ z => z.elim))
                exact ⟨_, _, by rw [g.1]; rfl, g.2, vr_fr_P W15 (fun _ z => z.elim)⟩
              · refine jv_Wp.lift (fun _ Kz => jv_Ev.steps jv_i287 4 (pc' := 340) (l' := [(6, .int (1 : Int32)), (5, .int (0 : Int32)), (4, .int (0 : Int32)), (3, .int (1 : Int32)), (2, .int (vl_I w14)), (1, .int (0 : Int32)), (0, .ref 196)]) (st' := [.int (0 : Int32)]) rfl Kz) ?_
                refine jv_Wp.lift (fun _ Kz => jv_Ev.br jv_i287 (pc' := 366) (st' := []) rfl (by rfl) Kz) ?_
                refine jv_Wp.lift (fun _ Kz => jv_Ev.steps jv_i287 1 (pc' := 368) (l' := [(6, .int (1 : Int32)), (5, .int (0 : Int32)), (4, .int (0 : Int32)), (3, .int (1 : Int32)), (2, .int (vl_I w14)), (1, .int (0 : Int32)), (0, .ref 196)]) (st' := [.int (1 : Int32)]) rfl Kz) ?_
                refine jv_Wp.lift (fun _ Kz => jv_Ev.br jv_i287 (pc' := 371) (st' := []) rfl (by rfl) Kz) ?_
                refine jv_Wp.lift (fun _ Kz => jv_Ev.steps jv_i287 2 (pc' := 373) (l' := [(6, .int (1 : Int32)), (5, .int (0 : Int32)), (4, .int (0 : Int32)), (3, .int (1 : Int32)), (2, .int (vl_I w14)), (1, .int (0 : Int32)), (0, .ref 196)]) (st' := [.ref 196, .ref 196]) rfl Kz) ?_
                refine jv_Wp.lift (fun _ Kz => jv_Ev.m jv_i287 (pc' := 376) (st' := [.int (vl_I f.s), .ref 196]) (G' := (jv_H K I15 L15 R)) rfl rfl (jv_m_getI (jv_rwK hW 196 12 24 (by decide)) rfl rfl D15.2.2.1) Kz) ?_
                refine jv_Wp.lift (fun _ Kz => jv_Ev.steps jv_i287 1 (pc' := 377) (l' := [(6, .int (1 : Int32)), (5, .int (0 : Int32)), (4, .int (0 : Int32)), (3, .int (1 : Int32)), (2, .int (vl_I w14)), (1, .int (0 : Int32)), (0, .ref 196)]) (st' := [.ref 196, .int (vl_I f.s), .ref 196]) rfl Kz) ?_
                refine jv_Wp.lift (fun _ Kz => jv_Ev.m jv_i287 (pc' := 380) (st' := [.int (vl_I f.d), .int (vl_I f.s), .ref 196]) (G' := (jv_H K I15 L15 R)) rfl rfl (jv_m_getI (jv_rwK hW 196 12 24 (by decide)) rfl rfl D15.2.1) Kz) ?_
                have mn0 : f.n = 0 := (vr_sm (v := 0) (by omega) (by decide) rfl).mp (Classical.not_not.mp h14)
                have td1 : zd = 1 := (hd ()).symm.trans ((vr_is 1 (by decide) okd).mpr (Classical.not_not.mp h2))
                have ts1 : ¬ zs = 1 := fun z => h9 ((vr_is 1 (by decide) oks).mp ((hs ()).trans z))
                have vd : I 205 (76800 + f.d) = 2 ∨ I 205 (76800 + f.d) = 3 ∨ I 205 (76800 + f.d) = 4 ∨ I 205 (76800 + f.d) = 7 := of_decide_eq_true (vr_b_t h11)
                have ud : zd = 2 ∨ zd = 3 ∨ zd = 4 ∨ zd = 7 := by have z := vr_mvT (L := L) okd vd; rw [hd ()] at z; exact z
                have vs : I 205 (76800 + f.s) = 2 ∨ I 205 (76800 + f.s) = 3 ∨ I 205 (76800 + f.s) = 4 ∨ I 205 (76800 + f.s) = 7 := of_decide_eq_true (vr_b_t h15)
                have us : zs = 2 ∨ zs = 3 ∨ zs = 4 ∨ zs = 7 := by have z := vr_mvT (L := L) oks vs; rw [hs ()] at z; exact z
                have fe : w14 ≤ 0 := (vl_I_le (b := 0) (by omega) (by decide)).mp h1
                have ge : f.n ≤ 1 := (vl_I_le (b := 1) (by omega) (by decide)).mp h10
                obtain ⟨I19, L19, H19, T19, F19⟩ := vq_moveR (I := I15) (L := L15) (R := R) (n := n) (sl := sl) f f.s f.d hW Z15 D15 (by omega) (by omega) (by omega) ((vr_fr_ok W15 (fun z => z)).mpr oks) (by rw [vr_fr_T W15 (fun z => z)]; exact tA f.s (by omega)) (by rw [vr_fr_T W15 (fun z => z)]; exact gA f.s (by omega)) (by rw [(vr_fr_i W15 (fun z => z)).1]; exact vs) (by rw [vr_fr_S W15 (fun z => z)]; exact vr_tight okd (tA f.d (by omega)) (by rw [(vr_is 1 (by decide) okd).mp ((hd ()).trans (by omega))]; rfl))
                rw [vr_fr_T W15 (fun z => z), vr_fr_S W15 (fun z => z)] at H19 T19
                refine jv_Wp.lift (fun _ Kz => jv_Ev.c jv_i287 (pc' := 383) (S' := [.int (vl_I (vx_mq f.n (vr_T I L (76800 + f.s)) (vb_toS (vr_S L (8 + (76800 + f.d))))).1)]) (G1 := (jv_H K I19 L19 R)) jv_i286 [.ref 196, .int (vl_I f.s), .int (vl_I f.d)] rfl rfl rfl rfl (jv_cal rfl (jv_H_at (jv_rwK hW 196 12 24 (by decide))) rfl rfl) rfl H19 rfl rfl Kz) ?_
                refine jv_Wp.lift (fun _ Kz => jv_Ev.steps jv_i287 1 (pc' := 387) (l' := [(6, .int (1 : Int32)), (5, .int (0 : Int32)), (4, .int (0 : Int32)), (3, .int (1 : Int32)), (2, .int (vl_I w14)), (1, .int (0 : Int32)), (0, .ref 196)]) (st' := [.int (vl_I (vx_mq f.n (vr_T I L (76800 + f.s)) (vb_toS (vr_S L (8 + (76800 + f.d))))).1)]) rfl Kz) ?_
                refine jv_Wp.of (jv_Ev.ret jv_i287 rfl rfl) ?_
                rw [hQ]
                have mn0 : f.n = 0 := (vr_sm (v := 0) (by omega) (by decide) rfl).mp (Classical.not_not.mp h14)
                have td1 : zd = 1 := (hd ()).symm.trans ((vr_is 1 (by decide) okd).mpr (Classical.not_not.mp h2))
                have ts1 : ¬ zs = 1 := fun z => h9 ((vr_is 1 (by decide) oks).mp ((hs ()).trans z))
                have vd : I 205 (76800 + f.d) = 2 ∨ I 205 (76800 + f.d) = 3 ∨ I 205 (76800 + f.d) = 4 ∨ I 205 (76800 + f.d) = 7 := of_decide_eq_true (vr_b_t h11)
                have ud : zd = 2 ∨ zd = 3 ∨ zd = 4 ∨ zd = 7 := by have z := vr_mvT (L := L) okd vd; rw [hd ()] at z; exact z
                have vs : I 205 (76800 + f.s) = 2 ∨ I 205 (76800 + f.s) = 3 ∨ I 205 (76800 + f.s) = 4 ∨ I 205 (76800 + f.s) = 7 := of_decide_eq_true (vr_b_t h15)
                have us : zs = 2 ∨ zs = 3 ∨ zs = 4 ∨ zs = 7 := by have z := vr_mvT (L := L) oks vs; rw [hs ()] at z; exact z
                have fe : w14 ≤ 0 := (vl_I_le (b := 0) (by omega) (by decide)).mp h1
                have ge : f.n ≤ 1 := (vl_I_le (b := 1) (by omega) (by decide)).mp h10
                have a1 : ¬ vx_a1 f (vr_T I L (76800 + f.d)) (vr_T I L (76800 + f.s)) := by unfold vx_a1; rw [hd (), hs ()]; omega
                have a2 : ¬ (f.n = 11 ∧ f.kind = 7 ∧ f.o = 0) := by omega
                have a3 : vx_a3 f (vr_T I L (76800 + f.d)) (vr_T I L (76800 + f.s)) := by unfold vx_a3; rw [hd (), hs ()]; omega
                have e := vx_ar3 a1 a2 a3 (by omega)
                have e2 := vx_mv_q (n := f.n) (d := (vr_T I L (76800 + f.d))) (b := (vr_T I L (76800 + f.s))) (x := (vr_T I L (76800 + f.d))) (rev := True) ((hd ()).trans (by omega)) (by omega) (by rw [hs ()]; omega)
                rw [← vx_mvA ((hd ()).trans (by omega)), ← e] at e2
                rw [show (vr_T I L (76800 + f.d)).val = (vb_toS (vr_S L (8 + (76800 + f.d)))) from vr_valv (by rw [(vr_is 1 (by decide) okd).mp ((hd ()).trans (by omega))]; rfl)] at e2
                have g := vq_arE (L := L) (f := f) (c := (vx_mq f.n (vr_T I L (76800 + f.s)) (vb_toS (vr_S L (8 + (76800 + f.d))))).1) hd75 oa (by rw [eD, eY]; exact e2.1) (fun z => ⟨by rw [eD, eY]; exact (T19 z).1.trans (e2.2 z).symm, (T19 z).2⟩) (vr_fr_trans (vr_fr_P W15 (fun _ z => z.elim)) F19)
                exact ⟨_, _, by rw [g.1], g.2, vr_fr_trans (vr_fr_P W15 (fun _ z => z.elim)) F19⟩
        · refine jv_Wp.lift (fun _ Kz => jv_Ev.steps jv_i287 1 (pc' := 262) (l' := [(4, .int (0 : Int32)), (3, .int (1 : Int32)), (2, .int (vl_I w14)), (1, .int (0 : Int32)), (0, .ref 196)]) (st' := [.int (2 : Int32)]) rfl Kz) ?_
          refine jv_Wp.of (jv_Ev.ret jv_i287 rfl rfl) ?_
          rw [hQ]
          have td1 : zd = 1 := (hd ()).symm.trans ((vr_is 1 (by decide) okd).mpr (Classical.not_not.mp h2))
          have ts1 : ¬ zs = 1 := fun z => h9 ((vr_is 1 (by decide) oks).mp ((hs ()).trans z))
          have fe : w14 ≤ 0 := (vl_I_le (b := 0) (by omega) (by decide)).mp h1
          have ge : ¬ f.n ≤ 1 := fun z => h10 ((vl_I_le (b := 1) (by omega) (by decide)).mpr z)
          have a1 : ¬ vx_a1 f (vr_T I L (76800 + f.d)) (vr_T I L (76800 + f.s)) := by unfold vx_a1; rw [hd (), hs ()]; omega
          have a2 : ¬ (f.n = 11 ∧ f.kind = 7 ∧ f.o = 0) := by omega
          have a3 : vx_a3 f (vr_T I L (76800 + f.d)) (vr_T I L (76800 + f.s)) := by unfold vx_a3; rw [hd (), hs ()]; omega
          have e : vx_ar f (vr_T I L (76800 + f.d)) (vr_T I L (76800 + f.s)) = (2, (vr_T I L (76800 + f.d))) := by
            by_cases c : f.kind = 7 ∧ (f.n = 0 ∨ f.n = 1)
            · exact (vx_ar3 a1 a2 a3 c).trans (vx_move2 (by rw [hd (), hs ()]; omega) (by rw [hd (), hs ()]; omega))
            · exact vx_ar4 a1 a2 a3 c
          have g := vq_arE (L := L) (f := f) (c := 2) hd75 oa (by rw [eD, eY]; exact congrArg Prod.fst e) (fun z => absurd z (by decide)) (vr_fr_P W15 (fun _ z => z.elim))
          exact ⟨_, _, by rw [g.1]; rfl, g.2, vr_fr_P W15 (fun _ z => z.elim)⟩
      · refine jv_Wp.lift (fun _ Kz => jv_Ev.steps jv_i287 4 (pc' := 208) (l' := [(4, .int (1 : Int32)), (3, .int (1 : Int32)), (2, .int (vl_I w14)), (1, .int (0 : Int32)), (0, .ref 196)]) (st' := [.int (1 : Int32)]) rfl Kz) ?_
        refine jv_Wp.lift (fun _ Kz => jv_Ev.br jv_i287 (pc' := 211) (st' := []) rfl (by rfl) Kz) ?_
        refine jv_Wp.lift (fun _ Kz => jv_Ev.steps jv_i287 3 (pc' := 216) (l' := [(4, .int (1 : Int32)), (3, .int (1 : Int32)), (2, .int (vl_I w14)), (1, .int (0 : Int32)), (0, .ref 196)]) (st' := [.ref 196, .int (1024 : Int32), .ref 196]) rfl Kz) ?_
        refine jv_Wp.lift (fun _ Kz => jv_Ev.m jv_i287 (pc' := 219) (st' := [.int (vl_I f.d), .int (1024 : Int32), .ref 196]) (G' := (jv_H K I15 L15 R)) rfl rfl (jv_m_getI (jv_rwK hW 196 12 24 (by decide)) rfl rfl D15.2.1) Kz) ?_
        refine jv_Wp.lift (fun _ Kz => jv_Ev.c jv_i287 (pc' := 222) (S' := [.int (vl_I (8 + (76800 + f.d))), .ref 196]) jv_i254 [.int (1024 : Int32), .int (vl_I f.d)] rfl rfl rfl rfl rfl rfl (vq_row 1024 f.d) rfl rfl Kz) ?_
        refine jv_Wp.lift (fun _ Kz => jv_Ev.steps jv_i287 1 (pc' := 223) (l' := [(4, .int (1 : Int32)), (3, .int (1 : Int32)), (2, .int (vl_I w14)), (1, .int (0 : Int32)), (0, .ref 196)]) (st' := [.int (1 : Int32), .int (vl_I (8 + (76800 + f.d))), .ref 196]) rfl Kz) ?_
        refine jv_Wp.lift (fun _ Kz => jv_Ev.br jv_i287 (pc' := 226) (st' := [.int (vl_I (8 + (76800 + f.d))), .ref 196]) rfl (by rfl) Kz) ?_
        refine jv_Wp.lift (fun _ Kz => jv_Ev.steps jv_i287 2 (pc' := 230) (l' := [(4, .int (1 : Int32)), (3, .int (1 : Int32)), (2, .int (vl_I w14)), (1, .int (0 : Int32)), (0, .ref 196)]) (st' := [.ref 196, .int (1024 : Int32), .int (vl_I (8 + (76800 + f.d))), .ref 196]) rfl Kz) ?_
        refine jv_Wp.lift (fun _ Kz => jv_Ev.m jv_i287 (pc' := 233) (st' := [.int (vl_I f.s), .int (1024 : Int32), .int (vl_I (8 + (76800 + f.d))), .ref 196]) (G' := (jv_H K I15 L15 R)) rfl rfl (jv_m_getI (jv_rwK hW 196 12 24 (by decide)) rfl rfl D15.2.2.1) Kz) ?_
        refine jv_Wp.lift (fun _ Kz => jv_Ev.c jv_i287 (pc' := 236) (S' := [.int (vl_I (8 + (76800 + f.s))), .int (vl_I (8 + (76800 + f.d))), .ref 196]) jv_i254 [.int (1024 : Int32), .int (vl_I f.s)] rfl rfl rfl rfl rfl rfl (vq_row 1024 f.s) rfl rfl Kz) ?_
        refine jv_Wp.lift (fun _ Kz => jv_Ev.steps jv_i287 1 (pc' := 240) (l' := [(4, .int (1 : Int32)), (3, .int (1 : Int32)), (2, .int (vl_I w14)), (1, .int (0 : Int32)), (0, .ref 196)]) (st' := [.int (vl_I (8 + (76800 + f.s))), .int (vl_I (8 + (76800 + f.d))), .ref 196]) rfl Kz) ?_
        have td1 : zd = 1 := (hd ()).symm.trans ((vr_is 1 (by decide) okd).mpr (Classical.not_not.mp h2))
        have ts1 : zs = 1 := (hs ()).symm.trans ((vr_is 1 (by decide) oks).mpr (Classical.not_not.mp h9))
        have fe : w14 ≤ 0 := (vl_I_le (b := 0) (by omega) (by decide)).mp h1
        obtain ⟨I20, L20, H20, T20, O20, F20⟩ := vq_reckonB (I := I15) (L := L15) (R := R) (n := n) (sl := sl) f (8 + (76800 + f.d)) (8 + (76800 + f.s)) hW Z15 D15 hfa (by omega) (by omega) (by omega) (by omega) (by omega) ((congrArg vb_toS (vr_fr_6 W15)).trans hZ6) (fun _ => by rw [vr_fr_S W15 (fun z => z)]; exact vr_tight okd (tA f.d (by omega)) (by rw [(vr_is 1 (by decide) okd).mp ((hd ()).trans (by omega))]; rfl)) (fun _ _ => (by rw [vr_fr_S W15 (fun z => z)]; exact vr_tight oks (tA f.s (by omega)) (by rw [(vr_is 1 (by decide) oks).mp ((hs ()).trans (by omega))]; rfl))) (by omega)
        refine jv_Wp.lift (fun _ Kz => jv_Ev.c jv_i287 (pc' := 243) (S' := []) (G1 := (jv_H K I20 L20 R)) jv_i285 [.ref 196, .int (vl_I (8 + (76800 + f.d))), .int (vl_I (8 + (76800 + f.s)))] rfl rfl rfl rfl (jv_cal rfl (jv_H_at (jv_rwK hW 196 12 24 (by decide))) rfl rfl) rfl H20 rfl rfl Kz) ?_
        refine jv_Wp.lift (fun _ Kz => jv_Ev.steps jv_i287 1 (pc' := 244) (l' := [(4, .int (1 : Int32)), (3, .int (1 : Int32)), (2, .int (vl_I w14)), (1, .int (0 : Int32)), (0, .ref 196)]) (st' := [.int (0 : Int32)]) rfl Kz) ?_
        refine jv_Wp.of (jv_Ev.ret jv_i287 rfl rfl) ?_
        rw [hQ]
        have td1 : zd = 1 := (hd ()).symm.trans ((vr_is 1 (by decide) okd).mpr (Classical.not_not.mp h2))
        have ts1 : zs = 1 := (hs ()).symm.trans ((vr_is 1 (by decide) oks).mpr (Classical.not_not.mp h9))
        have fe : w14 ≤ 0 := (vl_I_le (b := 0) (by omega) (by decide)).mp h1
        have a1 : ¬ vx_a1 f (vr_T I L (76800 + f.d)) (vr_T I L (76800 + f.s)) := by unfold vx_a1; rw [hd (), hs ()]; omega
        have a2 : ¬ (f.n = 11 ∧ f.kind = 7 ∧ f.o = 0) := by omega
        have a3 : ¬ vx_a3 f (vr_T I L (76800 + f.d)) (vr_T I L (76800 + f.s)) := by unfold vx_a3; rw [hd (), hs ()]; omega
        have e := vx_ar5 a1 a2 a3
        have ev : vx_reckon f (vb_toS (vr_S L15 (8 + (76800 + f.d)))) (vb_toS (vr_S L15 (8 + (76800 + f.s)))) = vx_reckon f (vr_T I L (76800 + f.d)).val (vr_T I L (76800 + f.s)).val := by
          rw [vr_fr_S W15 (fun z => z), vr_fr_S W15 (fun z => z), show (vr_T I L (76800 + f.s)).val = (vb_toS (vr_S L (8 + (76800 + f.s)))) from vr_valv (by rw [(vr_is 1 (by decide) oks).mp ((hs ()).trans (by omega))]; rfl)]
          rw [show (vr_T I L (76800 + f.d)).val = (vb_toS (vr_S L (8 + (76800 + f.d)))) from vr_valv (by rw [(vr_is 1 (by decide) okd).mp ((hd ()).trans (by omega))]; rfl)]
        have g := vq_arE (L := L) (f := f) (c := 0) hd75 oa (by rw [eD, eY]; exact congrArg Prod.fst e) (fun _ => ⟨by rw [eD, eY, e, T20, ev], O20⟩) (vr_fr_trans (vr_fr_P W15 (fun _ z => z.elim)) F20)
        exact ⟨_, _, by rw [g.1]; rfl, g.2, vr_fr_trans (vr_fr_P W15 (fun _ z => z.elim)) F20⟩
  · refine jv_Wp.lift (fun _ Kz => jv_Ev.steps jv_i287 1 (pc' := 68) (l' := [(2, .int (vl_I w14)), (1, .int (0 : Int32)), (0, .ref 196)]) (st' := [.int (vl_I w14)]) rfl Kz) ?_
    refine jv_Wp.of (jv_Ev.ret jv_i287 rfl rfl) ?_
    rw [hQ]
    have fe : ¬ w14 ≤ 0 := fun z => h1 ((vl_I_le (b := 0) (by omega) (by decide)).mpr z)
    have a1 : vx_a1 f (vr_T I L (76800 + f.d)) (vr_T I L (76800 + f.s)) := by unfold vx_a1; rw [hd (), hs ()]; omega
    have c1 : w14 = 1 := by omega
    have e := vx_ar1 a1
    have g := vq_arE (L := L) (f := f) (c := 1) hd75 oa (by rw [eD, eY]; exact congrArg Prod.fst e) (fun z => absurd z (by decide)) (vr_fr_refl hf)
    exact ⟨_, _, by rw [g.1]; rw [c1], g.2, vr_fr_refl hf⟩
set_option maxRecDepth 8000 in
theorem vq_arithI0k7 {K : Nat → Option (Nat × Nat)} {I : Nat → Nat → Int32} {L : Nat → Nat → Int64} {R : Nat → Nat → Value} (f : vf_F) (hW : jv_rW K R) (hf : vr_fl I) (D : vr_dec I f) (hfa : vf_ar f) (hk47 : f.kind = 4 ∨ f.kind = 7) (hd11 : f.d < 11) (hs11 : f.s < 11) (oa : vr_okA I 1024) (tA : ∀ n, n < 75 → vt_ok (vr_T I L (76800 + n))) (gA : ∀ n, n < 75 → vt_g (vr_T I L (76800 + n))) (hZ6 : vb_toS (vr_S L 6) = vb_just 0) (hb : f.bit3 = false) (hN11 : f.n ≠ 11) (hN13 : f.n ≠ 13) (hK : f.kind = 7) {n sl : Nat} : ∃ I1 L1, jv_Ms 287 [.ref 196] (jv_H K I L R) n sl (some (.int (vl_I (vx_arith f (vr_A I L 1024)).1)), jv_H K I1 L1 R, n, sl) ∧ ((vx_arith f (vr_A I L 1024)).1 = 0 → vr_A I1 L1 1024 = (vx_arith f (vr_A I L 1024)).2 ∧ vr_okA I1 1024) ∧ vr_fr (fun x => x = 76800 + f.d) noE I L I1 L1 := by
  obtain ⟨Q, hQ⟩ : ∃ Q : jv_R → Prop, Q = fun X => ∃ I1 L1, X = (some (.int (vl_I (vx_arith f (vr_A I L 1024)).1)), jv_H K I1 L1 R, n, sl) ∧ ((vx_arith f (vr_A I L 1024)).1 = 0 → vr_A I1 L1 1024 = (vx_arith f (vr_A I L 1024)).2 ∧ vr_okA I1 1024) ∧ vr_fr (fun x => x = 76800 + f.d) noE I L I1 L1 := ⟨_, rfl⟩
  suffices h : jv_Wp 287 0 [(0, .ref 196)] [] (jv_H K I L R) n sl Q by
    rw [hQ] at h
    obtain ⟨X, h, I1, L1, e, h'⟩ := h
    subst e
    exact ⟨I1, L1, h, h'⟩
  have hn16 := vr_dn D
  have hk8 := vr_dk D
  have hd75 : f.d < 75 := by omega
  have hs75 : f.s < 75 := by omega
  have okd : vr_ok I (76800 + f.d) f.d := oa f.d hd75
  have oks : vr_ok I (76800 + f.s) f.s := oa f.s hs75
  obtain ⟨zd, hd⟩ : ∃ x : Nat, ∀ _ : Unit, (vr_T I L (76800 + f.d)).sort = x := ⟨_, fun _ => rfl⟩
  obtain ⟨zs, hs⟩ : ∃ x : Nat, ∀ _ : Unit, (vt_num (vx_just f.i)).sort = x := ⟨_, fun _ => rfl⟩
  obtain ⟨rd, hrd⟩ : ∃ x : Nat, ∀ _ : Unit, vr_rd (I 205 (76800 + f.d)) = x := ⟨_, fun _ => rfl⟩
  obtain ⟨rs, hrs⟩ : ∃ x : Nat, ∀ _ : Unit, vr_rd (I 205 (76800 + f.s)) = x := ⟨_, fun _ => rfl⟩
  have rdd : (zd = 0 → rd = 1) ∧ (zd ≠ 0 → rd = 0) := by rw [← hd (), ← hrd ()]; exact vr_rd_f okd hd11
  have W : vr_fr noP noE I L I L := vr_fr_refl hf
  have q0 := hfa.1
  have q8 := hfa.2.1
  have q11 := hfa.2.2.2.1
  have eD : (vr_A I L 1024).1 f.d = (vr_T I L (76800 + f.d)) := vr_A1 hd75
  have eY : vx_y f (vr_A I L 1024) = (vt_num (vx_just f.i)) := (if_neg (by rw [hb]; decide))
  have ys : zs = 1 := (hs ()).symm
  refine jv_Wp.lift (fun _ Kz => jv_Ev.steps jv_i287 1 (pc' := 1) (l' := [(0, .ref 196)]) (st' := [.ref 196]) rfl Kz) ?_
  refine jv_Wp.lift (fun _ Kz => jv_Ev.c jv_i287 (pc' := 4) (S' := [.int (vl_I f.n)]) jv_i258 [.ref 196] rfl rfl rfl rfl (jv_cal rfl (jv_H_at (jv_rwK hW 196 12 24 (by decide))) rfl rfl) rfl (vq_n f hW D) rfl rfl Kz) ?_
  refine jv_Wp.lift (fun _ Kz => jv_Ev.steps jv_i287 1 (pc' := 6) (l' := [(0, .ref 196)]) (st' := [.int (11 : Int32), .int (vl_I f.n)]) rfl Kz) ?_
  refine jv_Wp.cnd jv_i287 (pt := 13) (pe := 9) (p := (¬ (vl_I f.n) = (11 : Int32))) (q := (¬ (vl_I f.n) = (11 : Int32))) rfl jv_bc_ne rfl rfl Iff.rfl (fun _ => ?_) (fun hz => absurd (fun z => by have y := (vr_sm (v := 11) (by omega) (by decide) rfl).mp z; omega) hz)
  refine jv_Wp.lift (fun _ Kz => jv_Ev.steps jv_i287 3 (pc' := 16) (l' := [(1, .int (0 : Int32)), (0, .ref 196)]) (st' := [.int (0 : Int32)]) rfl Kz) ?_
  refine jv_Wp.lift (fun _ Kz => jv_Ev.br jv_i287 (pc' := 23) (st' := []) rfl (by rfl) Kz) ?_
  refine jv_Wp.lift (fun _ Kz => jv_Ev.steps jv_i287 2 (pc' := 25) (l' := [(1, .int (0 : Int32)), (0, .ref 196)]) (st' := [.ref 196, .ref 196]) rfl Kz) ?_
  refine jv_Wp.lift (fun _ Kz => jv_Ev.m jv_i287 (pc' := 28) (st' := [.int (vl_I f.d), .ref 196]) (G' := (jv_H K I L R)) rfl rfl (jv_m_getI (jv_rwK hW 196 12 24 (by decide)) rfl rfl D.2.1) Kz) ?_
  have Hr21 := vq_readsW (n := n) (sl := sl) W f.d hW (by omega)
  rw [hrd ()] at Hr21
  refine jv_Wp.lift (fun _ Kz => jv_Ev.c jv_i287 (pc' := 31) (S' := [.int (vl_I rd)]) jv_i283 [.ref 196, .int (vl_I f.d)] rfl rfl rfl rfl (jv_cal rfl (jv_H_at (jv_rwK hW 196 12 24 (by decide))) rfl rfl) rfl Hr21 rfl rfl Kz) ?_
  refine jv_Wp.lift (fun _ Kz => jv_Ev.steps jv_i287 1 (pc' := 32) (l' := [(1, .int (0 : Int32)), (0, .ref 196)]) (st' := [.ref 196, .int (vl_I rd)]) rfl Kz) ?_
  refine jv_Wp.lift (fun _ Kz => jv_Ev.c jv_i287 (pc' := 35) (S' := [.int (vr_b f.bit3), .int (vl_I rd)]) jv_i259 [.ref 196] rfl rfl rfl rfl (jv_cal rfl (jv_H_at (jv_rwK hW 196 12 24 (by decide))) rfl rfl) rfl (vq_bit3 f hW D) rfl rfl Kz) ?_
  refine jv_Wp.cnd jv_i287 (pt := 58) (pe := 38) (p := ((vr_b f.bit3) = 0)) (q := ((vr_b f.bit3) = 0)) rfl jv_bi_eq rfl rfl Iff.rfl (fun _ => ?_) (fun hz => absurd (by rw [hb]; rfl) hz)
  refine jv_Wp.lift (fun _ Kz => jv_Ev.steps jv_i287 1 (pc' := 59) (l' := [(1, .int (0 : Int32)), (0, .ref 196)]) (st' := [.int (0 : Int32), .int (vl_I rd)]) rfl Kz) ?_
  obtain ⟨w22, hq22⟩ : ∃ x : Nat, ∀ _ : Unit, vx_fst rd 0 = x := ⟨_, fun _ => rfl⟩
  have fq : (rd = 0 → w22 = 0) ∧ (0 = 0 → w22 = rd) ∧ (w22 = rd ∨ w22 = 0) := by rw [← hq22 ()]; exact vx_fst_f rd 0
  have Hf22 := vq_first (I := I) (L := L) (K := K) (R := R) (n := n) (sl := sl) rd 0 (by omega) (by omega)
  rw [hq22 ()] at Hf22
  refine jv_Wp.lift (fun _ Kz => jv_Ev.c jv_i287 (pc' := 62) (S' := [.int (vl_I w22)]) jv_i282 [.int (vl_I rd), .int (0 : Int32)] rfl rfl rfl rfl rfl rfl Hf22 rfl rfl Kz) ?_
  refine jv_Wp.lift (fun _ Kz => jv_Ev.steps jv_i287 2 (pc' := 64) (l' := [(2, .int (vl_I w22)), (1, .int (0 : Int32)), (0, .ref 196)]) (st' := [.int (vl_I w22)]) rfl Kz) ?_
  refine jv_Wp.cnd jv_i287 (pt := 69) (pe := 67) (p := ((vl_I w22) ≤ 0)) (q := ((vl_I w22) ≤ 0)) rfl jv_bi_le rfl rfl Iff.rfl (fun h1 => ?_) (fun h1 => ?_)
  · refine jv_Wp.lift (fun _ Kz => jv_Ev.steps jv_i287 1 (pc' := 70) (l' := [(2, .int (vl_I w22)), (1, .int (0 : Int32)), (0, .ref 196)]) (st' := [.ref 196]) rfl Kz) ?_
    refine jv_Wp.lift (fun _ Kz => jv_Ev.c jv_i287 (pc' := 73) (S' := [.int (vr_b f.bit3)]) jv_i259 [.ref 196] rfl rfl rfl rfl (jv_cal rfl (jv_H_at (jv_rwK hW 196 12 24 (by decide))) rfl rfl) rfl (vq_bit3 f hW D) rfl rfl Kz) ?_
    refine jv_Wp.cnd jv_i287 (pt := 89) (pe := 76) (p := ((vr_b f.bit3) = 0)) (q := ((vr_b f.bit3) = 0)) rfl jv_bi_eq rfl rfl Iff.rfl (fun _ => ?_) (fun hz => absurd (by rw [hb]; rfl) hz)
    refine jv_Wp.lift (fun _ Kz => jv_Ev.steps jv_i287 3 (pc' := 92) (l' := [(3, .int (0 : Int32)), (2, .int (vl_I w22)), (1, .int (0 : Int32)), (0, .ref 196)]) (st' := [.int (0 : Int32)]) rfl Kz) ?_
    refine jv_Wp.lift (fun _ Kz => jv_Ev.br jv_i287 (pc' := 135) (st' := []) rfl (by rfl) Kz) ?_
    refine jv_Wp.lift (fun _ Kz => jv_Ev.steps jv_i287 1 (pc' := 136) (l' := [(3, .int (0 : Int32)), (2, .int (vl_I w22)), (1, .int (0 : Int32)), (0, .ref 196)]) (st' := [.ref 196]) rfl Kz) ?_
    refine jv_Wp.lift (fun _ Kz => jv_Ev.m jv_i287 (pc' := 139) (st' := [.ref 208]) (G' := (jv_H K I L R)) rfl rfl (jv_m_getR (jv_rwK hW 196 12 24 (by decide)) rfl rfl (jv_rwR hW 196 16 208 (by decide))) Kz) ?_
    refine jv_Wp.lift (fun _ Kz => jv_Ev.steps jv_i287 2 (pc' := 141) (l' := [(3, .int (0 : Int32)), (2, .int (vl_I w22)), (1, .int (0 : Int32)), (0, .ref 196)]) (st' := [.ref 196, .int (5 : Int32), .ref 208]) rfl Kz) ?_
    refine jv_Wp.lift (fun _ Kz => jv_Ev.m jv_i287 (pc' := 144) (st' := [.int (Int32.ofInt f.i), .int (5 : Int32), .ref 208]) (G' := (jv_H K I L R)) rfl rfl (jv_m_getI (jv_rwK hW 196 12 24 (by decide)) rfl rfl (vr_dJ D)) Kz) ?_
    refine jv_Wp.lift (fun _ Kz => jv_Ev.steps jv_i287 1 (pc' := 145) (l' := [(3, .int (0 : Int32)), (2, .int (vl_I w22)), (1, .int (0 : Int32)), (0, .ref 196)]) (st' := [.long (Int32.ofInt f.i).toInt64, .int (5 : Int32), .ref 208]) rfl Kz) ?_
    obtain ⟨I23, L23, H23, S23, F23⟩ := vq_single (I := I) (L := L) (R := R) (n := n) (sl := sl) (d := 5) (Int32.ofInt f.i).toInt64 hW (by decide) hf
    have Z23 := F23.1
    have D23 := vr_dec_rf F23 D
    have W23 : vr_fr noP noE I L I23 L23 := vr_fr_trans W (vq_rf_fr F23 (by decide))
    have Y23 : vb_toS (vr_S L23 5) = vx_just f.i := by rw [S23, vb_toS_just]; exact vx_just_32 _ _ (vr_dQ D)
    have Yt23 : vb_tight (vb_toS (vr_S L23 5)) := by rw [Y23]; exact vb_just_tight _
    refine jv_Wp.lift (fun _ Kz => jv_Ev.c jv_i287 (pc' := 148) (S' := []) (G1 := (jv_H K I23 L23 R)) jv_i217 [.ref 208, .int (5 : Int32), .long (Int32.ofInt f.i).toInt64] rfl rfl rfl rfl (jv_cal rfl (jv_H_at (jv_rwK hW 208 11 7 (by decide))) rfl rfl) rfl H23 rfl rfl Kz) ?_
    refine jv_Wp.lift (fun _ Kz => jv_Ev.steps jv_i287 1 (pc' := 149) (l' := [(3, .int (0 : Int32)), (2, .int (vl_I w22)), (1, .int (0 : Int32)), (0, .ref 196)]) (st' := [.ref 196]) rfl Kz) ?_
    refine jv_Wp.lift (fun _ Kz => jv_Ev.c jv_i287 (pc' := 152) (S' := [.int (vl_I f.kind)]) jv_i257 [.ref 196] rfl rfl rfl rfl (jv_cal rfl (jv_H_at (jv_rwK hW 196 12 24 (by decide))) rfl rfl) rfl (vq_kind f hW D23) rfl rfl Kz) ?_
    refine jv_Wp.lift (fun _ Kz => jv_Ev.steps jv_i287 1 (pc' := 153) (l' := [(3, .int (0 : Int32)), (2, .int (vl_I w22)), (1, .int (0 : Int32)), (0, .ref 196)]) (st' := [.int (4 : Int32), .int (vl_I f.kind)]) rfl Kz) ?_
    refine jv_Wp.cnd jv_i287 (pt := 167) (pe := 156) (p := (¬ (vl_I f.kind) = (4 : Int32))) (q := (¬ (vl_I f.kind) = (4 : Int32))) rfl jv_bc_ne rfl rfl Iff.rfl (fun _ => ?_) (fun hz => absurd (fun z => by have y := (vr_sm (v := 4) (by omega) (by decide) rfl).mp z; omega) hz)
    refine jv_Wp.lift (fun _ Kz => jv_Ev.steps jv_i287 1 (pc' := 168) (l' := [(3, .int (0 : Int32)), (2, .int (vl_I w22)), (1, .int (0 : Int32)), (0, .ref 196)]) (st' := [.int (0 : Int32)]) rfl Kz) ?_
    refine jv_Wp.lift (fun _ Kz => jv_Ev.br jv_i287 (pc' := 171) (st' := []) rfl (by rfl) Kz) ?_
    refine jv_Wp.lift (fun _ Kz => jv_Ev.steps jv_i287 2 (pc' := 173) (l' := [(3, .int (0 : Int32)), (2, .int (vl_I w22)), (1, .int (0 : Int32)), (0, .ref 196)]) (st' := [.ref 196, .ref 196]) rfl Kz) ?_
    refine jv_Wp.lift (fun _ Kz => jv_Ev.m jv_i287 (pc' := 176) (st' := [.int (vl_I f.d), .ref 196]) (G' := (jv_H K I23 L23 R)) rfl rfl (jv_m_getI (jv_rwK hW 196 12 24 (by decide)) rfl rfl D23.2.1) Kz) ?_
    refine jv_Wp.lift (fun _ Kz => jv_Ev.c jv_i287 (pc' := 179) (S' := [.int (I 205 (76800 + f.d))]) jv_i271 [.ref 196, .int (vl_I f.d)] rfl rfl rfl rfl (jv_cal rfl (jv_H_at (jv_rwK hW 196 12 24 (by decide))) rfl rfl) rfl (vq_sortOfW W23 f.d hW (by omega)) rfl rfl Kz) ?_
    refine jv_Wp.lift (fun _ Kz => jv_Ev.steps jv_i287 1 (pc' := 180) (l' := [(3, .int (0 : Int32)), (2, .int (vl_I w22)), (1, .int (0 : Int32)), (0, .ref 196)]) (st' := [.int (1 : Int32), .int (I 205 (76800 + f.d))]) rfl Kz) ?_
    refine jv_Wp.cnd jv_i287 (pt := 203) (pe := 183) (p := (¬ (I 205 (76800 + f.d)) = (1 : Int32))) (q := (¬ (I 205 (76800 + f.d)) = (1 : Int32))) rfl jv_bc_ne rfl rfl Iff.rfl (fun h2 => ?_) (fun h2 => ?_)
    · refine jv_Wp.lift (fun _ Kz => jv_Ev.steps jv_i287 3 (pc' := 208) (l' := [(4, .int (0 : Int32)), (3, .int (0 : Int32)), (2, .int (vl_I w22)), (1, .int (0 : Int32)), (0, .ref 196)]) (st' := [.int (0 : Int32)]) rfl Kz) ?_
      refine jv_Wp.lift (fun _ Kz => jv_Ev.br jv_i287 (pc' := 245) (st' := []) rfl (by rfl) Kz) ?_
      refine jv_Wp.lift (fun _ Kz => jv_Ev.steps jv_i287 1 (pc' := 246) (l' := [(4, .int (0 : Int32)), (3, .int (0 : Int32)), (2, .int (vl_I w22)), (1, .int (0 : Int32)), (0, .ref 196)]) (st' := [.ref 196]) rfl Kz) ?_
      refine jv_Wp.lift (fun _ Kz => jv_Ev.c jv_i287 (pc' := 249) (S' := [.int (vl_I f.kind)]) jv_i257 [.ref 196] rfl rfl rfl rfl (jv_cal rfl (jv_H_at (jv_rwK hW 196 12 24 (by decide))) rfl rfl) rfl (vq_kind f hW D23) rfl rfl Kz) ?_
      refine jv_Wp.lift (fun _ Kz => jv_Ev.steps jv_i287 1 (pc' := 250) (l' := [(4, .int (0 : Int32)), (3, .int (0 : Int32)), (2, .int (vl_I w22)), (1, .int (0 : Int32)), (0, .ref 196)]) (st' := [.int (4 : Int32), .int (vl_I f.kind)]) rfl Kz) ?_
      refine jv_Wp.cnd jv_i287 (pt := 261) (pe := 253) (p := ((vl_I f.kind) = (4 : Int32))) (q := ((vl_I f.kind) = (4 : Int32))) rfl jv_bc_eq rfl rfl Iff.rfl (fun hz => absurd hz (fun z => by have y := (vr_sm (v := 4) (by omega) (by decide) rfl).mp z; omega)) (fun _ => ?_)
      refine jv_Wp.lift (fun _ Kz => jv_Ev.steps jv_i287 1 (pc' := 254) (l' := [(4, .int (0 : Int32)), (3, .int (0 : Int32)), (2, .int (vl_I w22)), (1, .int (0 : Int32)), (0, .ref 196)]) (st' := [.ref 196]) rfl Kz) ?_
      refine jv_Wp.lift (fun _ Kz => jv_Ev.c jv_i287 (pc' := 257) (S' := [.int (vl_I f.n)]) jv_i258 [.ref 196] rfl rfl rfl rfl (jv_cal rfl (jv_H_at (jv_rwK hW 196 12 24 (by decide))) rfl rfl) rfl (vq_n f hW D23) rfl rfl Kz) ?_
      refine jv_Wp.lift (fun _ Kz => jv_Ev.steps jv_i287 1 (pc' := 258) (l' := [(4, .int (0 : Int32)), (3, .int (0 : Int32)), (2, .int (vl_I w22)), (1, .int (0 : Int32)), (0, .ref 196)]) (st' := [.int (1 : Int32), .int (vl_I f.n)]) rfl Kz) ?_
      refine jv_Wp.cnd jv_i287 (pt := 263) (pe := 261) (p := ((vl_I f.n) ≤ (1 : Int32))) (q := ((vl_I f.n) ≤ (1 : Int32))) rfl jv_bc_le rfl rfl Iff.rfl (fun h3 => ?_) (fun h3 => ?_)
      · refine jv_Wp.lift (fun _ Kz => jv_Ev.steps jv_i287 2 (pc' := 265) (l' := [(4, .int (0 : Int32)), (3, .int (0 : Int32)), (2, .int (vl_I w22)), (1, .int (0 : Int32)), (0, .ref 196)]) (st' := [.ref 196, .ref 196]) rfl Kz) ?_
        refine jv_Wp.lift (fun _ Kz => jv_Ev.m jv_i287 (pc' := 268) (st' := [.int (vl_I f.d), .ref 196]) (G' := (jv_H K I23 L23 R)) rfl rfl (jv_m_getI (jv_rwK hW 196 12 24 (by decide)) rfl rfl D23.2.1) Kz) ?_
        refine jv_Wp.lift (fun _ Kz => jv_Ev.c jv_i287 (pc' := 271) (S' := [.int (vr_b (vr_mv (I 205 (76800 + f.d))))]) jv_i288 [.ref 196, .int (vl_I f.d)] rfl rfl rfl rfl (jv_cal rfl (jv_H_at (jv_rwK hW 196 12 24 (by decide))) rfl rfl) rfl (vq_isMovableW W23 f.d hW (by omega)) rfl rfl Kz) ?_
        refine jv_Wp.cnd jv_i287 (pt := 294) (pe := 274) (p := ((vr_b (vr_mv (I 205 (76800 + f.d)))) = 0)) (q := ((vr_b (vr_mv (I 205 (76800 + f.d)))) = 0)) rfl jv_bi_eq rfl rfl Iff.rfl (fun h4 => ?_) (fun h4 => ?_)
        · refine jv_Wp.lift (fun _ Kz => jv_Ev.steps jv_i287 3 (pc' := 298) (l' := [(5, .int (0 : Int32)), (4, .int (0 : Int32)), (3, .int (0 : Int32)), (2, .int (vl_I w22)), (1, .int (0 : Int32)), (0, .ref 196)]) (st' := [.ref 196]) rfl Kz) ?_
          refine jv_Wp.lift (fun _ Kz => jv_Ev.c jv_i287 (pc' := 301) (S' := [.int (vl_I f.n)]) jv_i258 [.ref 196] rfl rfl rfl rfl (jv_cal rfl (jv_H_at (jv_rwK hW 196 12 24 (by decide))) rfl rfl) rfl (vq_n f hW D23) rfl rfl Kz) ?_
          refine jv_Wp.cnd jv_i287 (pt := 335) (pe := 304) (p := (¬ (vl_I f.n) = 0)) (q := (¬ (vl_I f.n) = 0)) rfl jv_bi_ne rfl rfl Iff.rfl (fun h5 => ?_) (fun h5 => ?_)
          · refine jv_Wp.lift (fun _ Kz => jv_Ev.steps jv_i287 3 (pc' := 340) (l' := [(6, .int (0 : Int32)), (5, .int (0 : Int32)), (4, .int (0 : Int32)), (3, .int (0 : Int32)), (2, .int (vl_I w22)), (1, .int (0 : Int32)), (0, .ref 196)]) (st' := [.int (0 : Int32)]) rfl Kz) ?_
            refine jv_Wp.lift (fun _ Kz => jv_Ev.br jv_i287 (pc' := 366) (st' := []) rfl (by rfl) Kz) ?_
            refine jv_Wp.lift (fun _ Kz => jv_Ev.steps jv_i287 1 (pc' := 368) (l' := [(6, .int (0 : Int32)), (5, .int (0 : Int32)), (4, .int (0 : Int32)), (3, .int (0 : Int32)), (2, .int (vl_I w22)), (1, .int (0 : Int32)), (0, .ref 196)]) (st' := [.int (0 : Int32)]) rfl Kz) ?_
            refine jv_Wp.lift (fun _ Kz => jv_Ev.br jv_i287 (pc' := 386) (st' := []) rfl (by rfl) Kz) ?_
            refine jv_Wp.lift (fun _ Kz => jv_Ev.steps jv_i287 1 (pc' := 387) (l' := [(6, .int (0 : Int32)), (5, .int (0 : Int32)), (4, .int (0 : Int32)), (3, .int (0 : Int32)), (2, .int (vl_I w22)), (1, .int (0 : Int32)), (0, .ref 196)]) (st' := [.int (2 : Int32)]) rfl Kz) ?_
            refine jv_Wp.of (jv_Ev.ret jv_i287 rfl rfl) ?_
            rw [hQ]
            have mn0 : ¬ f.n = 0 := (fun z => h5 ((vr_sm (v := 0) (by omega) (by decide) rfl).mpr z))
            have td1 : ¬ zd = 1 := fun z => h2 ((vr_is 1 (by decide) okd).mp ((hd ()).trans z))
            have ud : ¬ (zd = 2 ∨ zd = 3 ∨ zd = 4 ∨ zd = 7) := fun z => absurd (vr_mvF (L := L) okd (by rw [hd ()]; exact z)) (of_decide_eq_false (vr_b_f h4))
            have fe : w22 ≤ 0 := (vl_I_le (b := 0) (by omega) (by decide)).mp h1
            have ge : f.n ≤ 1 := (vl_I_le (b := 1) (by omega) (by decide)).mp h3
            have a1 : ¬ vx_a1 f (vr_T I L (76800 + f.d)) (vt_num (vx_just f.i)) := by unfold vx_a1; rw [hd (), hs ()]; omega
            have a2 : ¬ (f.n = 11 ∧ f.kind = 7 ∧ f.o = 0) := by omega
            have a3 : vx_a3 f (vr_T I L (76800 + f.d)) (vt_num (vx_just f.i)) := by unfold vx_a3; rw [hd (), hs ()]; omega
            have e : vx_ar f (vr_T I L (76800 + f.d)) (vt_num (vx_just f.i)) = (2, (vr_T I L (76800 + f.d))) := by
              by_cases c : f.kind = 7 ∧ (f.n = 0 ∨ f.n = 1)
              · exact (vx_ar3 a1 a2 a3 c).trans (vx_move2 (by rw [hd (), hs ()]; omega) (by rw [hd (), hs ()]; omega))
              · exact vx_ar4 a1 a2 a3 c
            have g := vq_arE (L := L) (f := f) (c := 2) hd75 oa (by rw [eD, eY]; exact congrArg Prod.fst e) (fun z => absurd z (by decide)) (vr_fr_P W23 (fun _ z => z.elim))
            exact ⟨_, _, by rw [g.1]; rfl, g.2, vr_fr_P W23 (fun _ z => z.elim)⟩
          · refine jv_Wp.lift (fun _ Kz => jv_Ev.steps jv_i287 1 (pc' := 305) (l' := [(5, .int (0 : Int32)), (4, .int (0 : Int32)), (3, .int (0 : Int32)), (2, .int (vl_I w22)), (1, .int (0 : Int32)), (0, .ref 196)]) (st' := [.int (0 : Int32)]) rfl Kz) ?_
            refine jv_Wp.lift (fun _ Kz => jv_Ev.br jv_i287 (pc' := 335) (st' := []) rfl (by rfl) Kz) ?_
            refine jv_Wp.lift (fun _ Kz => jv_Ev.steps jv_i287 3 (pc' := 340) (l' := [(6, .int (0 : Int32)), (5, .int (0 : Int32)), (4, .int (0 : Int32)), (3, .int (0 : Int32)), (2, .int (vl_I w22)), (1, .int (0 : Int32)), (0, .ref 196)]) (st' := [.int (0 : Int32)]) rfl Kz) ?_
            refine jv_Wp.lift (fun _ Kz => jv_Ev.br jv_i287 (pc' := 366) (st' := []) rfl (by rfl) Kz) ?_
            refine jv_Wp.lift (fun _ Kz => jv_Ev.steps jv_i287 1 (pc' := 368) (l' := [(6, .int (0 : Int32)), (5, .int (0 : Int32)), (4, .int (0 : Int32)), (3, .int (0 : Int32)), (2, .int (vl_I w22)), (1, .int (0 : Int32)), (0, .ref 196)]) (st' := [.int (0 : Int32)]) rfl Kz) ?_
            refine jv_Wp.lift (fun _ Kz => jv_Ev.br jv_i287 (pc' := 386) (st' := []) rfl (by rfl) Kz) ?_
            refine jv_Wp.lift (fun _ Kz => jv_Ev.steps jv_i287 1 (pc' := 387) (l' := [(6, .int (0 : Int32)), (5, .int (0 : Int32)), (4, .int (0 : Int32)), (3, .int (0 : Int32)), (2, .int (vl_I w22)), (1, .int (0 : Int32)), (0, .ref 196)]) (st' := [.int (2 : Int32)]) rfl Kz) ?_
            refine jv_Wp.of (jv_Ev.ret jv_i287 rfl rfl) ?_
            rw [hQ]
            have mn0 : f.n = 0 := (vr_sm (v := 0) (by omega) (by decide) rfl).mp (Classical.not_not.mp h5)
            have td1 : ¬ zd = 1 := fun z => h2 ((vr_is 1 (by decide) okd).mp ((hd ()).trans z))
            have ud : ¬ (zd = 2 ∨ zd = 3 ∨ zd = 4 ∨ zd = 7) := fun z => absurd (vr_mvF (L := L) okd (by rw [hd ()]; exact z)) (of_decide_eq_false (vr_b_f h4))
            have fe : w22 ≤ 0 := (vl_I_le (b := 0) (by omega) (by decide)).mp h1
            have ge : f.n ≤ 1 := (vl_I_le (b := 1) (by omega) (by decide)).mp h3
            have a1 : ¬ vx_a1 f (vr_T I L (76800 + f.d)) (vt_num (vx_just f.i)) := by unfold vx_a1; rw [hd (), hs ()]; omega
            have a2 : ¬ (f.n = 11 ∧ f.kind = 7 ∧ f.o = 0) := by omega
            have a3 : vx_a3 f (vr_T I L (76800 + f.d)) (vt_num (vx_just f.i)) := by unfold vx_a3; rw [hd (), hs ()]; omega
            have e : vx_ar f (vr_T I L (76800 + f.d)) (vt_num (vx_just f.i)) = (2, (vr_T I L (76800 + f.d))) := by
              by_cases c : f.kind = 7 ∧ (f.n = 0 ∨ f.n = 1)
              · exact (vx_ar3 a1 a2 a3 c).trans (vx_move2 (by rw [hd (), hs ()]; omega) (by rw [hd (), hs ()]; omega))
              · exact vx_ar4 a1 a2 a3 c
            have g := vq_arE (L := L) (f := f) (c := 2) hd75 oa (by rw [eD, eY]; exact congrArg Prod.fst e) (fun z => absurd z (by decide)) (vr_fr_P W23 (fun _ z => z.elim))
            exact ⟨_, _, by rw [g.1]; rfl, g.2, vr_fr_P W23 (fun _ z => z.elim)⟩
        · refine jv_Wp.lift (fun _ Kz => jv_Ev.steps jv_i287 1 (pc' := 275) (l' := [(4, .int (0 : Int32)), (3, .int (0 : Int32)), (2, .int (vl_I w22)), (1, .int (0 : Int32)), (0, .ref 196)]) (st' := [.int (0 : Int32)]) rfl Kz) ?_
          refine jv_Wp.lift (fun _ Kz => jv_Ev.br jv_i287 (pc' := 290) (st' := []) rfl (by rfl) Kz) ?_
          refine jv_Wp.lift (fun _ Kz => jv_Ev.steps jv_i287 4 (pc' := 298) (l' := [(5, .int (1 : Int32)), (4, .int (0 : Int32)), (3, .int (0 : Int32)), (2, .int (vl_I w22)), (1, .int (0 : Int32)), (0, .ref 196)]) (st' := [.ref 196]) rfl Kz) ?_
          refine jv_Wp.lift (fun _ Kz => jv_Ev.c jv_i287 (pc' := 301) (S' := [.int (vl_I f.n)]) jv_i258 [.ref 196] rfl rfl rfl rfl (jv_cal rfl (jv_H_at (jv_rwK hW 196 12 24 (by decide))) rfl rfl) rfl (vq_n f hW D23) rfl rfl Kz) ?_
          refine jv_Wp.cnd jv_i287 (pt := 335) (pe := 304) (p := (¬ (vl_I f.n) = 0)) (q := (¬ (vl_I f.n) = 0)) rfl jv_bi_ne rfl rfl Iff.rfl (fun h6 => ?_) (fun h6 => ?_)
          · refine jv_Wp.lift (fun _ Kz => jv_Ev.steps jv_i287 3 (pc' := 340) (l' := [(6, .int (0 : Int32)), (5, .int (1 : Int32)), (4, .int (0 : Int32)), (3, .int (0 : Int32)), (2, .int (vl_I w22)), (1, .int (0 : Int32)), (0, .ref 196)]) (st' := [.int (1 : Int32)]) rfl Kz) ?_
            refine jv_Wp.lift (fun _ Kz => jv_Ev.br jv_i287 (pc' := 343) (st' := []) rfl (by rfl) Kz) ?_
            refine jv_Wp.lift (fun _ Kz => jv_Ev.steps jv_i287 2 (pc' := 345) (l' := [(6, .int (0 : Int32)), (5, .int (1 : Int32)), (4, .int (0 : Int32)), (3, .int (0 : Int32)), (2, .int (vl_I w22)), (1, .int (0 : Int32)), (0, .ref 196)]) (st' := [.ref 196, .ref 196]) rfl Kz) ?_
            refine jv_Wp.lift (fun _ Kz => jv_Ev.m jv_i287 (pc' := 348) (st' := [.int (vl_I f.d), .ref 196]) (G' := (jv_H K I23 L23 R)) rfl rfl (jv_m_getI (jv_rwK hW 196 12 24 (by decide)) rfl rfl D23.2.1) Kz) ?_
            refine jv_Wp.lift (fun _ Kz => jv_Ev.steps jv_i287 1 (pc' := 349) (l' := [(6, .int (0 : Int32)), (5, .int (1 : Int32)), (4, .int (0 : Int32)), (3, .int (0 : Int32)), (2, .int (vl_I w22)), (1, .int (0 : Int32)), (0, .ref 196)]) (st' := [.int (0 : Int32), .int (vl_I f.d), .ref 196]) rfl Kz) ?_
            refine jv_Wp.lift (fun _ Kz => jv_Ev.br jv_i287 (pc' := 359) (st' := [.int (vl_I f.d), .ref 196]) rfl (by rfl) Kz) ?_
            refine jv_Wp.lift (fun _ Kz => jv_Ev.steps jv_i287 1 (pc' := 360) (l' := [(6, .int (0 : Int32)), (5, .int (1 : Int32)), (4, .int (0 : Int32)), (3, .int (0 : Int32)), (2, .int (vl_I w22)), (1, .int (0 : Int32)), (0, .ref 196)]) (st' := [.int (-1 : Int32), .int (vl_I f.d), .ref 196]) rfl Kz) ?_
            have mn0 : ¬ f.n = 0 := (fun z => h6 ((vr_sm (v := 0) (by omega) (by decide) rfl).mpr z))
            have td1 : ¬ zd = 1 := fun z => h2 ((vr_is 1 (by decide) okd).mp ((hd ()).trans z))
            have vd : I 205 (76800 + f.d) = 2 ∨ I 205 (76800 + f.d) = 3 ∨ I 205 (76800 + f.d) = 4 ∨ I 205 (76800 + f.d) = 7 := of_decide_eq_true (vr_b_t h4)
            have ud : zd = 2 ∨ zd = 3 ∨ zd = 4 ∨ zd = 7 := by have z := vr_mvT (L := L) okd vd; rw [hd ()] at z; exact z
            have fe : w22 ≤ 0 := (vl_I_le (b := 0) (by omega) (by decide)).mp h1
            have ge : f.n ≤ 1 := (vl_I_le (b := 1) (by omega) (by decide)).mp h3
            obtain ⟨I24, L24, H24, T24, F24⟩ := vq_moveI (I := I23) (L := L23) (R := R) (n := n) (sl := sl) f f.d hW Z23 D23 (by omega) (by omega) ((vr_fr_ok W23 (fun z => z)).mpr okd) (by rw [vr_fr_T W23 (fun z => z)]; exact tA f.d (by omega)) (by rw [vr_fr_T W23 (fun z => z)]; exact gA f.d (by omega)) (by rw [(vr_fr_i W23 (fun z => z)).1]; exact vd) Yt23
            rw [vr_fr_T W23 (fun z => z), Y23] at H24 T24
            refine jv_Wp.lift (fun _ Kz => jv_Ev.c jv_i287 (pc' := 363) (S' := [.int (vl_I (vx_mq f.n (vr_T I L (76800 + f.d)) (vx_just f.i)).1)]) (G1 := (jv_H K I24 L24 R)) jv_i286 [.ref 196, .int (vl_I f.d), .int (-1 : Int32)] rfl rfl rfl rfl (jv_cal rfl (jv_H_at (jv_rwK hW 196 12 24 (by decide))) rfl rfl) rfl H24 rfl rfl Kz) ?_
            refine jv_Wp.lift (fun _ Kz => jv_Ev.steps jv_i287 1 (pc' := 387) (l' := [(6, .int (0 : Int32)), (5, .int (1 : Int32)), (4, .int (0 : Int32)), (3, .int (0 : Int32)), (2, .int (vl_I w22)), (1, .int (0 : Int32)), (0, .ref 196)]) (st' := [.int (vl_I (vx_mq f.n (vr_T I L (76800 + f.d)) (vx_just f.i)).1)]) rfl Kz) ?_
            refine jv_Wp.of (jv_Ev.ret jv_i287 rfl rfl) ?_
            rw [hQ]
            have mn0 : ¬ f.n = 0 := (fun z => h6 ((vr_sm (v := 0) (by omega) (by decide) rfl).mpr z))
            have td1 : ¬ zd = 1 := fun z => h2 ((vr_is 1 (by decide) okd).mp ((hd ()).trans z))
            have vd : I 205 (76800 + f.d) = 2 ∨ I 205 (76800 + f.d) = 3 ∨ I 205 (76800 + f.d) = 4 ∨ I 205 (76800 + f.d) = 7 := of_decide_eq_true (vr_b_t h4)
            have ud : zd = 2 ∨ zd = 3 ∨ zd = 4 ∨ zd = 7 := by have z := vr_mvT (L := L) okd vd; rw [hd ()] at z; exact z
            have fe : w22 ≤ 0 := (vl_I_le (b := 0) (by omega) (by decide)).mp h1
            have ge : f.n ≤ 1 := (vl_I_le (b := 1) (by omega) (by decide)).mp h3
            have a1 : ¬ vx_a1 f (vr_T I L (76800 + f.d)) (vt_num (vx_just f.i)) := by unfold vx_a1; rw [hd (), hs ()]; omega
            have a2 : ¬ (f.n = 11 ∧ f.kind = 7 ∧ f.o = 0) := by omega
            have a3 : vx_a3 f (vr_T I L (76800 + f.d)) (vt_num (vx_just f.i)) := by unfold vx_a3; rw [hd (), hs ()]; omega
            have e := vx_ar3 a1 a2 a3 (by omega)
            have e2 := vx_mv_q (n := f.n) (d := (vr_T I L (76800 + f.d))) (b := (vr_T I L (76800 + f.d))) (x := (vt_num (vx_just f.i))) (rev := False) ((hs ()).trans (by omega)) (fun z => z.2) (by rw [hd ()]; omega)
            rw [← vx_mvB (by rw [hd ()]; omega), ← e] at e2
            have g := vq_arE (L := L) (f := f) (c := (vx_mq f.n (vr_T I L (76800 + f.d)) (vx_just f.i)).1) hd75 oa (by rw [eD, eY]; exact e2.1) (fun z => ⟨by rw [eD, eY]; exact (T24 z).1.trans (e2.2 z).symm, (T24 z).2⟩) (vr_fr_trans (vr_fr_P W23 (fun _ z => z.elim)) F24)
            exact ⟨_, _, by rw [g.1], g.2, vr_fr_trans (vr_fr_P W23 (fun _ z => z.elim)) F24⟩
          · refine jv_Wp.lift (fun _ Kz => jv_Ev.steps jv_i287 1 (pc' := 305) (l' := [(5, .int (1 : Int32)), (4, .int (0 : Int32)), (3, .int (0 : Int32)), (2, .int (vl_I w22)), (1, .int (0 : Int32)), (0, .ref 196)]) (st' := [.int (0 : Int32)]) rfl Kz) ?_
            refine jv_Wp.lift (fun _ Kz => jv_Ev.br jv_i287 (pc' := 335) (st' := []) rfl (by rfl) Kz) ?_
            refine jv_Wp.lift (fun _ Kz => jv_Ev.steps jv_i287 3 (pc' := 340) (l' := [(6, .int (0 : Int32)), (5, .int (1 : Int32)), (4, .int (0 : Int32)), (3, .int (0 : Int32)), (2, .int (vl_I w22)), (1, .int (0 : Int32)), (0, .ref 196)]) (st' := [.int (1 : Int32)]) rfl Kz) ?_
            refine jv_Wp.lift (fun _ Kz => jv_Ev.br jv_i287 (pc' := 343) (st' := []) rfl (by rfl) Kz) ?_
            refine jv_Wp.lift (fun _ Kz => jv_Ev.steps jv_i287 2 (pc' := 345) (l' := [(6, .int (0 : Int32)), (5, .int (1 : Int32)), (4, .int (0 : Int32)), (3, .int (0 : Int32)), (2, .int (vl_I w22)), (1, .int (0 : Int32)), (0, .ref 196)]) (st' := [.ref 196, .ref 196]) rfl Kz) ?_
            refine jv_Wp.lift (fun _ Kz => jv_Ev.m jv_i287 (pc' := 348) (st' := [.int (vl_I f.d), .ref 196]) (G' := (jv_H K I23 L23 R)) rfl rfl (jv_m_getI (jv_rwK hW 196 12 24 (by decide)) rfl rfl D23.2.1) Kz) ?_
            refine jv_Wp.lift (fun _ Kz => jv_Ev.steps jv_i287 1 (pc' := 349) (l' := [(6, .int (0 : Int32)), (5, .int (1 : Int32)), (4, .int (0 : Int32)), (3, .int (0 : Int32)), (2, .int (vl_I w22)), (1, .int (0 : Int32)), (0, .ref 196)]) (st' := [.int (0 : Int32), .int (vl_I f.d), .ref 196]) rfl Kz) ?_
            refine jv_Wp.lift (fun _ Kz => jv_Ev.br jv_i287 (pc' := 359) (st' := [.int (vl_I f.d), .ref 196]) rfl (by rfl) Kz) ?_
            refine jv_Wp.lift (fun _ Kz => jv_Ev.steps jv_i287 1 (pc' := 360) (l' := [(6, .int (0 : Int32)), (5, .int (1 : Int32)), (4, .int (0 : Int32)), (3, .int (0 : Int32)), (2, .int (vl_I w22)), (1, .int (0 : Int32)), (0, .ref 196)]) (st' := [.int (-1 : Int32), .int (vl_I f.d), .ref 196]) rfl Kz) ?_
            have mn0 : f.n = 0 := (vr_sm (v := 0) (by omega) (by decide) rfl).mp (Classical.not_not.mp h6)
            have td1 : ¬ zd = 1 := fun z => h2 ((vr_is 1 (by decide) okd).mp ((hd ()).trans z))
            have vd : I 205 (76800 + f.d) = 2 ∨ I 205 (76800 + f.d) = 3 ∨ I 205 (76800 + f.d) = 4 ∨ I 205 (76800 + f.d) = 7 := of_decide_eq_true (vr_b_t h4)
            have ud : zd = 2 ∨ zd = 3 ∨ zd = 4 ∨ zd = 7 := by have z := vr_mvT (L := L) okd vd; rw [hd ()] at z; exact z
            have fe : w22 ≤ 0 := (vl_I_le (b := 0) (by omega) (by decide)).mp h1
            have ge : f.n ≤ 1 := (vl_I_le (b := 1) (by omega) (by decide)).mp h3
            obtain ⟨I25, L25, H25, T25, F25⟩ := vq_moveI (I := I23) (L := L23) (R := R) (n := n) (sl := sl) f f.d hW Z23 D23 (by omega) (by omega) ((vr_fr_ok W23 (fun z => z)).mpr okd) (by rw [vr_fr_T W23 (fun z => z)]; exact tA f.d (by omega)) (by rw [vr_fr_T W23 (fun z => z)]; exact gA f.d (by omega)) (by rw [(vr_fr_i W23 (fun z => z)).1]; exact vd) Yt23
            rw [vr_fr_T W23 (fun z => z), Y23] at H25 T25
            refine jv_Wp.lift (fun _ Kz => jv_Ev.c jv_i287 (pc' := 363) (S' := [.int (vl_I (vx_mq f.n (vr_T I L (76800 + f.d)) (vx_just f.i)).1)]) (G1 := (jv_H K I25 L25 R)) jv_i286 [.ref 196, .int (vl_I f.d), .int (-1 : Int32)] rfl rfl rfl rfl (jv_cal rfl (jv_H_at (jv_rwK hW 196 12 24 (by decide))) rfl rfl) rfl H25 rfl rfl Kz) ?_
            refine jv_Wp.lift (fun _ Kz => jv_Ev.steps jv_i287 1 (pc' := 387) (l' := [(6, .int (0 : Int32)), (5, .int (1 : Int32)), (4, .int (0 : Int32)), (3, .int (0 : Int32)), (2, .int (vl_I w22)), (1, .int (0 : Int32)), (0, .ref 196)]) (st' := [.int (vl_I (vx_mq f.n (vr_T I L (76800 + f.d)) (vx_just f.i)).1)]) rfl Kz) ?_
            refine jv_Wp.of (jv_Ev.ret jv_i287 rfl rfl) ?_
            rw [hQ]
            have mn0 : f.n = 0 := (vr_sm (v := 0) (by omega) (by decide) rfl).mp (Classical.not_not.mp h6)
            have td1 : ¬ zd = 1 := fun z => h2 ((vr_is 1 (by decide) okd).mp ((hd ()).trans z))
            have vd : I 205 (76800 + f.d) = 2 ∨ I 205 (76800 + f.d) = 3 ∨ I 205 (76800 + f.d) = 4 ∨ I 205 (76800 + f.d) = 7 := of_decide_eq_true (vr_b_t h4)
            have ud : zd = 2 ∨ zd = 3 ∨ zd = 4 ∨ zd = 7 := by have z := vr_mvT (L := L) okd vd; rw [hd ()] at z; exact z
            have fe : w22 ≤ 0 := (vl_I_le (b := 0) (by omega) (by decide)).mp h1
            have ge : f.n ≤ 1 := (vl_I_le (b := 1) (by omega) (by decide)).mp h3
            have a1 : ¬ vx_a1 f (vr_T I L (76800 + f.d)) (vt_num (vx_just f.i)) := by unfold vx_a1; rw [hd (), hs ()]; omega
            have a2 : ¬ (f.n = 11 ∧ f.kind = 7 ∧ f.o = 0) := by omega
            have a3 : vx_a3 f (vr_T I L (76800 + f.d)) (vt_num (vx_just f.i)) := by unfold vx_a3; rw [hd (), hs ()]; omega
            have e := vx_ar3 a1 a2 a3 (by omega)
            have e2 := vx_mv_q (n := f.n) (d := (vr_T I L (76800 + f.d))) (b := (vr_T I L (76800 + f.d))) (x := (vt_num (vx_just f.i))) (rev := False) ((hs ()).trans (by omega)) (fun z => z.2) (by rw [hd ()]; omega)
            rw [← vx_mvB (by rw [hd ()]; omega), ← e] at e2
            have g := vq_arE (L := L) (f := f) (c := (vx_mq f.n (vr_T I L (76800 + f.d)) (vx_just f.i)).1) hd75 oa (by rw [eD, eY]; exact e2.1) (fun z => ⟨by rw [eD, eY]; exact (T25 z).1.trans (e2.2 z).symm, (T25 z).2⟩) (vr_fr_trans (vr_fr_P W23 (fun _ z => z.elim)) F25)
            exact ⟨_, _, by rw [g.1], g.2, vr_fr_trans (vr_fr_P W23 (fun _ z => z.elim)) F25⟩
      · refine jv_Wp.lift (fun _ Kz => jv_Ev.steps jv_i287 1 (pc' := 262) (l' := [(4, .int (0 : Int32)), (3, .int (0 : Int32)), (2, .int (vl_I w22)), (1, .int (0 : Int32)), (0, .ref 196)]) (st' := [.int (2 : Int32)]) rfl Kz) ?_
        refine jv_Wp.of (jv_Ev.ret jv_i287 rfl rfl) ?_
        rw [hQ]
        have td1 : ¬ zd = 1 := fun z => h2 ((vr_is 1 (by decide) okd).mp ((hd ()).trans z))
        have fe : w22 ≤ 0 := (vl_I_le (b := 0) (by omega) (by decide)).mp h1
        have ge : ¬ f.n ≤ 1 := fun z => h3 ((vl_I_le (b := 1) (by omega) (by decide)).mpr z)
        have a1 : ¬ vx_a1 f (vr_T I L (76800 + f.d)) (vt_num (vx_just f.i)) := by unfold vx_a1; rw [hd (), hs ()]; omega
        have a2 : ¬ (f.n = 11 ∧ f.kind = 7 ∧ f.o = 0) := by omega
        have a3 : vx_a3 f (vr_T I L (76800 + f.d)) (vt_num (vx_just f.i)) := by unfold vx_a3; rw [hd (), hs ()]; omega
        have e : vx_ar f (vr_T I L (76800 + f.d)) (vt_num (vx_just f.i)) = (2, (vr_T I L (76800 + f.d))) := by
          by_cases c : f.kind = 7 ∧ (f.n = 0 ∨ f.n = 1)
          · exact (vx_ar3 a1 a2 a3 c).trans (vx_move2 (by rw [hd (), hs ()]; omega) (by rw [hd (), hs ()]; omega))
          · exact vx_ar4 a1 a2 a3 c
        have g := vq_arE (L := L) (f := f) (c := 2) hd75 oa (by rw [eD, eY]; exact congrArg Prod.fst e) (fun z => absurd z (by decide)) (vr_fr_P W23 (fun _ z => z.elim))
        exact ⟨_, _, by rw [g.1]; rfl, g.2, vr_fr_P W23 (fun _ z => z.elim)⟩
    · refine jv_Wp.lift (fun _ Kz => jv_Ev.steps jv_i287 1 (pc' := 184) (l' := [(3, .int (0 : Int32)), (2, .int (vl_I w22)), (1, .int (0 : Int32)), (0, .ref 196)]) (st' := [.int (0 : Int32)]) rfl Kz) ?_
      refine jv_Wp.lift (fun _ Kz => jv_Ev.br jv_i287 (pc' := 199) (st' := []) rfl (by rfl) Kz) ?_
      refine jv_Wp.lift (fun _ Kz => jv_Ev.steps jv_i287 4 (pc' := 208) (l' := [(4, .int (1 : Int32)), (3, .int (0 : Int32)), (2, .int (vl_I w22)), (1, .int (0 : Int32)), (0, .ref 196)]) (st' := [.int (1 : Int32)]) rfl Kz) ?_
      refine jv_Wp.lift (fun _ Kz => jv_Ev.br jv_i287 (pc' := 211) (st' := []) rfl (by rfl) Kz) ?_
      refine jv_Wp.lift (fun _ Kz => jv_Ev.steps jv_i287 3 (pc' := 216) (l' := [(4, .int (1 : Int32)), (3, .int (0 : Int32)), (2, .int (vl_I w22)), (1, .int (0 : Int32)), (0, .ref 196)]) (st' := [.ref 196, .int (1024 : Int32), .ref 196]) rfl Kz) ?_
      refine jv_Wp.lift (fun _ Kz => jv_Ev.m jv_i287 (pc' := 219) (st' := [.int (vl_I f.d), .int (1024 : Int32), .ref 196]) (G' := (jv_H K I23 L23 R)) rfl rfl (jv_m_getI (jv_rwK hW 196 12 24 (by decide)) rfl rfl D23.2.1) Kz) ?_
      refine jv_Wp.lift (fun _ Kz => jv_Ev.c jv_i287 (pc' := 222) (S' := [.int (vl_I (8 + (76800 + f.d))), .ref 196]) jv_i254 [.int (1024 : Int32), .int (vl_I f.d)] rfl rfl rfl rfl rfl rfl (vq_row 1024 f.d) rfl rfl Kz) ?_
      refine jv_Wp.lift (fun _ Kz => jv_Ev.steps jv_i287 1 (pc' := 223) (l' := [(4, .int (1 : Int32)), (3, .int (0 : Int32)), (2, .int (vl_I w22)), (1, .int (0 : Int32)), (0, .ref 196)]) (st' := [.int (0 : Int32), .int (vl_I (8 + (76800 + f.d))), .ref 196]) rfl Kz) ?_
      refine jv_Wp.lift (fun _ Kz => jv_Ev.br jv_i287 (pc' := 239) (st' := [.int (vl_I (8 + (76800 + f.d))), .ref 196]) rfl (by rfl) Kz) ?_
      refine jv_Wp.lift (fun _ Kz => jv_Ev.steps jv_i287 1 (pc' := 240) (l' := [(4, .int (1 : Int32)), (3, .int (0 : Int32)), (2, .int (vl_I w22)), (1, .int (0 : Int32)), (0, .ref 196)]) (st' := [.int (5 : Int32), .int (vl_I (8 + (76800 + f.d))), .ref 196]) rfl Kz) ?_
      have td1 : zd = 1 := (hd ()).symm.trans ((vr_is 1 (by decide) okd).mpr (Classical.not_not.mp h2))
      have fe : w22 ≤ 0 := (vl_I_le (b := 0) (by omega) (by decide)).mp h1
      obtain ⟨I26, L26, H26, T26, O26, F26⟩ := vq_reckonB (I := I23) (L := L23) (R := R) (n := n) (sl := sl) f (8 + (76800 + f.d)) 5 hW Z23 D23 hfa (by omega) (by omega) (by omega) (by omega) (by omega) ((congrArg vb_toS (vr_fr_6 W23)).trans hZ6) (fun _ => by rw [vr_fr_S W23 (fun z => z)]; exact vr_tight okd (tA f.d (by omega)) (by rw [(vr_is 1 (by decide) okd).mp ((hd ()).trans (by omega))]; rfl)) (fun _ _ => Yt23) (by omega)
      refine jv_Wp.lift (fun _ Kz => jv_Ev.c jv_i287 (pc' := 243) (S' := []) (G1 := (jv_H K I26 L26 R)) jv_i285 [.ref 196, .int (vl_I (8 + (76800 + f.d))), .int (5 : Int32)] rfl rfl rfl rfl (jv_cal rfl (jv_H_at (jv_rwK hW 196 12 24 (by decide))) rfl rfl) rfl H26 rfl rfl Kz) ?_
      refine jv_Wp.lift (fun _ Kz => jv_Ev.steps jv_i287 1 (pc' := 244) (l' := [(4, .int (1 : Int32)), (3, .int (0 : Int32)), (2, .int (vl_I w22)), (1, .int (0 : Int32)), (0, .ref 196)]) (st' := [.int (0 : Int32)]) rfl Kz) ?_
      refine jv_Wp.of (jv_Ev.ret jv_i287 rfl rfl) ?_
      rw [hQ]
      have td1 : zd = 1 := (hd ()).symm.trans ((vr_is 1 (by decide) okd).mpr (Classical.not_not.mp h2))
      have fe : w22 ≤ 0 := (vl_I_le (b := 0) (by omega) (by decide)).mp h1
      have a1 : ¬ vx_a1 f (vr_T I L (76800 + f.d)) (vt_num (vx_just f.i)) := by unfold vx_a1; rw [hd (), hs ()]; omega
      have a2 : ¬ (f.n = 11 ∧ f.kind = 7 ∧ f.o = 0) := by omega
      have a3 : ¬ vx_a3 f (vr_T I L (76800 + f.d)) (vt_num (vx_just f.i)) := by unfold vx_a3; rw [hd (), hs ()]; omega
      have e := vx_ar5 a1 a2 a3
      have ev : vx_reckon f (vb_toS (vr_S L23 (8 + (76800 + f.d)))) (vb_toS (vr_S L23 5)) = vx_reckon f (vr_T I L (76800 + f.d)).val (vt_num (vx_just f.i)).val := by
        rw [Y23, vr_fr_S W23 (fun z => z)]
        show _ = vx_reckon f (vr_T I L (76800 + f.d)).val (vx_just f.i)
        rw [show (vr_T I L (76800 + f.d)).val = (vb_toS (vr_S L (8 + (76800 + f.d)))) from vr_valv (by rw [(vr_is 1 (by decide) okd).mp ((hd ()).trans (by omega))]; rfl)]
      have g := vq_arE (L := L) (f := f) (c := 0) hd75 oa (by rw [eD, eY]; exact congrArg Prod.fst e) (fun _ => ⟨by rw [eD, eY, e, T26, ev], O26⟩) (vr_fr_trans (vr_fr_P W23 (fun _ z => z.elim)) F26)
      exact ⟨_, _, by rw [g.1]; rfl, g.2, vr_fr_trans (vr_fr_P W23 (fun _ z => z.elim)) F26⟩
  · refine jv_Wp.lift (fun _ Kz => jv_Ev.steps jv_i287 1 (pc' := 68) (l' := [(2, .int (vl_I w22)), (1, .int (0 : Int32)), (0, .ref 196)]) (st' := [.int (vl_I w22)]) rfl Kz) ?_
    refine jv_Wp.of (jv_Ev.ret jv_i287 rfl rfl) ?_
    rw [hQ]
    have fe : ¬ w22 ≤ 0 := fun z => h1 ((vl_I_le (b := 0) (by omega) (by decide)).mpr z)
    have a1 : vx_a1 f (vr_T I L (76800 + f.d)) (vt_num (vx_just f.i)) := by unfold vx_a1; rw [hd (), hs ()]; omega
    have c1 : w22 = 1 := by omega
    have e := vx_ar1 a1
    have g := vq_arE (L := L) (f := f) (c := 1) hd75 oa (by rw [eD, eY]; exact congrArg Prod.fst e) (fun z => absurd z (by decide)) (vr_fr_refl hf)
    exact ⟨_, _, by rw [g.1]; rw [c1], g.2, vr_fr_refl hf⟩
theorem vq_arith {K : Nat → Option (Nat × Nat)} {I : Nat → Nat → Int32} {L : Nat → Nat → Int64} {R : Nat → Nat → Value} (f : vf_F) (hW : jv_rW K R) (hf : vr_fl I) (D : vr_dec I f) (hfa : vf_ar f) (hk47 : f.kind = 4 ∨ f.kind = 7) (hd11 : f.d < 11) (hs11 : f.s < 11) (oa : vr_okA I 1024) (tA : ∀ n, n < 75 → vt_ok (vr_T I L (76800 + n))) (gA : ∀ n, n < 75 → vt_g (vr_T I L (76800 + n))) (hZ6 : vb_toS (vr_S L 6) = vb_just 0) {n sl : Nat} : ∃ I1 L1, jv_Ms 287 [.ref 196] (jv_H K I L R) n sl (some (.int (vl_I (vx_arith f (vr_A I L 1024)).1)), jv_H K I1 L1 R, n, sl) ∧ ((vx_arith f (vr_A I L 1024)).1 = 0 → vr_A I1 L1 1024 = (vx_arith f (vr_A I L 1024)).2 ∧ vr_okA I1 1024) ∧ vr_fr (fun x => x = 76800 + f.d) noE I L I1 L1 := by
  rcases Bool.eq_false_or_eq_true f.bit3 with hb | hb
  · by_cases h11 : f.n = 11
    · exact vq_arithR11 f hW hf D hfa hk47 hd11 hs11 oa tA gA hZ6 hb h11
    by_cases h13 : f.n = 13
    · exact vq_arithR13 f hW hf D hfa hk47 hd11 hs11 oa tA gA hZ6 hb h13
    rcases hk47 with k | k
    · exact vq_arithR0k4 f hW hf D hfa (Or.inl k) hd11 hs11 oa tA gA hZ6 hb h11 h13 k
    · exact vq_arithR0k7 f hW hf D hfa (Or.inr k) hd11 hs11 oa tA gA hZ6 hb h11 h13 k
  · by_cases h11 : f.n = 11
    · exact vq_arithI11 f hW hf D hfa hk47 hd11 hs11 oa tA gA hZ6 hb h11
    by_cases h13 : f.n = 13
    · exact vq_arithI13 f hW hf D hfa hk47 hd11 hs11 oa tA gA hZ6 hb h13
    rcases hk47 with k | k
    · exact vq_arithI0k4 f hW hf D hfa (Or.inl k) hd11 hs11 oa tA gA hZ6 hb h11 h13 k
    · exact vq_arithI0k7 f hW hf D hfa (Or.inr k) hd11 hs11 oa tA gA hZ6 hb h11 h13 k