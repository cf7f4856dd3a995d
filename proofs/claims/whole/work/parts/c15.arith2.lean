/-! part c15: arithmetic of the reference, the other cases (gen/tc15.py) -/
set_option maxRecDepth 8000 in
theorem vq_arithI0k4 {K : Nat → Option (Nat × Nat)} {I : Nat → Nat → Int32} {L : Nat → Nat → Int64} {R : Nat → Nat → Value} (f : vf_F) (hW : jv_rW K R) (hf : vr_fl I) (D : vr_dec I f) (hfa : vf_ar f) (hk47 : f.kind = 4 ∨ f.kind = 7) (hd11 : f.d < 11) (hs11 : f.s < 11) (oa : vr_okA I 1024) (tA : ∀ n, n < 75 → vt_ok (vr_T I L (76800 + n))) (gA : ∀ n, n < 75 → vt_g (vr_T I L (76800 + n))) (hZ6 : vb_toS (vr_S L 6) = vb_just 0) (hb : f.bit3 = false) (hN11 : f.n ≠ 11) (hN13 : f.n ≠ 13) (hK : f.kind = 4) {n sl : Nat} : ∃ I1 L1, jv_Ms 287 [.ref 196] (jv_H K I L R) n sl (some (.int (vl_I (vx_arith f (vr_A I L 1024)).1)), jv_H K I1 L1 R, n, sl) ∧ ((vx_arith f (vr_A I L 1024)).1 = 0 → vr_A I1 L1 1024 = (vx_arith f (vr_A I L 1024)).2 ∧ vr_okA I1 1024) ∧ vr_fr (fun x => x = 76800 + f.d) noE I L I1 L1 := by
  obtain ⟨Q, hQ⟩ : ∃ Q : jv_R → Prop, Q = fun X => ∃ I1 L1, X = (some (.int (vl_I (vx_arith f (vr_A I L 1024)).1)), jv_H K I1 L1 R, n, sl) ∧ ((vx_arith f (vr_A I L 1024)).1 = 0 → vr_A I1 L1 1024 = (vx_arith f (vr_A I L 1024)).2 ∧ vr_okA I1 1024) ∧ vr_fr (fun x => x = 76800 + f.d) noE I L I1 L1 := ⟨_, rfl⟩
  suffices h : jv_Wp 287 0 [(0, .ref 196)] [] (jv_H K I L R) n sl Q by
    rw [hQ] at h
    obtain ⟨X, h, I1, L1, e, h'⟩ := h
    subst e
    exact ⟨I1, L1, h, h'⟩
  have hn16 := vr_dn D
  have hk8 := vr_dk D
  have hd75 : f.d < 75 := by omega
  have hs75 : f.s < 75 := by omega
  have okd : vr_ok I (76800 + f.d) f.d := oa f.d hd75
  have oks : vr_ok I (76800 + f.s) f.s := oa f.s hs75
  obtain ⟨zd, hd⟩ : ∃ x : Nat, ∀ _ : Unit, (vr_T I L (76800 + f.d)).sort = x := ⟨_, fun _ => rfl⟩
  obtain ⟨zs, hs⟩ : ∃ x : Nat, ∀ _ : Unit, (vt_num (vx_just f.i)).sort = x := ⟨_, fun _ => rfl⟩
  obtain ⟨rd, hrd⟩ : ∃ x : Nat, ∀ _ : Unit, vr_rd (I 205 (76800 + f.d)) = x := ⟨_, fun _ => rfl⟩
  obtain ⟨rs, hrs⟩ : ∃ x : Nat, ∀ _ : Unit, vr_rd (I 205 (76800 + f.s)) = x := ⟨_, fun _ => rfl⟩
  have rdd : (zd = 0 → rd = 1) ∧ (zd ≠ 0 → rd = 0) := by rw [← hd (), ← hrd ()]; exact vr_rd_f okd hd11
  have W : vr_fr noP noE I L I L := vr_fr_refl hf
  have q0 := hfa.1
  have q8 := hfa.2.1
  have q11 := hfa.2.2.2.1
  have eD : (vr_A I L 1024).1 f.d = (vr_T I L (76800 + f.d)) := vr_A1 hd75
  have eY : vx_y f (vr_A I L 1024) = (vt_num (vx_just f.i)) := (if_neg (by rw [hb]; decide))
  have ys : zs = 1 := (hs ()).symm
  refine jv_Wp.lift (fun _ Kz => jv_Ev.steps jv_i287 1 (pc' := 1) (l' := [(0, .ref 196)]) (st' := [.ref 196]) rfl Kz) ?_
  refine jv_Wp.lift (fun _ Kz => jv_Ev.c jv_i287 (pc' := 4) (S' := [.int (vl_I f.n)]) jv_i258 [.ref 196] rfl rfl rfl rfl (jv_cal rfl (jv_H_at (jv_rwK hW 196 12 24 (by decide))) rfl rfl) rfl (vq_n f hW D) rfl rfl Kz) ?_
  refine jv_Wp.lift (fun _ Kz => jv_Ev.steps jv_i287 1 (pc' := 6) (l' := [(0, .ref 196)]) (st' := [.int (11 : Int32), .int (vl_I f.n)]) rfl Kz) ?_
  refine jv_Wp.cnd jv_i287 (pt := 13) (pe := 9) (p := (¬ (vl_I f.n) = (11 : Int32))) (q := (¬ (vl_I f.n) = (11 : Int32))) rfl jv_bc_ne rfl rfl Iff.rfl (fun _ => ?_) (fun hz => absurd (fun z => by have y := (vr_sm (v := 11) (by omega) (by decide) rfl).mp z; omega) hz)
  refine jv_Wp.lift (fun _ Kz => jv_Ev.steps jv_i287 3 (pc' := 16) (l' := [(1, .int (0 : Int32)), (0, .ref 196)]) (st' := [.int (0 : Int32)]) rfl Kz) ?_
  refine jv_Wp.lift (fun _ Kz => jv_Ev.br jv_i287 (pc' := 23) (st' := []) rfl (by rfl) Kz) ?_
  refine jv_Wp.lift (fun _ Kz => jv_Ev.steps jv_i287 2 (pc' := 25) (l' := [(1, .int (0 : Int32)), (0, .ref 196)]) (st' := [.ref 196, .ref 196]) rfl Kz) ?_
  refine jv_Wp.lift (fun _ Kz => jv_Ev.m jv_i287 (pc' := 28) (st' := [.int (vl_I f.d), .ref 196]) (G' := (jv_H K I L R)) rfl rfl (jv_m_getI (jv_rwK hW 196 12 24 (by decide)) rfl rfl D.2.1) Kz) ?_
  have Hr1 := vq_readsW (n := n) (sl := sl) W f.d hW (by omega)
  rw [hrd ()] at Hr1
  refine jv_Wp.lift (fun _ Kz => jv_Ev.c jv_i287 (pc' := 31) (S' := [.int (vl_I rd)]) jv_i283 [.ref 196, .int (vl_I f.d)] rfl rfl rfl rfl (jv_cal rfl (jv_H_at (jv_rwK hW 196 12 24 (by decide))) rfl rfl) rfl Hr1 rfl rfl Kz) ?_
  refine jv_Wp.lift (fun _ Kz => jv_Ev.steps jv_i287 1 (pc' := 32) (l' := [(1, .int (0 : Int32)), (0, .ref 196)]) (st' := [.ref 196, .int (vl_I rd)]) rfl Kz) ?_
  refine jv_Wp.lift (fun _ Kz => jv_Ev.c jv_i287 (pc' := 35) (S' := [.int (vr_b f.bit3), .int (vl_I rd)]) jv_i259 [.ref 196] rfl rfl rfl rfl (jv_cal rfl (jv_H_at (jv_rwK hW 196 12 24 (by decide))) rfl rfl) rfl (vq_bit3 f hW D) rfl rfl Kz) ?_
  refine jv_Wp.cnd jv_i287 (pt := 58) (pe := 38) (p := ((vr_b f.bit3) = 0)) (q := ((vr_b f.bit3) = 0)) rfl jv_bi_eq rfl rfl Iff.rfl (fun _ => ?_) (fun hz => absurd (by rw [hb]; rfl) hz)
  refine jv_Wp.lift (fun _ Kz => jv_Ev.steps jv_i287 1 (pc' := 59) (l' := [(1, .int (0 : Int32)), (0, .ref 196)]) (st' := [.int (0 : Int32), .int (vl_I rd)]) rfl Kz) ?_
  obtain ⟨w2, hq2⟩ : ∃ x : Nat, ∀ _ : Unit, vx_fst rd 0 = x := ⟨_, fun _ => rfl⟩
  have fq : (rd = 0 → w2 = 0) ∧ (0 = 0 → w2 = rd) ∧ (w2 = rd ∨ w2 = 0) := by rw [← hq2 ()]; exact vx_fst_f rd 0
  have Hf2 := vq_first (I := I) (L := L) (K := K) (R := R) (n := n) (sl := sl) rd 0 (by omega) (by omega)
  rw [hq2 ()] at Hf2
  refine jv_Wp.lift (fun _ Kz => jv_Ev.c jv_i287 (pc' := 62) (S' := [.int (vl_I w2)]) jv_i282 [.int (vl_I rd), .int (0 : Int32)] rfl rfl rfl rfl rfl rfl Hf2 rfl rfl Kz) ?_
  refine jv_Wp.lift (fun _ Kz => jv_Ev.steps jv_i287 2 (pc' := 64) (l' := [(2, .int (vl_I w2)), (1, .int (0 : Int32)), (0, .ref 196)]) (st' := [.int (vl_I w2)]) rfl Kz) ?_
  refine jv_Wp.cnd jv_i287 (pt := 69) (pe := 67) (p := ((vl_I w2) ≤ 0)) (q := ((vl_I w2) ≤ 0)) rfl jv_bi_le rfl rfl Iff.rfl (fun h1 => ?_) (fun h1 => ?_)
  · refine jv_Wp.lift (fun _ Kz => jv_Ev.steps jv_i287 1 (pc' := 70) (l' := [(2, .int (vl_I w2)), (1, .int (0 : Int32)), (0, .ref 196)]) (st' := [.ref 196]) rfl Kz) ?_
    refine jv_Wp.lift (fun _ Kz => jv_Ev.c jv_i287 (pc' := 73) (S' := [.int (vr_b f.bit3)]) jv_i259 [.ref 196] rfl rfl rfl rfl (jv_cal rfl (jv_H_at (jv_rwK hW 196 12 24 (by decide))) rfl rfl) rfl (vq_bit3 f hW D) rfl rfl Kz) ?_
    refine jv_Wp.cnd jv_i287 (pt := 89) (pe := 76) (p := ((vr_b f.bit3) = 0)) (q := ((vr_b f.bit3) = 0)) rfl jv_bi_eq rfl rfl Iff.rfl (fun _ => ?_) (fun hz => absurd (by rw [hb]; rfl) hz)
    refine jv_Wp.lift (fun _ Kz => jv_Ev.steps jv_i287 3 (pc' := 92) (l' := [(3, .int (0 : Int32)), (2, .int (vl_I w2)), (1, .int (0 : Int32)), (0, .ref 196)]) (st' := [.int (0 : Int32)]) rfl Kz) ?_
    refine jv_Wp.lift (fun _ Kz => jv_Ev.br jv_i287 (pc' := 135) (st' := []) rfl (by rfl) Kz) ?_
    refine jv_Wp.lift (fun _ Kz => jv_Ev.steps jv_i287 1 (pc' := 136) (l' := [(3, .int (0 : Int32)), (2, .int (vl_I w2)), (1, .int (0 : Int32)), (0, .ref 196)]) (st' := [.ref 196]) rfl Kz) ?_
    refine jv_Wp.lift (fun _ Kz => jv_Ev.m jv_i287 (pc' := 139) (st' := [.ref 208]) (G' := (jv_H K I L R)) rfl rfl (jv_m_getR (jv_rwK hW 196 12 24 (by decide)) rfl rfl (jv_rwR hW 196 16 208 (by decide))) Kz) ?_
    refine jv_Wp.lift (fun _ Kz => jv_Ev.steps jv_i287 2 (pc' := 141) (l' := [(3, .int (0 : Int32)), (2, .int (vl_I w2)), (1, .int (0 : Int32)), (0, .ref 196)]) (st' := [.ref 196, .int (5 : Int32), .ref 208]) rfl Kz) ?_
    refine jv_Wp.lift (fun _ Kz => jv_Ev.m jv_i287 (pc' := 144) (st' := [.int (Int32.ofInt f.i), .int (5 : Int32), .ref 208]) (G' := (jv_H K I L R)) rfl rfl (jv_m_getI (jv_rwK hW 196 12 24 (by decide)) rfl rfl (vr_dJ D)) Kz) ?_
    refine jv_Wp.lift (fun _ Kz => jv_Ev.steps jv_i287 1 (pc' := 145) (l' := [(3, .int (0 : Int32)), (2, .int (vl_I w2)), (1, .int (0 : Int32)), (0, .ref 196)]) (st' := [.long (Int32.ofInt f.i).toInt64, .int (5 : Int32), .ref 208]) rfl Kz) ?_
    obtain ⟨I3, L3, H3, S3, F3⟩ := vq_single (I := I) (L := L) (R := R) (n := n) (sl := sl) (d := 5) (Int32.ofInt f.i).toInt64 hW (by decide) hf
    have Z3 := F3.1
    have D3 := vr_dec_rf F3 D
    have W3 : vr_fr noP noE I L I3 L3 := vr_fr_trans W (vq_rf_fr F3 (by decide))
    have Y3 : vb_toS (vr_S L3 5) = vx_just f.i := by rw [S3, vb_toS_just]; exact vx_just_32 _ _ (vr_dQ D)
    have Yt3 : vb_tight (vb_toS (vr_S L3 5)) := by rw [Y3]; exact vb_just_tight _
    refine jv_Wp.lift (fun _ Kz => jv_Ev.c jv_i287 (pc' := 148) (S' := []) (G1 := (jv_H K I3 L3 R)) jv_i217 [.ref 208, .int (5 : Int32), .long (Int32.ofInt f.i).toInt64] rfl rfl rfl rfl (jv_cal rfl (jv_H_at (jv_rwK hW 208 11 7 (by decide))) rfl rfl) rfl H3 rfl rfl Kz) ?_
    refine jv_Wp.lift (fun _ Kz => jv_Ev.steps jv_i287 1 (pc' := 149) (l' := [(3, .int (0 : Int32)), (2, .int (vl_I w2)), (1, .int (0 : Int32)), (0, .ref 196)]) (st' := [.ref 196]) rfl Kz) ?_
    refine jv_Wp.lift (fun _ Kz => jv_Ev.c jv_i287 (pc' := 152) (S' := [.int (vl_I f.kind)]) jv_i257 [.ref 196] rfl rfl rfl rfl (jv_cal rfl (jv_H_at (jv_rwK hW 196 12 24 (by decide))) rfl rfl) rfl (vq_kind f hW D3) rfl rfl Kz) ?_
    refine jv_Wp.lift (fun _ Kz => jv_Ev.steps jv_i287 1 (pc' := 153) (l' := [(3, .int (0 : Int32)), (2, .int (vl_I w2)), (1, .int (0 : Int32)), (0, .ref 196)]) (st' := [.int (4 : Int32), .int (vl_I f.kind)]) rfl Kz) ?_
    refine jv_Wp.cnd jv_i287 (pt := 167) (pe := 156) (p := (¬ (vl_I f.kind) = (4 : Int32))) (q := (¬ (vl_I f.kind) = (4 : Int32))) rfl jv_bc_ne rfl rfl Iff.rfl (fun hz => absurd hz (fun z => z ((vr_sm (v := 4) (by omega) (by decide) rfl).mpr hK))) (fun _ => ?_)
    refine jv_Wp.lift (fun _ Kz => jv_Ev.steps jv_i287 1 (pc' := 157) (l' := [(3, .int (0 : Int32)), (2, .int (vl_I w2)), (1, .int (0 : Int32)), (0, .ref 196)]) (st' := [.ref 196]) rfl Kz) ?_
    refine jv_Wp.lift (fun _ Kz => jv_Ev.m jv_i287 (pc' := 160) (st' := [.ref 208]) (G' := (jv_H K I3 L3 R)) rfl rfl (jv_m_getR (jv_rwK hW 196 12 24 (by decide)) rfl rfl (jv_rwR hW 196 16 208 (by decide))) Kz) ?_
    refine jv_Wp.lift (fun _ Kz => jv_Ev.steps jv_i287 3 (pc' := 164) (l' := [(3, .int (0 : Int32)), (2, .int (vl_I w2)), (1, .int (0 : Int32)), (0, .ref 196)]) (st' := [.int (32 : Int32), .int (5 : Int32), .int (5 : Int32), .ref 208]) rfl Kz) ?_
    obtain ⟨I4, L4, H4, S4, F4⟩ := vq_cut (I := I3) (L := L3) (R := R) (n := n) (sl := sl) (a := 5) (d := 5) (m := 32) (by decide) hW (by decide) (by decide) (by decide) (by decide) Z3 Yt3
    have Z4 := F4.1
    have D4 := vr_dec_rf F4 D3
    have W4 : vr_fr noP noE I L I4 L4 := vr_fr_trans W3 (vq_rf_fr F4 (by decide))
    have Y4 : vb_toS (vr_S L4 5) = vx_cut (vx_just f.i) 32 := by rw [S4, vb_toS_toR, Y3]
    have Yt4 : vb_tight (vb_toS (vr_S L4 5)) := by rw [Y4]; exact (vx_cut_in (vb_just_mem _)).1
    refine jv_Wp.lift (fun _ Kz => jv_Ev.c jv_i287 (pc' := 167) (S' := []) (G1 := (jv_H K I4 L4 R)) jv_i219 [.ref 208, .int (5 : Int32), .int (5 : Int32), .int (32 : Int32)] rfl rfl rfl rfl (jv_cal rfl (jv_H_at (jv_rwK hW 208 11 7 (by decide))) rfl rfl) rfl H4 rfl rfl Kz) ?_
    refine jv_Wp.lift (fun _ Kz => jv_Ev.steps jv_i287 1 (pc' := 168) (l' := [(3, .int (0 : Int32)), (2, .int (vl_I w2)), (1, .int (0 : Int32)), (0, .ref 196)]) (st' := [.int (0 : Int32)]) rfl Kz) ?_
    refine jv_Wp.lift (fun _ Kz => jv_Ev.br jv_i287 (pc' := 171) (st' := []) rfl (by rfl) Kz) ?_
    refine jv_Wp.lift (fun _ Kz => jv_Ev.steps jv_i287 2 (pc' := 173) (l' := [(3, .int (0 : Int32)), (2, .int (vl_I w2)), (1, .int (0 : Int32)), (0, .ref 196)]) (st' := [.ref 196, .ref 196]) rfl Kz) ?_
    refine jv_Wp.lift (fun _ Kz => jv_Ev.m jv_i287 (pc' := 176) (st' := [.int (vl_I f.d), .ref 196]) (G' := (jv_H K I4 L4 R)) rfl rfl (jv_m_getI (jv_rwK hW 196 12 24 (by decide)) rfl rfl D4.2.1) Kz) ?_
    refine jv_Wp.lift (fun _ Kz => jv_Ev.c jv_i287 (pc' := 179) (S' := [.int (I 205 (76800 + f.d))]) jv_i271 [.ref 196, .int (vl_I f.d)] rfl rfl rfl rfl (jv_cal rfl (jv_H_at (jv_rwK hW 196 12 24 (by decide))) rfl rfl) rfl (vq_sortOfW W4 f.d hW (by omega)) rfl rfl Kz) ?_
    refine jv_Wp.lift (fun _ Kz => jv_Ev.steps jv_i287 1 (pc' := 180) (l' := [(3, .int (0 : Int32)), (2, .int (vl_I w2)), (1, .int (0 : Int32)), (0, .ref 196)]) (st' := [.int (1 : Int32), .int (I 205 (76800 + f.d))]) rfl Kz) ?_
    refine jv_Wp.cnd jv_i287 (pt := 203) (pe := 183) (p := (¬ (I 205 (76800 + f.d)) = (1 : Int32))) (q := (¬ (I 205 (76800 + f.d)) = (1 : Int32))) rfl jv_bc_ne rfl rfl Iff.rfl (fun h2 => ?_) (fun h2 => ?_)
    · refine jv_Wp.lift (fun _ Kz => jv_Ev.steps jv_i287 3 (pc' := 208) (l' := [(4, .int (0 : Int32)), (3, .int (0 : Int32)), (2, .int (vl_I w2)), (1, .int (0 : Int32)), (0, .ref 196)]) (st' := [.int (0 : Int32)]) rfl Kz) ?_
      refine jv_Wp.lift (fun _ Kz => jv_Ev.br jv_i287 (pc' := 245) (st' := []) rfl (by rfl) Kz) ?_
      refine jv_Wp.lift (fun _ Kz => jv_Ev.steps jv_i287 1 (pc' := 246) (l' := [(4, .int (0 : Int32)), (3, .int (0 : Int32)), (2, .int (vl_I w2)), (1, .int (0 : Int32)), (0, .ref 196)]) (st' := [.ref 196]) rfl Kz) ?_
      refine jv_Wp.lift (fun _ Kz => jv_Ev.c jv_i287 (pc' := 249) (S' := [.int (vl_I f.kind)]) jv_i257 [.ref 196] rfl rfl rfl rfl (jv_cal rfl (jv_H_at (jv_rwK hW 196 12 24 (by decide))) rfl rfl) rfl (vq_kind f hW D4) rfl rfl Kz) ?_
      refine jv_Wp.lift (fun _ Kz => jv_Ev.steps jv_i287 1 (pc' := 250) (l' := [(4, .int (0 : Int32)), (3, .int (0 : Int32)), (2, .int (vl_I w2)), (1, .int (0 : Int32)), (0, .ref 196)]) (st' := [.int (4 : Int32), .int (vl_I f.kind)]) rfl Kz) ?_
      refine jv_Wp.cnd jv_i287 (pt := 261) (pe := 253) (p := ((vl_I f.kind) = (4 : Int32))) (q := ((vl_I f.kind) = (4 : Int32))) rfl jv_bc_eq rfl rfl Iff.rfl (fun _ => ?_) (fun hz => absurd ((vr_sm (v := 4) (by omega) (by decide) rfl).mpr hK) hz)
      refine jv_Wp.lift (fun _ Kz => jv_Ev.steps jv_i287 1 (pc' := 262) (l' := [(4, .int (0 : Int32)), (3, .int (0 : Int32)), (2, .int (vl_I w2)), (1, .int (0 : Int32)), (0, .ref 196)]) (st' := [.int (2 : Int32)]) rfl Kz) ?_
      refine jv_Wp.of (jv_Ev.ret jv_i287 rfl rfl) ?_
      rw [hQ]
      have td1 : ¬ zd = 1 := fun z => h2 ((vr_is 1 (by decide) okd).mp ((hd ()).trans z))
      have fe : w2 ≤ 0 := (vl_I_le (b := 0) (by omega) (by decide)).mp h1
      have a1 : ¬ vx_a1 f (vr_T I L (76800 + f.d)) (vt_num (vx_just f.i)) := by unfold vx_a1; rw [hd (), hs ()]; omega
      have a2 : ¬ (f.n = 11 ∧ f.kind = 7 ∧ f.o = 0) := by omega
      have a3 : vx_a3 f (vr_T I L (76800 + f.d)) (vt_num (vx_just f.i)) := by unfold vx_a3; rw [hd (), hs ()]; omega
      have e : vx_ar f (vr_T I L (76800 + f.d)) (vt_num (vx_just f.i)) = (2, (vr_T I L (76800 + f.d))) := by
        by_cases c : f.kind = 7 ∧ (f.n = 0 ∨ f.n = 1)
        · exact (vx_ar3 a1 a2 a3 c).trans (vx_move2 (by rw [hd (), hs ()]; omega) (by rw [hd (), hs ()]; omega))
        · exact vx_ar4 a1 a2 a3 c
      have g := vq_arE (L := L) (f := f) (c := 2) hd75 oa (by rw [eD, eY]; exact congrArg Prod.fst e) (fun z => absurd z (by decide)) (vr_fr_P W4 (fun _ z => z.elim))
      exact ⟨_, _, by rw [g.1]; rfl, g.2, vr_fr_P W4 (fun _ z => z.elim)⟩
    · refine jv_Wp.lift (fun _ Kz => jv_Ev.steps jv_i287 1 (pc' := 184) (l' := [(3, .int (0 : Int32)), (2, .int (vl_I w2)), (1, .int (0 : Int32)), (0, .ref 196)]) (st' := [.int (0 : Int32)]) rfl Kz) ?_
      refine jv_Wp.lift (fun _ Kz => jv_Ev.br jv_i287 (pc' := 199) (st' := []) rfl (by rfl) Kz) ?_
      refine jv_Wp.lift (fun _ Kz => jv_Ev.steps jv_i287 4 (pc' := 208) (l' := [(4, .int (1 : Int32)), (3, .int (0 : Int32)), (2, .int (vl_I w2)), (1, .int (0 : Int32)), (0, .ref 196)]) (st' := [.int (1 : Int32)]) rfl Kz) ?_
      refine jv_Wp.lift (fun _ Kz => jv_Ev.br jv_i287 (pc' := 211) (st' := []) rfl (by rfl) Kz) ?_
      refine jv_Wp.lift (fun _ Kz => jv_Ev.steps jv_i287 3 (pc' := 216) (l' := [(4, .int (1 : Int32)), (3, .int (0 : Int32)), (2, .int (vl_I w2)), (1, .int (0 : Int32)), (0, .ref 196)]) (st' := [.ref 196, .int (1024 : Int32), .ref 196]) rfl Kz) ?_
      refine jv_Wp.lift (fun _ Kz => jv_Ev.m jv_i287 (pc' := 219) (st' := [.int (vl_I f.d), .int (1024 : Int32), .ref 196]) (G' := (jv_H K I4 L4 R)) rfl rfl (jv_m_getI (jv_rwK hW 196 12 24 (by decide)) rfl rfl D4.2.1) Kz) ?_
      refine jv_Wp.lift (fun _ Kz => jv_Ev.c jv_i287 (pc' := 222) (S' := [.int (vl_I (8 + (76800 + f.d))), .ref 196]) jv_i254 [.int (1024 : Int32), .int (vl_I f.d)] rfl rfl rfl rfl rfl rfl (vq_row 1024 f.d) rfl rfl Kz) ?_
      refine jv_Wp.lift (fun _ Kz => jv_Ev.steps jv_i287 1 (pc' := 223) (l' := [(4, .int (1 : Int32)), (3, .int (0 : Int32)), (2, .int (vl_I w2)), (1, .int (0 : Int32)), (0, .ref 196)]) (st' := [.int (0 : Int32), .int (vl_I (8 + (76800 + f.d))), .ref 196]) rfl Kz) ?_
      refine jv_Wp.lift (fun _ Kz => jv_Ev.br jv_i287 (pc' := 239) (st' := [.int (vl_I (8 + (76800 + f.d))), .ref 196]) rfl (by rfl) Kz) ?_
      refine jv_Wp.lift (fun _ Kz => jv_Ev.steps jv_i287 1 (pc' := 240) (l' := [(4, .int (1 : Int32)), (3, .int (0 : Int32)), (2, .int (vl_I w2)), (1, .int (0 : Int32)), (0, .ref 196)]) (st' := [.int (5 : Int32), .int (vl_I (8 + (76800 + f.d))), .ref 196]) rfl Kz) ?_
      have td1 : zd = 1 := (hd ()).symm.trans ((vr_is 1 (by decide) okd).mpr (Classical.not_not.mp h2))
      have fe : w2 ≤ 0 := (vl_I_le (b := 0) (by omega) (by decide)).mp h1
      obtain ⟨I5, L5, H5, T5, O5, F5⟩ := vq_reckonB (I := I4) (L := L4) (R := R) (n := n) (sl := sl) f (8 + (76800 + f.d)) 5 hW Z4 D4 hfa (by omega) (by omega) (by omega) (by omega) (by omega) ((congrArg vb_toS (vr_fr_6 W4)).trans hZ6) (fun _ => by rw [vr_fr_S W4 (fun z => z)]; exact vr_tight okd (tA f.d (by omega)) (by rw [(vr_is 1 (by decide) okd).mp ((hd ()).trans (by omega))]; rfl)) (fun _ _ => Yt4) (by omega)
      refine jv_Wp.lift (fun _ Kz => jv_Ev.c jv_i287 (pc' := 243) (S' := []) (G1 := (jv_H K I5 L5 R)) jv_i285 [.ref 196, .int (vl_I (8 + (76800 + f.d))), .int (5 : Int32)] rfl rfl rfl rfl (jv_cal rfl (jv_H_at (jv_rwK hW 196 12 24 (by decide))) rfl rfl) rfl H5 rfl rfl Kz) ?_
      refine jv_Wp.lift (fun _ Kz => jv_Ev.steps jv_i287 1 (pc' := 244) (l' := [(4, .int (1 : Int32)), (3, .int (0 : Int32)), (2, .int (vl_I w2)), (1, .int (0 : Int32)), (0, .ref 196)]) (st' := [.int (0 : Int32)]) rfl Kz) ?_
      refine jv_Wp.of (jv_Ev.ret jv_i287 rfl rfl) ?_
      rw [hQ]
      have td1 : zd = 1 := (hd ()).symm.trans ((vr_is 1 (by decide) okd).mpr (Classical.not_not.mp h2))
      have fe : w2 ≤ 0 := (vl_I_le (b := 0) (by omega) (by decide)).mp h1
      have a1 : ¬ vx_a1 f (vr_T I L (76800 + f.d)) (vt_num (vx_just f.i)) := by unfold vx_a1; rw [hd (), hs ()]; omega
      have a2 : ¬ (f.n = 11 ∧ f.kind = 7 ∧ f.o = 0) := by omega
      have a3 : ¬ vx_a3 f (vr_T I L (76800 + f.d)) (vt_num (vx_just f.i)) := by unfold vx_a3; rw [hd (), hs ()]; omega
      have e := vx_ar5 a1 a2 a3
      have ev : vx_reckon f (vb_toS (vr_S L4 (8 + (76800 + f.d)))) (vb_toS (vr_S L4 5)) = vx_reckon f (vr_T I L (76800 + f.d)).val (vt_num (vx_just f.i)).val := by
        rw [Y4, vr_fr_S W4 (fun z => z)]
        rw [vx_reckon_cut hfa hK]
        show _ = vx_reckon f (vr_T I L (76800 + f.d)).val (vx_just f.i)
        rw [show (vr_T I L (76800 + f.d)).val = (vb_toS (vr_S L (8 + (76800 + f.d)))) from vr_valv (by rw [(vr_is 1 (by decide) okd).mp ((hd ()).trans (by omega))]; rfl)]
      have g := vq_arE (L := L) (f := f) (c := 0) hd75 oa (by rw [eD, eY]; exact congrArg Prod.fst e) (fun _ => ⟨by rw [eD, eY, e, T5, ev], O5⟩) (vr_fr_trans (vr_fr_P W4 (fun _ z => z.elim)) F5)
      exact ⟨_, _, by rw [g.1]; rfl, g.2, vr_fr_trans (vr_fr_P W4 (fun _ z => z.elim)) F5⟩
  · refine jv_Wp.lift (fun _ Kz => jv_Ev.steps jv_i287 1 (pc' := 68) (l' := [(2, .int (vl_I w2)), (1, .int (0 : Int32)), (0, .ref 196)]) (st' := [.int (vl_I w2)]) rfl Kz) ?_
    refine jv_Wp.of (jv_Ev.ret jv_i287 rfl rfl) ?_
    rw [hQ]
    have fe : ¬ w2 ≤ 0 := fun z => h1 ((vl_I_le (b := 0) (by omega) (by decide)).mpr z)
    have a1 : vx_a1 f (vr_T I L (76800 + f.d)) (vt_num (vx_just f.i)) := by unfold vx_a1; rw [hd (), hs ()]; omega
    have c1 : w2 = 1 := by omega
    have e := vx_ar1 a1
    have g := vq_arE (L := L) (f := f) (c := 1) hd75 oa (by rw [eD, eY]; exact congrArg Prod.fst e) (fun z => absurd z (by decide)) (vr_fr_refl hf)
    exact ⟨_, _, by rw [g.1]; rw [c1], g.2, vr_fr_refl hf⟩