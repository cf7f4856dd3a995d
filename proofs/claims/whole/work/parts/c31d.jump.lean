/-! part c31d: a jump of the reference, case 3 (gen/tc31.py) -/
set_option maxRecDepth 8000 in
theorem vq_jumpI6 {K : Nat → Option (Nat × Nat)} {I : Nat → Nat → Int32} {L : Nat → Nat → Int64} {R : Nat → Nat → Value} {st : vz_S} (f : vf_F) (p : Nat) (hW : jv_rW K R) (hf : vr_fl I) (hS : vr_ST I L st) (D : vr_dec I f) (gF18 : I 196 18 = vl_I p) (hp : p < 1024) (hch : ∀ q, st.2 q < 2147483000) (hd11 : f.d < 11) (hs11 : f.s < 11) (oa : vr_okA I 1024) (tA : ∀ n, n < 75 → vt_ok (vr_T I L (76800 + n))) (gA : ∀ n, n < 75 → vt_g (vr_T I L (76800 + n))) (hh : I 202 1024 = vr_b true) (hj : vr_j10 I) (gT10 : (vr_T I L (76800 + 10)).sort ≠ 1) (gM10 : (vr_T I L (76800 + 10)).sort ≠ 8) (hZ6 : vb_toS (vr_S L 6) = vb_just 0) (gd : ∀ B, (vx_jump f (vr_A I L 1024)).2.1 = some B → vt_okA B) (gj : ∀ B, (vx_jump f (vr_A I L 1024)).2.2 = some B → vt_okA B) (p1 : p + 1 < 1024) (p2 : 0 ≤ (p : Int) + 1 + f.o ∧ (p : Int) + 1 + f.o < 1024) (hk56 : f.kind = 6) (hb : f.bit3 = false) {n sl : Nat} : ∃ I1 L1, jv_Ms 309 [.ref 196, .int (vl_I p)] (jv_H K I L R) n sl (some (.int (vl_I (vx_jump f (vr_A I L 1024)).1)), jv_H K I1 L1 R, n, sl) ∧ ((vx_jump f (vr_A I L 1024)).1 = 0 → vr_ST I1 L1 (vz_gos p (vx_jl f p (vx_jump f (vr_A I L 1024))) st).1 ∧ I1 196 17 = (if (vz_gos p (vx_jl f p (vx_jump f (vr_A I L 1024))) st).2 = true then 1 else I 196 17)) ∧ vr_fr anyP vr_E17 I L I1 L1 ∧ vr_j10 I1 := by
  obtain ⟨Q, hQ⟩ : ∃ Q : jv_R → Prop, Q = fun X => ∃ I1 L1, X = (some (.int (vl_I (vx_jump f (vr_A I L 1024)).1)), jv_H K I1 L1 R, n, sl) ∧ ((vx_jump f (vr_A I L 1024)).1 = 0 → vr_ST I1 L1 (vz_gos p (vx_jl f p (vx_jump f (vr_A I L 1024))) st).1 ∧ I1 196 17 = (if (vz_gos p (vx_jl f p (vx_jump f (vr_A I L 1024))) st).2 = true then 1 else I 196 17)) ∧ vr_fr anyP vr_E17 I L I1 L1 ∧ vr_j10 I1 := ⟨_, rfl⟩
  suffices h : jv_Wp 309 0 [(0, .ref 196), (1, .int (vl_I p))] [] (jv_H K I L R) n sl Q by
    rw [hQ] at h
    obtain ⟨X, h, I1, L1, e, h'⟩ := h
    subst e
    exact ⟨I1, L1, h, h'⟩
  have hn16 := vr_dn D
  have hk8 := vr_dk D
  have okd : vr_ok I (76800 + f.d) f.d := oa f.d (by omega)
  have oks : vr_ok I (76800 + f.s) f.s := oa f.s (by omega)
  have W : vr_fr noP noE I L I L := vr_fr_refl hf
  have eD : (vr_A I L 1024).1 f.d = (vr_T I L (76800 + f.d)) := vr_A1 (by omega)
  have eY : vx_y f (vr_A I L 1024) = (vt_num (vx_just f.i)) := (if_neg (by rw [hb]; decide))
  obtain ⟨zd, hd⟩ : ∃ x : Nat, ∀ _ : Unit, (vr_T I L (76800 + f.d)).sort = x := ⟨_, fun _ => rfl⟩
  obtain ⟨zs, hs⟩ : ∃ x : Nat, ∀ _ : Unit, (vt_num (vx_just f.i)).sort = x := ⟨_, fun _ => rfl⟩
  obtain ⟨rd, hrd⟩ : ∃ x : Nat, ∀ _ : Unit, vr_rd (I 205 (76800 + f.d)) = x := ⟨_, fun _ => rfl⟩
  have rdd : (zd = 0 → rd = 1) ∧ (zd ≠ 0 → rd = 0) := by rw [← hd (), ← hrd ()]; exact vr_rd_f okd hd11
  have zs1 : zs = 1 := (hs ()).symm
  refine jv_Wp.lift (fun _ Kz => jv_Ev.steps jv_i309 2 (pc' := 2) (l' := [(0, .ref 196), (1, .int (vl_I p))]) (st' := [.ref 196, .ref 196]) rfl Kz) ?_
  refine jv_Wp.lift (fun _ Kz => jv_Ev.m jv_i309 (pc' := 5) (st' := [.int (vl_I f.d), .ref 196]) (G' := (jv_H K I L R)) rfl rfl (jv_m_getI (jv_rwK hW 196 12 24 (by decide)) rfl rfl D.2.1) Kz) ?_
  have Hr13 := vq_readsW (n := n) (sl := sl) W f.d hW (by omega)
  rw [hrd ()] at Hr13
  refine jv_Wp.lift (fun _ Kz => jv_Ev.c jv_i309 (pc' := 8) (S' := [.int (vl_I rd)]) jv_i283 [.ref 196, .int (vl_I f.d)] rfl rfl rfl rfl (jv_cal rfl (jv_H_at (jv_rwK hW 196 12 24 (by decide))) rfl rfl) rfl Hr13 rfl rfl Kz) ?_
  refine jv_Wp.lift (fun _ Kz => jv_Ev.steps jv_i309 1 (pc' := 9) (l' := [(0, .ref 196), (1, .int (vl_I p))]) (st' := [.ref 196, .int (vl_I rd)]) rfl Kz) ?_
  refine jv_Wp.lift (fun _ Kz => jv_Ev.c jv_i309 (pc' := 12) (S' := [.int (vr_b f.bit3), .int (vl_I rd)]) jv_i259 [.ref 196] rfl rfl rfl rfl (jv_cal rfl (jv_H_at (jv_rwK hW 196 12 24 (by decide))) rfl rfl) rfl (vq_bit3 f hW D) rfl rfl Kz) ?_
  refine jv_Wp.cnd jv_i309 (pt := 26) (pe := 15) (p := ((vr_b f.bit3) = 0)) (q := ((vr_b f.bit3) = 0)) rfl jv_bi_eq rfl rfl Iff.rfl (fun _ => ?_) (fun hz => absurd (by rw [hb]; rfl) hz)
  refine jv_Wp.lift (fun _ Kz => jv_Ev.steps jv_i309 1 (pc' := 27) (l' := [(0, .ref 196), (1, .int (vl_I p))]) (st' := [.int (0 : Int32), .int (vl_I rd)]) rfl Kz) ?_
  have Hf14 := vq_first (I := I) (L := L) (K := K) (R := R) (n := n) (sl := sl) rd 0 (by omega) (by decide)
  rw [(vx_fst_g rd 0).2.1 rfl] at Hf14
  refine jv_Wp.lift (fun _ Kz => jv_Ev.c jv_i309 (pc' := 30) (S' := [.int (vl_I rd)]) jv_i282 [.int (vl_I rd), .int (0 : Int32)] rfl rfl rfl rfl rfl rfl Hf14 rfl rfl Kz) ?_
  refine jv_Wp.lift (fun _ Kz => jv_Ev.steps jv_i309 2 (pc' := 32) (l' := [(2, .int (vl_I rd)), (0, .ref 196), (1, .int (vl_I p))]) (st' := [.int (vl_I rd)]) rfl Kz) ?_
  refine jv_Wp.cnd jv_i309 (pt := 37) (pe := 35) (p := ((vl_I rd) ≤ 0)) (q := ((vl_I rd) ≤ 0)) rfl jv_bi_le rfl rfl Iff.rfl (fun h1 => ?_) (fun h1 => ?_)
  · refine jv_Wp.lift (fun _ Kz => jv_Ev.steps jv_i309 1 (pc' := 38) (l' := [(2, .int (vl_I rd)), (0, .ref 196), (1, .int (vl_I p))]) (st' := [.ref 196]) rfl Kz) ?_
    refine jv_Wp.lift (fun _ Kz => jv_Ev.m jv_i309 (pc' := 41) (st' := [.ref 208]) (G' := (jv_H K I L R)) rfl rfl (jv_m_getR (jv_rwK hW 196 12 24 (by decide)) rfl rfl (jv_rwR hW 196 16 208 (by decide))) Kz) ?_
    refine jv_Wp.lift (fun _ Kz => jv_Ev.steps jv_i309 2 (pc' := 43) (l' := [(2, .int (vl_I rd)), (0, .ref 196), (1, .int (vl_I p))]) (st' := [.ref 196, .int (5 : Int32), .ref 208]) rfl Kz) ?_
    refine jv_Wp.lift (fun _ Kz => jv_Ev.m jv_i309 (pc' := 46) (st' := [.int (Int32.ofInt f.i), .int (5 : Int32), .ref 208]) (G' := (jv_H K I L R)) rfl rfl (jv_m_getI (jv_rwK hW 196 12 24 (by decide)) rfl rfl (vr_dJ D)) Kz) ?_
    refine jv_Wp.lift (fun _ Kz => jv_Ev.steps jv_i309 1 (pc' := 47) (l' := [(2, .int (vl_I rd)), (0, .ref 196), (1, .int (vl_I p))]) (st' := [.long (Int32.ofInt f.i).toInt64, .int (5 : Int32), .ref 208]) rfl Kz) ?_
    obtain ⟨I15, L15, H15, S15, F15⟩ := vq_single (I := I) (L := L) (R := R) (n := n) (sl := sl) (d := 5) (Int32.ofInt f.i).toInt64 hW (by decide) hf
    have Z15 := F15.1
    have D15 := vr_dec_rf F15 D
    have W15 : vr_fr noP noE I L I15 L15 := vr_fr_trans W (vq_rf_fr F15 (by decide))
    have Y15 : vb_toS (vr_S L15 5) = vx_just f.i := by rw [S15, vb_toS_just]; exact vx_just_32 f.i (Int32.ofInt f.i) (vr_dQ D)
    refine jv_Wp.lift (fun _ Kz => jv_Ev.c jv_i309 (pc' := 50) (S' := []) (G1 := (jv_H K I15 L15 R)) jv_i217 [.ref 208, .int (5 : Int32), .long (Int32.ofInt f.i).toInt64] rfl rfl rfl rfl (jv_cal rfl (jv_H_at (jv_rwK hW 208 11 7 (by decide))) rfl rfl) rfl H15 rfl rfl Kz) ?_
    refine jv_Wp.lift (fun _ Kz => jv_Ev.steps jv_i309 1 (pc' := 51) (l' := [(2, .int (vl_I rd)), (0, .ref 196), (1, .int (vl_I p))]) (st' := [.ref 196]) rfl Kz) ?_
    refine jv_Wp.lift (fun _ Kz => jv_Ev.c jv_i309 (pc' := 54) (S' := [.int (vl_I f.kind)]) jv_i257 [.ref 196] rfl rfl rfl rfl (jv_cal rfl (jv_H_at (jv_rwK hW 196 12 24 (by decide))) rfl rfl) rfl (vq_kind f hW D15) rfl rfl Kz) ?_
    refine jv_Wp.lift (fun _ Kz => jv_Ev.steps jv_i309 1 (pc' := 56) (l' := [(2, .int (vl_I rd)), (0, .ref 196), (1, .int (vl_I p))]) (st' := [.int (6 : Int32), .int (vl_I f.kind)]) rfl Kz) ?_
    refine jv_Wp.cnd jv_i309 (pt := 70) (pe := 59) (p := (¬ (vl_I f.kind) = (6 : Int32))) (q := (¬ (vl_I f.kind) = (6 : Int32))) rfl jv_bc_ne rfl rfl Iff.rfl (fun hz => absurd hz (fun z => z ((vr_sm (v := 6) (by omega) (by decide) rfl).mpr hk56))) (fun _ => ?_)
    refine jv_Wp.lift (fun _ Kz => jv_Ev.steps jv_i309 1 (pc' := 60) (l' := [(2, .int (vl_I rd)), (0, .ref 196), (1, .int (vl_I p))]) (st' := [.ref 196]) rfl Kz) ?_
    refine jv_Wp.lift (fun _ Kz => jv_Ev.m jv_i309 (pc' := 63) (st' := [.ref 208]) (G' := (jv_H K I15 L15 R)) rfl rfl (jv_m_getR (jv_rwK hW 196 12 24 (by decide)) rfl rfl (jv_rwR hW 196 16 208 (by decide))) Kz) ?_
    refine jv_Wp.lift (fun _ Kz => jv_Ev.steps jv_i309 3 (pc' := 67) (l' := [(2, .int (vl_I rd)), (0, .ref 196), (1, .int (vl_I p))]) (st' := [.int (32 : Int32), .int (5 : Int32), .int (5 : Int32), .ref 208]) rfl Kz) ?_
    obtain ⟨I16, L16, H16, S16, F16⟩ := vq_cut (I := I15) (L := L15) (R := R) (n := n) (sl := sl) (a := 5) (d := 5) (m := 32) (by decide) hW (by decide) (by decide) (by decide) (by decide) Z15 (by rw [Y15]; exact vb_just_tight _)
    have Z16 := F16.1
    have D16 := vr_dec_rf F16 D15
    have W16 : vr_fr noP noE I L I16 L16 := vr_fr_trans W15 (vq_rf_fr F16 (by decide))
    have Y16 : vb_toS (vr_S L16 5) = vb_just (BitVec.ofInt 64 (f.i % 4294967296)) := by rw [S16, vb_toS_toR, Y15]; exact vx_cutu f.i (Int32.ofInt f.i) (vr_dQ D)
    refine jv_Wp.lift (fun _ Kz => jv_Ev.c jv_i309 (pc' := 70) (S' := []) (G1 := (jv_H K I16 L16 R)) jv_i219 [.ref 208, .int (5 : Int32), .int (5 : Int32), .int (32 : Int32)] rfl rfl rfl rfl (jv_cal rfl (jv_H_at (jv_rwK hW 208 11 7 (by decide))) rfl rfl) rfl H16 rfl rfl Kz) ?_
    refine jv_Wp.lift (fun _ Kz => jv_Ev.steps jv_i309 1 (pc' := 71) (l' := [(2, .int (vl_I rd)), (0, .ref 196), (1, .int (vl_I p))]) (st' := [.ref 196]) rfl Kz) ?_
    refine jv_Wp.lift (fun _ Kz => jv_Ev.c jv_i309 (pc' := 74) (S' := [.int (vr_b f.bit3)]) jv_i259 [.ref 196] rfl rfl rfl rfl (jv_cal rfl (jv_H_at (jv_rwK hW 196 12 24 (by decide))) rfl rfl) rfl (vq_bit3 f hW D16) rfl rfl Kz) ?_
    refine jv_Wp.cnd jv_i309 (pt := 90) (pe := 77) (p := ((vr_b f.bit3) = 0)) (q := ((vr_b f.bit3) = 0)) rfl jv_bi_eq rfl rfl Iff.rfl (fun _ => ?_) (fun hz => absurd (by rw [hb]; rfl) hz)
    refine jv_Wp.lift (fun _ Kz => jv_Ev.steps jv_i309 4 (pc' := 94) (l' := [(3, .int (5 : Int32)), (2, .int (vl_I rd)), (0, .ref 196), (1, .int (vl_I p))]) (st' := [.ref 196, .ref 196]) rfl Kz) ?_
    refine jv_Wp.lift (fun _ Kz => jv_Ev.m jv_i309 (pc' := 97) (st' := [.int (vl_I f.d), .ref 196]) (G' := (jv_H K I16 L16 R)) rfl rfl (jv_m_getI (jv_rwK hW 196 12 24 (by decide)) rfl rfl D16.2.1) Kz) ?_
    refine jv_Wp.lift (fun _ Kz => jv_Ev.c jv_i309 (pc' := 100) (S' := [.int (I 205 (76800 + f.d))]) jv_i271 [.ref 196, .int (vl_I f.d)] rfl rfl rfl rfl (jv_cal rfl (jv_H_at (jv_rwK hW 196 12 24 (by decide))) rfl rfl) rfl (vq_sortOfW W16 f.d hW (by omega)) rfl rfl Kz) ?_
    refine jv_Wp.lift (fun _ Kz => jv_Ev.steps jv_i309 1 (pc' := 101) (l' := [(3, .int (5 : Int32)), (2, .int (vl_I rd)), (0, .ref 196), (1, .int (vl_I p))]) (st' := [.int (1 : Int32), .int (I 205 (76800 + f.d))]) rfl Kz) ?_
    refine jv_Wp.cnd jv_i309 (pt := 127) (pe := 104) (p := (¬ (I 205 (76800 + f.d)) = (1 : Int32))) (q := (¬ (I 205 (76800 + f.d)) = (1 : Int32))) rfl jv_bc_ne rfl rfl Iff.rfl (fun h2 => ?_) (fun h2 => ?_)
    · refine jv_Wp.lift (fun _ Kz => jv_Ev.steps jv_i309 3 (pc' := 131) (l' := [(4, .int (0 : Int32)), (3, .int (5 : Int32)), (2, .int (vl_I rd)), (0, .ref 196), (1, .int (vl_I p))]) (st' := [.ref 196]) rfl Kz) ?_
      refine jv_Wp.lift (fun _ Kz => jv_Ev.c jv_i309 (pc' := 134) (S' := [.int (vl_I f.kind)]) jv_i257 [.ref 196] rfl rfl rfl rfl (jv_cal rfl (jv_H_at (jv_rwK hW 196 12 24 (by decide))) rfl rfl) rfl (vq_kind f hW D16) rfl rfl Kz) ?_
      refine jv_Wp.lift (fun _ Kz => jv_Ev.steps jv_i309 1 (pc' := 135) (l' := [(4, .int (0 : Int32)), (3, .int (5 : Int32)), (2, .int (vl_I rd)), (0, .ref 196), (1, .int (vl_I p))]) (st' := [.int (5 : Int32), .int (vl_I f.kind)]) rfl Kz) ?_
      refine jv_Wp.cnd jv_i309 (pt := 142) (pe := 138) (p := (¬ (vl_I f.kind) = (5 : Int32))) (q := (¬ (vl_I f.kind) = (5 : Int32))) rfl jv_bc_ne rfl rfl Iff.rfl (fun _ => ?_) (fun hz => absurd (fun z => by have y := (vr_sm (v := 5) (by omega) (by decide) rfl).mp z; omega) hz)
      refine jv_Wp.lift (fun _ Kz => jv_Ev.steps jv_i309 3 (pc' := 146) (l' := [(5, .int (0 : Int32)), (4, .int (0 : Int32)), (3, .int (5 : Int32)), (2, .int (vl_I rd)), (0, .ref 196), (1, .int (vl_I p))]) (st' := [.ref 196]) rfl Kz) ?_
      refine jv_Wp.lift (fun _ Kz => jv_Ev.c jv_i309 (pc' := 149) (S' := [.int (vr_b f.bit3)]) jv_i259 [.ref 196] rfl rfl rfl rfl (jv_cal rfl (jv_H_at (jv_rwK hW 196 12 24 (by decide))) rfl rfl) rfl (vq_bit3 f hW D16) rfl rfl Kz) ?_
      refine jv_Wp.cnd jv_i309 (pt := 167) (pe := 152) (p := (¬ (vr_b f.bit3) = 0)) (q := (¬ (vr_b f.bit3) = 0)) rfl jv_bi_ne rfl rfl Iff.rfl (fun hz => absurd hz (by rw [hb]; exact fun z => z rfl)) (fun _ => ?_)
      refine jv_Wp.lift (fun _ Kz => jv_Ev.steps jv_i309 1 (pc' := 153) (l' := [(5, .int (0 : Int32)), (4, .int (0 : Int32)), (3, .int (5 : Int32)), (2, .int (vl_I rd)), (0, .ref 196), (1, .int (vl_I p))]) (st' := [.ref 196]) rfl Kz) ?_
      refine jv_Wp.lift (fun _ Kz => jv_Ev.m jv_i309 (pc' := 156) (st' := [.int (Int32.ofInt f.i)]) (G' := (jv_H K I16 L16 R)) rfl rfl (jv_m_getI (jv_rwK hW 196 12 24 (by decide)) rfl rfl (vr_dJ D16)) Kz) ?_
      refine jv_Wp.cnd jv_i309 (pt := 163) (pe := 159) (p := (¬ (Int32.ofInt f.i) = 0)) (q := (¬ (Int32.ofInt f.i) = 0)) rfl jv_bi_ne rfl rfl Iff.rfl (fun h3 => ?_) (fun h3 => ?_)
      · refine jv_Wp.lift (fun _ Kz => jv_Ev.steps jv_i309 4 (pc' := 213) (l' := [(6, .int (0 : Int32)), (5, .int (0 : Int32)), (4, .int (0 : Int32)), (3, .int (5 : Int32)), (2, .int (vl_I rd)), (0, .ref 196), (1, .int (vl_I p))]) (st' := [.int (0 : Int32)]) rfl Kz) ?_
        refine jv_Wp.lift (fun _ Kz => jv_Ev.br jv_i309 (pc' := 254) (st' := []) rfl (by rfl) Kz) ?_
        refine jv_Wp.lift (fun _ Kz => jv_Ev.steps jv_i309 3 (pc' := 258) (l' := [(7, .int (0 : Int32)), (6, .int (0 : Int32)), (5, .int (0 : Int32)), (4, .int (0 : Int32)), (3, .int (5 : Int32)), (2, .int (vl_I rd)), (0, .ref 196), (1, .int (vl_I p))]) (st' := [.ref 196]) rfl Kz) ?_
        refine jv_Wp.lift (fun _ Kz => jv_Ev.c jv_i309 (pc' := 261) (S' := [.int (vr_b f.bit3)]) jv_i259 [.ref 196] rfl rfl rfl rfl (jv_cal rfl (jv_H_at (jv_rwK hW 196 12 24 (by decide))) rfl rfl) rfl (vq_bit3 f hW D16) rfl rfl Kz) ?_
        refine jv_Wp.cnd jv_i309 (pt := 316) (pe := 264) (p := ((vr_b f.bit3) = 0)) (q := ((vr_b f.bit3) = 0)) rfl jv_bi_eq rfl rfl Iff.rfl (fun _ => ?_) (fun hz => absurd (by rw [hb]; rfl) hz)
        refine jv_Wp.lift (fun _ Kz => jv_Ev.steps jv_i309 3 (pc' := 321) (l' := [(8, .int (0 : Int32)), (7, .int (0 : Int32)), (6, .int (0 : Int32)), (5, .int (0 : Int32)), (4, .int (0 : Int32)), (3, .int (5 : Int32)), (2, .int (vl_I rd)), (0, .ref 196), (1, .int (vl_I p))]) (st' := [.int (0 : Int32)]) rfl Kz) ?_
        refine jv_Wp.lift (fun _ Kz => jv_Ev.br jv_i309 (pc' := 367) (st' := []) rfl (by rfl) Kz) ?_
        refine jv_Wp.lift (fun _ Kz => jv_Ev.steps jv_i309 3 (pc' := 372) (l' := [(9, .int (0 : Int32)), (8, .int (0 : Int32)), (7, .int (0 : Int32)), (6, .int (0 : Int32)), (5, .int (0 : Int32)), (4, .int (0 : Int32)), (3, .int (5 : Int32)), (2, .int (vl_I rd)), (0, .ref 196), (1, .int (vl_I p))]) (st' := [.int (0 : Int32)]) rfl Kz) ?_
        refine jv_Wp.lift (fun _ Kz => jv_Ev.br jv_i309 (pc' := 375) (st' := []) rfl (by rfl) Kz) ?_
        refine jv_Wp.lift (fun _ Kz => jv_Ev.steps jv_i309 1 (pc' := 377) (l' := [(9, .int (0 : Int32)), (8, .int (0 : Int32)), (7, .int (0 : Int32)), (6, .int (0 : Int32)), (5, .int (0 : Int32)), (4, .int (0 : Int32)), (3, .int (5 : Int32)), (2, .int (vl_I rd)), (0, .ref 196), (1, .int (vl_I p))]) (st' := [.int (0 : Int32)]) rfl Kz) ?_
        refine jv_Wp.lift (fun _ Kz => jv_Ev.br jv_i309 (pc' := 380) (st' := []) rfl (by rfl) Kz) ?_
        refine jv_Wp.lift (fun _ Kz => jv_Ev.steps jv_i309 1 (pc' := 382) (l' := [(9, .int (0 : Int32)), (8, .int (0 : Int32)), (7, .int (0 : Int32)), (6, .int (0 : Int32)), (5, .int (0 : Int32)), (4, .int (0 : Int32)), (3, .int (5 : Int32)), (2, .int (vl_I rd)), (0, .ref 196), (1, .int (vl_I p))]) (st' := [.int (0 : Int32)]) rfl Kz) ?_
        refine jv_Wp.lift (fun _ Kz => jv_Ev.br jv_i309 (pc' := 385) (st' := []) rfl (by rfl) Kz) ?_
        refine jv_Wp.lift (fun _ Kz => jv_Ev.steps jv_i309 1 (pc' := 386) (l' := [(9, .int (0 : Int32)), (8, .int (0 : Int32)), (7, .int (0 : Int32)), (6, .int (0 : Int32)), (5, .int (0 : Int32)), (4, .int (0 : Int32)), (3, .int (5 : Int32)), (2, .int (vl_I rd)), (0, .ref 196), (1, .int (vl_I p))]) (st' := [.int (2 : Int32)]) rfl Kz) ?_
        refine jv_Wp.loc (l := [(0, .ref 196), (1, .int (vl_I p)), (3, .int (5 : Int32)), (4, .int (0 : Int32)), (5, .int (0 : Int32)), (7, .int (0 : Int32)), (9, .int (0 : Int32))]) ⟨List.forall_mem_cons.mpr ⟨.tail _ (.tail _ (.tail _ (.tail _ (.tail _ (.tail _ (.tail _ (.tail _ (.head _)))))))), List.forall_mem_cons.mpr ⟨.tail _ (.tail _ (.tail _ (.tail _ (.tail _ (.tail _ (.tail _ (.tail _ (.tail _ (.head _))))))))), List.forall_mem_cons.mpr ⟨.tail _ (.tail _ (.tail _ (.tail _ (.tail _ (.tail _ (.head _)))))), List.forall_mem_cons.mpr ⟨.tail _ (.tail _ (.tail _ (.tail _ (.tail _ (.head _))))), List.forall_mem_cons.mpr ⟨.tail _ (.tail _ (.tail _ (.tail _ (.head _)))), List.forall_mem_cons.mpr ⟨.tail _ (.tail _ (.head _)), List.forall_mem_cons.mpr ⟨.head _, fun _ h => absurd h List.not_mem_nil⟩⟩⟩⟩⟩⟩⟩, by show List.Nodup [9, 8, 7, 6, 5, 4, 3, 2, 0, 1]; decide⟩ ?_
        refine jv_Wp.of (jv_Ev.ret jv_i309 rfl rfl) ?_
        rw [hQ]
        have td1 : ¬ zd = 1 := fun z => h2 ((vr_is 1 (by decide) okd).mp ((hd ()).trans z))
        have mQ0 : ¬ f.i = 0 := fun z => h3 (Int32.toInt_inj.mp ((vr_dQ D).trans (z.trans rfl)))
        have nx1 : rd ≤ 0 := (vl_I_le (a := rd) (b := 0) (by omega) (by omega)).mp h1
        have j1 : ¬ vx_j1 f (vr_A I L 1024) := by unfold vx_j1; rw [eD, eY, hd (), hs ()]; omega
        have j2 : ¬ vx_j2 f (vr_A I L 1024) := by unfold vx_j2; rw [eD, eY, hd (), hs ()]; omega
        have j3 : ¬ vx_j3 f (vr_A I L 1024) := fun z => by obtain ⟨a1, a2, a3, a4, a5, a6⟩ := z; rw [eD, hd ()] at a3; rw [eY, hs ()] at a4; rw [eY] at a5 a6; exact absurd a5 (vx_just_n0 D mQ0)
        have j4 : ¬ vx_j4 f (vr_A I L 1024) := by unfold vx_j4; rw [eD, eY, hd (), hs ()]; omega
        have er := vx_jp5 (f := f) (A := (vr_A I L 1024)) j1 j2 j3 j4
        exact ⟨_, _, by rw [er]; rfl, fun z => by rw [er] at z; exact absurd (show (2 : Nat) = 0 from z) (by decide), vr_fr_mono W16 (fun _ _ => trivial) (fun _ _ z => z.elim), vr_j10_W W16 hj⟩
      · refine jv_Wp.lift (fun _ Kz => jv_Ev.steps jv_i309 4 (pc' := 213) (l' := [(6, .int (1 : Int32)), (5, .int (0 : Int32)), (4, .int (0 : Int32)), (3, .int (5 : Int32)), (2, .int (vl_I rd)), (0, .ref 196), (1, .int (vl_I p))]) (st' := [.int (0 : Int32)]) rfl Kz) ?_
        refine jv_Wp.lift (fun _ Kz => jv_Ev.br jv_i309 (pc' := 254) (st' := []) rfl (by rfl) Kz) ?_
        refine jv_Wp.lift (fun _ Kz => jv_Ev.steps jv_i309 3 (pc' := 258) (l' := [(7, .int (0 : Int32)), (6, .int (1 : Int32)), (5, .int (0 : Int32)), (4, .int (0 : Int32)), (3, .int (5 : Int32)), (2, .int (vl_I rd)), (0, .ref 196), (1, .int (vl_I p))]) (st' := [.ref 196]) rfl Kz) ?_
        refine jv_Wp.lift (fun _ Kz => jv_Ev.c jv_i309 (pc' := 261) (S' := [.int (vr_b f.bit3)]) jv_i259 [.ref 196] rfl rfl rfl rfl (jv_cal rfl (jv_H_at (jv_rwK hW 196 12 24 (by decide))) rfl rfl) rfl (vq_bit3 f hW D16) rfl rfl Kz) ?_
        refine jv_Wp.cnd jv_i309 (pt := 316) (pe := 264) (p := ((vr_b f.bit3) = 0)) (q := ((vr_b f.bit3) = 0)) rfl jv_bi_eq rfl rfl Iff.rfl (fun _ => ?_) (fun hz => absurd (by rw [hb]; rfl) hz)
        refine jv_Wp.lift (fun _ Kz => jv_Ev.steps jv_i309 3 (pc' := 321) (l' := [(8, .int (0 : Int32)), (7, .int (0 : Int32)), (6, .int (1 : Int32)), (5, .int (0 : Int32)), (4, .int (0 : Int32)), (3, .int (5 : Int32)), (2, .int (vl_I rd)), (0, .ref 196), (1, .int (vl_I p))]) (st' := [.int (0 : Int32)]) rfl Kz) ?_
        refine jv_Wp.lift (fun _ Kz => jv_Ev.br jv_i309 (pc' := 367) (st' := []) rfl (by rfl) Kz) ?_
        refine jv_Wp.lift (fun _ Kz => jv_Ev.steps jv_i309 3 (pc' := 372) (l' := [(9, .int (0 : Int32)), (8, .int (0 : Int32)), (7, .int (0 : Int32)), (6, .int (1 : Int32)), (5, .int (0 : Int32)), (4, .int (0 : Int32)), (3, .int (5 : Int32)), (2, .int (vl_I rd)), (0, .ref 196), (1, .int (vl_I p))]) (st' := [.int (0 : Int32)]) rfl Kz) ?_
        refine jv_Wp.lift (fun _ Kz => jv_Ev.br jv_i309 (pc' := 375) (st' := []) rfl (by rfl) Kz) ?_
        refine jv_Wp.lift (fun _ Kz => jv_Ev.steps jv_i309 1 (pc' := 377) (l' := [(9, .int (0 : Int32)), (8, .int (0 : Int32)), (7, .int (0 : Int32)), (6, .int (1 : Int32)), (5, .int (0 : Int32)), (4, .int (0 : Int32)), (3, .int (5 : Int32)), (2, .int (vl_I rd)), (0, .ref 196), (1, .int (vl_I p))]) (st' := [.int (0 : Int32)]) rfl Kz) ?_
        refine jv_Wp.lift (fun _ Kz => jv_Ev.br jv_i309 (pc' := 380) (st' := []) rfl (by rfl) Kz) ?_
        refine jv_Wp.lift (fun _ Kz => jv_Ev.steps jv_i309 1 (pc' := 382) (l' := [(9, .int (0 : Int32)), (8, .int (0 : Int32)), (7, .int (0 : Int32)), (6, .int (1 : Int32)), (5, .int (0 : Int32)), (4, .int (0 : Int32)), (3, .int (5 : Int32)), (2, .int (vl_I rd)), (0, .ref 196), (1, .int (vl_I p))]) (st' := [.int (0 : Int32)]) rfl Kz) ?_
        refine jv_Wp.lift (fun _ Kz => jv_Ev.br jv_i309 (pc' := 385) (st' := []) rfl (by rfl) Kz) ?_
        refine jv_Wp.lift (fun _ Kz => jv_Ev.steps jv_i309 1 (pc' := 386) (l' := [(9, .int (0 : Int32)), (8, .int (0 : Int32)), (7, .int (0 : Int32)), (6, .int (1 : Int32)), (5, .int (0 : Int32)), (4, .int (0 : Int32)), (3, .int (5 : Int32)), (2, .int (vl_I rd)), (0, .ref 196), (1, .int (vl_I p))]) (st' := [.int (2 : Int32)]) rfl Kz) ?_
        refine jv_Wp.loc (l := [(0, .ref 196), (1, .int (vl_I p)), (3, .int (5 : Int32)), (4, .int (0 : Int32)), (5, .int (0 : Int32)), (7, .int (0 : Int32)), (9, .int (0 : Int32))]) ⟨List.forall_mem_cons.mpr ⟨.tail _ (.tail _ (.tail _ (.tail _ (.tail _ (.tail _ (.tail _ (.tail _ (.head _)))))))), List.forall_mem_cons.mpr ⟨.tail _ (.tail _ (.tail _ (.tail _ (.tail _ (.tail _ (.tail _ (.tail _ (.tail _ (.head _))))))))), List.forall_mem_cons.mpr ⟨.tail _ (.tail _ (.tail _ (.tail _ (.tail _ (.tail _ (.head _)))))), List.forall_mem_cons.mpr ⟨.tail _ (.tail _ (.tail _ (.tail _ (.tail _ (.head _))))), List.forall_mem_cons.mpr ⟨.tail _ (.tail _ (.tail _ (.tail _ (.head _)))), List.forall_mem_cons.mpr ⟨.tail _ (.tail _ (.head _)), List.forall_mem_cons.mpr ⟨.head _, fun _ h => absurd h List.not_mem_nil⟩⟩⟩⟩⟩⟩⟩, by show List.Nodup [9, 8, 7, 6, 5, 4, 3, 2, 0, 1]; decide⟩ ?_
        refine jv_Wp.of (jv_Ev.ret jv_i309 rfl rfl) ?_
        rw [hQ]
        have td1 : ¬ zd = 1 := fun z => h2 ((vr_is 1 (by decide) okd).mp ((hd ()).trans z))
        have mQ0 : f.i = 0 := (vr_dQ D).symm.trans (congrArg Int32.toInt (Classical.not_not.mp h3))
        have nx1 : rd ≤ 0 := (vl_I_le (a := rd) (b := 0) (by omega) (by omega)).mp h1
        have j1 : ¬ vx_j1 f (vr_A I L 1024) := by unfold vx_j1; rw [eD, eY, hd (), hs ()]; omega
        have j2 : ¬ vx_j2 f (vr_A I L 1024) := by unfold vx_j2; rw [eD, eY, hd (), hs ()]; omega
        have j3 : ¬ vx_j3 f (vr_A I L 1024) := fun z => by obtain ⟨a1, a2, a3, a4, a5, a6⟩ := z; rw [eD, hd ()] at a3; rw [eY, hs ()] at a4; rw [eY] at a5 a6; omega
        have j4 : ¬ vx_j4 f (vr_A I L 1024) := by unfold vx_j4; rw [eD, eY, hd (), hs ()]; omega
        have er := vx_jp5 (f := f) (A := (vr_A I L 1024)) j1 j2 j3 j4
        exact ⟨_, _, by rw [er]; rfl, fun z => by rw [er] at z; exact absurd (show (2 : Nat) = 0 from z) (by decide), vr_fr_mono W16 (fun _ _ => trivial) (fun _ _ z => z.elim), vr_j10_W W16 hj⟩
    · refine jv_Wp.lift (fun _ Kz => jv_Ev.steps jv_i309 1 (pc' := 105) (l' := [(3, .int (5 : Int32)), (2, .int (vl_I rd)), (0, .ref 196), (1, .int (vl_I p))]) (st' := [.ref 196]) rfl Kz) ?_
      refine jv_Wp.lift (fun _ Kz => jv_Ev.c jv_i309 (pc' := 108) (S' := [.int (vr_b f.bit3)]) jv_i259 [.ref 196] rfl rfl rfl rfl (jv_cal rfl (jv_H_at (jv_rwK hW 196 12 24 (by decide))) rfl rfl) rfl (vq_bit3 f hW D16) rfl rfl Kz) ?_
      refine jv_Wp.cnd jv_i309 (pt := 123) (pe := 111) (p := ((vr_b f.bit3) = 0)) (q := ((vr_b f.bit3) = 0)) rfl jv_bi_eq rfl rfl Iff.rfl (fun _ => ?_) (fun hz => absurd (by rw [hb]; rfl) hz)
      refine jv_Wp.lift (fun _ Kz => jv_Ev.steps jv_i309 4 (pc' := 131) (l' := [(4, .int (1 : Int32)), (3, .int (5 : Int32)), (2, .int (vl_I rd)), (0, .ref 196), (1, .int (vl_I p))]) (st' := [.ref 196]) rfl Kz) ?_
      refine jv_Wp.lift (fun _ Kz => jv_Ev.c jv_i309 (pc' := 134) (S' := [.int (vl_I f.kind)]) jv_i257 [.ref 196] rfl rfl rfl rfl (jv_cal rfl (jv_H_at (jv_rwK hW 196 12 24 (by decide))) rfl rfl) rfl (vq_kind f hW D16) rfl rfl Kz) ?_
      refine jv_Wp.lift (fun _ Kz => jv_Ev.steps jv_i309 1 (pc' := 135) (l' := [(4, .int (1 : Int32)), (3, .int (5 : Int32)), (2, .int (vl_I rd)), (0, .ref 196), (1, .int (vl_I p))]) (st' := [.int (5 : Int32), .int (vl_I f.kind)]) rfl Kz) ?_
      refine jv_Wp.cnd jv_i309 (pt := 142) (pe := 138) (p := (¬ (vl_I f.kind) = (5 : Int32))) (q := (¬ (vl_I f.kind) = (5 : Int32))) rfl jv_bc_ne rfl rfl Iff.rfl (fun _ => ?_) (fun hz => absurd (fun z => by have y := (vr_sm (v := 5) (by omega) (by decide) rfl).mp z; omega) hz)
      refine jv_Wp.lift (fun _ Kz => jv_Ev.steps jv_i309 3 (pc' := 146) (l' := [(5, .int (0 : Int32)), (4, .int (1 : Int32)), (3, .int (5 : Int32)), (2, .int (vl_I rd)), (0, .ref 196), (1, .int (vl_I p))]) (st' := [.ref 196]) rfl Kz) ?_
      refine jv_Wp.lift (fun _ Kz => jv_Ev.c jv_i309 (pc' := 149) (S' := [.int (vr_b f.bit3)]) jv_i259 [.ref 196] rfl rfl rfl rfl (jv_cal rfl (jv_H_at (jv_rwK hW 196 12 24 (by decide))) rfl rfl) rfl (vq_bit3 f hW D16) rfl rfl Kz) ?_
      refine jv_Wp.cnd jv_i309 (pt := 167) (pe := 152) (p := (¬ (vr_b f.bit3) = 0)) (q := (¬ (vr_b f.bit3) = 0)) rfl jv_bi_ne rfl rfl Iff.rfl (fun hz => absurd hz (by rw [hb]; exact fun z => z rfl)) (fun _ => ?_)
      refine jv_Wp.lift (fun _ Kz => jv_Ev.steps jv_i309 1 (pc' := 153) (l' := [(5, .int (0 : Int32)), (4, .int (1 : Int32)), (3, .int (5 : Int32)), (2, .int (vl_I rd)), (0, .ref 196), (1, .int (vl_I p))]) (st' := [.ref 196]) rfl Kz) ?_
      refine jv_Wp.lift (fun _ Kz => jv_Ev.m jv_i309 (pc' := 156) (st' := [.int (Int32.ofInt f.i)]) (G' := (jv_H K I16 L16 R)) rfl rfl (jv_m_getI (jv_rwK hW 196 12 24 (by decide)) rfl rfl (vr_dJ D16)) Kz) ?_
      refine jv_Wp.cnd jv_i309 (pt := 163) (pe := 159) (p := (¬ (Int32.ofInt f.i) = 0)) (q := (¬ (Int32.ofInt f.i) = 0)) rfl jv_bi_ne rfl rfl Iff.rfl (fun h4 => ?_) (fun h4 => ?_)
      · refine jv_Wp.lift (fun _ Kz => jv_Ev.steps jv_i309 4 (pc' := 213) (l' := [(6, .int (0 : Int32)), (5, .int (0 : Int32)), (4, .int (1 : Int32)), (3, .int (5 : Int32)), (2, .int (vl_I rd)), (0, .ref 196), (1, .int (vl_I p))]) (st' := [.int (0 : Int32)]) rfl Kz) ?_
        refine jv_Wp.lift (fun _ Kz => jv_Ev.br jv_i309 (pc' := 254) (st' := []) rfl (by rfl) Kz) ?_
        refine jv_Wp.lift (fun _ Kz => jv_Ev.steps jv_i309 3 (pc' := 258) (l' := [(7, .int (0 : Int32)), (6, .int (0 : Int32)), (5, .int (0 : Int32)), (4, .int (1 : Int32)), (3, .int (5 : Int32)), (2, .int (vl_I rd)), (0, .ref 196), (1, .int (vl_I p))]) (st' := [.ref 196]) rfl Kz) ?_
        refine jv_Wp.lift (fun _ Kz => jv_Ev.c jv_i309 (pc' := 261) (S' := [.int (vr_b f.bit3)]) jv_i259 [.ref 196] rfl rfl rfl rfl (jv_cal rfl (jv_H_at (jv_rwK hW 196 12 24 (by decide))) rfl rfl) rfl (vq_bit3 f hW D16) rfl rfl Kz) ?_
        refine jv_Wp.cnd jv_i309 (pt := 316) (pe := 264) (p := ((vr_b f.bit3) = 0)) (q := ((vr_b f.bit3) = 0)) rfl jv_bi_eq rfl rfl Iff.rfl (fun _ => ?_) (fun hz => absurd (by rw [hb]; rfl) hz)
        refine jv_Wp.lift (fun _ Kz => jv_Ev.steps jv_i309 3 (pc' := 321) (l' := [(8, .int (0 : Int32)), (7, .int (0 : Int32)), (6, .int (0 : Int32)), (5, .int (0 : Int32)), (4, .int (1 : Int32)), (3, .int (5 : Int32)), (2, .int (vl_I rd)), (0, .ref 196), (1, .int (vl_I p))]) (st' := [.int (0 : Int32)]) rfl Kz) ?_
        refine jv_Wp.lift (fun _ Kz => jv_Ev.br jv_i309 (pc' := 367) (st' := []) rfl (by rfl) Kz) ?_
        refine jv_Wp.lift (fun _ Kz => jv_Ev.steps jv_i309 3 (pc' := 372) (l' := [(9, .int (0 : Int32)), (8, .int (0 : Int32)), (7, .int (0 : Int32)), (6, .int (0 : Int32)), (5, .int (0 : Int32)), (4, .int (1 : Int32)), (3, .int (5 : Int32)), (2, .int (vl_I rd)), (0, .ref 196), (1, .int (vl_I p))]) (st' := [.int (1 : Int32)]) rfl Kz) ?_
        refine jv_Wp.lift (fun _ Kz => jv_Ev.br jv_i309 (pc' := 387) (st' := []) rfl (by rfl) Kz) ?_
        refine jv_Wp.loc (l := [(0, .ref 196), (1, .int (vl_I p)), (3, .int (5 : Int32)), (4, .int (1 : Int32)), (5, .int (0 : Int32)), (7, .int (0 : Int32)), (9, .int (0 : Int32))]) ⟨List.forall_mem_cons.mpr ⟨.tail _ (.tail _ (.tail _ (.tail _ (.tail _ (.tail _ (.tail _ (.tail _ (.head _)))))))), List.forall_mem_cons.mpr ⟨.tail _ (.tail _ (.tail _ (.tail _ (.tail _ (.tail _ (.tail _ (.tail _ (.tail _ (.head _))))))))), List.forall_mem_cons.mpr ⟨.tail _ (.tail _ (.tail _ (.tail _ (.tail _ (.tail _ (.head _)))))), List.forall_mem_cons.mpr ⟨.tail _ (.tail _ (.tail _ (.tail _ (.tail _ (.head _))))), List.forall_mem_cons.mpr ⟨.tail _ (.tail _ (.tail _ (.tail _ (.head _)))), List.forall_mem_cons.mpr ⟨.tail _ (.tail _ (.head _)), List.forall_mem_cons.mpr ⟨.head _, fun _ h => absurd h List.not_mem_nil⟩⟩⟩⟩⟩⟩⟩, by show List.Nodup [9, 8, 7, 6, 5, 4, 3, 2, 0, 1]; decide⟩ ?_
        have td1 : zd = 1 := (hd ()).symm.trans ((vr_is 1 (by decide) okd).mpr (Classical.not_not.mp h2))
        have mQ0 : ¬ f.i = 0 := fun z => h4 (Int32.toInt_inj.mp ((vr_dQ D).trans (z.trans rfl)))
        have nx1 : rd ≤ 0 := (vl_I_le (a := rd) (b := 0) (by omega) (by omega)).mp h1
        have j1 : ¬ vx_j1 f (vr_A I L 1024) := by unfold vx_j1; rw [eD, eY, hd (), hs ()]; omega
        have j2 : vx_j2 f (vr_A I L 1024) := by unfold vx_j2; rw [eD, eY, hd (), hs ()]; omega
        have er0 : (vx_jump f (vr_A I L 1024)).1 = 0 := vx_jump_num j1 j2
        have eA : vr_A I16 L16 1024 = (vr_A I L 1024) := vr_fr_A W16 (fun _ _ z => z)
        exact vq_jNIS f p hW Z16 (vr_ST_M W16 (fun _ z => z.elim) (fun _ _ z => z.elim) hS) D16 ((vr_fr_c W16 (by decide) (by decide)).trans gF18) hp hch hd11 hs11 (vr_fr_okA W16 (fun _ _ z => z) oa) ((vr_fr_c W16 (by decide) (by decide)).trans hh) (by rw [vr_fr_T W16 (fun z => z)]; exact gT10) (by rw [eA]; exact gd) (by rw [eA]; exact gj) p1 p2 hk56 hb (by rw [vr_fr_T W16 (fun z => z)]; exact (hd ()).trans (show zd = 1 by omega)) (by rw [vr_fr_S W16 (fun z => z)]; exact vr_tight okd (tA f.d (by omega)) (by rw [(vr_is (L := L) 1 (by decide) okd).mp ((hd ()).trans (show zd = 1 by omega))]; rfl)) (by rw [Y16]; exact vb_just_tight _) (by rw [eA]; exact j1) (by rw [eA]; exact j2) (by rw [eA, vr_fr_S W16 (fun z => z), eD]; exact vr_valv (by rw [(vr_is (L := L) 1 (by decide) okd).mp ((hd ()).trans (show zd = 1 by omega))]; rfl)) (by rw [eA, Y16]; unfold vx_yv; rw [if_neg (by rw [hb]; decide), if_neg (by omega)]) (fun I1 L1 q1 q2 q3 q4 => by rw [hQ]; rw [eA] at q1 q2; exact ⟨I1, L1, by rw [er0]; rfl, fun _ => ⟨q1, q2.trans (by rw [vr_fr_c W16 (by decide) (by decide)])⟩, vr_fr_trans (vr_fr_mono W16 (fun _ _ => trivial) (fun _ _ z => z.elim)) q3, q4⟩)
      · refine jv_Wp.lift (fun _ Kz => jv_Ev.steps jv_i309 4 (pc' := 213) (l' := [(6, .int (1 : Int32)), (5, .int (0 : Int32)), (4, .int (1 : Int32)), (3, .int (5 : Int32)), (2, .int (vl_I rd)), (0, .ref 196), (1, .int (vl_I p))]) (st' := [.int (0 : Int32)]) rfl Kz) ?_
        refine jv_Wp.lift (fun _ Kz => jv_Ev.br jv_i309 (pc' := 254) (st' := []) rfl (by rfl) Kz) ?_
        refine jv_Wp.lift (fun _ Kz => jv_Ev.steps jv_i309 3 (pc' := 258) (l' := [(7, .int (0 : Int32)), (6, .int (1 : Int32)), (5, .int (0 : Int32)), (4, .int (1 : Int32)), (3, .int (5 : Int32)), (2, .int (vl_I rd)), (0, .ref 196), (1, .int (vl_I p))]) (st' := [.ref 196]) rfl Kz) ?_
        refine jv_Wp.lift (fun _ Kz => jv_Ev.c jv_i309 (pc' := 261) (S' := [.int (vr_b f.bit3)]) jv_i259 [.ref 196] rfl rfl rfl rfl (jv_cal rfl (jv_H_at (jv_rwK hW 196 12 24 (by decide))) rfl rfl) rfl (vq_bit3 f hW D16) rfl rfl Kz) ?_
        refine jv_Wp.cnd jv_i309 (pt := 316) (pe := 264) (p := ((vr_b f.bit3) = 0)) (q := ((vr_b f.bit3) = 0)) rfl jv_bi_eq rfl rfl Iff.rfl (fun _ => ?_) (fun hz => absurd (by rw [hb]; rfl) hz)
        refine jv_Wp.lift (fun _ Kz => jv_Ev.steps jv_i309 3 (pc' := 321) (l' := [(8, .int (0 : Int32)), (7, .int (0 : Int32)), (6, .int (1 : Int32)), (5, .int (0 : Int32)), (4, .int (1 : Int32)), (3, .int (5 : Int32)), (2, .int (vl_I rd)), (0, .ref 196), (1, .int (vl_I p))]) (st' := [.int (0 : Int32)]) rfl Kz) ?_
        refine jv_Wp.lift (fun _ Kz => jv_Ev.br jv_i309 (pc' := 367) (st' := []) rfl (by rfl) Kz) ?_
        refine jv_Wp.lift (fun _ Kz => jv_Ev.steps jv_i309 3 (pc' := 372) (l' := [(9, .int (0 : Int32)), (8, .int (0 : Int32)), (7, .int (0 : Int32)), (6, .int (1 : Int32)), (5, .int (0 : Int32)), (4, .int (1 : Int32)), (3, .int (5 : Int32)), (2, .int (vl_I rd)), (0, .ref 196), (1, .int (vl_I p))]) (st' := [.int (1 : Int32)]) rfl Kz) ?_
        refine jv_Wp.lift (fun _ Kz => jv_Ev.br jv_i309 (pc' := 387) (st' := []) rfl (by rfl) Kz) ?_
        refine jv_Wp.loc (l := [(0, .ref 196), (1, .int (vl_I p)), (3, .int (5 : Int32)), (4, .int (1 : Int32)), (5, .int (0 : Int32)), (7, .int (0 : Int32)), (9, .int (0 : Int32))]) ⟨List.forall_mem_cons.mpr ⟨.tail _ (.tail _ (.tail _ (.tail _ (.tail _ (.tail _ (.tail _ (.tail _ (.head _)))))))), List.forall_mem_cons.mpr ⟨.tail _ (.tail _ (.tail _ (.tail _ (.tail _ (.tail _ (.tail _ (.tail _ (.tail _ (.head _))))))))), List.forall_mem_cons.mpr ⟨.tail _ (.tail _ (.tail _ (.tail _ (.tail _ (.tail _ (.head _)))))), List.forall_mem_cons.mpr ⟨.tail _ (.tail _ (.tail _ (.tail _ (.tail _ (.head _))))), List.forall_mem_cons.mpr ⟨.tail _ (.tail _ (.tail _ (.tail _ (.head _)))), List.forall_mem_cons.mpr ⟨.tail _ (.tail _ (.head _)), List.forall_mem_cons.mpr ⟨.head _, fun _ h => absurd h List.not_mem_nil⟩⟩⟩⟩⟩⟩⟩, by show List.Nodup [9, 8, 7, 6, 5, 4, 3, 2, 0, 1]; decide⟩ ?_
        have td1 : zd = 1 := (hd ()).symm.trans ((vr_is 1 (by decide) okd).mpr (Classical.not_not.mp h2))
        have mQ0 : f.i = 0 := (vr_dQ D).symm.trans (congrArg Int32.toInt (Classical.not_not.mp h4))
        have nx1 : rd ≤ 0 := (vl_I_le (a := rd) (b := 0) (by omega) (by omega)).mp h1
        have j1 : ¬ vx_j1 f (vr_A I L 1024) := by unfold vx_j1; rw [eD, eY, hd (), hs ()]; omega
        have j2 : vx_j2 f (vr_A I L 1024) := by unfold vx_j2; rw [eD, eY, hd (), hs ()]; omega
        have er0 : (vx_jump f (vr_A I L 1024)).1 = 0 := vx_jump_num j1 j2
        have eA : vr_A I16 L16 1024 = (vr_A I L 1024) := vr_fr_A W16 (fun _ _ z => z)
        exact vq_jNIS f p hW Z16 (vr_ST_M W16 (fun _ z => z.elim) (fun _ _ z => z.elim) hS) D16 ((vr_fr_c W16 (by decide) (by decide)).trans gF18) hp hch hd11 hs11 (vr_fr_okA W16 (fun _ _ z => z) oa) ((vr_fr_c W16 (by decide) (by decide)).trans hh) (by rw [vr_fr_T W16 (fun z => z)]; exact gT10) (by rw [eA]; exact gd) (by rw [eA]; exact gj) p1 p2 hk56 hb (by rw [vr_fr_T W16 (fun z => z)]; exact (hd ()).trans (show zd = 1 by omega)) (by rw [vr_fr_S W16 (fun z => z)]; exact vr_tight okd (tA f.d (by omega)) (by rw [(vr_is (L := L) 1 (by decide) okd).mp ((hd ()).trans (show zd = 1 by omega))]; rfl)) (by rw [Y16]; exact vb_just_tight _) (by rw [eA]; exact j1) (by rw [eA]; exact j2) (by rw [eA, vr_fr_S W16 (fun z => z), eD]; exact vr_valv (by rw [(vr_is (L := L) 1 (by decide) okd).mp ((hd ()).trans (show zd = 1 by omega))]; rfl)) (by rw [eA, Y16]; unfold vx_yv; rw [if_neg (by rw [hb]; decide), if_neg (by omega)]) (fun I1 L1 q1 q2 q3 q4 => by rw [hQ]; rw [eA] at q1 q2; exact ⟨I1, L1, by rw [er0]; rfl, fun _ => ⟨q1, q2.trans (by rw [vr_fr_c W16 (by decide) (by decide)])⟩, vr_fr_trans (vr_fr_mono W16 (fun _ _ => trivial) (fun _ _ z => z.elim)) q3, q4⟩)
  · refine jv_Wp.lift (fun _ Kz => jv_Ev.steps jv_i309 1 (pc' := 36) (l' := [(2, .int (vl_I rd)), (0, .ref 196), (1, .int (vl_I p))]) (st' := [.int (vl_I rd)]) rfl Kz) ?_
    refine jv_Wp.loc (l := [(0, .ref 196), (1, .int (vl_I p))]) ⟨List.forall_mem_cons.mpr ⟨.tail _ (.head _), List.forall_mem_cons.mpr ⟨.tail _ (.tail _ (.head _)), fun _ h => absurd h List.not_mem_nil⟩⟩, by show List.Nodup [2, 0, 1]; decide⟩ ?_
    refine jv_Wp.of (jv_Ev.ret jv_i309 rfl rfl) ?_
    have nx1 : ¬ rd ≤ 0 := fun z => h1 ((vl_I_le (a := rd) (b := 0) (by omega) (by omega)).mpr z)
    have b0 : ¬ rd ≤ 0 := fun z => h1 ((vl_I_le (b := 0) (by omega) (by decide)).mpr z)
    have er := vx_jp1 (f := f) (A := (vr_A I L 1024)) (by unfold vx_j1; rw [eD, eY, hd (), hs ()]; omega)
    have ew : rd = 1 := by omega
    rw [hQ]
    exact ⟨_, _, by rw [er, ew], fun z => by rw [er] at z; exact absurd (show (1 : Nat) = 0 from z) (by decide), vr_fr_refl hf, hj⟩