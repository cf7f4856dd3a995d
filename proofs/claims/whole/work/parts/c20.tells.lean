/-! part c20: what a register tells, what it reaches (gen/tc20.py) -/
theorem jv_i296 : jv_I 296 7 (some .int) 3 71 jv_c296 := ⟨rfl, rfl, rfl, rfl, rfl⟩
theorem vq_tells {K : Nat → Option (Nat × Nat)} {I : Nat → Nat → Int32} {L : Nat → Nat → Int64} {R : Nat → Nat → Value} (M : vf_M) (k kd : Nat) (m : Int64) (hW : jv_rW K R) (hM : vr_M I M) (oa : vr_okA I 1024) (hj : vr_j10 I) (hk : k < 11) (k8 : kd < 8) (hkd : I 205 (76800 + k) = 6 ∨ I 205 (76800 + k) = 7 → I 206 (76800 + k) = vl_I kd) {n sl : Nat} : ∃ t : Nat, jv_Ms 296 [.ref 196, .int (vl_I k), .long m] (jv_H K I L R) n sl (some (.int (vl_I t)), jv_H K I L R, n, sl) ∧ t < 9 ∧ (0 ≤ m.toInt → m.toInt ≤ 65536 → t = vx_tells M (vr_A I L 1024) k m.toInt.toNat) := by
  have ok : vr_ok I (76800 + k) k := oa k (by omega)
  have eA : (vr_A I L 1024).1 k = vr_T I L (76800 + k) := vr_A1 (by omega)
  have g6 := (hM kd k8).2.2.2.2.2
  obtain ⟨Q, hQ⟩ : ∃ Q : jv_R → Prop, Q = (fun X => ∃ t : Nat, X = (some (.int (vl_I t)), jv_H K I L R, n, sl) ∧ t < 9 ∧ (0 ≤ m.toInt → m.toInt ≤ 65536 → t = vx_tells M (vr_A I L 1024) k m.toInt.toNat)) := ⟨_, rfl⟩
  suffices h : jv_Wp 296 0 [(0, .ref 196), (1, .int (vl_I k)), (2, .long m)] [] (jv_H K I L R) n sl Q by
    rw [hQ] at h
    obtain ⟨X, h, t, e, h'⟩ := h
    subst e
    exact ⟨t, h, h'⟩
  refine jv_Wp.lift (fun _ Kz => jv_Ev.steps jv_i296 2 (pc' := 2) (l' := [(0, .ref 196), (1, .int (vl_I k)), (2, .long m)]) (st' := [.int (vl_I k), .ref 196]) rfl Kz) ?_
  refine jv_Wp.lift (fun _ Kz => jv_Ev.c jv_i296 (pc' := 5) (S' := [.int (I 205 (76800 + k))]) jv_i271 [.ref 196, .int (vl_I k)] rfl rfl rfl rfl (jv_cal rfl (jv_H_at (jv_rwK hW 196 12 24 (by decide))) rfl rfl) rfl (vq_sortOf k hW (by omega)) rfl rfl Kz) ?_
  refine jv_Wp.lift (fun _ Kz => jv_Ev.steps jv_i296 2 (pc' := 8) (l' := [(4, .int (I 205 (76800 + k))), (0, .ref 196), (1, .int (vl_I k)), (2, .long m)]) (st' := [.ref 196]) rfl Kz) ?_
  refine jv_Wp.lift (fun _ Kz => jv_Ev.m jv_i296 (pc' := 11) (st' := [.ref 206]) (G' := (jv_H K I L R)) rfl rfl (jv_m_getR (jv_rwK hW 196 12 24 (by decide)) rfl rfl (jv_rwR hW 196 14 206 (by decide))) Kz) ?_
  refine jv_Wp.lift (fun _ Kz => jv_Ev.steps jv_i296 2 (pc' := 15) (l' := [(4, .int (I 205 (76800 + k))), (0, .ref 196), (1, .int (vl_I k)), (2, .long m)]) (st' := [.int (vl_I k), .int (1024 : Int32), .ref 206]) rfl Kz) ?_
  refine jv_Wp.lift (fun _ Kz => jv_Ev.c jv_i296 (pc' := 18) (S' := [.int (vl_I (76800 + k)), .ref 206]) jv_i253 [.int (1024 : Int32), .int (vl_I k)] rfl rfl rfl rfl rfl rfl (vq_thing 1024 k) rfl rfl Kz) ?_
  refine jv_Wp.lift (fun _ Kz => jv_Ev.m jv_i296 (pc' := 19) (st' := [.int (I 206 (76800 + k))]) (G' := (jv_H K I L R)) rfl rfl (jv_m_ialdv (jv_rwK hW 206 102 77100 (by decide)) rfl (vl_I_ix (by omega) (by decide)) rfl ((congrArg (I 206) (vl_I_nat (by omega))).trans rfl)) Kz) ?_
  refine jv_Wp.lift (fun _ Kz => jv_Ev.steps jv_i296 3 (pc' := 24) (l' := [(5, .long (I 206 (76800 + k)).toInt64), (4, .int (I 205 (76800 + k))), (0, .ref 196), (1, .int (vl_I k)), (2, .long m)]) (st' := [.int (I 205 (76800 + k))]) rfl Kz) ?_
  refine jv_Wp.bys (q := ((I 205 (76800 + k)) = Int32.ofInt 0)) (fun h1 => ?_) (fun h1 => ?_)
  · refine jv_Wp.lift (fun _ Kz => jv_Ev.br jv_i296 (pc' := 72) (st' := []) rfl (by rw [h1]; rfl) Kz) ?_
    refine jv_Wp.lift (fun _ Kz => jv_Ev.steps jv_i296 1 (pc' := 73) (l' := [(5, .long (I 206 (76800 + k)).toInt64), (4, .int (I 205 (76800 + k))), (0, .ref 196), (1, .int (vl_I k)), (2, .long m)]) (st' := [.int (1 : Int32)]) rfl Kz) ?_
    refine jv_Wp.of (jv_Ev.ret jv_i296 rfl rfl) ?_
    rw [hQ]
    refine ⟨1, rfl, by decide, fun m0 m1 => ?_⟩
    symm
    have zs : ((vr_A I L 1024).1 k).sort = 0 := by rw [eA]; exact ((vr_isN ok hk).mpr h1)
    exact vx_tl0 zs
  · refine jv_Wp.bys (q := ((I 205 (76800 + k)) = Int32.ofInt 3)) (fun h2 => ?_) (fun h2 => ?_)
    · refine jv_Wp.lift (fun _ Kz => jv_Ev.br jv_i296 (pc' := 74) (st' := []) rfl (by rw [h2]; rfl) Kz) ?_
      refine jv_Wp.lift (fun _ Kz => jv_Ev.steps jv_i296 3 (pc' := 80) (l' := [(5, .long (I 206 (76800 + k)).toInt64), (4, .int (I 205 (76800 + k))), (0, .ref 196), (1, .int (vl_I k)), (2, .long m)]) (st' := [.int (lg_cmp (I 206 (76800 + k)).toInt64 (-512 : Int64))]) rfl Kz) ?_
      refine jv_Wp.cnd jv_i296 (pt := 91) (pe := 83) (p := ((lg_cmp (I 206 (76800 + k)).toInt64 (-512 : Int64)) < 0)) (q := ((I 206 (76800 + k)).toInt64 < (-512 : Int64))) rfl jv_bi_lt rfl rfl (lg_cmp_lt (I 206 (76800 + k)).toInt64 (-512 : Int64)) (fun h3 => ?_) (fun h3 => ?_)
      · refine jv_Wp.lift (fun _ Kz => jv_Ev.steps jv_i296 2 (pc' := 110) (l' := [(5, .long (I 206 (76800 + k)).toInt64), (4, .int (I 205 (76800 + k))), (0, .ref 196), (1, .int (vl_I k)), (2, .long m)]) (st' := [.int (4 : Int32)]) rfl Kz) ?_
        refine jv_Wp.of (jv_Ev.ret jv_i296 rfl rfl) ?_
        rw [hQ]
        refine ⟨4, rfl, by decide, fun m0 m1 => ?_⟩
        symm
        have zs : ((vr_A I L 1024).1 k).sort = 3 := by rw [eA]; exact ((vr_is (L := L) 3 (by decide) ok).mpr h2)
        have b2 : ((I 206 (76800 + k)).toInt64).toInt = (I 206 (76800 + k)).toInt := Int32.toInt_toInt64 _
        have en : (-m).toInt = -m.toInt := by rw [Int64.toInt_neg]; exact vi_bm (by omega) (by omega)
        have dt : (vr_T I L (76800 + k)).det = (I 206 (76800 + k)).toInt := rfl
        have lm512 : (-512 : Int64).toInt = -512 := rfl
        have y1 : (I 206 (76800 + k)).toInt64.toInt < (-512 : Int64).toInt := Int64.lt_iff_toInt_lt.mp h3
        rw [vx_tl3 zs, eA]
        exact if_pos (by omega)
      · refine jv_Wp.lift (fun _ Kz => jv_Ev.steps jv_i296 4 (pc' := 88) (l' := [(5, .long (I 206 (76800 + k)).toInt64), (4, .int (I 205 (76800 + k))), (0, .ref 196), (1, .int (vl_I k)), (2, .long m)]) (st' := [.int (lg_cmp (I 206 (76800 + k)).toInt64 (-m))]) rfl Kz) ?_
        refine jv_Wp.cnd jv_i296 (pt := 95) (pe := 91) (p := ((lg_cmp (I 206 (76800 + k)).toInt64 (-m)) ≤ 0)) (q := ((I 206 (76800 + k)).toInt64 ≤ (-m))) rfl jv_bi_le rfl rfl (lg_cmp_le (I 206 (76800 + k)).toInt64 (-m)) (fun h4 => ?_) (fun h4 => ?_)
        · refine jv_Wp.lift (fun _ Kz => jv_Ev.steps jv_i296 3 (pc' := 99) (l' := [(5, .long (I 206 (76800 + k)).toInt64), (4, .int (I 205 (76800 + k))), (0, .ref 196), (1, .int (vl_I k)), (2, .long m)]) (st' := [.long m, .long (I 206 (76800 + k)).toInt64, .ref 196]) rfl Kz) ?_
          have b1 := Int32.toInt_lt (I 206 (76800 + k))
          have b2 : ((I 206 (76800 + k)).toInt64).toInt = (I 206 (76800 + k)).toInt := Int32.toInt_toInt64 _
          have lm : (-512 : Int64).toInt = -512 := rfl
          have b3 : -512 ≤ ((I 206 (76800 + k)).toInt64).toInt := by have z := Int64.le_iff_toInt_le.mp (Int64.not_lt.mp h3); rw [lm] at z; exact z
          obtain ⟨c9, H9, T9⟩ := vq_have (I := I) (L := L) (n := n) (sl := sl) (I 206 (76800 + k)).toInt64 m hW oa hj b3 (Int64.le_iff_toInt_le.mp h4) (by omega)
          refine jv_Wp.lift (fun _ Kz => jv_Ev.c jv_i296 (pc' := 102) (S' := [.int (vr_b c9)]) jv_i292 [.ref 196, .long (I 206 (76800 + k)).toInt64, .long m] rfl rfl rfl rfl (jv_cal rfl (jv_H_at (jv_rwK hW 196 12 24 (by decide))) rfl rfl) rfl H9 rfl rfl Kz) ?_
          refine jv_Wp.cnd jv_i296 (pt := 109) (pe := 105) (p := ((vr_b c9) = 0)) (q := ((vr_b c9) = 0)) rfl jv_bi_eq rfl rfl Iff.rfl (fun h5 => ?_) (fun h5 => ?_)
          · refine jv_Wp.lift (fun _ Kz => jv_Ev.steps jv_i296 1 (pc' := 110) (l' := [(5, .long (I 206 (76800 + k)).toInt64), (4, .int (I 205 (76800 + k))), (0, .ref 196), (1, .int (vl_I k)), (2, .long m)]) (st' := [.int (5 : Int32)]) rfl Kz) ?_
            refine jv_Wp.of (jv_Ev.ret jv_i296 rfl rfl) ?_
            rw [hQ]
            refine ⟨5, rfl, by decide, fun m0 m1 => ?_⟩
            symm
            have zs : ((vr_A I L 1024).1 k).sort = 3 := by rw [eA]; exact ((vr_is (L := L) 3 (by decide) ok).mpr h2)
            have b2 : ((I 206 (76800 + k)).toInt64).toInt = (I 206 (76800 + k)).toInt := Int32.toInt_toInt64 _
            have en : (-m).toInt = -m.toInt := by rw [Int64.toInt_neg]; exact vi_bm (by omega) (by omega)
            have dt : (vr_T I L (76800 + k)).det = (I 206 (76800 + k)).toInt := rfl
            have lm512 : (-512 : Int64).toInt = -512 := rfl
            have y1 : ¬ (I 206 (76800 + k)).toInt64.toInt < (-512 : Int64).toInt := fun z => h3 (Int64.lt_iff_toInt_lt.mpr z)
            have y2 : (I 206 (76800 + k)).toInt64.toInt ≤ (-m).toInt := Int64.le_iff_toInt_le.mp h4
            rw [vx_tl3 zs, eA]
            have e9 : c9 = false := vr_b_f h5
            have T := (T9 m0).symm
            rw [e9, b2] at T
            rw [if_neg (by omega), dt]
            exact if_neg (by rw [T]; decide)
          · refine jv_Wp.lift (fun _ Kz => jv_Ev.steps jv_i296 2 (pc' := 110) (l' := [(5, .long (I 206 (76800 + k)).toInt64), (4, .int (I 205 (76800 + k))), (0, .ref 196), (1, .int (vl_I k)), (2, .long m)]) (st' := [.int (0 : Int32)]) rfl Kz) ?_
            refine jv_Wp.of (jv_Ev.ret jv_i296 rfl rfl) ?_
            rw [hQ]
            refine ⟨0, rfl, by decide, fun m0 m1 => ?_⟩
            symm
            have zs : ((vr_A I L 1024).1 k).sort = 3 := by rw [eA]; exact ((vr_is (L := L) 3 (by decide) ok).mpr h2)
            have b2 : ((I 206 (76800 + k)).toInt64).toInt = (I 206 (76800 + k)).toInt := Int32.toInt_toInt64 _
            have en : (-m).toInt = -m.toInt := by rw [Int64.toInt_neg]; exact vi_bm (by omega) (by omega)
            have dt : (vr_T I L (76800 + k)).det = (I 206 (76800 + k)).toInt := rfl
            have lm512 : (-512 : Int64).toInt = -512 := rfl
            have y1 : ¬ (I 206 (76800 + k)).toInt64.toInt < (-512 : Int64).toInt := fun z => h3 (Int64.lt_iff_toInt_lt.mpr z)
            have y2 : (I 206 (76800 + k)).toInt64.toInt ≤ (-m).toInt := Int64.le_iff_toInt_le.mp h4
            rw [vx_tl3 zs, eA]
            have e9 : c9 = true := vr_b_t h5
            have T := (T9 m0).symm
            rw [e9, b2] at T
            rw [if_neg (by omega), dt]
            exact if_pos T
        · refine jv_Wp.lift (fun _ Kz => jv_Ev.steps jv_i296 2 (pc' := 110) (l' := [(5, .long (I 206 (76800 + k)).toInt64), (4, .int (I 205 (76800 + k))), (0, .ref 196), (1, .int (vl_I k)), (2, .long m)]) (st' := [.int (4 : Int32)]) rfl Kz) ?_
          refine jv_Wp.of (jv_Ev.ret jv_i296 rfl rfl) ?_
          rw [hQ]
          refine ⟨4, rfl, by decide, fun m0 m1 => ?_⟩
          symm
          have zs : ((vr_A I L 1024).1 k).sort = 3 := by rw [eA]; exact ((vr_is (L := L) 3 (by decide) ok).mpr h2)
          have b2 : ((I 206 (76800 + k)).toInt64).toInt = (I 206 (76800 + k)).toInt := Int32.toInt_toInt64 _
          have en : (-m).toInt = -m.toInt := by rw [Int64.toInt_neg]; exact vi_bm (by omega) (by omega)
          have dt : (vr_T I L (76800 + k)).det = (I 206 (76800 + k)).toInt := rfl
          have lm512 : (-512 : Int64).toInt = -512 := rfl
          have y1 : ¬ (I 206 (76800 + k)).toInt64.toInt < (-512 : Int64).toInt := fun z => h3 (Int64.lt_iff_toInt_lt.mpr z)
          have y2 : ¬ (I 206 (76800 + k)).toInt64.toInt ≤ (-m).toInt := fun z => h4 (Int64.le_iff_toInt_le.mpr z)
          rw [vx_tl3 zs, eA]
          exact if_pos (by omega)
    · refine jv_Wp.bys (q := ((I 205 (76800 + k)) = Int32.ofInt 4)) (fun h6 => ?_) (fun h6 => ?_)
      · refine jv_Wp.lift (fun _ Kz => jv_Ev.br jv_i296 (pc' := 111) (st' := []) rfl (by rw [h6]; rfl) Kz) ?_
        refine jv_Wp.lift (fun _ Kz => jv_Ev.steps jv_i296 5 (pc' := 116) (l' := [(5, .long (I 206 (76800 + k)).toInt64), (4, .int (I 205 (76800 + k))), (0, .ref 196), (1, .int (vl_I k)), (2, .long m)]) (st' := [.ref 196, .long m, .long (0 : Int64), .int (vl_I k), .ref 196]) rfl Kz) ?_
        refine jv_Wp.lift (fun _ Kz => jv_Ev.m jv_i296 (pc' := 119) (st' := [.ref 203, .long m, .long (0 : Int64), .int (vl_I k), .ref 196]) (G' := (jv_H K I L R)) rfl rfl (jv_m_getR (jv_rwK hW 196 12 24 (by decide)) rfl rfl (jv_rwR hW 196 11 203 (by decide))) Kz) ?_
        refine jv_Wp.lift (fun _ Kz => jv_Ev.steps jv_i296 1 (pc' := 122) (l' := [(5, .long (I 206 (76800 + k)).toInt64), (4, .int (I 205 (76800 + k))), (0, .ref 196), (1, .int (vl_I k)), (2, .long m)]) (st' := [.int (1024 : Int32), .ref 203, .long m, .long (0 : Int64), .int (vl_I k), .ref 196]) rfl Kz) ?_
        refine jv_Wp.lift (fun _ Kz => jv_Ev.m jv_i296 (pc' := 123) (st' := [.int (I 203 1024), .long m, .long (0 : Int64), .int (vl_I k), .ref 196]) (G' := (jv_H K I L R)) rfl rfl (jv_m_ialdv (jv_rwK hW 203 102 1028 (by decide)) rfl (by decide) rfl rfl) Kz) ?_
        refine jv_Wp.lift (fun _ Kz => jv_Ev.steps jv_i296 1 (pc' := 124) (l' := [(5, .long (I 206 (76800 + k)).toInt64), (4, .int (I 205 (76800 + k))), (0, .ref 196), (1, .int (vl_I k)), (2, .long m)]) (st' := [.long (I 203 1024).toInt64, .long m, .long (0 : Int64), .int (vl_I k), .ref 196]) rfl Kz) ?_
        refine jv_Wp.lift (fun _ Kz => jv_Ev.c jv_i296 (pc' := 127) (S' := [.int (vr_b (vr_wj (L 213 (8 + (76800 + k))) (L 214 (8 + (76800 + k))) (0 : Int64) m (I 203 1024).toInt64))]) jv_i289 [.ref 196, .int (vl_I k), .long (0 : Int64), .long m, .long (I 203 1024).toInt64] rfl rfl rfl rfl (jv_cal rfl (jv_H_at (jv_rwK hW 196 12 24 (by decide))) rfl rfl) rfl (vq_isWithinJ k (0 : Int64) m (I 203 1024).toInt64 hW (by omega)) rfl rfl Kz) ?_
        refine jv_Wp.cnd jv_i296 (pt := 134) (pe := 130) (p := ((vr_b (vr_wj (L 213 (8 + (76800 + k))) (L 214 (8 + (76800 + k))) (0 : Int64) m (I 203 1024).toInt64)) = 0)) (q := ((vr_b (vr_wj (L 213 (8 + (76800 + k))) (L 214 (8 + (76800 + k))) (0 : Int64) m (I 203 1024).toInt64)) = 0)) rfl jv_bi_eq rfl rfl Iff.rfl (fun h7 => ?_) (fun h7 => ?_)
        · refine jv_Wp.lift (fun _ Kz => jv_Ev.steps jv_i296 1 (pc' := 135) (l' := [(5, .long (I 206 (76800 + k)).toInt64), (4, .int (I 205 (76800 + k))), (0, .ref 196), (1, .int (vl_I k)), (2, .long m)]) (st' := [.int (4 : Int32)]) rfl Kz) ?_
          refine jv_Wp.of (jv_Ev.ret jv_i296 rfl rfl) ?_
          rw [hQ]
          refine ⟨4, rfl, by decide, fun m0 m1 => ?_⟩
          symm
          have zs : ((vr_A I L 1024).1 k).sort = 4 := by rw [eA]; exact ((vr_is (L := L) 4 (by decide) ok).mpr h6)
          have w : (vr_wj (L 213 (8 + (76800 + k))) (L 214 (8 + (76800 + k))) (0 : Int64) m (I 203 1024).toInt64) = false := vr_b_f h7
          have ev : (vr_T I L (76800 + k)).val = (vb_toS (vr_S L (8 + (76800 + k)))) := vr_valv (by rw [(vr_is 4 (by decide) ok).mp ((vr_is (L := L) 4 (by decide) ok).mpr h6)]; rfl)
          have e3 : ((I 203 1024).toInt64).toInt = (vr_A I L 1024).2 := Int32.toInt_toInt64 _
          have b1 := Int32.toInt_lt (I 203 1024)
          have b0 := Int32.le_toInt (I 203 1024)
          have e3b : (vr_A I L 1024).2 = (I 203 1024).toInt := rfl
          rw [vx_tl4 zs, eA, ev]
          rw [vr_wj_wi (by decide) ⟨by omega, by omega⟩ ⟨by rw [e3, e3b]; omega, by rw [e3, e3b]; omega⟩, e3] at w
          have l0 : (0 : Int64).toInt = 0 := rfl
          rw [l0] at w
          have w2 := of_decide_eq_false w
          exact if_neg (fun z => w2 ⟨by omega, by omega⟩)
        · refine jv_Wp.lift (fun _ Kz => jv_Ev.steps jv_i296 2 (pc' := 135) (l' := [(5, .long (I 206 (76800 + k)).toInt64), (4, .int (I 205 (76800 + k))), (0, .ref 196), (1, .int (vl_I k)), (2, .long m)]) (st' := [.int (0 : Int32)]) rfl Kz) ?_
          refine jv_Wp.of (jv_Ev.ret jv_i296 rfl rfl) ?_
          rw [hQ]
          refine ⟨0, rfl, by decide, fun m0 m1 => ?_⟩
          symm
          have zs : ((vr_A I L 1024).1 k).sort = 4 := by rw [eA]; exact ((vr_is (L := L) 4 (by decide) ok).mpr h6)
          have w : (vr_wj (L 213 (8 + (76800 + k))) (L 214 (8 + (76800 + k))) (0 : Int64) m (I 203 1024).toInt64) = true := vr_b_t h7
          have ev : (vr_T I L (76800 + k)).val = (vb_toS (vr_S L (8 + (76800 + k)))) := vr_valv (by rw [(vr_is 4 (by decide) ok).mp ((vr_is (L := L) 4 (by decide) ok).mpr h6)]; rfl)
          have e3 : ((I 203 1024).toInt64).toInt = (vr_A I L 1024).2 := Int32.toInt_toInt64 _
          have b1 := Int32.toInt_lt (I 203 1024)
          have b0 := Int32.le_toInt (I 203 1024)
          have e3b : (vr_A I L 1024).2 = (I 203 1024).toInt := rfl
          rw [vx_tl4 zs, eA, ev]
          rw [vr_wj_wi (by decide) ⟨by omega, by omega⟩ ⟨by rw [e3, e3b]; omega, by rw [e3, e3b]; omega⟩, e3] at w
          have l0 : (0 : Int64).toInt = 0 := rfl
          rw [l0] at w
          have w2 := of_decide_eq_true w
          exact if_pos ⟨by omega, by omega⟩
      · refine jv_Wp.bys (q := ((I 205 (76800 + k)) = Int32.ofInt 7)) (fun h8 => ?_) (fun h8 => ?_)
        · refine jv_Wp.lift (fun _ Kz => jv_Ev.br jv_i296 (pc' := 136) (st' := []) rfl (by rw [h8]; rfl) Kz) ?_
          refine jv_Wp.lift (fun _ Kz => jv_Ev.steps jv_i296 5 (pc' := 141) (l' := [(5, .long (I 206 (76800 + k)).toInt64), (4, .int (I 205 (76800 + k))), (0, .ref 196), (1, .int (vl_I k)), (2, .long m)]) (st' := [.ref 196, .long m, .long (0 : Int64), .int (vl_I k), .ref 196]) rfl Kz) ?_
          refine jv_Wp.lift (fun _ Kz => jv_Ev.m jv_i296 (pc' := 144) (st' := [.ref 201, .long m, .long (0 : Int64), .int (vl_I k), .ref 196]) (G' := (jv_H K I L R)) rfl rfl (jv_m_getR (jv_rwK hW 196 12 24 (by decide)) rfl rfl (jv_rwR hW 196 9 201 (by decide))) Kz) ?_
          refine jv_Wp.lift (fun _ Kz => jv_Ev.steps jv_i296 1 (pc' := 145) (l' := [(5, .long (I 206 (76800 + k)).toInt64), (4, .int (I 205 (76800 + k))), (0, .ref 196), (1, .int (vl_I k)), (2, .long m)]) (st' := [.ref 196, .ref 201, .long m, .long (0 : Int64), .int (vl_I k), .ref 196]) rfl Kz) ?_
          refine jv_Wp.lift (fun _ Kz => jv_Ev.m jv_i296 (pc' := 148) (st' := [.ref 206, .ref 201, .long m, .long (0 : Int64), .int (vl_I k), .ref 196]) (G' := (jv_H K I L R)) rfl rfl (jv_m_getR (jv_rwK hW 196 12 24 (by decide)) rfl rfl (jv_rwR hW 196 14 206 (by decide))) Kz) ?_
          refine jv_Wp.lift (fun _ Kz => jv_Ev.steps jv_i296 2 (pc' := 152) (l' := [(5, .long (I 206 (76800 + k)).toInt64), (4, .int (I 205 (76800 + k))), (0, .ref 196), (1, .int (vl_I k)), (2, .long m)]) (st' := [.int (vl_I k), .int (1024 : Int32), .ref 206, .ref 201, .long m, .long (0 : Int64), .int (vl_I k), .ref 196]) rfl Kz) ?_
          refine jv_Wp.lift (fun _ Kz => jv_Ev.c jv_i296 (pc' := 155) (S' := [.int (vl_I (76800 + k)), .ref 206, .ref 201, .long m, .long (0 : Int64), .int (vl_I k), .ref 196]) jv_i253 [.int (1024 : Int32), .int (vl_I k)] rfl rfl rfl rfl rfl rfl (vq_thing 1024 k) rfl rfl Kz) ?_
          refine jv_Wp.lift (fun _ Kz => jv_Ev.m jv_i296 (pc' := 156) (st' := [.int (vl_I kd), .ref 201, .long m, .long (0 : Int64), .int (vl_I k), .ref 196]) (G' := (jv_H K I L R)) rfl rfl (jv_m_ialdv (jv_rwK hW 206 102 77100 (by decide)) rfl (vl_I_ix (by omega) (by decide)) rfl ((congrArg (I 206) (vl_I_nat (by omega))).trans (hkd (Or.inr h8)))) Kz) ?_
          refine jv_Wp.lift (fun _ Kz => jv_Ev.m jv_i296 (pc' := 157) (st' := [.int (vl_I (M.value kd)), .long m, .long (0 : Int64), .int (vl_I k), .ref 196]) (G' := (jv_H K I L R)) rfl rfl (jv_m_ialdv (jv_rwK hW 201 102 8 (by decide)) rfl (vl_I_ix (by omega) (by decide)) rfl ((congrArg (I 201) (vl_I_nat (by omega))).trans (hM kd k8).2.2.1)) Kz) ?_
          refine jv_Wp.lift (fun _ Kz => jv_Ev.steps jv_i296 1 (pc' := 158) (l' := [(5, .long (I 206 (76800 + k)).toInt64), (4, .int (I 205 (76800 + k))), (0, .ref 196), (1, .int (vl_I k)), (2, .long m)]) (st' := [.long (vl_I (M.value kd)).toInt64, .long m, .long (0 : Int64), .int (vl_I k), .ref 196]) rfl Kz) ?_
          refine jv_Wp.lift (fun _ Kz => jv_Ev.c jv_i296 (pc' := 161) (S' := [.int (vr_b (vr_wj (L 213 (8 + (76800 + k))) (L 214 (8 + (76800 + k))) (0 : Int64) m (vl_I (M.value kd)).toInt64))]) jv_i289 [.ref 196, .int (vl_I k), .long (0 : Int64), .long m, .long (vl_I (M.value kd)).toInt64] rfl rfl rfl rfl (jv_cal rfl (jv_H_at (jv_rwK hW 196 12 24 (by decide))) rfl rfl) rfl (vq_isWithinJ k (0 : Int64) m (vl_I (M.value kd)).toInt64 hW (by omega)) rfl rfl Kz) ?_
          refine jv_Wp.cnd jv_i296 (pt := 168) (pe := 164) (p := ((vr_b (vr_wj (L 213 (8 + (76800 + k))) (L 214 (8 + (76800 + k))) (0 : Int64) m (vl_I (M.value kd)).toInt64)) = 0)) (q := ((vr_b (vr_wj (L 213 (8 + (76800 + k))) (L 214 (8 + (76800 + k))) (0 : Int64) m (vl_I (M.value kd)).toInt64)) = 0)) rfl jv_bi_eq rfl rfl Iff.rfl (fun h9 => ?_) (fun h9 => ?_)
          · refine jv_Wp.lift (fun _ Kz => jv_Ev.steps jv_i296 1 (pc' := 169) (l' := [(5, .long (I 206 (76800 + k)).toInt64), (4, .int (I 205 (76800 + k))), (0, .ref 196), (1, .int (vl_I k)), (2, .long m)]) (st' := [.int (4 : Int32)]) rfl Kz) ?_
            refine jv_Wp.of (jv_Ev.ret jv_i296 rfl rfl) ?_
            rw [hQ]
            refine ⟨4, rfl, by decide, fun m0 m1 => ?_⟩
            symm
            have zs : ((vr_A I L 1024).1 k).sort = 7 := by rw [eA]; exact ((vr_is (L := L) 7 (by decide) ok).mpr h8)
            have w : (vr_wj (L 213 (8 + (76800 + k))) (L 214 (8 + (76800 + k))) (0 : Int64) m (vl_I (M.value kd)).toInt64) = false := vr_b_f h9
            have ev : (vr_T I L (76800 + k)).val = (vb_toS (vr_S L (8 + (76800 + k)))) := vr_valv (by rw [(vr_is 7 (by decide) ok).mp ((vr_is (L := L) 7 (by decide) ok).mpr h8)]; rfl)
            have ek : (vl_I (M.value kd)).toInt = (M.value kd : Int) := vl_I_int (by omega)
            have e3 : ((vl_I (M.value kd)).toInt64).toInt = (M.value (vr_T I L (76800 + k)).det : Int) := by rw [Int32.toInt_toInt64, ek]; show _ = ((M.value (I 206 (76800 + k)).toInt : Nat) : Int); rw [hkd (Or.inr h8), show (vl_I kd).toInt = (kd : Int) from vl_I_int (by omega)]
            have b1 : ((vl_I (M.value kd)).toInt64).toInt ≤ 256 := by rw [Int32.toInt_toInt64, ek]; omega
            have b0 : 0 ≤ ((vl_I (M.value kd)).toInt64).toInt := by rw [Int32.toInt_toInt64, ek]; omega
            rw [vx_tl7 zs, eA, ev]
            rw [vr_wj_wi (by decide) ⟨by omega, by omega⟩ ⟨by omega, by omega⟩, e3] at w
            have l0 : (0 : Int64).toInt = 0 := rfl
            rw [l0] at w
            have w2 := of_decide_eq_false w
            exact if_neg (fun z => w2 ⟨by omega, by omega⟩)
          · refine jv_Wp.lift (fun _ Kz => jv_Ev.steps jv_i296 2 (pc' := 169) (l' := [(5, .long (I 206 (76800 + k)).toInt64), (4, .int (I 205 (76800 + k))), (0, .ref 196), (1, .int (vl_I k)), (2, .long m)]) (st' := [.int (0 : Int32)]) rfl Kz) ?_
            refine jv_Wp.of (jv_Ev.ret jv_i296 rfl rfl) ?_
            rw [hQ]
            refine ⟨0, rfl, by decide, fun m0 m1 => ?_⟩
            symm
            have zs : ((vr_A I L 1024).1 k).sort = 7 := by rw [eA]; exact ((vr_is (L := L) 7 (by decide) ok).mpr h8)
            have w : (vr_wj (L 213 (8 + (76800 + k))) (L 214 (8 + (76800 + k))) (0 : Int64) m (vl_I (M.value kd)).toInt64) = true := vr_b_t h9
            have ev : (vr_T I L (76800 + k)).val = (vb_toS (vr_S L (8 + (76800 + k)))) := vr_valv (by rw [(vr_is 7 (by decide) ok).mp ((vr_is (L := L) 7 (by decide) ok).mpr h8)]; rfl)
            have ek : (vl_I (M.value kd)).toInt = (M.value kd : Int) := vl_I_int (by omega)
            have e3 : ((vl_I (M.value kd)).toInt64).toInt = (M.value (vr_T I L (76800 + k)).det : Int) := by rw [Int32.toInt_toInt64, ek]; show _ = ((M.value (I 206 (76800 + k)).toInt : Nat) : Int); rw [hkd (Or.inr h8), show (vl_I kd).toInt = (kd : Int) from vl_I_int (by omega)]
            have b1 : ((vl_I (M.value kd)).toInt64).toInt ≤ 256 := by rw [Int32.toInt_toInt64, ek]; omega
            have b0 : 0 ≤ ((vl_I (M.value kd)).toInt64).toInt := by rw [Int32.toInt_toInt64, ek]; omega
            rw [vx_tl7 zs, eA, ev]
            rw [vr_wj_wi (by decide) ⟨by omega, by omega⟩ ⟨by omega, by omega⟩, e3] at w
            have l0 : (0 : Int64).toInt = 0 := rfl
            rw [l0] at w
            have w2 := of_decide_eq_true w
            exact if_pos ⟨by omega, by omega⟩
        · refine jv_Wp.lift (fun _ Kz => jv_Ev.br jv_i296 (pc' := 170) (st' := []) rfl (jv_tsw_def (fun i hi h => by match i, hi, h with 
                | 0, _, h => exact absurd h (jv_ne_toInt (k := 0) h1) 
                | 1, _, _ => rfl 
                | 2, _, _ => rfl 
                | 3, _, h => exact absurd h (jv_ne_toInt (k := 3) h2) 
                | 4, _, h => exact absurd h (jv_ne_toInt (k := 4) h6) 
                | 5, _, _ => rfl 
                | 6, _, _ => rfl 
                | 7, _, h => exact absurd h (jv_ne_toInt (k := 7) h8) 
                | i + 8, hi, _ => exact absurd hi (by simp)) rfl) Kz) ?_
          refine jv_Wp.lift (fun _ Kz => jv_Ev.steps jv_i296 1 (pc' := 171) (l' := [(5, .long (I 206 (76800 + k)).toInt64), (4, .int (I 205 (76800 + k))), (0, .ref 196), (1, .int (vl_I k)), (2, .long m)]) (st' := [.int (3 : Int32)]) rfl Kz) ?_
          refine jv_Wp.of (jv_Ev.ret jv_i296 rfl rfl) ?_
          rw [hQ]
          refine ⟨3, rfl, by decide, fun m0 m1 => ?_⟩
          symm
          have t0 : ¬ (vr_T I L (76800 + k)).sort = 0 := fun z => h1 ((vr_isN ok hk).mp z)
          have t3 : ¬ (vr_T I L (76800 + k)).sort = 3 := fun z => h2 ((vr_is 3 (by decide) ok).mp z)
          have t4 : ¬ (vr_T I L (76800 + k)).sort = 4 := fun z => h6 ((vr_is 4 (by decide) ok).mp z)
          have t7 : ¬ (vr_T I L (76800 + k)).sort = 7 := fun z => h8 ((vr_is 7 (by decide) ok).mp z)
          exact vx_tl_ (by rw [eA]; exact t0) (by rw [eA]; exact t4) (by rw [eA]; exact t7) (by rw [eA]; exact t3)