/-! part b24: what registers tell (gen/tb24.py) -/
section
variable {M : vf_M} {A : vt_A} {r n : Nat}
theorem vx_tl0 (h : (A.1 r).sort = 0) : vx_tells M A r n = 1 := if_pos h
theorem vx_tl4 (h : (A.1 r).sort = 4) : vx_tells M A r n = if 0 ≤ (A.1 r).val.least.toInt ∧ (A.1 r).val.greatest.toInt + n ≤ A.2 then 0 else 4 := (if_neg (by omega)).trans (if_pos h)
theorem vx_tl7 (h : (A.1 r).sort = 7) : vx_tells M A r n = if 0 ≤ (A.1 r).val.least.toInt ∧ (A.1 r).val.greatest.toInt + n ≤ (M.value (A.1 r).det : Int) then 0 else 4 := (if_neg (by omega)).trans ((if_neg (by omega)).trans (if_pos h))
theorem vx_tl3 (h : (A.1 r).sort = 3) : vx_tells M A r n = if (A.1 r).det < -512 ∨ -(n : Int) < (A.1 r).det then 4 else if vx_nums A (A.1 r).det n = true then 0 else 5 := (if_neg (by omega)).trans ((if_neg (by omega)).trans ((if_neg (by omega)).trans (if_pos h)))
theorem vx_tl_ (h0 : ¬ (A.1 r).sort = 0) (h4 : ¬ (A.1 r).sort = 4) (h7 : ¬ (A.1 r).sort = 7) (h3 : ¬ (A.1 r).sort = 3) : vx_tells M A r n = 3 := (if_neg h0).trans ((if_neg h4).trans ((if_neg h7).trans (if_neg h3)))
end
theorem jv_i48 : jv_I 48 4 (some .int) 2 47 jv_c48 := ⟨rfl, rfl, rfl, rfl, rfl⟩
theorem vc_tells {K : Nat → Option (Nat × Nat)} {I : Nat → Nat → Int32} {L : Nat → Nat → Int64} {R : Nat → Nat → Value} {M : vf_M} (r nn : Nat) (hC : vc_C K R) (hM : vc_M K I R M) (hr : r < 75) (hnn : nn ≤ 256) (hkn : (L 12 1).toInt ≤ 1073000000) (oa : vc_okA I L 12) (tA : ∀ n, n < 75 → vt_ok (vc_T I L (12 + 2 + n))) (gA : ∀ n, n < 75 → vc_g I L (12 + 2 + n)) {n sl : Nat} : ∃ I1 L1, jv_Ms 48 [.ref 10, .int (vl_I r), .int (vl_I nn)] (jv_H K I L R) n sl (some (.int (vl_I (vx_tells M (vc_A I L 12) r nn))), jv_H K I1 L1 R, n, sl) ∧ I1 = I ∧ L1 = L := by
  obtain ⟨Q, hQ⟩ : ∃ Q : jv_R → Prop, Q = fun X => ∃ I1 L1, X = (some (.int (vl_I (vx_tells M (vc_A I L 12) r nn))), jv_H K I1 L1 R, n, sl) ∧ I1 = I ∧ L1 = L := ⟨_, rfl⟩
  suffices h : jv_Wp 48 0 [(0, .ref 10), (1, .int (vl_I r)), (2, .int (vl_I nn))] [] (jv_H K I L R) n sl Q by
    rw [hQ] at h
    obtain ⟨X, h, I1, L1, e, h'⟩ := h
    subst e
    exact ⟨I1, L1, h, h'⟩
  have en : (vl_I nn).toInt = (nn : Int) := vl_I_int (by omega)
  have hni : 0 ≤ (vl_I nn).toInt ∧ (vl_I nn).toInt ≤ 256 := by rw [en]; omega
  have o0 : (0 : Int32).toInt = 0 := rfl
  have evs : ∀ k, (vl_I (M.value k)).toInt64.toInt = (M.value k : Int) := fun k => (Int32.toInt_toInt64 _).trans (vl_I_int (by have := vf_value_le hM k; omega))
  have hvs : ∀ k, (vl_I (M.value k)).toInt64.toInt ≤ 1073000000 := fun k => by rw [evs]; have := vf_value_le hM k; omega
  have eneg : (-(vl_I nn)).toInt64.toInt = -(nn : Int) := by rw [Int32.toInt_toInt64, Int32.toInt_neg, en]; exact Int.bmod_eq_of_le (by omega) (by omega)
  refine jv_Wp.lift (fun _ Kz => jv_Ev.steps jv_i48 1 (pc' := 1) (l' := [(0, .ref 10), (1, .int (vl_I r)), (2, .int (vl_I nn))]) (st' := [.ref 10]) rfl Kz) ?_
  refine jv_Wp.lift (fun _ Kz => jv_Ev.m jv_i48 (pc' := 4) (st' := [.ref 12]) (G' := (jv_H K I L R)) rfl rfl (jv_m_getR hC.k rfl rfl hC.rnow) Kz) ?_
  refine jv_Wp.lift (fun _ Kz => jv_Ev.m jv_i48 (pc' := 7) (st' := [.ref (12 + 1)]) (G' := (jv_H K I L R)) rfl rfl (jv_m_getR hC.now.k rfl rfl hC.now.r) Kz) ?_
  refine jv_Wp.lift (fun _ Kz => jv_Ev.steps jv_i48 1 (pc' := 8) (l' := [(0, .ref 10), (1, .int (vl_I r)), (2, .int (vl_I nn))]) (st' := [.int (vl_I r), .ref (12 + 1)]) rfl Kz) ?_
  refine jv_Wp.lift (fun _ Kz => jv_Ev.m jv_i48 (pc' := 9) (st' := [.ref (12 + 2 + r)]) (G' := (jv_H K I L R)) rfl rfl (jv_m_aaldR hC.now.kt rfl (vl_I_ix hr (by decide)) rfl (vc_St_rt hC.now hr)) Kz) ?_
  refine jv_Wp.lift (fun _ Kz => jv_Ev.steps jv_i48 2 (pc' := 11) (l' := [(3, .ref (12 + 2 + r)), (0, .ref 10), (1, .int (vl_I r)), (2, .int (vl_I nn))]) (st' := [.ref (12 + 2 + r)]) rfl Kz) ?_
  refine jv_Wp.lift (fun _ Kz => jv_Ev.m jv_i48 (pc' := 14) (st' := [.int (I (12 + 2 + r) 6)]) (G' := (jv_H K I L R)) rfl rfl (jv_m_getI (hC.now.kk _ hr) rfl rfl rfl) Kz) ?_
  refine jv_Wp.bys (q := ((I (12 + 2 + r) 6) = Int32.ofInt 0)) (fun h1 => ?_) (fun h1 => ?_)
  · refine jv_Wp.lift (fun _ Kz => jv_Ev.br jv_i48 (pc' := 60) (st' := []) rfl (by rw [h1]; rfl) Kz) ?_
    refine jv_Wp.lift (fun _ Kz => jv_Ev.steps jv_i48 1 (pc' := 61) (l' := [(3, .ref (12 + 2 + r)), (0, .ref 10), (1, .int (vl_I r)), (2, .int (vl_I nn))]) (st' := [.int (1 : Int32)]) rfl Kz) ?_
    refine jv_Wp.of (jv_Ev.ret jv_i48 rfl rfl) ?_
    rw [hQ]
    have eT : ((vc_A I L 12).1 r) = vc_T I L (12 + 2 + r) := vc_A1 hr
    have s0 : ((vc_A I L 12).1 r).sort = 0 := eT ▸ (vc_is0 (oa _ hr)).mpr h1
    have e : vx_tells M (vc_A I L 12) r nn = 1 := vx_tl0 s0
    exact ⟨_, _, by rw [e]; rfl, rfl, rfl⟩
  · refine jv_Wp.bys (q := ((I (12 + 2 + r) 6) = Int32.ofInt 3)) (fun h2 => ?_) (fun h2 => ?_)
    · refine jv_Wp.lift (fun _ Kz => jv_Ev.br jv_i48 (pc' := 111) (st' := []) rfl (by rw [h2]; rfl) Kz) ?_
      refine jv_Wp.lift (fun _ Kz => jv_Ev.steps jv_i48 1 (pc' := 112) (l' := [(3, .ref (12 + 2 + r)), (0, .ref 10), (1, .int (vl_I r)), (2, .int (vl_I nn))]) (st' := [.ref (12 + 2 + r)]) rfl Kz) ?_
      refine jv_Wp.lift (fun _ Kz => jv_Ev.m jv_i48 (pc' := 115) (st' := [.long (L (12 + 2 + r) 8)]) (G' := (jv_H K I L R)) rfl rfl (jv_m_getL (hC.now.kk _ hr) rfl rfl rfl) Kz) ?_
      refine jv_Wp.lift (fun _ Kz => jv_Ev.steps jv_i48 2 (pc' := 119) (l' := [(3, .ref (12 + 2 + r)), (0, .ref 10), (1, .int (vl_I r)), (2, .int (vl_I nn))]) (st' := [.int (lg_cmp (L (12 + 2 + r) 8) (-512 : Int64))]) rfl Kz) ?_
      refine jv_Wp.cnd jv_i48 (pt := 133) (pe := 122) (p := ((lg_cmp (L (12 + 2 + r) 8) (-512 : Int64)) < 0)) (q := ((L (12 + 2 + r) 8) < (-512 : Int64))) rfl jv_bi_lt rfl rfl (lg_cmp_lt (L (12 + 2 + r) 8) (-512 : Int64)) (fun h3 => ?_) (fun h3 => ?_)
      · refine jv_Wp.lift (fun _ Kz => jv_Ev.steps jv_i48 1 (pc' := 134) (l' := [(3, .ref (12 + 2 + r)), (0, .ref 10), (1, .int (vl_I r)), (2, .int (vl_I nn))]) (st' := [.int (4 : Int32)]) rfl Kz) ?_
        refine jv_Wp.of (jv_Ev.ret jv_i48 rfl rfl) ?_
        rw [hQ]
        have eT : ((vc_A I L 12).1 r) = vc_T I L (12 + 2 + r) := vc_A1 hr
        have n0 : ¬ ((vc_A I L 12).1 r).sort = 0 := fun z => h1 ((vc_is0 (oa _ hr)).mp (eT ▸ z))
        have s3 : ((vc_A I L 12).1 r).sort = 3 := eT ▸ (vc_is3 (oa _ hr)).mpr h2
        have bd : ((vc_A I L 12).1 r).det = (L (12 + 2 + r) 8).toInt := by rw [eT]; exact vc_detk (Or.inr h2)
        have q1 : (L (12 + 2 + r) 8).toInt < -512 := Int64.lt_iff_toInt_lt.mp h3
        have e : vx_tells M (vc_A I L 12) r nn = 4 := (vx_tl3 s3).trans (if_pos (by rw [bd]; omega))
        exact ⟨_, _, by rw [e]; rfl, rfl, rfl⟩
      · refine jv_Wp.lift (fun _ Kz => jv_Ev.steps jv_i48 1 (pc' := 123) (l' := [(3, .ref (12 + 2 + r)), (0, .ref 10), (1, .int (vl_I r)), (2, .int (vl_I nn))]) (st' := [.ref (12 + 2 + r)]) rfl Kz) ?_
        refine jv_Wp.lift (fun _ Kz => jv_Ev.m jv_i48 (pc' := 126) (st' := [.long (L (12 + 2 + r) 8)]) (G' := (jv_H K I L R)) rfl rfl (jv_m_getL (hC.now.kk _ hr) rfl rfl rfl) Kz) ?_
        refine jv_Wp.lift (fun _ Kz => jv_Ev.steps jv_i48 4 (pc' := 130) (l' := [(3, .ref (12 + 2 + r)), (0, .ref 10), (1, .int (vl_I r)), (2, .int (vl_I nn))]) (st' := [.int (lg_cmp (L (12 + 2 + r) 8) (-(vl_I nn)).toInt64)]) rfl Kz) ?_
        refine jv_Wp.cnd jv_i48 (pt := 135) (pe := 133) (p := ((lg_cmp (L (12 + 2 + r) 8) (-(vl_I nn)).toInt64) ≤ 0)) (q := ((L (12 + 2 + r) 8) ≤ (-(vl_I nn)).toInt64)) rfl jv_bi_le rfl rfl (lg_cmp_le (L (12 + 2 + r) 8) (-(vl_I nn)).toInt64) (fun h4 => ?_) (fun h4 => ?_)
        · refine jv_Wp.lift (fun _ Kz => jv_Ev.steps jv_i48 2 (pc' := 137) (l' := [(3, .ref (12 + 2 + r)), (0, .ref 10), (1, .int (vl_I r)), (2, .int (vl_I nn))]) (st' := [.ref (12 + 2 + r), .ref 10]) rfl Kz) ?_
          refine jv_Wp.lift (fun _ Kz => jv_Ev.m jv_i48 (pc' := 140) (st' := [.long (L (12 + 2 + r) 8), .ref 10]) (G' := (jv_H K I L R)) rfl rfl (jv_m_getL (hC.now.kk _ hr) rfl rfl rfl) Kz) ?_
          refine jv_Wp.lift (fun _ Kz => jv_Ev.steps jv_i48 1 (pc' := 141) (l' := [(3, .ref (12 + 2 + r)), (0, .ref 10), (1, .int (vl_I r)), (2, .int (vl_I nn))]) (st' := [.int (vl_I nn), .long (L (12 + 2 + r) 8), .ref 10]) rfl Kz) ?_
          have eT : ((vc_A I L 12).1 r) = vc_T I L (12 + 2 + r) := vc_A1 hr
          have n0 : ¬ ((vc_A I L 12).1 r).sort = 0 := fun z => h1 ((vc_is0 (oa _ hr)).mp (eT ▸ z))
          have s3 : ((vc_A I L 12).1 r).sort = 3 := eT ▸ (vc_is3 (oa _ hr)).mpr h2
          have bd : ((vc_A I L 12).1 r).det = (L (12 + 2 + r) 8).toInt := by rw [eT]; exact vc_detk (Or.inr h2)
          have q1 : ¬ (L (12 + 2 + r) 8).toInt < -512 := (not_congr Int64.lt_iff_toInt_lt).mp h3
          have q2 : (L (12 + 2 + r) 8).toInt ≤ -(nn : Int) := by rw [← eneg]; exact Int64.le_iff_toInt_le.mp h4
          obtain ⟨I1, L1, H1, ei1, el1⟩ := vc_hasN (I := I) (L := L) (R := R) (n := n) (sl := sl) (L (12 + 2 + r) 8) nn hC (by omega) oa
          rw [ei1, el1] at H1
          refine jv_Wp.lift (fun _ Kz => jv_Ev.c jv_i48 (pc' := 144) (S' := [.int (vr_b (vx_nums (vc_A I L 12) (L (12 + 2 + r) 8).toInt nn))]) jv_i36 [.ref 10, .long (L (12 + 2 + r) 8), .int (vl_I nn)] rfl rfl rfl rfl (jv_cal rfl (jv_H_at hC.k) rfl rfl) rfl H1 rfl rfl Kz) ?_
          refine jv_Wp.cnd jv_i48 (pt := 151) (pe := 147) (p := ((vr_b (vx_nums (vc_A I L 12) (L (12 + 2 + r) 8).toInt nn)) = 0)) (q := ((vr_b (vx_nums (vc_A I L 12) (L (12 + 2 + r) 8).toInt nn)) = 0)) rfl jv_bi_eq rfl rfl Iff.rfl (fun h5 => ?_) (fun h5 => ?_)
          · refine jv_Wp.lift (fun _ Kz => jv_Ev.steps jv_i48 1 (pc' := 152) (l' := [(3, .ref (12 + 2 + r)), (0, .ref 10), (1, .int (vl_I r)), (2, .int (vl_I nn))]) (st' := [.int (5 : Int32)]) rfl Kz) ?_
            refine jv_Wp.of (jv_Ev.ret jv_i48 rfl rfl) ?_
            rw [hQ]
            have eT : ((vc_A I L 12).1 r) = vc_T I L (12 + 2 + r) := vc_A1 hr
            have n0 : ¬ ((vc_A I L 12).1 r).sort = 0 := fun z => h1 ((vc_is0 (oa _ hr)).mp (eT ▸ z))
            have s3 : ((vc_A I L 12).1 r).sort = 3 := eT ▸ (vc_is3 (oa _ hr)).mpr h2
            have bd : ((vc_A I L 12).1 r).det = (L (12 + 2 + r) 8).toInt := by rw [eT]; exact vc_detk (Or.inr h2)
            have q1 : ¬ (L (12 + 2 + r) 8).toInt < -512 := (not_congr Int64.lt_iff_toInt_lt).mp h3
            have q2 : (L (12 + 2 + r) 8).toInt ≤ -(nn : Int) := by rw [← eneg]; exact Int64.le_iff_toInt_le.mp h4
            have e : vx_tells M (vc_A I L 12) r nn = 5 := (vx_tl3 s3).trans ((if_neg (by rw [bd]; omega)).trans (if_neg (by rw [bd, vr_b_f h5]; decide)))
            exact ⟨_, _, by rw [e]; rfl, rfl, rfl⟩
          · refine jv_Wp.lift (fun _ Kz => jv_Ev.steps jv_i48 2 (pc' := 152) (l' := [(3, .ref (12 + 2 + r)), (0, .ref 10), (1, .int (vl_I r)), (2, .int (vl_I nn))]) (st' := [.int (0 : Int32)]) rfl Kz) ?_
            refine jv_Wp.of (jv_Ev.ret jv_i48 rfl rfl) ?_
            rw [hQ]
            have eT : ((vc_A I L 12).1 r) = vc_T I L (12 + 2 + r) := vc_A1 hr
            have n0 : ¬ ((vc_A I L 12).1 r).sort = 0 := fun z => h1 ((vc_is0 (oa _ hr)).mp (eT ▸ z))
            have s3 : ((vc_A I L 12).1 r).sort = 3 := eT ▸ (vc_is3 (oa _ hr)).mpr h2
            have bd : ((vc_A I L 12).1 r).det = (L (12 + 2 + r) 8).toInt := by rw [eT]; exact vc_detk (Or.inr h2)
            have q1 : ¬ (L (12 + 2 + r) 8).toInt < -512 := (not_congr Int64.lt_iff_toInt_lt).mp h3
            have q2 : (L (12 + 2 + r) 8).toInt ≤ -(nn : Int) := by rw [← eneg]; exact Int64.le_iff_toInt_le.mp h4
            have e : vx_tells M (vc_A I L 12) r nn = 0 := (vx_tl3 s3).trans ((if_neg (by rw [bd]; omega)).trans (if_pos (by rw [bd, vr_b_t h5])))
            exact ⟨_, _, by rw [e]; rfl, rfl, rfl⟩
        · refine jv_Wp.lift (fun _ Kz => jv_Ev.steps jv_i48 1 (pc' := 134) (l' := [(3, .ref (12 + 2 + r)), (0, .ref 10), (1, .int (vl_I r)), (2, .int (vl_I nn))]) (st' := [.int (4 : Int32)]) rfl Kz) ?_
          refine jv_Wp.of (jv_Ev.ret jv_i48 rfl rfl) ?_
          rw [hQ]
          have eT : ((vc_A I L 12).1 r) = vc_T I L (12 + 2 + r) := vc_A1 hr
          have n0 : ¬ ((vc_A I L 12).1 r).sort = 0 := fun z => h1 ((vc_is0 (oa _ hr)).mp (eT ▸ z))
          have s3 : ((vc_A I L 12).1 r).sort = 3 := eT ▸ (vc_is3 (oa _ hr)).mpr h2
          have bd : ((vc_A I L 12).1 r).det = (L (12 + 2 + r) 8).toInt := by rw [eT]; exact vc_detk (Or.inr h2)
          have q1 : ¬ (L (12 + 2 + r) 8).toInt < -512 := (not_congr Int64.lt_iff_toInt_lt).mp h3
          have q2 : ¬ (L (12 + 2 + r) 8).toInt ≤ -(nn : Int) := by rw [← eneg]; exact (not_congr Int64.le_iff_toInt_le).mp h4
          have e : vx_tells M (vc_A I L 12) r nn = 4 := (vx_tl3 s3).trans (if_pos (by rw [bd]; omega))
          exact ⟨_, _, by rw [e]; rfl, rfl, rfl⟩
    · refine jv_Wp.bys (q := ((I (12 + 2 + r) 6) = Int32.ofInt 4)) (fun h6 => ?_) (fun h6 => ?_)
      · refine jv_Wp.lift (fun _ Kz => jv_Ev.br jv_i48 (pc' := 62) (st' := []) rfl (by rw [h6]; rfl) Kz) ?_
        refine jv_Wp.lift (fun _ Kz => jv_Ev.steps jv_i48 4 (pc' := 66) (l' := [(3, .ref (12 + 2 + r)), (0, .ref 10), (1, .int (vl_I r)), (2, .int (vl_I nn))]) (st' := [.ref 10, .int (vl_I nn), .int (0 : Int32), .ref (12 + 2 + r)]) rfl Kz) ?_
        refine jv_Wp.lift (fun _ Kz => jv_Ev.m jv_i48 (pc' := 69) (st' := [.ref 12, .int (vl_I nn), .int (0 : Int32), .ref (12 + 2 + r)]) (G' := (jv_H K I L R)) rfl rfl (jv_m_getR hC.k rfl rfl hC.rnow) Kz) ?_
        refine jv_Wp.lift (fun _ Kz => jv_Ev.m jv_i48 (pc' := 72) (st' := [.long (L 12 1), .int (vl_I nn), .int (0 : Int32), .ref (12 + 2 + r)]) (G' := (jv_H K I L R)) rfl rfl (jv_m_getL hC.now.k rfl rfl rfl) Kz) ?_
        obtain ⟨I2, L2, H2, ei2, el2⟩ := vc_within (I := I) (L := L) (R := R) (n := n) (sl := sl) (0 : Int32) (vl_I nn) (L 12 1) (x := (12 + 2 + r)) (Or.inr (hC.now.kk _ hr)) (by decide) hni hkn (vc_lg (oa _ hr) (tA _ hr) (Or.inl h6))
        rw [ei2, el2] at H2
        refine jv_Wp.lift (fun _ Kz => jv_Ev.c jv_i48 (pc' := 75) (S' := [.int (vr_b (decide (0 ≤ (L (12 + 2 + r) 4).toInt + (0 : Int32).toInt ∧ (L (12 + 2 + r) 5).toInt + (0 : Int32).toInt + (vl_I nn).toInt ≤ (L 12 1).toInt)))]) jv_i34 [.ref (12 + 2 + r), .int (0 : Int32), .int (vl_I nn), .long (L 12 1)] rfl rfl rfl rfl rfl rfl H2 rfl rfl Kz) ?_
        refine jv_Wp.cnd jv_i48 (pt := 82) (pe := 78) (p := ((vr_b (decide (0 ≤ (L (12 + 2 + r) 4).toInt + (0 : Int32).toInt ∧ (L (12 + 2 + r) 5).toInt + (0 : Int32).toInt + (vl_I nn).toInt ≤ (L 12 1).toInt))) = 0)) (q := ((vr_b (decide (0 ≤ (L (12 + 2 + r) 4).toInt + (0 : Int32).toInt ∧ (L (12 + 2 + r) 5).toInt + (0 : Int32).toInt + (vl_I nn).toInt ≤ (L 12 1).toInt))) = 0)) rfl jv_bi_eq rfl rfl Iff.rfl (fun h7 => ?_) (fun h7 => ?_)
        · refine jv_Wp.lift (fun _ Kz => jv_Ev.steps jv_i48 1 (pc' := 83) (l' := [(3, .ref (12 + 2 + r)), (0, .ref 10), (1, .int (vl_I r)), (2, .int (vl_I nn))]) (st' := [.int (4 : Int32)]) rfl Kz) ?_
          refine jv_Wp.of (jv_Ev.ret jv_i48 rfl rfl) ?_
          rw [hQ]
          have eT : ((vc_A I L 12).1 r) = vc_T I L (12 + 2 + r) := vc_A1 hr
          have n0 : ¬ ((vc_A I L 12).1 r).sort = 0 := fun z => h1 ((vc_is0 (oa _ hr)).mp (eT ▸ z))
          have n3 : ¬ ((vc_A I L 12).1 r).sort = 3 := fun z => h2 ((vc_is3 (oa _ hr)).mp (eT ▸ z))
          have s4 : ((vc_A I L 12).1 r).sort = 4 := eT ▸ (vc_is4 (oa _ hr)).mpr h6
          have vv : ((vc_A I L 12).1 r).val = vl_S L (12 + 2 + r) := by rw [eT]; exact vc_valv (Or.inr (Or.inl h6))
          have hp := of_decide_eq_false (vr_b_f h7)
          rw [en, o0] at hp
          have c : ¬ (0 ≤ ((vc_A I L 12).1 r).val.least.toInt ∧ ((vc_A I L 12).1 r).val.greatest.toInt + (nn : Int) ≤ (vc_A I L 12).2) := by
            rw [vv]; show ¬ (0 ≤ (L (12 + 2 + r) 4).toInt ∧ (L (12 + 2 + r) 5).toInt + (nn : Int) ≤ (L 12 1).toInt); omega
          have e : vx_tells M (vc_A I L 12) r nn = 4 := (vx_tl4 s4).trans (if_neg c)
          exact ⟨_, _, by rw [e]; rfl, rfl, rfl⟩
        · refine jv_Wp.lift (fun _ Kz => jv_Ev.steps jv_i48 2 (pc' := 83) (l' := [(3, .ref (12 + 2 + r)), (0, .ref 10), (1, .int (vl_I r)), (2, .int (vl_I nn))]) (st' := [.int (0 : Int32)]) rfl Kz) ?_
          refine jv_Wp.of (jv_Ev.ret jv_i48 rfl rfl) ?_
          rw [hQ]
          have eT : ((vc_A I L 12).1 r) = vc_T I L (12 + 2 + r) := vc_A1 hr
          have n0 : ¬ ((vc_A I L 12).1 r).sort = 0 := fun z => h1 ((vc_is0 (oa _ hr)).mp (eT ▸ z))
          have n3 : ¬ ((vc_A I L 12).1 r).sort = 3 := fun z => h2 ((vc_is3 (oa _ hr)).mp (eT ▸ z))
          have s4 : ((vc_A I L 12).1 r).sort = 4 := eT ▸ (vc_is4 (oa _ hr)).mpr h6
          have vv : ((vc_A I L 12).1 r).val = vl_S L (12 + 2 + r) := by rw [eT]; exact vc_valv (Or.inr (Or.inl h6))
          have hp := of_decide_eq_true (vr_b_t h7)
          rw [en, o0] at hp
          have c : (0 ≤ ((vc_A I L 12).1 r).val.least.toInt ∧ ((vc_A I L 12).1 r).val.greatest.toInt + (nn : Int) ≤ (vc_A I L 12).2) := by
            rw [vv]; show (0 ≤ (L (12 + 2 + r) 4).toInt ∧ (L (12 + 2 + r) 5).toInt + (nn : Int) ≤ (L 12 1).toInt); omega
          have e : vx_tells M (vc_A I L 12) r nn = 0 := (vx_tl4 s4).trans (if_pos c)
          exact ⟨_, _, by rw [e]; rfl, rfl, rfl⟩
      · refine jv_Wp.bys (q := ((I (12 + 2 + r) 6) = Int32.ofInt 7)) (fun h8 => ?_) (fun h8 => ?_)
        · refine jv_Wp.lift (fun _ Kz => jv_Ev.br jv_i48 (pc' := 84) (st' := []) rfl (by rw [h8]; rfl) Kz) ?_
          refine jv_Wp.lift (fun _ Kz => jv_Ev.steps jv_i48 4 (pc' := 88) (l' := [(3, .ref (12 + 2 + r)), (0, .ref 10), (1, .int (vl_I r)), (2, .int (vl_I nn))]) (st' := [.ref 10, .int (vl_I nn), .int (0 : Int32), .ref (12 + 2 + r)]) rfl Kz) ?_
          refine jv_Wp.lift (fun _ Kz => jv_Ev.m jv_i48 (pc' := 91) (st' := [.ref 2, .int (vl_I nn), .int (0 : Int32), .ref (12 + 2 + r)]) (G' := (jv_H K I L R)) rfl rfl (jv_m_getR hC.k rfl rfl hC.rstore) Kz) ?_
          refine jv_Wp.lift (fun _ Kz => jv_Ev.steps jv_i48 1 (pc' := 92) (l' := [(3, .ref (12 + 2 + r)), (0, .ref 10), (1, .int (vl_I r)), (2, .int (vl_I nn))]) (st' := [.ref (12 + 2 + r), .ref 2, .int (vl_I nn), .int (0 : Int32), .ref (12 + 2 + r)]) rfl Kz) ?_
          refine jv_Wp.lift (fun _ Kz => jv_Ev.m jv_i48 (pc' := 95) (st' := [.int (I (12 + 2 + r) 7), .ref 2, .int (vl_I nn), .int (0 : Int32), .ref (12 + 2 + r)]) (G' := (jv_H K I L R)) rfl rfl (jv_m_getI (hC.now.kk _ hr) rfl rfl rfl) Kz) ?_
          refine jv_Wp.lift (fun _ Kz => jv_Ev.c jv_i48 (pc' := 98) (S' := [.int (vl_I (M.value (I (12 + 2 + r) 7).toInt)), .int (vl_I nn), .int (0 : Int32), .ref (12 + 2 + r)]) jv_i127 [.ref 2, .int (I (12 + 2 + r) 7)] rfl rfl rfl rfl (jv_cal rfl (jv_H_at hM.1) rfl rfl) rfl (vc_vsize hM (I (12 + 2 + r) 7) ((gA _ hr).2 h8)) rfl rfl Kz) ?_
          refine jv_Wp.lift (fun _ Kz => jv_Ev.steps jv_i48 1 (pc' := 99) (l' := [(3, .ref (12 + 2 + r)), (0, .ref 10), (1, .int (vl_I r)), (2, .int (vl_I nn))]) (st' := [.long (vl_I (M.value (I (12 + 2 + r) 7).toInt)).toInt64, .int (vl_I nn), .int (0 : Int32), .ref (12 + 2 + r)]) rfl Kz) ?_
          obtain ⟨I3, L3, H3, ei3, el3⟩ := vc_within (I := I) (L := L) (R := R) (n := n) (sl := sl) (0 : Int32) (vl_I nn) (vl_I (M.value (I (12 + 2 + r) 7).toInt)).toInt64 (x := (12 + 2 + r)) (Or.inr (hC.now.kk _ hr)) (by decide) hni (hvs _) (vc_lg (oa _ hr) (tA _ hr) (Or.inr h8))
          rw [ei3, el3] at H3
          refine jv_Wp.lift (fun _ Kz => jv_Ev.c jv_i48 (pc' := 102) (S' := [.int (vr_b (decide (0 ≤ (L (12 + 2 + r) 4).toInt + (0 : Int32).toInt ∧ (L (12 + 2 + r) 5).toInt + (0 : Int32).toInt + (vl_I nn).toInt ≤ (vl_I (M.value (I (12 + 2 + r) 7).toInt)).toInt64.toInt)))]) jv_i34 [.ref (12 + 2 + r), .int (0 : Int32), .int (vl_I nn), .long (vl_I (M.value (I (12 + 2 + r) 7).toInt)).toInt64] rfl rfl rfl rfl rfl rfl H3 rfl rfl Kz) ?_
          refine jv_Wp.cnd jv_i48 (pt := 109) (pe := 105) (p := ((vr_b (decide (0 ≤ (L (12 + 2 + r) 4).toInt + (0 : Int32).toInt ∧ (L (12 + 2 + r) 5).toInt + (0 : Int32).toInt + (vl_I nn).toInt ≤ (vl_I (M.value (I (12 + 2 + r) 7).toInt)).toInt64.toInt))) = 0)) (q := ((vr_b (decide (0 ≤ (L (12 + 2 + r) 4).toInt + (0 : Int32).toInt ∧ (L (12 + 2 + r) 5).toInt + (0 : Int32).toInt + (vl_I nn).toInt ≤ (vl_I (M.value (I (12 + 2 + r) 7).toInt)).toInt64.toInt))) = 0)) rfl jv_bi_eq rfl rfl Iff.rfl (fun h9 => ?_) (fun h9 => ?_)
          · refine jv_Wp.lift (fun _ Kz => jv_Ev.steps jv_i48 1 (pc' := 110) (l' := [(3, .ref (12 + 2 + r)), (0, .ref 10), (1, .int (vl_I r)), (2, .int (vl_I nn))]) (st' := [.int (4 : Int32)]) rfl Kz) ?_
            refine jv_Wp.of (jv_Ev.ret jv_i48 rfl rfl) ?_
            rw [hQ]
            have eT : ((vc_A I L 12).1 r) = vc_T I L (12 + 2 + r) := vc_A1 hr
            have n0 : ¬ ((vc_A I L 12).1 r).sort = 0 := fun z => h1 ((vc_is0 (oa _ hr)).mp (eT ▸ z))
            have n3 : ¬ ((vc_A I L 12).1 r).sort = 3 := fun z => h2 ((vc_is3 (oa _ hr)).mp (eT ▸ z))
            have n4 : ¬ ((vc_A I L 12).1 r).sort = 4 := fun z => h6 ((vc_is4 (oa _ hr)).mp (eT ▸ z))
            have s7 : ((vc_A I L 12).1 r).sort = 7 := eT ▸ (vc_is7 (oa _ hr)).mpr h8
            have vv : ((vc_A I L 12).1 r).val = vl_S L (12 + 2 + r) := by rw [eT]; exact vc_valv (Or.inr (Or.inr h8))
            have hp := of_decide_eq_false (vr_b_f h9)
            rw [en, o0, evs] at hp
            have dm : ((vc_A I L 12).1 r).det = (I (12 + 2 + r) 7).toInt := by rw [eT]; exact vc_detm (Or.inr (Or.inl h8))
            have c : ¬ (0 ≤ ((vc_A I L 12).1 r).val.least.toInt ∧ ((vc_A I L 12).1 r).val.greatest.toInt + (nn : Int) ≤ (M.value ((vc_A I L 12).1 r).det : Int)) := by
              rw [vv, dm]; show ¬ (0 ≤ (L (12 + 2 + r) 4).toInt ∧ (L (12 + 2 + r) 5).toInt + (nn : Int) ≤ (M.value (I (12 + 2 + r) 7).toInt : Int)); omega
            have e : vx_tells M (vc_A I L 12) r nn = 4 := (vx_tl7 s7).trans (if_neg c)
            exact ⟨_, _, by rw [e]; rfl, rfl, rfl⟩
          · refine jv_Wp.lift (fun _ Kz => jv_Ev.steps jv_i48 2 (pc' := 110) (l' := [(3, .ref (12 + 2 + r)), (0, .ref 10), (1, .int (vl_I r)), (2, .int (vl_I nn))]) (st' := [.int (0 : Int32)]) rfl Kz) ?_
            refine jv_Wp.of (jv_Ev.ret jv_i48 rfl rfl) ?_
            rw [hQ]
            have eT : ((vc_A I L 12).1 r) = vc_T I L (12 + 2 + r) := vc_A1 hr
            have n0 : ¬ ((vc_A I L 12).1 r).sort = 0 := fun z => h1 ((vc_is0 (oa _ hr)).mp (eT ▸ z))
            have n3 : ¬ ((vc_A I L 12).1 r).sort = 3 := fun z => h2 ((vc_is3 (oa _ hr)).mp (eT ▸ z))
            have n4 : ¬ ((vc_A I L 12).1 r).sort = 4 := fun z => h6 ((vc_is4 (oa _ hr)).mp (eT ▸ z))
            have s7 : ((vc_A I L 12).1 r).sort = 7 := eT ▸ (vc_is7 (oa _ hr)).mpr h8
            have vv : ((vc_A I L 12).1 r).val = vl_S L (12 + 2 + r) := by rw [eT]; exact vc_valv (Or.inr (Or.inr h8))
            have hp := of_decide_eq_true (vr_b_t h9)
            rw [en, o0, evs] at hp
            have dm : ((vc_A I L 12).1 r).det = (I (12 + 2 + r) 7).toInt := by rw [eT]; exact vc_detm (Or.inr (Or.inl h8))
            have c : (0 ≤ ((vc_A I L 12).1 r).val.least.toInt ∧ ((vc_A I L 12).1 r).val.greatest.toInt + (nn : Int) ≤ (M.value ((vc_A I L 12).1 r).det : Int)) := by
              rw [vv, dm]; show (0 ≤ (L (12 + 2 + r) 4).toInt ∧ (L (12 + 2 + r) 5).toInt + (nn : Int) ≤ (M.value (I (12 + 2 + r) 7).toInt : Int)); omega
            have e : vx_tells M (vc_A I L 12) r nn = 0 := (vx_tl7 s7).trans (if_pos c)
            exact ⟨_, _, by rw [e]; rfl, rfl, rfl⟩
        · refine jv_Wp.lift (fun _ Kz => jv_Ev.br jv_i48 (pc' := 153) (st' := []) rfl (jv_tsw_def (fun i hi h => by match i, hi, h with 
                | 0, _, h => exact absurd h (jv_ne_toInt (k := 0) h1) 
                | 1, _, _ => rfl 
                | 2, _, _ => rfl 
                | 3, _, h => exact absurd h (jv_ne_toInt (k := 3) h2) 
                | 4, _, h => exact absurd h (jv_ne_toInt (k := 4) h6) 
                | 5, _, _ => rfl 
                | 6, _, _ => rfl 
                | 7, _, h => exact absurd h (jv_ne_toInt (k := 7) h8) 
                | i + 8, hi, _ => exact absurd hi (by simp)) rfl) Kz) ?_
          refine jv_Wp.lift (fun _ Kz => jv_Ev.steps jv_i48 1 (pc' := 154) (l' := [(3, .ref (12 + 2 + r)), (0, .ref 10), (1, .int (vl_I r)), (2, .int (vl_I nn))]) (st' := [.int (3 : Int32)]) rfl Kz) ?_
          refine jv_Wp.of (jv_Ev.ret jv_i48 rfl rfl) ?_
          rw [hQ]
          have eT : ((vc_A I L 12).1 r) = vc_T I L (12 + 2 + r) := vc_A1 hr
          have n0 : ¬ ((vc_A I L 12).1 r).sort = 0 := fun z => h1 ((vc_is0 (oa _ hr)).mp (eT ▸ z))
          have n3 : ¬ ((vc_A I L 12).1 r).sort = 3 := fun z => h2 ((vc_is3 (oa _ hr)).mp (eT ▸ z))
          have n4 : ¬ ((vc_A I L 12).1 r).sort = 4 := fun z => h6 ((vc_is4 (oa _ hr)).mp (eT ▸ z))
          have n7 : ¬ ((vc_A I L 12).1 r).sort = 7 := fun z => h8 ((vc_is7 (oa _ hr)).mp (eT ▸ z))
          have e : vx_tells M (vc_A I L 12) r nn = 3 := vx_tl_ n0 n4 n7 n3
          exact ⟨_, _, by rw [e]; rfl, rfl, rfl⟩