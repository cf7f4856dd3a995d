/-! part b22: stores (gen/tb22.py) -/
def vx_sto (M : vf_M) (f : vf_F) (A : vt_A) (y : vt_T) : Nat × vt_A :=
  if (A.1 f.d).sort = 0 ∨ y.sort = 0 then (1, A)
  else if vx_reach M A (A.1 f.d) f.o f.z true ≠ 0 then (vx_reach M A (A.1 f.d) f.o f.z true, A)
  else if y.sort ≠ 1 ∧ ((A.1 f.d).sort ≠ 3 ∨ f.z ≠ 8) then (6, A)
  else if (A.1 f.d).sort = 3 then (0, vx_put A ((A.1 f.d).det + f.o) f.z y)
  else (0, A)
theorem vx_store_eq (M : vf_M) (f : vf_F) (A : vt_A) : vx_store M f A = vx_sto M f A (if f.kind = 3 then A.1 f.s else vt_num (vx_just f.i)) := rfl
section
variable {M : vf_M} {f : vf_F} {A : vt_A} {y : vt_T}
theorem vx_st1 (h : (A.1 f.d).sort = 0 ∨ y.sort = 0) : vx_sto M f A y = (1, A) := if_pos h
theorem vx_st2 (h : ¬ ((A.1 f.d).sort = 0 ∨ y.sort = 0)) (h2 : vx_reach M A (A.1 f.d) f.o f.z true ≠ 0) : vx_sto M f A y = (vx_reach M A (A.1 f.d) f.o f.z true, A) := (if_neg h).trans (if_pos h2)
theorem vx_st3 (h : ¬ ((A.1 f.d).sort = 0 ∨ y.sort = 0)) (h2 : ¬ vx_reach M A (A.1 f.d) f.o f.z true ≠ 0) (h3 : y.sort ≠ 1 ∧ ((A.1 f.d).sort ≠ 3 ∨ f.z ≠ 8)) : vx_sto M f A y = (6, A) := (if_neg h).trans ((if_neg h2).trans (if_pos h3))
theorem vx_st4 (h : ¬ ((A.1 f.d).sort = 0 ∨ y.sort = 0)) (h2 : ¬ vx_reach M A (A.1 f.d) f.o f.z true ≠ 0) (h3 : ¬ (y.sort ≠ 1 ∧ ((A.1 f.d).sort ≠ 3 ∨ f.z ≠ 8))) (h4 : (A.1 f.d).sort = 3) : vx_sto M f A y = (0, vx_put A ((A.1 f.d).det + f.o) f.z y) := (if_neg h).trans ((if_neg h2).trans ((if_neg h3).trans (if_pos h4)))
theorem vx_st5 (h : ¬ ((A.1 f.d).sort = 0 ∨ y.sort = 0)) (h2 : ¬ vx_reach M A (A.1 f.d) f.o f.z true ≠ 0) (h3 : ¬ (y.sort ≠ 1 ∧ ((A.1 f.d).sort ≠ 3 ∨ f.z ≠ 8))) (h4 : ¬ (A.1 f.d).sort = 3) : vx_sto M f A y = (0, A) := (if_neg h).trans ((if_neg h2).trans ((if_neg h3).trans (if_neg h4)))
end
theorem vc_fr_g {P : Nat → Prop} {I I1 : Nat → Nat → Int32} {L L1 : Nat → Nat → Int64} (h : vc_fr P I L I1 L1) {o : Nat} (ho : ¬ P o) (z : vc_g I L o) : vc_g I1 L1 o := by
  refine ⟨vc_fr_far h ho z.1, ?_⟩
  rw [(h o ho).1, (h o ho).1]; exact z.2
/-- what changes no map and not their number leaves the maps as they were -/
theorem vc_fr_M {K : Nat → Option (Nat × Nat)} {I I1 : Nat → Nat → Int32} {L L1 : Nat → Nat → Int64} {R : Nat → Nat → Value} {M : vf_M} (h : vc_fr (fun p => p = 166) I L I1 L1) (hm : ∀ k o, R 7 k = .ref o → ¬ o = 166) (z : vc_M K I R M) : vc_M K I1 R M := by
  obtain ⟨h2, hr, N, cnt, h7, hc, hN, hB, hy, hno⟩ := z
  refine ⟨h2, hr, N, cnt, h7, ((h 2 (by decide)).1 7).trans hc, hN, hB, fun k hk => ?_, hno⟩
  obtain ⟨o, e, ro, me, a1, a2, a3, a4, a5, a6⟩ := hy k hk
  have n := hm k o ro
  exact ⟨o, e, ro, me, a1, a2, ((h o n).1 0).trans a3, ((h o n).1 1).trans a4, ((h o n).1 2).trans a5, a6⟩
theorem jv_i37 : jv_I 37 8 (some .int) 3 73 jv_c37 := ⟨rfl, rfl, rfl, rfl, rfl⟩
theorem vc_ktail {K : Nat → Option (Nat × Nat)} {I : Nat → Nat → Int32} {L : Nat → Nat → Int64} {R : Nat → Nat → Value} {M : vf_M} (w : Int64) {y : Nat} (hC : vc_C K R) (hM : vc_M K I R M) (hkn : (L 12 1).toInt ≤ 1073000000) (oa : vc_okA I L 12) (tA : ∀ n, n < 75 → vt_ok (vc_T I L (12 + 2 + n))) (gA : ∀ n, n < 75 → vc_g I L (12 + 2 + n)) (hy : K y = some (8, 10)) (oy : vc_ok I L y) {n sl : Nat} {Q : jv_R → Prop} (hQ : Q = fun X => ∃ I1 L1, X = (some (.int (vl_I (vx_sto M (vc_F w) (vc_A I L 12) (vc_T I L y)).1)), jv_H K I1 L1 R, n, sl) ∧ ((vx_sto M (vc_F w) (vc_A I L 12) (vc_T I L y)).1 = 0 → vc_A I1 L1 12 = (vx_sto M (vc_F w) (vc_A I L 12) (vc_T I L y)).2 ∧ vc_okA I1 L1 12) ∧ vc_fr (vc_in 12) I L I1 L1 ∧ ∀ f, I1 12 f = I 12 f) : jv_Wp 37 68 [(0, .ref 10), (1, .long w), (3, .ref (12 + 2 + (vc_F w).d)), (4, .int (jv_wfoffset w)), (5, .int (vl_I (vc_F w).z)), (6, .ref y)] [] (jv_H K I L R) n sl Q := by
  have hd75 := vw_d75 w
  have z4 := vw_z w
  have rlt := vx_reach_lt (M := M) (A := vc_A I L 12) (t := vc_T I L (12 + 2 + (vc_F w).d)) (o := (jv_wfoffset w).toInt) (z := (vc_F w).z) (w := true)
  refine jv_Wp.lift (fun _ Kz => jv_Ev.steps jv_i37 1 (pc' := 69) (l' := [(0, .ref 10), (1, .long w), (3, .ref (12 + 2 + (vc_F w).d)), (4, .int (jv_wfoffset w)), (5, .int (vl_I (vc_F w).z)), (6, .ref y)]) (st' := [.ref (12 + 2 + (vc_F w).d)]) rfl Kz) ?_
  refine jv_Wp.lift (fun _ Kz => jv_Ev.m jv_i37 (pc' := 72) (st' := [.int (I (12 + 2 + (vc_F w).d) 6)]) (G' := (jv_H K I L R)) rfl rfl (jv_m_getI (hC.now.kk _ (vw_d75 w)) rfl rfl rfl) Kz) ?_
  refine jv_Wp.cnd jv_i37 (pt := 83) (pe := 75) (p := ((I (12 + 2 + (vc_F w).d) 6) = 0)) (q := ((I (12 + 2 + (vc_F w).d) 6) = 0)) rfl jv_bi_eq rfl rfl Iff.rfl (fun h1 => ?_) (fun h1 => ?_)
  · refine jv_Wp.lift (fun _ Kz => jv_Ev.steps jv_i37 1 (pc' := 84) (l' := [(0, .ref 10), (1, .long w), (3, .ref (12 + 2 + (vc_F w).d)), (4, .int (jv_wfoffset w)), (5, .int (vl_I (vc_F w).z)), (6, .ref y)]) (st' := [.int (1 : Int32)]) rfl Kz) ?_
    refine jv_Wp.of (jv_Ev.ret jv_i37 rfl rfl) ?_
    rw [hQ]
    have eD : ((vc_A I L 12).1 (vc_F w).d) = vc_T I L (12 + 2 + (vc_F w).d) := vc_A1 hd75
    have d0 : (vc_T I L (12 + 2 + (vc_F w).d)).sort = 0 := (vc_is0 (oa _ hd75)).mpr h1
    have e := vx_st1 (M := M) (f := vc_F w) (A := vc_A I L 12) (y := (vc_T I L y)) (by rw [eD]; omega)
    exact ⟨_, _, by rw [e]; rfl, fun z => by rw [e] at z; exact absurd (show (1 : Nat) = 0 from z) (by decide), vc_fr_refl _ _, fun _ => rfl⟩
  · refine jv_Wp.lift (fun _ Kz => jv_Ev.steps jv_i37 1 (pc' := 77) (l' := [(0, .ref 10), (1, .long w), (3, .ref (12 + 2 + (vc_F w).d)), (4, .int (jv_wfoffset w)), (5, .int (vl_I (vc_F w).z)), (6, .ref y)]) (st' := [.ref y]) rfl Kz) ?_
    refine jv_Wp.lift (fun _ Kz => jv_Ev.m jv_i37 (pc' := 80) (st' := [.int (I y 6)]) (G' := (jv_H K I L R)) rfl rfl (jv_m_getI hy rfl rfl rfl) Kz) ?_
    refine jv_Wp.cnd jv_i37 (pt := 85) (pe := 83) (p := (¬ (I y 6) = 0)) (q := (¬ (I y 6) = 0)) rfl jv_bi_ne rfl rfl Iff.rfl (fun h2 => ?_) (fun h2 => ?_)
    · refine jv_Wp.lift (fun _ Kz => jv_Ev.steps jv_i37 5 (pc' := 92) (l' := [(0, .ref 10), (1, .long w), (3, .ref (12 + 2 + (vc_F w).d)), (4, .int (jv_wfoffset w)), (5, .int (vl_I (vc_F w).z)), (6, .ref y)]) (st' := [.int (1 : Int32), .int (vl_I (vc_F w).z), .int (jv_wfoffset w), .ref (12 + 2 + (vc_F w).d), .ref 10]) rfl Kz) ?_
      obtain ⟨I1, L1, H1, ei1, el1⟩ := vc_reach (I := I) (L := L) (R := R) (n := n) (sl := sl) (M := M) (t := (12 + 2 + (vc_F w).d)) (jv_wfoffset w) (vc_F w).z true hC hM (hC.now.kk _ (vw_d75 w)) (oa _ hd75) (vw_z w) (vw_off w) (gA _ hd75).1 hkn (vc_lg (oa _ hd75) (tA _ hd75)) (gA _ hd75).2
      rw [ei1, el1] at H1
      refine jv_Wp.lift (fun _ Kz => jv_Ev.c jv_i37 (pc' := 95) (S' := [.int (vl_I (vx_reach M (vc_A I L 12) (vc_T I L (12 + 2 + (vc_F w).d)) (jv_wfoffset w).toInt (vc_F w).z true))]) jv_i33 [.ref 10, .ref (12 + 2 + (vc_F w).d), .int (jv_wfoffset w), .int (vl_I (vc_F w).z), .int (1 : Int32)] rfl rfl rfl rfl (jv_cal rfl (jv_H_at hC.k) rfl rfl) rfl H1 rfl rfl Kz) ?_
      refine jv_Wp.lift (fun _ Kz => jv_Ev.steps jv_i37 2 (pc' := 99) (l' := [(7, .int (vl_I (vx_reach M (vc_A I L 12) (vc_T I L (12 + 2 + (vc_F w).d)) (jv_wfoffset w).toInt (vc_F w).z true))), (0, .ref 10), (1, .long w), (3, .ref (12 + 2 + (vc_F w).d)), (4, .int (jv_wfoffset w)), (5, .int (vl_I (vc_F w).z)), (6, .ref y)]) (st' := [.int (vl_I (vx_reach M (vc_A I L 12) (vc_T I L (12 + 2 + (vc_F w).d)) (jv_wfoffset w).toInt (vc_F w).z true))]) rfl Kz) ?_
      refine jv_Wp.cnd jv_i37 (pt := 105) (pe := 102) (p := ((vl_I (vx_reach M (vc_A I L 12) (vc_T I L (12 + 2 + (vc_F w).d)) (jv_wfoffset w).toInt (vc_F w).z true)) = 0)) (q := ((vl_I (vx_reach M (vc_A I L 12) (vc_T I L (12 + 2 + (vc_F w).d)) (jv_wfoffset w).toInt (vc_F w).z true)) = 0)) rfl jv_bi_eq rfl rfl Iff.rfl (fun h3 => ?_) (fun h3 => ?_)
      · refine jv_Wp.lift (fun _ Kz => jv_Ev.steps jv_i37 1 (pc' := 107) (l' := [(7, .int (vl_I (vx_reach M (vc_A I L 12) (vc_T I L (12 + 2 + (vc_F w).d)) (jv_wfoffset w).toInt (vc_F w).z true))), (0, .ref 10), (1, .long w), (3, .ref (12 + 2 + (vc_F w).d)), (4, .int (jv_wfoffset w)), (5, .int (vl_I (vc_F w).z)), (6, .ref y)]) (st' := [.ref y]) rfl Kz) ?_
        refine jv_Wp.lift (fun _ Kz => jv_Ev.m jv_i37 (pc' := 110) (st' := [.int (I y 6)]) (G' := (jv_H K I L R)) rfl rfl (jv_m_getI hy rfl rfl rfl) Kz) ?_
        refine jv_Wp.lift (fun _ Kz => jv_Ev.steps jv_i37 1 (pc' := 111) (l' := [(7, .int (vl_I (vx_reach M (vc_A I L 12) (vc_T I L (12 + 2 + (vc_F w).d)) (jv_wfoffset w).toInt (vc_F w).z true))), (0, .ref 10), (1, .long w), (3, .ref (12 + 2 + (vc_F w).d)), (4, .int (jv_wfoffset w)), (5, .int (vl_I (vc_F w).z)), (6, .ref y)]) (st' := [.int (1 : Int32), .int (I y 6)]) rfl Kz) ?_
        refine jv_Wp.cnd jv_i37 (pt := 132) (pe := 114) (p := ((I y 6) = (1 : Int32))) (q := ((I y 6) = (1 : Int32))) rfl jv_bc_eq rfl rfl Iff.rfl (fun h4 => ?_) (fun h4 => ?_)
        · refine jv_Wp.lift (fun _ Kz => jv_Ev.steps jv_i37 1 (pc' := 133) (l' := [(7, .int (vl_I (vx_reach M (vc_A I L 12) (vc_T I L (12 + 2 + (vc_F w).d)) (jv_wfoffset w).toInt (vc_F w).z true))), (0, .ref 10), (1, .long w), (3, .ref (12 + 2 + (vc_F w).d)), (4, .int (jv_wfoffset w)), (5, .int (vl_I (vc_F w).z)), (6, .ref y)]) (st' := [.ref (12 + 2 + (vc_F w).d)]) rfl Kz) ?_
          refine jv_Wp.lift (fun _ Kz => jv_Ev.m jv_i37 (pc' := 136) (st' := [.int (I (12 + 2 + (vc_F w).d) 6)]) (G' := (jv_H K I L R)) rfl rfl (jv_m_getI (hC.now.kk _ (vw_d75 w)) rfl rfl rfl) Kz) ?_
          refine jv_Wp.lift (fun _ Kz => jv_Ev.steps jv_i37 1 (pc' := 137) (l' := [(7, .int (vl_I (vx_reach M (vc_A I L 12) (vc_T I L (12 + 2 + (vc_F w).d)) (jv_wfoffset w).toInt (vc_F w).z true))), (0, .ref 10), (1, .long w), (3, .ref (12 + 2 + (vc_F w).d)), (4, .int (jv_wfoffset w)), (5, .int (vl_I (vc_F w).z)), (6, .ref y)]) (st' := [.int (3 : Int32), .int (I (12 + 2 + (vc_F w).d) 6)]) rfl Kz) ?_
          refine jv_Wp.cnd jv_i37 (pt := 156) (pe := 140) (p := (¬ (I (12 + 2 + (vc_F w).d) 6) = (3 : Int32))) (q := (¬ (I (12 + 2 + (vc_F w).d) 6) = (3 : Int32))) rfl jv_bc_ne rfl rfl Iff.rfl (fun h5 => ?_) (fun h5 => ?_)
          · refine jv_Wp.lift (fun _ Kz => jv_Ev.steps jv_i37 1 (pc' := 157) (l' := [(7, .int (vl_I (vx_reach M (vc_A I L 12) (vc_T I L (12 + 2 + (vc_F w).d)) (jv_wfoffset w).toInt (vc_F w).z true))), (0, .ref 10), (1, .long w), (3, .ref (12 + 2 + (vc_F w).d)), (4, .int (jv_wfoffset w)), (5, .int (vl_I (vc_F w).z)), (6, .ref y)]) (st' := [.int (0 : Int32)]) rfl Kz) ?_
            refine jv_Wp.of (jv_Ev.ret jv_i37 rfl rfl) ?_
            rw [hQ]
            have eD : ((vc_A I L 12).1 (vc_F w).d) = vc_T I L (12 + 2 + (vc_F w).d) := vc_A1 hd75
            have d0 : ¬ (vc_T I L (12 + 2 + (vc_F w).d)).sort = 0 := fun z => h1 ((vc_is0 (oa _ hd75)).mp z)
            have y0 : ¬ (vc_T I L y).sort = 0 := fun z => h2 ((vc_is0 oy).mp z)
            have y1 : (vc_T I L y).sort = 1 := (vc_is1 oy).mpr h4
            have d3 : ¬ (vc_T I L (12 + 2 + (vc_F w).d)).sort = 3 := fun z => h5 ((vc_is3 (oa _ hd75)).mp z)
            have r0 : ¬ vx_reach M (vc_A I L 12) ((vc_A I L 12).1 (vc_F w).d) (vc_F w).o (vc_F w).z true ≠ 0 := by rw [eD]; exact fun z => z ((vl_I_inj (Nat.lt_trans vx_reach_lt (by decide)) (by decide)).mp h3)
            have c1 : ¬ (((vc_A I L 12).1 (vc_F w).d).sort = 0 ∨ (vc_T I L y).sort = 0) := by rw [eD]; omega
            have c3 : ¬ ((vc_T I L y).sort ≠ 1 ∧ (((vc_A I L 12).1 (vc_F w).d).sort ≠ 3 ∨ (vc_F w).z ≠ 8)) := by rw [eD]; omega
            have e := vx_st5 (M := M) c1 r0 c3 (eD ▸ d3)
            exact ⟨_, _, by rw [e]; rfl, fun _ => by rw [e]; exact ⟨rfl, oa⟩, vc_fr_refl _ _, fun _ => rfl⟩
          · refine jv_Wp.lift (fun _ Kz => jv_Ev.steps jv_i37 2 (pc' := 142) (l' := [(7, .int (vl_I (vx_reach M (vc_A I L 12) (vc_T I L (12 + 2 + (vc_F w).d)) (jv_wfoffset w).toInt (vc_F w).z true))), (0, .ref 10), (1, .long w), (3, .ref (12 + 2 + (vc_F w).d)), (4, .int (jv_wfoffset w)), (5, .int (vl_I (vc_F w).z)), (6, .ref y)]) (st' := [.ref (12 + 2 + (vc_F w).d), .ref 10]) rfl Kz) ?_
            refine jv_Wp.lift (fun _ Kz => jv_Ev.m jv_i37 (pc' := 145) (st' := [.long (L (12 + 2 + (vc_F w).d) 8), .ref 10]) (G' := (jv_H K I L R)) rfl rfl (jv_m_getL (hC.now.kk _ (vw_d75 w)) rfl rfl rfl) Kz) ?_
            refine jv_Wp.lift (fun _ Kz => jv_Ev.steps jv_i37 5 (pc' := 153) (l' := [(7, .int (vl_I (vx_reach M (vc_A I L 12) (vc_T I L (12 + 2 + (vc_F w).d)) (jv_wfoffset w).toInt (vc_F w).z true))), (0, .ref 10), (1, .long w), (3, .ref (12 + 2 + (vc_F w).d)), (4, .int (jv_wfoffset w)), (5, .int (vl_I (vc_F w).z)), (6, .ref y)]) (st' := [.ref y, .int (vl_I (vc_F w).z), .long ((L (12 + 2 + (vc_F w).d) 8) + (jv_wfoffset w).toInt64), .ref 10]) rfl Kz) ?_
            have eD : ((vc_A I L 12).1 (vc_F w).d) = vc_T I L (12 + 2 + (vc_F w).d) := vc_A1 hd75
            have d0 : ¬ (vc_T I L (12 + 2 + (vc_F w).d)).sort = 0 := fun z => h1 ((vc_is0 (oa _ hd75)).mp z)
            have y0 : ¬ (vc_T I L y).sort = 0 := fun z => h2 ((vc_is0 oy).mp z)
            have y1 : (vc_T I L y).sort = 1 := (vc_is1 oy).mpr h4
            have d3 : (vc_T I L (12 + 2 + (vc_F w).d)).sort = 3 := (vc_is3 (oa _ hd75)).mpr (Classical.not_not.mp h5)
            have r0 : ¬ vx_reach M (vc_A I L 12) ((vc_A I L 12).1 (vc_F w).d) (vc_F w).o (vc_F w).z true ≠ 0 := by rw [eD]; exact fun z => z ((vl_I_inj (Nat.lt_trans vx_reach_lt (by decide)) (by decide)).mp h3)
            have bd : ((vc_A I L 12).1 (vc_F w).d).det = (L (12 + 2 + (vc_F w).d) 8).toInt := by rw [eD]; exact vc_detk (Or.inr (Classical.not_not.mp h5))
            have fr0 := (gA _ hd75).1 (Or.inr (Classical.not_not.mp h5))
            have of := vw_off w
            have eA : ((L (12 + 2 + (vc_F w).d) 8) + (jv_wfoffset w).toInt64).toInt = ((vc_A I L 12).1 (vc_F w).d).det + (vc_F w).o := (vi_add (by omega)).trans (by rw [bd]; rfl)
            have rs := vx_reach_stk (eD ▸ d3) r0
            have hx : -512 ≤ ((L (12 + 2 + (vc_F w).d) 8) + (jv_wfoffset w).toInt64).toInt ∧ ((L (12 + 2 + (vc_F w).d) 8) + (jv_wfoffset w).toInt64).toInt ≤ -1 := by rw [eA]; omega
            obtain ⟨I2, L2, H2, T2, O2, F2, G2⟩ := vc_writeSlot (I := I) (L := L) (R := R) (n := n) (sl := sl) ((L (12 + 2 + (vc_F w).d) 8) + (jv_wfoffset w).toInt64) (vc_F w).z hC hy oy z4 hx oa
            refine jv_Wp.lift (fun _ Kz => jv_Ev.c jv_i37 (pc' := 156) (S' := []) (G1 := (jv_H K I2 L2 R)) jv_i38 [.ref 10, .long ((L (12 + 2 + (vc_F w).d) 8) + (jv_wfoffset w).toInt64), .int (vl_I (vc_F w).z), .ref y] rfl rfl rfl rfl (jv_cal rfl (jv_H_at hC.k) rfl rfl) rfl H2 rfl rfl Kz) ?_
            refine jv_Wp.lift (fun _ Kz => jv_Ev.steps jv_i37 1 (pc' := 157) (l' := [(7, .int (vl_I (vx_reach M (vc_A I L 12) (vc_T I L (12 + 2 + (vc_F w).d)) (jv_wfoffset w).toInt (vc_F w).z true))), (0, .ref 10), (1, .long w), (3, .ref (12 + 2 + (vc_F w).d)), (4, .int (jv_wfoffset w)), (5, .int (vl_I (vc_F w).z)), (6, .ref y)]) (st' := [.int (0 : Int32)]) rfl Kz) ?_
            refine jv_Wp.of (jv_Ev.ret jv_i37 rfl rfl) ?_
            rw [hQ]
            have eD : ((vc_A I L 12).1 (vc_F w).d) = vc_T I L (12 + 2 + (vc_F w).d) := vc_A1 hd75
            have d0 : ¬ (vc_T I L (12 + 2 + (vc_F w).d)).sort = 0 := fun z => h1 ((vc_is0 (oa _ hd75)).mp z)
            have y0 : ¬ (vc_T I L y).sort = 0 := fun z => h2 ((vc_is0 oy).mp z)
            have y1 : (vc_T I L y).sort = 1 := (vc_is1 oy).mpr h4
            have d3 : (vc_T I L (12 + 2 + (vc_F w).d)).sort = 3 := (vc_is3 (oa _ hd75)).mpr (Classical.not_not.mp h5)
            have r0 : ¬ vx_reach M (vc_A I L 12) ((vc_A I L 12).1 (vc_F w).d) (vc_F w).o (vc_F w).z true ≠ 0 := by rw [eD]; exact fun z => z ((vl_I_inj (Nat.lt_trans vx_reach_lt (by decide)) (by decide)).mp h3)
            have c1 : ¬ (((vc_A I L 12).1 (vc_F w).d).sort = 0 ∨ (vc_T I L y).sort = 0) := by rw [eD]; omega
            have c3 : ¬ ((vc_T I L y).sort ≠ 1 ∧ (((vc_A I L 12).1 (vc_F w).d).sort ≠ 3 ∨ (vc_F w).z ≠ 8)) := by rw [eD]; omega
            have e := vx_st4 (M := M) c1 r0 c3 (eD ▸ d3)
            exact ⟨_, _, by rw [e]; rfl, fun _ => by rw [e]; exact ⟨T2.trans (by rw [eA]), O2⟩, F2, G2⟩
        · refine jv_Wp.lift (fun _ Kz => jv_Ev.steps jv_i37 1 (pc' := 115) (l' := [(7, .int (vl_I (vx_reach M (vc_A I L 12) (vc_T I L (12 + 2 + (vc_F w).d)) (jv_wfoffset w).toInt (vc_F w).z true))), (0, .ref 10), (1, .long w), (3, .ref (12 + 2 + (vc_F w).d)), (4, .int (jv_wfoffset w)), (5, .int (vl_I (vc_F w).z)), (6, .ref y)]) (st' := [.ref (12 + 2 + (vc_F w).d)]) rfl Kz) ?_
          refine jv_Wp.lift (fun _ Kz => jv_Ev.m jv_i37 (pc' := 118) (st' := [.int (I (12 + 2 + (vc_F w).d) 6)]) (G' := (jv_H K I L R)) rfl rfl (jv_m_getI (hC.now.kk _ (vw_d75 w)) rfl rfl rfl) Kz) ?_
          refine jv_Wp.lift (fun _ Kz => jv_Ev.steps jv_i37 1 (pc' := 119) (l' := [(7, .int (vl_I (vx_reach M (vc_A I L 12) (vc_T I L (12 + 2 + (vc_F w).d)) (jv_wfoffset w).toInt (vc_F w).z true))), (0, .ref 10), (1, .long w), (3, .ref (12 + 2 + (vc_F w).d)), (4, .int (jv_wfoffset w)), (5, .int (vl_I (vc_F w).z)), (6, .ref y)]) (st' := [.int (3 : Int32), .int (I (12 + 2 + (vc_F w).d) 6)]) rfl Kz) ?_
          refine jv_Wp.cnd jv_i37 (pt := 129) (pe := 122) (p := (¬ (I (12 + 2 + (vc_F w).d) 6) = (3 : Int32))) (q := (¬ (I (12 + 2 + (vc_F w).d) 6) = (3 : Int32))) rfl jv_bc_ne rfl rfl Iff.rfl (fun h6 => ?_) (fun h6 => ?_)
          · refine jv_Wp.lift (fun _ Kz => jv_Ev.steps jv_i37 1 (pc' := 131) (l' := [(7, .int (vl_I (vx_reach M (vc_A I L 12) (vc_T I L (12 + 2 + (vc_F w).d)) (jv_wfoffset w).toInt (vc_F w).z true))), (0, .ref 10), (1, .long w), (3, .ref (12 + 2 + (vc_F w).d)), (4, .int (jv_wfoffset w)), (5, .int (vl_I (vc_F w).z)), (6, .ref y)]) (st' := [.int (6 : Int32)]) rfl Kz) ?_
            refine jv_Wp.of (jv_Ev.ret jv_i37 rfl rfl) ?_
            rw [hQ]
            have eD : ((vc_A I L 12).1 (vc_F w).d) = vc_T I L (12 + 2 + (vc_F w).d) := vc_A1 hd75
            have d0 : ¬ (vc_T I L (12 + 2 + (vc_F w).d)).sort = 0 := fun z => h1 ((vc_is0 (oa _ hd75)).mp z)
            have y0 : ¬ (vc_T I L y).sort = 0 := fun z => h2 ((vc_is0 oy).mp z)
            have y1 : ¬ (vc_T I L y).sort = 1 := fun z => h4 ((vc_is1 oy).mp z)
            have d3 : ¬ (vc_T I L (12 + 2 + (vc_F w).d)).sort = 3 := fun z => h6 ((vc_is3 (oa _ hd75)).mp z)
            have r0 : ¬ vx_reach M (vc_A I L 12) ((vc_A I L 12).1 (vc_F w).d) (vc_F w).o (vc_F w).z true ≠ 0 := by rw [eD]; exact fun z => z ((vl_I_inj (Nat.lt_trans vx_reach_lt (by decide)) (by decide)).mp h3)
            have c1 : ¬ (((vc_A I L 12).1 (vc_F w).d).sort = 0 ∨ (vc_T I L y).sort = 0) := by rw [eD]; omega
            have c3 : (vc_T I L y).sort ≠ 1 ∧ (((vc_A I L 12).1 (vc_F w).d).sort ≠ 3 ∨ (vc_F w).z ≠ 8) := by rw [eD]; omega
            have e := vx_st3 (M := M) c1 r0 c3
            exact ⟨_, _, by rw [e]; rfl, fun z => by rw [e] at z; exact absurd (show (6 : Nat) = 0 from z) (by decide), vc_fr_refl _ _, fun _ => rfl⟩
          · refine jv_Wp.lift (fun _ Kz => jv_Ev.steps jv_i37 2 (pc' := 126) (l' := [(7, .int (vl_I (vx_reach M (vc_A I L 12) (vc_T I L (12 + 2 + (vc_F w).d)) (jv_wfoffset w).toInt (vc_F w).z true))), (0, .ref 10), (1, .long w), (3, .ref (12 + 2 + (vc_F w).d)), (4, .int (jv_wfoffset w)), (5, .int (vl_I (vc_F w).z)), (6, .ref y)]) (st' := [.int (8 : Int32), .int (vl_I (vc_F w).z)]) rfl Kz) ?_
            refine jv_Wp.cnd jv_i37 (pt := 132) (pe := 129) (p := ((vl_I (vc_F w).z) = (8 : Int32))) (q := ((vl_I (vc_F w).z) = (8 : Int32))) rfl jv_bc_eq rfl rfl Iff.rfl (fun h7 => ?_) (fun h7 => ?_)
            · refine jv_Wp.lift (fun _ Kz => jv_Ev.steps jv_i37 1 (pc' := 133) (l' := [(7, .int (vl_I (vx_reach M (vc_A I L 12) (vc_T I L (12 + 2 + (vc_F w).d)) (jv_wfoffset w).toInt (vc_F w).z true))), (0, .ref 10), (1, .long w), (3, .ref (12 + 2 + (vc_F w).d)), (4, .int (jv_wfoffset w)), (5, .int (vl_I (vc_F w).z)), (6, .ref y)]) (st' := [.ref (12 + 2 + (vc_F w).d)]) rfl Kz) ?_
              refine jv_Wp.lift (fun _ Kz => jv_Ev.m jv_i37 (pc' := 136) (st' := [.int (I (12 + 2 + (vc_F w).d) 6)]) (G' := (jv_H K I L R)) rfl rfl (jv_m_getI (hC.now.kk _ (vw_d75 w)) rfl rfl rfl) Kz) ?_
              refine jv_Wp.lift (fun _ Kz => jv_Ev.steps jv_i37 1 (pc' := 137) (l' := [(7, .int (vl_I (vx_reach M (vc_A I L 12) (vc_T I L (12 + 2 + (vc_F w).d)) (jv_wfoffset w).toInt (vc_F w).z true))), (0, .ref 10), (1, .long w), (3, .ref (12 + 2 + (vc_F w).d)), (4, .int (jv_wfoffset w)), (5, .int (vl_I (vc_F w).z)), (6, .ref y)]) (st' := [.int (3 : Int32), .int (I (12 + 2 + (vc_F w).d) 6)]) rfl Kz) ?_
              refine jv_Wp.cnd jv_i37 (pt := 156) (pe := 140) (p := (¬ (I (12 + 2 + (vc_F w).d) 6) = (3 : Int32))) (q := (¬ (I (12 + 2 + (vc_F w).d) 6) = (3 : Int32))) rfl jv_bc_ne rfl rfl Iff.rfl (fun hz => absurd hz (fun z => z (Classical.not_not.mp h6))) (fun _ => ?_)
              refine jv_Wp.lift (fun _ Kz => jv_Ev.steps jv_i37 2 (pc' := 142) (l' := [(7, .int (vl_I (vx_reach M (vc_A I L 12) (vc_T I L (12 + 2 + (vc_F w).d)) (jv_wfoffset w).toInt (vc_F w).z true))), (0, .ref 10), (1, .long w), (3, .ref (12 + 2 + (vc_F w).d)), (4, .int (jv_wfoffset w)), (5, .int (vl_I (vc_F w).z)), (6, .ref y)]) (st' := [.ref (12 + 2 + (vc_F w).d), .ref 10]) rfl Kz) ?_
              refine jv_Wp.lift (fun _ Kz => jv_Ev.m jv_i37 (pc' := 145) (st' := [.long (L (12 + 2 + (vc_F w).d) 8), .ref 10]) (G' := (jv_H K I L R)) rfl rfl (jv_m_getL (hC.now.kk _ (vw_d75 w)) rfl rfl rfl) Kz) ?_
              refine jv_Wp.lift (fun _ Kz => jv_Ev.steps jv_i37 5 (pc' := 153) (l' := [(7, .int (vl_I (vx_reach M (vc_A I L 12) (vc_T I L (12 + 2 + (vc_F w).d)) (jv_wfoffset w).toInt (vc_F w).z true))), (0, .ref 10), (1, .long w), (3, .ref (12 + 2 + (vc_F w).d)), (4, .int (jv_wfoffset w)), (5, .int (vl_I (vc_F w).z)), (6, .ref y)]) (st' := [.ref y, .int (vl_I (vc_F w).z), .long ((L (12 + 2 + (vc_F w).d) 8) + (jv_wfoffset w).toInt64), .ref 10]) rfl Kz) ?_
              have eD : ((vc_A I L 12).1 (vc_F w).d) = vc_T I L (12 + 2 + (vc_F w).d) := vc_A1 hd75
              have d0 : ¬ (vc_T I L (12 + 2 + (vc_F w).d)).sort = 0 := fun z => h1 ((vc_is0 (oa _ hd75)).mp z)
              have y0 : ¬ (vc_T I L y).sort = 0 := fun z => h2 ((vc_is0 oy).mp z)
              have y1 : ¬ (vc_T I L y).sort = 1 := fun z => h4 ((vc_is1 oy).mp z)
              have d3 : (vc_T I L (12 + 2 + (vc_F w).d)).sort = 3 := (vc_is3 (oa _ hd75)).mpr (Classical.not_not.mp h6)
              have r0 : ¬ vx_reach M (vc_A I L 12) ((vc_A I L 12).1 (vc_F w).d) (vc_F w).o (vc_F w).z true ≠ 0 := by rw [eD]; exact fun z => z ((vl_I_inj (Nat.lt_trans vx_reach_lt (by decide)) (by decide)).mp h3)
              have zz8 : (vc_F w).z = 8 := (vl_I_inj (by omega) (by decide)).mp h7
              have bd : ((vc_A I L 12).1 (vc_F w).d).det = (L (12 + 2 + (vc_F w).d) 8).toInt := by rw [eD]; exact vc_detk (Or.inr (Classical.not_not.mp h6))
              have fr0 := (gA _ hd75).1 (Or.inr (Classical.not_not.mp h6))
              have of := vw_off w
              have eA : ((L (12 + 2 + (vc_F w).d) 8) + (jv_wfoffset w).toInt64).toInt = ((vc_A I L 12).1 (vc_F w).d).det + (vc_F w).o := (vi_add (by omega)).trans (by rw [bd]; rfl)
              have rs := vx_reach_stk (eD ▸ d3) r0
              have hx : -512 ≤ ((L (12 + 2 + (vc_F w).d) 8) + (jv_wfoffset w).toInt64).toInt ∧ ((L (12 + 2 + (vc_F w).d) 8) + (jv_wfoffset w).toInt64).toInt ≤ -1 := by rw [eA]; omega
              obtain ⟨I3, L3, H3, T3, O3, F3, G3⟩ := vc_writeSlot (I := I) (L := L) (R := R) (n := n) (sl := sl) ((L (12 + 2 + (vc_F w).d) 8) + (jv_wfoffset w).toInt64) (vc_F w).z hC hy oy z4 hx oa
              refine jv_Wp.lift (fun _ Kz => jv_Ev.c jv_i37 (pc' := 156) (S' := []) (G1 := (jv_H K I3 L3 R)) jv_i38 [.ref 10, .long ((L (12 + 2 + (vc_F w).d) 8) + (jv_wfoffset w).toInt64), .int (vl_I (vc_F w).z), .ref y] rfl rfl rfl rfl (jv_cal rfl (jv_H_at hC.k) rfl rfl) rfl H3 rfl rfl Kz) ?_
              refine jv_Wp.lift (fun _ Kz => jv_Ev.steps jv_i37 1 (pc' := 157) (l' := [(7, .int (vl_I (vx_reach M (vc_A I L 12) (vc_T I L (12 + 2 + (vc_F w).d)) (jv_wfoffset w).toInt (vc_F w).z true))), (0, .ref 10), (1, .long w), (3, .ref (12 + 2 + (vc_F w).d)), (4, .int (jv_wfoffset w)), (5, .int (vl_I (vc_F w).z)), (6, .ref y)]) (st' := [.int (0 : Int32)]) rfl Kz) ?_
              refine jv_Wp.of (jv_Ev.ret jv_i37 rfl rfl) ?_
              rw [hQ]
              have eD : ((vc_A I L 12).1 (vc_F w).d) = vc_T I L (12 + 2 + (vc_F w).d) := vc_A1 hd75
              have d0 : ¬ (vc_T I L (12 + 2 + (vc_F w).d)).sort = 0 := fun z => h1 ((vc_is0 (oa _ hd75)).mp z)
              have y0 : ¬ (vc_T I L y).sort = 0 := fun z => h2 ((vc_is0 oy).mp z)
              have y1 : ¬ (vc_T I L y).sort = 1 := fun z => h4 ((vc_is1 oy).mp z)
              have d3 : (vc_T I L (12 + 2 + (vc_F w).d)).sort = 3 := (vc_is3 (oa _ hd75)).mpr (Classical.not_not.mp h6)
              have r0 : ¬ vx_reach M (vc_A I L 12) ((vc_A I L 12).1 (vc_F w).d) (vc_F w).o (vc_F w).z true ≠ 0 := by rw [eD]; exact fun z => z ((vl_I_inj (Nat.lt_trans vx_reach_lt (by decide)) (by decide)).mp h3)
              have zz8 : (vc_F w).z = 8 := (vl_I_inj (by omega) (by decide)).mp h7
              have c1 : ¬ (((vc_A I L 12).1 (vc_F w).d).sort = 0 ∨ (vc_T I L y).sort = 0) := by rw [eD]; omega
              have c3 : ¬ ((vc_T I L y).sort ≠ 1 ∧ (((vc_A I L 12).1 (vc_F w).d).sort ≠ 3 ∨ (vc_F w).z ≠ 8)) := by rw [eD]; omega
              have e := vx_st4 (M := M) c1 r0 c3 (eD ▸ d3)
              exact ⟨_, _, by rw [e]; rfl, fun _ => by rw [e]; exact ⟨T3.trans (by rw [eA]), O3⟩, F3, G3⟩
            · refine jv_Wp.lift (fun _ Kz => jv_Ev.steps jv_i37 1 (pc' := 131) (l' := [(7, .int (vl_I (vx_reach M (vc_A I L 12) (vc_T I L (12 + 2 + (vc_F w).d)) (jv_wfoffset w).toInt (vc_F w).z true))), (0, .ref 10), (1, .long w), (3, .ref (12 + 2 + (vc_F w).d)), (4, .int (jv_wfoffset w)), (5, .int (vl_I (vc_F w).z)), (6, .ref y)]) (st' := [.int (6 : Int32)]) rfl Kz) ?_
              refine jv_Wp.of (jv_Ev.ret jv_i37 rfl rfl) ?_
              rw [hQ]
              have eD : ((vc_A I L 12).1 (vc_F w).d) = vc_T I L (12 + 2 + (vc_F w).d) := vc_A1 hd75
              have d0 : ¬ (vc_T I L (12 + 2 + (vc_F w).d)).sort = 0 := fun z => h1 ((vc_is0 (oa _ hd75)).mp z)
              have y0 : ¬ (vc_T I L y).sort = 0 := fun z => h2 ((vc_is0 oy).mp z)
              have y1 : ¬ (vc_T I L y).sort = 1 := fun z => h4 ((vc_is1 oy).mp z)
              have d3 : (vc_T I L (12 + 2 + (vc_F w).d)).sort = 3 := (vc_is3 (oa _ hd75)).mpr (Classical.not_not.mp h6)
              have r0 : ¬ vx_reach M (vc_A I L 12) ((vc_A I L 12).1 (vc_F w).d) (vc_F w).o (vc_F w).z true ≠ 0 := by rw [eD]; exact fun z => z ((vl_I_inj (Nat.lt_trans vx_reach_lt (by decide)) (by decide)).mp h3)
              have zz8 : ¬ (vc_F w).z = 8 := fun z => h7 (by rw [z]; rfl)
              have c1 : ¬ (((vc_A I L 12).1 (vc_F w).d).sort = 0 ∨ (vc_T I L y).sort = 0) := by rw [eD]; omega
              have c3 : (vc_T I L y).sort ≠ 1 ∧ (((vc_A I L 12).1 (vc_F w).d).sort ≠ 3 ∨ (vc_F w).z ≠ 8) := by rw [eD]; omega
              have e := vx_st3 (M := M) c1 r0 c3
              exact ⟨_, _, by rw [e]; rfl, fun z => by rw [e] at z; exact absurd (show (6 : Nat) = 0 from z) (by decide), vc_fr_refl _ _, fun _ => rfl⟩
      · refine jv_Wp.lift (fun _ Kz => jv_Ev.steps jv_i37 1 (pc' := 104) (l' := [(7, .int (vl_I (vx_reach M (vc_A I L 12) (vc_T I L (12 + 2 + (vc_F w).d)) (jv_wfoffset w).toInt (vc_F w).z true))), (0, .ref 10), (1, .long w), (3, .ref (12 + 2 + (vc_F w).d)), (4, .int (jv_wfoffset w)), (5, .int (vl_I (vc_F w).z)), (6, .ref y)]) (st' := [.int (vl_I (vx_reach M (vc_A I L 12) (vc_T I L (12 + 2 + (vc_F w).d)) (jv_wfoffset w).toInt (vc_F w).z true))]) rfl Kz) ?_
        refine jv_Wp.of (jv_Ev.ret jv_i37 rfl rfl) ?_
        rw [hQ]
        have eD : ((vc_A I L 12).1 (vc_F w).d) = vc_T I L (12 + 2 + (vc_F w).d) := vc_A1 hd75
        have d0 : ¬ (vc_T I L (12 + 2 + (vc_F w).d)).sort = 0 := fun z => h1 ((vc_is0 (oa _ hd75)).mp z)
        have y0 : ¬ (vc_T I L y).sort = 0 := fun z => h2 ((vc_is0 oy).mp z)
        have c1 : ¬ (((vc_A I L 12).1 (vc_F w).d).sort = 0 ∨ (vc_T I L y).sort = 0) := by rw [eD]; omega
        have rn : vx_reach M (vc_A I L 12) ((vc_A I L 12).1 (vc_F w).d) (vc_F w).o (vc_F w).z true ≠ 0 := by rw [eD]; exact fun z => h3 (congrArg vl_I z)
        have e := vx_st2 c1 rn
        exact ⟨_, _, by rw [e, eD]; rfl, fun z => by rw [e] at z; exact absurd z rn, vc_fr_refl _ _, fun _ => rfl⟩
    · refine jv_Wp.lift (fun _ Kz => jv_Ev.steps jv_i37 1 (pc' := 84) (l' := [(0, .ref 10), (1, .long w), (3, .ref (12 + 2 + (vc_F w).d)), (4, .int (jv_wfoffset w)), (5, .int (vl_I (vc_F w).z)), (6, .ref y)]) (st' := [.int (1 : Int32)]) rfl Kz) ?_
      refine jv_Wp.of (jv_Ev.ret jv_i37 rfl rfl) ?_
      rw [hQ]
      have eD : ((vc_A I L 12).1 (vc_F w).d) = vc_T I L (12 + 2 + (vc_F w).d) := vc_A1 hd75
      have d0 : ¬ (vc_T I L (12 + 2 + (vc_F w).d)).sort = 0 := fun z => h1 ((vc_is0 (oa _ hd75)).mp z)
      have y0 : (vc_T I L y).sort = 0 := (vc_is0 oy).mpr (Classical.not_not.mp h2)
      have e := vx_st1 (M := M) (f := vc_F w) (A := vc_A I L 12) (y := (vc_T I L y)) (by rw [eD]; omega)
      exact ⟨_, _, by rw [e]; rfl, fun z => by rw [e] at z; exact absurd (show (1 : Nat) = 0 from z) (by decide), vc_fr_refl _ _, fun _ => rfl⟩
theorem vc_keepR {K : Nat → Option (Nat × Nat)} {I : Nat → Nat → Int32} {L : Nat → Nat → Int64} {R : Nat → Nat → Value} {M : vf_M} (w : Int64) (hC : vc_C K R) (hM : vc_M K I R M) (hM2 : ∀ k o, R 7 k = .ref o → ¬ o = 166) (hkn : (L 12 1).toInt ≤ 1073000000) (oa : vc_okA I L 12) (tA : ∀ n, n < 75 → vt_ok (vc_T I L (12 + 2 + n))) (gA : ∀ n, n < 75 → vc_g I L (12 + 2 + n)) (hb : (vc_F w).kind = 3) {n sl : Nat} : ∃ I1 L1, jv_Ms 37 [.ref 10, .long w] (jv_H K I L R) n sl (some (.int (vl_I (vx_store M (vc_F w) (vc_A I L 12)).1)), jv_H K I1 L1 R, n, sl) ∧ ((vx_store M (vc_F w) (vc_A I L 12)).1 = 0 → vc_A I1 L1 12 = (vx_store M (vc_F w) (vc_A I L 12)).2 ∧ vc_okA I1 L1 12) ∧ vc_fr vc_wk I L I1 L1 ∧ ∀ f, I1 12 f = I 12 f := by
  obtain ⟨Q, hQ⟩ : ∃ Q : jv_R → Prop, Q = fun X => ∃ I1 L1, X = (some (.int (vl_I (vx_store M (vc_F w) (vc_A I L 12)).1)), jv_H K I1 L1 R, n, sl) ∧ ((vx_store M (vc_F w) (vc_A I L 12)).1 = 0 → vc_A I1 L1 12 = (vx_store M (vc_F w) (vc_A I L 12)).2 ∧ vc_okA I1 L1 12) ∧ vc_fr vc_wk I L I1 L1 ∧ ∀ f, I1 12 f = I 12 f := ⟨_, rfl⟩
  suffices h : jv_Wp 37 0 [(0, .ref 10), (1, .long w)] [] (jv_H K I L R) n sl Q by
    rw [hQ] at h
    obtain ⟨X, h, I1, L1, e, h'⟩ := h
    subst e
    exact ⟨I1, L1, h, h'⟩
  have hd75 := vw_d75 w
  have hs75 := vw_s75 w
  refine jv_Wp.lift (fun _ Kz => jv_Ev.steps jv_i37 1 (pc' := 1) (l' := [(0, .ref 10), (1, .long w)]) (st' := [.ref 10]) rfl Kz) ?_
  refine jv_Wp.lift (fun _ Kz => jv_Ev.m jv_i37 (pc' := 4) (st' := [.ref 12]) (G' := (jv_H K I L R)) rfl rfl (jv_m_getR hC.k rfl rfl hC.rnow) Kz) ?_
  refine jv_Wp.lift (fun _ Kz => jv_Ev.m jv_i37 (pc' := 7) (st' := [.ref (12 + 1)]) (G' := (jv_H K I L R)) rfl rfl (jv_m_getR hC.now.k rfl rfl hC.now.r) Kz) ?_
  refine jv_Wp.lift (fun _ Kz => jv_Ev.steps jv_i37 1 (pc' := 8) (l' := [(0, .ref 10), (1, .long w)]) (st' := [.long w, .ref (12 + 1)]) rfl Kz) ?_
  refine jv_Wp.lift (fun _ Kz => jv_Ev.c jv_i37 (pc' := 11) (S' := [.int (vl_I (vc_F w).d), .ref (12 + 1)]) jv_i86 [.long w] rfl rfl rfl rfl rfl rfl (vw_m86 w) rfl rfl Kz) ?_
  refine jv_Wp.lift (fun _ Kz => jv_Ev.m jv_i37 (pc' := 12) (st' := [.ref (12 + 2 + (vc_F w).d)]) (G' := (jv_H K I L R)) rfl rfl (jv_m_aaldR hC.now.kt rfl (vl_I_ix (vw_d75 w) (by decide)) rfl (vc_St_rt hC.now (vw_d75 w))) Kz) ?_
  refine jv_Wp.lift (fun _ Kz => jv_Ev.steps jv_i37 2 (pc' := 14) (l' := [(3, .ref (12 + 2 + (vc_F w).d)), (0, .ref 10), (1, .long w)]) (st' := [.long w]) rfl Kz) ?_
  refine jv_Wp.lift (fun _ Kz => jv_Ev.c jv_i37 (pc' := 17) (S' := [.int (jv_wfoffset w)]) jv_i88 [.long w] rfl rfl rfl rfl rfl rfl (jv_s88 w) rfl rfl Kz) ?_
  refine jv_Wp.lift (fun _ Kz => jv_Ev.steps jv_i37 2 (pc' := 20) (l' := [(4, .int (jv_wfoffset w)), (3, .ref (12 + 2 + (vc_F w).d)), (0, .ref 10), (1, .long w)]) (st' := [.long w]) rfl Kz) ?_
  refine jv_Wp.lift (fun _ Kz => jv_Ev.c jv_i37 (pc' := 23) (S' := [.int (vl_I (vc_F w).z)]) jv_i85 [.long w] rfl rfl rfl rfl rfl rfl (vw_m85 w) rfl rfl Kz) ?_
  refine jv_Wp.lift (fun _ Kz => jv_Ev.steps jv_i37 2 (pc' := 26) (l' := [(5, .int (vl_I (vc_F w).z)), (4, .int (jv_wfoffset w)), (3, .ref (12 + 2 + (vc_F w).d)), (0, .ref 10), (1, .long w)]) (st' := [.ref 10]) rfl Kz) ?_
  refine jv_Wp.lift (fun _ Kz => jv_Ev.m jv_i37 (pc' := 29) (st' := [.ref 166]) (G' := (jv_H K I L R)) rfl rfl (jv_m_getR hC.k rfl rfl hC.rconst) Kz) ?_
  refine jv_Wp.lift (fun _ Kz => jv_Ev.steps jv_i37 2 (pc' := 32) (l' := [(6, .ref 166), (5, .int (vl_I (vc_F w).z)), (4, .int (jv_wfoffset w)), (3, .ref (12 + 2 + (vc_F w).d)), (0, .ref 10), (1, .long w)]) (st' := [.long w]) rfl Kz) ?_
  refine jv_Wp.lift (fun _ Kz => jv_Ev.c jv_i37 (pc' := 35) (S' := [.int (vl_I (vc_F w).kind)]) jv_i81 [.long w] rfl rfl rfl rfl rfl rfl (vw_m81 w) rfl rfl Kz) ?_
  refine jv_Wp.lift (fun _ Kz => jv_Ev.steps jv_i37 1 (pc' := 36) (l' := [(6, .ref 166), (5, .int (vl_I (vc_F w).z)), (4, .int (jv_wfoffset w)), (3, .ref (12 + 2 + (vc_F w).d)), (0, .ref 10), (1, .long w)]) (st' := [.int (3 : Int32), .int (vl_I (vc_F w).kind)]) rfl Kz) ?_
  refine jv_Wp.cnd jv_i37 (pt := 56) (pe := 39) (p := (¬ (vl_I (vc_F w).kind) = (3 : Int32))) (q := (¬ (vl_I (vc_F w).kind) = (3 : Int32))) rfl jv_bc_ne rfl rfl Iff.rfl (fun hz => absurd hz (fun z => z (by rw [hb]; rfl))) (fun _ => ?_)
  refine jv_Wp.lift (fun _ Kz => jv_Ev.steps jv_i37 1 (pc' := 40) (l' := [(6, .ref 166), (5, .int (vl_I (vc_F w).z)), (4, .int (jv_wfoffset w)), (3, .ref (12 + 2 + (vc_F w).d)), (0, .ref 10), (1, .long w)]) (st' := [.ref 10]) rfl Kz) ?_
  refine jv_Wp.lift (fun _ Kz => jv_Ev.m jv_i37 (pc' := 43) (st' := [.ref 12]) (G' := (jv_H K I L R)) rfl rfl (jv_m_getR hC.k rfl rfl hC.rnow) Kz) ?_
  refine jv_Wp.lift (fun _ Kz => jv_Ev.m jv_i37 (pc' := 46) (st' := [.ref (12 + 1)]) (G' := (jv_H K I L R)) rfl rfl (jv_m_getR hC.now.k rfl rfl hC.now.r) Kz) ?_
  refine jv_Wp.lift (fun _ Kz => jv_Ev.steps jv_i37 1 (pc' := 47) (l' := [(6, .ref 166), (5, .int (vl_I (vc_F w).z)), (4, .int (jv_wfoffset w)), (3, .ref (12 + 2 + (vc_F w).d)), (0, .ref 10), (1, .long w)]) (st' := [.long w, .ref (12 + 1)]) rfl Kz) ?_
  refine jv_Wp.lift (fun _ Kz => jv_Ev.c jv_i37 (pc' := 50) (S' := [.int (vl_I (vc_F w).s), .ref (12 + 1)]) jv_i87 [.long w] rfl rfl rfl rfl rfl rfl (vw_m87 w) rfl rfl Kz) ?_
  refine jv_Wp.lift (fun _ Kz => jv_Ev.m jv_i37 (pc' := 51) (st' := [.ref (12 + 2 + (vc_F w).s)]) (G' := (jv_H K I L R)) rfl rfl (jv_m_aaldR hC.now.kt rfl (vl_I_ix (vw_s75 w) (by decide)) rfl (vc_St_rt hC.now (vw_s75 w))) Kz) ?_
  refine jv_Wp.lift (fun _ Kz => jv_Ev.steps jv_i37 2 (pc' := 68) (l' := [(6, .ref (12 + 2 + (vc_F w).s)), (5, .int (vl_I (vc_F w).z)), (4, .int (jv_wfoffset w)), (3, .ref (12 + 2 + (vc_F w).d)), (0, .ref 10), (1, .long w)]) (st' := []) rfl Kz) ?_
  refine jv_Wp.loc (l := [(0, .ref 10), (1, .long w), (3, .ref (12 + 2 + (vc_F w).d)), (4, .int (jv_wfoffset w)), (5, .int (vl_I (vc_F w).z)), (6, .ref (12 + 2 + (vc_F w).s))]) ⟨List.forall_mem_cons.mpr ⟨.tail _ (.tail _ (.tail _ (.tail _ (.head _)))), List.forall_mem_cons.mpr ⟨.tail _ (.tail _ (.tail _ (.tail _ (.tail _ (.head _))))), List.forall_mem_cons.mpr ⟨.tail _ (.tail _ (.tail _ (.head _))), List.forall_mem_cons.mpr ⟨.tail _ (.tail _ (.head _)), List.forall_mem_cons.mpr ⟨.tail _ (.head _), List.forall_mem_cons.mpr ⟨.head _, fun _ h => absurd h List.not_mem_nil⟩⟩⟩⟩⟩⟩, by show List.Nodup [6, 5, 4, 3, 0, 1]; decide⟩ ?_
  have F0 : vc_fr (fun p => p = 166) I L I L := vc_fr_refl _ _
  have eY : vc_T I L (12 + 2 + (vc_F w).s) = (if (vc_F w).kind = 3 then (vc_A I L 12).1 (vc_F w).s else vt_num (vx_just (vc_F w).i)) := by rw [if_pos hb]; exact (vc_A1 hs75).symm
  have eA : vc_A I L 12 = vc_A I L 12 := rfl
  refine jv_Wp.mono (vc_ktail (I := I) (L := L) (M := M) w hC hM hkn oa tA gA (hC.now.kk _ hs75) (oa _ hs75) rfl) ?_
  rintro X ⟨I9, L9, eX, hT, hF, hG⟩
  rw [eA, eY, ← vx_store_eq] at eX hT
  rw [hQ]
  have fr : vc_fr vc_wk I L I9 L9 := vc_fr_trans (vc_fr_mono F0 (fun p z => Or.inr (by omega))) (vc_fr_mono hF (fun p z => Or.inl z))
  exact ⟨I9, L9, eX, hT, fr, fun f => (hG f).trans ((F0 12 (by decide)).1 f)⟩
theorem vc_keepI {K : Nat → Option (Nat × Nat)} {I : Nat → Nat → Int32} {L : Nat → Nat → Int64} {R : Nat → Nat → Value} {M : vf_M} (w : Int64) (hC : vc_C K R) (hM : vc_M K I R M) (hM2 : ∀ k o, R 7 k = .ref o → ¬ o = 166) (hkn : (L 12 1).toInt ≤ 1073000000) (oa : vc_okA I L 12) (tA : ∀ n, n < 75 → vt_ok (vc_T I L (12 + 2 + n))) (gA : ∀ n, n < 75 → vc_g I L (12 + 2 + n)) (hb : ¬ (vc_F w).kind = 3) {n sl : Nat} : ∃ I1 L1, jv_Ms 37 [.ref 10, .long w] (jv_H K I L R) n sl (some (.int (vl_I (vx_store M (vc_F w) (vc_A I L 12)).1)), jv_H K I1 L1 R, n, sl) ∧ ((vx_store M (vc_F w) (vc_A I L 12)).1 = 0 → vc_A I1 L1 12 = (vx_store M (vc_F w) (vc_A I L 12)).2 ∧ vc_okA I1 L1 12) ∧ vc_fr vc_wk I L I1 L1 ∧ ∀ f, I1 12 f = I 12 f := by
  obtain ⟨Q, hQ⟩ : ∃ Q : jv_R → Prop, Q = fun X => ∃ I1 L1, X = (some (.int (vl_I (vx_store M (vc_F w) (vc_A I L 12)).1)), jv_H K I1 L1 R, n, sl) ∧ ((vx_store M (vc_F w) (vc_A I L 12)).1 = 0 → vc_A I1 L1 12 = (vx_store M (vc_F w) (vc_A I L 12)).2 ∧ vc_okA I1 L1 12) ∧ vc_fr vc_wk I L I1 L1 ∧ ∀ f, I1 12 f = I 12 f := ⟨_, rfl⟩
  suffices h : jv_Wp 37 0 [(0, .ref 10), (1, .long w)] [] (jv_H K I L R) n sl Q by
    rw [hQ] at h
    obtain ⟨X, h, I1, L1, e, h'⟩ := h
    subst e
    exact ⟨I1, L1, h, h'⟩
  have hd75 := vw_d75 w
  have hs75 := vw_s75 w
  refine jv_Wp.lift (fun _ Kz => jv_Ev.steps jv_i37 1 (pc' := 1) (l' := [(0, .ref 10), (1, .long w)]) (st' := [.ref 10]) rfl Kz) ?_
  refine jv_Wp.lift (fun _ Kz => jv_Ev.m jv_i37 (pc' := 4) (st' := [.ref 12]) (G' := (jv_H K I L R)) rfl rfl (jv_m_getR hC.k rfl rfl hC.rnow) Kz) ?_
  refine jv_Wp.lift (fun _ Kz => jv_Ev.m jv_i37 (pc' := 7) (st' := [.ref (12 + 1)]) (G' := (jv_H K I L R)) rfl rfl (jv_m_getR hC.now.k rfl rfl hC.now.r) Kz) ?_
  refine jv_Wp.lift (fun _ Kz => jv_Ev.steps jv_i37 1 (pc' := 8) (l' := [(0, .ref 10), (1, .long w)]) (st' := [.long w, .ref (12 + 1)]) rfl Kz) ?_
  refine jv_Wp.lift (fun _ Kz => jv_Ev.c jv_i37 (pc' := 11) (S' := [.int (vl_I (vc_F w).d), .ref (12 + 1)]) jv_i86 [.long w] rfl rfl rfl rfl rfl rfl (vw_m86 w) rfl rfl Kz) ?_
  refine jv_Wp.lift (fun _ Kz => jv_Ev.m jv_i37 (pc' := 12) (st' := [.ref (12 + 2 + (vc_F w).d)]) (G' := (jv_H K I L R)) rfl rfl (jv_m_aaldR hC.now.kt rfl (vl_I_ix (vw_d75 w) (by decide)) rfl (vc_St_rt hC.now (vw_d75 w))) Kz) ?_
  refine jv_Wp.lift (fun _ Kz => jv_Ev.steps jv_i37 2 (pc' := 14) (l' := [(3, .ref (12 + 2 + (vc_F w).d)), (0, .ref 10), (1, .long w)]) (st' := [.long w]) rfl Kz) ?_
  refine jv_Wp.lift (fun _ Kz => jv_Ev.c jv_i37 (pc' := 17) (S' := [.int (jv_wfoffset w)]) jv_i88 [.long w] rfl rfl rfl rfl rfl rfl (jv_s88 w) rfl rfl Kz) ?_
  refine jv_Wp.lift (fun _ Kz => jv_Ev.steps jv_i37 2 (pc' := 20) (l' := [(4, .int (jv_wfoffset w)), (3, .ref (12 + 2 + (vc_F w).d)), (0, .ref 10), (1, .long w)]) (st' := [.long w]) rfl Kz) ?_
  refine jv_Wp.lift (fun _ Kz => jv_Ev.c jv_i37 (pc' := 23) (S' := [.int (vl_I (vc_F w).z)]) jv_i85 [.long w] rfl rfl rfl rfl rfl rfl (vw_m85 w) rfl rfl Kz) ?_
  refine jv_Wp.lift (fun _ Kz => jv_Ev.steps jv_i37 2 (pc' := 26) (l' := [(5, .int (vl_I (vc_F w).z)), (4, .int (jv_wfoffset w)), (3, .ref (12 + 2 + (vc_F w).d)), (0, .ref 10), (1, .long w)]) (st' := [.ref 10]) rfl Kz) ?_
  refine jv_Wp.lift (fun _ Kz => jv_Ev.m jv_i37 (pc' := 29) (st' := [.ref 166]) (G' := (jv_H K I L R)) rfl rfl (jv_m_getR hC.k rfl rfl hC.rconst) Kz) ?_
  refine jv_Wp.lift (fun _ Kz => jv_Ev.steps jv_i37 2 (pc' := 32) (l' := [(6, .ref 166), (5, .int (vl_I (vc_F w).z)), (4, .int (jv_wfoffset w)), (3, .ref (12 + 2 + (vc_F w).d)), (0, .ref 10), (1, .long w)]) (st' := [.long w]) rfl Kz) ?_
  refine jv_Wp.lift (fun _ Kz => jv_Ev.c jv_i37 (pc' := 35) (S' := [.int (vl_I (vc_F w).kind)]) jv_i81 [.long w] rfl rfl rfl rfl rfl rfl (vw_m81 w) rfl rfl Kz) ?_
  refine jv_Wp.lift (fun _ Kz => jv_Ev.steps jv_i37 1 (pc' := 36) (l' := [(6, .ref 166), (5, .int (vl_I (vc_F w).z)), (4, .int (jv_wfoffset w)), (3, .ref (12 + 2 + (vc_F w).d)), (0, .ref 10), (1, .long w)]) (st' := [.int (3 : Int32), .int (vl_I (vc_F w).kind)]) rfl Kz) ?_
  refine jv_Wp.cnd jv_i37 (pt := 56) (pe := 39) (p := (¬ (vl_I (vc_F w).kind) = (3 : Int32))) (q := (¬ (vl_I (vc_F w).kind) = (3 : Int32))) rfl jv_bc_ne rfl rfl Iff.rfl (fun _ => ?_) (fun hz => absurd (fun z => hb ((vl_I_inj (Nat.lt_trans (Nat.mod_lt _ (by decide)) (by decide)) (by decide)).mp z)) hz)
  refine jv_Wp.lift (fun _ Kz => jv_Ev.steps jv_i37 1 (pc' := 57) (l' := [(6, .ref 166), (5, .int (vl_I (vc_F w).z)), (4, .int (jv_wfoffset w)), (3, .ref (12 + 2 + (vc_F w).d)), (0, .ref 10), (1, .long w)]) (st' := [.ref 10]) rfl Kz) ?_
  refine jv_Wp.lift (fun _ Kz => jv_Ev.m jv_i37 (pc' := 60) (st' := [.ref 166]) (G' := (jv_H K I L R)) rfl rfl (jv_m_getR hC.k rfl rfl hC.rconst) Kz) ?_
  refine jv_Wp.lift (fun _ Kz => jv_Ev.steps jv_i37 1 (pc' := 61) (l' := [(6, .ref 166), (5, .int (vl_I (vc_F w).z)), (4, .int (jv_wfoffset w)), (3, .ref (12 + 2 + (vc_F w).d)), (0, .ref 10), (1, .long w)]) (st' := [.long w, .ref 166]) rfl Kz) ?_
  refine jv_Wp.lift (fun _ Kz => jv_Ev.c jv_i37 (pc' := 64) (S' := [.int (jv_wfimmediate w), .ref 166]) jv_i89 [.long w] rfl rfl rfl rfl rfl rfl (jv_s89 w) rfl rfl Kz) ?_
  refine jv_Wp.lift (fun _ Kz => jv_Ev.steps jv_i37 1 (pc' := 65) (l' := [(6, .ref 166), (5, .int (vl_I (vc_F w).z)), (4, .int (jv_wfoffset w)), (3, .ref (12 + 2 + (vc_F w).d)), (0, .ref 10), (1, .long w)]) (st' := [.long (jv_wfimmediate w).toInt64, .ref 166]) rfl Kz) ?_
  obtain ⟨I4, L4, H4, T4, O4, F4⟩ := vc_just (I := I) (L := L) (R := R) (n := n) (sl := sl) (jv_wfimmediate w).toInt64 hC.k166
  refine jv_Wp.lift (fun _ Kz => jv_Ev.c jv_i37 (pc' := 68) (S' := []) (G1 := (jv_H K I4 L4 R)) jv_i143 [.ref 166, .long (jv_wfimmediate w).toInt64] rfl rfl rfl rfl (jv_cal rfl (jv_H_at hC.k166) rfl rfl) rfl H4 rfl rfl Kz) ?_
  refine jv_Wp.loc (l := [(0, .ref 10), (1, .long w), (3, .ref (12 + 2 + (vc_F w).d)), (4, .int (jv_wfoffset w)), (5, .int (vl_I (vc_F w).z)), (6, .ref 166)]) ⟨List.forall_mem_cons.mpr ⟨.tail _ (.tail _ (.tail _ (.tail _ (.head _)))), List.forall_mem_cons.mpr ⟨.tail _ (.tail _ (.tail _ (.tail _ (.tail _ (.head _))))), List.forall_mem_cons.mpr ⟨.tail _ (.tail _ (.tail _ (.head _))), List.forall_mem_cons.mpr ⟨.tail _ (.tail _ (.head _)), List.forall_mem_cons.mpr ⟨.tail _ (.head _), List.forall_mem_cons.mpr ⟨.head _, fun _ h => absurd h List.not_mem_nil⟩⟩⟩⟩⟩⟩, by show List.Nodup [6, 5, 4, 3, 0, 1]; decide⟩ ?_
  have eY : vc_T I4 L4 166 = (if (vc_F w).kind = 3 then (vc_A I L 12).1 (vc_F w).s else vt_num (vx_just (vc_F w).i)) := by rw [if_neg hb]; exact T4
  have eA : vc_A I4 L4 12 = vc_A I L 12 := vc_A_eq (fun n hn => vc_fr_T F4 (by omega)) ((F4 12 (by decide)).2 1)
  have nn : ∀ n, n < 75 → ¬ (12 + 2 + n = 166) := fun n hn => by omega
  refine jv_Wp.mono (vc_ktail (I := I4) (L := L4) (M := M) w hC (vc_fr_M F4 hM2 hM) (by rw [(F4 12 (by decide)).2 1]; exact hkn) (fun n hn => (vc_fr_ok F4 (nn n hn)).mpr (oa n hn)) (fun n hn => by rw [vc_fr_T F4 (nn n hn)]; exact tA n hn) (fun n hn => vc_fr_g F4 (nn n hn) (gA n hn)) hC.k166 O4 rfl) ?_
  rintro X ⟨I9, L9, eX, hT, hF, hG⟩
  rw [eA, eY, ← vx_store_eq] at eX hT
  rw [hQ]
  have fr : vc_fr vc_wk I L I9 L9 := vc_fr_trans (vc_fr_mono F4 (fun p z => Or.inr (by omega))) (vc_fr_mono hF (fun p z => Or.inl z))
  exact ⟨I9, L9, eX, hT, fr, fun f => (hG f).trans ((F4 12 (by decide)).1 f)⟩