/-! part b23: atomic instructions (gen/tb23.py) -/
def vx_atp (M : vf_M) (f : vf_F) (A : vt_A) : Nat × vt_A :=
  if (A.1 f.d).sort = 0 ∨ (A.1 f.s).sort = 0 ∨ (f.i = 241 ∧ (A.1 0).sort = 0) then (1, A)
  else if (A.1 f.d).sort ≠ 7 then (3, A)
  else if vx_even (A.1 f.d).val f.o f.z = false ∨ vx_reach M A (A.1 f.d) f.o f.z true ≠ 0 then (4, A)
  else if (A.1 f.s).sort ≠ 1 ∨ (f.i = 241 ∧ (A.1 0).sort ≠ 1) then (6, A)
  else if f.i % 2 = 1 then (0, vt_up A (if f.i = 241 then 0 else f.s) (vt_num (vx_anyz f.z)))
  else (0, A)
theorem vx_atp_eq (M : vf_M) (f : vf_F) (A : vt_A) : vx_atomic M f A = vx_atp M f A := by
  unfold vx_atomic vx_atp
  dsimp only
  simp only [decide_eq_true_eq]
section
variable {M : vf_M} {f : vf_F} {A : vt_A}
theorem vx_at1 (h : (A.1 f.d).sort = 0 ∨ (A.1 f.s).sort = 0 ∨ (f.i = 241 ∧ (A.1 0).sort = 0)) : vx_atp M f A = (1, A) := if_pos h
theorem vx_at2 (h : ¬ ((A.1 f.d).sort = 0 ∨ (A.1 f.s).sort = 0 ∨ (f.i = 241 ∧ (A.1 0).sort = 0))) (h2 : (A.1 f.d).sort ≠ 7) : vx_atp M f A = (3, A) := (if_neg h).trans (if_pos h2)
theorem vx_at3 (h : ¬ ((A.1 f.d).sort = 0 ∨ (A.1 f.s).sort = 0 ∨ (f.i = 241 ∧ (A.1 0).sort = 0))) (h2 : ¬ (A.1 f.d).sort ≠ 7) (h3 : vx_even (A.1 f.d).val f.o f.z = false ∨ vx_reach M A (A.1 f.d) f.o f.z true ≠ 0) : vx_atp M f A = (4, A) := (if_neg h).trans ((if_neg h2).trans (if_pos h3))
theorem vx_at4 (h : ¬ ((A.1 f.d).sort = 0 ∨ (A.1 f.s).sort = 0 ∨ (f.i = 241 ∧ (A.1 0).sort = 0))) (h2 : ¬ (A.1 f.d).sort ≠ 7) (h3 : ¬ (vx_even (A.1 f.d).val f.o f.z = false ∨ vx_reach M A (A.1 f.d) f.o f.z true ≠ 0)) (h4 : (A.1 f.s).sort ≠ 1 ∨ (f.i = 241 ∧ (A.1 0).sort ≠ 1)) : vx_atp M f A = (6, A) := (if_neg h).trans ((if_neg h2).trans ((if_neg h3).trans (if_pos h4)))
theorem vx_at5 (h : ¬ ((A.1 f.d).sort = 0 ∨ (A.1 f.s).sort = 0 ∨ (f.i = 241 ∧ (A.1 0).sort = 0))) (h2 : ¬ (A.1 f.d).sort ≠ 7) (h3 : ¬ (vx_even (A.1 f.d).val f.o f.z = false ∨ vx_reach M A (A.1 f.d) f.o f.z true ≠ 0)) (h4 : ¬ ((A.1 f.s).sort ≠ 1 ∨ (f.i = 241 ∧ (A.1 0).sort ≠ 1))) (h5 : f.i % 2 = 1) : vx_atp M f A = (0, vt_up A (if f.i = 241 then 0 else f.s) (vt_num (vx_anyz f.z))) := (if_neg h).trans ((if_neg h2).trans ((if_neg h3).trans ((if_neg h4).trans (if_pos h5))))
theorem vx_at6 (h : ¬ ((A.1 f.d).sort = 0 ∨ (A.1 f.s).sort = 0 ∨ (f.i = 241 ∧ (A.1 0).sort = 0))) (h2 : ¬ (A.1 f.d).sort ≠ 7) (h3 : ¬ (vx_even (A.1 f.d).val f.o f.z = false ∨ vx_reach M A (A.1 f.d) f.o f.z true ≠ 0)) (h4 : ¬ ((A.1 f.s).sort ≠ 1 ∨ (f.i = 241 ∧ (A.1 0).sort ≠ 1))) (h5 : ¬ f.i % 2 = 1) : vx_atp M f A = (0, A) := (if_neg h).trans ((if_neg h2).trans ((if_neg h3).trans ((if_neg h4).trans (if_neg h5))))
end
theorem vi_odd (a : Int32) : ((a &&& (1 : Int32)) = 0) ↔ a.toInt % 2 = 0 := by
  rw [← Int32.toBitVec_inj, Int32.toBitVec_and]
  have e : (a.toBitVec &&& (1 : Int32).toBitVec = (0 : Int32).toBitVec) ↔ a.toBitVec.toNat % 2 ^ 1 = 0 := by
    rw [← BitVec.toNat_inj, BitVec.toNat_and, show (1 : Int32).toBitVec.toNat = 2 ^ 1 - 1 from rfl, Nat.and_two_pow_sub_one_eq_mod]
    exact Iff.rfl
  rw [e]
  show _ ↔ a.toBitVec.toInt % 2 = 0
  have lt := a.toBitVec.isLt
  generalize a.toBitVec = b at *
  rw [BitVec.toInt_eq_toNat_cond]
  split <;> omega
theorem vi_low {zz : Nat} (hz : zz = 1 ∨ zz = 2 ∨ zz = 4 ∨ zz = 8) : (vl_I zz - (1 : Int32)).toInt64.toBitVec = BitVec.ofNat 64 (zz - 1) := by
  rcases hz with h | h | h | h <;> subst h <;> rfl
theorem vi_e1 {zz : Nat} (hz : zz = 1 ∨ zz = 2 ∨ zz = 4 ∨ zz = 8) (a : Int64) : ((a &&& (vl_I zz - (1 : Int32)).toInt64) = (vl_I zz - (1 : Int32)).toInt64) ↔ a.toBitVec &&& BitVec.ofNat 64 (zz - 1) = BitVec.ofNat 64 (zz - 1) := by
  rw [← Int64.toBitVec_inj, Int64.toBitVec_and, vi_low hz]
theorem vi_e2 {zz : Nat} (hz : zz = 1 ∨ zz = 2 ∨ zz = 4 ∨ zz = 8) (a : Int64) (o : Int32) : (((a + o.toInt64) &&& (vl_I zz - (1 : Int32)).toInt64) = (0 : Int64)) ↔ (a.toBitVec + BitVec.ofInt 64 o.toInt) &&& BitVec.ofNat 64 (zz - 1) = 0 := by
  rw [← Int64.toBitVec_inj, Int64.toBitVec_and, vi_low hz, Int64.toBitVec_add]
  exact Iff.rfl
theorem jv_i39 : jv_I 39 11 (some .int) 3 95 jv_c39 := ⟨rfl, rfl, rfl, rfl, rfl⟩
theorem vc_atomic {K : Nat → Option (Nat × Nat)} {I : Nat → Nat → Int32} {L : Nat → Nat → Int64} {R : Nat → Nat → Value} {M : vf_M} (w : Int64) (hC : vc_C K R) (hM : vc_M K I R M) (hkn : (L 12 1).toInt ≤ 1073000000) (oa : vc_okA I L 12) (tA : ∀ n, n < 75 → vt_ok (vc_T I L (12 + 2 + n))) (gA : ∀ n, n < 75 → vc_g I L (12 + 2 + n)) {n sl : Nat} : ∃ I1 L1, jv_Ms 39 [.ref 10, .long w] (jv_H K I L R) n sl (some (.int (vl_I (vx_atomic M (vc_F w) (vc_A I L 12)).1)), jv_H K I1 L1 R, n, sl) ∧ ((vx_atomic M (vc_F w) (vc_A I L 12)).1 = 0 → vc_A I1 L1 12 = (vx_atomic M (vc_F w) (vc_A I L 12)).2 ∧ vc_okA I1 L1 12) ∧ vc_fr vc_wk I L I1 L1 ∧ ∀ f, I1 12 f = I 12 f := by
  obtain ⟨Q, hQ⟩ : ∃ Q : jv_R → Prop, Q = fun X => ∃ I1 L1, X = (some (.int (vl_I (vx_atomic M (vc_F w) (vc_A I L 12)).1)), jv_H K I1 L1 R, n, sl) ∧ ((vx_atomic M (vc_F w) (vc_A I L 12)).1 = 0 → vc_A I1 L1 12 = (vx_atomic M (vc_F w) (vc_A I L 12)).2 ∧ vc_okA I1 L1 12) ∧ vc_fr vc_wk I L I1 L1 ∧ ∀ f, I1 12 f = I 12 f := ⟨_, rfl⟩
  suffices h : jv_Wp 39 0 [(0, .ref 10), (1, .long w)] [] (jv_H K I L R) n sl Q by
    rw [hQ] at h
    obtain ⟨X, h, I1, L1, e, h'⟩ := h
    subst e
    exact ⟨I1, L1, h, h'⟩
  have hd75 := vw_d75 w
  have hs75 := vw_s75 w
  have z4 := vw_z w
  have m8b := vw_m8 w
  have rlt := vx_reach_lt (M := M) (A := vc_A I L 12) (t := vc_T I L (12 + 2 + (vc_F w).d)) (o := (jv_wfoffset w).toInt) (z := (vc_F w).z) (w := true)
  refine jv_Wp.lift (fun _ Kz => jv_Ev.steps jv_i39 1 (pc' := 1) (l' := [(0, .ref 10), (1, .long w)]) (st' := [.ref 10]) rfl Kz) ?_
  refine jv_Wp.lift (fun _ Kz => jv_Ev.m jv_i39 (pc' := 4) (st' := [.ref 12]) (G' := (jv_H K I L R)) rfl rfl (jv_m_getR hC.k rfl rfl hC.rnow) Kz) ?_
  refine jv_Wp.lift (fun _ Kz => jv_Ev.m jv_i39 (pc' := 7) (st' := [.ref (12 + 1)]) (G' := (jv_H K I L R)) rfl rfl (jv_m_getR hC.now.k rfl rfl hC.now.r) Kz) ?_
  refine jv_Wp.lift (fun _ Kz => jv_Ev.steps jv_i39 1 (pc' := 8) (l' := [(0, .ref 10), (1, .long w)]) (st' := [.long w, .ref (12 + 1)]) rfl Kz) ?_
  refine jv_Wp.lift (fun _ Kz => jv_Ev.c jv_i39 (pc' := 11) (S' := [.int (vl_I (vc_F w).d), .ref (12 + 1)]) jv_i86 [.long w] rfl rfl rfl rfl rfl rfl (vw_m86 w) rfl rfl Kz) ?_
  refine jv_Wp.lift (fun _ Kz => jv_Ev.m jv_i39 (pc' := 12) (st' := [.ref (12 + 2 + (vc_F w).d)]) (G' := (jv_H K I L R)) rfl rfl (jv_m_aaldR hC.now.kt rfl (vl_I_ix (vw_d75 w) (by decide)) rfl (vc_St_rt hC.now (vw_d75 w))) Kz) ?_
  refine jv_Wp.lift (fun _ Kz => jv_Ev.steps jv_i39 2 (pc' := 14) (l' := [(3, .ref (12 + 2 + (vc_F w).d)), (0, .ref 10), (1, .long w)]) (st' := [.ref 10]) rfl Kz) ?_
  refine jv_Wp.lift (fun _ Kz => jv_Ev.m jv_i39 (pc' := 17) (st' := [.ref 12]) (G' := (jv_H K I L R)) rfl rfl (jv_m_getR hC.k rfl rfl hC.rnow) Kz) ?_
  refine jv_Wp.lift (fun _ Kz => jv_Ev.m jv_i39 (pc' := 20) (st' := [.ref (12 + 1)]) (G' := (jv_H K I L R)) rfl rfl (jv_m_getR hC.now.k rfl rfl hC.now.r) Kz) ?_
  refine jv_Wp.lift (fun _ Kz => jv_Ev.steps jv_i39 1 (pc' := 21) (l' := [(3, .ref (12 + 2 + (vc_F w).d)), (0, .ref 10), (1, .long w)]) (st' := [.long w, .ref (12 + 1)]) rfl Kz) ?_
  refine jv_Wp.lift (fun _ Kz => jv_Ev.c jv_i39 (pc' := 24) (S' := [.int (vl_I (vc_F w).s), .ref (12 + 1)]) jv_i87 [.long w] rfl rfl rfl rfl rfl rfl (vw_m87 w) rfl rfl Kz) ?_
  refine jv_Wp.lift (fun _ Kz => jv_Ev.m jv_i39 (pc' := 25) (st' := [.ref (12 + 2 + (vc_F w).s)]) (G' := (jv_H K I L R)) rfl rfl (jv_m_aaldR hC.now.kt rfl (vl_I_ix (vw_s75 w) (by decide)) rfl (vc_St_rt hC.now (vw_s75 w))) Kz) ?_
  refine jv_Wp.lift (fun _ Kz => jv_Ev.steps jv_i39 2 (pc' := 28) (l' := [(4, .ref (12 + 2 + (vc_F w).s)), (3, .ref (12 + 2 + (vc_F w).d)), (0, .ref 10), (1, .long w)]) (st' := [.ref 10]) rfl Kz) ?_
  refine jv_Wp.lift (fun _ Kz => jv_Ev.m jv_i39 (pc' := 31) (st' := [.ref 12]) (G' := (jv_H K I L R)) rfl rfl (jv_m_getR hC.k rfl rfl hC.rnow) Kz) ?_
  refine jv_Wp.lift (fun _ Kz => jv_Ev.m jv_i39 (pc' := 34) (st' := [.ref (12 + 1)]) (G' := (jv_H K I L R)) rfl rfl (jv_m_getR hC.now.k rfl rfl hC.now.r) Kz) ?_
  refine jv_Wp.lift (fun _ Kz => jv_Ev.steps jv_i39 1 (pc' := 35) (l' := [(4, .ref (12 + 2 + (vc_F w).s)), (3, .ref (12 + 2 + (vc_F w).d)), (0, .ref 10), (1, .long w)]) (st' := [.int (0 : Int32), .ref (12 + 1)]) rfl Kz) ?_
  refine jv_Wp.lift (fun _ Kz => jv_Ev.m jv_i39 (pc' := 36) (st' := [.ref (12 + 2 + 0)]) (G' := (jv_H K I L R)) rfl rfl (jv_m_aaldR hC.now.kt rfl (by decide) rfl (hC.now.rt 0 (by decide))) Kz) ?_
  refine jv_Wp.lift (fun _ Kz => jv_Ev.steps jv_i39 2 (pc' := 39) (l' := [(5, .ref (12 + 2 + 0)), (4, .ref (12 + 2 + (vc_F w).s)), (3, .ref (12 + 2 + (vc_F w).d)), (0, .ref 10), (1, .long w)]) (st' := [.long w]) rfl Kz) ?_
  refine jv_Wp.lift (fun _ Kz => jv_Ev.c jv_i39 (pc' := 42) (S' := [.int (jv_wfoffset w)]) jv_i88 [.long w] rfl rfl rfl rfl rfl rfl (jv_s88 w) rfl rfl Kz) ?_
  refine jv_Wp.lift (fun _ Kz => jv_Ev.steps jv_i39 2 (pc' := 45) (l' := [(6, .int (jv_wfoffset w)), (5, .ref (12 + 2 + 0)), (4, .ref (12 + 2 + (vc_F w).s)), (3, .ref (12 + 2 + (vc_F w).d)), (0, .ref 10), (1, .long w)]) (st' := [.long w]) rfl Kz) ?_
  refine jv_Wp.lift (fun _ Kz => jv_Ev.c jv_i39 (pc' := 48) (S' := [.int (vl_I (vc_F w).z)]) jv_i85 [.long w] rfl rfl rfl rfl rfl rfl (vw_m85 w) rfl rfl Kz) ?_
  refine jv_Wp.lift (fun _ Kz => jv_Ev.steps jv_i39 2 (pc' := 51) (l' := [(7, .int (vl_I (vc_F w).z)), (6, .int (jv_wfoffset w)), (5, .ref (12 + 2 + 0)), (4, .ref (12 + 2 + (vc_F w).s)), (3, .ref (12 + 2 + (vc_F w).d)), (0, .ref 10), (1, .long w)]) (st' := [.long w]) rfl Kz) ?_
  refine jv_Wp.lift (fun _ Kz => jv_Ev.c jv_i39 (pc' := 54) (S' := [.int (jv_wfimmediate w)]) jv_i89 [.long w] rfl rfl rfl rfl rfl rfl (jv_s89 w) rfl rfl Kz) ?_
  refine jv_Wp.lift (fun _ Kz => jv_Ev.steps jv_i39 3 (pc' := 61) (l' := [(8, .int (jv_wfimmediate w)), (7, .int (vl_I (vc_F w).z)), (6, .int (jv_wfoffset w)), (5, .ref (12 + 2 + 0)), (4, .ref (12 + 2 + (vc_F w).s)), (3, .ref (12 + 2 + (vc_F w).d)), (0, .ref 10), (1, .long w)]) (st' := [.int (241 : Int32), .int (jv_wfimmediate w)]) rfl Kz) ?_
  refine jv_Wp.cnd jv_i39 (pt := 68) (pe := 64) (p := (¬ (jv_wfimmediate w) = (241 : Int32))) (q := (¬ (jv_wfimmediate w) = (241 : Int32))) rfl jv_bc_ne rfl rfl Iff.rfl (fun h1 => ?_) (fun h1 => ?_)
  · refine jv_Wp.lift (fun _ Kz => jv_Ev.steps jv_i39 3 (pc' := 72) (l' := [(9, .int (0 : Int32)), (8, .int (jv_wfimmediate w)), (7, .int (vl_I (vc_F w).z)), (6, .int (jv_wfoffset w)), (5, .ref (12 + 2 + 0)), (4, .ref (12 + 2 + (vc_F w).s)), (3, .ref (12 + 2 + (vc_F w).d)), (0, .ref 10), (1, .long w)]) (st' := [.ref (12 + 2 + (vc_F w).d)]) rfl Kz) ?_
    refine jv_Wp.lift (fun _ Kz => jv_Ev.m jv_i39 (pc' := 75) (st' := [.int (I (12 + 2 + (vc_F w).d) 6)]) (G' := (jv_H K I L R)) rfl rfl (jv_m_getI (hC.now.kk _ (vw_d75 w)) rfl rfl rfl) Kz) ?_
    refine jv_Wp.cnd jv_i39 (pt := 99) (pe := 78) (p := ((I (12 + 2 + (vc_F w).d) 6) = 0)) (q := ((I (12 + 2 + (vc_F w).d) 6) = 0)) rfl jv_bi_eq rfl rfl Iff.rfl (fun h2 => ?_) (fun h2 => ?_)
    · refine jv_Wp.lift (fun _ Kz => jv_Ev.steps jv_i39 1 (pc' := 100) (l' := [(9, .int (0 : Int32)), (8, .int (jv_wfimmediate w)), (7, .int (vl_I (vc_F w).z)), (6, .int (jv_wfoffset w)), (5, .ref (12 + 2 + 0)), (4, .ref (12 + 2 + (vc_F w).s)), (3, .ref (12 + 2 + (vc_F w).d)), (0, .ref 10), (1, .long w)]) (st' := [.int (1 : Int32)]) rfl Kz) ?_
      refine jv_Wp.of (jv_Ev.ret jv_i39 rfl rfl) ?_
      rw [hQ, vx_atp_eq]
      have eD : ((vc_A I L 12).1 (vc_F w).d) = vc_T I L (12 + 2 + (vc_F w).d) := vc_A1 hd75
      have eS : ((vc_A I L 12).1 (vc_F w).s) = vc_T I L (12 + 2 + (vc_F w).s) := vc_A1 hs75
      have eQ : ((vc_A I L 12).1 0) = vc_T I L (12 + 2 + 0) := vc_A1 (by decide)
      have i241 : ¬ (vc_F w).i = 241 := fun z => h1 (Int32.toInt_inj.mp z)
      have d0 : ((vc_A I L 12).1 (vc_F w).d).sort = 0 := eD ▸ (vc_is0 (oa _ hd75)).mpr h2
      have e := vx_at1 (M := M) (f := vc_F w) (A := vc_A I L 12) (by omega)
      exact ⟨_, _, by rw [e]; rfl, fun z => by rw [e] at z; exact absurd (show (1 : Nat) = 0 from z) (by decide), vc_fr_refl _ _, fun _ => rfl⟩
    · refine jv_Wp.lift (fun _ Kz => jv_Ev.steps jv_i39 1 (pc' := 80) (l' := [(9, .int (0 : Int32)), (8, .int (jv_wfimmediate w)), (7, .int (vl_I (vc_F w).z)), (6, .int (jv_wfoffset w)), (5, .ref (12 + 2 + 0)), (4, .ref (12 + 2 + (vc_F w).s)), (3, .ref (12 + 2 + (vc_F w).d)), (0, .ref 10), (1, .long w)]) (st' := [.ref (12 + 2 + (vc_F w).s)]) rfl Kz) ?_
      refine jv_Wp.lift (fun _ Kz => jv_Ev.m jv_i39 (pc' := 83) (st' := [.int (I (12 + 2 + (vc_F w).s) 6)]) (G' := (jv_H K I L R)) rfl rfl (jv_m_getI (hC.now.kk _ (vw_s75 w)) rfl rfl rfl) Kz) ?_
      refine jv_Wp.cnd jv_i39 (pt := 99) (pe := 86) (p := ((I (12 + 2 + (vc_F w).s) 6) = 0)) (q := ((I (12 + 2 + (vc_F w).s) 6) = 0)) rfl jv_bi_eq rfl rfl Iff.rfl (fun h3 => ?_) (fun h3 => ?_)
      · refine jv_Wp.lift (fun _ Kz => jv_Ev.steps jv_i39 1 (pc' := 100) (l' := [(9, .int (0 : Int32)), (8, .int (jv_wfimmediate w)), (7, .int (vl_I (vc_F w).z)), (6, .int (jv_wfoffset w)), (5, .ref (12 + 2 + 0)), (4, .ref (12 + 2 + (vc_F w).s)), (3, .ref (12 + 2 + (vc_F w).d)), (0, .ref 10), (1, .long w)]) (st' := [.int (1 : Int32)]) rfl Kz) ?_
        refine jv_Wp.of (jv_Ev.ret jv_i39 rfl rfl) ?_
        rw [hQ, vx_atp_eq]
        have eD : ((vc_A I L 12).1 (vc_F w).d) = vc_T I L (12 + 2 + (vc_F w).d) := vc_A1 hd75
        have eS : ((vc_A I L 12).1 (vc_F w).s) = vc_T I L (12 + 2 + (vc_F w).s) := vc_A1 hs75
        have eQ : ((vc_A I L 12).1 0) = vc_T I L (12 + 2 + 0) := vc_A1 (by decide)
        have i241 : ¬ (vc_F w).i = 241 := fun z => h1 (Int32.toInt_inj.mp z)
        have d0 : ¬ ((vc_A I L 12).1 (vc_F w).d).sort = 0 := fun z => h2 ((vc_is0 (oa _ hd75)).mp (eD ▸ z))
        have s0 : ((vc_A I L 12).1 (vc_F w).s).sort = 0 := eS ▸ (vc_is0 (oa _ hs75)).mpr h3
        have e := vx_at1 (M := M) (f := vc_F w) (A := vc_A I L 12) (by omega)
        exact ⟨_, _, by rw [e]; rfl, fun z => by rw [e] at z; exact absurd (show (1 : Nat) = 0 from z) (by decide), vc_fr_refl _ _, fun _ => rfl⟩
      · refine jv_Wp.lift (fun _ Kz => jv_Ev.steps jv_i39 1 (pc' := 88) (l' := [(9, .int (0 : Int32)), (8, .int (jv_wfimmediate w)), (7, .int (vl_I (vc_F w).z)), (6, .int (jv_wfoffset w)), (5, .ref (12 + 2 + 0)), (4, .ref (12 + 2 + (vc_F w).s)), (3, .ref (12 + 2 + (vc_F w).d)), (0, .ref 10), (1, .long w)]) (st' := [.int (0 : Int32)]) rfl Kz) ?_
        refine jv_Wp.lift (fun _ Kz => jv_Ev.br jv_i39 (pc' := 101) (st' := []) rfl (by rfl) Kz) ?_
        refine jv_Wp.lift (fun _ Kz => jv_Ev.steps jv_i39 1 (pc' := 102) (l' := [(9, .int (0 : Int32)), (8, .int (jv_wfimmediate w)), (7, .int (vl_I (vc_F w).z)), (6, .int (jv_wfoffset w)), (5, .ref (12 + 2 + 0)), (4, .ref (12 + 2 + (vc_F w).s)), (3, .ref (12 + 2 + (vc_F w).d)), (0, .ref 10), (1, .long w)]) (st' := [.ref (12 + 2 + (vc_F w).d)]) rfl Kz) ?_
        refine jv_Wp.lift (fun _ Kz => jv_Ev.m jv_i39 (pc' := 105) (st' := [.int (I (12 + 2 + (vc_F w).d) 6)]) (G' := (jv_H K I L R)) rfl rfl (jv_m_getI (hC.now.kk _ (vw_d75 w)) rfl rfl rfl) Kz) ?_
        refine jv_Wp.lift (fun _ Kz => jv_Ev.steps jv_i39 1 (pc' := 107) (l' := [(9, .int (0 : Int32)), (8, .int (jv_wfimmediate w)), (7, .int (vl_I (vc_F w).z)), (6, .int (jv_wfoffset w)), (5, .ref (12 + 2 + 0)), (4, .ref (12 + 2 + (vc_F w).s)), (3, .ref (12 + 2 + (vc_F w).d)), (0, .ref 10), (1, .long w)]) (st' := [.int (7 : Int32), .int (I (12 + 2 + (vc_F w).d) 6)]) rfl Kz) ?_
        refine jv_Wp.cnd jv_i39 (pt := 112) (pe := 110) (p := ((I (12 + 2 + (vc_F w).d) 6) = (7 : Int32))) (q := ((I (12 + 2 + (vc_F w).d) 6) = (7 : Int32))) rfl jv_bc_eq rfl rfl Iff.rfl (fun h4 => ?_) (fun h4 => ?_)
        · refine jv_Wp.lift (fun _ Kz => jv_Ev.steps jv_i39 1 (pc' := 113) (l' := [(9, .int (0 : Int32)), (8, .int (jv_wfimmediate w)), (7, .int (vl_I (vc_F w).z)), (6, .int (jv_wfoffset w)), (5, .ref (12 + 2 + 0)), (4, .ref (12 + 2 + (vc_F w).s)), (3, .ref (12 + 2 + (vc_F w).d)), (0, .ref 10), (1, .long w)]) (st' := [.ref (12 + 2 + (vc_F w).d)]) rfl Kz) ?_
          refine jv_Wp.lift (fun _ Kz => jv_Ev.m jv_i39 (pc' := 116) (st' := [.long (L (12 + 2 + (vc_F w).d) 0)]) (G' := (jv_H K I L R)) rfl rfl (jv_m_getL (hC.now.kk _ (vw_d75 w)) rfl rfl rfl) Kz) ?_
          refine jv_Wp.lift (fun _ Kz => jv_Ev.steps jv_i39 10 (pc' := 128) (l' := [(9, .int (0 : Int32)), (8, .int (jv_wfimmediate w)), (7, .int (vl_I (vc_F w).z)), (6, .int (jv_wfoffset w)), (5, .ref (12 + 2 + 0)), (4, .ref (12 + 2 + (vc_F w).s)), (3, .ref (12 + 2 + (vc_F w).d)), (0, .ref 10), (1, .long w)]) (st' := [.int (lg_cmp ((L (12 + 2 + (vc_F w).d) 0) &&& ((vl_I (vc_F w).z) - (1 : Int32)).toInt64) ((vl_I (vc_F w).z) - (1 : Int32)).toInt64)]) rfl Kz) ?_
          refine jv_Wp.cnd jv_i39 (pt := 154) (pe := 131) (p := (¬ (lg_cmp ((L (12 + 2 + (vc_F w).d) 0) &&& ((vl_I (vc_F w).z) - (1 : Int32)).toInt64) ((vl_I (vc_F w).z) - (1 : Int32)).toInt64) = 0)) (q := (¬ ((L (12 + 2 + (vc_F w).d) 0) &&& ((vl_I (vc_F w).z) - (1 : Int32)).toInt64) = ((vl_I (vc_F w).z) - (1 : Int32)).toInt64)) rfl jv_bi_ne rfl rfl (not_congr (lg_cmp_eq ((L (12 + 2 + (vc_F w).d) 0) &&& ((vl_I (vc_F w).z) - (1 : Int32)).toInt64) ((vl_I (vc_F w).z) - (1 : Int32)).toInt64)) (fun h5 => ?_) (fun h5 => ?_)
          · refine jv_Wp.lift (fun _ Kz => jv_Ev.steps jv_i39 3 (pc' := 159) (l' := [(10, .int (0 : Int32)), (9, .int (0 : Int32)), (8, .int (jv_wfimmediate w)), (7, .int (vl_I (vc_F w).z)), (6, .int (jv_wfoffset w)), (5, .ref (12 + 2 + 0)), (4, .ref (12 + 2 + (vc_F w).s)), (3, .ref (12 + 2 + (vc_F w).d)), (0, .ref 10), (1, .long w)]) (st' := [.int (0 : Int32)]) rfl Kz) ?_
            refine jv_Wp.lift (fun _ Kz => jv_Ev.br jv_i39 (pc' := 175) (st' := []) rfl (by rfl) Kz) ?_
            refine jv_Wp.lift (fun _ Kz => jv_Ev.steps jv_i39 1 (pc' := 176) (l' := [(10, .int (0 : Int32)), (9, .int (0 : Int32)), (8, .int (jv_wfimmediate w)), (7, .int (vl_I (vc_F w).z)), (6, .int (jv_wfoffset w)), (5, .ref (12 + 2 + 0)), (4, .ref (12 + 2 + (vc_F w).s)), (3, .ref (12 + 2 + (vc_F w).d)), (0, .ref 10), (1, .long w)]) (st' := [.int (4 : Int32)]) rfl Kz) ?_
            refine jv_Wp.of (jv_Ev.ret jv_i39 rfl rfl) ?_
            rw [hQ, vx_atp_eq]
            have eD : ((vc_A I L 12).1 (vc_F w).d) = vc_T I L (12 + 2 + (vc_F w).d) := vc_A1 hd75
            have eS : ((vc_A I L 12).1 (vc_F w).s) = vc_T I L (12 + 2 + (vc_F w).s) := vc_A1 hs75
            have eQ : ((vc_A I L 12).1 0) = vc_T I L (12 + 2 + 0) := vc_A1 (by decide)
            have i241 : ¬ (vc_F w).i = 241 := fun z => h1 (Int32.toInt_inj.mp z)
            have d0 : ¬ ((vc_A I L 12).1 (vc_F w).d).sort = 0 := fun z => h2 ((vc_is0 (oa _ hd75)).mp (eD ▸ z))
            have s0 : ¬ ((vc_A I L 12).1 (vc_F w).s).sort = 0 := fun z => h3 ((vc_is0 (oa _ hs75)).mp (eS ▸ z))
            have d7 : ((vc_A I L 12).1 (vc_F w).d).sort = 7 := eD ▸ (vc_is7 (oa _ hd75)).mpr h4
            have c1 : ¬ (((vc_A I L 12).1 (vc_F w).d).sort = 0 ∨ ((vc_A I L 12).1 (vc_F w).s).sort = 0 ∨ ((vc_F w).i = 241 ∧ ((vc_A I L 12).1 0).sort = 0)) := by omega
            have c2 : ¬ ((vc_A I L 12).1 (vc_F w).d).sort ≠ 7 := by omega
            have d7t : ((vc_A I L 12).1 (vc_F w).d).sort = 7 := by omega
            have vv : ((vc_A I L 12).1 (vc_F w).d).val = vl_S L (12 + 2 + (vc_F w).d) := by rw [eD]; exact vc_valv (Or.inr (Or.inr ((vc_is7 (oa _ hd75)).mp (by rw [← eD]; exact d7t))))
            have m1 : ¬ ((L (12 + 2 + (vc_F w).d) 0).toBitVec &&& BitVec.ofNat 64 ((vc_F w).z - 1) = BitVec.ofNat 64 ((vc_F w).z - 1)) := (not_congr (vi_e1 z4 _)).mp h5
            have ev : vx_even ((vc_A I L 12).1 (vc_F w).d).val (vc_F w).o (vc_F w).z = false := by
              rw [vv]; unfold vx_even
              show (decide ((L (12 + 2 + (vc_F w).d) 0).toBitVec &&& BitVec.ofNat 64 ((vc_F w).z - 1) = BitVec.ofNat 64 ((vc_F w).z - 1)) && decide (((L (12 + 2 + (vc_F w).d) 1).toBitVec + BitVec.ofInt 64 (vc_F w).o) &&& BitVec.ofNat 64 ((vc_F w).z - 1) = 0)) = false
              rw [decide_eq_false m1, Bool.false_and]
            have e := vx_at3 (M := M) c1 c2 (Or.inl ev)
            exact ⟨_, _, by rw [e]; rfl, fun z => by rw [e] at z; exact absurd (show (4 : Nat) = 0 from z) (by decide), vc_fr_refl _ _, fun _ => rfl⟩
          · refine jv_Wp.lift (fun _ Kz => jv_Ev.steps jv_i39 1 (pc' := 132) (l' := [(9, .int (0 : Int32)), (8, .int (jv_wfimmediate w)), (7, .int (vl_I (vc_F w).z)), (6, .int (jv_wfoffset w)), (5, .ref (12 + 2 + 0)), (4, .ref (12 + 2 + (vc_F w).s)), (3, .ref (12 + 2 + (vc_F w).d)), (0, .ref 10), (1, .long w)]) (st' := [.ref (12 + 2 + (vc_F w).d)]) rfl Kz) ?_
            refine jv_Wp.lift (fun _ Kz => jv_Ev.m jv_i39 (pc' := 135) (st' := [.long (L (12 + 2 + (vc_F w).d) 1)]) (G' := (jv_H K I L R)) rfl rfl (jv_m_getL (hC.now.kk _ (vw_d75 w)) rfl rfl rfl) Kz) ?_
            refine jv_Wp.lift (fun _ Kz => jv_Ev.steps jv_i39 10 (pc' := 147) (l' := [(9, .int (0 : Int32)), (8, .int (jv_wfimmediate w)), (7, .int (vl_I (vc_F w).z)), (6, .int (jv_wfoffset w)), (5, .ref (12 + 2 + 0)), (4, .ref (12 + 2 + (vc_F w).s)), (3, .ref (12 + 2 + (vc_F w).d)), (0, .ref 10), (1, .long w)]) (st' := [.int (lg_cmp (((L (12 + 2 + (vc_F w).d) 1) + (jv_wfoffset w).toInt64) &&& ((vl_I (vc_F w).z) - (1 : Int32)).toInt64) (0 : Int64))]) rfl Kz) ?_
            refine jv_Wp.cnd jv_i39 (pt := 154) (pe := 150) (p := (¬ (lg_cmp (((L (12 + 2 + (vc_F w).d) 1) + (jv_wfoffset w).toInt64) &&& ((vl_I (vc_F w).z) - (1 : Int32)).toInt64) (0 : Int64)) = 0)) (q := (¬ (((L (12 + 2 + (vc_F w).d) 1) + (jv_wfoffset w).toInt64) &&& ((vl_I (vc_F w).z) - (1 : Int32)).toInt64) = (0 : Int64))) rfl jv_bi_ne rfl rfl (not_congr (lg_cmp_eq (((L (12 + 2 + (vc_F w).d) 1) + (jv_wfoffset w).toInt64) &&& ((vl_I (vc_F w).z) - (1 : Int32)).toInt64) (0 : Int64))) (fun h6 => ?_) (fun h6 => ?_)
            · refine jv_Wp.lift (fun _ Kz => jv_Ev.steps jv_i39 3 (pc' := 159) (l' := [(10, .int (0 : Int32)), (9, .int (0 : Int32)), (8, .int (jv_wfimmediate w)), (7, .int (vl_I (vc_F w).z)), (6, .int (jv_wfoffset w)), (5, .ref (12 + 2 + 0)), (4, .ref (12 + 2 + (vc_F w).s)), (3, .ref (12 + 2 + (vc_F w).d)), (0, .ref 10), (1, .long w)]) (st' := [.int (0 : Int32)]) rfl Kz) ?_
              refine jv_Wp.lift (fun _ Kz => jv_Ev.br jv_i39 (pc' := 175) (st' := []) rfl (by rfl) Kz) ?_
              refine jv_Wp.lift (fun _ Kz => jv_Ev.steps jv_i39 1 (pc' := 176) (l' := [(10, .int (0 : Int32)), (9, .int (0 : Int32)), (8, .int (jv_wfimmediate w)), (7, .int (vl_I (vc_F w).z)), (6, .int (jv_wfoffset w)), (5, .ref (12 + 2 + 0)), (4, .ref (12 + 2 + (vc_F w).s)), (3, .ref (12 + 2 + (vc_F w).d)), (0, .ref 10), (1, .long w)]) (st' := [.int (4 : Int32)]) rfl Kz) ?_
              refine jv_Wp.of (jv_Ev.ret jv_i39 rfl rfl) ?_
              rw [hQ, vx_atp_eq]
              have eD : ((vc_A I L 12).1 (vc_F w).d) = vc_T I L (12 + 2 + (vc_F w).d) := vc_A1 hd75
              have eS : ((vc_A I L 12).1 (vc_F w).s) = vc_T I L (12 + 2 + (vc_F w).s) := vc_A1 hs75
              have eQ : ((vc_A I L 12).1 0) = vc_T I L (12 + 2 + 0) := vc_A1 (by decide)
              have i241 : ¬ (vc_F w).i = 241 := fun z => h1 (Int32.toInt_inj.mp z)
              have d0 : ¬ ((vc_A I L 12).1 (vc_F w).d).sort = 0 := fun z => h2 ((vc_is0 (oa _ hd75)).mp (eD ▸ z))
              have s0 : ¬ ((vc_A I L 12).1 (vc_F w).s).sort = 0 := fun z => h3 ((vc_is0 (oa _ hs75)).mp (eS ▸ z))
              have d7 : ((vc_A I L 12).1 (vc_F w).d).sort = 7 := eD ▸ (vc_is7 (oa _ hd75)).mpr h4
              have c1 : ¬ (((vc_A I L 12).1 (vc_F w).d).sort = 0 ∨ ((vc_A I L 12).1 (vc_F w).s).sort = 0 ∨ ((vc_F w).i = 241 ∧ ((vc_A I L 12).1 0).sort = 0)) := by omega
              have c2 : ¬ ((vc_A I L 12).1 (vc_F w).d).sort ≠ 7 := by omega
              have d7t : ((vc_A I L 12).1 (vc_F w).d).sort = 7 := by omega
              have vv : ((vc_A I L 12).1 (vc_F w).d).val = vl_S L (12 + 2 + (vc_F w).d) := by rw [eD]; exact vc_valv (Or.inr (Or.inr ((vc_is7 (oa _ hd75)).mp (by rw [← eD]; exact d7t))))
              have m1 : ((L (12 + 2 + (vc_F w).d) 0).toBitVec &&& BitVec.ofNat 64 ((vc_F w).z - 1) = BitVec.ofNat 64 ((vc_F w).z - 1)) := (vi_e1 z4 _).mp (Classical.not_not.mp h5)
              have m2 : ¬ (((L (12 + 2 + (vc_F w).d) 1).toBitVec + BitVec.ofInt 64 (vc_F w).o) &&& BitVec.ofNat 64 ((vc_F w).z - 1) = 0) := (not_congr (vi_e2 z4 _ _)).mp h6
              have ev : vx_even ((vc_A I L 12).1 (vc_F w).d).val (vc_F w).o (vc_F w).z = false := by
                rw [vv]; unfold vx_even
                show (decide ((L (12 + 2 + (vc_F w).d) 0).toBitVec &&& BitVec.ofNat 64 ((vc_F w).z - 1) = BitVec.ofNat 64 ((vc_F w).z - 1)) && decide (((L (12 + 2 + (vc_F w).d) 1).toBitVec + BitVec.ofInt 64 (vc_F w).o) &&& BitVec.ofNat 64 ((vc_F w).z - 1) = 0)) = false
                rw [decide_eq_false m2, Bool.and_false]
              have e := vx_at3 (M := M) c1 c2 (Or.inl ev)
              exact ⟨_, _, by rw [e]; rfl, fun z => by rw [e] at z; exact absurd (show (4 : Nat) = 0 from z) (by decide), vc_fr_refl _ _, fun _ => rfl⟩
            · refine jv_Wp.lift (fun _ Kz => jv_Ev.steps jv_i39 4 (pc' := 159) (l' := [(10, .int (1 : Int32)), (9, .int (0 : Int32)), (8, .int (jv_wfimmediate w)), (7, .int (vl_I (vc_F w).z)), (6, .int (jv_wfoffset w)), (5, .ref (12 + 2 + 0)), (4, .ref (12 + 2 + (vc_F w).s)), (3, .ref (12 + 2 + (vc_F w).d)), (0, .ref 10), (1, .long w)]) (st' := [.int (1 : Int32)]) rfl Kz) ?_
              refine jv_Wp.lift (fun _ Kz => jv_Ev.br jv_i39 (pc' := 162) (st' := []) rfl (by rfl) Kz) ?_
              refine jv_Wp.lift (fun _ Kz => jv_Ev.steps jv_i39 5 (pc' := 169) (l' := [(10, .int (1 : Int32)), (9, .int (0 : Int32)), (8, .int (jv_wfimmediate w)), (7, .int (vl_I (vc_F w).z)), (6, .int (jv_wfoffset w)), (5, .ref (12 + 2 + 0)), (4, .ref (12 + 2 + (vc_F w).s)), (3, .ref (12 + 2 + (vc_F w).d)), (0, .ref 10), (1, .long w)]) (st' := [.int (1 : Int32), .int (vl_I (vc_F w).z), .int (jv_wfoffset w), .ref (12 + 2 + (vc_F w).d), .ref 10]) rfl Kz) ?_
              obtain ⟨I1, L1, H1, ei1, el1⟩ := vc_reach (I := I) (L := L) (R := R) (n := n) (sl := sl) (M := M) (t := (12 + 2 + (vc_F w).d)) (jv_wfoffset w) (vc_F w).z true hC hM (hC.now.kk _ (vw_d75 w)) (oa _ hd75) (vw_z w) (vw_off w) (gA _ hd75).1 hkn (vc_lg (oa _ hd75) (tA _ hd75)) (gA _ hd75).2
              rw [ei1, el1] at H1
              refine jv_Wp.lift (fun _ Kz => jv_Ev.c jv_i39 (pc' := 172) (S' := [.int (vl_I (vx_reach M (vc_A I L 12) (vc_T I L (12 + 2 + (vc_F w).d)) (jv_wfoffset w).toInt (vc_F w).z true))]) jv_i33 [.ref 10, .ref (12 + 2 + (vc_F w).d), .int (jv_wfoffset w), .int (vl_I (vc_F w).z), .int (1 : Int32)] rfl rfl rfl rfl (jv_cal rfl (jv_H_at hC.k) rfl rfl) rfl H1 rfl rfl Kz) ?_
              refine jv_Wp.cnd jv_i39 (pt := 177) (pe := 175) (p := ((vl_I (vx_reach M (vc_A I L 12) (vc_T I L (12 + 2 + (vc_F w).d)) (jv_wfoffset w).toInt (vc_F w).z true)) = 0)) (q := ((vl_I (vx_reach M (vc_A I L 12) (vc_T I L (12 + 2 + (vc_F w).d)) (jv_wfoffset w).toInt (vc_F w).z true)) = 0)) rfl jv_bi_eq rfl rfl Iff.rfl (fun h7 => ?_) (fun h7 => ?_)
              · refine jv_Wp.lift (fun _ Kz => jv_Ev.steps jv_i39 1 (pc' := 179) (l' := [(10, .int (1 : Int32)), (9, .int (0 : Int32)), (8, .int (jv_wfimmediate w)), (7, .int (vl_I (vc_F w).z)), (6, .int (jv_wfoffset w)), (5, .ref (12 + 2 + 0)), (4, .ref (12 + 2 + (vc_F w).s)), (3, .ref (12 + 2 + (vc_F w).d)), (0, .ref 10), (1, .long w)]) (st' := [.ref (12 + 2 + (vc_F w).s)]) rfl Kz) ?_
                refine jv_Wp.lift (fun _ Kz => jv_Ev.m jv_i39 (pc' := 182) (st' := [.int (I (12 + 2 + (vc_F w).s) 6)]) (G' := (jv_H K I L R)) rfl rfl (jv_m_getI (hC.now.kk _ (vw_s75 w)) rfl rfl rfl) Kz) ?_
                refine jv_Wp.lift (fun _ Kz => jv_Ev.steps jv_i39 1 (pc' := 183) (l' := [(10, .int (1 : Int32)), (9, .int (0 : Int32)), (8, .int (jv_wfimmediate w)), (7, .int (vl_I (vc_F w).z)), (6, .int (jv_wfoffset w)), (5, .ref (12 + 2 + 0)), (4, .ref (12 + 2 + (vc_F w).s)), (3, .ref (12 + 2 + (vc_F w).d)), (0, .ref 10), (1, .long w)]) (st' := [.int (1 : Int32), .int (I (12 + 2 + (vc_F w).s) 6)]) rfl Kz) ?_
                refine jv_Wp.cnd jv_i39 (pt := 200) (pe := 186) (p := (¬ (I (12 + 2 + (vc_F w).s) 6) = (1 : Int32))) (q := (¬ (I (12 + 2 + (vc_F w).s) 6) = (1 : Int32))) rfl jv_bc_ne rfl rfl Iff.rfl (fun h8 => ?_) (fun h8 => ?_)
                · refine jv_Wp.lift (fun _ Kz => jv_Ev.steps jv_i39 1 (pc' := 202) (l' := [(10, .int (1 : Int32)), (9, .int (0 : Int32)), (8, .int (jv_wfimmediate w)), (7, .int (vl_I (vc_F w).z)), (6, .int (jv_wfoffset w)), (5, .ref (12 + 2 + 0)), (4, .ref (12 + 2 + (vc_F w).s)), (3, .ref (12 + 2 + (vc_F w).d)), (0, .ref 10), (1, .long w)]) (st' := [.int (6 : Int32)]) rfl Kz) ?_
                  refine jv_Wp.of (jv_Ev.ret jv_i39 rfl rfl) ?_
                  rw [hQ, vx_atp_eq]
                  have eD : ((vc_A I L 12).1 (vc_F w).d) = vc_T I L (12 + 2 + (vc_F w).d) := vc_A1 hd75
                  have eS : ((vc_A I L 12).1 (vc_F w).s) = vc_T I L (12 + 2 + (vc_F w).s) := vc_A1 hs75
                  have eQ : ((vc_A I L 12).1 0) = vc_T I L (12 + 2 + 0) := vc_A1 (by decide)
                  have i241 : ¬ (vc_F w).i = 241 := fun z => h1 (Int32.toInt_inj.mp z)
                  have d0 : ¬ ((vc_A I L 12).1 (vc_F w).d).sort = 0 := fun z => h2 ((vc_is0 (oa _ hd75)).mp (eD ▸ z))
                  have s0 : ¬ ((vc_A I L 12).1 (vc_F w).s).sort = 0 := fun z => h3 ((vc_is0 (oa _ hs75)).mp (eS ▸ z))
                  have d7 : ((vc_A I L 12).1 (vc_F w).d).sort = 7 := eD ▸ (vc_is7 (oa _ hd75)).mpr h4
                  have s1 : ¬ ((vc_A I L 12).1 (vc_F w).s).sort = 1 := fun z => h8 ((vc_is1 (oa _ hs75)).mp (eS ▸ z))
                  have c1 : ¬ (((vc_A I L 12).1 (vc_F w).d).sort = 0 ∨ ((vc_A I L 12).1 (vc_F w).s).sort = 0 ∨ ((vc_F w).i = 241 ∧ ((vc_A I L 12).1 0).sort = 0)) := by omega
                  have c2 : ¬ ((vc_A I L 12).1 (vc_F w).d).sort ≠ 7 := by omega
                  have d7t : ((vc_A I L 12).1 (vc_F w).d).sort = 7 := by omega
                  have vv : ((vc_A I L 12).1 (vc_F w).d).val = vl_S L (12 + 2 + (vc_F w).d) := by rw [eD]; exact vc_valv (Or.inr (Or.inr ((vc_is7 (oa _ hd75)).mp (by rw [← eD]; exact d7t))))
                  have m1 : ((L (12 + 2 + (vc_F w).d) 0).toBitVec &&& BitVec.ofNat 64 ((vc_F w).z - 1) = BitVec.ofNat 64 ((vc_F w).z - 1)) := (vi_e1 z4 _).mp (Classical.not_not.mp h5)
                  have m2 : (((L (12 + 2 + (vc_F w).d) 1).toBitVec + BitVec.ofInt 64 (vc_F w).o) &&& BitVec.ofNat 64 ((vc_F w).z - 1) = 0) := (vi_e2 z4 _ _).mp (Classical.not_not.mp h6)
                  have ev : vx_even ((vc_A I L 12).1 (vc_F w).d).val (vc_F w).o (vc_F w).z = true := by
                    rw [vv]; unfold vx_even
                    show (decide ((L (12 + 2 + (vc_F w).d) 0).toBitVec &&& BitVec.ofNat 64 ((vc_F w).z - 1) = BitVec.ofNat 64 ((vc_F w).z - 1)) && decide (((L (12 + 2 + (vc_F w).d) 1).toBitVec + BitVec.ofInt 64 (vc_F w).o) &&& BitVec.ofNat 64 ((vc_F w).z - 1) = 0)) = true
                    rw [decide_eq_true m1, decide_eq_true m2]; rfl
                  have r0 : ¬ vx_reach M (vc_A I L 12) ((vc_A I L 12).1 (vc_F w).d) (vc_F w).o (vc_F w).z true ≠ 0 := by rw [eD]; exact fun z => z ((vl_I_inj (Nat.lt_trans vx_reach_lt (by decide)) (by decide)).mp h7)
                  have c3 : ¬ (vx_even ((vc_A I L 12).1 (vc_F w).d).val (vc_F w).o (vc_F w).z = false ∨ vx_reach M (vc_A I L 12) ((vc_A I L 12).1 (vc_F w).d) (vc_F w).o (vc_F w).z true ≠ 0) := fun z => z.elim (fun z => by rw [ev] at z; exact absurd z (by decide)) r0
                  have e := vx_at4 (M := M) c1 c2 c3 (by omega)
                  exact ⟨_, _, by rw [e]; rfl, fun z => by rw [e] at z; exact absurd (show (6 : Nat) = 0 from z) (by decide), vc_fr_refl _ _, fun _ => rfl⟩
                · refine jv_Wp.lift (fun _ Kz => jv_Ev.steps jv_i39 1 (pc' := 188) (l' := [(10, .int (1 : Int32)), (9, .int (0 : Int32)), (8, .int (jv_wfimmediate w)), (7, .int (vl_I (vc_F w).z)), (6, .int (jv_wfoffset w)), (5, .ref (12 + 2 + 0)), (4, .ref (12 + 2 + (vc_F w).s)), (3, .ref (12 + 2 + (vc_F w).d)), (0, .ref 10), (1, .long w)]) (st' := [.int (0 : Int32)]) rfl Kz) ?_
                  refine jv_Wp.lift (fun _ Kz => jv_Ev.br jv_i39 (pc' := 203) (st' := []) rfl (by rfl) Kz) ?_
                  refine jv_Wp.lift (fun _ Kz => jv_Ev.steps jv_i39 3 (pc' := 207) (l' := [(10, .int (1 : Int32)), (9, .int (0 : Int32)), (8, .int (jv_wfimmediate w)), (7, .int (vl_I (vc_F w).z)), (6, .int (jv_wfoffset w)), (5, .ref (12 + 2 + 0)), (4, .ref (12 + 2 + (vc_F w).s)), (3, .ref (12 + 2 + (vc_F w).d)), (0, .ref 10), (1, .long w)]) (st' := [.int ((jv_wfimmediate w) &&& (1 : Int32))]) rfl Kz) ?_
                  refine jv_Wp.cnd jv_i39 (pt := 252) (pe := 210) (p := (((jv_wfimmediate w) &&& (1 : Int32)) = 0)) (q := (((jv_wfimmediate w) &&& (1 : Int32)) = 0)) rfl jv_bi_eq rfl rfl Iff.rfl (fun h9 => ?_) (fun h9 => ?_)
                  · refine jv_Wp.lift (fun _ Kz => jv_Ev.steps jv_i39 1 (pc' := 253) (l' := [(10, .int (1 : Int32)), (9, .int (0 : Int32)), (8, .int (jv_wfimmediate w)), (7, .int (vl_I (vc_F w).z)), (6, .int (jv_wfoffset w)), (5, .ref (12 + 2 + 0)), (4, .ref (12 + 2 + (vc_F w).s)), (3, .ref (12 + 2 + (vc_F w).d)), (0, .ref 10), (1, .long w)]) (st' := [.int (0 : Int32)]) rfl Kz) ?_
                    refine jv_Wp.of (jv_Ev.ret jv_i39 rfl rfl) ?_
                    rw [hQ, vx_atp_eq]
                    have eD : ((vc_A I L 12).1 (vc_F w).d) = vc_T I L (12 + 2 + (vc_F w).d) := vc_A1 hd75
                    have eS : ((vc_A I L 12).1 (vc_F w).s) = vc_T I L (12 + 2 + (vc_F w).s) := vc_A1 hs75
                    have eQ : ((vc_A I L 12).1 0) = vc_T I L (12 + 2 + 0) := vc_A1 (by decide)
                    have i241 : ¬ (vc_F w).i = 241 := fun z => h1 (Int32.toInt_inj.mp z)
                    have d0 : ¬ ((vc_A I L 12).1 (vc_F w).d).sort = 0 := fun z => h2 ((vc_is0 (oa _ hd75)).mp (eD ▸ z))
                    have s0 : ¬ ((vc_A I L 12).1 (vc_F w).s).sort = 0 := fun z => h3 ((vc_is0 (oa _ hs75)).mp (eS ▸ z))
                    have d7 : ((vc_A I L 12).1 (vc_F w).d).sort = 7 := eD ▸ (vc_is7 (oa _ hd75)).mpr h4
                    have s1 : ((vc_A I L 12).1 (vc_F w).s).sort = 1 := eS ▸ (vc_is1 (oa _ hs75)).mpr (Classical.not_not.mp h8)
                    have odd : (vc_F w).i % 2 = 0 := (vi_odd _).mp h9
                    have c1 : ¬ (((vc_A I L 12).1 (vc_F w).d).sort = 0 ∨ ((vc_A I L 12).1 (vc_F w).s).sort = 0 ∨ ((vc_F w).i = 241 ∧ ((vc_A I L 12).1 0).sort = 0)) := by omega
                    have c2 : ¬ ((vc_A I L 12).1 (vc_F w).d).sort ≠ 7 := by omega
                    have d7t : ((vc_A I L 12).1 (vc_F w).d).sort = 7 := by omega
                    have vv : ((vc_A I L 12).1 (vc_F w).d).val = vl_S L (12 + 2 + (vc_F w).d) := by rw [eD]; exact vc_valv (Or.inr (Or.inr ((vc_is7 (oa _ hd75)).mp (by rw [← eD]; exact d7t))))
                    have m1 : ((L (12 + 2 + (vc_F w).d) 0).toBitVec &&& BitVec.ofNat 64 ((vc_F w).z - 1) = BitVec.ofNat 64 ((vc_F w).z - 1)) := (vi_e1 z4 _).mp (Classical.not_not.mp h5)
                    have m2 : (((L (12 + 2 + (vc_F w).d) 1).toBitVec + BitVec.ofInt 64 (vc_F w).o) &&& BitVec.ofNat 64 ((vc_F w).z - 1) = 0) := (vi_e2 z4 _ _).mp (Classical.not_not.mp h6)
                    have ev : vx_even ((vc_A I L 12).1 (vc_F w).d).val (vc_F w).o (vc_F w).z = true := by
                      rw [vv]; unfold vx_even
                      show (decide ((L (12 + 2 + (vc_F w).d) 0).toBitVec &&& BitVec.ofNat 64 ((vc_F w).z - 1) = BitVec.ofNat 64 ((vc_F w).z - 1)) && decide (((L (12 + 2 + (vc_F w).d) 1).toBitVec + BitVec.ofInt 64 (vc_F w).o) &&& BitVec.ofNat 64 ((vc_F w).z - 1) = 0)) = true
                      rw [decide_eq_true m1, decide_eq_true m2]; rfl
                    have r0 : ¬ vx_reach M (vc_A I L 12) ((vc_A I L 12).1 (vc_F w).d) (vc_F w).o (vc_F w).z true ≠ 0 := by rw [eD]; exact fun z => z ((vl_I_inj (Nat.lt_trans vx_reach_lt (by decide)) (by decide)).mp h7)
                    have c3 : ¬ (vx_even ((vc_A I L 12).1 (vc_F w).d).val (vc_F w).o (vc_F w).z = false ∨ vx_reach M (vc_A I L 12) ((vc_A I L 12).1 (vc_F w).d) (vc_F w).o (vc_F w).z true ≠ 0) := fun z => z.elim (fun z => by rw [ev] at z; exact absurd z (by decide)) r0
                    have c4 : ¬ (((vc_A I L 12).1 (vc_F w).s).sort ≠ 1 ∨ ((vc_F w).i = 241 ∧ ((vc_A I L 12).1 0).sort ≠ 1)) := by omega
                    have e := vx_at6 (M := M) c1 c2 c3 c4 (by omega)
                    exact ⟨_, _, by rw [e]; rfl, fun _ => by rw [e]; exact ⟨rfl, oa⟩, vc_fr_refl _ _, fun _ => rfl⟩
                  · refine jv_Wp.lift (fun _ Kz => jv_Ev.steps jv_i39 1 (pc' := 211) (l' := [(10, .int (1 : Int32)), (9, .int (0 : Int32)), (8, .int (jv_wfimmediate w)), (7, .int (vl_I (vc_F w).z)), (6, .int (jv_wfoffset w)), (5, .ref (12 + 2 + 0)), (4, .ref (12 + 2 + (vc_F w).s)), (3, .ref (12 + 2 + (vc_F w).d)), (0, .ref 10), (1, .long w)]) (st' := [.ref 10]) rfl Kz) ?_
                    refine jv_Wp.lift (fun _ Kz => jv_Ev.m jv_i39 (pc' := 214) (st' := [.ref 167]) (G' := (jv_H K I L R)) rfl rfl (jv_m_getR hC.k rfl rfl hC.rleft) Kz) ?_
                    refine jv_Wp.lift (fun _ Kz => jv_Ev.c jv_i39 (pc' := 217) (S' := []) (G1 := (jv_H K I (vl_set L 167 vb_any) R)) jv_i149 [.ref 167] rfl rfl rfl rfl (jv_cal rfl (jv_H_at hC.k167) rfl rfl) rfl (vl_any (Or.inl hC.k167)) rfl rfl Kz) ?_
                    refine jv_Wp.lift (fun _ Kz => jv_Ev.steps jv_i39 1 (pc' := 218) (l' := [(10, .int (1 : Int32)), (9, .int (0 : Int32)), (8, .int (jv_wfimmediate w)), (7, .int (vl_I (vc_F w).z)), (6, .int (jv_wfoffset w)), (5, .ref (12 + 2 + 0)), (4, .ref (12 + 2 + (vc_F w).s)), (3, .ref (12 + 2 + (vc_F w).d)), (0, .ref 10), (1, .long w)]) (st' := [.ref 10]) rfl Kz) ?_
                    refine jv_Wp.lift (fun _ Kz => jv_Ev.m jv_i39 (pc' := 221) (st' := [.ref 169]) (G' := (jv_H K I (vl_set L 167 vb_any) R)) rfl rfl (jv_m_getR hC.k rfl rfl hC.rout) Kz) ?_
                    refine jv_Wp.lift (fun _ Kz => jv_Ev.steps jv_i39 1 (pc' := 222) (l' := [(10, .int (1 : Int32)), (9, .int (0 : Int32)), (8, .int (jv_wfimmediate w)), (7, .int (vl_I (vc_F w).z)), (6, .int (jv_wfoffset w)), (5, .ref (12 + 2 + 0)), (4, .ref (12 + 2 + (vc_F w).s)), (3, .ref (12 + 2 + (vc_F w).d)), (0, .ref 10), (1, .long w)]) (st' := [.ref 10, .ref 169]) rfl Kz) ?_
                    refine jv_Wp.lift (fun _ Kz => jv_Ev.m jv_i39 (pc' := 225) (st' := [.ref 167, .ref 169]) (G' := (jv_H K I (vl_set L 167 vb_any) R)) rfl rfl (jv_m_getR hC.k rfl rfl hC.rleft) Kz) ?_
                    refine jv_Wp.lift (fun _ Kz => jv_Ev.steps jv_i39 3 (pc' := 230) (l' := [(10, .int (1 : Int32)), (9, .int (0 : Int32)), (8, .int (jv_wfimmediate w)), (7, .int (vl_I (vc_F w).z)), (6, .int (jv_wfoffset w)), (5, .ref (12 + 2 + 0)), (4, .ref (12 + 2 + (vc_F w).s)), (3, .ref (12 + 2 + (vc_F w).d)), (0, .ref 10), (1, .long w)]) (st' := [.int ((8 : Int32) * (vl_I (vc_F w).z)), .ref 167, .ref 169]) rfl Kz) ?_
                    refine jv_Wp.lift (fun _ Kz => jv_Ev.c jv_i39 (pc' := 233) (S' := []) (G1 := (jv_H K I (vl_set (vl_set L 167 vb_any) 169 (vb_tt (vb_cCut (vl_S (vl_set L 167 vb_any) 167) (8 * (vc_F w).z)))) R)) jv_i170 [.ref 169, .ref 167, .int ((8 : Int32) * (vl_I (vc_F w).z))] rfl rfl rfl rfl (jv_cal rfl (jv_H_at hC.k169) rfl rfl) rfl (by rw [vi_mul8]; exact (jv_s170 169 167 (8 * (vc_F w).z) hC.k169 (Or.inl hC.k167) (by omega) (by decide))) rfl rfl Kz) ?_
                    refine jv_Wp.lift (fun _ Kz => jv_Ev.steps jv_i39 1 (pc' := 235) (l' := [(10, .int (1 : Int32)), (9, .int (0 : Int32)), (8, .int (jv_wfimmediate w)), (7, .int (vl_I (vc_F w).z)), (6, .int (jv_wfoffset w)), (5, .ref (12 + 2 + 0)), (4, .ref (12 + 2 + (vc_F w).s)), (3, .ref (12 + 2 + (vc_F w).d)), (0, .ref 10), (1, .long w)]) (st' := [.int (0 : Int32)]) rfl Kz) ?_
                    refine jv_Wp.lift (fun _ Kz => jv_Ev.br jv_i39 (pc' := 243) (st' := []) rfl (by rfl) Kz) ?_
                    refine jv_Wp.lift (fun _ Kz => jv_Ev.steps jv_i39 2 (pc' := 246) (l' := [(10, .int (1 : Int32)), (9, .int (0 : Int32)), (8, .int (jv_wfimmediate w)), (7, .int (vl_I (vc_F w).z)), (6, .int (jv_wfoffset w)), (5, .ref (12 + 2 + 0)), (4, .ref (12 + 2 + (vc_F w).s)), (3, .ref (12 + 2 + (vc_F w).d)), (0, .ref 10), (1, .long w)]) (st' := [.ref 10, .ref (12 + 2 + (vc_F w).s)]) rfl Kz) ?_
                    refine jv_Wp.lift (fun _ Kz => jv_Ev.m jv_i39 (pc' := 249) (st' := [.ref 169, .ref (12 + 2 + (vc_F w).s)]) (G' := (jv_H K I (vl_set (vl_set L 167 vb_any) 169 (vb_tt (vb_cCut (vl_S (vl_set L 167 vb_any) 167) (8 * (vc_F w).z)))) R)) rfl rfl (jv_m_getR hC.k rfl rfl hC.rout) Kz) ?_
                    have f7 : (vx_reach M (vc_A I L 12) (vc_T I L (12 + 2 + (vc_F w).d)) (jv_wfoffset w).toInt (vc_F w).z true) = 0 := (vl_I_inj (by omega) (by decide)).mp h7
                    obtain ⟨I2, L2, H2, T2, O2, F2⟩ := vc_num (I := I) (L := (vl_set (vl_set L 167 vb_any) 169 (vb_tt (vb_cCut (vl_S (vl_set L 167 vb_any) 167) (8 * (vc_F w).z))))) (R := R) (n := n) (sl := sl) (hC.now.kk _ (vw_s75 w)) (Or.inl hC.k169)
                    refine jv_Wp.lift (fun _ Kz => jv_Ev.c jv_i39 (pc' := 252) (S' := []) (G1 := (jv_H K I2 L2 R)) jv_i142 [.ref (12 + 2 + (vc_F w).s), .ref 169] rfl rfl rfl rfl (jv_cal rfl (jv_H_at (hC.now.kk _ (vw_s75 w))) rfl rfl) rfl H2 rfl rfl Kz) ?_
                    refine jv_Wp.lift (fun _ Kz => jv_Ev.steps jv_i39 1 (pc' := 253) (l' := [(10, .int (1 : Int32)), (9, .int (0 : Int32)), (8, .int (jv_wfimmediate w)), (7, .int (vl_I (vc_F w).z)), (6, .int (jv_wfoffset w)), (5, .ref (12 + 2 + 0)), (4, .ref (12 + 2 + (vc_F w).s)), (3, .ref (12 + 2 + (vc_F w).d)), (0, .ref 10), (1, .long w)]) (st' := [.int (0 : Int32)]) rfl Kz) ?_
                    refine jv_Wp.of (jv_Ev.ret jv_i39 rfl rfl) ?_
                    rw [hQ, vx_atp_eq]
                    have eD : ((vc_A I L 12).1 (vc_F w).d) = vc_T I L (12 + 2 + (vc_F w).d) := vc_A1 hd75
                    have eS : ((vc_A I L 12).1 (vc_F w).s) = vc_T I L (12 + 2 + (vc_F w).s) := vc_A1 hs75
                    have eQ : ((vc_A I L 12).1 0) = vc_T I L (12 + 2 + 0) := vc_A1 (by decide)
                    have i241 : ¬ (vc_F w).i = 241 := fun z => h1 (Int32.toInt_inj.mp z)
                    have d0 : ¬ ((vc_A I L 12).1 (vc_F w).d).sort = 0 := fun z => h2 ((vc_is0 (oa _ hd75)).mp (eD ▸ z))
                    have s0 : ¬ ((vc_A I L 12).1 (vc_F w).s).sort = 0 := fun z => h3 ((vc_is0 (oa _ hs75)).mp (eS ▸ z))
                    have d7 : ((vc_A I L 12).1 (vc_F w).d).sort = 7 := eD ▸ (vc_is7 (oa _ hd75)).mpr h4
                    have s1 : ((vc_A I L 12).1 (vc_F w).s).sort = 1 := eS ▸ (vc_is1 (oa _ hs75)).mpr (Classical.not_not.mp h8)
                    have odd : ¬ (vc_F w).i % 2 = 0 := (not_congr (vi_odd _)).mp h9
                    have c1 : ¬ (((vc_A I L 12).1 (vc_F w).d).sort = 0 ∨ ((vc_A I L 12).1 (vc_F w).s).sort = 0 ∨ ((vc_F w).i = 241 ∧ ((vc_A I L 12).1 0).sort = 0)) := by omega
                    have c2 : ¬ ((vc_A I L 12).1 (vc_F w).d).sort ≠ 7 := by omega
                    have d7t : ((vc_A I L 12).1 (vc_F w).d).sort = 7 := by omega
                    have vv : ((vc_A I L 12).1 (vc_F w).d).val = vl_S L (12 + 2 + (vc_F w).d) := by rw [eD]; exact vc_valv (Or.inr (Or.inr ((vc_is7 (oa _ hd75)).mp (by rw [← eD]; exact d7t))))
                    have m1 : ((L (12 + 2 + (vc_F w).d) 0).toBitVec &&& BitVec.ofNat 64 ((vc_F w).z - 1) = BitVec.ofNat 64 ((vc_F w).z - 1)) := (vi_e1 z4 _).mp (Classical.not_not.mp h5)
                    have m2 : (((L (12 + 2 + (vc_F w).d) 1).toBitVec + BitVec.ofInt 64 (vc_F w).o) &&& BitVec.ofNat 64 ((vc_F w).z - 1) = 0) := (vi_e2 z4 _ _).mp (Classical.not_not.mp h6)
                    have ev : vx_even ((vc_A I L 12).1 (vc_F w).d).val (vc_F w).o (vc_F w).z = true := by
                      rw [vv]; unfold vx_even
                      show (decide ((L (12 + 2 + (vc_F w).d) 0).toBitVec &&& BitVec.ofNat 64 ((vc_F w).z - 1) = BitVec.ofNat 64 ((vc_F w).z - 1)) && decide (((L (12 + 2 + (vc_F w).d) 1).toBitVec + BitVec.ofInt 64 (vc_F w).o) &&& BitVec.ofNat 64 ((vc_F w).z - 1) = 0)) = true
                      rw [decide_eq_true m1, decide_eq_true m2]; rfl
                    have r0 : ¬ vx_reach M (vc_A I L 12) ((vc_A I L 12).1 (vc_F w).d) (vc_F w).o (vc_F w).z true ≠ 0 := by rw [eD]; exact fun z => z ((vl_I_inj (Nat.lt_trans vx_reach_lt (by decide)) (by decide)).mp h7)
                    have c3 : ¬ (vx_even ((vc_A I L 12).1 (vc_F w).d).val (vc_F w).o (vc_F w).z = false ∨ vx_reach M (vc_A I L 12) ((vc_A I L 12).1 (vc_F w).d) (vc_F w).o (vc_F w).z true ≠ 0) := fun z => z.elim (fun z => by rw [ev] at z; exact absurd z (by decide)) r0
                    have c4 : ¬ (((vc_A I L 12).1 (vc_F w).s).sort ≠ 1 ∨ ((vc_F w).i = 241 ∧ ((vc_A I L 12).1 0).sort ≠ 1)) := by omega
                    have e := vx_at5 (M := M) c1 c2 c3 c4 (by omega)
                    rw [if_neg i241] at e
                    have FF : vc_fr (fun p => p = (12 + 2 + (vc_F w).s) ∨ (166 ≤ p ∧ p ≤ 170)) I L I2 L2 := vc_fr_trans (fun p hp => ⟨fun _ => rfl, fun f => (vl_set_out (fun z => hp (Or.inr (by rw [z.1]; exact ⟨by decide, by decide⟩)))).trans (vl_set_out (fun z => hp (Or.inr (by rw [z.1]; exact ⟨by decide, by decide⟩))))⟩) (vc_fr_mono F2 (fun p z => Or.inl z))
                    have U := vc_up (t := vt_num (vx_anyz (vc_F w).z)) hs75 (T2.trans (by rw [vl_set_S, vl_set_S] <;> rfl)) O2 FF (fun n hn e q => by omega) (by omega) oa
                    exact ⟨_, _, by rw [e]; rfl, fun _ => by rw [e]; exact U, vc_fr_mono FF (fun p z => z.imp (fun z => ⟨by omega, by omega⟩) id), fun f => (FF 12 (by omega)).1 f⟩
              · refine jv_Wp.lift (fun _ Kz => jv_Ev.steps jv_i39 1 (pc' := 176) (l' := [(10, .int (1 : Int32)), (9, .int (0 : Int32)), (8, .int (jv_wfimmediate w)), (7, .int (vl_I (vc_F w).z)), (6, .int (jv_wfoffset w)), (5, .ref (12 + 2 + 0)), (4, .ref (12 + 2 + (vc_F w).s)), (3, .ref (12 + 2 + (vc_F w).d)), (0, .ref 10), (1, .long w)]) (st' := [.int (4 : Int32)]) rfl Kz) ?_
                refine jv_Wp.of (jv_Ev.ret jv_i39 rfl rfl) ?_
                rw [hQ, vx_atp_eq]
                have eD : ((vc_A I L 12).1 (vc_F w).d) = vc_T I L (12 + 2 + (vc_F w).d) := vc_A1 hd75
                have eS : ((vc_A I L 12).1 (vc_F w).s) = vc_T I L (12 + 2 + (vc_F w).s) := vc_A1 hs75
                have eQ : ((vc_A I L 12).1 0) = vc_T I L (12 + 2 + 0) := vc_A1 (by decide)
                have i241 : ¬ (vc_F w).i = 241 := fun z => h1 (Int32.toInt_inj.mp z)
                have d0 : ¬ ((vc_A I L 12).1 (vc_F w).d).sort = 0 := fun z => h2 ((vc_is0 (oa _ hd75)).mp (eD ▸ z))
                have s0 : ¬ ((vc_A I L 12).1 (vc_F w).s).sort = 0 := fun z => h3 ((vc_is0 (oa _ hs75)).mp (eS ▸ z))
                have d7 : ((vc_A I L 12).1 (vc_F w).d).sort = 7 := eD ▸ (vc_is7 (oa _ hd75)).mpr h4
                have c1 : ¬ (((vc_A I L 12).1 (vc_F w).d).sort = 0 ∨ ((vc_A I L 12).1 (vc_F w).s).sort = 0 ∨ ((vc_F w).i = 241 ∧ ((vc_A I L 12).1 0).sort = 0)) := by omega
                have c2 : ¬ ((vc_A I L 12).1 (vc_F w).d).sort ≠ 7 := by omega
                have d7t : ((vc_A I L 12).1 (vc_F w).d).sort = 7 := by omega
                have vv : ((vc_A I L 12).1 (vc_F w).d).val = vl_S L (12 + 2 + (vc_F w).d) := by rw [eD]; exact vc_valv (Or.inr (Or.inr ((vc_is7 (oa _ hd75)).mp (by rw [← eD]; exact d7t))))
                have m1 : ((L (12 + 2 + (vc_F w).d) 0).toBitVec &&& BitVec.ofNat 64 ((vc_F w).z - 1) = BitVec.ofNat 64 ((vc_F w).z - 1)) := (vi_e1 z4 _).mp (Classical.not_not.mp h5)
                have m2 : (((L (12 + 2 + (vc_F w).d) 1).toBitVec + BitVec.ofInt 64 (vc_F w).o) &&& BitVec.ofNat 64 ((vc_F w).z - 1) = 0) := (vi_e2 z4 _ _).mp (Classical.not_not.mp h6)
                have ev : vx_even ((vc_A I L 12).1 (vc_F w).d).val (vc_F w).o (vc_F w).z = true := by
                  rw [vv]; unfold vx_even
                  show (decide ((L (12 + 2 + (vc_F w).d) 0).toBitVec &&& BitVec.ofNat 64 ((vc_F w).z - 1) = BitVec.ofNat 64 ((vc_F w).z - 1)) && decide (((L (12 + 2 + (vc_F w).d) 1).toBitVec + BitVec.ofInt 64 (vc_F w).o) &&& BitVec.ofNat 64 ((vc_F w).z - 1) = 0)) = true
                  rw [decide_eq_true m1, decide_eq_true m2]; rfl
                have rn : vx_reach M (vc_A I L 12) ((vc_A I L 12).1 (vc_F w).d) (vc_F w).o (vc_F w).z true ≠ 0 := by rw [eD]; exact fun z => h7 (congrArg vl_I z)
                have e := vx_at3 (M := M) c1 c2 (Or.inr rn)
                exact ⟨_, _, by rw [e]; rfl, fun z => by rw [e] at z; exact absurd (show (4 : Nat) = 0 from z) (by decide), vc_fr_refl _ _, fun _ => rfl⟩
        · refine jv_Wp.lift (fun _ Kz => jv_Ev.steps jv_i39 1 (pc' := 111) (l' := [(9, .int (0 : Int32)), (8, .int (jv_wfimmediate w)), (7, .int (vl_I (vc_F w).z)), (6, .int (jv_wfoffset w)), (5, .ref (12 + 2 + 0)), (4, .ref (12 + 2 + (vc_F w).s)), (3, .ref (12 + 2 + (vc_F w).d)), (0, .ref 10), (1, .long w)]) (st' := [.int (3 : Int32)]) rfl Kz) ?_
          refine jv_Wp.of (jv_Ev.ret jv_i39 rfl rfl) ?_
          rw [hQ, vx_atp_eq]
          have eD : ((vc_A I L 12).1 (vc_F w).d) = vc_T I L (12 + 2 + (vc_F w).d) := vc_A1 hd75
          have eS : ((vc_A I L 12).1 (vc_F w).s) = vc_T I L (12 + 2 + (vc_F w).s) := vc_A1 hs75
          have eQ : ((vc_A I L 12).1 0) = vc_T I L (12 + 2 + 0) := vc_A1 (by decide)
          have i241 : ¬ (vc_F w).i = 241 := fun z => h1 (Int32.toInt_inj.mp z)
          have d0 : ¬ ((vc_A I L 12).1 (vc_F w).d).sort = 0 := fun z => h2 ((vc_is0 (oa _ hd75)).mp (eD ▸ z))
          have s0 : ¬ ((vc_A I L 12).1 (vc_F w).s).sort = 0 := fun z => h3 ((vc_is0 (oa _ hs75)).mp (eS ▸ z))
          have d7 : ¬ ((vc_A I L 12).1 (vc_F w).d).sort = 7 := fun z => h4 ((vc_is7 (oa _ hd75)).mp (eD ▸ z))
          have c1 : ¬ (((vc_A I L 12).1 (vc_F w).d).sort = 0 ∨ ((vc_A I L 12).1 (vc_F w).s).sort = 0 ∨ ((vc_F w).i = 241 ∧ ((vc_A I L 12).1 0).sort = 0)) := by omega
          have e := vx_at2 (M := M) c1 (by omega)
          exact ⟨_, _, by rw [e]; rfl, fun z => by rw [e] at z; exact absurd (show (3 : Nat) = 0 from z) (by decide), vc_fr_refl _ _, fun _ => rfl⟩
  · refine jv_Wp.lift (fun _ Kz => jv_Ev.steps jv_i39 4 (pc' := 72) (l' := [(9, .int (1 : Int32)), (8, .int (jv_wfimmediate w)), (7, .int (vl_I (vc_F w).z)), (6, .int (jv_wfoffset w)), (5, .ref (12 + 2 + 0)), (4, .ref (12 + 2 + (vc_F w).s)), (3, .ref (12 + 2 + (vc_F w).d)), (0, .ref 10), (1, .long w)]) (st' := [.ref (12 + 2 + (vc_F w).d)]) rfl Kz) ?_
    refine jv_Wp.lift (fun _ Kz => jv_Ev.m jv_i39 (pc' := 75) (st' := [.int (I (12 + 2 + (vc_F w).d) 6)]) (G' := (jv_H K I L R)) rfl rfl (jv_m_getI (hC.now.kk _ (vw_d75 w)) rfl rfl rfl) Kz) ?_
    refine jv_Wp.cnd jv_i39 (pt := 99) (pe := 78) (p := ((I (12 + 2 + (vc_F w).d) 6) = 0)) (q := ((I (12 + 2 + (vc_F w).d) 6) = 0)) rfl jv_bi_eq rfl rfl Iff.rfl (fun h10 => ?_) (fun h10 => ?_)
    · refine jv_Wp.lift (fun _ Kz => jv_Ev.steps jv_i39 1 (pc' := 100) (l' := [(9, .int (1 : Int32)), (8, .int (jv_wfimmediate w)), (7, .int (vl_I (vc_F w).z)), (6, .int (jv_wfoffset w)), (5, .ref (12 + 2 + 0)), (4, .ref (12 + 2 + (vc_F w).s)), (3, .ref (12 + 2 + (vc_F w).d)), (0, .ref 10), (1, .long w)]) (st' := [.int (1 : Int32)]) rfl Kz) ?_
      refine jv_Wp.of (jv_Ev.ret jv_i39 rfl rfl) ?_
      rw [hQ, vx_atp_eq]
      have eD : ((vc_A I L 12).1 (vc_F w).d) = vc_T I L (12 + 2 + (vc_F w).d) := vc_A1 hd75
      have eS : ((vc_A I L 12).1 (vc_F w).s) = vc_T I L (12 + 2 + (vc_F w).s) := vc_A1 hs75
      have eQ : ((vc_A I L 12).1 0) = vc_T I L (12 + 2 + 0) := vc_A1 (by decide)
      have i241 : (vc_F w).i = 241 := congrArg Int32.toInt (Classical.not_not.mp h1)
      have d0 : ((vc_A I L 12).1 (vc_F w).d).sort = 0 := eD ▸ (vc_is0 (oa _ hd75)).mpr h10
      have e := vx_at1 (M := M) (f := vc_F w) (A := vc_A I L 12) (by omega)
      exact ⟨_, _, by rw [e]; rfl, fun z => by rw [e] at z; exact absurd (show (1 : Nat) = 0 from z) (by decide), vc_fr_refl _ _, fun _ => rfl⟩
    · refine jv_Wp.lift (fun _ Kz => jv_Ev.steps jv_i39 1 (pc' := 80) (l' := [(9, .int (1 : Int32)), (8, .int (jv_wfimmediate w)), (7, .int (vl_I (vc_F w).z)), (6, .int (jv_wfoffset w)), (5, .ref (12 + 2 + 0)), (4, .ref (12 + 2 + (vc_F w).s)), (3, .ref (12 + 2 + (vc_F w).d)), (0, .ref 10), (1, .long w)]) (st' := [.ref (12 + 2 + (vc_F w).s)]) rfl Kz) ?_
      refine jv_Wp.lift (fun _ Kz => jv_Ev.m jv_i39 (pc' := 83) (st' := [.int (I (12 + 2 + (vc_F w).s) 6)]) (G' := (jv_H K I L R)) rfl rfl (jv_m_getI (hC.now.kk _ (vw_s75 w)) rfl rfl rfl) Kz) ?_
      refine jv_Wp.cnd jv_i39 (pt := 99) (pe := 86) (p := ((I (12 + 2 + (vc_F w).s) 6) = 0)) (q := ((I (12 + 2 + (vc_F w).s) 6) = 0)) rfl jv_bi_eq rfl rfl Iff.rfl (fun h11 => ?_) (fun h11 => ?_)
      · refine jv_Wp.lift (fun _ Kz => jv_Ev.steps jv_i39 1 (pc' := 100) (l' := [(9, .int (1 : Int32)), (8, .int (jv_wfimmediate w)), (7, .int (vl_I (vc_F w).z)), (6, .int (jv_wfoffset w)), (5, .ref (12 + 2 + 0)), (4, .ref (12 + 2 + (vc_F w).s)), (3, .ref (12 + 2 + (vc_F w).d)), (0, .ref 10), (1, .long w)]) (st' := [.int (1 : Int32)]) rfl Kz) ?_
        refine jv_Wp.of (jv_Ev.ret jv_i39 rfl rfl) ?_
        rw [hQ, vx_atp_eq]
        have eD : ((vc_A I L 12).1 (vc_F w).d) = vc_T I L (12 + 2 + (vc_F w).d) := vc_A1 hd75
        have eS : ((vc_A I L 12).1 (vc_F w).s) = vc_T I L (12 + 2 + (vc_F w).s) := vc_A1 hs75
        have eQ : ((vc_A I L 12).1 0) = vc_T I L (12 + 2 + 0) := vc_A1 (by decide)
        have i241 : (vc_F w).i = 241 := congrArg Int32.toInt (Classical.not_not.mp h1)
        have d0 : ¬ ((vc_A I L 12).1 (vc_F w).d).sort = 0 := fun z => h10 ((vc_is0 (oa _ hd75)).mp (eD ▸ z))
        have s0 : ((vc_A I L 12).1 (vc_F w).s).sort = 0 := eS ▸ (vc_is0 (oa _ hs75)).mpr h11
        have e := vx_at1 (M := M) (f := vc_F w) (A := vc_A I L 12) (by omega)
        exact ⟨_, _, by rw [e]; rfl, fun z => by rw [e] at z; exact absurd (show (1 : Nat) = 0 from z) (by decide), vc_fr_refl _ _, fun _ => rfl⟩
      · refine jv_Wp.lift (fun _ Kz => jv_Ev.steps jv_i39 1 (pc' := 88) (l' := [(9, .int (1 : Int32)), (8, .int (jv_wfimmediate w)), (7, .int (vl_I (vc_F w).z)), (6, .int (jv_wfoffset w)), (5, .ref (12 + 2 + 0)), (4, .ref (12 + 2 + (vc_F w).s)), (3, .ref (12 + 2 + (vc_F w).d)), (0, .ref 10), (1, .long w)]) (st' := [.int (1 : Int32)]) rfl Kz) ?_
        refine jv_Wp.lift (fun _ Kz => jv_Ev.br jv_i39 (pc' := 91) (st' := []) rfl (by rfl) Kz) ?_
        refine jv_Wp.lift (fun _ Kz => jv_Ev.steps jv_i39 1 (pc' := 93) (l' := [(9, .int (1 : Int32)), (8, .int (jv_wfimmediate w)), (7, .int (vl_I (vc_F w).z)), (6, .int (jv_wfoffset w)), (5, .ref (12 + 2 + 0)), (4, .ref (12 + 2 + (vc_F w).s)), (3, .ref (12 + 2 + (vc_F w).d)), (0, .ref 10), (1, .long w)]) (st' := [.ref (12 + 2 + 0)]) rfl Kz) ?_
        refine jv_Wp.lift (fun _ Kz => jv_Ev.m jv_i39 (pc' := 96) (st' := [.int (I (12 + 2 + 0) 6)]) (G' := (jv_H K I L R)) rfl rfl (jv_m_getI (hC.now.kk 0 (by decide)) rfl rfl rfl) Kz) ?_
        refine jv_Wp.cnd jv_i39 (pt := 101) (pe := 99) (p := (¬ (I (12 + 2 + 0) 6) = 0)) (q := (¬ (I (12 + 2 + 0) 6) = 0)) rfl jv_bi_ne rfl rfl Iff.rfl (fun h12 => ?_) (fun h12 => ?_)
        · refine jv_Wp.lift (fun _ Kz => jv_Ev.steps jv_i39 1 (pc' := 102) (l' := [(9, .int (1 : Int32)), (8, .int (jv_wfimmediate w)), (7, .int (vl_I (vc_F w).z)), (6, .int (jv_wfoffset w)), (5, .ref (12 + 2 + 0)), (4, .ref (12 + 2 + (vc_F w).s)), (3, .ref (12 + 2 + (vc_F w).d)), (0, .ref 10), (1, .long w)]) (st' := [.ref (12 + 2 + (vc_F w).d)]) rfl Kz) ?_
          refine jv_Wp.lift (fun _ Kz => jv_Ev.m jv_i39 (pc' := 105) (st' := [.int (I (12 + 2 + (vc_F w).d) 6)]) (G' := (jv_H K I L R)) rfl rfl (jv_m_getI (hC.now.kk _ (vw_d75 w)) rfl rfl rfl) Kz) ?_
          refine jv_Wp.lift (fun _ Kz => jv_Ev.steps jv_i39 1 (pc' := 107) (l' := [(9, .int (1 : Int32)), (8, .int (jv_wfimmediate w)), (7, .int (vl_I (vc_F w).z)), (6, .int (jv_wfoffset w)), (5, .ref (12 + 2 + 0)), (4, .ref (12 + 2 + (vc_F w).s)), (3, .ref (12 + 2 + (vc_F w).d)), (0, .ref 10), (1, .long w)]) (st' := [.int (7 : Int32), .int (I (12 + 2 + (vc_F w).d) 6)]) rfl Kz) ?_
          refine jv_Wp.cnd jv_i39 (pt := 112) (pe := 110) (p := ((I (12 + 2 + (vc_F w).d) 6) = (7 : Int32))) (q := ((I (12 + 2 + (vc_F w).d) 6) = (7 : Int32))) rfl jv_bc_eq rfl rfl Iff.rfl (fun h13 => ?_) (fun h13 => ?_)
          · refine jv_Wp.lift (fun _ Kz => jv_Ev.steps jv_i39 1 (pc' := 113) (l' := [(9, .int (1 : Int32)), (8, .int (jv_wfimmediate w)), (7, .int (vl_I (vc_F w).z)), (6, .int (jv_wfoffset w)), (5, .ref (12 + 2 + 0)), (4, .ref (12 + 2 + (vc_F w).s)), (3, .ref (12 + 2 + (vc_F w).d)), (0, .ref 10), (1, .long w)]) (st' := [.ref (12 + 2 + (vc_F w).d)]) rfl Kz) ?_
            refine jv_Wp.lift (fun _ Kz => jv_Ev.m jv_i39 (pc' := 116) (st' := [.long (L (12 + 2 + (vc_F w).d) 0)]) (G' := (jv_H K I L R)) rfl rfl (jv_m_getL (hC.now.kk _ (vw_d75 w)) rfl rfl rfl) Kz) ?_
            refine jv_Wp.lift (fun _ Kz => jv_Ev.steps jv_i39 10 (pc' := 128) (l' := [(9, .int (1 : Int32)), (8, .int (jv_wfimmediate w)), (7, .int (vl_I (vc_F w).z)), (6, .int (jv_wfoffset w)), (5, .ref (12 + 2 + 0)), (4, .ref (12 + 2 + (vc_F w).s)), (3, .ref (12 + 2 + (vc_F w).d)), (0, .ref 10), (1, .long w)]) (st' := [.int (lg_cmp ((L (12 + 2 + (vc_F w).d) 0) &&& ((vl_I (vc_F w).z) - (1 : Int32)).toInt64) ((vl_I (vc_F w).z) - (1 : Int32)).toInt64)]) rfl Kz) ?_
            refine jv_Wp.cnd jv_i39 (pt := 154) (pe := 131) (p := (¬ (lg_cmp ((L (12 + 2 + (vc_F w).d) 0) &&& ((vl_I (vc_F w).z) - (1 : Int32)).toInt64) ((vl_I (vc_F w).z) - (1 : Int32)).toInt64) = 0)) (q := (¬ ((L (12 + 2 + (vc_F w).d) 0) &&& ((vl_I (vc_F w).z) - (1 : Int32)).toInt64) = ((vl_I (vc_F w).z) - (1 : Int32)).toInt64)) rfl jv_bi_ne rfl rfl (not_congr (lg_cmp_eq ((L (12 + 2 + (vc_F w).d) 0) &&& ((vl_I (vc_F w).z) - (1 : Int32)).toInt64) ((vl_I (vc_F w).z) - (1 : Int32)).toInt64)) (fun h14 => ?_) (fun h14 => ?_)
            · refine jv_Wp.lift (fun _ Kz => jv_Ev.steps jv_i39 3 (pc' := 159) (l' := [(10, .int (0 : Int32)), (9, .int (1 : Int32)), (8, .int (jv_wfimmediate w)), (7, .int (vl_I (vc_F w).z)), (6, .int (jv_wfoffset w)), (5, .ref (12 + 2 + 0)), (4, .ref (12 + 2 + (vc_F w).s)), (3, .ref (12 + 2 + (vc_F w).d)), (0, .ref 10), (1, .long w)]) (st' := [.int (0 : Int32)]) rfl Kz) ?_
              refine jv_Wp.lift (fun _ Kz => jv_Ev.br jv_i39 (pc' := 175) (st' := []) rfl (by rfl) Kz) ?_
              refine jv_Wp.lift (fun _ Kz => jv_Ev.steps jv_i39 1 (pc' := 176) (l' := [(10, .int (0 : Int32)), (9, .int (1 : Int32)), (8, .int (jv_wfimmediate w)), (7, .int (vl_I (vc_F w).z)), (6, .int (jv_wfoffset w)), (5, .ref (12 + 2 + 0)), (4, .ref (12 + 2 + (vc_F w).s)), (3, .ref (12 + 2 + (vc_F w).d)), (0, .ref 10), (1, .long w)]) (st' := [.int (4 : Int32)]) rfl Kz) ?_
              refine jv_Wp.of (jv_Ev.ret jv_i39 rfl rfl) ?_
              rw [hQ, vx_atp_eq]
              have eD : ((vc_A I L 12).1 (vc_F w).d) = vc_T I L (12 + 2 + (vc_F w).d) := vc_A1 hd75
              have eS : ((vc_A I L 12).1 (vc_F w).s) = vc_T I L (12 + 2 + (vc_F w).s) := vc_A1 hs75
              have eQ : ((vc_A I L 12).1 0) = vc_T I L (12 + 2 + 0) := vc_A1 (by decide)
              have i241 : (vc_F w).i = 241 := congrArg Int32.toInt (Classical.not_not.mp h1)
              have d0 : ¬ ((vc_A I L 12).1 (vc_F w).d).sort = 0 := fun z => h10 ((vc_is0 (oa _ hd75)).mp (eD ▸ z))
              have s0 : ¬ ((vc_A I L 12).1 (vc_F w).s).sort = 0 := fun z => h11 ((vc_is0 (oa _ hs75)).mp (eS ▸ z))
              have q0 : ¬ ((vc_A I L 12).1 0).sort = 0 := fun z => h12 ((vc_is0 (oa _ (by decide))).mp (eQ ▸ z))
              have d7 : ((vc_A I L 12).1 (vc_F w).d).sort = 7 := eD ▸ (vc_is7 (oa _ hd75)).mpr h13
              have c1 : ¬ (((vc_A I L 12).1 (vc_F w).d).sort = 0 ∨ ((vc_A I L 12).1 (vc_F w).s).sort = 0 ∨ ((vc_F w).i = 241 ∧ ((vc_A I L 12).1 0).sort = 0)) := by omega
              have c2 : ¬ ((vc_A I L 12).1 (vc_F w).d).sort ≠ 7 := by omega
              have d7t : ((vc_A I L 12).1 (vc_F w).d).sort = 7 := by omega
              have vv : ((vc_A I L 12).1 (vc_F w).d).val = vl_S L (12 + 2 + (vc_F w).d) := by rw [eD]; exact vc_valv (Or.inr (Or.inr ((vc_is7 (oa _ hd75)).mp (by rw [← eD]; exact d7t))))
              have m1 : ¬ ((L (12 + 2 + (vc_F w).d) 0).toBitVec &&& BitVec.ofNat 64 ((vc_F w).z - 1) = BitVec.ofNat 64 ((vc_F w).z - 1)) := (not_congr (vi_e1 z4 _)).mp h14
              have ev : vx_even ((vc_A I L 12).1 (vc_F w).d).val (vc_F w).o (vc_F w).z = false := by
                rw [vv]; unfold vx_even
                show (decide ((L (12 + 2 + (vc_F w).d) 0).toBitVec &&& BitVec.ofNat 64 ((vc_F w).z - 1) = BitVec.ofNat 64 ((vc_F w).z - 1)) && decide (((L (12 + 2 + (vc_F w).d) 1).toBitVec + BitVec.ofInt 64 (vc_F w).o) &&& BitVec.ofNat 64 ((vc_F w).z - 1) = 0)) = false
                rw [decide_eq_false m1, Bool.false_and]
              have e := vx_at3 (M := M) c1 c2 (Or.inl ev)
              exact ⟨_, _, by rw [e]; rfl, fun z => by rw [e] at z; exact absurd (show (4 : Nat) = 0 from z) (by decide), vc_fr_refl _ _, fun _ => rfl⟩
            · refine jv_Wp.lift (fun _ Kz => jv_Ev.steps jv_i39 1 (pc' := 132) (l' := [(9, .int (1 : Int32)), (8, .int (jv_wfimmediate w)), (7, .int (vl_I (vc_F w).z)), (6, .int (jv_wfoffset w)), (5, .ref (12 + 2 + 0)), (4, .ref (12 + 2 + (vc_F w).s)), (3, .ref (12 + 2 + (vc_F w).d)), (0, .ref 10), (1, .long w)]) (st' := [.ref (12 + 2 + (vc_F w).d)]) rfl Kz) ?_
              refine jv_Wp.lift (fun _ Kz => jv_Ev.m jv_i39 (pc' := 135) (st' := [.long (L (12 + 2 + (vc_F w).d) 1)]) (G' := (jv_H K I L R)) rfl rfl (jv_m_getL (hC.now.kk _ (vw_d75 w)) rfl rfl rfl) Kz) ?_
              refine jv_Wp.lift (fun _ Kz => jv_Ev.steps jv_i39 10 (pc' := 147) (l' := [(9, .int (1 : Int32)), (8, .int (jv_wfimmediate w)), (7, .int (vl_I (vc_F w).z)), (6, .int (jv_wfoffset w)), (5, .ref (12 + 2 + 0)), (4, .ref (12 + 2 + (vc_F w).s)), (3, .ref (12 + 2 + (vc_F w).d)), (0, .ref 10), (1, .long w)]) (st' := [.int (lg_cmp (((L (12 + 2 + (vc_F w).d) 1) + (jv_wfoffset w).toInt64) &&& ((vl_I (vc_F w).z) - (1 : Int32)).toInt64) (0 : Int64))]) rfl Kz) ?_
              refine jv_Wp.cnd jv_i39 (pt := 154) (pe := 150) (p := (¬ (lg_cmp (((L (12 + 2 + (vc_F w).d) 1) + (jv_wfoffset w).toInt64) &&& ((vl_I (vc_F w).z) - (1 : Int32)).toInt64) (0 : Int64)) = 0)) (q := (¬ (((L (12 + 2 + (vc_F w).d) 1) + (jv_wfoffset w).toInt64) &&& ((vl_I (vc_F w).z) - (1 : Int32)).toInt64) = (0 : Int64))) rfl jv_bi_ne rfl rfl (not_congr (lg_cmp_eq (((L (12 + 2 + (vc_F w).d) 1) + (jv_wfoffset w).toInt64) &&& ((vl_I (vc_F w).z) - (1 : Int32)).toInt64) (0 : Int64))) (fun h15 => ?_) (fun h15 => ?_)
              · refine jv_Wp.lift (fun _ Kz => jv_Ev.steps jv_i39 3 (pc' := 159) (l' := [(10, .int (0 : Int32)), (9, .int (1 : Int32)), (8, .int (jv_wfimmediate w)), (7, .int (vl_I (vc_F w).z)), (6, .int (jv_wfoffset w)), (5, .ref (12 + 2 + 0)), (4, .ref (12 + 2 + (vc_F w).s)), (3, .ref (12 + 2 + (vc_F w).d)), (0, .ref 10), (1, .long w)]) (st' := [.int (0 : Int32)]) rfl Kz) ?_
                refine jv_Wp.lift (fun _ Kz => jv_Ev.br jv_i39 (pc' := 175) (st' := []) rfl (by rfl) Kz) ?_
                refine jv_Wp.lift (fun _ Kz => jv_Ev.steps jv_i39 1 (pc' := 176) (l' := [(10, .int (0 : Int32)), (9, .int (1 : Int32)), (8, .int (jv_wfimmediate w)), (7, .int (vl_I (vc_F w).z)), (6, .int (jv_wfoffset w)), (5, .ref (12 + 2 + 0)), (4, .ref (12 + 2 + (vc_F w).s)), (3, .ref (12 + 2 + (vc_F w).d)), (0, .ref 10), (1, .long w)]) (st' := [.int (4 : Int32)]) rfl Kz) ?_
                refine jv_Wp.of (jv_Ev.ret jv_i39 rfl rfl) ?_
                rw [hQ, vx_atp_eq]
                have eD : ((vc_A I L 12).1 (vc_F w).d) = vc_T I L (12 + 2 + (vc_F w).d) := vc_A1 hd75
                have eS : ((vc_A I L 12).1 (vc_F w).s) = vc_T I L (12 + 2 + (vc_F w).s) := vc_A1 hs75
                have eQ : ((vc_A I L 12).1 0) = vc_T I L (12 + 2 + 0) := vc_A1 (by decide)
                have i241 : (vc_F w).i = 241 := congrArg Int32.toInt (Classical.not_not.mp h1)
                have d0 : ¬ ((vc_A I L 12).1 (vc_F w).d).sort = 0 := fun z => h10 ((vc_is0 (oa _ hd75)).mp (eD ▸ z))
                have s0 : ¬ ((vc_A I L 12).1 (vc_F w).s).sort = 0 := fun z => h11 ((vc_is0 (oa _ hs75)).mp (eS ▸ z))
                have q0 : ¬ ((vc_A I L 12).1 0).sort = 0 := fun z => h12 ((vc_is0 (oa _ (by decide))).mp (eQ ▸ z))
                have d7 : ((vc_A I L 12).1 (vc_F w).d).sort = 7 := eD ▸ (vc_is7 (oa _ hd75)).mpr h13
                have c1 : ¬ (((vc_A I L 12).1 (vc_F w).d).sort = 0 ∨ ((vc_A I L 12).1 (vc_F w).s).sort = 0 ∨ ((vc_F w).i = 241 ∧ ((vc_A I L 12).1 0).sort = 0)) := by omega
                have c2 : ¬ ((vc_A I L 12).1 (vc_F w).d).sort ≠ 7 := by omega
                have d7t : ((vc_A I L 12).1 (vc_F w).d).sort = 7 := by omega
                have vv : ((vc_A I L 12).1 (vc_F w).d).val = vl_S L (12 + 2 + (vc_F w).d) := by rw [eD]; exact vc_valv (Or.inr (Or.inr ((vc_is7 (oa _ hd75)).mp (by rw [← eD]; exact d7t))))
                have m1 : ((L (12 + 2 + (vc_F w).d) 0).toBitVec &&& BitVec.ofNat 64 ((vc_F w).z - 1) = BitVec.ofNat 64 ((vc_F w).z - 1)) := (vi_e1 z4 _).mp (Classical.not_not.mp h14)
                have m2 : ¬ (((L (12 + 2 + (vc_F w).d) 1).toBitVec + BitVec.ofInt 64 (vc_F w).o) &&& BitVec.ofNat 64 ((vc_F w).z - 1) = 0) := (not_congr (vi_e2 z4 _ _)).mp h15
                have ev : vx_even ((vc_A I L 12).1 (vc_F w).d).val (vc_F w).o (vc_F w).z = false := by
                  rw [vv]; unfold vx_even
                  show (decide ((L (12 + 2 + (vc_F w).d) 0).toBitVec &&& BitVec.ofNat 64 ((vc_F w).z - 1) = BitVec.ofNat 64 ((vc_F w).z - 1)) && decide (((L (12 + 2 + (vc_F w).d) 1).toBitVec + BitVec.ofInt 64 (vc_F w).o) &&& BitVec.ofNat 64 ((vc_F w).z - 1) = 0)) = false
                  rw [decide_eq_false m2, Bool.and_false]
                have e := vx_at3 (M := M) c1 c2 (Or.inl ev)
                exact ⟨_, _, by rw [e]; rfl, fun z => by rw [e] at z; exact absurd (show (4 : Nat) = 0 from z) (by decide), vc_fr_refl _ _, fun _ => rfl⟩
              · refine jv_Wp.lift (fun _ Kz => jv_Ev.steps jv_i39 4 (pc' := 159) (l' := [(10, .int (1 : Int32)), (9, .int (1 : Int32)), (8, .int (jv_wfimmediate w)), (7, .int (vl_I (vc_F w).z)), (6, .int (jv_wfoffset w)), (5, .ref (12 + 2 + 0)), (4, .ref (12 + 2 + (vc_F w).s)), (3, .ref (12 + 2 + (vc_F w).d)), (0, .ref 10), (1, .long w)]) (st' := [.int (1 : Int32)]) rfl Kz) ?_
                refine jv_Wp.lift (fun _ Kz => jv_Ev.br jv_i39 (pc' := 162) (st' := []) rfl (by rfl) Kz) ?_
                refine jv_Wp.lift (fun _ Kz => jv_Ev.steps jv_i39 5 (pc' := 169) (l' := [(10, .int (1 : Int32)), (9, .int (1 : Int32)), (8, .int (jv_wfimmediate w)), (7, .int (vl_I (vc_F w).z)), (6, .int (jv_wfoffset w)), (5, .ref (12 + 2 + 0)), (4, .ref (12 + 2 + (vc_F w).s)), (3, .ref (12 + 2 + (vc_F w).d)), (0, .ref 10), (1, .long w)]) (st' := [.int (1 : Int32), .int (vl_I (vc_F w).z), .int (jv_wfoffset w), .ref (12 + 2 + (vc_F w).d), .ref 10]) rfl Kz) ?_
                obtain ⟨I3, L3, H3, ei3, el3⟩ := vc_reach (I := I) (L := L) (R := R) (n := n) (sl := sl) (M := M) (t := (12 + 2 + (vc_F w).d)) (jv_wfoffset w) (vc_F w).z true hC hM (hC.now.kk _ (vw_d75 w)) (oa _ hd75) (vw_z w) (vw_off w) (gA _ hd75).1 hkn (vc_lg (oa _ hd75) (tA _ hd75)) (gA _ hd75).2
                rw [ei3, el3] at H3
                refine jv_Wp.lift (fun _ Kz => jv_Ev.c jv_i39 (pc' := 172) (S' := [.int (vl_I (vx_reach M (vc_A I L 12) (vc_T I L (12 + 2 + (vc_F w).d)) (jv_wfoffset w).toInt (vc_F w).z true))]) jv_i33 [.ref 10, .ref (12 + 2 + (vc_F w).d), .int (jv_wfoffset w), .int (vl_I (vc_F w).z), .int (1 : Int32)] rfl rfl rfl rfl (jv_cal rfl (jv_H_at hC.k) rfl rfl) rfl H3 rfl rfl Kz) ?_
                refine jv_Wp.cnd jv_i39 (pt := 177) (pe := 175) (p := ((vl_I (vx_reach M (vc_A I L 12) (vc_T I L (12 + 2 + (vc_F w).d)) (jv_wfoffset w).toInt (vc_F w).z true)) = 0)) (q := ((vl_I (vx_reach M (vc_A I L 12) (vc_T I L (12 + 2 + (vc_F w).d)) (jv_wfoffset w).toInt (vc_F w).z true)) = 0)) rfl jv_bi_eq rfl rfl Iff.rfl (fun h16 => ?_) (fun h16 => ?_)
                · refine jv_Wp.lift (fun _ Kz => jv_Ev.steps jv_i39 1 (pc' := 179) (l' := [(10, .int (1 : Int32)), (9, .int (1 : Int32)), (8, .int (jv_wfimmediate w)), (7, .int (vl_I (vc_F w).z)), (6, .int (jv_wfoffset w)), (5, .ref (12 + 2 + 0)), (4, .ref (12 + 2 + (vc_F w).s)), (3, .ref (12 + 2 + (vc_F w).d)), (0, .ref 10), (1, .long w)]) (st' := [.ref (12 + 2 + (vc_F w).s)]) rfl Kz) ?_
                  refine jv_Wp.lift (fun _ Kz => jv_Ev.m jv_i39 (pc' := 182) (st' := [.int (I (12 + 2 + (vc_F w).s) 6)]) (G' := (jv_H K I L R)) rfl rfl (jv_m_getI (hC.now.kk _ (vw_s75 w)) rfl rfl rfl) Kz) ?_
                  refine jv_Wp.lift (fun _ Kz => jv_Ev.steps jv_i39 1 (pc' := 183) (l' := [(10, .int (1 : Int32)), (9, .int (1 : Int32)), (8, .int (jv_wfimmediate w)), (7, .int (vl_I (vc_F w).z)), (6, .int (jv_wfoffset w)), (5, .ref (12 + 2 + 0)), (4, .ref (12 + 2 + (vc_F w).s)), (3, .ref (12 + 2 + (vc_F w).d)), (0, .ref 10), (1, .long w)]) (st' := [.int (1 : Int32), .int (I (12 + 2 + (vc_F w).s) 6)]) rfl Kz) ?_
                  refine jv_Wp.cnd jv_i39 (pt := 200) (pe := 186) (p := (¬ (I (12 + 2 + (vc_F w).s) 6) = (1 : Int32))) (q := (¬ (I (12 + 2 + (vc_F w).s) 6) = (1 : Int32))) rfl jv_bc_ne rfl rfl Iff.rfl (fun h17 => ?_) (fun h17 => ?_)
                  · refine jv_Wp.lift (fun _ Kz => jv_Ev.steps jv_i39 1 (pc' := 202) (l' := [(10, .int (1 : Int32)), (9, .int (1 : Int32)), (8, .int (jv_wfimmediate w)), (7, .int (vl_I (vc_F w).z)), (6, .int (jv_wfoffset w)), (5, .ref (12 + 2 + 0)), (4, .ref (12 + 2 + (vc_F w).s)), (3, .ref (12 + 2 + (vc_F w).d)), (0, .ref 10), (1, .long w)]) (st' := [.int (6 : Int32)]) rfl Kz) ?_
                    refine jv_Wp.of (jv_Ev.ret jv_i39 rfl rfl) ?_
                    rw [hQ, vx_atp_eq]
                    have eD : ((vc_A I L 12).1 (vc_F w).d) = vc_T I L (12 + 2 + (vc_F w).d) := vc_A1 hd75
                    have eS : ((vc_A I L 12).1 (vc_F w).s) = vc_T I L (12 + 2 + (vc_F w).s) := vc_A1 hs75
                    have eQ : ((vc_A I L 12).1 0) = vc_T I L (12 + 2 + 0) := vc_A1 (by decide)
                    have i241 : (vc_F w).i = 241 := congrArg Int32.toInt (Classical.not_not.mp h1)
                    have d0 : ¬ ((vc_A I L 12).1 (vc_F w).d).sort = 0 := fun z => h10 ((vc_is0 (oa _ hd75)).mp (eD ▸ z))
                    have s0 : ¬ ((vc_A I L 12).1 (vc_F w).s).sort = 0 := fun z => h11 ((vc_is0 (oa _ hs75)).mp (eS ▸ z))
                    have q0 : ¬ ((vc_A I L 12).1 0).sort = 0 := fun z => h12 ((vc_is0 (oa _ (by decide))).mp (eQ ▸ z))
                    have d7 : ((vc_A I L 12).1 (vc_F w).d).sort = 7 := eD ▸ (vc_is7 (oa _ hd75)).mpr h13
                    have s1 : ¬ ((vc_A I L 12).1 (vc_F w).s).sort = 1 := fun z => h17 ((vc_is1 (oa _ hs75)).mp (eS ▸ z))
                    have c1 : ¬ (((vc_A I L 12).1 (vc_F w).d).sort = 0 ∨ ((vc_A I L 12).1 (vc_F w).s).sort = 0 ∨ ((vc_F w).i = 241 ∧ ((vc_A I L 12).1 0).sort = 0)) := by omega
                    have c2 : ¬ ((vc_A I L 12).1 (vc_F w).d).sort ≠ 7 := by omega
                    have d7t : ((vc_A I L 12).1 (vc_F w).d).sort = 7 := by omega
                    have vv : ((vc_A I L 12).1 (vc_F w).d).val = vl_S L (12 + 2 + (vc_F w).d) := by rw [eD]; exact vc_valv (Or.inr (Or.inr ((vc_is7 (oa _ hd75)).mp (by rw [← eD]; exact d7t))))
                    have m1 : ((L (12 + 2 + (vc_F w).d) 0).toBitVec &&& BitVec.ofNat 64 ((vc_F w).z - 1) = BitVec.ofNat 64 ((vc_F w).z - 1)) := (vi_e1 z4 _).mp (Classical.not_not.mp h14)
                    have m2 : (((L (12 + 2 + (vc_F w).d) 1).toBitVec + BitVec.ofInt 64 (vc_F w).o) &&& BitVec.ofNat 64 ((vc_F w).z - 1) = 0) := (vi_e2 z4 _ _).mp (Classical.not_not.mp h15)
                    have ev : vx_even ((vc_A I L 12).1 (vc_F w).d).val (vc_F w).o (vc_F w).z = true := by
                      rw [vv]; unfold vx_even
                      show (decide ((L (12 + 2 + (vc_F w).d) 0).toBitVec &&& BitVec.ofNat 64 ((vc_F w).z - 1) = BitVec.ofNat 64 ((vc_F w).z - 1)) && decide (((L (12 + 2 + (vc_F w).d) 1).toBitVec + BitVec.ofInt 64 (vc_F w).o) &&& BitVec.ofNat 64 ((vc_F w).z - 1) = 0)) = true
                      rw [decide_eq_true m1, decide_eq_true m2]; rfl
                    have r0 : ¬ vx_reach M (vc_A I L 12) ((vc_A I L 12).1 (vc_F w).d) (vc_F w).o (vc_F w).z true ≠ 0 := by rw [eD]; exact fun z => z ((vl_I_inj (Nat.lt_trans vx_reach_lt (by decide)) (by decide)).mp h16)
                    have c3 : ¬ (vx_even ((vc_A I L 12).1 (vc_F w).d).val (vc_F w).o (vc_F w).z = false ∨ vx_reach M (vc_A I L 12) ((vc_A I L 12).1 (vc_F w).d) (vc_F w).o (vc_F w).z true ≠ 0) := fun z => z.elim (fun z => by rw [ev] at z; exact absurd z (by decide)) r0
                    have e := vx_at4 (M := M) c1 c2 c3 (by omega)
                    exact ⟨_, _, by rw [e]; rfl, fun z => by rw [e] at z; exact absurd (show (6 : Nat) = 0 from z) (by decide), vc_fr_refl _ _, fun _ => rfl⟩
                  · refine jv_Wp.lift (fun _ Kz => jv_Ev.steps jv_i39 1 (pc' := 188) (l' := [(10, .int (1 : Int32)), (9, .int (1 : Int32)), (8, .int (jv_wfimmediate w)), (7, .int (vl_I (vc_F w).z)), (6, .int (jv_wfoffset w)), (5, .ref (12 + 2 + 0)), (4, .ref (12 + 2 + (vc_F w).s)), (3, .ref (12 + 2 + (vc_F w).d)), (0, .ref 10), (1, .long w)]) (st' := [.int (1 : Int32)]) rfl Kz) ?_
                    refine jv_Wp.lift (fun _ Kz => jv_Ev.br jv_i39 (pc' := 191) (st' := []) rfl (by rfl) Kz) ?_
                    refine jv_Wp.lift (fun _ Kz => jv_Ev.steps jv_i39 1 (pc' := 193) (l' := [(10, .int (1 : Int32)), (9, .int (1 : Int32)), (8, .int (jv_wfimmediate w)), (7, .int (vl_I (vc_F w).z)), (6, .int (jv_wfoffset w)), (5, .ref (12 + 2 + 0)), (4, .ref (12 + 2 + (vc_F w).s)), (3, .ref (12 + 2 + (vc_F w).d)), (0, .ref 10), (1, .long w)]) (st' := [.ref (12 + 2 + 0)]) rfl Kz) ?_
                    refine jv_Wp.lift (fun _ Kz => jv_Ev.m jv_i39 (pc' := 196) (st' := [.int (I (12 + 2 + 0) 6)]) (G' := (jv_H K I L R)) rfl rfl (jv_m_getI (hC.now.kk 0 (by decide)) rfl rfl rfl) Kz) ?_
                    refine jv_Wp.lift (fun _ Kz => jv_Ev.steps jv_i39 1 (pc' := 197) (l' := [(10, .int (1 : Int32)), (9, .int (1 : Int32)), (8, .int (jv_wfimmediate w)), (7, .int (vl_I (vc_F w).z)), (6, .int (jv_wfoffset w)), (5, .ref (12 + 2 + 0)), (4, .ref (12 + 2 + (vc_F w).s)), (3, .ref (12 + 2 + (vc_F w).d)), (0, .ref 10), (1, .long w)]) (st' := [.int (1 : Int32), .int (I (12 + 2 + 0) 6)]) rfl Kz) ?_
                    refine jv_Wp.cnd jv_i39 (pt := 203) (pe := 200) (p := ((I (12 + 2 + 0) 6) = (1 : Int32))) (q := ((I (12 + 2 + 0) 6) = (1 : Int32))) rfl jv_bc_eq rfl rfl Iff.rfl (fun h18 => ?_) (fun h18 => ?_)
                    · refine jv_Wp.lift (fun _ Kz => jv_Ev.steps jv_i39 3 (pc' := 207) (l' := [(10, .int (1 : Int32)), (9, .int (1 : Int32)), (8, .int (jv_wfimmediate w)), (7, .int (vl_I (vc_F w).z)), (6, .int (jv_wfoffset w)), (5, .ref (12 + 2 + 0)), (4, .ref (12 + 2 + (vc_F w).s)), (3, .ref (12 + 2 + (vc_F w).d)), (0, .ref 10), (1, .long w)]) (st' := [.int ((jv_wfimmediate w) &&& (1 : Int32))]) rfl Kz) ?_
                      refine jv_Wp.cnd jv_i39 (pt := 252) (pe := 210) (p := (((jv_wfimmediate w) &&& (1 : Int32)) = 0)) (q := (((jv_wfimmediate w) &&& (1 : Int32)) = 0)) rfl jv_bi_eq rfl rfl Iff.rfl (fun h19 => ?_) (fun h19 => ?_)
                      · refine jv_Wp.lift (fun _ Kz => jv_Ev.steps jv_i39 1 (pc' := 253) (l' := [(10, .int (1 : Int32)), (9, .int (1 : Int32)), (8, .int (jv_wfimmediate w)), (7, .int (vl_I (vc_F w).z)), (6, .int (jv_wfoffset w)), (5, .ref (12 + 2 + 0)), (4, .ref (12 + 2 + (vc_F w).s)), (3, .ref (12 + 2 + (vc_F w).d)), (0, .ref 10), (1, .long w)]) (st' := [.int (0 : Int32)]) rfl Kz) ?_
                        refine jv_Wp.of (jv_Ev.ret jv_i39 rfl rfl) ?_
                        rw [hQ, vx_atp_eq]
                        have eD : ((vc_A I L 12).1 (vc_F w).d) = vc_T I L (12 + 2 + (vc_F w).d) := vc_A1 hd75
                        have eS : ((vc_A I L 12).1 (vc_F w).s) = vc_T I L (12 + 2 + (vc_F w).s) := vc_A1 hs75
                        have eQ : ((vc_A I L 12).1 0) = vc_T I L (12 + 2 + 0) := vc_A1 (by decide)
                        have i241 : (vc_F w).i = 241 := congrArg Int32.toInt (Classical.not_not.mp h1)
                        have d0 : ¬ ((vc_A I L 12).1 (vc_F w).d).sort = 0 := fun z => h10 ((vc_is0 (oa _ hd75)).mp (eD ▸ z))
                        have s0 : ¬ ((vc_A I L 12).1 (vc_F w).s).sort = 0 := fun z => h11 ((vc_is0 (oa _ hs75)).mp (eS ▸ z))
                        have q0 : ¬ ((vc_A I L 12).1 0).sort = 0 := fun z => h12 ((vc_is0 (oa _ (by decide))).mp (eQ ▸ z))
                        have d7 : ((vc_A I L 12).1 (vc_F w).d).sort = 7 := eD ▸ (vc_is7 (oa _ hd75)).mpr h13
                        have s1 : ((vc_A I L 12).1 (vc_F w).s).sort = 1 := eS ▸ (vc_is1 (oa _ hs75)).mpr (Classical.not_not.mp h17)
                        have q1 : ((vc_A I L 12).1 0).sort = 1 := eQ ▸ (vc_is1 (oa _ (by decide))).mpr h18
                        have odd : (vc_F w).i % 2 = 0 := (vi_odd _).mp h19
                        have c1 : ¬ (((vc_A I L 12).1 (vc_F w).d).sort = 0 ∨ ((vc_A I L 12).1 (vc_F w).s).sort = 0 ∨ ((vc_F w).i = 241 ∧ ((vc_A I L 12).1 0).sort = 0)) := by omega
                        have c2 : ¬ ((vc_A I L 12).1 (vc_F w).d).sort ≠ 7 := by omega
                        have d7t : ((vc_A I L 12).1 (vc_F w).d).sort = 7 := by omega
                        have vv : ((vc_A I L 12).1 (vc_F w).d).val = vl_S L (12 + 2 + (vc_F w).d) := by rw [eD]; exact vc_valv (Or.inr (Or.inr ((vc_is7 (oa _ hd75)).mp (by rw [← eD]; exact d7t))))
                        have m1 : ((L (12 + 2 + (vc_F w).d) 0).toBitVec &&& BitVec.ofNat 64 ((vc_F w).z - 1) = BitVec.ofNat 64 ((vc_F w).z - 1)) := (vi_e1 z4 _).mp (Classical.not_not.mp h14)
                        have m2 : (((L (12 + 2 + (vc_F w).d) 1).toBitVec + BitVec.ofInt 64 (vc_F w).o) &&& BitVec.ofNat 64 ((vc_F w).z - 1) = 0) := (vi_e2 z4 _ _).mp (Classical.not_not.mp h15)
                        have ev : vx_even ((vc_A I L 12).1 (vc_F w).d).val (vc_F w).o (vc_F w).z = true := by
                          rw [vv]; unfold vx_even
                          show (decide ((L (12 + 2 + (vc_F w).d) 0).toBitVec &&& BitVec.ofNat 64 ((vc_F w).z - 1) = BitVec.ofNat 64 ((vc_F w).z - 1)) && decide (((L (12 + 2 + (vc_F w).d) 1).toBitVec + BitVec.ofInt 64 (vc_F w).o) &&& BitVec.ofNat 64 ((vc_F w).z - 1) = 0)) = true
                          rw [decide_eq_true m1, decide_eq_true m2]; rfl
                        have r0 : ¬ vx_reach M (vc_A I L 12) ((vc_A I L 12).1 (vc_F w).d) (vc_F w).o (vc_F w).z true ≠ 0 := by rw [eD]; exact fun z => z ((vl_I_inj (Nat.lt_trans vx_reach_lt (by decide)) (by decide)).mp h16)
                        have c3 : ¬ (vx_even ((vc_A I L 12).1 (vc_F w).d).val (vc_F w).o (vc_F w).z = false ∨ vx_reach M (vc_A I L 12) ((vc_A I L 12).1 (vc_F w).d) (vc_F w).o (vc_F w).z true ≠ 0) := fun z => z.elim (fun z => by rw [ev] at z; exact absurd z (by decide)) r0
                        have c4 : ¬ (((vc_A I L 12).1 (vc_F w).s).sort ≠ 1 ∨ ((vc_F w).i = 241 ∧ ((vc_A I L 12).1 0).sort ≠ 1)) := by omega
                        have e := vx_at6 (M := M) c1 c2 c3 c4 (by omega)
                        exact ⟨_, _, by rw [e]; rfl, fun _ => by rw [e]; exact ⟨rfl, oa⟩, vc_fr_refl _ _, fun _ => rfl⟩
                      · refine jv_Wp.lift (fun _ Kz => jv_Ev.steps jv_i39 1 (pc' := 211) (l' := [(10, .int (1 : Int32)), (9, .int (1 : Int32)), (8, .int (jv_wfimmediate w)), (7, .int (vl_I (vc_F w).z)), (6, .int (jv_wfoffset w)), (5, .ref (12 + 2 + 0)), (4, .ref (12 + 2 + (vc_F w).s)), (3, .ref (12 + 2 + (vc_F w).d)), (0, .ref 10), (1, .long w)]) (st' := [.ref 10]) rfl Kz) ?_
                        refine jv_Wp.lift (fun _ Kz => jv_Ev.m jv_i39 (pc' := 214) (st' := [.ref 167]) (G' := (jv_H K I L R)) rfl rfl (jv_m_getR hC.k rfl rfl hC.rleft) Kz) ?_
                        refine jv_Wp.lift (fun _ Kz => jv_Ev.c jv_i39 (pc' := 217) (S' := []) (G1 := (jv_H K I (vl_set L 167 vb_any) R)) jv_i149 [.ref 167] rfl rfl rfl rfl (jv_cal rfl (jv_H_at hC.k167) rfl rfl) rfl (vl_any (Or.inl hC.k167)) rfl rfl Kz) ?_
                        refine jv_Wp.lift (fun _ Kz => jv_Ev.steps jv_i39 1 (pc' := 218) (l' := [(10, .int (1 : Int32)), (9, .int (1 : Int32)), (8, .int (jv_wfimmediate w)), (7, .int (vl_I (vc_F w).z)), (6, .int (jv_wfoffset w)), (5, .ref (12 + 2 + 0)), (4, .ref (12 + 2 + (vc_F w).s)), (3, .ref (12 + 2 + (vc_F w).d)), (0, .ref 10), (1, .long w)]) (st' := [.ref 10]) rfl Kz) ?_
                        refine jv_Wp.lift (fun _ Kz => jv_Ev.m jv_i39 (pc' := 221) (st' := [.ref 169]) (G' := (jv_H K I (vl_set L 167 vb_any) R)) rfl rfl (jv_m_getR hC.k rfl rfl hC.rout) Kz) ?_
                        refine jv_Wp.lift (fun _ Kz => jv_Ev.steps jv_i39 1 (pc' := 222) (l' := [(10, .int (1 : Int32)), (9, .int (1 : Int32)), (8, .int (jv_wfimmediate w)), (7, .int (vl_I (vc_F w).z)), (6, .int (jv_wfoffset w)), (5, .ref (12 + 2 + 0)), (4, .ref (12 + 2 + (vc_F w).s)), (3, .ref (12 + 2 + (vc_F w).d)), (0, .ref 10), (1, .long w)]) (st' := [.ref 10, .ref 169]) rfl Kz) ?_
                        refine jv_Wp.lift (fun _ Kz => jv_Ev.m jv_i39 (pc' := 225) (st' := [.ref 167, .ref 169]) (G' := (jv_H K I (vl_set L 167 vb_any) R)) rfl rfl (jv_m_getR hC.k rfl rfl hC.rleft) Kz) ?_
                        refine jv_Wp.lift (fun _ Kz => jv_Ev.steps jv_i39 3 (pc' := 230) (l' := [(10, .int (1 : Int32)), (9, .int (1 : Int32)), (8, .int (jv_wfimmediate w)), (7, .int (vl_I (vc_F w).z)), (6, .int (jv_wfoffset w)), (5, .ref (12 + 2 + 0)), (4, .ref (12 + 2 + (vc_F w).s)), (3, .ref (12 + 2 + (vc_F w).d)), (0, .ref 10), (1, .long w)]) (st' := [.int ((8 : Int32) * (vl_I (vc_F w).z)), .ref 167, .ref 169]) rfl Kz) ?_
                        refine jv_Wp.lift (fun _ Kz => jv_Ev.c jv_i39 (pc' := 233) (S' := []) (G1 := (jv_H K I (vl_set (vl_set L 167 vb_any) 169 (vb_tt (vb_cCut (vl_S (vl_set L 167 vb_any) 167) (8 * (vc_F w).z)))) R)) jv_i170 [.ref 169, .ref 167, .int ((8 : Int32) * (vl_I (vc_F w).z))] rfl rfl rfl rfl (jv_cal rfl (jv_H_at hC.k169) rfl rfl) rfl (by rw [vi_mul8]; exact (jv_s170 169 167 (8 * (vc_F w).z) hC.k169 (Or.inl hC.k167) (by omega) (by decide))) rfl rfl Kz) ?_
                        refine jv_Wp.lift (fun _ Kz => jv_Ev.steps jv_i39 1 (pc' := 235) (l' := [(10, .int (1 : Int32)), (9, .int (1 : Int32)), (8, .int (jv_wfimmediate w)), (7, .int (vl_I (vc_F w).z)), (6, .int (jv_wfoffset w)), (5, .ref (12 + 2 + 0)), (4, .ref (12 + 2 + (vc_F w).s)), (3, .ref (12 + 2 + (vc_F w).d)), (0, .ref 10), (1, .long w)]) (st' := [.int (1 : Int32)]) rfl Kz) ?_
                        refine jv_Wp.lift (fun _ Kz => jv_Ev.br jv_i39 (pc' := 238) (st' := []) rfl (by rfl) Kz) ?_
                        refine jv_Wp.lift (fun _ Kz => jv_Ev.steps jv_i39 3 (pc' := 246) (l' := [(10, .int (1 : Int32)), (9, .int (1 : Int32)), (8, .int (jv_wfimmediate w)), (7, .int (vl_I (vc_F w).z)), (6, .int (jv_wfoffset w)), (5, .ref (12 + 2 + 0)), (4, .ref (12 + 2 + (vc_F w).s)), (3, .ref (12 + 2 + (vc_F w).d)), (0, .ref 10), (1, .long w)]) (st' := [.ref 10, .ref (12 + 2 + 0)]) rfl Kz) ?_
                        refine jv_Wp.lift (fun _ Kz => jv_Ev.m jv_i39 (pc' := 249) (st' := [.ref 169, .ref (12 + 2 + 0)]) (G' := (jv_H K I (vl_set (vl_set L 167 vb_any) 169 (vb_tt (vb_cCut (vl_S (vl_set L 167 vb_any) 167) (8 * (vc_F w).z)))) R)) rfl rfl (jv_m_getR hC.k rfl rfl hC.rout) Kz) ?_
                        have f8 : (vx_reach M (vc_A I L 12) (vc_T I L (12 + 2 + (vc_F w).d)) (jv_wfoffset w).toInt (vc_F w).z true) = 0 := (vl_I_inj (by omega) (by decide)).mp h16
                        obtain ⟨I4, L4, H4, T4, O4, F4⟩ := vc_num (I := I) (L := (vl_set (vl_set L 167 vb_any) 169 (vb_tt (vb_cCut (vl_S (vl_set L 167 vb_any) 167) (8 * (vc_F w).z))))) (R := R) (n := n) (sl := sl) (hC.now.kk 0 (by decide)) (Or.inl hC.k169)
                        refine jv_Wp.lift (fun _ Kz => jv_Ev.c jv_i39 (pc' := 252) (S' := []) (G1 := (jv_H K I4 L4 R)) jv_i142 [.ref (12 + 2 + 0), .ref 169] rfl rfl rfl rfl (jv_cal rfl (jv_H_at (hC.now.kk 0 (by decide))) rfl rfl) rfl H4 rfl rfl Kz) ?_
                        refine jv_Wp.lift (fun _ Kz => jv_Ev.steps jv_i39 1 (pc' := 253) (l' := [(10, .int (1 : Int32)), (9, .int (1 : Int32)), (8, .int (jv_wfimmediate w)), (7, .int (vl_I (vc_F w).z)), (6, .int (jv_wfoffset w)), (5, .ref (12 + 2 + 0)), (4, .ref (12 + 2 + (vc_F w).s)), (3, .ref (12 + 2 + (vc_F w).d)), (0, .ref 10), (1, .long w)]) (st' := [.int (0 : Int32)]) rfl Kz) ?_
                        refine jv_Wp.of (jv_Ev.ret jv_i39 rfl rfl) ?_
                        rw [hQ, vx_atp_eq]
                        have eD : ((vc_A I L 12).1 (vc_F w).d) = vc_T I L (12 + 2 + (vc_F w).d) := vc_A1 hd75
                        have eS : ((vc_A I L 12).1 (vc_F w).s) = vc_T I L (12 + 2 + (vc_F w).s) := vc_A1 hs75
                        have eQ : ((vc_A I L 12).1 0) = vc_T I L (12 + 2 + 0) := vc_A1 (by decide)
                        have i241 : (vc_F w).i = 241 := congrArg Int32.toInt (Classical.not_not.mp h1)
                        have d0 : ¬ ((vc_A I L 12).1 (vc_F w).d).sort = 0 := fun z => h10 ((vc_is0 (oa _ hd75)).mp (eD ▸ z))
                        have s0 : ¬ ((vc_A I L 12).1 (vc_F w).s).sort = 0 := fun z => h11 ((vc_is0 (oa _ hs75)).mp (eS ▸ z))
                        have q0 : ¬ ((vc_A I L 12).1 0).sort = 0 := fun z => h12 ((vc_is0 (oa _ (by decide))).mp (eQ ▸ z))
                        have d7 : ((vc_A I L 12).1 (vc_F w).d).sort = 7 := eD ▸ (vc_is7 (oa _ hd75)).mpr h13
                        have s1 : ((vc_A I L 12).1 (vc_F w).s).sort = 1 := eS ▸ (vc_is1 (oa _ hs75)).mpr (Classical.not_not.mp h17)
                        have q1 : ((vc_A I L 12).1 0).sort = 1 := eQ ▸ (vc_is1 (oa _ (by decide))).mpr h18
                        have odd : ¬ (vc_F w).i % 2 = 0 := (not_congr (vi_odd _)).mp h19
                        have c1 : ¬ (((vc_A I L 12).1 (vc_F w).d).sort = 0 ∨ ((vc_A I L 12).1 (vc_F w).s).sort = 0 ∨ ((vc_F w).i = 241 ∧ ((vc_A I L 12).1 0).sort = 0)) := by omega
                        have c2 : ¬ ((vc_A I L 12).1 (vc_F w).d).sort ≠ 7 := by omega
                        have d7t : ((vc_A I L 12).1 (vc_F w).d).sort = 7 := by omega
                        have vv : ((vc_A I L 12).1 (vc_F w).d).val = vl_S L (12 + 2 + (vc_F w).d) := by rw [eD]; exact vc_valv (Or.inr (Or.inr ((vc_is7 (oa _ hd75)).mp (by rw [← eD]; exact d7t))))
                        have m1 : ((L (12 + 2 + (vc_F w).d) 0).toBitVec &&& BitVec.ofNat 64 ((vc_F w).z - 1) = BitVec.ofNat 64 ((vc_F w).z - 1)) := (vi_e1 z4 _).mp (Classical.not_not.mp h14)
                        have m2 : (((L (12 + 2 + (vc_F w).d) 1).toBitVec + BitVec.ofInt 64 (vc_F w).o) &&& BitVec.ofNat 64 ((vc_F w).z - 1) = 0) := (vi_e2 z4 _ _).mp (Classical.not_not.mp h15)
                        have ev : vx_even ((vc_A I L 12).1 (vc_F w).d).val (vc_F w).o (vc_F w).z = true := by
                          rw [vv]; unfold vx_even
                          show (decide ((L (12 + 2 + (vc_F w).d) 0).toBitVec &&& BitVec.ofNat 64 ((vc_F w).z - 1) = BitVec.ofNat 64 ((vc_F w).z - 1)) && decide (((L (12 + 2 + (vc_F w).d) 1).toBitVec + BitVec.ofInt 64 (vc_F w).o) &&& BitVec.ofNat 64 ((vc_F w).z - 1) = 0)) = true
                          rw [decide_eq_true m1, decide_eq_true m2]; rfl
                        have r0 : ¬ vx_reach M (vc_A I L 12) ((vc_A I L 12).1 (vc_F w).d) (vc_F w).o (vc_F w).z true ≠ 0 := by rw [eD]; exact fun z => z ((vl_I_inj (Nat.lt_trans vx_reach_lt (by decide)) (by decide)).mp h16)
                        have c3 : ¬ (vx_even ((vc_A I L 12).1 (vc_F w).d).val (vc_F w).o (vc_F w).z = false ∨ vx_reach M (vc_A I L 12) ((vc_A I L 12).1 (vc_F w).d) (vc_F w).o (vc_F w).z true ≠ 0) := fun z => z.elim (fun z => by rw [ev] at z; exact absurd z (by decide)) r0
                        have c4 : ¬ (((vc_A I L 12).1 (vc_F w).s).sort ≠ 1 ∨ ((vc_F w).i = 241 ∧ ((vc_A I L 12).1 0).sort ≠ 1)) := by omega
                        have e := vx_at5 (M := M) c1 c2 c3 c4 (by omega)
                        rw [if_pos i241] at e
                        have FF : vc_fr (fun p => p = (12 + 2 + 0) ∨ (166 ≤ p ∧ p ≤ 170)) I L I4 L4 := vc_fr_trans (fun p hp => ⟨fun _ => rfl, fun f => (vl_set_out (fun z => hp (Or.inr (by rw [z.1]; exact ⟨by decide, by decide⟩)))).trans (vl_set_out (fun z => hp (Or.inr (by rw [z.1]; exact ⟨by decide, by decide⟩))))⟩) (vc_fr_mono F4 (fun p z => Or.inl z))
                        have U := vc_up (t := vt_num (vx_anyz (vc_F w).z)) (show 0 < 75 by decide) (T4.trans (by rw [vl_set_S, vl_set_S] <;> rfl)) O4 FF (fun n hn e q => by omega) (by omega) oa
                        exact ⟨_, _, by rw [e]; rfl, fun _ => by rw [e]; exact U, vc_fr_mono FF (fun p z => z.imp (fun z => ⟨by omega, by omega⟩) id), fun f => (FF 12 (by omega)).1 f⟩
                    · refine jv_Wp.lift (fun _ Kz => jv_Ev.steps jv_i39 1 (pc' := 202) (l' := [(10, .int (1 : Int32)), (9, .int (1 : Int32)), (8, .int (jv_wfimmediate w)), (7, .int (vl_I (vc_F w).z)), (6, .int (jv_wfoffset w)), (5, .ref (12 + 2 + 0)), (4, .ref (12 + 2 + (vc_F w).s)), (3, .ref (12 + 2 + (vc_F w).d)), (0, .ref 10), (1, .long w)]) (st' := [.int (6 : Int32)]) rfl Kz) ?_
                      refine jv_Wp.of (jv_Ev.ret jv_i39 rfl rfl) ?_
                      rw [hQ, vx_atp_eq]
                      have eD : ((vc_A I L 12).1 (vc_F w).d) = vc_T I L (12 + 2 + (vc_F w).d) := vc_A1 hd75
                      have eS : ((vc_A I L 12).1 (vc_F w).s) = vc_T I L (12 + 2 + (vc_F w).s) := vc_A1 hs75
                      have eQ : ((vc_A I L 12).1 0) = vc_T I L (12 + 2 + 0) := vc_A1 (by decide)
                      have i241 : (vc_F w).i = 241 := congrArg Int32.toInt (Classical.not_not.mp h1)
                      have d0 : ¬ ((vc_A I L 12).1 (vc_F w).d).sort = 0 := fun z => h10 ((vc_is0 (oa _ hd75)).mp (eD ▸ z))
                      have s0 : ¬ ((vc_A I L 12).1 (vc_F w).s).sort = 0 := fun z => h11 ((vc_is0 (oa _ hs75)).mp (eS ▸ z))
                      have q0 : ¬ ((vc_A I L 12).1 0).sort = 0 := fun z => h12 ((vc_is0 (oa _ (by decide))).mp (eQ ▸ z))
                      have d7 : ((vc_A I L 12).1 (vc_F w).d).sort = 7 := eD ▸ (vc_is7 (oa _ hd75)).mpr h13
                      have s1 : ((vc_A I L 12).1 (vc_F w).s).sort = 1 := eS ▸ (vc_is1 (oa _ hs75)).mpr (Classical.not_not.mp h17)
                      have q1 : ¬ ((vc_A I L 12).1 0).sort = 1 := fun z => h18 ((vc_is1 (oa _ (by decide))).mp (eQ ▸ z))
                      have c1 : ¬ (((vc_A I L 12).1 (vc_F w).d).sort = 0 ∨ ((vc_A I L 12).1 (vc_F w).s).sort = 0 ∨ ((vc_F w).i = 241 ∧ ((vc_A I L 12).1 0).sort = 0)) := by omega
                      have c2 : ¬ ((vc_A I L 12).1 (vc_F w).d).sort ≠ 7 := by omega
                      have d7t : ((vc_A I L 12).1 (vc_F w).d).sort = 7 := by omega
                      have vv : ((vc_A I L 12).1 (vc_F w).d).val = vl_S L (12 + 2 + (vc_F w).d) := by rw [eD]; exact vc_valv (Or.inr (Or.inr ((vc_is7 (oa _ hd75)).mp (by rw [← eD]; exact d7t))))
                      have m1 : ((L (12 + 2 + (vc_F w).d) 0).toBitVec &&& BitVec.ofNat 64 ((vc_F w).z - 1) = BitVec.ofNat 64 ((vc_F w).z - 1)) := (vi_e1 z4 _).mp (Classical.not_not.mp h14)
                      have m2 : (((L (12 + 2 + (vc_F w).d) 1).toBitVec + BitVec.ofInt 64 (vc_F w).o) &&& BitVec.ofNat 64 ((vc_F w).z - 1) = 0) := (vi_e2 z4 _ _).mp (Classical.not_not.mp h15)
                      have ev : vx_even ((vc_A I L 12).1 (vc_F w).d).val (vc_F w).o (vc_F w).z = true := by
                        rw [vv]; unfold vx_even
                        show (decide ((L (12 + 2 + (vc_F w).d) 0).toBitVec &&& BitVec.ofNat 64 ((vc_F w).z - 1) = BitVec.ofNat 64 ((vc_F w).z - 1)) && decide (((L (12 + 2 + (vc_F w).d) 1).toBitVec + BitVec.ofInt 64 (vc_F w).o) &&& BitVec.ofNat 64 ((vc_F w).z - 1) = 0)) = true
                        rw [decide_eq_true m1, decide_eq_true m2]; rfl
                      have r0 : ¬ vx_reach M (vc_A I L 12) ((vc_A I L 12).1 (vc_F w).d) (vc_F w).o (vc_F w).z true ≠ 0 := by rw [eD]; exact fun z => z ((vl_I_inj (Nat.lt_trans vx_reach_lt (by decide)) (by decide)).mp h16)
                      have c3 : ¬ (vx_even ((vc_A I L 12).1 (vc_F w).d).val (vc_F w).o (vc_F w).z = false ∨ vx_reach M (vc_A I L 12) ((vc_A I L 12).1 (vc_F w).d) (vc_F w).o (vc_F w).z true ≠ 0) := fun z => z.elim (fun z => by rw [ev] at z; exact absurd z (by decide)) r0
                      have e := vx_at4 (M := M) c1 c2 c3 (by omega)
                      exact ⟨_, _, by rw [e]; rfl, fun z => by rw [e] at z; exact absurd (show (6 : Nat) = 0 from z) (by decide), vc_fr_refl _ _, fun _ => rfl⟩
                · refine jv_Wp.lift (fun _ Kz => jv_Ev.steps jv_i39 1 (pc' := 176) (l' := [(10, .int (1 : Int32)), (9, .int (1 : Int32)), (8, .int (jv_wfimmediate w)), (7, .int (vl_I (vc_F w).z)), (6, .int (jv_wfoffset w)), (5, .ref (12 + 2 + 0)), (4, .ref (12 + 2 + (vc_F w).s)), (3, .ref (12 + 2 + (vc_F w).d)), (0, .ref 10), (1, .long w)]) (st' := [.int (4 : Int32)]) rfl Kz) ?_
                  refine jv_Wp.of (jv_Ev.ret jv_i39 rfl rfl) ?_
                  rw [hQ, vx_atp_eq]
                  have eD : ((vc_A I L 12).1 (vc_F w).d) = vc_T I L (12 + 2 + (vc_F w).d) := vc_A1 hd75
                  have eS : ((vc_A I L 12).1 (vc_F w).s) = vc_T I L (12 + 2 + (vc_F w).s) := vc_A1 hs75
                  have eQ : ((vc_A I L 12).1 0) = vc_T I L (12 + 2 + 0) := vc_A1 (by decide)
                  have i241 : (vc_F w).i = 241 := congrArg Int32.toInt (Classical.not_not.mp h1)
                  have d0 : ¬ ((vc_A I L 12).1 (vc_F w).d).sort = 0 := fun z => h10 ((vc_is0 (oa _ hd75)).mp (eD ▸ z))
                  have s0 : ¬ ((vc_A I L 12).1 (vc_F w).s).sort = 0 := fun z => h11 ((vc_is0 (oa _ hs75)).mp (eS ▸ z))
                  have q0 : ¬ ((vc_A I L 12).1 0).sort = 0 := fun z => h12 ((vc_is0 (oa _ (by decide))).mp (eQ ▸ z))
                  have d7 : ((vc_A I L 12).1 (vc_F w).d).sort = 7 := eD ▸ (vc_is7 (oa _ hd75)).mpr h13
                  have c1 : ¬ (((vc_A I L 12).1 (vc_F w).d).sort = 0 ∨ ((vc_A I L 12).1 (vc_F w).s).sort = 0 ∨ ((vc_F w).i = 241 ∧ ((vc_A I L 12).1 0).sort = 0)) := by omega
                  have c2 : ¬ ((vc_A I L 12).1 (vc_F w).d).sort ≠ 7 := by omega
                  have d7t : ((vc_A I L 12).1 (vc_F w).d).sort = 7 := by omega
                  have vv : ((vc_A I L 12).1 (vc_F w).d).val = vl_S L (12 + 2 + (vc_F w).d) := by rw [eD]; exact vc_valv (Or.inr (Or.inr ((vc_is7 (oa _ hd75)).mp (by rw [← eD]; exact d7t))))
                  have m1 : ((L (12 + 2 + (vc_F w).d) 0).toBitVec &&& BitVec.ofNat 64 ((vc_F w).z - 1) = BitVec.ofNat 64 ((vc_F w).z - 1)) := (vi_e1 z4 _).mp (Classical.not_not.mp h14)
                  have m2 : (((L (12 + 2 + (vc_F w).d) 1).toBitVec + BitVec.ofInt 64 (vc_F w).o) &&& BitVec.ofNat 64 ((vc_F w).z - 1) = 0) := (vi_e2 z4 _ _).mp (Classical.not_not.mp h15)
                  have ev : vx_even ((vc_A I L 12).1 (vc_F w).d).val (vc_F w).o (vc_F w).z = true := by
                    rw [vv]; unfold vx_even
                    show (decide ((L (12 + 2 + (vc_F w).d) 0).toBitVec &&& BitVec.ofNat 64 ((vc_F w).z - 1) = BitVec.ofNat 64 ((vc_F w).z - 1)) && decide (((L (12 + 2 + (vc_F w).d) 1).toBitVec + BitVec.ofInt 64 (vc_F w).o) &&& BitVec.ofNat 64 ((vc_F w).z - 1) = 0)) = true
                    rw [decide_eq_true m1, decide_eq_true m2]; rfl
                  have rn : vx_reach M (vc_A I L 12) ((vc_A I L 12).1 (vc_F w).d) (vc_F w).o (vc_F w).z true ≠ 0 := by rw [eD]; exact fun z => h16 (congrArg vl_I z)
                  have e := vx_at3 (M := M) c1 c2 (Or.inr rn)
                  exact ⟨_, _, by rw [e]; rfl, fun z => by rw [e] at z; exact absurd (show (4 : Nat) = 0 from z) (by decide), vc_fr_refl _ _, fun _ => rfl⟩
          · refine jv_Wp.lift (fun _ Kz => jv_Ev.steps jv_i39 1 (pc' := 111) (l' := [(9, .int (1 : Int32)), (8, .int (jv_wfimmediate w)), (7, .int (vl_I (vc_F w).z)), (6, .int (jv_wfoffset w)), (5, .ref (12 + 2 + 0)), (4, .ref (12 + 2 + (vc_F w).s)), (3, .ref (12 + 2 + (vc_F w).d)), (0, .ref 10), (1, .long w)]) (st' := [.int (3 : Int32)]) rfl Kz) ?_
            refine jv_Wp.of (jv_Ev.ret jv_i39 rfl rfl) ?_
            rw [hQ, vx_atp_eq]
            have eD : ((vc_A I L 12).1 (vc_F w).d) = vc_T I L (12 + 2 + (vc_F w).d) := vc_A1 hd75
            have eS : ((vc_A I L 12).1 (vc_F w).s) = vc_T I L (12 + 2 + (vc_F w).s) := vc_A1 hs75
            have eQ : ((vc_A I L 12).1 0) = vc_T I L (12 + 2 + 0) := vc_A1 (by decide)
            have i241 : (vc_F w).i = 241 := congrArg Int32.toInt (Classical.not_not.mp h1)
            have d0 : ¬ ((vc_A I L 12).1 (vc_F w).d).sort = 0 := fun z => h10 ((vc_is0 (oa _ hd75)).mp (eD ▸ z))
            have s0 : ¬ ((vc_A I L 12).1 (vc_F w).s).sort = 0 := fun z => h11 ((vc_is0 (oa _ hs75)).mp (eS ▸ z))
            have q0 : ¬ ((vc_A I L 12).1 0).sort = 0 := fun z => h12 ((vc_is0 (oa _ (by decide))).mp (eQ ▸ z))
            have d7 : ¬ ((vc_A I L 12).1 (vc_F w).d).sort = 7 := fun z => h13 ((vc_is7 (oa _ hd75)).mp (eD ▸ z))
            have c1 : ¬ (((vc_A I L 12).1 (vc_F w).d).sort = 0 ∨ ((vc_A I L 12).1 (vc_F w).s).sort = 0 ∨ ((vc_F w).i = 241 ∧ ((vc_A I L 12).1 0).sort = 0)) := by omega
            have e := vx_at2 (M := M) c1 (by omega)
            exact ⟨_, _, by rw [e]; rfl, fun z => by rw [e] at z; exact absurd (show (3 : Nat) = 0 from z) (by decide), vc_fr_refl _ _, fun _ => rfl⟩
        · refine jv_Wp.lift (fun _ Kz => jv_Ev.steps jv_i39 1 (pc' := 100) (l' := [(9, .int (1 : Int32)), (8, .int (jv_wfimmediate w)), (7, .int (vl_I (vc_F w).z)), (6, .int (jv_wfoffset w)), (5, .ref (12 + 2 + 0)), (4, .ref (12 + 2 + (vc_F w).s)), (3, .ref (12 + 2 + (vc_F w).d)), (0, .ref 10), (1, .long w)]) (st' := [.int (1 : Int32)]) rfl Kz) ?_
          refine jv_Wp.of (jv_Ev.ret jv_i39 rfl rfl) ?_
          rw [hQ, vx_atp_eq]
          have eD : ((vc_A I L 12).1 (vc_F w).d) = vc_T I L (12 + 2 + (vc_F w).d) := vc_A1 hd75
          have eS : ((vc_A I L 12).1 (vc_F w).s) = vc_T I L (12 + 2 + (vc_F w).s) := vc_A1 hs75
          have eQ : ((vc_A I L 12).1 0) = vc_T I L (12 + 2 + 0) := vc_A1 (by decide)
          have i241 : (vc_F w).i = 241 := congrArg Int32.toInt (Classical.not_not.mp h1)
          have d0 : ¬ ((vc_A I L 12).1 (vc_F w).d).sort = 0 := fun z => h10 ((vc_is0 (oa _ hd75)).mp (eD ▸ z))
          have s0 : ¬ ((vc_A I L 12).1 (vc_F w).s).sort = 0 := fun z => h11 ((vc_is0 (oa _ hs75)).mp (eS ▸ z))
          have q0 : ((vc_A I L 12).1 0).sort = 0 := eQ ▸ (vc_is0 (oa _ (by decide))).mpr (Classical.not_not.mp h12)
          have e := vx_at1 (M := M) (f := vc_F w) (A := vc_A I L 12) (by omega)
          exact ⟨_, _, by rw [e]; rfl, fun z => by rw [e] at z; exact absurd (show (1 : Nat) = 0 from z) (by decide), vc_fr_refl _ _, fun _ => rfl⟩