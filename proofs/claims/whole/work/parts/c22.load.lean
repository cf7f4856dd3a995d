/-! part c22: loads of the reference (gen/tc22.py) -/
theorem vr_kdx {I : Nat → Nat → Int32} {L : Nat → Nat → Int64} {x n : Nat} (ok : vr_ok I x n) (g : vt_g (vr_T I L x)) : ∃ kd : Nat, kd < 8 ∧ (I 205 x = 6 ∨ I 205 x = 7 → I 206 x = vl_I kd) := by
  by_cases c : I 205 x = 6 ∨ I 205 x = 7
  · have s : (vr_T I L x).sort = 6 ∨ (vr_T I L x).sort = 7 := c.imp (vr_is 6 (by decide) ok).mpr (vr_is 7 (by decide) ok).mpr
    have b := g.2.1 (by omega)
    have e : (vr_T I L x).det = (I 206 x).toInt := rfl
    refine ⟨(I 206 x).toInt.toNat, by omega, fun _ => Int32.toInt_inj.mp ?_⟩
    rw [show (vl_I (I 206 x).toInt.toNat).toInt = ((I 206 x).toInt.toNat : Int) from vl_I_int (by omega)]; omega
  · exact ⟨0, by decide, fun z => absurd z c⟩
theorem vr_re_lt {M : vf_M} {A : vt_A} {t : vt_T} {o : Int} {z : Nat} {w : Bool} : vr_re M A t o z w < 5 := by
  unfold vr_re; split
  · decide
  · exact vx_reach_lt
theorem vr_re_0 {M : vf_M} {A : vt_A} {t : vt_T} {o : Int} {z : Nat} {w : Bool} (h : vr_re M A t o z w = 0) : ¬ t.sort = 0 ∧ ¬ vx_reach M A t o z w ≠ 0 := by
  unfold vr_re at h
  by_cases c : t.sort = 0
  · rw [if_pos c] at h; exact absurd h (by decide)
  · rw [if_neg c] at h; exact ⟨c, fun z => z h⟩
theorem vx_ldb {M : vf_M} {f : vf_F} {A : vt_A} (h : vr_re M A (A.1 f.s) f.o f.z false ≠ 0) : vx_load M f A = (vr_re M A (A.1 f.s) f.o f.z false, A) := by
  unfold vr_re at *
  by_cases c : (A.1 f.s).sort = 0
  · rw [if_pos c]; exact vx_ld1 c
  · rw [if_neg c] at *; exact vx_ld2 c h
theorem vx_r3' {M : vf_M} {A : vt_A} {t : vt_T} {o : Int} {z : Nat} {w : Bool} (h : t.sort = 3) (r : ¬ vx_reach M A t o z w ≠ 0) : -512 ≤ t.det + o ∧ t.det + o ≤ -(z : Int) ∧ (t.det + o) % (z : Int) = 0 := by
  have r := Decidable.not_not.mp r
  rw [vx_r3 h] at r
  by_cases c : -512 ≤ t.det + o ∧ t.det + o ≤ -(z : Int) ∧ (t.det + o) % (z : Int) = 0
  · exact c
  · rw [if_neg c] at r; exact absurd r (by decide)
theorem vx_r2' {M : vf_M} {A : vt_A} {t : vt_T} {o : Int} {z : Nat} (h : t.sort = 2) (hz : z = 1 ∨ z = 2 ∨ z = 4 ∨ z = 8) (r : ¬ vx_reach M A t o z false ≠ 0) : 16 ≤ t.det + o ∨ t.det + o = 0 ∨ t.det + o = 8 := by
  have r := Decidable.not_not.mp r
  rw [vx_r2w h hz] at r
  by_cases c : 0 ≤ t.det + o ∧ t.det + o ≤ 64 - (z : Int) ∧ (t.det + o) % (z : Int) = 0 ∧ (false = true → 32 ≤ t.det + o) ∧ (false = false → 16 ≤ t.det + o ∨ (z = 8 ∧ (t.det + o = 0 ∨ t.det + o = 8)))
  · exact (c.2.2.2.2 rfl).imp id (fun z => z.2)
  · rw [if_neg c] at r; exact absurd r (by decide)
theorem vx_cut_any {m : Nat} (h : m = 8 ∨ m = 16 ∨ m = 32) : vx_cut (vx_cut vb_any m) m = vx_cut vb_any m := by
  rcases h with e | e | e <;> subst e <;> decide +kernel
theorem vx_ext_any {z : Nat} (h : z = 1 ∨ z = 2 ∨ z = 4) : vx_ext (vx_anyz z) (8 * z) = vx_anys z := by
  have e := vx_cut_any (m := 8 * z) (by omega)
  unfold vx_anyz vx_anys vx_ext at *
  unfold vx_cut at e
  rw [show vx_cut vb_any (8 * z) = vb_tt (vb_cCut vb_any (8 * z)) from rfl, e]
theorem vf_z (f : vf_F) : f.z = 1 ∨ f.z = 2 ∨ f.z = 4 ∨ f.z = 8 := by
  unfold vf_F.z; split
  · omega
  · split
    · omega
    · split
      · omega
      · omega
theorem jv_i293 : jv_I 293 7 (some .int) 8 241 jv_c293 := ⟨rfl, rfl, rfl, rfl, rfl⟩
theorem vq_load {K : Nat → Option (Nat × Nat)} {I : Nat → Nat → Int32} {L : Nat → Nat → Int64} {R : Nat → Nat → Value} (M : vf_M) (f : vf_F) (hW : jv_rW K R) (hf : vr_fl I) (hM : vr_M I M) (D : vr_dec I f) (oa : vr_okA I 1024) (hj : vr_j10 I) (gA : ∀ n, n < 75 → vt_g (vr_T I L (76800 + n))) (hd11 : f.d < 11) (hs11 : f.s < 11) (hm4 : f.mode = 4 → f.z = 1 ∨ f.z = 2 ∨ f.z = 4) (hZ6 : vb_toS (vr_S L 6) = vb_just 0) {n sl : Nat} : ∃ I1 L1, jv_Ms 293 [.ref 196] (jv_H K I L R) n sl (some (.int (vl_I (vx_load M f (vr_A I L 1024)).1)), jv_H K I1 L1 R, n, sl) ∧ ((vx_load M f (vr_A I L 1024)).1 = 0 → vr_A I1 L1 1024 = (vx_load M f (vr_A I L 1024)).2 ∧ vr_okA I1 1024) ∧ vr_fr (fun x => x = 76800 + f.d) noE I L I1 L1 := by
  obtain ⟨Q, hQ⟩ : ∃ Q : jv_R → Prop, Q = fun X => ∃ I1 L1, X = (some (.int (vl_I (vx_load M f (vr_A I L 1024)).1)), jv_H K I1 L1 R, n, sl) ∧ ((vx_load M f (vr_A I L 1024)).1 = 0 → vr_A I1 L1 1024 = (vx_load M f (vr_A I L 1024)).2 ∧ vr_okA I1 1024) ∧ vr_fr (fun x => x = 76800 + f.d) noE I L I1 L1 := ⟨_, rfl⟩
  suffices h : jv_Wp 293 0 [(0, .ref 196)] [] (jv_H K I L R) n sl Q by
    rw [hQ] at h
    obtain ⟨X, h, I1, L1, e, h'⟩ := h
    subst e
    exact ⟨I1, L1, h, h'⟩
  have hc8 := vr_dc D
  have hmd : f.mode < 8 := by unfold vf_F.mode; omega
  have hz := vf_z f
  have oks : vr_ok I (76800 + f.s) f.s := oa f.s (by omega)
  have eA : (vr_A I L 1024).1 f.s = (vr_T I L (76800 + f.s)) := vr_A1 (by omega)
  obtain ⟨kd, k8, hkd⟩ := vr_kdx (L := L) oks (gA f.s (by omega))
  obtain ⟨bd, hbd⟩ : ∃ x : Nat, ∀ _ : Unit, vr_re M (vr_A I L 1024) (vr_T I L (76800 + f.s)) f.o f.z false = x := ⟨_, fun _ => rfl⟩
  have bd5 : bd < 5 := by rw [← hbd ()]; exact vr_re_lt
  have ea : (((I 206 (76800 + f.s)).toInt64 + (Int32.ofInt f.o).toInt64)).toInt = (I 206 (76800 + f.s)).toInt + f.o := by have := Int32.toInt_lt (I 206 (76800 + f.s)); have := Int32.le_toInt (I 206 (76800 + f.s)); rw [vi_add (by rw [Int32.toInt_toInt64]; omega), Int32.toInt_toInt64, vr_dO D]
  have dt : (vr_T I L (76800 + f.s)).det = (I 206 (76800 + f.s)).toInt := rfl
  have ez : ((vl_I f.z).toInt64).toInt = (f.z : Int) := (Int32.toInt_toInt64 _).trans (vl_I_int (by omega))
  refine jv_Wp.lift (fun _ Kz => jv_Ev.steps jv_i293 1 (pc' := 1) (l' := [(0, .ref 196)]) (st' := [.ref 196]) rfl Kz) ?_
  refine jv_Wp.lift (fun _ Kz => jv_Ev.c jv_i293 (pc' := 4) (S' := [.int (vl_I f.z)]) jv_i260 [.ref 196] rfl rfl rfl rfl (jv_cal rfl (jv_H_at (jv_rwK hW 196 12 24 (by decide))) rfl rfl) rfl (vq_size f hW D) rfl rfl Kz) ?_
  refine jv_Wp.lift (fun _ Kz => jv_Ev.steps jv_i293 3 (pc' := 7) (l' := [(1, .int (vl_I f.z)), (0, .ref 196)]) (st' := [.ref 196, .ref 196]) rfl Kz) ?_
  refine jv_Wp.lift (fun _ Kz => jv_Ev.m jv_i293 (pc' := 10) (st' := [.int (vl_I f.s), .ref 196]) (G' := (jv_H K I L R)) rfl rfl (jv_m_getI (jv_rwK hW 196 12 24 (by decide)) rfl rfl D.2.2.1) Kz) ?_
  refine jv_Wp.lift (fun _ Kz => jv_Ev.steps jv_i293 2 (pc' := 12) (l' := [(1, .int (vl_I f.z)), (0, .ref 196)]) (st' := [.int (0 : Int32), .int (vl_I f.z), .int (vl_I f.s), .ref 196]) rfl Kz) ?_
  have Hb := vq_reach (I := I) (L := L) (n := n) (sl := sl) M f f.s kd f.z false hW hM D oks hs11 hz k8 hkd
  rw [hbd ()] at Hb
  refine jv_Wp.lift (fun _ Kz => jv_Ev.c jv_i293 (pc' := 15) (S' := [.int (vl_I bd)]) jv_i290 [.ref 196, .int (vl_I f.s), .int (vl_I f.z), .int (0 : Int32)] rfl rfl rfl rfl (jv_cal rfl (jv_H_at (jv_rwK hW 196 12 24 (by decide))) rfl rfl) rfl Hb rfl rfl Kz) ?_
  refine jv_Wp.lift (fun _ Kz => jv_Ev.steps jv_i293 2 (pc' := 17) (l' := [(2, .int (vl_I bd)), (1, .int (vl_I f.z)), (0, .ref 196)]) (st' := [.int (vl_I bd)]) rfl Kz) ?_
  refine jv_Wp.cnd jv_i293 (pt := 22) (pe := 20) (p := ((vl_I bd) ≤ 0)) (q := ((vl_I bd) ≤ 0)) rfl jv_bi_le rfl rfl Iff.rfl (fun h1 => ?_) (fun h1 => ?_)
  · refine jv_Wp.lift (fun _ Kz => jv_Ev.steps jv_i293 2 (pc' := 24) (l' := [(2, .int (vl_I bd)), (1, .int (vl_I f.z)), (0, .ref 196)]) (st' := [.ref 196, .ref 196]) rfl Kz) ?_
    refine jv_Wp.lift (fun _ Kz => jv_Ev.m jv_i293 (pc' := 27) (st' := [.int (vl_I f.s), .ref 196]) (G' := (jv_H K I L R)) rfl rfl (jv_m_getI (jv_rwK hW 196 12 24 (by decide)) rfl rfl D.2.2.1) Kz) ?_
    refine jv_Wp.lift (fun _ Kz => jv_Ev.c jv_i293 (pc' := 30) (S' := [.int (I 205 (76800 + f.s))]) jv_i271 [.ref 196, .int (vl_I f.s)] rfl rfl rfl rfl (jv_cal rfl (jv_H_at (jv_rwK hW 196 12 24 (by decide))) rfl rfl) rfl (vq_sortOf f.s hW (by omega)) rfl rfl Kz) ?_
    refine jv_Wp.lift (fun _ Kz => jv_Ev.steps jv_i293 2 (pc' := 32) (l' := [(3, .int (I 205 (76800 + f.s))), (2, .int (vl_I bd)), (1, .int (vl_I f.z)), (0, .ref 196)]) (st' := [.ref 196]) rfl Kz) ?_
    refine jv_Wp.lift (fun _ Kz => jv_Ev.m jv_i293 (pc' := 35) (st' := [.ref 206]) (G' := (jv_H K I L R)) rfl rfl (jv_m_getR (jv_rwK hW 196 12 24 (by decide)) rfl rfl (jv_rwR hW 196 14 206 (by decide))) Kz) ?_
    refine jv_Wp.lift (fun _ Kz => jv_Ev.steps jv_i293 2 (pc' := 39) (l' := [(3, .int (I 205 (76800 + f.s))), (2, .int (vl_I bd)), (1, .int (vl_I f.z)), (0, .ref 196)]) (st' := [.ref 196, .int (1024 : Int32), .ref 206]) rfl Kz) ?_
    refine jv_Wp.lift (fun _ Kz => jv_Ev.m jv_i293 (pc' := 42) (st' := [.int (vl_I f.s), .int (1024 : Int32), .ref 206]) (G' := (jv_H K I L R)) rfl rfl (jv_m_getI (jv_rwK hW 196 12 24 (by decide)) rfl rfl D.2.2.1) Kz) ?_
    refine jv_Wp.lift (fun _ Kz => jv_Ev.c jv_i293 (pc' := 45) (S' := [.int (vl_I (76800 + f.s)), .ref 206]) jv_i253 [.int (1024 : Int32), .int (vl_I f.s)] rfl rfl rfl rfl rfl rfl (vq_thing 1024 f.s) rfl rfl Kz) ?_
    refine jv_Wp.lift (fun _ Kz => jv_Ev.m jv_i293 (pc' := 46) (st' := [.int (I 206 (76800 + f.s))]) (G' := (jv_H K I L R)) rfl rfl (jv_m_ialdv (jv_rwK hW 206 102 77100 (by decide)) rfl (vl_I_ix (by omega) (by decide)) rfl ((congrArg (I 206) (vl_I_nat (by omega))).trans rfl)) Kz) ?_
    refine jv_Wp.lift (fun _ Kz => jv_Ev.steps jv_i293 2 (pc' := 48) (l' := [(3, .int (I 205 (76800 + f.s))), (2, .int (vl_I bd)), (1, .int (vl_I f.z)), (0, .ref 196)]) (st' := [.ref 196, .long (I 206 (76800 + f.s)).toInt64]) rfl Kz) ?_
    refine jv_Wp.lift (fun _ Kz => jv_Ev.m jv_i293 (pc' := 51) (st' := [.int (Int32.ofInt f.o), .long (I 206 (76800 + f.s)).toInt64]) (G' := (jv_H K I L R)) rfl rfl (jv_m_getI (jv_rwK hW 196 12 24 (by decide)) rfl rfl (vr_dI D)) Kz) ?_
    refine jv_Wp.lift (fun _ Kz => jv_Ev.steps jv_i293 5 (pc' := 57) (l' := [(4, .long ((I 206 (76800 + f.s)).toInt64 + (Int32.ofInt f.o).toInt64)), (3, .int (I 205 (76800 + f.s))), (2, .int (vl_I bd)), (1, .int (vl_I f.z)), (0, .ref 196)]) (st' := [.int (2 : Int32), .int (I 205 (76800 + f.s))]) rfl Kz) ?_
    refine jv_Wp.cnd jv_i293 (pt := 114) (pe := 60) (p := (¬ (I 205 (76800 + f.s)) = (2 : Int32))) (q := (¬ (I 205 (76800 + f.s)) = (2 : Int32))) rfl jv_bc_ne rfl rfl Iff.rfl (fun h2 => ?_) (fun h2 => ?_)
    · refine jv_Wp.lift (fun _ Kz => jv_Ev.steps jv_i293 2 (pc' := 116) (l' := [(4, .long ((I 206 (76800 + f.s)).toInt64 + (Int32.ofInt f.o).toInt64)), (3, .int (I 205 (76800 + f.s))), (2, .int (vl_I bd)), (1, .int (vl_I f.z)), (0, .ref 196)]) (st' := [.int (3 : Int32), .int (I 205 (76800 + f.s))]) rfl Kz) ?_
      refine jv_Wp.cnd jv_i293 (pt := 181) (pe := 119) (p := (¬ (I 205 (76800 + f.s)) = (3 : Int32))) (q := (¬ (I 205 (76800 + f.s)) = (3 : Int32))) rfl jv_bc_ne rfl rfl Iff.rfl (fun h3 => ?_) (fun h3 => ?_)
      · refine jv_Wp.lift (fun _ Kz => jv_Ev.steps jv_i293 2 (pc' := 183) (l' := [(4, .long ((I 206 (76800 + f.s)).toInt64 + (Int32.ofInt f.o).toInt64)), (3, .int (I 205 (76800 + f.s))), (2, .int (vl_I bd)), (1, .int (vl_I f.z)), (0, .ref 196)]) (st' := [.ref 196, .ref 196]) rfl Kz) ?_
        refine jv_Wp.lift (fun _ Kz => jv_Ev.m jv_i293 (pc' := 186) (st' := [.int (vl_I f.d), .ref 196]) (G' := (jv_H K I L R)) rfl rfl (jv_m_getI (jv_rwK hW 196 12 24 (by decide)) rfl rfl D.2.1) Kz) ?_
        refine jv_Wp.lift (fun _ Kz => jv_Ev.steps jv_i293 1 (pc' := 187) (l' := [(4, .long ((I 206 (76800 + f.s)).toInt64 + (Int32.ofInt f.o).toInt64)), (3, .int (I 205 (76800 + f.s))), (2, .int (vl_I bd)), (1, .int (vl_I f.z)), (0, .ref 196)]) (st' := [.int (vl_I f.z), .int (vl_I f.d), .ref 196]) rfl Kz) ?_
        obtain ⟨I1, L1, H1, T1, O1, F1⟩ := vq_setAny (I := I) (L := L) (R := R) (n := n) (sl := sl) f.d f.z hW hf (by omega) hz
        have Z1 := vr_fl_of F1
        have D1 := vr_dec_n F1 D
        refine jv_Wp.lift (fun _ Kz => jv_Ev.c jv_i293 (pc' := 190) (S' := []) (G1 := (jv_H K I1 L1 R)) jv_i274 [.ref 196, .int (vl_I f.d), .int (vl_I f.z)] rfl rfl rfl rfl (jv_cal rfl (jv_H_at (jv_rwK hW 196 12 24 (by decide))) rfl rfl) rfl H1 rfl rfl Kz) ?_
        refine jv_Wp.lift (fun _ Kz => jv_Ev.steps jv_i293 1 (pc' := 191) (l' := [(4, .long ((I 206 (76800 + f.s)).toInt64 + (Int32.ofInt f.o).toInt64)), (3, .int (I 205 (76800 + f.s))), (2, .int (vl_I bd)), (1, .int (vl_I f.z)), (0, .ref 196)]) (st' := [.ref 196]) rfl Kz) ?_
        refine jv_Wp.lift (fun _ Kz => jv_Ev.c jv_i293 (pc' := 194) (S' := [.int (vl_I f.mode)]) jv_i261 [.ref 196] rfl rfl rfl rfl (jv_cal rfl (jv_H_at (jv_rwK hW 196 12 24 (by decide))) rfl rfl) rfl (vq_mode f hW D1) rfl rfl Kz) ?_
        refine jv_Wp.lift (fun _ Kz => jv_Ev.steps jv_i293 1 (pc' := 195) (l' := [(4, .long ((I 206 (76800 + f.s)).toInt64 + (Int32.ofInt f.o).toInt64)), (3, .int (I 205 (76800 + f.s))), (2, .int (vl_I bd)), (1, .int (vl_I f.z)), (0, .ref 196)]) (st' := [.int (4 : Int32), .int (vl_I f.mode)]) rfl Kz) ?_
        refine jv_Wp.cnd jv_i293 (pt := 234) (pe := 198) (p := (¬ (vl_I f.mode) = (4 : Int32))) (q := (¬ (vl_I f.mode) = (4 : Int32))) rfl jv_bc_ne rfl rfl Iff.rfl (fun h4 => ?_) (fun h4 => ?_)
        · refine jv_Wp.lift (fun _ Kz => jv_Ev.steps jv_i293 1 (pc' := 235) (l' := [(4, .long ((I 206 (76800 + f.s)).toInt64 + (Int32.ofInt f.o).toInt64)), (3, .int (I 205 (76800 + f.s))), (2, .int (vl_I bd)), (1, .int (vl_I f.z)), (0, .ref 196)]) (st' := [.int (0 : Int32)]) rfl Kz) ?_
          refine jv_Wp.of (jv_Ev.ret jv_i293 rfl rfl) ?_
          rw [hQ]
          have b0 : bd = 0 := Nat.le_zero.mp ((vl_I_le (b := 0) (by omega) (by decide)).mp h1)
          obtain ⟨r1, r2⟩ := vr_re_0 ((hbd ()).trans b0)
          have s2 : ¬ (vr_T I L (76800 + f.s)).sort = 2 := fun z => h2 ((vr_is 2 (by decide) oks).mp z)
          have s3 : ¬ (vr_T I L (76800 + f.s)).sort = 3 := fun z => h3 ((vr_is 3 (by decide) oks).mp z)
          have m4 : ¬ f.mode = 4 := fun z => h4 (by rw [z]; rfl)
          have e : vx_load M f (vr_A I L 1024) = (0, vt_up (vr_A I L 1024) f.d (vx_ldn f)) := vx_ld8 (by rw [eA]; exact r1) (by rw [eA]; exact r2) (fun z => by rw [eA] at z; exact s2 z.1) (fun z => by rw [eA] at z; exact s2 z.1) (by rw [eA]; exact s3)
          have u := vr_upA (I := I) (L := L) (k := 1024) (r := f.d) (t := (vx_ldn f)) (by omega) (by rw [T1]; unfold vx_ldn; rw [if_neg m4]) O1 (F1) (fun n hn e q => e (by omega)) oa
          exact ⟨_, _, by rw [e]; rfl, fun _ => by rw [e]; exact u, F1⟩
        · refine jv_Wp.lift (fun _ Kz => jv_Ev.steps jv_i293 1 (pc' := 199) (l' := [(4, .long ((I 206 (76800 + f.s)).toInt64 + (Int32.ofInt f.o).toInt64)), (3, .int (I 205 (76800 + f.s))), (2, .int (vl_I bd)), (1, .int (vl_I f.z)), (0, .ref 196)]) (st' := [.ref 196]) rfl Kz) ?_
          refine jv_Wp.lift (fun _ Kz => jv_Ev.m jv_i293 (pc' := 202) (st' := [.ref 208]) (G' := (jv_H K I1 L1 R)) rfl rfl (jv_m_getR (jv_rwK hW 196 12 24 (by decide)) rfl rfl (jv_rwR hW 196 16 208 (by decide))) Kz) ?_
          refine jv_Wp.lift (fun _ Kz => jv_Ev.steps jv_i293 2 (pc' := 206) (l' := [(4, .long ((I 206 (76800 + f.s)).toInt64 + (Int32.ofInt f.o).toInt64)), (3, .int (I 205 (76800 + f.s))), (2, .int (vl_I bd)), (1, .int (vl_I f.z)), (0, .ref 196)]) (st' := [.ref 196, .int (1024 : Int32), .ref 208]) rfl Kz) ?_
          refine jv_Wp.lift (fun _ Kz => jv_Ev.m jv_i293 (pc' := 209) (st' := [.int (vl_I f.d), .int (1024 : Int32), .ref 208]) (G' := (jv_H K I1 L1 R)) rfl rfl (jv_m_getI (jv_rwK hW 196 12 24 (by decide)) rfl rfl D1.2.1) Kz) ?_
          refine jv_Wp.lift (fun _ Kz => jv_Ev.c jv_i293 (pc' := 212) (S' := [.int (vl_I (8 + (76800 + f.d))), .ref 208]) jv_i254 [.int (1024 : Int32), .int (vl_I f.d)] rfl rfl rfl rfl rfl rfl (vq_row 1024 f.d) rfl rfl Kz) ?_
          refine jv_Wp.lift (fun _ Kz => jv_Ev.steps jv_i293 4 (pc' := 218) (l' := [(4, .long ((I 206 (76800 + f.s)).toInt64 + (Int32.ofInt f.o).toInt64)), (3, .int (I 205 (76800 + f.s))), (2, .int (vl_I bd)), (1, .int (vl_I f.z)), (0, .ref 196)]) (st' := [.int ((8 : Int32) * (vl_I f.z)), .int (7 : Int32), .int (vl_I (8 + (76800 + f.d))), .ref 208]) rfl Kz) ?_
          have m4 : f.mode = 4 := (vl_I_inj (b := 4) (by omega) (by decide)).mp (Classical.not_not.mp h4)
          have z3 := hm4 m4
          have v2 : vb_toS (vr_S L1 (8 + (76800 + f.d))) = vx_anyz f.z := by have q := congrArg vt_T.val T1; rw [vr_valv (by rw [(vr_is 1 (by decide) O1).mp (by rw [T1]; rfl)]; rfl)] at q; exact q
          obtain ⟨I2, L2, H2, S2, F2⟩ := vq_ext (I := I1) (L := L1) (R := R) (n := n) (sl := sl) (a := 8 + (76800 + f.d)) (d := 7) (m := 8 * f.z) (by omega) hW (by omega) (by decide) (by decide) (by omega) Z1 (by rw [v2]; exact (vx_anyz_in f.z 0).1)
          rw [← vi_mul8] at H2
          have Z2 := F2.1
          have D2 := vr_dec_rf F2 D1
          refine jv_Wp.lift (fun _ Kz => jv_Ev.c jv_i293 (pc' := 221) (S' := []) (G1 := (jv_H K I2 L2 R)) jv_i220 [.ref 208, .int (vl_I (8 + (76800 + f.d))), .int (7 : Int32), .int ((8 : Int32) * (vl_I f.z))] rfl rfl rfl rfl (jv_cal rfl (jv_H_at (jv_rwK hW 208 11 7 (by decide))) rfl rfl) rfl H2 rfl rfl Kz) ?_
          refine jv_Wp.lift (fun _ Kz => jv_Ev.steps jv_i293 3 (pc' := 226) (l' := [(4, .long ((I 206 (76800 + f.s)).toInt64 + (Int32.ofInt f.o).toInt64)), (3, .int (I 205 (76800 + f.s))), (2, .int (vl_I bd)), (1, .int (vl_I f.z)), (0, .ref 196)]) (st' := [.ref 196, .int (1024 : Int32), .ref 196]) rfl Kz) ?_
          refine jv_Wp.lift (fun _ Kz => jv_Ev.m jv_i293 (pc' := 229) (st' := [.int (vl_I f.d), .int (1024 : Int32), .ref 196]) (G' := (jv_H K I2 L2 R)) rfl rfl (jv_m_getI (jv_rwK hW 196 12 24 (by decide)) rfl rfl D2.2.1) Kz) ?_
          refine jv_Wp.lift (fun _ Kz => jv_Ev.steps jv_i293 1 (pc' := 231) (l' := [(4, .long ((I 206 (76800 + f.s)).toInt64 + (Int32.ofInt f.o).toInt64)), (3, .int (I 205 (76800 + f.s))), (2, .int (vl_I bd)), (1, .int (vl_I f.z)), (0, .ref 196)]) (st' := [.int (7 : Int32), .int (vl_I f.d), .int (1024 : Int32), .ref 196]) rfl Kz) ?_
          obtain ⟨I3, L3, H3, T3, O3, F3⟩ := vq_setNumber (I := I2) (L := L2) (R := R) (n := n) (sl := sl) 1024 f.d 7 hW Z2 (by omega) (by decide) (by decide)
          refine jv_Wp.lift (fun _ Kz => jv_Ev.c jv_i293 (pc' := 234) (S' := []) (G1 := (jv_H K I3 L3 R)) jv_i273 [.ref 196, .int (1024 : Int32), .int (vl_I f.d), .int (7 : Int32)] rfl rfl rfl rfl (jv_cal rfl (jv_H_at (jv_rwK hW 196 12 24 (by decide))) rfl rfl) rfl H3 rfl rfl Kz) ?_
          refine jv_Wp.lift (fun _ Kz => jv_Ev.steps jv_i293 1 (pc' := 235) (l' := [(4, .long ((I 206 (76800 + f.s)).toInt64 + (Int32.ofInt f.o).toInt64)), (3, .int (I 205 (76800 + f.s))), (2, .int (vl_I bd)), (1, .int (vl_I f.z)), (0, .ref 196)]) (st' := [.int (0 : Int32)]) rfl Kz) ?_
          refine jv_Wp.of (jv_Ev.ret jv_i293 rfl rfl) ?_
          rw [hQ]
          have b0 : bd = 0 := Nat.le_zero.mp ((vl_I_le (b := 0) (by omega) (by decide)).mp h1)
          obtain ⟨r1, r2⟩ := vr_re_0 ((hbd ()).trans b0)
          have s2 : ¬ (vr_T I L (76800 + f.s)).sort = 2 := fun z => h2 ((vr_is 2 (by decide) oks).mp z)
          have s3 : ¬ (vr_T I L (76800 + f.s)).sort = 3 := fun z => h3 ((vr_is 3 (by decide) oks).mp z)
          have m4 : f.mode = 4 := (vl_I_inj (b := 4) (by omega) (by decide)).mp (Classical.not_not.mp h4)
          have e : vx_load M f (vr_A I L 1024) = (0, vt_up (vr_A I L 1024) f.d (vx_ldn f)) := vx_ld8 (by rw [eA]; exact r1) (by rw [eA]; exact r2) (fun z => by rw [eA] at z; exact s2 z.1) (fun z => by rw [eA] at z; exact s2 z.1) (by rw [eA]; exact s3)
          have u := vr_upA (I := I) (L := L) (k := 1024) (r := f.d) (t := (vx_ldn f)) (by omega) (by rw [T3, S2, vb_toS_toR, v2, vx_ext_any z3]; unfold vx_ldn; rw [if_pos m4]) O3 (vr_fr_trans F1 (vr_fr_trans (vq_rf_fr F2 (by decide)) F3)) (fun n hn e q => e (by omega)) oa
          exact ⟨_, _, by rw [e]; rfl, fun _ => by rw [e]; exact u, vr_fr_trans F1 (vr_fr_trans (vq_rf_fr F2 (by decide)) F3)⟩
      · refine jv_Wp.lift (fun _ Kz => jv_Ev.steps jv_i293 1 (pc' := 121) (l' := [(4, .long ((I 206 (76800 + f.s)).toInt64 + (Int32.ofInt f.o).toInt64)), (3, .int (I 205 (76800 + f.s))), (2, .int (vl_I bd)), (1, .int (vl_I f.z)), (0, .ref 196)]) (st' := [.long ((I 206 (76800 + f.s)).toInt64 + (Int32.ofInt f.o).toInt64)]) rfl Kz) ?_
        have b0 : bd = 0 := Nat.le_zero.mp ((vl_I_le (b := 0) (by omega) (by decide)).mp h1)
        obtain ⟨r1, r2⟩ := vr_re_0 ((hbd ()).trans b0)
        have s2 : ¬ (vr_T I L (76800 + f.s)).sort = 2 := fun z => h2 ((vr_is 2 (by decide) oks).mp z)
        have s3 : (vr_T I L (76800 + f.s)).sort = 3 := (vr_is 3 (by decide) oks).mpr (Classical.not_not.mp h3)
        have q3 := vx_r3' s3 r2
        have hs75 := vx_slot_75 (a := (((I 206 (76800 + f.s)).toInt64 + (Int32.ofInt f.o).toInt64)).toInt) ⟨by omega, by omega⟩
        refine jv_Wp.lift (fun _ Kz => jv_Ev.c jv_i293 (pc' := 124) (S' := [.int (vl_I (vx_slot ((I 206 (76800 + f.s)).toInt64 + (Int32.ofInt f.o).toInt64).toInt))]) jv_i291 [.long ((I 206 (76800 + f.s)).toInt64 + (Int32.ofInt f.o).toInt64)] rfl rfl rfl rfl rfl rfl (vq_slotOf ((I 206 (76800 + f.s)).toInt64 + (Int32.ofInt f.o).toInt64) ⟨by omega, by omega⟩) rfl rfl Kz) ?_
        refine jv_Wp.lift (fun _ Kz => jv_Ev.steps jv_i293 3 (pc' := 129) (l' := [(6, .int (vl_I (vx_slot ((I 206 (76800 + f.s)).toInt64 + (Int32.ofInt f.o).toInt64).toInt))), (4, .long ((I 206 (76800 + f.s)).toInt64 + (Int32.ofInt f.o).toInt64)), (3, .int (I 205 (76800 + f.s))), (2, .int (vl_I bd)), (1, .int (vl_I f.z)), (0, .ref 196)]) (st' := [.int (8 : Int32), .int (vl_I f.z)]) rfl Kz) ?_
        refine jv_Wp.cnd jv_i293 (pt := 168) (pe := 132) (p := (¬ (vl_I f.z) = (8 : Int32))) (q := (¬ (vl_I f.z) = (8 : Int32))) rfl jv_bc_ne rfl rfl Iff.rfl (fun h5 => ?_) (fun h5 => ?_)
        · refine jv_Wp.lift (fun _ Kz => jv_Ev.steps jv_i293 4 (pc' := 173) (l' := [(6, .int (vl_I (vx_slot ((I 206 (76800 + f.s)).toInt64 + (Int32.ofInt f.o).toInt64).toInt))), (4, .long ((I 206 (76800 + f.s)).toInt64 + (Int32.ofInt f.o).toInt64)), (3, .int (I 205 (76800 + f.s))), (2, .int (vl_I bd)), (1, .int (vl_I f.z)), (0, .ref 196)]) (st' := [.long (vl_I f.z).toInt64, .long ((I 206 (76800 + f.s)).toInt64 + (Int32.ofInt f.o).toInt64), .ref 196]) rfl Kz) ?_
          have b0 : bd = 0 := Nat.le_zero.mp ((vl_I_le (b := 0) (by omega) (by decide)).mp h1)
          obtain ⟨r1, r2⟩ := vr_re_0 ((hbd ()).trans b0)
          have s2 : ¬ (vr_T I L (76800 + f.s)).sort = 2 := fun z => h2 ((vr_is 2 (by decide) oks).mp z)
          have s3 : (vr_T I L (76800 + f.s)).sort = 3 := (vr_is 3 (by decide) oks).mpr (Classical.not_not.mp h3)
          have q3 := vx_r3' s3 r2
          obtain ⟨cb9, Hb9, Tb9⟩ := vq_have (I := I) (L := L) (n := n) (sl := sl) ((I 206 (76800 + f.s)).toInt64 + (Int32.ofInt f.o).toInt64) (vl_I f.z).toInt64 hW oa hj (by omega) (by rw [ea, Int64.toInt_neg, ez, vi_bm (by omega) (by omega)]; omega) (by omega)
          refine jv_Wp.lift (fun _ Kz => jv_Ev.c jv_i293 (pc' := 176) (S' := [.int (vr_b cb9)]) jv_i292 [.ref 196, .long ((I 206 (76800 + f.s)).toInt64 + (Int32.ofInt f.o).toInt64), .long (vl_I f.z).toInt64] rfl rfl rfl rfl (jv_cal rfl (jv_H_at (jv_rwK hW 196 12 24 (by decide))) rfl rfl) rfl Hb9 rfl rfl Kz) ?_
          refine jv_Wp.cnd jv_i293 (pt := 181) (pe := 179) (p := (¬ (vr_b cb9) = 0)) (q := (¬ (vr_b cb9) = 0)) rfl jv_bi_ne rfl rfl Iff.rfl (fun h6 => ?_) (fun h6 => ?_)
          · refine jv_Wp.lift (fun _ Kz => jv_Ev.steps jv_i293 2 (pc' := 183) (l' := [(6, .int (vl_I (vx_slot ((I 206 (76800 + f.s)).toInt64 + (Int32.ofInt f.o).toInt64).toInt))), (4, .long ((I 206 (76800 + f.s)).toInt64 + (Int32.ofInt f.o).toInt64)), (3, .int (I 205 (76800 + f.s))), (2, .int (vl_I bd)), (1, .int (vl_I f.z)), (0, .ref 196)]) (st' := [.ref 196, .ref 196]) rfl Kz) ?_
            refine jv_Wp.lift (fun _ Kz => jv_Ev.m jv_i293 (pc' := 186) (st' := [.int (vl_I f.d), .ref 196]) (G' := (jv_H K I L R)) rfl rfl (jv_m_getI (jv_rwK hW 196 12 24 (by decide)) rfl rfl D.2.1) Kz) ?_
            refine jv_Wp.lift (fun _ Kz => jv_Ev.steps jv_i293 1 (pc' := 187) (l' := [(6, .int (vl_I (vx_slot ((I 206 (76800 + f.s)).toInt64 + (Int32.ofInt f.o).toInt64).toInt))), (4, .long ((I 206 (76800 + f.s)).toInt64 + (Int32.ofInt f.o).toInt64)), (3, .int (I 205 (76800 + f.s))), (2, .int (vl_I bd)), (1, .int (vl_I f.z)), (0, .ref 196)]) (st' := [.int (vl_I f.z), .int (vl_I f.d), .ref 196]) rfl Kz) ?_
            obtain ⟨I4, L4, H4, T4, O4, F4⟩ := vq_setAny (I := I) (L := L) (R := R) (n := n) (sl := sl) f.d f.z hW hf (by omega) hz
            have Z4 := vr_fl_of F4
            have D4 := vr_dec_n F4 D
            refine jv_Wp.lift (fun _ Kz => jv_Ev.c jv_i293 (pc' := 190) (S' := []) (G1 := (jv_H K I4 L4 R)) jv_i274 [.ref 196, .int (vl_I f.d), .int (vl_I f.z)] rfl rfl rfl rfl (jv_cal rfl (jv_H_at (jv_rwK hW 196 12 24 (by decide))) rfl rfl) rfl H4 rfl rfl Kz) ?_
            refine jv_Wp.lift (fun _ Kz => jv_Ev.steps jv_i293 1 (pc' := 191) (l' := [(6, .int (vl_I (vx_slot ((I 206 (76800 + f.s)).toInt64 + (Int32.ofInt f.o).toInt64).toInt))), (4, .long ((I 206 (76800 + f.s)).toInt64 + (Int32.ofInt f.o).toInt64)), (3, .int (I 205 (76800 + f.s))), (2, .int (vl_I bd)), (1, .int (vl_I f.z)), (0, .ref 196)]) (st' := [.ref 196]) rfl Kz) ?_
            refine jv_Wp.lift (fun _ Kz => jv_Ev.c jv_i293 (pc' := 194) (S' := [.int (vl_I f.mode)]) jv_i261 [.ref 196] rfl rfl rfl rfl (jv_cal rfl (jv_H_at (jv_rwK hW 196 12 24 (by decide))) rfl rfl) rfl (vq_mode f hW D4) rfl rfl Kz) ?_
            refine jv_Wp.lift (fun _ Kz => jv_Ev.steps jv_i293 1 (pc' := 195) (l' := [(6, .int (vl_I (vx_slot ((I 206 (76800 + f.s)).toInt64 + (Int32.ofInt f.o).toInt64).toInt))), (4, .long ((I 206 (76800 + f.s)).toInt64 + (Int32.ofInt f.o).toInt64)), (3, .int (I 205 (76800 + f.s))), (2, .int (vl_I bd)), (1, .int (vl_I f.z)), (0, .ref 196)]) (st' := [.int (4 : Int32), .int (vl_I f.mode)]) rfl Kz) ?_
            refine jv_Wp.cnd jv_i293 (pt := 234) (pe := 198) (p := (¬ (vl_I f.mode) = (4 : Int32))) (q := (¬ (vl_I f.mode) = (4 : Int32))) rfl jv_bc_ne rfl rfl Iff.rfl (fun h7 => ?_) (fun h7 => ?_)
            · refine jv_Wp.lift (fun _ Kz => jv_Ev.steps jv_i293 1 (pc' := 235) (l' := [(6, .int (vl_I (vx_slot ((I 206 (76800 + f.s)).toInt64 + (Int32.ofInt f.o).toInt64).toInt))), (4, .long ((I 206 (76800 + f.s)).toInt64 + (Int32.ofInt f.o).toInt64)), (3, .int (I 205 (76800 + f.s))), (2, .int (vl_I bd)), (1, .int (vl_I f.z)), (0, .ref 196)]) (st' := [.int (0 : Int32)]) rfl Kz) ?_
              refine jv_Wp.of (jv_Ev.ret jv_i293 rfl rfl) ?_
              rw [hQ]
              have b0 : bd = 0 := Nat.le_zero.mp ((vl_I_le (b := 0) (by omega) (by decide)).mp h1)
              obtain ⟨r1, r2⟩ := vr_re_0 ((hbd ()).trans b0)
              have s2 : ¬ (vr_T I L (76800 + f.s)).sort = 2 := fun z => h2 ((vr_is 2 (by decide) oks).mp z)
              have s3 : (vr_T I L (76800 + f.s)).sort = 3 := (vr_is 3 (by decide) oks).mpr (Classical.not_not.mp h3)
              have m4 : ¬ f.mode = 4 := fun z => h7 (by rw [z]; rfl)
              have q3 := vx_r3' s3 r2
              have e9 : cb9 = true := vr_b_t h6
              have T := Tb9 (by omega)
              rw [e9, ez, ea, Int.toNat_natCast] at T
              have e : vx_load M f (vr_A I L 1024) = (0, vt_up (vr_A I L 1024) f.d (vx_ldn f)) := vx_ld6 (by rw [eA]; exact r1) (by rw [eA]; exact r2) (fun z => by rw [eA] at z; omega) (fun z => by rw [eA] at z; omega) (by rw [eA]; exact s3) (fun z => h5 (by rw [z.1]; rfl)) (by rw [eA, dt, ← T])
              have u := vr_upA (I := I) (L := L) (k := 1024) (r := f.d) (t := (vx_ldn f)) (by omega) (by rw [T4]; unfold vx_ldn; rw [if_neg m4]) O4 (F4) (fun n hn e q => e (by omega)) oa
              exact ⟨_, _, by rw [e]; rfl, fun _ => by rw [e]; exact u, F4⟩
            · refine jv_Wp.lift (fun _ Kz => jv_Ev.steps jv_i293 1 (pc' := 199) (l' := [(6, .int (vl_I (vx_slot ((I 206 (76800 + f.s)).toInt64 + (Int32.ofInt f.o).toInt64).toInt))), (4, .long ((I 206 (76800 + f.s)).toInt64 + (Int32.ofInt f.o).toInt64)), (3, .int (I 205 (76800 + f.s))), (2, .int (vl_I bd)), (1, .int (vl_I f.z)), (0, .ref 196)]) (st' := [.ref 196]) rfl Kz) ?_
              refine jv_Wp.lift (fun _ Kz => jv_Ev.m jv_i293 (pc' := 202) (st' := [.ref 208]) (G' := (jv_H K I4 L4 R)) rfl rfl (jv_m_getR (jv_rwK hW 196 12 24 (by decide)) rfl rfl (jv_rwR hW 196 16 208 (by decide))) Kz) ?_
              refine jv_Wp.lift (fun _ Kz => jv_Ev.steps jv_i293 2 (pc' := 206) (l' := [(6, .int (vl_I (vx_slot ((I 206 (76800 + f.s)).toInt64 + (Int32.ofInt f.o).toInt64).toInt))), (4, .long ((I 206 (76800 + f.s)).toInt64 + (Int32.ofInt f.o).toInt64)), (3, .int (I 205 (76800 + f.s))), (2, .int (vl_I bd)), (1, .int (vl_I f.z)), (0, .ref 196)]) (st' := [.ref 196, .int (1024 : Int32), .ref 208]) rfl Kz) ?_
              refine jv_Wp.lift (fun _ Kz => jv_Ev.m jv_i293 (pc' := 209) (st' := [.int (vl_I f.d), .int (1024 : Int32), .ref 208]) (G' := (jv_H K I4 L4 R)) rfl rfl (jv_m_getI (jv_rwK hW 196 12 24 (by decide)) rfl rfl D4.2.1) Kz) ?_
              refine jv_Wp.lift (fun _ Kz => jv_Ev.c jv_i293 (pc' := 212) (S' := [.int (vl_I (8 + (76800 + f.d))), .ref 208]) jv_i254 [.int (1024 : Int32), .int (vl_I f.d)] rfl rfl rfl rfl rfl rfl (vq_row 1024 f.d) rfl rfl Kz) ?_
              refine jv_Wp.lift (fun _ Kz => jv_Ev.steps jv_i293 4 (pc' := 218) (l' := [(6, .int (vl_I (vx_slot ((I 206 (76800 + f.s)).toInt64 + (Int32.ofInt f.o).toInt64).toInt))), (4, .long ((I 206 (76800 + f.s)).toInt64 + (Int32.ofInt f.o).toInt64)), (3, .int (I 205 (76800 + f.s))), (2, .int (vl_I bd)), (1, .int (vl_I f.z)), (0, .ref 196)]) (st' := [.int ((8 : Int32) * (vl_I f.z)), .int (7 : Int32), .int (vl_I (8 + (76800 + f.d))), .ref 208]) rfl Kz) ?_
              have m4 : f.mode = 4 := (vl_I_inj (b := 4) (by omega) (by decide)).mp (Classical.not_not.mp h7)
              have z3 := hm4 m4
              have v5 : vb_toS (vr_S L4 (8 + (76800 + f.d))) = vx_anyz f.z := by have q := congrArg vt_T.val T4; rw [vr_valv (by rw [(vr_is 1 (by decide) O4).mp (by rw [T4]; rfl)]; rfl)] at q; exact q
              obtain ⟨I5, L5, H5, S5, F5⟩ := vq_ext (I := I4) (L := L4) (R := R) (n := n) (sl := sl) (a := 8 + (76800 + f.d)) (d := 7) (m := 8 * f.z) (by omega) hW (by omega) (by decide) (by decide) (by omega) Z4 (by rw [v5]; exact (vx_anyz_in f.z 0).1)
              rw [← vi_mul8] at H5
              have Z5 := F5.1
              have D5 := vr_dec_rf F5 D4
              refine jv_Wp.lift (fun _ Kz => jv_Ev.c jv_i293 (pc' := 221) (S' := []) (G1 := (jv_H K I5 L5 R)) jv_i220 [.ref 208, .int (vl_I (8 + (76800 + f.d))), .int (7 : Int32), .int ((8 : Int32) * (vl_I f.z))] rfl rfl rfl rfl (jv_cal rfl (jv_H_at (jv_rwK hW 208 11 7 (by decide))) rfl rfl) rfl H5 rfl rfl Kz) ?_
              refine jv_Wp.lift (fun _ Kz => jv_Ev.steps jv_i293 3 (pc' := 226) (l' := [(6, .int (vl_I (vx_slot ((I 206 (76800 + f.s)).toInt64 + (Int32.ofInt f.o).toInt64).toInt))), (4, .long ((I 206 (76800 + f.s)).toInt64 + (Int32.ofInt f.o).toInt64)), (3, .int (I 205 (76800 + f.s))), (2, .int (vl_I bd)), (1, .int (vl_I f.z)), (0, .ref 196)]) (st' := [.ref 196, .int (1024 : Int32), .ref 196]) rfl Kz) ?_
              refine jv_Wp.lift (fun _ Kz => jv_Ev.m jv_i293 (pc' := 229) (st' := [.int (vl_I f.d), .int (1024 : Int32), .ref 196]) (G' := (jv_H K I5 L5 R)) rfl rfl (jv_m_getI (jv_rwK hW 196 12 24 (by decide)) rfl rfl D5.2.1) Kz) ?_
              refine jv_Wp.lift (fun _ Kz => jv_Ev.steps jv_i293 1 (pc' := 231) (l' := [(6, .int (vl_I (vx_slot ((I 206 (76800 + f.s)).toInt64 + (Int32.ofInt f.o).toInt64).toInt))), (4, .long ((I 206 (76800 + f.s)).toInt64 + (Int32.ofInt f.o).toInt64)), (3, .int (I 205 (76800 + f.s))), (2, .int (vl_I bd)), (1, .int (vl_I f.z)), (0, .ref 196)]) (st' := [.int (7 : Int32), .int (vl_I f.d), .int (1024 : Int32), .ref 196]) rfl Kz) ?_
              obtain ⟨I6, L6, H6, T6, O6, F6⟩ := vq_setNumber (I := I5) (L := L5) (R := R) (n := n) (sl := sl) 1024 f.d 7 hW Z5 (by omega) (by decide) (by decide)
              refine jv_Wp.lift (fun _ Kz => jv_Ev.c jv_i293 (pc' := 234) (S' := []) (G1 := (jv_H K I6 L6 R)) jv_i273 [.ref 196, .int (1024 : Int32), .int (vl_I f.d), .int (7 : Int32)] rfl rfl rfl rfl (jv_cal rfl (jv_H_at (jv_rwK hW 196 12 24 (by decide))) rfl rfl) rfl H6 rfl rfl Kz) ?_
              refine jv_Wp.lift (fun _ Kz => jv_Ev.steps jv_i293 1 (pc' := 235) (l' := [(6, .int (vl_I (vx_slot ((I 206 (76800 + f.s)).toInt64 + (Int32.ofInt f.o).toInt64).toInt))), (4, .long ((I 206 (76800 + f.s)).toInt64 + (Int32.ofInt f.o).toInt64)), (3, .int (I 205 (76800 + f.s))), (2, .int (vl_I bd)), (1, .int (vl_I f.z)), (0, .ref 196)]) (st' := [.int (0 : Int32)]) rfl Kz) ?_
              refine jv_Wp.of (jv_Ev.ret jv_i293 rfl rfl) ?_
              rw [hQ]
              have b0 : bd = 0 := Nat.le_zero.mp ((vl_I_le (b := 0) (by omega) (by decide)).mp h1)
              obtain ⟨r1, r2⟩ := vr_re_0 ((hbd ()).trans b0)
              have s2 : ¬ (vr_T I L (76800 + f.s)).sort = 2 := fun z => h2 ((vr_is 2 (by decide) oks).mp z)
              have s3 : (vr_T I L (76800 + f.s)).sort = 3 := (vr_is 3 (by decide) oks).mpr (Classical.not_not.mp h3)
              have m4 : f.mode = 4 := (vl_I_inj (b := 4) (by omega) (by decide)).mp (Classical.not_not.mp h7)
              have q3 := vx_r3' s3 r2
              have e9 : cb9 = true := vr_b_t h6
              have T := Tb9 (by omega)
              rw [e9, ez, ea, Int.toNat_natCast] at T
              have e : vx_load M f (vr_A I L 1024) = (0, vt_up (vr_A I L 1024) f.d (vx_ldn f)) := vx_ld6 (by rw [eA]; exact r1) (by rw [eA]; exact r2) (fun z => by rw [eA] at z; omega) (fun z => by rw [eA] at z; omega) (by rw [eA]; exact s3) (fun z => h5 (by rw [z.1]; rfl)) (by rw [eA, dt, ← T])
              have u := vr_upA (I := I) (L := L) (k := 1024) (r := f.d) (t := (vx_ldn f)) (by omega) (by rw [T6, S5, vb_toS_toR, v5, vx_ext_any z3]; unfold vx_ldn; rw [if_pos m4]) O6 (vr_fr_trans F4 (vr_fr_trans (vq_rf_fr F5 (by decide)) F6)) (fun n hn e q => e (by omega)) oa
              exact ⟨_, _, by rw [e]; rfl, fun _ => by rw [e]; exact u, vr_fr_trans F4 (vr_fr_trans (vq_rf_fr F5 (by decide)) F6)⟩
          · refine jv_Wp.lift (fun _ Kz => jv_Ev.steps jv_i293 1 (pc' := 180) (l' := [(6, .int (vl_I (vx_slot ((I 206 (76800 + f.s)).toInt64 + (Int32.ofInt f.o).toInt64).toInt))), (4, .long ((I 206 (76800 + f.s)).toInt64 + (Int32.ofInt f.o).toInt64)), (3, .int (I 205 (76800 + f.s))), (2, .int (vl_I bd)), (1, .int (vl_I f.z)), (0, .ref 196)]) (st' := [.int (5 : Int32)]) rfl Kz) ?_
            refine jv_Wp.of (jv_Ev.ret jv_i293 rfl rfl) ?_
            rw [hQ]
            have b0 : bd = 0 := Nat.le_zero.mp ((vl_I_le (b := 0) (by omega) (by decide)).mp h1)
            obtain ⟨r1, r2⟩ := vr_re_0 ((hbd ()).trans b0)
            have s2 : ¬ (vr_T I L (76800 + f.s)).sort = 2 := fun z => h2 ((vr_is 2 (by decide) oks).mp z)
            have s3 : (vr_T I L (76800 + f.s)).sort = 3 := (vr_is 3 (by decide) oks).mpr (Classical.not_not.mp h3)
            have q3 := vx_r3' s3 r2
            have e9 : cb9 = false := vr_b_f (Classical.not_not.mp h6)
            have T := Tb9 (by omega)
            rw [e9, ez, ea, Int.toNat_natCast] at T
            have e : vx_load M f (vr_A I L 1024) = (5, (vr_A I L 1024)) := vx_ld7 (by rw [eA]; exact r1) (by rw [eA]; exact r2) (fun z => by rw [eA] at z; omega) (fun z => by rw [eA] at z; omega) (by rw [eA]; exact s3) (fun z => h5 (by rw [z.1]; rfl)) (by rw [eA]; rw [show (vr_T I L (76800 + f.s)).det + f.o = (I 206 (76800 + f.s)).toInt + f.o from rfl, ← T]; decide)
            exact ⟨_, _, by rw [e]; rfl, fun z => by rw [e] at z; exact absurd (show (5 : Nat) = 0 from z) (by decide), vr_fr_refl hf⟩
        · refine jv_Wp.lift (fun _ Kz => jv_Ev.steps jv_i293 1 (pc' := 133) (l' := [(6, .int (vl_I (vx_slot ((I 206 (76800 + f.s)).toInt64 + (Int32.ofInt f.o).toInt64).toInt))), (4, .long ((I 206 (76800 + f.s)).toInt64 + (Int32.ofInt f.o).toInt64)), (3, .int (I 205 (76800 + f.s))), (2, .int (vl_I bd)), (1, .int (vl_I f.z)), (0, .ref 196)]) (st' := [.ref 196]) rfl Kz) ?_
          refine jv_Wp.lift (fun _ Kz => jv_Ev.m jv_i293 (pc' := 136) (st' := [.ref 205]) (G' := (jv_H K I L R)) rfl rfl (jv_m_getR (jv_rwK hW 196 12 24 (by decide)) rfl rfl (jv_rwR hW 196 13 205 (by decide))) Kz) ?_
          refine jv_Wp.lift (fun _ Kz => jv_Ev.steps jv_i293 2 (pc' := 141) (l' := [(6, .int (vl_I (vx_slot ((I 206 (76800 + f.s)).toInt64 + (Int32.ofInt f.o).toInt64).toInt))), (4, .long ((I 206 (76800 + f.s)).toInt64 + (Int32.ofInt f.o).toInt64)), (3, .int (I 205 (76800 + f.s))), (2, .int (vl_I bd)), (1, .int (vl_I f.z)), (0, .ref 196)]) (st' := [.int (vl_I (vx_slot ((I 206 (76800 + f.s)).toInt64 + (Int32.ofInt f.o).toInt64).toInt)), .int (1024 : Int32), .ref 205]) rfl Kz) ?_
          refine jv_Wp.lift (fun _ Kz => jv_Ev.c jv_i293 (pc' := 144) (S' := [.int (vl_I (76800 + (vx_slot ((I 206 (76800 + f.s)).toInt64 + (Int32.ofInt f.o).toInt64).toInt))), .ref 205]) jv_i253 [.int (1024 : Int32), .int (vl_I (vx_slot ((I 206 (76800 + f.s)).toInt64 + (Int32.ofInt f.o).toInt64).toInt))] rfl rfl rfl rfl rfl rfl (vq_thing 1024 (vx_slot ((I 206 (76800 + f.s)).toInt64 + (Int32.ofInt f.o).toInt64).toInt)) rfl rfl Kz) ?_
          refine jv_Wp.lift (fun _ Kz => jv_Ev.m jv_i293 (pc' := 145) (st' := [.int (I 205 (76800 + (vx_slot ((I 206 (76800 + f.s)).toInt64 + (Int32.ofInt f.o).toInt64).toInt)))]) (G' := (jv_H K I L R)) rfl rfl (jv_m_ialdv (jv_rwK hW 205 102 77100 (by decide)) rfl (vl_I_ix (by omega) (by decide)) rfl ((congrArg (I 205) (vl_I_nat (by omega))).trans rfl)) Kz) ?_
          refine jv_Wp.lift (fun _ Kz => jv_Ev.steps jv_i293 1 (pc' := 147) (l' := [(6, .int (vl_I (vx_slot ((I 206 (76800 + f.s)).toInt64 + (Int32.ofInt f.o).toInt64).toInt))), (4, .long ((I 206 (76800 + f.s)).toInt64 + (Int32.ofInt f.o).toInt64)), (3, .int (I 205 (76800 + f.s))), (2, .int (vl_I bd)), (1, .int (vl_I f.z)), (0, .ref 196)]) (st' := [.int (9 : Int32), .int (I 205 (76800 + (vx_slot ((I 206 (76800 + f.s)).toInt64 + (Int32.ofInt f.o).toInt64).toInt)))]) rfl Kz) ?_
          refine jv_Wp.cnd jv_i293 (pt := 168) (pe := 150) (p := ((I 205 (76800 + (vx_slot ((I 206 (76800 + f.s)).toInt64 + (Int32.ofInt f.o).toInt64).toInt))) = (9 : Int32))) (q := ((I 205 (76800 + (vx_slot ((I 206 (76800 + f.s)).toInt64 + (Int32.ofInt f.o).toInt64).toInt))) = (9 : Int32))) rfl jv_bc_eq rfl rfl Iff.rfl (fun h8 => ?_) (fun h8 => ?_)
          · refine jv_Wp.lift (fun _ Kz => jv_Ev.steps jv_i293 4 (pc' := 173) (l' := [(6, .int (vl_I (vx_slot ((I 206 (76800 + f.s)).toInt64 + (Int32.ofInt f.o).toInt64).toInt))), (4, .long ((I 206 (76800 + f.s)).toInt64 + (Int32.ofInt f.o).toInt64)), (3, .int (I 205 (76800 + f.s))), (2, .int (vl_I bd)), (1, .int (vl_I f.z)), (0, .ref 196)]) (st' := [.long (vl_I f.z).toInt64, .long ((I 206 (76800 + f.s)).toInt64 + (Int32.ofInt f.o).toInt64), .ref 196]) rfl Kz) ?_
            have b0 : bd = 0 := Nat.le_zero.mp ((vl_I_le (b := 0) (by omega) (by decide)).mp h1)
            obtain ⟨r1, r2⟩ := vr_re_0 ((hbd ()).trans b0)
            have s2 : ¬ (vr_T I L (76800 + f.s)).sort = 2 := fun z => h2 ((vr_is 2 (by decide) oks).mp z)
            have s3 : (vr_T I L (76800 + f.s)).sort = 3 := (vr_is 3 (by decide) oks).mpr (Classical.not_not.mp h3)
            have q3 := vx_r3' s3 r2
            obtain ⟨cb9, Hb9, Tb9⟩ := vq_have (I := I) (L := L) (n := n) (sl := sl) ((I 206 (76800 + f.s)).toInt64 + (Int32.ofInt f.o).toInt64) (vl_I f.z).toInt64 hW oa hj (by omega) (by rw [ea, Int64.toInt_neg, ez, vi_bm (by omega) (by omega)]; omega) (by omega)
            refine jv_Wp.lift (fun _ Kz => jv_Ev.c jv_i293 (pc' := 176) (S' := [.int (vr_b cb9)]) jv_i292 [.ref 196, .long ((I 206 (76800 + f.s)).toInt64 + (Int32.ofInt f.o).toInt64), .long (vl_I f.z).toInt64] rfl rfl rfl rfl (jv_cal rfl (jv_H_at (jv_rwK hW 196 12 24 (by decide))) rfl rfl) rfl Hb9 rfl rfl Kz) ?_
            refine jv_Wp.cnd jv_i293 (pt := 181) (pe := 179) (p := (¬ (vr_b cb9) = 0)) (q := (¬ (vr_b cb9) = 0)) rfl jv_bi_ne rfl rfl Iff.rfl (fun h9 => ?_) (fun h9 => ?_)
            · refine jv_Wp.lift (fun _ Kz => jv_Ev.steps jv_i293 2 (pc' := 183) (l' := [(6, .int (vl_I (vx_slot ((I 206 (76800 + f.s)).toInt64 + (Int32.ofInt f.o).toInt64).toInt))), (4, .long ((I 206 (76800 + f.s)).toInt64 + (Int32.ofInt f.o).toInt64)), (3, .int (I 205 (76800 + f.s))), (2, .int (vl_I bd)), (1, .int (vl_I f.z)), (0, .ref 196)]) (st' := [.ref 196, .ref 196]) rfl Kz) ?_
              refine jv_Wp.lift (fun _ Kz => jv_Ev.m jv_i293 (pc' := 186) (st' := [.int (vl_I f.d), .ref 196]) (G' := (jv_H K I L R)) rfl rfl (jv_m_getI (jv_rwK hW 196 12 24 (by decide)) rfl rfl D.2.1) Kz) ?_
              refine jv_Wp.lift (fun _ Kz => jv_Ev.steps jv_i293 1 (pc' := 187) (l' := [(6, .int (vl_I (vx_slot ((I 206 (76800 + f.s)).toInt64 + (Int32.ofInt f.o).toInt64).toInt))), (4, .long ((I 206 (76800 + f.s)).toInt64 + (Int32.ofInt f.o).toInt64)), (3, .int (I 205 (76800 + f.s))), (2, .int (vl_I bd)), (1, .int (vl_I f.z)), (0, .ref 196)]) (st' := [.int (vl_I f.z), .int (vl_I f.d), .ref 196]) rfl Kz) ?_
              obtain ⟨I7, L7, H7, T7, O7, F7⟩ := vq_setAny (I := I) (L := L) (R := R) (n := n) (sl := sl) f.d f.z hW hf (by omega) hz
              have Z7 := vr_fl_of F7
              have D7 := vr_dec_n F7 D
              refine jv_Wp.lift (fun _ Kz => jv_Ev.c jv_i293 (pc' := 190) (S' := []) (G1 := (jv_H K I7 L7 R)) jv_i274 [.ref 196, .int (vl_I f.d), .int (vl_I f.z)] rfl rfl rfl rfl (jv_cal rfl (jv_H_at (jv_rwK hW 196 12 24 (by decide))) rfl rfl) rfl H7 rfl rfl Kz) ?_
              refine jv_Wp.lift (fun _ Kz => jv_Ev.steps jv_i293 1 (pc' := 191) (l' := [(6, .int (vl_I (vx_slot ((I 206 (76800 + f.s)).toInt64 + (Int32.ofInt f.o).toInt64).toInt))), (4, .long ((I 206 (76800 + f.s)).toInt64 + (Int32.ofInt f.o).toInt64)), (3, .int (I 205 (76800 + f.s))), (2, .int (vl_I bd)), (1, .int (vl_I f.z)), (0, .ref 196)]) (st' := [.ref 196]) rfl Kz) ?_
              refine jv_Wp.lift (fun _ Kz => jv_Ev.c jv_i293 (pc' := 194) (S' := [.int (vl_I f.mode)]) jv_i261 [.ref 196] rfl rfl rfl rfl (jv_cal rfl (jv_H_at (jv_rwK hW 196 12 24 (by decide))) rfl rfl) rfl (vq_mode f hW D7) rfl rfl Kz) ?_
              refine jv_Wp.lift (fun _ Kz => jv_Ev.steps jv_i293 1 (pc' := 195) (l' := [(6, .int (vl_I (vx_slot ((I 206 (76800 + f.s)).toInt64 + (Int32.ofInt f.o).toInt64).toInt))), (4, .long ((I 206 (76800 + f.s)).toInt64 + (Int32.ofInt f.o).toInt64)), (3, .int (I 205 (76800 + f.s))), (2, .int (vl_I bd)), (1, .int (vl_I f.z)), (0, .ref 196)]) (st' := [.int (4 : Int32), .int (vl_I f.mode)]) rfl Kz) ?_
              refine jv_Wp.cnd jv_i293 (pt := 234) (pe := 198) (p := (¬ (vl_I f.mode) = (4 : Int32))) (q := (¬ (vl_I f.mode) = (4 : Int32))) rfl jv_bc_ne rfl rfl Iff.rfl (fun h10 => ?_) (fun h10 => ?_)
              · refine jv_Wp.lift (fun _ Kz => jv_Ev.steps jv_i293 1 (pc' := 235) (l' := [(6, .int (vl_I (vx_slot ((I 206 (76800 + f.s)).toInt64 + (Int32.ofInt f.o).toInt64).toInt))), (4, .long ((I 206 (76800 + f.s)).toInt64 + (Int32.ofInt f.o).toInt64)), (3, .int (I 205 (76800 + f.s))), (2, .int (vl_I bd)), (1, .int (vl_I f.z)), (0, .ref 196)]) (st' := [.int (0 : Int32)]) rfl Kz) ?_
                refine jv_Wp.of (jv_Ev.ret jv_i293 rfl rfl) ?_
                rw [hQ]
                have b0 : bd = 0 := Nat.le_zero.mp ((vl_I_le (b := 0) (by omega) (by decide)).mp h1)
                obtain ⟨r1, r2⟩ := vr_re_0 ((hbd ()).trans b0)
                have s2 : ¬ (vr_T I L (76800 + f.s)).sort = 2 := fun z => h2 ((vr_is 2 (by decide) oks).mp z)
                have s3 : (vr_T I L (76800 + f.s)).sort = 3 := (vr_is 3 (by decide) oks).mpr (Classical.not_not.mp h3)
                have m4 : ¬ f.mode = 4 := fun z => h10 (by rw [z]; rfl)
                have q3 := vx_r3' s3 r2
                have e9 : cb9 = true := vr_b_t h9
                have T := Tb9 (by omega)
                rw [e9, ez, ea, Int.toNat_natCast] at T
                have hs75 := vx_slot_75 (a := (((I 206 (76800 + f.s)).toInt64 + (Int32.ofInt f.o).toInt64)).toInt) ⟨by omega, by omega⟩
                have okl := oa _ hs75
                have e : vx_load M f (vr_A I L 1024) = (0, vt_up (vr_A I L 1024) f.d (vx_ldn f)) := vx_ld6 (by rw [eA]; exact r1) (by rw [eA]; exact r2) (fun z => by rw [eA] at z; omega) (fun z => by rw [eA] at z; omega) (by rw [eA]; exact s3) (fun z => z.2 (by rw [eA, dt, ← ea, vr_A1 hs75]; exact (vr_isB okl (by unfold vx_slot; omega)).mpr h8)) (by rw [eA, dt, ← T])
                have u := vr_upA (I := I) (L := L) (k := 1024) (r := f.d) (t := (vx_ldn f)) (by omega) (by rw [T7]; unfold vx_ldn; rw [if_neg m4]) O7 (F7) (fun n hn e q => e (by omega)) oa
                exact ⟨_, _, by rw [e]; rfl, fun _ => by rw [e]; exact u, F7⟩
              · refine jv_Wp.lift (fun _ Kz => jv_Ev.steps jv_i293 1 (pc' := 199) (l' := [(6, .int (vl_I (vx_slot ((I 206 (76800 + f.s)).toInt64 + (Int32.ofInt f.o).toInt64).toInt))), (4, .long ((I 206 (76800 + f.s)).toInt64 + (Int32.ofInt f.o).toInt64)), (3, .int (I 205 (76800 + f.s))), (2, .int (vl_I bd)), (1, .int (vl_I f.z)), (0, .ref 196)]) (st' := [.ref 196]) rfl Kz) ?_
                refine jv_Wp.lift (fun _ Kz => jv_Ev.m jv_i293 (pc' := 202) (st' := [.ref 208]) (G' := (jv_H K I7 L7 R)) rfl rfl (jv_m_getR (jv_rwK hW 196 12 24 (by decide)) rfl rfl (jv_rwR hW 196 16 208 (by decide))) Kz) ?_
                refine jv_Wp.lift (fun _ Kz => jv_Ev.steps jv_i293 2 (pc' := 206) (l' := [(6, .int (vl_I (vx_slot ((I 206 (76800 + f.s)).toInt64 + (Int32.ofInt f.o).toInt64).toInt))), (4, .long ((I 206 (76800 + f.s)).toInt64 + (Int32.ofInt f.o).toInt64)), (3, .int (I 205 (76800 + f.s))), (2, .int (vl_I bd)), (1, .int (vl_I f.z)), (0, .ref 196)]) (st' := [.ref 196, .int (1024 : Int32), .ref 208]) rfl Kz) ?_
                refine jv_Wp.lift (fun _ Kz => jv_Ev.m jv_i293 (pc' := 209) (st' := [.int (vl_I f.d), .int (1024 : Int32), .ref 208]) (G' := (jv_H K I7 L7 R)) rfl rfl (jv_m_getI (jv_rwK hW 196 12 24 (by decide)) rfl rfl D7.2.1) Kz) ?_
                refine jv_Wp.lift (fun _ Kz => jv_Ev.c jv_i293 (pc' := 212) (S' := [.int (vl_I (8 + (76800 + f.d))), .ref 208]) jv_i254 [.int (1024 : Int32), .int (vl_I f.d)] rfl rfl rfl rfl rfl rfl (vq_row 1024 f.d) rfl rfl Kz) ?_
                refine jv_Wp.lift (fun _ Kz => jv_Ev.steps jv_i293 4 (pc' := 218) (l' := [(6, .int (vl_I (vx_slot ((I 206 (76800 + f.s)).toInt64 + (Int32.ofInt f.o).toInt64).toInt))), (4, .long ((I 206 (76800 + f.s)).toInt64 + (Int32.ofInt f.o).toInt64)), (3, .int (I 205 (76800 + f.s))), (2, .int (vl_I bd)), (1, .int (vl_I f.z)), (0, .ref 196)]) (st' := [.int ((8 : Int32) * (vl_I f.z)), .int (7 : Int32), .int (vl_I (8 + (76800 + f.d))), .ref 208]) rfl Kz) ?_
                have m4 : f.mode = 4 := (vl_I_inj (b := 4) (by omega) (by decide)).mp (Classical.not_not.mp h10)
                have z3 := hm4 m4
                have v8 : vb_toS (vr_S L7 (8 + (76800 + f.d))) = vx_anyz f.z := by have q := congrArg vt_T.val T7; rw [vr_valv (by rw [(vr_is 1 (by decide) O7).mp (by rw [T7]; rfl)]; rfl)] at q; exact q
                obtain ⟨I8, L8, H8, S8, F8⟩ := vq_ext (I := I7) (L := L7) (R := R) (n := n) (sl := sl) (a := 8 + (76800 + f.d)) (d := 7) (m := 8 * f.z) (by omega) hW (by omega) (by decide) (by decide) (by omega) Z7 (by rw [v8]; exact (vx_anyz_in f.z 0).1)
                rw [← vi_mul8] at H8
                have Z8 := F8.1
                have D8 := vr_dec_rf F8 D7
                refine jv_Wp.lift (fun _ Kz => jv_Ev.c jv_i293 (pc' := 221) (S' := []) (G1 := (jv_H K I8 L8 R)) jv_i220 [.ref 208, .int (vl_I (8 + (76800 + f.d))), .int (7 : Int32), .int ((8 : Int32) * (vl_I f.z))] rfl rfl rfl rfl (jv_cal rfl (jv_H_at (jv_rwK hW 208 11 7 (by decide))) rfl rfl) rfl H8 rfl rfl Kz) ?_
                refine jv_Wp.lift (fun _ Kz => jv_Ev.steps jv_i293 3 (pc' := 226) (l' := [(6, .int (vl_I (vx_slot ((I 206 (76800 + f.s)).toInt64 + (Int32.ofInt f.o).toInt64).toInt))), (4, .long ((I 206 (76800 + f.s)).toInt64 + (Int32.ofInt f.o).toInt64)), (3, .int (I 205 (76800 + f.s))), (2, .int (vl_I bd)), (1, .int (vl_I f.z)), (0, .ref 196)]) (st' := [.ref 196, .int (1024 : Int32), .ref 196]) rfl Kz) ?_
                refine jv_Wp.lift (fun _ Kz => jv_Ev.m jv_i293 (pc' := 229) (st' := [.int (vl_I f.d), .int (1024 : Int32), .ref 196]) (G' := (jv_H K I8 L8 R)) rfl rfl (jv_m_getI (jv_rwK hW 196 12 24 (by decide)) rfl rfl D8.2.1) Kz) ?_
                refine jv_Wp.lift (fun _ Kz => jv_Ev.steps jv_i293 1 (pc' := 231) (l' := [(6, .int (vl_I (vx_slot ((I 206 (76800 + f.s)).toInt64 + (Int32.ofInt f.o).toInt64).toInt))), (4, .long ((I 206 (76800 + f.s)).toInt64 + (Int32.ofInt f.o).toInt64)), (3, .int (I 205 (76800 + f.s))), (2, .int (vl_I bd)), (1, .int (vl_I f.z)), (0, .ref 196)]) (st' := [.int (7 : Int32), .int (vl_I f.d), .int (1024 : Int32), .ref 196]) rfl Kz) ?_
                obtain ⟨I9, L9, H9, T9, O9, F9⟩ := vq_setNumber (I := I8) (L := L8) (R := R) (n := n) (sl := sl) 1024 f.d 7 hW Z8 (by omega) (by decide) (by decide)
                refine jv_Wp.lift (fun _ Kz => jv_Ev.c jv_i293 (pc' := 234) (S' := []) (G1 := (jv_H K I9 L9 R)) jv_i273 [.ref 196, .int (1024 : Int32), .int (vl_I f.d), .int (7 : Int32)] rfl rfl rfl rfl (jv_cal rfl (jv_H_at (jv_rwK hW 196 12 24 (by decide))) rfl rfl) rfl H9 rfl rfl Kz) ?_
                refine jv_Wp.lift (fun _ Kz => jv_Ev.steps jv_i293 1 (pc' := 235) (l' := [(6, .int (vl_I (vx_slot ((I 206 (76800 + f.s)).toInt64 + (Int32.ofInt f.o).toInt64).toInt))), (4, .long ((I 206 (76800 + f.s)).toInt64 + (Int32.ofInt f.o).toInt64)), (3, .int (I 205 (76800 + f.s))), (2, .int (vl_I bd)), (1, .int (vl_I f.z)), (0, .ref 196)]) (st' := [.int (0 : Int32)]) rfl Kz) ?_
                refine jv_Wp.of (jv_Ev.ret jv_i293 rfl rfl) ?_
                rw [hQ]
                have b0 : bd = 0 := Nat.le_zero.mp ((vl_I_le (b := 0) (by omega) (by decide)).mp h1)
                obtain ⟨r1, r2⟩ := vr_re_0 ((hbd ()).trans b0)
                have s2 : ¬ (vr_T I L (76800 + f.s)).sort = 2 := fun z => h2 ((vr_is 2 (by decide) oks).mp z)
                have s3 : (vr_T I L (76800 + f.s)).sort = 3 := (vr_is 3 (by decide) oks).mpr (Classical.not_not.mp h3)
                have m4 : f.mode = 4 := (vl_I_inj (b := 4) (by omega) (by decide)).mp (Classical.not_not.mp h10)
                have q3 := vx_r3' s3 r2
                have e9 : cb9 = true := vr_b_t h9
                have T := Tb9 (by omega)
                rw [e9, ez, ea, Int.toNat_natCast] at T
                have hs75 := vx_slot_75 (a := (((I 206 (76800 + f.s)).toInt64 + (Int32.ofInt f.o).toInt64)).toInt) ⟨by omega, by omega⟩
                have okl := oa _ hs75
                have e : vx_load M f (vr_A I L 1024) = (0, vt_up (vr_A I L 1024) f.d (vx_ldn f)) := vx_ld6 (by rw [eA]; exact r1) (by rw [eA]; exact r2) (fun z => by rw [eA] at z; omega) (fun z => by rw [eA] at z; omega) (by rw [eA]; exact s3) (fun z => z.2 (by rw [eA, dt, ← ea, vr_A1 hs75]; exact (vr_isB okl (by unfold vx_slot; omega)).mpr h8)) (by rw [eA, dt, ← T])
                have u := vr_upA (I := I) (L := L) (k := 1024) (r := f.d) (t := (vx_ldn f)) (by omega) (by rw [T9, S8, vb_toS_toR, v8, vx_ext_any z3]; unfold vx_ldn; rw [if_pos m4]) O9 (vr_fr_trans F7 (vr_fr_trans (vq_rf_fr F8 (by decide)) F9)) (fun n hn e q => e (by omega)) oa
                exact ⟨_, _, by rw [e]; rfl, fun _ => by rw [e]; exact u, vr_fr_trans F7 (vr_fr_trans (vq_rf_fr F8 (by decide)) F9)⟩
            · refine jv_Wp.lift (fun _ Kz => jv_Ev.steps jv_i293 1 (pc' := 180) (l' := [(6, .int (vl_I (vx_slot ((I 206 (76800 + f.s)).toInt64 + (Int32.ofInt f.o).toInt64).toInt))), (4, .long ((I 206 (76800 + f.s)).toInt64 + (Int32.ofInt f.o).toInt64)), (3, .int (I 205 (76800 + f.s))), (2, .int (vl_I bd)), (1, .int (vl_I f.z)), (0, .ref 196)]) (st' := [.int (5 : Int32)]) rfl Kz) ?_
              refine jv_Wp.of (jv_Ev.ret jv_i293 rfl rfl) ?_
              rw [hQ]
              have b0 : bd = 0 := Nat.le_zero.mp ((vl_I_le (b := 0) (by omega) (by decide)).mp h1)
              obtain ⟨r1, r2⟩ := vr_re_0 ((hbd ()).trans b0)
              have s2 : ¬ (vr_T I L (76800 + f.s)).sort = 2 := fun z => h2 ((vr_is 2 (by decide) oks).mp z)
              have s3 : (vr_T I L (76800 + f.s)).sort = 3 := (vr_is 3 (by decide) oks).mpr (Classical.not_not.mp h3)
              have q3 := vx_r3' s3 r2
              have e9 : cb9 = false := vr_b_f (Classical.not_not.mp h9)
              have T := Tb9 (by omega)
              rw [e9, ez, ea, Int.toNat_natCast] at T
              have hs75 := vx_slot_75 (a := (((I 206 (76800 + f.s)).toInt64 + (Int32.ofInt f.o).toInt64)).toInt) ⟨by omega, by omega⟩
              have okl := oa _ hs75
              have e : vx_load M f (vr_A I L 1024) = (5, (vr_A I L 1024)) := vx_ld7 (by rw [eA]; exact r1) (by rw [eA]; exact r2) (fun z => by rw [eA] at z; omega) (fun z => by rw [eA] at z; omega) (by rw [eA]; exact s3) (fun z => z.2 (by rw [eA, dt, ← ea, vr_A1 hs75]; exact (vr_isB okl (by unfold vx_slot; omega)).mpr h8)) (by rw [eA]; rw [show (vr_T I L (76800 + f.s)).det + f.o = (I 206 (76800 + f.s)).toInt + f.o from rfl, ← T]; decide)
              exact ⟨_, _, by rw [e]; rfl, fun z => by rw [e] at z; exact absurd (show (5 : Nat) = 0 from z) (by decide), vr_fr_refl hf⟩
          · refine jv_Wp.lift (fun _ Kz => jv_Ev.steps jv_i293 5 (pc' := 160) (l' := [(6, .int (vl_I (vx_slot ((I 206 (76800 + f.s)).toInt64 + (Int32.ofInt f.o).toInt64).toInt))), (4, .long ((I 206 (76800 + f.s)).toInt64 + (Int32.ofInt f.o).toInt64)), (3, .int (I 205 (76800 + f.s))), (2, .int (vl_I bd)), (1, .int (vl_I f.z)), (0, .ref 196)]) (st' := [.ref 196, .int (1024 : Int32), .int (vl_I (vx_slot ((I 206 (76800 + f.s)).toInt64 + (Int32.ofInt f.o).toInt64).toInt)), .int (1024 : Int32), .ref 196]) rfl Kz) ?_
            refine jv_Wp.lift (fun _ Kz => jv_Ev.m jv_i293 (pc' := 163) (st' := [.int (vl_I f.d), .int (1024 : Int32), .int (vl_I (vx_slot ((I 206 (76800 + f.s)).toInt64 + (Int32.ofInt f.o).toInt64).toInt)), .int (1024 : Int32), .ref 196]) (G' := (jv_H K I L R)) rfl rfl (jv_m_getI (jv_rwK hW 196 12 24 (by decide)) rfl rfl D.2.1) Kz) ?_
            have b0 : bd = 0 := Nat.le_zero.mp ((vl_I_le (b := 0) (by omega) (by decide)).mp h1)
            obtain ⟨r1, r2⟩ := vr_re_0 ((hbd ()).trans b0)
            have s2 : ¬ (vr_T I L (76800 + f.s)).sort = 2 := fun z => h2 ((vr_is 2 (by decide) oks).mp z)
            have s3 : (vr_T I L (76800 + f.s)).sort = 3 := (vr_is 3 (by decide) oks).mpr (Classical.not_not.mp h3)
            have q3 := vx_r3' s3 r2
            have hs75 := vx_slot_75 (a := (((I 206 (76800 + f.s)).toInt64 + (Int32.ofInt f.o).toInt64)).toInt) ⟨by omega, by omega⟩
            obtain ⟨I10, L10, H10, A10, B10, C10, S10, F10⟩ := vq_copyThing (I := I) (L := L) (R := R) (n := n) (sl := sl) 1024 (vx_slot ((I 206 (76800 + f.s)).toInt64 + (Int32.ofInt f.o).toInt64).toInt) 1024 f.d hW hf (by omega) (by omega)
            refine jv_Wp.lift (fun _ Kz => jv_Ev.c jv_i293 (pc' := 166) (S' := []) (G1 := (jv_H K I10 L10 R)) jv_i275 [.ref 196, .int (1024 : Int32), .int (vl_I (vx_slot ((I 206 (76800 + f.s)).toInt64 + (Int32.ofInt f.o).toInt64).toInt)), .int (1024 : Int32), .int (vl_I f.d)] rfl rfl rfl rfl (jv_cal rfl (jv_H_at (jv_rwK hW 196 12 24 (by decide))) rfl rfl) rfl H10 rfl rfl Kz) ?_
            refine jv_Wp.lift (fun _ Kz => jv_Ev.steps jv_i293 1 (pc' := 167) (l' := [(6, .int (vl_I (vx_slot ((I 206 (76800 + f.s)).toInt64 + (Int32.ofInt f.o).toInt64).toInt))), (4, .long ((I 206 (76800 + f.s)).toInt64 + (Int32.ofInt f.o).toInt64)), (3, .int (I 205 (76800 + f.s))), (2, .int (vl_I bd)), (1, .int (vl_I f.z)), (0, .ref 196)]) (st' := [.int (0 : Int32)]) rfl Kz) ?_
            refine jv_Wp.of (jv_Ev.ret jv_i293 rfl rfl) ?_
            rw [hQ]
            have b0 : bd = 0 := Nat.le_zero.mp ((vl_I_le (b := 0) (by omega) (by decide)).mp h1)
            obtain ⟨r1, r2⟩ := vr_re_0 ((hbd ()).trans b0)
            have s2 : ¬ (vr_T I L (76800 + f.s)).sort = 2 := fun z => h2 ((vr_is 2 (by decide) oks).mp z)
            have s3 : (vr_T I L (76800 + f.s)).sort = 3 := (vr_is 3 (by decide) oks).mpr (Classical.not_not.mp h3)
            have q3 := vx_r3' s3 r2
            have hs75 := vx_slot_75 (a := (((I 206 (76800 + f.s)).toInt64 + (Int32.ofInt f.o).toInt64)).toInt) ⟨by omega, by omega⟩
            have okl := oa _ hs75
            have z8 : f.z = 8 := (vl_I_inj (b := 8) (by omega) (by decide)).mp (Classical.not_not.mp h5)
            have sl0 : ¬ (vr_T I L (76800 + (vx_slot ((I 206 (76800 + f.s)).toInt64 + (Int32.ofInt f.o).toInt64).toInt))).sort = 0 := fun z => h8 ((vr_isB okl (by unfold vx_slot; omega)).mp z)
            have e : vx_load M f (vr_A I L 1024) = (0, vt_up (vr_A I L 1024) f.d (vr_T I L (76800 + (vx_slot ((I 206 (76800 + f.s)).toInt64 + (Int32.ofInt f.o).toInt64).toInt)))) := by have q := vx_ld5 (M := M) (f := f) (A := (vr_A I L 1024)) (by rw [eA]; exact r1) (by rw [eA]; exact r2) (fun z => by rw [eA] at z; omega) (fun z => by rw [eA] at z; omega) (by rw [eA]; exact s3) (by rw [eA, dt, ← ea, vr_A1 hs75]; exact ⟨z8, sl0⟩); rw [eA, dt, ← ea, vr_A1 hs75] at q; exact q
            have u := vr_upA (I := I) (L := L) (k := 1024) (r := f.d) (t := (vr_T I L (76800 + (vx_slot ((I 206 (76800 + f.s)).toInt64 + (Int32.ofInt f.o).toInt64).toInt)))) (by omega) (vr_T_eq A10 B10 C10 S10) (vr_ok_mv A10 B10 C10 okl (vr_slot okl (by unfold vx_slot; omega)) h8) (F10) (fun n hn e q => e (by omega)) oa
            exact ⟨_, _, by rw [e]; rfl, fun _ => by rw [e]; exact u, F10⟩
    · refine jv_Wp.lift (fun _ Kz => jv_Ev.steps jv_i293 3 (pc' := 66) (l' := [(4, .long ((I 206 (76800 + f.s)).toInt64 + (Int32.ofInt f.o).toInt64)), (3, .int (I 205 (76800 + f.s))), (2, .int (vl_I bd)), (1, .int (vl_I f.z)), (0, .ref 196)]) (st' := [.int (lg_cmp ((I 206 (76800 + f.s)).toInt64 + (Int32.ofInt f.o).toInt64) (16 : Int64))]) rfl Kz) ?_
      refine jv_Wp.cnd jv_i293 (pt := 114) (pe := 69) (p := (0 ≤ (lg_cmp ((I 206 (76800 + f.s)).toInt64 + (Int32.ofInt f.o).toInt64) (16 : Int64)))) (q := ((16 : Int64) ≤ ((I 206 (76800 + f.s)).toInt64 + (Int32.ofInt f.o).toInt64))) rfl jv_bi_ge rfl rfl (lg_cmp_ge ((I 206 (76800 + f.s)).toInt64 + (Int32.ofInt f.o).toInt64) (16 : Int64)) (fun h11 => ?_) (fun h11 => ?_)
      · refine jv_Wp.lift (fun _ Kz => jv_Ev.steps jv_i293 2 (pc' := 116) (l' := [(4, .long ((I 206 (76800 + f.s)).toInt64 + (Int32.ofInt f.o).toInt64)), (3, .int (I 205 (76800 + f.s))), (2, .int (vl_I bd)), (1, .int (vl_I f.z)), (0, .ref 196)]) (st' := [.int (3 : Int32), .int (I 205 (76800 + f.s))]) rfl Kz) ?_
        refine jv_Wp.cnd jv_i293 (pt := 181) (pe := 119) (p := (¬ (I 205 (76800 + f.s)) = (3 : Int32))) (q := (¬ (I 205 (76800 + f.s)) = (3 : Int32))) rfl jv_bc_ne rfl rfl Iff.rfl (fun _ => ?_) (fun hz => absurd (fun z => absurd (z.symm.trans (Classical.not_not.mp h2)) (by decide)) hz)
        refine jv_Wp.lift (fun _ Kz => jv_Ev.steps jv_i293 2 (pc' := 183) (l' := [(4, .long ((I 206 (76800 + f.s)).toInt64 + (Int32.ofInt f.o).toInt64)), (3, .int (I 205 (76800 + f.s))), (2, .int (vl_I bd)), (1, .int (vl_I f.z)), (0, .ref 196)]) (st' := [.ref 196, .ref 196]) rfl Kz) ?_
        refine jv_Wp.lift (fun _ Kz => jv_Ev.m jv_i293 (pc' := 186) (st' := [.int (vl_I f.d), .ref 196]) (G' := (jv_H K I L R)) rfl rfl (jv_m_getI (jv_rwK hW 196 12 24 (by decide)) rfl rfl D.2.1) Kz) ?_
        refine jv_Wp.lift (fun _ Kz => jv_Ev.steps jv_i293 1 (pc' := 187) (l' := [(4, .long ((I 206 (76800 + f.s)).toInt64 + (Int32.ofInt f.o).toInt64)), (3, .int (I 205 (76800 + f.s))), (2, .int (vl_I bd)), (1, .int (vl_I f.z)), (0, .ref 196)]) (st' := [.int (vl_I f.z), .int (vl_I f.d), .ref 196]) rfl Kz) ?_
        obtain ⟨I11, L11, H11, T11, O11, F11⟩ := vq_setAny (I := I) (L := L) (R := R) (n := n) (sl := sl) f.d f.z hW hf (by omega) hz
        have Z11 := vr_fl_of F11
        have D11 := vr_dec_n F11 D
        refine jv_Wp.lift (fun _ Kz => jv_Ev.c jv_i293 (pc' := 190) (S' := []) (G1 := (jv_H K I11 L11 R)) jv_i274 [.ref 196, .int (vl_I f.d), .int (vl_I f.z)] rfl rfl rfl rfl (jv_cal rfl (jv_H_at (jv_rwK hW 196 12 24 (by decide))) rfl rfl) rfl H11 rfl rfl Kz) ?_
        refine jv_Wp.lift (fun _ Kz => jv_Ev.steps jv_i293 1 (pc' := 191) (l' := [(4, .long ((I 206 (76800 + f.s)).toInt64 + (Int32.ofInt f.o).toInt64)), (3, .int (I 205 (76800 + f.s))), (2, .int (vl_I bd)), (1, .int (vl_I f.z)), (0, .ref 196)]) (st' := [.ref 196]) rfl Kz) ?_
        refine jv_Wp.lift (fun _ Kz => jv_Ev.c jv_i293 (pc' := 194) (S' := [.int (vl_I f.mode)]) jv_i261 [.ref 196] rfl rfl rfl rfl (jv_cal rfl (jv_H_at (jv_rwK hW 196 12 24 (by decide))) rfl rfl) rfl (vq_mode f hW D11) rfl rfl Kz) ?_
        refine jv_Wp.lift (fun _ Kz => jv_Ev.steps jv_i293 1 (pc' := 195) (l' := [(4, .long ((I 206 (76800 + f.s)).toInt64 + (Int32.ofInt f.o).toInt64)), (3, .int (I 205 (76800 + f.s))), (2, .int (vl_I bd)), (1, .int (vl_I f.z)), (0, .ref 196)]) (st' := [.int (4 : Int32), .int (vl_I f.mode)]) rfl Kz) ?_
        refine jv_Wp.cnd jv_i293 (pt := 234) (pe := 198) (p := (¬ (vl_I f.mode) = (4 : Int32))) (q := (¬ (vl_I f.mode) = (4 : Int32))) rfl jv_bc_ne rfl rfl Iff.rfl (fun h12 => ?_) (fun h12 => ?_)
        · refine jv_Wp.lift (fun _ Kz => jv_Ev.steps jv_i293 1 (pc' := 235) (l' := [(4, .long ((I 206 (76800 + f.s)).toInt64 + (Int32.ofInt f.o).toInt64)), (3, .int (I 205 (76800 + f.s))), (2, .int (vl_I bd)), (1, .int (vl_I f.z)), (0, .ref 196)]) (st' := [.int (0 : Int32)]) rfl Kz) ?_
          refine jv_Wp.of (jv_Ev.ret jv_i293 rfl rfl) ?_
          rw [hQ]
          have b0 : bd = 0 := Nat.le_zero.mp ((vl_I_le (b := 0) (by omega) (by decide)).mp h1)
          obtain ⟨r1, r2⟩ := vr_re_0 ((hbd ()).trans b0)
          have s2 : (vr_T I L (76800 + f.s)).sort = 2 := (vr_is 2 (by decide) oks).mpr (Classical.not_not.mp h2)
          have l16 : (16 : Int64).toInt = 16 := rfl
          have y1 : (16 : Int64).toInt ≤ ((I 206 (76800 + f.s)).toInt64 + (Int32.ofInt f.o).toInt64).toInt := Int64.le_iff_toInt_le.mp h11
          have m4 : ¬ f.mode = 4 := fun z => h12 (by rw [z]; rfl)
          have e : vx_load M f (vr_A I L 1024) = (0, vt_up (vr_A I L 1024) f.d (vx_ldn f)) := vx_ld8 (by rw [eA]; exact r1) (by rw [eA]; exact r2) (fun z => by rw [eA, dt] at z; omega) (fun z => by rw [eA, dt] at z; omega) (by rw [eA]; omega)
          have u := vr_upA (I := I) (L := L) (k := 1024) (r := f.d) (t := (vx_ldn f)) (by omega) (by rw [T11]; unfold vx_ldn; rw [if_neg m4]) O11 (F11) (fun n hn e q => e (by omega)) oa
          exact ⟨_, _, by rw [e]; rfl, fun _ => by rw [e]; exact u, F11⟩
        · refine jv_Wp.lift (fun _ Kz => jv_Ev.steps jv_i293 1 (pc' := 199) (l' := [(4, .long ((I 206 (76800 + f.s)).toInt64 + (Int32.ofInt f.o).toInt64)), (3, .int (I 205 (76800 + f.s))), (2, .int (vl_I bd)), (1, .int (vl_I f.z)), (0, .ref 196)]) (st' := [.ref 196]) rfl Kz) ?_
          refine jv_Wp.lift (fun _ Kz => jv_Ev.m jv_i293 (pc' := 202) (st' := [.ref 208]) (G' := (jv_H K I11 L11 R)) rfl rfl (jv_m_getR (jv_rwK hW 196 12 24 (by decide)) rfl rfl (jv_rwR hW 196 16 208 (by decide))) Kz) ?_
          refine jv_Wp.lift (fun _ Kz => jv_Ev.steps jv_i293 2 (pc' := 206) (l' := [(4, .long ((I 206 (76800 + f.s)).toInt64 + (Int32.ofInt f.o).toInt64)), (3, .int (I 205 (76800 + f.s))), (2, .int (vl_I bd)), (1, .int (vl_I f.z)), (0, .ref 196)]) (st' := [.ref 196, .int (1024 : Int32), .ref 208]) rfl Kz) ?_
          refine jv_Wp.lift (fun _ Kz => jv_Ev.m jv_i293 (pc' := 209) (st' := [.int (vl_I f.d), .int (1024 : Int32), .ref 208]) (G' := (jv_H K I11 L11 R)) rfl rfl (jv_m_getI (jv_rwK hW 196 12 24 (by decide)) rfl rfl D11.2.1) Kz) ?_
          refine jv_Wp.lift (fun _ Kz => jv_Ev.c jv_i293 (pc' := 212) (S' := [.int (vl_I (8 + (76800 + f.d))), .ref 208]) jv_i254 [.int (1024 : Int32), .int (vl_I f.d)] rfl rfl rfl rfl rfl rfl (vq_row 1024 f.d) rfl rfl Kz) ?_
          refine jv_Wp.lift (fun _ Kz => jv_Ev.steps jv_i293 4 (pc' := 218) (l' := [(4, .long ((I 206 (76800 + f.s)).toInt64 + (Int32.ofInt f.o).toInt64)), (3, .int (I 205 (76800 + f.s))), (2, .int (vl_I bd)), (1, .int (vl_I f.z)), (0, .ref 196)]) (st' := [.int ((8 : Int32) * (vl_I f.z)), .int (7 : Int32), .int (vl_I (8 + (76800 + f.d))), .ref 208]) rfl Kz) ?_
          have m4 : f.mode = 4 := (vl_I_inj (b := 4) (by omega) (by decide)).mp (Classical.not_not.mp h12)
          have z3 := hm4 m4
          have v12 : vb_toS (vr_S L11 (8 + (76800 + f.d))) = vx_anyz f.z := by have q := congrArg vt_T.val T11; rw [vr_valv (by rw [(vr_is 1 (by decide) O11).mp (by rw [T11]; rfl)]; rfl)] at q; exact q
          obtain ⟨I12, L12, H12, S12, F12⟩ := vq_ext (I := I11) (L := L11) (R := R) (n := n) (sl := sl) (a := 8 + (76800 + f.d)) (d := 7) (m := 8 * f.z) (by omega) hW (by omega) (by decide) (by decide) (by omega) Z11 (by rw [v12]; exact (vx_anyz_in f.z 0).1)
          rw [← vi_mul8] at H12
          have Z12 := F12.1
          have D12 := vr_dec_rf F12 D11
          refine jv_Wp.lift (fun _ Kz => jv_Ev.c jv_i293 (pc' := 221) (S' := []) (G1 := (jv_H K I12 L12 R)) jv_i220 [.ref 208, .int (vl_I (8 + (76800 + f.d))), .int (7 : Int32), .int ((8 : Int32) * (vl_I f.z))] rfl rfl rfl rfl (jv_cal rfl (jv_H_at (jv_rwK hW 208 11 7 (by decide))) rfl rfl) rfl H12 rfl rfl Kz) ?_
          refine jv_Wp.lift (fun _ Kz => jv_Ev.steps jv_i293 3 (pc' := 226) (l' := [(4, .long ((I 206 (76800 + f.s)).toInt64 + (Int32.ofInt f.o).toInt64)), (3, .int (I 205 (76800 + f.s))), (2, .int (vl_I bd)), (1, .int (vl_I f.z)), (0, .ref 196)]) (st' := [.ref 196, .int (1024 : Int32), .ref 196]) rfl Kz) ?_
          refine jv_Wp.lift (fun _ Kz => jv_Ev.m jv_i293 (pc' := 229) (st' := [.int (vl_I f.d), .int (1024 : Int32), .ref 196]) (G' := (jv_H K I12 L12 R)) rfl rfl (jv_m_getI (jv_rwK hW 196 12 24 (by decide)) rfl rfl D12.2.1) Kz) ?_
          refine jv_Wp.lift (fun _ Kz => jv_Ev.steps jv_i293 1 (pc' := 231) (l' := [(4, .long ((I 206 (76800 + f.s)).toInt64 + (Int32.ofInt f.o).toInt64)), (3, .int (I 205 (76800 + f.s))), (2, .int (vl_I bd)), (1, .int (vl_I f.z)), (0, .ref 196)]) (st' := [.int (7 : Int32), .int (vl_I f.d), .int (1024 : Int32), .ref 196]) rfl Kz) ?_
          obtain ⟨I13, L13, H13, T13, O13, F13⟩ := vq_setNumber (I := I12) (L := L12) (R := R) (n := n) (sl := sl) 1024 f.d 7 hW Z12 (by omega) (by decide) (by decide)
          refine jv_Wp.lift (fun _ Kz => jv_Ev.c jv_i293 (pc' := 234) (S' := []) (G1 := (jv_H K I13 L13 R)) jv_i273 [.ref 196, .int (1024 : Int32), .int (vl_I f.d), .int (7 : Int32)] rfl rfl rfl rfl (jv_cal rfl (jv_H_at (jv_rwK hW 196 12 24 (by decide))) rfl rfl) rfl H13 rfl rfl Kz) ?_
          refine jv_Wp.lift (fun _ Kz => jv_Ev.steps jv_i293 1 (pc' := 235) (l' := [(4, .long ((I 206 (76800 + f.s)).toInt64 + (Int32.ofInt f.o).toInt64)), (3, .int (I 205 (76800 + f.s))), (2, .int (vl_I bd)), (1, .int (vl_I f.z)), (0, .ref 196)]) (st' := [.int (0 : Int32)]) rfl Kz) ?_
          refine jv_Wp.of (jv_Ev.ret jv_i293 rfl rfl) ?_
          rw [hQ]
          have b0 : bd = 0 := Nat.le_zero.mp ((vl_I_le (b := 0) (by omega) (by decide)).mp h1)
          obtain ⟨r1, r2⟩ := vr_re_0 ((hbd ()).trans b0)
          have s2 : (vr_T I L (76800 + f.s)).sort = 2 := (vr_is 2 (by decide) oks).mpr (Classical.not_not.mp h2)
          have l16 : (16 : Int64).toInt = 16 := rfl
          have y1 : (16 : Int64).toInt ≤ ((I 206 (76800 + f.s)).toInt64 + (Int32.ofInt f.o).toInt64).toInt := Int64.le_iff_toInt_le.mp h11
          have m4 : f.mode = 4 := (vl_I_inj (b := 4) (by omega) (by decide)).mp (Classical.not_not.mp h12)
          have e : vx_load M f (vr_A I L 1024) = (0, vt_up (vr_A I L 1024) f.d (vx_ldn f)) := vx_ld8 (by rw [eA]; exact r1) (by rw [eA]; exact r2) (fun z => by rw [eA, dt] at z; omega) (fun z => by rw [eA, dt] at z; omega) (by rw [eA]; omega)
          have u := vr_upA (I := I) (L := L) (k := 1024) (r := f.d) (t := (vx_ldn f)) (by omega) (by rw [T13, S12, vb_toS_toR, v12, vx_ext_any z3]; unfold vx_ldn; rw [if_pos m4]) O13 (vr_fr_trans F11 (vr_fr_trans (vq_rf_fr F12 (by decide)) F13)) (fun n hn e q => e (by omega)) oa
          exact ⟨_, _, by rw [e]; rfl, fun _ => by rw [e]; exact u, vr_fr_trans F11 (vr_fr_trans (vq_rf_fr F12 (by decide)) F13)⟩
      · refine jv_Wp.lift (fun _ Kz => jv_Ev.steps jv_i293 3 (pc' := 74) (l' := [(4, .long ((I 206 (76800 + f.s)).toInt64 + (Int32.ofInt f.o).toInt64)), (3, .int (I 205 (76800 + f.s))), (2, .int (vl_I bd)), (1, .int (vl_I f.z)), (0, .ref 196)]) (st' := [.ref 196, .int (1024 : Int32), .ref 196]) rfl Kz) ?_
        refine jv_Wp.lift (fun _ Kz => jv_Ev.m jv_i293 (pc' := 77) (st' := [.int (vl_I f.d), .int (1024 : Int32), .ref 196]) (G' := (jv_H K I L R)) rfl rfl (jv_m_getI (jv_rwK hW 196 12 24 (by decide)) rfl rfl D.2.1) Kz) ?_
        refine jv_Wp.lift (fun _ Kz => jv_Ev.steps jv_i293 3 (pc' := 81) (l' := [(4, .long ((I 206 (76800 + f.s)).toInt64 + (Int32.ofInt f.o).toInt64)), (3, .int (I 205 (76800 + f.s))), (2, .int (vl_I bd)), (1, .int (vl_I f.z)), (0, .ref 196)]) (st' := [.int (lg_cmp ((I 206 (76800 + f.s)).toInt64 + (Int32.ofInt f.o).toInt64) (0 : Int64)), .int (vl_I f.d), .int (1024 : Int32), .ref 196]) rfl Kz) ?_
        refine jv_Wp.cnd jv_i293 (pt := 88) (pe := 84) (p := (¬ (lg_cmp ((I 206 (76800 + f.s)).toInt64 + (Int32.ofInt f.o).toInt64) (0 : Int64)) = 0)) (q := (¬ ((I 206 (76800 + f.s)).toInt64 + (Int32.ofInt f.o).toInt64) = (0 : Int64))) rfl jv_bi_ne rfl rfl (not_congr (lg_cmp_eq ((I 206 (76800 + f.s)).toInt64 + (Int32.ofInt f.o).toInt64) (0 : Int64))) (fun h13 => ?_) (fun h13 => ?_)
        · refine jv_Wp.lift (fun _ Kz => jv_Ev.steps jv_i293 2 (pc' := 90) (l' := [(4, .long ((I 206 (76800 + f.s)).toInt64 + (Int32.ofInt f.o).toInt64)), (3, .int (I 205 (76800 + f.s))), (2, .int (vl_I bd)), (1, .int (vl_I f.z)), (0, .ref 196)]) (st' := [.int (0 : Int32), .int (5 : Int32), .int (vl_I f.d), .int (1024 : Int32), .ref 196]) rfl Kz) ?_
          obtain ⟨I14, L14, H14, A14, B14, C14, F14, eL14⟩ := vq_setx (I := I) (L := L) (R := R) (n := n) (sl := sl) 1024 f.d (5 : Int32) (0 : Int32) hW hf (by omega)
          have Z14 := vr_fl_of F14
          have D14 := vr_dec_n F14 D
          refine jv_Wp.lift (fun _ Kz => jv_Ev.c jv_i293 (pc' := 93) (S' := []) (G1 := (jv_H K I14 L14 R)) jv_i272 [.ref 196, .int (1024 : Int32), .int (vl_I f.d), .int (5 : Int32), .int (0 : Int32)] rfl rfl rfl rfl (jv_cal rfl (jv_H_at (jv_rwK hW 196 12 24 (by decide))) rfl rfl) rfl H14 rfl rfl Kz) ?_
          refine jv_Wp.lift (fun _ Kz => jv_Ev.steps jv_i293 1 (pc' := 94) (l' := [(4, .long ((I 206 (76800 + f.s)).toInt64 + (Int32.ofInt f.o).toInt64)), (3, .int (I 205 (76800 + f.s))), (2, .int (vl_I bd)), (1, .int (vl_I f.z)), (0, .ref 196)]) (st' := [.ref 196]) rfl Kz) ?_
          refine jv_Wp.lift (fun _ Kz => jv_Ev.m jv_i293 (pc' := 97) (st' := [.ref 208]) (G' := (jv_H K I14 L14 R)) rfl rfl (jv_m_getR (jv_rwK hW 196 12 24 (by decide)) rfl rfl (jv_rwR hW 196 16 208 (by decide))) Kz) ?_
          refine jv_Wp.lift (fun _ Kz => jv_Ev.steps jv_i293 3 (pc' := 103) (l' := [(4, .long ((I 206 (76800 + f.s)).toInt64 + (Int32.ofInt f.o).toInt64)), (3, .int (I 205 (76800 + f.s))), (2, .int (vl_I bd)), (1, .int (vl_I f.z)), (0, .ref 196)]) (st' := [.ref 196, .int (1024 : Int32), .int (6 : Int32), .ref 208]) rfl Kz) ?_
          refine jv_Wp.lift (fun _ Kz => jv_Ev.m jv_i293 (pc' := 106) (st' := [.int (vl_I f.d), .int (1024 : Int32), .int (6 : Int32), .ref 208]) (G' := (jv_H K I14 L14 R)) rfl rfl (jv_m_getI (jv_rwK hW 196 12 24 (by decide)) rfl rfl D14.2.1) Kz) ?_
          refine jv_Wp.lift (fun _ Kz => jv_Ev.c jv_i293 (pc' := 109) (S' := [.int (vl_I (8 + (76800 + f.d))), .int (6 : Int32), .ref 208]) jv_i254 [.int (1024 : Int32), .int (vl_I f.d)] rfl rfl rfl rfl rfl rfl (vq_row 1024 f.d) rfl rfl Kz) ?_
          obtain ⟨I15, L15, H15, S15, F15⟩ := vq_copy (I := I14) (L := L14) (R := R) (n := n) (sl := sl) (a := 6) (d := 8 + (76800 + f.d)) hW (by decide) (by omega) Z14 (Z14 _ (by decide))
          refine jv_Wp.lift (fun _ Kz => jv_Ev.c jv_i293 (pc' := 112) (S' := []) (G1 := (jv_H K I15 L15 R)) jv_i208 [.ref 208, .int (6 : Int32), .int (vl_I (8 + (76800 + f.d)))] rfl rfl rfl rfl (jv_cal rfl (jv_H_at (jv_rwK hW 208 11 7 (by decide))) rfl rfl) rfl H15 rfl rfl Kz) ?_
          refine jv_Wp.lift (fun _ Kz => jv_Ev.steps jv_i293 1 (pc' := 113) (l' := [(4, .long ((I 206 (76800 + f.s)).toInt64 + (Int32.ofInt f.o).toInt64)), (3, .int (I 205 (76800 + f.s))), (2, .int (vl_I bd)), (1, .int (vl_I f.z)), (0, .ref 196)]) (st' := [.int (0 : Int32)]) rfl Kz) ?_
          refine jv_Wp.of (jv_Ev.ret jv_i293 rfl rfl) ?_
          rw [hQ]
          have b0 : bd = 0 := Nat.le_zero.mp ((vl_I_le (b := 0) (by omega) (by decide)).mp h1)
          obtain ⟨r1, r2⟩ := vr_re_0 ((hbd ()).trans b0)
          have s2 : (vr_T I L (76800 + f.s)).sort = 2 := (vr_is 2 (by decide) oks).mpr (Classical.not_not.mp h2)
          have l0 : (0 : Int64).toInt = 0 := rfl
          have l16 : (16 : Int64).toInt = 16 := rfl
          have y1 : ¬ (16 : Int64).toInt ≤ ((I 206 (76800 + f.s)).toInt64 + (Int32.ofInt f.o).toInt64).toInt := fun z => h11 (Int64.le_iff_toInt_le.mpr z)
          have y2 : ¬ ((I 206 (76800 + f.s)).toInt64 + (Int32.ofInt f.o).toInt64).toInt = (0 : Int64).toInt := fun z => h13 (Int64.toInt_inj.mp z)
          have q2 := vx_r2' s2 hz r2
          have q5 : I15 205 (76800 + f.d) = 5 := (F15.2.1 205 _ (by decide)).trans A14
          have q6 : I15 206 (76800 + f.d) = 0 := (F15.2.1 206 _ (by decide)).trans B14
          have q7 : I15 207 (76800 + f.d) = -1 := (F15.2.1 207 _ (by decide)).trans C14
          have e : vx_load M f (vr_A I L 1024) = (0, vt_up (vr_A I L 1024) f.d vt_end) := vx_ld4 (by rw [eA]; exact r1) (by rw [eA]; exact r2) (fun z => by rw [eA, dt] at z; omega) (by rw [eA]; exact ⟨s2, by rw [dt]; omega⟩)
          have u := vr_upA (I := I) (L := L) (k := 1024) (r := f.d) (t := vt_end) (by omega) ((vr_T_set q5 q6 q7).trans rfl) (by unfold vr_ok; rw [q5, q6, q7]; exact Or.inr (Or.inr (Or.inl ⟨Or.inr (Or.inr rfl), rfl, rfl⟩))) (vr_fr_trans F14 (vq_rf_frx F15 rfl)) (fun n hn e q => e (by omega)) oa
          exact ⟨_, _, by rw [e]; rfl, fun _ => by rw [e]; exact u, vr_fr_trans F14 (vq_rf_frx F15 rfl)⟩
        · refine jv_Wp.lift (fun _ Kz => jv_Ev.steps jv_i293 3 (pc' := 90) (l' := [(4, .long ((I 206 (76800 + f.s)).toInt64 + (Int32.ofInt f.o).toInt64)), (3, .int (I 205 (76800 + f.s))), (2, .int (vl_I bd)), (1, .int (vl_I f.z)), (0, .ref 196)]) (st' := [.int (0 : Int32), .int (4 : Int32), .int (vl_I f.d), .int (1024 : Int32), .ref 196]) rfl Kz) ?_
          obtain ⟨I16, L16, H16, A16, B16, C16, F16, eL16⟩ := vq_setx (I := I) (L := L) (R := R) (n := n) (sl := sl) 1024 f.d (4 : Int32) (0 : Int32) hW hf (by omega)
          have Z16 := vr_fl_of F16
          have D16 := vr_dec_n F16 D
          refine jv_Wp.lift (fun _ Kz => jv_Ev.c jv_i293 (pc' := 93) (S' := []) (G1 := (jv_H K I16 L16 R)) jv_i272 [.ref 196, .int (1024 : Int32), .int (vl_I f.d), .int (4 : Int32), .int (0 : Int32)] rfl rfl rfl rfl (jv_cal rfl (jv_H_at (jv_rwK hW 196 12 24 (by decide))) rfl rfl) rfl H16 rfl rfl Kz) ?_
          refine jv_Wp.lift (fun _ Kz => jv_Ev.steps jv_i293 1 (pc' := 94) (l' := [(4, .long ((I 206 (76800 + f.s)).toInt64 + (Int32.ofInt f.o).toInt64)), (3, .int (I 205 (76800 + f.s))), (2, .int (vl_I bd)), (1, .int (vl_I f.z)), (0, .ref 196)]) (st' := [.ref 196]) rfl Kz) ?_
          refine jv_Wp.lift (fun _ Kz => jv_Ev.m jv_i293 (pc' := 97) (st' := [.ref 208]) (G' := (jv_H K I16 L16 R)) rfl rfl (jv_m_getR (jv_rwK hW 196 12 24 (by decide)) rfl rfl (jv_rwR hW 196 16 208 (by decide))) Kz) ?_
          refine jv_Wp.lift (fun _ Kz => jv_Ev.steps jv_i293 3 (pc' := 103) (l' := [(4, .long ((I 206 (76800 + f.s)).toInt64 + (Int32.ofInt f.o).toInt64)), (3, .int (I 205 (76800 + f.s))), (2, .int (vl_I bd)), (1, .int (vl_I f.z)), (0, .ref 196)]) (st' := [.ref 196, .int (1024 : Int32), .int (6 : Int32), .ref 208]) rfl Kz) ?_
          refine jv_Wp.lift (fun _ Kz => jv_Ev.m jv_i293 (pc' := 106) (st' := [.int (vl_I f.d), .int (1024 : Int32), .int (6 : Int32), .ref 208]) (G' := (jv_H K I16 L16 R)) rfl rfl (jv_m_getI (jv_rwK hW 196 12 24 (by decide)) rfl rfl D16.2.1) Kz) ?_
          refine jv_Wp.lift (fun _ Kz => jv_Ev.c jv_i293 (pc' := 109) (S' := [.int (vl_I (8 + (76800 + f.d))), .int (6 : Int32), .ref 208]) jv_i254 [.int (1024 : Int32), .int (vl_I f.d)] rfl rfl rfl rfl rfl rfl (vq_row 1024 f.d) rfl rfl Kz) ?_
          obtain ⟨I17, L17, H17, S17, F17⟩ := vq_copy (I := I16) (L := L16) (R := R) (n := n) (sl := sl) (a := 6) (d := 8 + (76800 + f.d)) hW (by decide) (by omega) Z16 (Z16 _ (by decide))
          refine jv_Wp.lift (fun _ Kz => jv_Ev.c jv_i293 (pc' := 112) (S' := []) (G1 := (jv_H K I17 L17 R)) jv_i208 [.ref 208, .int (6 : Int32), .int (vl_I (8 + (76800 + f.d)))] rfl rfl rfl rfl (jv_cal rfl (jv_H_at (jv_rwK hW 208 11 7 (by decide))) rfl rfl) rfl H17 rfl rfl Kz) ?_
          refine jv_Wp.lift (fun _ Kz => jv_Ev.steps jv_i293 1 (pc' := 113) (l' := [(4, .long ((I 206 (76800 + f.s)).toInt64 + (Int32.ofInt f.o).toInt64)), (3, .int (I 205 (76800 + f.s))), (2, .int (vl_I bd)), (1, .int (vl_I f.z)), (0, .ref 196)]) (st' := [.int (0 : Int32)]) rfl Kz) ?_
          refine jv_Wp.of (jv_Ev.ret jv_i293 rfl rfl) ?_
          rw [hQ]
          have b0 : bd = 0 := Nat.le_zero.mp ((vl_I_le (b := 0) (by omega) (by decide)).mp h1)
          obtain ⟨r1, r2⟩ := vr_re_0 ((hbd ()).trans b0)
          have s2 : (vr_T I L (76800 + f.s)).sort = 2 := (vr_is 2 (by decide) oks).mpr (Classical.not_not.mp h2)
          have l0 : (0 : Int64).toInt = 0 := rfl
          have l16 : (16 : Int64).toInt = 16 := rfl
          have y1 : ¬ (16 : Int64).toInt ≤ ((I 206 (76800 + f.s)).toInt64 + (Int32.ofInt f.o).toInt64).toInt := fun z => h11 (Int64.le_iff_toInt_le.mpr z)
          have y2 : ((I 206 (76800 + f.s)).toInt64 + (Int32.ofInt f.o).toInt64).toInt = (0 : Int64).toInt := congrArg Int64.toInt (Classical.not_not.mp h13)
          have q2 := vx_r2' s2 hz r2
          have q5 : I17 205 (76800 + f.d) = 4 := (F17.2.1 205 _ (by decide)).trans A16
          have q6 : I17 206 (76800 + f.d) = 0 := (F17.2.1 206 _ (by decide)).trans B16
          have q7 : I17 207 (76800 + f.d) = -1 := (F17.2.1 207 _ (by decide)).trans C16
          have e : vx_load M f (vr_A I L 1024) = (0, vt_up (vr_A I L 1024) f.d (vt_pkt (vb_just 0))) := vx_ld3 (by rw [eA]; exact r1) (by rw [eA]; exact r2) (by rw [eA]; exact ⟨s2, by rw [dt]; omega⟩)
          have u := vr_upA (I := I) (L := L) (k := 1024) (r := f.d) (t := (vt_pkt (vb_just 0))) (by omega) ((vr_T_set q5 q6 q7).trans (by rw [S17, vr_fr_6 F16, hZ6]; rfl)) (by unfold vr_ok; rw [q5, q6, q7]; exact Or.inr (Or.inr (Or.inl ⟨Or.inr (Or.inl rfl), rfl, rfl⟩))) (vr_fr_trans F16 (vq_rf_frx F17 rfl)) (fun n hn e q => e (by omega)) oa
          exact ⟨_, _, by rw [e]; rfl, fun _ => by rw [e]; exact u, vr_fr_trans F16 (vq_rf_frx F17 rfl)⟩
  · refine jv_Wp.lift (fun _ Kz => jv_Ev.steps jv_i293 1 (pc' := 21) (l' := [(2, .int (vl_I bd)), (1, .int (vl_I f.z)), (0, .ref 196)]) (st' := [.int (vl_I bd)]) rfl Kz) ?_
    refine jv_Wp.of (jv_Ev.ret jv_i293 rfl rfl) ?_
    rw [hQ]
    have b0 : ¬ bd = 0 := fun z => h1 ((vl_I_le (b := 0) (by omega) (by decide)).mpr (Nat.le_of_eq z))
    have e : vx_load M f (vr_A I L 1024) = (bd, (vr_A I L 1024)) := by have q := vx_ldb (M := M) (f := f) (A := (vr_A I L 1024)) (by rw [eA, hbd ()]; exact b0); rw [eA, hbd ()] at q; exact q
    exact ⟨_, _, by rw [e], fun z => by rw [e] at z; exact absurd (show (bd : Nat) = 0 from z) (by omega), vr_fr_refl hf⟩