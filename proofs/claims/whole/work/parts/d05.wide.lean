/-! part d05: wide instructions of the reference; a state that goes on (gen/td05.py) -/
theorem vi_wide (a i : Int32) : ((a.toInt64 <<< ((32 : Int32).toInt64 &&& 63)) ||| (i.toInt64 &&& (4294967295 : Int64))).toBitVec = BitVec.ofInt 64 (a.toInt * 4294967296 + i.toInt % 4294967296) := by
  rw [Int64.toBitVec_or, Int64.toBitVec_and, vl_shl _ (s := 32) (k := 32) rfl]
  have ha : a.toInt64.toBitVec.toInt = a.toInt := Int32.toInt_toInt64 _
  have hi : i.toInt64.toBitVec.toInt = i.toInt := Int32.toInt_toInt64 _
  rw [← ha, ← hi]
  generalize a.toInt64.toBitVec = b
  generalize i.toInt64.toBitVec = c
  have em : (4294967295 : Int64).toBitVec = BitVec.ofNat 64 (2 ^ 32 - 1) := by decide
  rw [em]
  have mb : ∀ k, k < 64 → (BitVec.ofNat 64 (2 ^ 32 - 1)).getLsbD k = decide (k < 32) := fun k hk => by
    rw [BitVec.getLsbD_ofNat, decide_eq_true hk, Bool.true_and, Nat.testBit_two_pow_sub_one]
  have h : (b <<< 32) &&& (c &&& BitVec.ofNat 64 (2 ^ 32 - 1)) = 0 := by
    refine BitVec.eq_of_getLsbD_eq (fun k hk => ?_)
    rw [BitVec.getLsbD_and, BitVec.getLsbD_and, BitVec.getLsbD_shiftLeft, mb k hk]
    by_cases q : k < 32
    · rw [decide_eq_true q]; show _ = (0 : Nat).testBit k; rw [Nat.zero_testBit]; simp
    · rw [decide_eq_false q]; show _ = (0 : Nat).testBit k; rw [Nat.zero_testBit, Bool.and_false, Bool.and_false]
  rw [← BitVec.add_eq_or_of_and_eq_zero _ _ h]
  refine BitVec.eq_of_toNat_eq ?_
  rw [BitVec.toNat_add, BitVec.toNat_and, BitVec.toNat_shiftLeft, BitVec.toNat_ofInt, show (BitVec.ofNat 64 (2 ^ 32 - 1)).toNat = 2 ^ 32 - 1 from by decide, Nat.and_two_pow_sub_one_eq_mod, Nat.shiftLeft_eq, BitVec.toInt_eq_toNat_cond, BitVec.toInt_eq_toNat_cond]
  have la := b.isLt
  have lc := c.isLt
  split <;> split <;> omega
theorem vi_nn {i : Int} {x : Int32} (h : x.toInt = i) (h0 : 0 ≤ i) : x = vl_I i.toNat := by
  have b := Int32.toInt_lt x
  refine Int32.toInt_inj.mp ?_
  rw [show (vl_I i.toNat).toInt = (i.toNat : Int) from vl_I_int (by omega)]; omega
def vr_E18 : Nat → Nat → Prop := fun q f => (202 ≤ q ∧ q ≤ 204) ∨ (q = 196 ∧ 17 ≤ f)
theorem vr_kd0 (M : vf_M) (k : Nat) : vr_kd M k = 0 ↔ M k = none := by
  unfold vr_kd
  cases M k with
  | none => exact ⟨fun _ => rfl, fun _ => rfl⟩
  | some e => exact ⟨fun z => absurd z (Nat.succ_ne_zero _), fun z => by cases z⟩
theorem jv_i311 : jv_I 311 2 (some .int) 9 259 jv_c311 := ⟨rfl, rfl, rfl, rfl, rfl⟩
theorem vq_wide1 {K : Nat → Option (Nat × Nat)} {I : Nat → Nat → Int32} {L : Nat → Nat → Int64} {R : Nat → Nat → Value} {st : vz_S} {M : vf_M} (f : vf_F) (p len : Nat) (B : Nat → Nat) (i2 : Int) (hW : jv_rW K R) (hf : vr_fl I) (hM : vr_M I M) (hM8 : ∀ k, 8 ≤ k → M k = none) (hS : vr_ST I L st) (D : vr_dec I f) (h18 : I 196 18 = vl_I p) (hp : p < 1024) (hch : ∀ q, st.2 q < 2147483000) (hd11 : f.d < 11) (oa : vr_okA I 1024) (hh : I 202 1024 = vr_b true) (hj : vr_j10 I) (hs1 : f.s = 1) (hi0 : f.s ≠ 0 → 0 ≤ f.i) (p2 : p + 2 < 1024) (hB : vr_tp I 198 len B) (hl : len ≤ 8192) (hlp : 8 * p + 15 < len) (hi2 : vr_32 (vr_n4 B (8 * p + 12)) = i2) (hg : ∀ e ∈ (vx_one (vx_wide M f i2 (vr_A I L 1024)) (p + 2)).2, vt_okA e.2) {n sl : Nat} : ∃ I1 L1, jv_Ms 311 [.ref 196, .int (vl_I p)] (jv_H K I L R) n sl (some (.int (vl_I (vx_wide M f i2 (vr_A I L 1024)).1)), jv_H K I1 L1 R, n, sl) ∧ ((vx_wide M f i2 (vr_A I L 1024)).1 = 0 → vr_ST I1 L1 (vz_gos p (vx_one (vx_wide M f i2 (vr_A I L 1024)) (p + 2)).2 st).1 ∧ I1 196 17 = (if (vz_gos p (vx_one (vx_wide M f i2 (vr_A I L 1024)) (p + 2)).2 st).2 = true then 1 else I 196 17)) ∧ vr_fr anyP vr_E18 I L I1 L1 ∧ vr_j10 I1 := by
  obtain ⟨Q, hQ⟩ : ∃ Q : jv_R → Prop, Q = fun X => ∃ I1 L1, X = (some (.int (vl_I (vx_wide M f i2 (vr_A I L 1024)).1)), jv_H K I1 L1 R, n, sl) ∧ ((vx_wide M f i2 (vr_A I L 1024)).1 = 0 → vr_ST I1 L1 (vz_gos p (vx_one (vx_wide M f i2 (vr_A I L 1024)) (p + 2)).2 st).1 ∧ I1 196 17 = (if (vz_gos p (vx_one (vx_wide M f i2 (vr_A I L 1024)) (p + 2)).2 st).2 = true then 1 else I 196 17)) ∧ vr_fr anyP vr_E18 I L I1 L1 ∧ vr_j10 I1 := ⟨_, rfl⟩
  suffices h : jv_Wp 311 0 [(0, .ref 196), (1, .int (vl_I p))] [] (jv_H K I L R) n sl Q by
    rw [hQ] at h
    obtain ⟨X, h, I1, L1, e, h'⟩ := h
    subst e
    exact ⟨I1, L1, h, h'⟩
  have hs16 := vr_ds D
  have ei : Int32.ofInt f.i = vl_I f.i.toNat := vi_nn (vr_dQ D) (hi0 (by omega))
  have i0 := hi0 (by omega)
  refine jv_Wp.lift (fun _ Kz => jv_Ev.steps jv_i311 1 (pc' := 1) (l' := [(0, .ref 196), (1, .int (vl_I p))]) (st' := [.ref 196]) rfl Kz) ?_
  refine jv_Wp.lift (fun _ Kz => jv_Ev.m jv_i311 (pc' := 4) (st' := [.int (vl_I f.s)]) (G' := (jv_H K I L R)) rfl rfl (jv_m_getI (jv_rwK hW 196 12 24 (by decide)) rfl rfl D.2.2.1) Kz) ?_
  refine jv_Wp.lift (fun _ Kz => jv_Ev.steps jv_i311 1 (pc' := 5) (l' := [(0, .ref 196), (1, .int (vl_I p))]) (st' := [.int (1 : Int32), .int (vl_I f.s)]) rfl Kz) ?_
  refine jv_Wp.cnd jv_i311 (pt := 32) (pe := 8) (p := (¬ (vl_I f.s) = (1 : Int32))) (q := (¬ (vl_I f.s) = (1 : Int32))) rfl jv_bc_ne rfl rfl Iff.rfl (fun hz => absurd hz (fun z => z ((vr_sm (v := 1) (by omega) (by decide) rfl).mpr hs1))) (fun _ => ?_)
  refine jv_Wp.lift (fun _ Kz => jv_Ev.steps jv_i311 1 (pc' := 9) (l' := [(0, .ref 196), (1, .int (vl_I p))]) (st' := [.ref 196]) rfl Kz) ?_
  refine jv_Wp.lift (fun _ Kz => jv_Ev.m jv_i311 (pc' := 12) (st' := [.int (Int32.ofInt f.i)]) (G' := (jv_H K I L R)) rfl rfl (jv_m_getI (jv_rwK hW 196 12 24 (by decide)) rfl rfl (vr_dJ D)) Kz) ?_
  refine jv_Wp.lift (fun _ Kz => jv_Ev.steps jv_i311 1 (pc' := 14) (l' := [(0, .ref 196), (1, .int (vl_I p))]) (st' := [.int (7 : Int32), .int (Int32.ofInt f.i)]) rfl Kz) ?_
  refine jv_Wp.cnd jv_i311 (pt := 29) (pe := 17) (p := ((7 : Int32) < (Int32.ofInt f.i))) (q := ((7 : Int32) < (Int32.ofInt f.i))) rfl jv_bc_gt rfl rfl Iff.rfl (fun h1 => ?_) (fun h1 => ?_)
  · refine jv_Wp.lift (fun _ Kz => jv_Ev.steps jv_i311 1 (pc' := 31) (l' := [(0, .ref 196), (1, .int (vl_I p))]) (st' := [.int (8 : Int32)]) rfl Kz) ?_
    refine jv_Wp.of (jv_Ev.ret jv_i311 rfl rfl) ?_
    rw [hQ]
    have l7 : (7 : Int32).toInt = 7 := rfl
    have n7 : 7 < f.i := by have z := Int32.lt_iff_toInt_lt.mp h1; rw [vr_dQ D, l7] at z; exact z
    have mz : M f.i.toNat = none := hM8 _ (by omega)
    have ew : vx_wide M f i2 (vr_A I L 1024) = (8, (vr_A I L 1024)) := (if_neg (by omega)).trans (if_neg (by rw [mz]; decide))
    exact ⟨_, _, by rw [ew]; rfl, fun z => by rw [ew] at z; exact absurd (show (8 : Nat) = 0 from z) (by decide), vr_fr_refl hf, hj⟩
  · refine jv_Wp.lift (fun _ Kz => jv_Ev.steps jv_i311 1 (pc' := 18) (l' := [(0, .ref 196), (1, .int (vl_I p))]) (st' := [.ref 196]) rfl Kz) ?_
    refine jv_Wp.lift (fun _ Kz => jv_Ev.m jv_i311 (pc' := 21) (st' := [.ref 199]) (G' := (jv_H K I L R)) rfl rfl (jv_m_getR (jv_rwK hW 196 12 24 (by decide)) rfl rfl (jv_rwR hW 196 7 199 (by decide))) Kz) ?_
    refine jv_Wp.lift (fun _ Kz => jv_Ev.steps jv_i311 1 (pc' := 22) (l' := [(0, .ref 196), (1, .int (vl_I p))]) (st' := [.ref 196, .ref 199]) rfl Kz) ?_
    refine jv_Wp.lift (fun _ Kz => jv_Ev.m jv_i311 (pc' := 25) (st' := [.int (Int32.ofInt f.i), .ref 199]) (G' := (jv_H K I L R)) rfl rfl (jv_m_getI (jv_rwK hW 196 12 24 (by decide)) rfl rfl (vr_dJ D)) Kz) ?_
    refine jv_Wp.lift (fun _ Kz => jv_Ev.m jv_i311 (pc' := 26) (st' := [.int (vl_I (vr_kd M f.i.toNat))]) (G' := (jv_H K I L R)) rfl rfl (jv_m_ialdv (jv_rwK hW 199 102 8 (by decide)) rfl (by rw [ei]; exact vl_I_ix (by have l7 : (7 : Int32).toInt = 7 := rfl; have n7 : ¬ 7 < f.i := fun z => h1 (Int32.lt_iff_toInt_lt.mpr (by rw [vr_dQ D, l7]; exact z)); omega) (by decide)) rfl ((congrArg (I 199) (by rw [ei]; exact vl_I_nat (by have l7 : (7 : Int32).toInt = 7 := rfl; have n7 : ¬ 7 < f.i := fun z => h1 (Int32.lt_iff_toInt_lt.mpr (by rw [vr_dQ D, l7]; exact z)); omega))).trans (hM f.i.toNat (by have l7 : (7 : Int32).toInt = 7 := rfl; have n7 : ¬ 7 < f.i := fun z => h1 (Int32.lt_iff_toInt_lt.mpr (by rw [vr_dQ D, l7]; exact z)); omega)).1)) Kz) ?_
    refine jv_Wp.cnd jv_i311 (pt := 32) (pe := 29) (p := (¬ (vl_I (vr_kd M f.i.toNat)) = 0)) (q := (¬ (vl_I (vr_kd M f.i.toNat)) = 0)) rfl jv_bi_ne rfl rfl Iff.rfl (fun h2 => ?_) (fun h2 => ?_)
    · refine jv_Wp.lift (fun _ Kz => jv_Ev.steps jv_i311 1 (pc' := 33) (l' := [(0, .ref 196), (1, .int (vl_I p))]) (st' := [.ref 196]) rfl Kz) ?_
      refine jv_Wp.lift (fun _ Kz => jv_Ev.m jv_i311 (pc' := 36) (st' := [.int (vl_I f.s)]) (G' := (jv_H K I L R)) rfl rfl (jv_m_getI (jv_rwK hW 196 12 24 (by decide)) rfl rfl D.2.2.1) Kz) ?_
      refine jv_Wp.lift (fun _ Kz => jv_Ev.steps jv_i311 1 (pc' := 37) (l' := [(0, .ref 196), (1, .int (vl_I p))]) (st' := [.int (1 : Int32), .int (vl_I f.s)]) rfl Kz) ?_
      refine jv_Wp.cnd jv_i311 (pt := 60) (pe := 40) (p := (¬ (vl_I f.s) = (1 : Int32))) (q := (¬ (vl_I f.s) = (1 : Int32))) rfl jv_bc_ne rfl rfl Iff.rfl (fun hz => absurd hz (fun z => z ((vr_sm (v := 1) (by omega) (by decide) rfl).mpr hs1))) (fun _ => ?_)
      refine jv_Wp.lift (fun _ Kz => jv_Ev.steps jv_i311 3 (pc' := 45) (l' := [(0, .ref 196), (1, .int (vl_I p))]) (st' := [.ref 196, .int (1024 : Int32), .ref 196]) rfl Kz) ?_
      refine jv_Wp.lift (fun _ Kz => jv_Ev.m jv_i311 (pc' := 48) (st' := [.int (vl_I f.d), .int (1024 : Int32), .ref 196]) (G' := (jv_H K I L R)) rfl rfl (jv_m_getI (jv_rwK hW 196 12 24 (by decide)) rfl rfl D.2.1) Kz) ?_
      refine jv_Wp.lift (fun _ Kz => jv_Ev.steps jv_i311 2 (pc' := 51) (l' := [(0, .ref 196), (1, .int (vl_I p))]) (st' := [.ref 196, .int (6 : Int32), .int (vl_I f.d), .int (1024 : Int32), .ref 196]) rfl Kz) ?_
      refine jv_Wp.lift (fun _ Kz => jv_Ev.m jv_i311 (pc' := 54) (st' := [.int (Int32.ofInt f.i), .int (6 : Int32), .int (vl_I f.d), .int (1024 : Int32), .ref 196]) (G' := (jv_H K I L R)) rfl rfl (jv_m_getI (jv_rwK hW 196 12 24 (by decide)) rfl rfl (vr_dJ D)) Kz) ?_
      obtain ⟨I1, L1, H1, A1, B1, C1, F1, eL1⟩ := vq_setx (I := I) (L := L) (R := R) (n := n) (sl := sl) 1024 f.d (6 : Int32) (Int32.ofInt f.i) hW hf (by omega)
      have Z1 := vr_fl_of F1
      have D1 := vr_dec_n F1 D
      have U1 := vr_upA (I := I) (L := L) (k := 1024) (r := f.d) (t := vt_map f.i) (by omega) ((vr_T_set A1 B1 C1).trans (by show ((6 : Nat), (Int32.ofInt f.i).toInt, (-1 : Int), vb_any) = _; rw [vr_dQ D]; rfl)) (by unfold vr_ok; rw [A1, B1, C1]; exact Or.inr (Or.inr (Or.inr (Or.inl ⟨Or.inr (Or.inr (Or.inl rfl)), rfl⟩)))) F1 (fun n hn e q => e (by omega)) oa
      refine jv_Wp.lift (fun _ Kz => jv_Ev.c jv_i311 (pc' := 57) (S' := []) (G1 := (jv_H K I1 L1 R)) jv_i272 [.ref 196, .int (1024 : Int32), .int (vl_I f.d), .int (6 : Int32), .int (Int32.ofInt f.i)] rfl rfl rfl rfl (jv_cal rfl (jv_H_at (jv_rwK hW 196 12 24 (by decide))) rfl rfl) rfl H1 rfl rfl Kz) ?_
      refine jv_Wp.lift (fun _ Kz => jv_Ev.steps jv_i311 6 (pc' := 118) (l' := [(0, .ref 196), (1, .int (vl_I p))]) (st' := [.int ((vl_I p) + (2 : Int32)), .int (1024 : Int32), .ref 196]) rfl Kz) ?_
      have l7 : (7 : Int32).toInt = 7 := rfl
      have n7 : ¬ 7 < f.i := fun z => h1 (Int32.lt_iff_toInt_lt.mpr (by rw [vr_dQ D, l7]; exact z))
      have kz : ¬ vr_kd M f.i.toNat = 0 := fun z => h2 (by rw [z]; rfl)
      have ew : vx_wide M f i2 (vr_A I L 1024) = (0, vt_up (vr_A I L 1024) f.d (vt_map f.i)) := (if_neg (by omega)).trans (if_pos (Option.isSome_iff_ne_none.mpr (fun z => kz ((vr_kd0 M _).mpr z))))
      have eg : vx_one (vx_wide M f i2 (vr_A I L 1024)) (p + 2) = (0, [((p : Int) + 2, (vx_wide M f i2 (vr_A I L 1024)).2)]) := if_neg (by rw [ew]; exact fun z => z rfl)
      have A4 : vr_A I1 L1 1024 = (vx_wide M f i2 (vr_A I L 1024)).2 := by rw [ew]; exact U1.1
      have tg := hg _ (by rw [eg]; exact List.mem_singleton.mpr rfl)
      obtain ⟨I2, L2, H2, S2, g2, F2⟩ := vq_goTo (R := R) (n := n) (sl := sl) (st := st) 1024 (p + 2) p true hW Z1 (vr_ST_M F1 (fun x z => by omega) (fun _ _ z => z.elim) hS) (by decide) (by decide) (by decide) p2 U1.2 (by rw [A4]; exact tg) ((vr_fr_c F1 (by decide) (by decide)).trans hh) ((vr_fr_c F1 (by decide) (by decide)).trans h18) (by omega) (by have := hch (p + 2); omega)
      rw [← vl_I_p2 p] at H2
      rw [A4] at S2 g2
      refine jv_Wp.lift (fun _ Kz => jv_Ev.c jv_i311 (pc' := 121) (S' := []) (G1 := (jv_H K I2 L2 R)) jv_i281 [.ref 196, .int (1024 : Int32), .int ((vl_I p) + (2 : Int32))] rfl rfl rfl rfl (jv_cal rfl (jv_H_at (jv_rwK hW 196 12 24 (by decide))) rfl rfl) rfl H2 rfl rfl Kz) ?_
      refine jv_Wp.lift (fun _ Kz => jv_Ev.steps jv_i311 1 (pc' := 122) (l' := [(0, .ref 196), (1, .int (vl_I p))]) (st' := [.int (0 : Int32)]) rfl Kz) ?_
      refine jv_Wp.of (jv_Ev.ret jv_i311 rfl rfl) ?_
      rw [hQ]
      have ep : ((p : Int) + 2).toNat = p + 2 := by omega
      have jx : vr_j10 I2 := by unfold vr_j10; rw [(vr_fr_i F2 (x := 76885) (fun z => by unfold vr_th at z; omega)).1, (vr_fr_i F1 (x := 76885) (fun z => by omega)).1]; exact hj
      exact ⟨_, _, by rw [ew]; rfl, fun _ => ⟨by rw [eg, vz_gos1]; show vr_ST I2 L2 (vz_go p _ _ st).1; rw [ep]; exact S2, by rw [eg, vz_gos1]; show _ = if (vz_go p _ _ st).2 = true then 1 else _; rw [ep]; exact g2.trans (by rw [vr_fr_c F1 (by decide) (by decide)])⟩, vr_fr_trans (vr_fr_mono F1 (Q := anyP) (E' := vr_E18) (fun _ _ => trivial) (fun _ _ z => z.elim)) (vr_fr_mono F2 (Q := anyP) (E' := vr_E18) (fun _ _ => trivial) (fun q g z => z.elim (fun z => Or.inl (by omega)) (fun z => Or.inr (by omega)))), jx⟩
    · refine jv_Wp.lift (fun _ Kz => jv_Ev.steps jv_i311 1 (pc' := 31) (l' := [(0, .ref 196), (1, .int (vl_I p))]) (st' := [.int (8 : Int32)]) rfl Kz) ?_
      refine jv_Wp.of (jv_Ev.ret jv_i311 rfl rfl) ?_
      rw [hQ]
      have l7 : (7 : Int32).toInt = 7 := rfl
      have n7 : ¬ 7 < f.i := fun z => h1 (Int32.lt_iff_toInt_lt.mpr (by rw [vr_dQ D, l7]; exact z))
      have mz : M f.i.toNat = none := (vr_kd0 M _).mp ((vl_I_inj (b := 0) (by have := (hM f.i.toNat (by omega)).2.2.2.1; omega) (by decide)).mp (Classical.not_not.mp h2))
      have ew : vx_wide M f i2 (vr_A I L 1024) = (8, (vr_A I L 1024)) := (if_neg (by omega)).trans (if_neg (by rw [mz]; decide))
      exact ⟨_, _, by rw [ew]; rfl, fun z => by rw [ew] at z; exact absurd (show (8 : Nat) = 0 from z) (by decide), vr_fr_refl hf, hj⟩
theorem vq_wide0 {K : Nat → Option (Nat × Nat)} {I : Nat → Nat → Int32} {L : Nat → Nat → Int64} {R : Nat → Nat → Value} {st : vz_S} {M : vf_M} (f : vf_F) (p len : Nat) (B : Nat → Nat) (i2 : Int) (hW : jv_rW K R) (hf : vr_fl I) (hM : vr_M I M) (hM8 : ∀ k, 8 ≤ k → M k = none) (hS : vr_ST I L st) (D : vr_dec I f) (h18 : I 196 18 = vl_I p) (hp : p < 1024) (hch : ∀ q, st.2 q < 2147483000) (hd11 : f.d < 11) (oa : vr_okA I 1024) (hh : I 202 1024 = vr_b true) (hj : vr_j10 I) (hs1 : f.s = 0) (hi0 : f.s ≠ 0 → 0 ≤ f.i) (p2 : p + 2 < 1024) (hB : vr_tp I 198 len B) (hl : len ≤ 8192) (hlp : 8 * p + 15 < len) (hi2 : vr_32 (vr_n4 B (8 * p + 12)) = i2) (hg : ∀ e ∈ (vx_one (vx_wide M f i2 (vr_A I L 1024)) (p + 2)).2, vt_okA e.2) {n sl : Nat} : ∃ I1 L1, jv_Ms 311 [.ref 196, .int (vl_I p)] (jv_H K I L R) n sl (some (.int (vl_I (vx_wide M f i2 (vr_A I L 1024)).1)), jv_H K I1 L1 R, n, sl) ∧ ((vx_wide M f i2 (vr_A I L 1024)).1 = 0 → vr_ST I1 L1 (vz_gos p (vx_one (vx_wide M f i2 (vr_A I L 1024)) (p + 2)).2 st).1 ∧ I1 196 17 = (if (vz_gos p (vx_one (vx_wide M f i2 (vr_A I L 1024)) (p + 2)).2 st).2 = true then 1 else I 196 17)) ∧ vr_fr anyP vr_E18 I L I1 L1 ∧ vr_j10 I1 := by
  obtain ⟨Q, hQ⟩ : ∃ Q : jv_R → Prop, Q = fun X => ∃ I1 L1, X = (some (.int (vl_I (vx_wide M f i2 (vr_A I L 1024)).1)), jv_H K I1 L1 R, n, sl) ∧ ((vx_wide M f i2 (vr_A I L 1024)).1 = 0 → vr_ST I1 L1 (vz_gos p (vx_one (vx_wide M f i2 (vr_A I L 1024)) (p + 2)).2 st).1 ∧ I1 196 17 = (if (vz_gos p (vx_one (vx_wide M f i2 (vr_A I L 1024)) (p + 2)).2 st).2 = true then 1 else I 196 17)) ∧ vr_fr anyP vr_E18 I L I1 L1 ∧ vr_j10 I1 := ⟨_, rfl⟩
  suffices h : jv_Wp 311 0 [(0, .ref 196), (1, .int (vl_I p))] [] (jv_H K I L R) n sl Q by
    rw [hQ] at h
    obtain ⟨X, h, I1, L1, e, h'⟩ := h
    subst e
    exact ⟨I1, L1, h, h'⟩
  have hs16 := vr_ds D
  refine jv_Wp.lift (fun _ Kz => jv_Ev.steps jv_i311 1 (pc' := 1) (l' := [(0, .ref 196), (1, .int (vl_I p))]) (st' := [.ref 196]) rfl Kz) ?_
  refine jv_Wp.lift (fun _ Kz => jv_Ev.m jv_i311 (pc' := 4) (st' := [.int (vl_I f.s)]) (G' := (jv_H K I L R)) rfl rfl (jv_m_getI (jv_rwK hW 196 12 24 (by decide)) rfl rfl D.2.2.1) Kz) ?_
  refine jv_Wp.lift (fun _ Kz => jv_Ev.steps jv_i311 1 (pc' := 5) (l' := [(0, .ref 196), (1, .int (vl_I p))]) (st' := [.int (1 : Int32), .int (vl_I f.s)]) rfl Kz) ?_
  refine jv_Wp.cnd jv_i311 (pt := 32) (pe := 8) (p := (¬ (vl_I f.s) = (1 : Int32))) (q := (¬ (vl_I f.s) = (1 : Int32))) rfl jv_bc_ne rfl rfl Iff.rfl (fun _ => ?_) (fun hz => absurd (fun z => by have y := (vr_sm (v := 1) (by omega) (by decide) rfl).mp z; omega) hz)
  refine jv_Wp.lift (fun _ Kz => jv_Ev.steps jv_i311 1 (pc' := 33) (l' := [(0, .ref 196), (1, .int (vl_I p))]) (st' := [.ref 196]) rfl Kz) ?_
  refine jv_Wp.lift (fun _ Kz => jv_Ev.m jv_i311 (pc' := 36) (st' := [.int (vl_I f.s)]) (G' := (jv_H K I L R)) rfl rfl (jv_m_getI (jv_rwK hW 196 12 24 (by decide)) rfl rfl D.2.2.1) Kz) ?_
  refine jv_Wp.lift (fun _ Kz => jv_Ev.steps jv_i311 1 (pc' := 37) (l' := [(0, .ref 196), (1, .int (vl_I p))]) (st' := [.int (1 : Int32), .int (vl_I f.s)]) rfl Kz) ?_
  refine jv_Wp.cnd jv_i311 (pt := 60) (pe := 40) (p := (¬ (vl_I f.s) = (1 : Int32))) (q := (¬ (vl_I f.s) = (1 : Int32))) rfl jv_bc_ne rfl rfl Iff.rfl (fun _ => ?_) (fun hz => absurd (fun z => by have y := (vr_sm (v := 1) (by omega) (by decide) rfl).mp z; omega) hz)
  refine jv_Wp.lift (fun _ Kz => jv_Ev.steps jv_i311 1 (pc' := 61) (l' := [(0, .ref 196), (1, .int (vl_I p))]) (st' := [.ref 196]) rfl Kz) ?_
  refine jv_Wp.lift (fun _ Kz => jv_Ev.m jv_i311 (pc' := 64) (st' := [.ref 208]) (G' := (jv_H K I L R)) rfl rfl (jv_m_getR (jv_rwK hW 196 12 24 (by decide)) rfl rfl (jv_rwR hW 196 16 208 (by decide))) Kz) ?_
  refine jv_Wp.lift (fun _ Kz => jv_Ev.steps jv_i311 2 (pc' := 67) (l' := [(0, .ref 196), (1, .int (vl_I p))]) (st' := [.ref 196, .int (7 : Int32), .ref 208]) rfl Kz) ?_
  refine jv_Wp.lift (fun _ Kz => jv_Ev.m jv_i311 (pc' := 70) (st' := [.ref 198, .int (7 : Int32), .ref 208]) (G' := (jv_H K I L R)) rfl rfl (jv_m_getR (jv_rwK hW 196 12 24 (by decide)) rfl rfl (jv_rwR hW 196 3 198 (by decide))) Kz) ?_
  refine jv_Wp.lift (fun _ Kz => jv_Ev.steps jv_i311 6 (pc' := 78) (l' := [(0, .ref 196), (1, .int (vl_I p))]) (st' := [.int (4 : Int32), .int (((8 : Int32) * (vl_I p)) + (12 : Int32)), .ref 198, .int (7 : Int32), .ref 208]) rfl Kz) ?_
  have H3 := vq_num4_198 (I := I) (L := L) (n := n) (sl := sl) (8 * p + 12) len B hW hB hl (by omega)
  rw [← show (((8 : Int32) * (vl_I p)) + (12 : Int32)) = vl_I (8 * p + 12) from ((congrArg (fun y => y + (12 : Int32)) (vi_mul8 p)).trans (vl_I_add (8 * p) 12))] at H3
  refine jv_Wp.lift (fun _ Kz => jv_Ev.c jv_i311 (pc' := 81) (S' := [.int (vl_I (vr_n4 B (8 * p + 12))), .int (7 : Int32), .ref 208]) jv_i255 [.ref 198, .int (((8 : Int32) * (vl_I p)) + (12 : Int32)), .int (4 : Int32)] rfl rfl rfl rfl rfl rfl H3 rfl rfl Kz) ?_
  refine jv_Wp.lift (fun _ Kz => jv_Ev.steps jv_i311 4 (pc' := 86) (l' := [(0, .ref 196), (1, .int (vl_I p))]) (st' := [.ref 196, .long ((vl_I (vr_n4 B (8 * p + 12))).toInt64 <<< ((32 : Int32).toInt64 &&& 63)), .int (7 : Int32), .ref 208]) rfl Kz) ?_
  refine jv_Wp.lift (fun _ Kz => jv_Ev.m jv_i311 (pc' := 89) (st' := [.int (Int32.ofInt f.i), .long ((vl_I (vr_n4 B (8 * p + 12))).toInt64 <<< ((32 : Int32).toInt64 &&& 63)), .int (7 : Int32), .ref 208]) (G' := (jv_H K I L R)) rfl rfl (jv_m_getI (jv_rwK hW 196 12 24 (by decide)) rfl rfl (vr_dJ D)) Kz) ?_
  refine jv_Wp.lift (fun _ Kz => jv_Ev.steps jv_i311 4 (pc' := 95) (l' := [(0, .ref 196), (1, .int (vl_I p))]) (st' := [.long (((vl_I (vr_n4 B (8 * p + 12))).toInt64 <<< ((32 : Int32).toInt64 &&& 63)) ||| ((Int32.ofInt f.i).toInt64 &&& (4294967295 : Int64))), .int (7 : Int32), .ref 208]) rfl Kz) ?_
  obtain ⟨I4, L4, H4, S4, F4⟩ := vq_single (I := I) (L := L) (R := R) (n := n) (sl := sl) (d := 7) (((vl_I (vr_n4 B (8 * p + 12))).toInt64 <<< ((32 : Int32).toInt64 &&& 63)) ||| ((Int32.ofInt f.i).toInt64 &&& (4294967295 : Int64))) hW (by decide) hf
  have Z4 := F4.1
  have D4 := vr_dec_rf F4 D
  refine jv_Wp.lift (fun _ Kz => jv_Ev.c jv_i311 (pc' := 98) (S' := []) (G1 := (jv_H K I4 L4 R)) jv_i217 [.ref 208, .int (7 : Int32), .long (((vl_I (vr_n4 B (8 * p + 12))).toInt64 <<< ((32 : Int32).toInt64 &&& 63)) ||| ((Int32.ofInt f.i).toInt64 &&& (4294967295 : Int64)))] rfl rfl rfl rfl (jv_cal rfl (jv_H_at (jv_rwK hW 208 11 7 (by decide))) rfl rfl) rfl H4 rfl rfl Kz) ?_
  refine jv_Wp.lift (fun _ Kz => jv_Ev.steps jv_i311 3 (pc' := 103) (l' := [(0, .ref 196), (1, .int (vl_I p))]) (st' := [.ref 196, .int (1024 : Int32), .ref 196]) rfl Kz) ?_
  refine jv_Wp.lift (fun _ Kz => jv_Ev.m jv_i311 (pc' := 106) (st' := [.int (vl_I f.d), .int (1024 : Int32), .ref 196]) (G' := (jv_H K I4 L4 R)) rfl rfl (jv_m_getI (jv_rwK hW 196 12 24 (by decide)) rfl rfl D4.2.1) Kz) ?_
  refine jv_Wp.lift (fun _ Kz => jv_Ev.steps jv_i311 1 (pc' := 108) (l' := [(0, .ref 196), (1, .int (vl_I p))]) (st' := [.int (7 : Int32), .int (vl_I f.d), .int (1024 : Int32), .ref 196]) rfl Kz) ?_
  obtain ⟨I5, L5, H5, T5, O5, F5⟩ := vq_setNumber (I := I4) (L := L4) (R := R) (n := n) (sl := sl) 1024 f.d 7 hW Z4 (by omega) (by decide) (by decide)
  have Z5 := vr_fl_of F5
  have ev : vb_toS (vr_S L4 7) = (vb_just (BitVec.ofInt 64 (i2 * 4294967296 + f.i % 4294967296))) := by rw [S4, vb_toS_just, vi_wide, vi_long (vr_n4_lt hB (by omega)), vr_dQ D, hi2]
  have F5z : vr_fr (fun x => x = 75 * 1024 + f.d) noE I L I5 L5 := vr_fr_trans (vq_rf_fr F4 (by decide)) F5
  have U5 := vr_upA (I := I) (L := L) (k := 1024) (r := f.d) (t := vt_num (vb_just (BitVec.ofInt 64 (i2 * 4294967296 + f.i % 4294967296)))) (by omega) (by rw [T5, ev]) O5 F5z (fun n hn e q => e (by omega)) oa
  refine jv_Wp.lift (fun _ Kz => jv_Ev.c jv_i311 (pc' := 111) (S' := []) (G1 := (jv_H K I5 L5 R)) jv_i273 [.ref 196, .int (1024 : Int32), .int (vl_I f.d), .int (7 : Int32)] rfl rfl rfl rfl (jv_cal rfl (jv_H_at (jv_rwK hW 196 12 24 (by decide))) rfl rfl) rfl H5 rfl rfl Kz) ?_
  refine jv_Wp.lift (fun _ Kz => jv_Ev.steps jv_i311 5 (pc' := 118) (l' := [(0, .ref 196), (1, .int (vl_I p))]) (st' := [.int ((vl_I p) + (2 : Int32)), .int (1024 : Int32), .ref 196]) rfl Kz) ?_
  have ew : vx_wide M f i2 (vr_A I L 1024) = (0, vt_up (vr_A I L 1024) f.d (vt_num (vb_just (BitVec.ofInt 64 (i2 * 4294967296 + f.i % 4294967296))))) := if_pos (by omega)
  have eg : vx_one (vx_wide M f i2 (vr_A I L 1024)) (p + 2) = (0, [((p : Int) + 2, (vx_wide M f i2 (vr_A I L 1024)).2)]) := if_neg (by rw [ew]; exact fun z => z rfl)
  have A4 : vr_A I5 L5 1024 = (vx_wide M f i2 (vr_A I L 1024)).2 := by rw [ew]; exact U5.1
  have tg := hg _ (by rw [eg]; exact List.mem_singleton.mpr rfl)
  obtain ⟨I6, L6, H6, S6, g6, F6⟩ := vq_goTo (R := R) (n := n) (sl := sl) (st := st) 1024 (p + 2) p true hW Z5 (vr_ST_M F5z (fun x z => by omega) (fun _ _ z => z.elim) hS) (by decide) (by decide) (by decide) p2 U5.2 (by rw [A4]; exact tg) ((vr_fr_c F5z (by decide) (by decide)).trans hh) ((vr_fr_c F5z (by decide) (by decide)).trans h18) (by omega) (by have := hch (p + 2); omega)
  rw [← vl_I_p2 p] at H6
  rw [A4] at S6 g6
  refine jv_Wp.lift (fun _ Kz => jv_Ev.c jv_i311 (pc' := 121) (S' := []) (G1 := (jv_H K I6 L6 R)) jv_i281 [.ref 196, .int (1024 : Int32), .int ((vl_I p) + (2 : Int32))] rfl rfl rfl rfl (jv_cal rfl (jv_H_at (jv_rwK hW 196 12 24 (by decide))) rfl rfl) rfl H6 rfl rfl Kz) ?_
  refine jv_Wp.lift (fun _ Kz => jv_Ev.steps jv_i311 1 (pc' := 122) (l' := [(0, .ref 196), (1, .int (vl_I p))]) (st' := [.int (0 : Int32)]) rfl Kz) ?_
  refine jv_Wp.of (jv_Ev.ret jv_i311 rfl rfl) ?_
  rw [hQ]
  have ep : ((p : Int) + 2).toNat = p + 2 := by omega
  have jx : vr_j10 I6 := by unfold vr_j10; rw [(vr_fr_i F6 (x := 76885) (fun z => by unfold vr_th at z; omega)).1, (vr_fr_i F5z (x := 76885) (fun z => by omega)).1]; exact hj
  exact ⟨_, _, by rw [ew]; rfl, fun _ => ⟨by rw [eg, vz_gos1]; show vr_ST I6 L6 (vz_go p _ _ st).1; rw [ep]; exact S6, by rw [eg, vz_gos1]; show _ = if (vz_go p _ _ st).2 = true then 1 else _; rw [ep]; exact g6.trans (by rw [vr_fr_c F5z (by decide) (by decide)])⟩, vr_fr_trans (vr_fr_mono F5z (Q := anyP) (E' := vr_E18) (fun _ _ => trivial) (fun _ _ z => z.elim)) (vr_fr_mono F6 (Q := anyP) (E' := vr_E18) (fun _ _ => trivial) (fun q g z => z.elim (fun z => Or.inl (by omega)) (fun z => Or.inr (by omega)))), jx⟩