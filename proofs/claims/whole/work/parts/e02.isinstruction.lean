/-! part e02: whether a word is an instruction (gen/te02.py) -/
theorem vf_bI_47 {f : vf_F} {q all lo hi : Nat} (h : f.kind = 4 ∨ f.kind = 7) : vf_bI f q all lo hi = decide (vf_pA f) := by unfold vf_bI; rw [if_pos h]
theorem vf_bI_56 {f : vf_F} {q all lo hi : Nat} (h : f.kind = 5 ∨ f.kind = 6) : vf_bI f q all lo hi = decide (vf_pJ f) := by unfold vf_bI; rw [if_neg (by omega), if_pos h]
theorem vf_bI_1 {f : vf_F} {q all lo hi : Nat} (h : f.kind = 1) : vf_bI f q all lo hi = decide (vf_p1 f) := by unfold vf_bI; rw [if_neg (by omega), if_neg (by omega), if_pos h]
theorem vf_bI_2 {f : vf_F} {q all lo hi : Nat} (h : f.kind = 2) : vf_bI f q all lo hi = decide (vf_p2 f) := by unfold vf_bI; rw [if_neg (by omega), if_neg (by omega), if_neg (by omega), if_pos h]
theorem vf_bI_3 {f : vf_F} {q all lo hi : Nat} (h : f.kind = 3) : vf_bI f q all lo hi = decide (vf_p3 f) := by unfold vf_bI; rw [if_neg (by omega), if_neg (by omega), if_neg (by omega), if_neg (by omega), if_pos h]
theorem vf_bI_0 {f : vf_F} {q all lo hi : Nat} (h : f.kind = 0) : vf_bI f q all lo hi = decide (vf_p0 f q all lo hi) := by unfold vf_bI; rw [if_neg (by omega), if_neg (by omega), if_neg (by omega), if_neg (by omega), if_neg (by omega)]
theorem jv_i267 : jv_I 267 6 (some .boolean) 3 62 jv_c267 := ⟨rfl, rfl, rfl, rfl, rfl⟩
theorem vq_isInstruction {K : Nat → Option (Nat × Nat)} {I : Nat → Nat → Int32} {L : Nat → Nat → Int64} {R : Nat → Nat → Value} (f : vf_F) (p all len : Nat) (B : Nat → Nat) (hW : jv_rW K R) (hf : vr_fl I) (h : vr_tp I 197 len B) (hl : len ≤ 8192) (hp : p < all) (hle : 8 * all ≤ len) (ef : f = vr_F B p) {n sl : Nat} : ∃ I1 L1, jv_Ms 267 [.ref 196, .ref 197, .int (vl_I p), .int (vl_I all)] (jv_H K I L R) n sl (some (.int (vr_b (vf_bI f (p + 1) all (vr_n4 B (8 * p + 8)) (vr_n4 B (8 * p + 12))))), jv_H K I1 L1 R, n, sl) ∧ vr_dec I1 f ∧ vr_fr noP (fun q g => q = 196 ∧ 19 ≤ g) I L I1 L1 := by
  obtain ⟨Q, hQ⟩ : ∃ Q : jv_R → Prop, Q = fun X => ∃ I1 L1, X = (some (.int (vr_b (vf_bI f (p + 1) all (vr_n4 B (8 * p + 8)) (vr_n4 B (8 * p + 12))))), jv_H K I1 L1 R, n, sl) ∧ vr_dec I1 f ∧ vr_fr noP (fun q g => q = 196 ∧ 19 ≤ g) I L I1 L1 := ⟨_, rfl⟩
  suffices h : jv_Wp 267 0 [(0, .ref 196), (1, .ref 197), (2, .int (vl_I p)), (3, .int (vl_I all))] [] (jv_H K I L R) n sl Q by
    rw [hQ] at h
    obtain ⟨X, h, I1, L1, e, h'⟩ := h
    subst e
    exact ⟨I1, L1, h, h'⟩
  refine jv_Wp.lift (fun _ Kz => jv_Ev.steps jv_i267 3 (pc' := 3) (l' := [(0, .ref 196), (1, .ref 197), (2, .int (vl_I p)), (3, .int (vl_I all))]) (st' := [.int (vl_I p), .ref 197, .ref 196]) rfl Kz) ?_
  obtain ⟨I1, L1, H1, D1, F1⟩ := vq_take197 (I := I) (L := L) (R := R) (n := n) (sl := sl) p len B hW hf h hl (by omega)
  rw [← ef] at D1
  have tp1 : vr_tp I1 197 len B := vr_tp_fr F1 (Or.inl rfl) (fun j z => by omega) h
  refine jv_Wp.lift (fun _ Kz => jv_Ev.c jv_i267 (pc' := 6) (S' := []) (G1 := (jv_H K I1 L1 R)) jv_i256 [.ref 196, .ref 197, .int (vl_I p)] rfl rfl rfl rfl (jv_cal rfl (jv_H_at (jv_rwK hW 196 12 24 (by decide))) rfl rfl) rfl H1 rfl rfl Kz) ?_
  refine jv_Wp.lift (fun _ Kz => jv_Ev.steps jv_i267 1 (pc' := 7) (l' := [(0, .ref 196), (1, .ref 197), (2, .int (vl_I p)), (3, .int (vl_I all))]) (st' := [.ref 196]) rfl Kz) ?_
  refine jv_Wp.lift (fun _ Kz => jv_Ev.c jv_i267 (pc' := 10) (S' := [.int (vl_I f.kind)]) jv_i257 [.ref 196] rfl rfl rfl rfl (jv_cal rfl (jv_H_at (jv_rwK hW 196 12 24 (by decide))) rfl rfl) rfl (vq_kind f hW D1) rfl rfl Kz) ?_
  refine jv_Wp.bys (q := ((vl_I f.kind) = Int32.ofInt 1)) (fun h1 => ?_) (fun h1 => ?_)
  · refine jv_Wp.lift (fun _ Kz => jv_Ev.br jv_i267 (pc' := 62) (st' := []) rfl (by rw [h1]; rfl) Kz) ?_
    refine jv_Wp.lift (fun _ Kz => jv_Ev.steps jv_i267 1 (pc' := 63) (l' := [(0, .ref 196), (1, .ref 197), (2, .int (vl_I p)), (3, .int (vl_I all))]) (st' := [.ref 196]) rfl Kz) ?_
    refine jv_Wp.lift (fun _ Kz => jv_Ev.m jv_i267 (pc' := 66) (st' := [.int (Int32.ofInt f.i)]) (G' := (jv_H K I1 L1 R)) rfl rfl (jv_m_getI (jv_rwK hW 196 12 24 (by decide)) rfl rfl (vr_dJ D1)) Kz) ?_
    refine jv_Wp.cnd jv_i267 (pt := 116) (pe := 69) (p := (¬ (Int32.ofInt f.i) = 0)) (q := (¬ (Int32.ofInt f.i) = 0)) rfl jv_bi_ne rfl rfl Iff.rfl (fun h2 => ?_) (fun h2 => ?_)
    · refine jv_Wp.lift (fun _ Kz => jv_Ev.steps jv_i267 1 (pc' := 117) (l' := [(0, .ref 196), (1, .ref 197), (2, .int (vl_I p)), (3, .int (vl_I all))]) (st' := [.int (0 : Int32)]) rfl Kz) ?_
      refine jv_Wp.of (jv_Ev.ret jv_i267 rfl (jv_ret_b (Or.inl rfl))) ?_
      rw [hQ]
      have D := D1
      have c1 := vr_dc D
      have c2 := vr_dd D
      have c3 := vr_ds D
      have c4 : f.n = f.code / 16 := rfl
      have c5 : f.kind = f.code % 8 := rfl
      have c6 : f.mode = f.code / 32 := rfl
      have c7 := vf_z f
      have bn : f.n < 2147483648 := by omega
      have bk : f.kind < 2147483648 := by omega
      have bm : f.mode < 2147483648 := by omega
      have bz : f.z < 2147483648 := by omega
      have bc : f.code < 2147483648 := by omega
      have bd : f.d < 2147483648 := by omega
      have bs : f.s < 2147483648 := by omega
      have k1 : f.kind = 1 := (vl_I_inj (b := 1) (by omega) (by decide)).mp h1
      have y1 : ¬ f.i = 0 := fun z => h2 (Int32.toInt_inj.mp ((vr_dQ D).trans (z.trans rfl)))
      have ev : vf_bI f (p + 1) all (vr_n4 B (8 * p + 8)) (vr_n4 B (8 * p + 12)) = false := (vf_bI_1 k1).trans (decide_eq_false (by omega))
      exact ⟨I1, L1, by rw [ev]; rfl, D, F1⟩
    · refine jv_Wp.lift (fun _ Kz => jv_Ev.steps jv_i267 1 (pc' := 70) (l' := [(0, .ref 196), (1, .ref 197), (2, .int (vl_I p)), (3, .int (vl_I all))]) (st' := [.ref 196]) rfl Kz) ?_
      refine jv_Wp.lift (fun _ Kz => jv_Ev.m jv_i267 (pc' := 73) (st' := [.int (vl_I f.d)]) (G' := (jv_H K I1 L1 R)) rfl rfl (jv_m_getI (jv_rwK hW 196 12 24 (by decide)) rfl rfl D1.2.1) Kz) ?_
      refine jv_Wp.lift (fun _ Kz => jv_Ev.steps jv_i267 1 (pc' := 75) (l' := [(0, .ref 196), (1, .ref 197), (2, .int (vl_I p)), (3, .int (vl_I all))]) (st' := [.int (10 : Int32), .int (vl_I f.d)]) rfl Kz) ?_
      refine jv_Wp.cnd jv_i267 (pt := 116) (pe := 78) (p := ((10 : Int32) ≤ (vl_I f.d))) (q := ((10 : Int32) ≤ (vl_I f.d))) rfl jv_bc_ge rfl rfl Iff.rfl (fun h3 => ?_) (fun h3 => ?_)
      · refine jv_Wp.lift (fun _ Kz => jv_Ev.steps jv_i267 1 (pc' := 117) (l' := [(0, .ref 196), (1, .ref 197), (2, .int (vl_I p)), (3, .int (vl_I all))]) (st' := [.int (0 : Int32)]) rfl Kz) ?_
        refine jv_Wp.of (jv_Ev.ret jv_i267 rfl (jv_ret_b (Or.inl rfl))) ?_
        rw [hQ]
        have D := D1
        have c1 := vr_dc D
        have c2 := vr_dd D
        have c3 := vr_ds D
        have c4 : f.n = f.code / 16 := rfl
        have c5 : f.kind = f.code % 8 := rfl
        have c6 : f.mode = f.code / 32 := rfl
        have c7 := vf_z f
        have bn : f.n < 2147483648 := by omega
        have bk : f.kind < 2147483648 := by omega
        have bm : f.mode < 2147483648 := by omega
        have bz : f.z < 2147483648 := by omega
        have bc : f.code < 2147483648 := by omega
        have bd : f.d < 2147483648 := by omega
        have bs : f.s < 2147483648 := by omega
        have k1 : f.kind = 1 := (vl_I_inj (b := 1) (by omega) (by decide)).mp h1
        have y1 : f.i = 0 := (vr_dQ D).symm.trans (congrArg Int32.toInt (Classical.not_not.mp h2))
        have x2 : 10 ≤ f.d := (vl_I_le (a := 10) (b := f.d) (by decide) bd).mp h3
        have ev : vf_bI f (p + 1) all (vr_n4 B (8 * p + 8)) (vr_n4 B (8 * p + 12)) = false := (vf_bI_1 k1).trans (decide_eq_false (by omega))
        exact ⟨I1, L1, by rw [ev]; rfl, D, F1⟩
      · refine jv_Wp.lift (fun _ Kz => jv_Ev.steps jv_i267 1 (pc' := 79) (l' := [(0, .ref 196), (1, .ref 197), (2, .int (vl_I p)), (3, .int (vl_I all))]) (st' := [.ref 196]) rfl Kz) ?_
        refine jv_Wp.lift (fun _ Kz => jv_Ev.m jv_i267 (pc' := 82) (st' := [.int (vl_I f.s)]) (G' := (jv_H K I1 L1 R)) rfl rfl (jv_m_getI (jv_rwK hW 196 12 24 (by decide)) rfl rfl D1.2.2.1) Kz) ?_
        refine jv_Wp.lift (fun _ Kz => jv_Ev.steps jv_i267 1 (pc' := 84) (l' := [(0, .ref 196), (1, .ref 197), (2, .int (vl_I p)), (3, .int (vl_I all))]) (st' := [.int (11 : Int32), .int (vl_I f.s)]) rfl Kz) ?_
        refine jv_Wp.cnd jv_i267 (pt := 116) (pe := 87) (p := ((11 : Int32) ≤ (vl_I f.s))) (q := ((11 : Int32) ≤ (vl_I f.s))) rfl jv_bc_ge rfl rfl Iff.rfl (fun h4 => ?_) (fun h4 => ?_)
        · refine jv_Wp.lift (fun _ Kz => jv_Ev.steps jv_i267 1 (pc' := 117) (l' := [(0, .ref 196), (1, .ref 197), (2, .int (vl_I p)), (3, .int (vl_I all))]) (st' := [.int (0 : Int32)]) rfl Kz) ?_
          refine jv_Wp.of (jv_Ev.ret jv_i267 rfl (jv_ret_b (Or.inl rfl))) ?_
          rw [hQ]
          have D := D1
          have c1 := vr_dc D
          have c2 := vr_dd D
          have c3 := vr_ds D
          have c4 : f.n = f.code / 16 := rfl
          have c5 : f.kind = f.code % 8 := rfl
          have c6 : f.mode = f.code / 32 := rfl
          have c7 := vf_z f
          have bn : f.n < 2147483648 := by omega
          have bk : f.kind < 2147483648 := by omega
          have bm : f.mode < 2147483648 := by omega
          have bz : f.z < 2147483648 := by omega
          have bc : f.code < 2147483648 := by omega
          have bd : f.d < 2147483648 := by omega
          have bs : f.s < 2147483648 := by omega
          have k1 : f.kind = 1 := (vl_I_inj (b := 1) (by omega) (by decide)).mp h1
          have y1 : f.i = 0 := (vr_dQ D).symm.trans (congrArg Int32.toInt (Classical.not_not.mp h2))
          have x2 : ¬ 10 ≤ f.d := fun z => h3 ((vl_I_le (a := 10) (b := f.d) (by decide) bd).mpr z)
          have x3 : 11 ≤ f.s := (vl_I_le (a := 11) (b := f.s) (by decide) bs).mp h4
          have ev : vf_bI f (p + 1) all (vr_n4 B (8 * p + 8)) (vr_n4 B (8 * p + 12)) = false := (vf_bI_1 k1).trans (decide_eq_false (by omega))
          exact ⟨I1, L1, by rw [ev]; rfl, D, F1⟩
        · refine jv_Wp.lift (fun _ Kz => jv_Ev.steps jv_i267 1 (pc' := 88) (l' := [(0, .ref 196), (1, .ref 197), (2, .int (vl_I p)), (3, .int (vl_I all))]) (st' := [.ref 196]) rfl Kz) ?_
          refine jv_Wp.lift (fun _ Kz => jv_Ev.c jv_i267 (pc' := 91) (S' := [.int (vl_I f.mode)]) jv_i261 [.ref 196] rfl rfl rfl rfl (jv_cal rfl (jv_H_at (jv_rwK hW 196 12 24 (by decide))) rfl rfl) rfl (vq_mode f hW D1) rfl rfl Kz) ?_
          refine jv_Wp.lift (fun _ Kz => jv_Ev.steps jv_i267 1 (pc' := 92) (l' := [(0, .ref 196), (1, .ref 197), (2, .int (vl_I p)), (3, .int (vl_I all))]) (st' := [.int (3 : Int32), .int (vl_I f.mode)]) rfl Kz) ?_
          refine jv_Wp.cnd jv_i267 (pt := 112) (pe := 95) (p := ((vl_I f.mode) = (3 : Int32))) (q := ((vl_I f.mode) = (3 : Int32))) rfl jv_bc_eq rfl rfl Iff.rfl (fun h5 => ?_) (fun h5 => ?_)
          · refine jv_Wp.lift (fun _ Kz => jv_Ev.steps jv_i267 2 (pc' := 117) (l' := [(0, .ref 196), (1, .ref 197), (2, .int (vl_I p)), (3, .int (vl_I all))]) (st' := [.int (1 : Int32)]) rfl Kz) ?_
            refine jv_Wp.of (jv_Ev.ret jv_i267 rfl (jv_ret_b (Or.inr rfl))) ?_
            rw [hQ]
            have D := D1
            have c1 := vr_dc D
            have c2 := vr_dd D
            have c3 := vr_ds D
            have c4 : f.n = f.code / 16 := rfl
            have c5 : f.kind = f.code % 8 := rfl
            have c6 : f.mode = f.code / 32 := rfl
            have c7 := vf_z f
            have bn : f.n < 2147483648 := by omega
            have bk : f.kind < 2147483648 := by omega
            have bm : f.mode < 2147483648 := by omega
            have bz : f.z < 2147483648 := by omega
            have bc : f.code < 2147483648 := by omega
            have bd : f.d < 2147483648 := by omega
            have bs : f.s < 2147483648 := by omega
            have k1 : f.kind = 1 := (vl_I_inj (b := 1) (by omega) (by decide)).mp h1
            have y1 : f.i = 0 := (vr_dQ D).symm.trans (congrArg Int32.toInt (Classical.not_not.mp h2))
            have x2 : ¬ 10 ≤ f.d := fun z => h3 ((vl_I_le (a := 10) (b := f.d) (by decide) bd).mpr z)
            have x3 : ¬ 11 ≤ f.s := fun z => h4 ((vl_I_le (a := 11) (b := f.s) (by decide) bs).mpr z)
            have x4 : f.mode = 3 := (vl_I_inj (a := f.mode) (b := 3) (Nat.lt_trans bm (by decide)) (by decide)).mp h5
            have ev : vf_bI f (p + 1) all (vr_n4 B (8 * p + 8)) (vr_n4 B (8 * p + 12)) = true := (vf_bI_1 k1).trans (decide_eq_true (by omega))
            exact ⟨I1, L1, by rw [ev]; rfl, D, F1⟩
          · refine jv_Wp.lift (fun _ Kz => jv_Ev.steps jv_i267 1 (pc' := 96) (l' := [(0, .ref 196), (1, .ref 197), (2, .int (vl_I p)), (3, .int (vl_I all))]) (st' := [.ref 196]) rfl Kz) ?_
            refine jv_Wp.lift (fun _ Kz => jv_Ev.c jv_i267 (pc' := 99) (S' := [.int (vl_I f.mode)]) jv_i261 [.ref 196] rfl rfl rfl rfl (jv_cal rfl (jv_H_at (jv_rwK hW 196 12 24 (by decide))) rfl rfl) rfl (vq_mode f hW D1) rfl rfl Kz) ?_
            refine jv_Wp.lift (fun _ Kz => jv_Ev.steps jv_i267 1 (pc' := 100) (l' := [(0, .ref 196), (1, .ref 197), (2, .int (vl_I p)), (3, .int (vl_I all))]) (st' := [.int (4 : Int32), .int (vl_I f.mode)]) rfl Kz) ?_
            refine jv_Wp.cnd jv_i267 (pt := 116) (pe := 103) (p := (¬ (vl_I f.mode) = (4 : Int32))) (q := (¬ (vl_I f.mode) = (4 : Int32))) rfl jv_bc_ne rfl rfl Iff.rfl (fun h6 => ?_) (fun h6 => ?_)
            · refine jv_Wp.lift (fun _ Kz => jv_Ev.steps jv_i267 1 (pc' := 117) (l' := [(0, .ref 196), (1, .ref 197), (2, .int (vl_I p)), (3, .int (vl_I all))]) (st' := [.int (0 : Int32)]) rfl Kz) ?_
              refine jv_Wp.of (jv_Ev.ret jv_i267 rfl (jv_ret_b (Or.inl rfl))) ?_
              rw [hQ]
              have D := D1
              have c1 := vr_dc D
              have c2 := vr_dd D
              have c3 := vr_ds D
              have c4 : f.n = f.code / 16 := rfl
              have c5 : f.kind = f.code % 8 := rfl
              have c6 : f.mode = f.code / 32 := rfl
              have c7 := vf_z f
              have bn : f.n < 2147483648 := by omega
              have bk : f.kind < 2147483648 := by omega
              have bm : f.mode < 2147483648 := by omega
              have bz : f.z < 2147483648 := by omega
              have bc : f.code < 2147483648 := by omega
              have bd : f.d < 2147483648 := by omega
              have bs : f.s < 2147483648 := by omega
              have k1 : f.kind = 1 := (vl_I_inj (b := 1) (by omega) (by decide)).mp h1
              have y1 : f.i = 0 := (vr_dQ D).symm.trans (congrArg Int32.toInt (Classical.not_not.mp h2))
              have x2 : ¬ 10 ≤ f.d := fun z => h3 ((vl_I_le (a := 10) (b := f.d) (by decide) bd).mpr z)
              have x3 : ¬ 11 ≤ f.s := fun z => h4 ((vl_I_le (a := 11) (b := f.s) (by decide) bs).mpr z)
              have x4 : ¬ f.mode = 3 := fun z => h5 ((vl_I_inj (a := f.mode) (b := 3) (Nat.lt_trans bm (by decide)) (by decide)).mpr z)
              have x5 : ¬ f.mode = 4 := fun z => h6 ((vl_I_inj (a := f.mode) (b := 4) (Nat.lt_trans bm (by decide)) (by decide)).mpr z)
              have ev : vf_bI f (p + 1) all (vr_n4 B (8 * p + 8)) (vr_n4 B (8 * p + 12)) = false := (vf_bI_1 k1).trans (decide_eq_false (by omega))
              exact ⟨I1, L1, by rw [ev]; rfl, D, F1⟩
            · refine jv_Wp.lift (fun _ Kz => jv_Ev.steps jv_i267 1 (pc' := 104) (l' := [(0, .ref 196), (1, .ref 197), (2, .int (vl_I p)), (3, .int (vl_I all))]) (st' := [.ref 196]) rfl Kz) ?_
              refine jv_Wp.lift (fun _ Kz => jv_Ev.c jv_i267 (pc' := 107) (S' := [.int (vl_I f.z)]) jv_i260 [.ref 196] rfl rfl rfl rfl (jv_cal rfl (jv_H_at (jv_rwK hW 196 12 24 (by decide))) rfl rfl) rfl (vq_size f hW D1) rfl rfl Kz) ?_
              refine jv_Wp.lift (fun _ Kz => jv_Ev.steps jv_i267 1 (pc' := 109) (l' := [(0, .ref 196), (1, .ref 197), (2, .int (vl_I p)), (3, .int (vl_I all))]) (st' := [.int (8 : Int32), .int (vl_I f.z)]) rfl Kz) ?_
              refine jv_Wp.cnd jv_i267 (pt := 116) (pe := 112) (p := ((8 : Int32) ≤ (vl_I f.z))) (q := ((8 : Int32) ≤ (vl_I f.z))) rfl jv_bc_ge rfl rfl Iff.rfl (fun h7 => ?_) (fun h7 => ?_)
              · refine jv_Wp.lift (fun _ Kz => jv_Ev.steps jv_i267 1 (pc' := 117) (l' := [(0, .ref 196), (1, .ref 197), (2, .int (vl_I p)), (3, .int (vl_I all))]) (st' := [.int (0 : Int32)]) rfl Kz) ?_
                refine jv_Wp.of (jv_Ev.ret jv_i267 rfl (jv_ret_b (Or.inl rfl))) ?_
                rw [hQ]
                have D := D1
                have c1 := vr_dc D
                have c2 := vr_dd D
                have c3 := vr_ds D
                have c4 : f.n = f.code / 16 := rfl
                have c5 : f.kind = f.code % 8 := rfl
                have c6 : f.mode = f.code / 32 := rfl
                have c7 := vf_z f
                have bn : f.n < 2147483648 := by omega
                have bk : f.kind < 2147483648 := by omega
                have bm : f.mode < 2147483648 := by omega
                have bz : f.z < 2147483648 := by omega
                have bc : f.code < 2147483648 := by omega
                have bd : f.d < 2147483648 := by omega
                have bs : f.s < 2147483648 := by omega
                have k1 : f.kind = 1 := (vl_I_inj (b := 1) (by omega) (by decide)).mp h1
                have y1 : f.i = 0 := (vr_dQ D).symm.trans (congrArg Int32.toInt (Classical.not_not.mp h2))
                have x2 : ¬ 10 ≤ f.d := fun z => h3 ((vl_I_le (a := 10) (b := f.d) (by decide) bd).mpr z)
                have x3 : ¬ 11 ≤ f.s := fun z => h4 ((vl_I_le (a := 11) (b := f.s) (by decide) bs).mpr z)
                have x4 : ¬ f.mode = 3 := fun z => h5 ((vl_I_inj (a := f.mode) (b := 3) (Nat.lt_trans bm (by decide)) (by decide)).mpr z)
                have x5 : f.mode = 4 := (vl_I_inj (a := f.mode) (b := 4) (Nat.lt_trans bm (by decide)) (by decide)).mp (Classical.not_not.mp h6)
                have x6 : 8 ≤ f.z := (vl_I_le (a := 8) (b := f.z) (by decide) bz).mp h7
                have ev : vf_bI f (p + 1) all (vr_n4 B (8 * p + 8)) (vr_n4 B (8 * p + 12)) = false := (vf_bI_1 k1).trans (decide_eq_false (by omega))
                exact ⟨I1, L1, by rw [ev]; rfl, D, F1⟩
              · refine jv_Wp.lift (fun _ Kz => jv_Ev.steps jv_i267 2 (pc' := 117) (l' := [(0, .ref 196), (1, .ref 197), (2, .int (vl_I p)), (3, .int (vl_I all))]) (st' := [.int (1 : Int32)]) rfl Kz) ?_
                refine jv_Wp.of (jv_Ev.ret jv_i267 rfl (jv_ret_b (Or.inr rfl))) ?_
                rw [hQ]
                have D := D1
                have c1 := vr_dc D
                have c2 := vr_dd D
                have c3 := vr_ds D
                have c4 : f.n = f.code / 16 := rfl
                have c5 : f.kind = f.code % 8 := rfl
                have c6 : f.mode = f.code / 32 := rfl
                have c7 := vf_z f
                have bn : f.n < 2147483648 := by omega
                have bk : f.kind < 2147483648 := by omega
                have bm : f.mode < 2147483648 := by omega
                have bz : f.z < 2147483648 := by omega
                have bc : f.code < 2147483648 := by omega
                have bd : f.d < 2147483648 := by omega
                have bs : f.s < 2147483648 := by omega
                have k1 : f.kind = 1 := (vl_I_inj (b := 1) (by omega) (by decide)).mp h1
                have y1 : f.i = 0 := (vr_dQ D).symm.trans (congrArg Int32.toInt (Classical.not_not.mp h2))
                have x2 : ¬ 10 ≤ f.d := fun z => h3 ((vl_I_le (a := 10) (b := f.d) (by decide) bd).mpr z)
                have x3 : ¬ 11 ≤ f.s := fun z => h4 ((vl_I_le (a := 11) (b := f.s) (by decide) bs).mpr z)
                have x4 : ¬ f.mode = 3 := fun z => h5 ((vl_I_inj (a := f.mode) (b := 3) (Nat.lt_trans bm (by decide)) (by decide)).mpr z)
                have x5 : f.mode = 4 := (vl_I_inj (a := f.mode) (b := 4) (Nat.lt_trans bm (by decide)) (by decide)).mp (Classical.not_not.mp h6)
                have x6 : ¬ 8 ≤ f.z := fun z => h7 ((vl_I_le (a := 8) (b := f.z) (by decide) bz).mpr z)
                have ev : vf_bI f (p + 1) all (vr_n4 B (8 * p + 8)) (vr_n4 B (8 * p + 12)) = true := (vf_bI_1 k1).trans (decide_eq_true (by omega))
                exact ⟨I1, L1, by rw [ev]; rfl, D, F1⟩
  · refine jv_Wp.bys (q := ((vl_I f.kind) = Int32.ofInt 2)) (fun h8 => ?_) (fun h8 => ?_)
    · refine jv_Wp.lift (fun _ Kz => jv_Ev.br jv_i267 (pc' := 118) (st' := []) rfl (by rw [h8]; rfl) Kz) ?_
      refine jv_Wp.lift (fun _ Kz => jv_Ev.steps jv_i267 1 (pc' := 119) (l' := [(0, .ref 196), (1, .ref 197), (2, .int (vl_I p)), (3, .int (vl_I all))]) (st' := [.ref 196]) rfl Kz) ?_
      refine jv_Wp.lift (fun _ Kz => jv_Ev.m jv_i267 (pc' := 122) (st' := [.int (vl_I f.s)]) (G' := (jv_H K I1 L1 R)) rfl rfl (jv_m_getI (jv_rwK hW 196 12 24 (by decide)) rfl rfl D1.2.2.1) Kz) ?_
      refine jv_Wp.cnd jv_i267 (pt := 146) (pe := 125) (p := (¬ (vl_I f.s) = 0)) (q := (¬ (vl_I f.s) = 0)) rfl jv_bi_ne rfl rfl Iff.rfl (fun h9 => ?_) (fun h9 => ?_)
      · refine jv_Wp.lift (fun _ Kz => jv_Ev.steps jv_i267 1 (pc' := 147) (l' := [(0, .ref 196), (1, .ref 197), (2, .int (vl_I p)), (3, .int (vl_I all))]) (st' := [.int (0 : Int32)]) rfl Kz) ?_
        refine jv_Wp.of (jv_Ev.ret jv_i267 rfl (jv_ret_b (Or.inl rfl))) ?_
        rw [hQ]
        have D := D1
        have c1 := vr_dc D
        have c2 := vr_dd D
        have c3 := vr_ds D
        have c4 : f.n = f.code / 16 := rfl
        have c5 : f.kind = f.code % 8 := rfl
        have c6 : f.mode = f.code / 32 := rfl
        have c7 := vf_z f
        have bn : f.n < 2147483648 := by omega
        have bk : f.kind < 2147483648 := by omega
        have bm : f.mode < 2147483648 := by omega
        have bz : f.z < 2147483648 := by omega
        have bc : f.code < 2147483648 := by omega
        have bd : f.d < 2147483648 := by omega
        have bs : f.s < 2147483648 := by omega
        have k1 : ¬ f.kind = 1 := fun z => h1 ((vl_I_inj (b := 1) (by omega) (by decide)).mpr z)
        have k2 : f.kind = 2 := (vl_I_inj (b := 2) (by omega) (by decide)).mp h8
        have x1 : ¬ f.s = 0 := fun z => h9 ((vl_I_inj (a := f.s) (b := 0) (Nat.lt_trans bs (by decide)) (by decide)).mpr z)
        have ev : vf_bI f (p + 1) all (vr_n4 B (8 * p + 8)) (vr_n4 B (8 * p + 12)) = false := (vf_bI_2 k2).trans (decide_eq_false (by omega))
        exact ⟨I1, L1, by rw [ev]; rfl, D, F1⟩
      · refine jv_Wp.lift (fun _ Kz => jv_Ev.steps jv_i267 1 (pc' := 126) (l' := [(0, .ref 196), (1, .ref 197), (2, .int (vl_I p)), (3, .int (vl_I all))]) (st' := [.ref 196]) rfl Kz) ?_
        refine jv_Wp.lift (fun _ Kz => jv_Ev.m jv_i267 (pc' := 129) (st' := [.int (vl_I f.d)]) (G' := (jv_H K I1 L1 R)) rfl rfl (jv_m_getI (jv_rwK hW 196 12 24 (by decide)) rfl rfl D1.2.1) Kz) ?_
        refine jv_Wp.lift (fun _ Kz => jv_Ev.steps jv_i267 1 (pc' := 131) (l' := [(0, .ref 196), (1, .ref 197), (2, .int (vl_I p)), (3, .int (vl_I all))]) (st' := [.int (11 : Int32), .int (vl_I f.d)]) rfl Kz) ?_
        refine jv_Wp.cnd jv_i267 (pt := 146) (pe := 134) (p := ((11 : Int32) ≤ (vl_I f.d))) (q := ((11 : Int32) ≤ (vl_I f.d))) rfl jv_bc_ge rfl rfl Iff.rfl (fun h10 => ?_) (fun h10 => ?_)
        · refine jv_Wp.lift (fun _ Kz => jv_Ev.steps jv_i267 1 (pc' := 147) (l' := [(0, .ref 196), (1, .ref 197), (2, .int (vl_I p)), (3, .int (vl_I all))]) (st' := [.int (0 : Int32)]) rfl Kz) ?_
          refine jv_Wp.of (jv_Ev.ret jv_i267 rfl (jv_ret_b (Or.inl rfl))) ?_
          rw [hQ]
          have D := D1
          have c1 := vr_dc D
          have c2 := vr_dd D
          have c3 := vr_ds D
          have c4 : f.n = f.code / 16 := rfl
          have c5 : f.kind = f.code % 8 := rfl
          have c6 : f.mode = f.code / 32 := rfl
          have c7 := vf_z f
          have bn : f.n < 2147483648 := by omega
          have bk : f.kind < 2147483648 := by omega
          have bm : f.mode < 2147483648 := by omega
          have bz : f.z < 2147483648 := by omega
          have bc : f.code < 2147483648 := by omega
          have bd : f.d < 2147483648 := by omega
          have bs : f.s < 2147483648 := by omega
          have k1 : ¬ f.kind = 1 := fun z => h1 ((vl_I_inj (b := 1) (by omega) (by decide)).mpr z)
          have k2 : f.kind = 2 := (vl_I_inj (b := 2) (by omega) (by decide)).mp h8
          have x1 : f.s = 0 := (vl_I_inj (a := f.s) (b := 0) (Nat.lt_trans bs (by decide)) (by decide)).mp (Classical.not_not.mp h9)
          have x2 : 11 ≤ f.d := (vl_I_le (a := 11) (b := f.d) (by decide) bd).mp h10
          have ev : vf_bI f (p + 1) all (vr_n4 B (8 * p + 8)) (vr_n4 B (8 * p + 12)) = false := (vf_bI_2 k2).trans (decide_eq_false (by omega))
          exact ⟨I1, L1, by rw [ev]; rfl, D, F1⟩
        · refine jv_Wp.lift (fun _ Kz => jv_Ev.steps jv_i267 1 (pc' := 135) (l' := [(0, .ref 196), (1, .ref 197), (2, .int (vl_I p)), (3, .int (vl_I all))]) (st' := [.ref 196]) rfl Kz) ?_
          refine jv_Wp.lift (fun _ Kz => jv_Ev.c jv_i267 (pc' := 138) (S' := [.int (vl_I f.mode)]) jv_i261 [.ref 196] rfl rfl rfl rfl (jv_cal rfl (jv_H_at (jv_rwK hW 196 12 24 (by decide))) rfl rfl) rfl (vq_mode f hW D1) rfl rfl Kz) ?_
          refine jv_Wp.lift (fun _ Kz => jv_Ev.steps jv_i267 1 (pc' := 139) (l' := [(0, .ref 196), (1, .ref 197), (2, .int (vl_I p)), (3, .int (vl_I all))]) (st' := [.int (3 : Int32), .int (vl_I f.mode)]) rfl Kz) ?_
          refine jv_Wp.cnd jv_i267 (pt := 146) (pe := 142) (p := (¬ (vl_I f.mode) = (3 : Int32))) (q := (¬ (vl_I f.mode) = (3 : Int32))) rfl jv_bc_ne rfl rfl Iff.rfl (fun h11 => ?_) (fun h11 => ?_)
          · refine jv_Wp.lift (fun _ Kz => jv_Ev.steps jv_i267 1 (pc' := 147) (l' := [(0, .ref 196), (1, .ref 197), (2, .int (vl_I p)), (3, .int (vl_I all))]) (st' := [.int (0 : Int32)]) rfl Kz) ?_
            refine jv_Wp.of (jv_Ev.ret jv_i267 rfl (jv_ret_b (Or.inl rfl))) ?_
            rw [hQ]
            have D := D1
            have c1 := vr_dc D
            have c2 := vr_dd D
            have c3 := vr_ds D
            have c4 : f.n = f.code / 16 := rfl
            have c5 : f.kind = f.code % 8 := rfl
            have c6 : f.mode = f.code / 32 := rfl
            have c7 := vf_z f
            have bn : f.n < 2147483648 := by omega
            have bk : f.kind < 2147483648 := by omega
            have bm : f.mode < 2147483648 := by omega
            have bz : f.z < 2147483648 := by omega
            have bc : f.code < 2147483648 := by omega
            have bd : f.d < 2147483648 := by omega
            have bs : f.s < 2147483648 := by omega
            have k1 : ¬ f.kind = 1 := fun z => h1 ((vl_I_inj (b := 1) (by omega) (by decide)).mpr z)
            have k2 : f.kind = 2 := (vl_I_inj (b := 2) (by omega) (by decide)).mp h8
            have x1 : f.s = 0 := (vl_I_inj (a := f.s) (b := 0) (Nat.lt_trans bs (by decide)) (by decide)).mp (Classical.not_not.mp h9)
            have x2 : ¬ 11 ≤ f.d := fun z => h10 ((vl_I_le (a := 11) (b := f.d) (by decide) bd).mpr z)
            have x3 : ¬ f.mode = 3 := fun z => h11 ((vl_I_inj (a := f.mode) (b := 3) (Nat.lt_trans bm (by decide)) (by decide)).mpr z)
            have ev : vf_bI f (p + 1) all (vr_n4 B (8 * p + 8)) (vr_n4 B (8 * p + 12)) = false := (vf_bI_2 k2).trans (decide_eq_false (by omega))
            exact ⟨I1, L1, by rw [ev]; rfl, D, F1⟩
          · refine jv_Wp.lift (fun _ Kz => jv_Ev.steps jv_i267 2 (pc' := 147) (l' := [(0, .ref 196), (1, .ref 197), (2, .int (vl_I p)), (3, .int (vl_I all))]) (st' := [.int (1 : Int32)]) rfl Kz) ?_
            refine jv_Wp.of (jv_Ev.ret jv_i267 rfl (jv_ret_b (Or.inr rfl))) ?_
            rw [hQ]
            have D := D1
            have c1 := vr_dc D
            have c2 := vr_dd D
            have c3 := vr_ds D
            have c4 : f.n = f.code / 16 := rfl
            have c5 : f.kind = f.code % 8 := rfl
            have c6 : f.mode = f.code / 32 := rfl
            have c7 := vf_z f
            have bn : f.n < 2147483648 := by omega
            have bk : f.kind < 2147483648 := by omega
            have bm : f.mode < 2147483648 := by omega
            have bz : f.z < 2147483648 := by omega
            have bc : f.code < 2147483648 := by omega
            have bd : f.d < 2147483648 := by omega
            have bs : f.s < 2147483648 := by omega
            have k1 : ¬ f.kind = 1 := fun z => h1 ((vl_I_inj (b := 1) (by omega) (by decide)).mpr z)
            have k2 : f.kind = 2 := (vl_I_inj (b := 2) (by omega) (by decide)).mp h8
            have x1 : f.s = 0 := (vl_I_inj (a := f.s) (b := 0) (Nat.lt_trans bs (by decide)) (by decide)).mp (Classical.not_not.mp h9)
            have x2 : ¬ 11 ≤ f.d := fun z => h10 ((vl_I_le (a := 11) (b := f.d) (by decide) bd).mpr z)
            have x3 : f.mode = 3 := (vl_I_inj (a := f.mode) (b := 3) (Nat.lt_trans bm (by decide)) (by decide)).mp (Classical.not_not.mp h11)
            have ev : vf_bI f (p + 1) all (vr_n4 B (8 * p + 8)) (vr_n4 B (8 * p + 12)) = true := (vf_bI_2 k2).trans (decide_eq_true (by omega))
            exact ⟨I1, L1, by rw [ev]; rfl, D, F1⟩
    · refine jv_Wp.bys (q := ((vl_I f.kind) = Int32.ofInt 3)) (fun h12 => ?_) (fun h12 => ?_)
      · refine jv_Wp.lift (fun _ Kz => jv_Ev.br jv_i267 (pc' := 148) (st' := []) rfl (by rw [h12]; rfl) Kz) ?_
        refine jv_Wp.lift (fun _ Kz => jv_Ev.steps jv_i267 1 (pc' := 149) (l' := [(0, .ref 196), (1, .ref 197), (2, .int (vl_I p)), (3, .int (vl_I all))]) (st' := [.ref 196]) rfl Kz) ?_
        refine jv_Wp.lift (fun _ Kz => jv_Ev.c jv_i267 (pc' := 152) (S' := [.int (vl_I f.mode)]) jv_i261 [.ref 196] rfl rfl rfl rfl (jv_cal rfl (jv_H_at (jv_rwK hW 196 12 24 (by decide))) rfl rfl) rfl (vq_mode f hW D1) rfl rfl Kz) ?_
        refine jv_Wp.lift (fun _ Kz => jv_Ev.steps jv_i267 1 (pc' := 153) (l' := [(0, .ref 196), (1, .ref 197), (2, .int (vl_I p)), (3, .int (vl_I all))]) (st' := [.int (3 : Int32), .int (vl_I f.mode)]) rfl Kz) ?_
        refine jv_Wp.cnd jv_i267 (pt := 189) (pe := 156) (p := (¬ (vl_I f.mode) = (3 : Int32))) (q := (¬ (vl_I f.mode) = (3 : Int32))) rfl jv_bc_ne rfl rfl Iff.rfl (fun h13 => ?_) (fun h13 => ?_)
        · refine jv_Wp.lift (fun _ Kz => jv_Ev.steps jv_i267 1 (pc' := 190) (l' := [(0, .ref 196), (1, .ref 197), (2, .int (vl_I p)), (3, .int (vl_I all))]) (st' := [.ref 196]) rfl Kz) ?_
          refine jv_Wp.lift (fun _ Kz => jv_Ev.c jv_i267 (pc' := 193) (S' := [.int (vl_I f.mode)]) jv_i261 [.ref 196] rfl rfl rfl rfl (jv_cal rfl (jv_H_at (jv_rwK hW 196 12 24 (by decide))) rfl rfl) rfl (vq_mode f hW D1) rfl rfl Kz) ?_
          refine jv_Wp.lift (fun _ Kz => jv_Ev.steps jv_i267 1 (pc' := 195) (l' := [(0, .ref 196), (1, .ref 197), (2, .int (vl_I p)), (3, .int (vl_I all))]) (st' := [.int (6 : Int32), .int (vl_I f.mode)]) rfl Kz) ?_
          refine jv_Wp.cnd jv_i267 (pt := 209) (pe := 198) (p := (¬ (vl_I f.mode) = (6 : Int32))) (q := (¬ (vl_I f.mode) = (6 : Int32))) rfl jv_bc_ne rfl rfl Iff.rfl (fun h14 => ?_) (fun h14 => ?_)
          · refine jv_Wp.lift (fun _ Kz => jv_Ev.steps jv_i267 1 (pc' := 210) (l' := [(0, .ref 196), (1, .ref 197), (2, .int (vl_I p)), (3, .int (vl_I all))]) (st' := [.int (0 : Int32)]) rfl Kz) ?_
            refine jv_Wp.of (jv_Ev.ret jv_i267 rfl (jv_ret_b (Or.inl rfl))) ?_
            rw [hQ]
            have D := D1
            have c1 := vr_dc D
            have c2 := vr_dd D
            have c3 := vr_ds D
            have c4 : f.n = f.code / 16 := rfl
            have c5 : f.kind = f.code % 8 := rfl
            have c6 : f.mode = f.code / 32 := rfl
            have c7 := vf_z f
            have bn : f.n < 2147483648 := by omega
            have bk : f.kind < 2147483648 := by omega
            have bm : f.mode < 2147483648 := by omega
            have bz : f.z < 2147483648 := by omega
            have bc : f.code < 2147483648 := by omega
            have bd : f.d < 2147483648 := by omega
            have bs : f.s < 2147483648 := by omega
            have k1 : ¬ f.kind = 1 := fun z => h1 ((vl_I_inj (b := 1) (by omega) (by decide)).mpr z)
            have k2 : ¬ f.kind = 2 := fun z => h8 ((vl_I_inj (b := 2) (by omega) (by decide)).mpr z)
            have k3 : f.kind = 3 := (vl_I_inj (b := 3) (by omega) (by decide)).mp h12
            have x1 : ¬ f.mode = 3 := fun z => h13 ((vl_I_inj (a := f.mode) (b := 3) (Nat.lt_trans bm (by decide)) (by decide)).mpr z)
            have x2 : ¬ f.mode = 6 := fun z => h14 ((vl_I_inj (a := f.mode) (b := 6) (Nat.lt_trans bm (by decide)) (by decide)).mpr z)
            have ev : vf_bI f (p + 1) all (vr_n4 B (8 * p + 8)) (vr_n4 B (8 * p + 12)) = false := (vf_bI_3 k3).trans (decide_eq_false (by omega))
            exact ⟨I1, L1, by rw [ev]; rfl, D, F1⟩
          · refine jv_Wp.lift (fun _ Kz => jv_Ev.steps jv_i267 1 (pc' := 199) (l' := [(0, .ref 196), (1, .ref 197), (2, .int (vl_I p)), (3, .int (vl_I all))]) (st' := [.ref 196]) rfl Kz) ?_
            refine jv_Wp.lift (fun _ Kz => jv_Ev.c jv_i267 (pc' := 202) (S' := [.int (vr_b (decide (vf_pT f)))]) jv_i266 [.ref 196] rfl rfl rfl rfl (jv_cal rfl (jv_H_at (jv_rwK hW 196 12 24 (by decide))) rfl rfl) rfl (vq_isAtomic f hW D1) rfl rfl Kz) ?_
            refine jv_Wp.cnd jv_i267 (pt := 209) (pe := 205) (p := ((vr_b (decide (vf_pT f))) = 0)) (q := ((vr_b (decide (vf_pT f))) = 0)) rfl jv_bi_eq rfl rfl Iff.rfl (fun h15 => ?_) (fun h15 => ?_)
            · refine jv_Wp.lift (fun _ Kz => jv_Ev.steps jv_i267 1 (pc' := 210) (l' := [(0, .ref 196), (1, .ref 197), (2, .int (vl_I p)), (3, .int (vl_I all))]) (st' := [.int (0 : Int32)]) rfl Kz) ?_
              refine jv_Wp.of (jv_Ev.ret jv_i267 rfl (jv_ret_b (Or.inl rfl))) ?_
              rw [hQ]
              have D := D1
              have c1 := vr_dc D
              have c2 := vr_dd D
              have c3 := vr_ds D
              have c4 : f.n = f.code / 16 := rfl
              have c5 : f.kind = f.code % 8 := rfl
              have c6 : f.mode = f.code / 32 := rfl
              have c7 := vf_z f
              have bn : f.n < 2147483648 := by omega
              have bk : f.kind < 2147483648 := by omega
              have bm : f.mode < 2147483648 := by omega
              have bz : f.z < 2147483648 := by omega
              have bc : f.code < 2147483648 := by omega
              have bd : f.d < 2147483648 := by omega
              have bs : f.s < 2147483648 := by omega
              have k1 : ¬ f.kind = 1 := fun z => h1 ((vl_I_inj (b := 1) (by omega) (by decide)).mpr z)
              have k2 : ¬ f.kind = 2 := fun z => h8 ((vl_I_inj (b := 2) (by omega) (by decide)).mpr z)
              have k3 : f.kind = 3 := (vl_I_inj (b := 3) (by omega) (by decide)).mp h12
              have x1 : ¬ f.mode = 3 := fun z => h13 ((vl_I_inj (a := f.mode) (b := 3) (Nat.lt_trans bm (by decide)) (by decide)).mpr z)
              have x2 : f.mode = 6 := (vl_I_inj (a := f.mode) (b := 6) (Nat.lt_trans bm (by decide)) (by decide)).mp (Classical.not_not.mp h14)
              have b3 := of_decide_eq_false (vr_b_f h15)
              have ev : vf_bI f (p + 1) all (vr_n4 B (8 * p + 8)) (vr_n4 B (8 * p + 12)) = false := (vf_bI_3 k3).trans (decide_eq_false (by omega))
              exact ⟨I1, L1, by rw [ev]; rfl, D, F1⟩
            · refine jv_Wp.lift (fun _ Kz => jv_Ev.steps jv_i267 2 (pc' := 210) (l' := [(0, .ref 196), (1, .ref 197), (2, .int (vl_I p)), (3, .int (vl_I all))]) (st' := [.int (1 : Int32)]) rfl Kz) ?_
              refine jv_Wp.of (jv_Ev.ret jv_i267 rfl (jv_ret_b (Or.inr rfl))) ?_
              rw [hQ]
              have D := D1
              have c1 := vr_dc D
              have c2 := vr_dd D
              have c3 := vr_ds D
              have c4 : f.n = f.code / 16 := rfl
              have c5 : f.kind = f.code % 8 := rfl
              have c6 : f.mode = f.code / 32 := rfl
              have c7 := vf_z f
              have bn : f.n < 2147483648 := by omega
              have bk : f.kind < 2147483648 := by omega
              have bm : f.mode < 2147483648 := by omega
              have bz : f.z < 2147483648 := by omega
              have bc : f.code < 2147483648 := by omega
              have bd : f.d < 2147483648 := by omega
              have bs : f.s < 2147483648 := by omega
              have k1 : ¬ f.kind = 1 := fun z => h1 ((vl_I_inj (b := 1) (by omega) (by decide)).mpr z)
              have k2 : ¬ f.kind = 2 := fun z => h8 ((vl_I_inj (b := 2) (by omega) (by decide)).mpr z)
              have k3 : f.kind = 3 := (vl_I_inj (b := 3) (by omega) (by decide)).mp h12
              have x1 : ¬ f.mode = 3 := fun z => h13 ((vl_I_inj (a := f.mode) (b := 3) (Nat.lt_trans bm (by decide)) (by decide)).mpr z)
              have x2 : f.mode = 6 := (vl_I_inj (a := f.mode) (b := 6) (Nat.lt_trans bm (by decide)) (by decide)).mp (Classical.not_not.mp h14)
              have b3 := of_decide_eq_true (vr_b_t h15)
              have ev : vf_bI f (p + 1) all (vr_n4 B (8 * p + 8)) (vr_n4 B (8 * p + 12)) = true := (vf_bI_3 k3).trans (decide_eq_true (by omega))
              exact ⟨I1, L1, by rw [ev]; rfl, D, F1⟩
        · refine jv_Wp.lift (fun _ Kz => jv_Ev.steps jv_i267 1 (pc' := 157) (l' := [(0, .ref 196), (1, .ref 197), (2, .int (vl_I p)), (3, .int (vl_I all))]) (st' := [.ref 196]) rfl Kz) ?_
          refine jv_Wp.lift (fun _ Kz => jv_Ev.m jv_i267 (pc' := 160) (st' := [.int (Int32.ofInt f.i)]) (G' := (jv_H K I1 L1 R)) rfl rfl (jv_m_getI (jv_rwK hW 196 12 24 (by decide)) rfl rfl (vr_dJ D1)) Kz) ?_
          refine jv_Wp.cnd jv_i267 (pt := 185) (pe := 163) (p := (¬ (Int32.ofInt f.i) = 0)) (q := (¬ (Int32.ofInt f.i) = 0)) rfl jv_bi_ne rfl rfl Iff.rfl (fun h16 => ?_) (fun h16 => ?_)
          · refine jv_Wp.lift (fun _ Kz => jv_Ev.steps jv_i267 2 (pc' := 210) (l' := [(0, .ref 196), (1, .ref 197), (2, .int (vl_I p)), (3, .int (vl_I all))]) (st' := [.int (0 : Int32)]) rfl Kz) ?_
            refine jv_Wp.of (jv_Ev.ret jv_i267 rfl (jv_ret_b (Or.inl rfl))) ?_
            rw [hQ]
            have D := D1
            have c1 := vr_dc D
            have c2 := vr_dd D
            have c3 := vr_ds D
            have c4 : f.n = f.code / 16 := rfl
            have c5 : f.kind = f.code % 8 := rfl
            have c6 : f.mode = f.code / 32 := rfl
            have c7 := vf_z f
            have bn : f.n < 2147483648 := by omega
            have bk : f.kind < 2147483648 := by omega
            have bm : f.mode < 2147483648 := by omega
            have bz : f.z < 2147483648 := by omega
            have bc : f.code < 2147483648 := by omega
            have bd : f.d < 2147483648 := by omega
            have bs : f.s < 2147483648 := by omega
            have k1 : ¬ f.kind = 1 := fun z => h1 ((vl_I_inj (b := 1) (by omega) (by decide)).mpr z)
            have k2 : ¬ f.kind = 2 := fun z => h8 ((vl_I_inj (b := 2) (by omega) (by decide)).mpr z)
            have k3 : f.kind = 3 := (vl_I_inj (b := 3) (by omega) (by decide)).mp h12
            have x1 : f.mode = 3 := (vl_I_inj (a := f.mode) (b := 3) (Nat.lt_trans bm (by decide)) (by decide)).mp (Classical.not_not.mp h13)
            have y2 : ¬ f.i = 0 := fun z => h16 (Int32.toInt_inj.mp ((vr_dQ D).trans (z.trans rfl)))
            have ev : vf_bI f (p + 1) all (vr_n4 B (8 * p + 8)) (vr_n4 B (8 * p + 12)) = false := (vf_bI_3 k3).trans (decide_eq_false (by omega))
            exact ⟨I1, L1, by rw [ev]; rfl, D, F1⟩
          · refine jv_Wp.lift (fun _ Kz => jv_Ev.steps jv_i267 1 (pc' := 164) (l' := [(0, .ref 196), (1, .ref 197), (2, .int (vl_I p)), (3, .int (vl_I all))]) (st' := [.ref 196]) rfl Kz) ?_
            refine jv_Wp.lift (fun _ Kz => jv_Ev.m jv_i267 (pc' := 167) (st' := [.int (vl_I f.d)]) (G' := (jv_H K I1 L1 R)) rfl rfl (jv_m_getI (jv_rwK hW 196 12 24 (by decide)) rfl rfl D1.2.1) Kz) ?_
            refine jv_Wp.lift (fun _ Kz => jv_Ev.steps jv_i267 1 (pc' := 169) (l' := [(0, .ref 196), (1, .ref 197), (2, .int (vl_I p)), (3, .int (vl_I all))]) (st' := [.int (11 : Int32), .int (vl_I f.d)]) rfl Kz) ?_
            refine jv_Wp.cnd jv_i267 (pt := 185) (pe := 172) (p := ((11 : Int32) ≤ (vl_I f.d))) (q := ((11 : Int32) ≤ (vl_I f.d))) rfl jv_bc_ge rfl rfl Iff.rfl (fun h17 => ?_) (fun h17 => ?_)
            · refine jv_Wp.lift (fun _ Kz => jv_Ev.steps jv_i267 2 (pc' := 210) (l' := [(0, .ref 196), (1, .ref 197), (2, .int (vl_I p)), (3, .int (vl_I all))]) (st' := [.int (0 : Int32)]) rfl Kz) ?_
              refine jv_Wp.of (jv_Ev.ret jv_i267 rfl (jv_ret_b (Or.inl rfl))) ?_
              rw [hQ]
              have D := D1
              have c1 := vr_dc D
              have c2 := vr_dd D
              have c3 := vr_ds D
              have c4 : f.n = f.code / 16 := rfl
              have c5 : f.kind = f.code % 8 := rfl
              have c6 : f.mode = f.code / 32 := rfl
              have c7 := vf_z f
              have bn : f.n < 2147483648 := by omega
              have bk : f.kind < 2147483648 := by omega
              have bm : f.mode < 2147483648 := by omega
              have bz : f.z < 2147483648 := by omega
              have bc : f.code < 2147483648 := by omega
              have bd : f.d < 2147483648 := by omega
              have bs : f.s < 2147483648 := by omega
              have k1 : ¬ f.kind = 1 := fun z => h1 ((vl_I_inj (b := 1) (by omega) (by decide)).mpr z)
              have k2 : ¬ f.kind = 2 := fun z => h8 ((vl_I_inj (b := 2) (by omega) (by decide)).mpr z)
              have k3 : f.kind = 3 := (vl_I_inj (b := 3) (by omega) (by decide)).mp h12
              have x1 : f.mode = 3 := (vl_I_inj (a := f.mode) (b := 3) (Nat.lt_trans bm (by decide)) (by decide)).mp (Classical.not_not.mp h13)
              have y2 : f.i = 0 := (vr_dQ D).symm.trans (congrArg Int32.toInt (Classical.not_not.mp h16))
              have x3 : 11 ≤ f.d := (vl_I_le (a := 11) (b := f.d) (by decide) bd).mp h17
              have ev : vf_bI f (p + 1) all (vr_n4 B (8 * p + 8)) (vr_n4 B (8 * p + 12)) = false := (vf_bI_3 k3).trans (decide_eq_false (by omega))
              exact ⟨I1, L1, by rw [ev]; rfl, D, F1⟩
            · refine jv_Wp.lift (fun _ Kz => jv_Ev.steps jv_i267 1 (pc' := 173) (l' := [(0, .ref 196), (1, .ref 197), (2, .int (vl_I p)), (3, .int (vl_I all))]) (st' := [.ref 196]) rfl Kz) ?_
              refine jv_Wp.lift (fun _ Kz => jv_Ev.m jv_i267 (pc' := 176) (st' := [.int (vl_I f.s)]) (G' := (jv_H K I1 L1 R)) rfl rfl (jv_m_getI (jv_rwK hW 196 12 24 (by decide)) rfl rfl D1.2.2.1) Kz) ?_
              refine jv_Wp.lift (fun _ Kz => jv_Ev.steps jv_i267 1 (pc' := 178) (l' := [(0, .ref 196), (1, .ref 197), (2, .int (vl_I p)), (3, .int (vl_I all))]) (st' := [.int (11 : Int32), .int (vl_I f.s)]) rfl Kz) ?_
              refine jv_Wp.cnd jv_i267 (pt := 185) (pe := 181) (p := ((11 : Int32) ≤ (vl_I f.s))) (q := ((11 : Int32) ≤ (vl_I f.s))) rfl jv_bc_ge rfl rfl Iff.rfl (fun h18 => ?_) (fun h18 => ?_)
              · refine jv_Wp.lift (fun _ Kz => jv_Ev.steps jv_i267 2 (pc' := 210) (l' := [(0, .ref 196), (1, .ref 197), (2, .int (vl_I p)), (3, .int (vl_I all))]) (st' := [.int (0 : Int32)]) rfl Kz) ?_
                refine jv_Wp.of (jv_Ev.ret jv_i267 rfl (jv_ret_b (Or.inl rfl))) ?_
                rw [hQ]
                have D := D1
                have c1 := vr_dc D
                have c2 := vr_dd D
                have c3 := vr_ds D
                have c4 : f.n = f.code / 16 := rfl
                have c5 : f.kind = f.code % 8 := rfl
                have c6 : f.mode = f.code / 32 := rfl
                have c7 := vf_z f
                have bn : f.n < 2147483648 := by omega
                have bk : f.kind < 2147483648 := by omega
                have bm : f.mode < 2147483648 := by omega
                have bz : f.z < 2147483648 := by omega
                have bc : f.code < 2147483648 := by omega
                have bd : f.d < 2147483648 := by omega
                have bs : f.s < 2147483648 := by omega
                have k1 : ¬ f.kind = 1 := fun z => h1 ((vl_I_inj (b := 1) (by omega) (by decide)).mpr z)
                have k2 : ¬ f.kind = 2 := fun z => h8 ((vl_I_inj (b := 2) (by omega) (by decide)).mpr z)
                have k3 : f.kind = 3 := (vl_I_inj (b := 3) (by omega) (by decide)).mp h12
                have x1 : f.mode = 3 := (vl_I_inj (a := f.mode) (b := 3) (Nat.lt_trans bm (by decide)) (by decide)).mp (Classical.not_not.mp h13)
                have y2 : f.i = 0 := (vr_dQ D).symm.trans (congrArg Int32.toInt (Classical.not_not.mp h16))
                have x3 : ¬ 11 ≤ f.d := fun z => h17 ((vl_I_le (a := 11) (b := f.d) (by decide) bd).mpr z)
                have x4 : 11 ≤ f.s := (vl_I_le (a := 11) (b := f.s) (by decide) bs).mp h18
                have ev : vf_bI f (p + 1) all (vr_n4 B (8 * p + 8)) (vr_n4 B (8 * p + 12)) = false := (vf_bI_3 k3).trans (decide_eq_false (by omega))
                exact ⟨I1, L1, by rw [ev]; rfl, D, F1⟩
              · refine jv_Wp.lift (fun _ Kz => jv_Ev.steps jv_i267 2 (pc' := 210) (l' := [(0, .ref 196), (1, .ref 197), (2, .int (vl_I p)), (3, .int (vl_I all))]) (st' := [.int (1 : Int32)]) rfl Kz) ?_
                refine jv_Wp.of (jv_Ev.ret jv_i267 rfl (jv_ret_b (Or.inr rfl))) ?_
                rw [hQ]
                have D := D1
                have c1 := vr_dc D
                have c2 := vr_dd D
                have c3 := vr_ds D
                have c4 : f.n = f.code / 16 := rfl
                have c5 : f.kind = f.code % 8 := rfl
                have c6 : f.mode = f.code / 32 := rfl
                have c7 := vf_z f
                have bn : f.n < 2147483648 := by omega
                have bk : f.kind < 2147483648 := by omega
                have bm : f.mode < 2147483648 := by omega
                have bz : f.z < 2147483648 := by omega
                have bc : f.code < 2147483648 := by omega
                have bd : f.d < 2147483648 := by omega
                have bs : f.s < 2147483648 := by omega
                have k1 : ¬ f.kind = 1 := fun z => h1 ((vl_I_inj (b := 1) (by omega) (by decide)).mpr z)
                have k2 : ¬ f.kind = 2 := fun z => h8 ((vl_I_inj (b := 2) (by omega) (by decide)).mpr z)
                have k3 : f.kind = 3 := (vl_I_inj (b := 3) (by omega) (by decide)).mp h12
                have x1 : f.mode = 3 := (vl_I_inj (a := f.mode) (b := 3) (Nat.lt_trans bm (by decide)) (by decide)).mp (Classical.not_not.mp h13)
                have y2 : f.i = 0 := (vr_dQ D).symm.trans (congrArg Int32.toInt (Classical.not_not.mp h16))
                have x3 : ¬ 11 ≤ f.d := fun z => h17 ((vl_I_le (a := 11) (b := f.d) (by decide) bd).mpr z)
                have x4 : ¬ 11 ≤ f.s := fun z => h18 ((vl_I_le (a := 11) (b := f.s) (by decide) bs).mpr z)
                have ev : vf_bI f (p + 1) all (vr_n4 B (8 * p + 8)) (vr_n4 B (8 * p + 12)) = true := (vf_bI_3 k3).trans (decide_eq_true (by omega))
                exact ⟨I1, L1, by rw [ev]; rfl, D, F1⟩
      · refine jv_Wp.bys (q := ((vl_I f.kind) = Int32.ofInt 4)) (fun h19 => ?_) (fun h19 => ?_)
        · refine jv_Wp.lift (fun _ Kz => jv_Ev.br jv_i267 (pc' := 52) (st' := []) rfl (by rw [h19]; rfl) Kz) ?_
          refine jv_Wp.lift (fun _ Kz => jv_Ev.steps jv_i267 1 (pc' := 53) (l' := [(0, .ref 196), (1, .ref 197), (2, .int (vl_I p)), (3, .int (vl_I all))]) (st' := [.ref 196]) rfl Kz) ?_
          refine jv_Wp.lift (fun _ Kz => jv_Ev.c jv_i267 (pc' := 56) (S' := [.int (vr_b (decide (vf_pA f)))]) jv_i264 [.ref 196] rfl rfl rfl rfl (jv_cal rfl (jv_H_at (jv_rwK hW 196 12 24 (by decide))) rfl rfl) rfl (vq_isArithmetic f hW D1) rfl rfl Kz) ?_
          refine jv_Wp.of (jv_Ev.ret jv_i267 rfl (jv_ret_b (vr_b01 _))) ?_
          rw [hQ]
          have D := D1
          have c1 := vr_dc D
          have c2 := vr_dd D
          have c3 := vr_ds D
          have c4 : f.n = f.code / 16 := rfl
          have c5 : f.kind = f.code % 8 := rfl
          have c6 : f.mode = f.code / 32 := rfl
          have c7 := vf_z f
          have bn : f.n < 2147483648 := by omega
          have bk : f.kind < 2147483648 := by omega
          have bm : f.mode < 2147483648 := by omega
          have bz : f.z < 2147483648 := by omega
          have bc : f.code < 2147483648 := by omega
          have bd : f.d < 2147483648 := by omega
          have bs : f.s < 2147483648 := by omega
          have k1 : ¬ f.kind = 1 := fun z => h1 ((vl_I_inj (b := 1) (by omega) (by decide)).mpr z)
          have k2 : ¬ f.kind = 2 := fun z => h8 ((vl_I_inj (b := 2) (by omega) (by decide)).mpr z)
          have k3 : ¬ f.kind = 3 := fun z => h12 ((vl_I_inj (b := 3) (by omega) (by decide)).mpr z)
          have k4 : f.kind = 4 := (vl_I_inj (b := 4) (by omega) (by decide)).mp h19
          have ev : vf_bI f (p + 1) all (vr_n4 B (8 * p + 8)) (vr_n4 B (8 * p + 12)) = decide (vf_pA f) := vf_bI_47 (by omega)
          exact ⟨I1, L1, by rw [ev], D, F1⟩
        · refine jv_Wp.bys (q := ((vl_I f.kind) = Int32.ofInt 5)) (fun h20 => ?_) (fun h20 => ?_)
          · refine jv_Wp.lift (fun _ Kz => jv_Ev.br jv_i267 (pc' := 57) (st' := []) rfl (by rw [h20]; rfl) Kz) ?_
            refine jv_Wp.lift (fun _ Kz => jv_Ev.steps jv_i267 1 (pc' := 58) (l' := [(0, .ref 196), (1, .ref 197), (2, .int (vl_I p)), (3, .int (vl_I all))]) (st' := [.ref 196]) rfl Kz) ?_
            have c5 : f.kind = f.code % 8 := rfl
            have k5 : f.kind = 5 := (vl_I_inj (b := 5) (by omega) (by decide)).mp h20
            refine jv_Wp.lift (fun _ Kz => jv_Ev.c jv_i267 (pc' := 61) (S' := [.int (vr_b (decide (vf_pJ f)))]) jv_i265 [.ref 196] rfl rfl rfl rfl (jv_cal rfl (jv_H_at (jv_rwK hW 196 12 24 (by decide))) rfl rfl) rfl (vq_isJump f hW D1 (by omega)) rfl rfl Kz) ?_
            refine jv_Wp.of (jv_Ev.ret jv_i267 rfl (jv_ret_b (vr_b01 _))) ?_
            rw [hQ]
            have D := D1
            have c1 := vr_dc D
            have c2 := vr_dd D
            have c3 := vr_ds D
            have c4 : f.n = f.code / 16 := rfl
            have c5 : f.kind = f.code % 8 := rfl
            have c6 : f.mode = f.code / 32 := rfl
            have c7 := vf_z f
            have bn : f.n < 2147483648 := by omega
            have bk : f.kind < 2147483648 := by omega
            have bm : f.mode < 2147483648 := by omega
            have bz : f.z < 2147483648 := by omega
            have bc : f.code < 2147483648 := by omega
            have bd : f.d < 2147483648 := by omega
            have bs : f.s < 2147483648 := by omega
            have k1 : ¬ f.kind = 1 := fun z => h1 ((vl_I_inj (b := 1) (by omega) (by decide)).mpr z)
            have k2 : ¬ f.kind = 2 := fun z => h8 ((vl_I_inj (b := 2) (by omega) (by decide)).mpr z)
            have k3 : ¬ f.kind = 3 := fun z => h12 ((vl_I_inj (b := 3) (by omega) (by decide)).mpr z)
            have k4 : ¬ f.kind = 4 := fun z => h19 ((vl_I_inj (b := 4) (by omega) (by decide)).mpr z)
            have k5 : f.kind = 5 := (vl_I_inj (b := 5) (by omega) (by decide)).mp h20
            have ev : vf_bI f (p + 1) all (vr_n4 B (8 * p + 8)) (vr_n4 B (8 * p + 12)) = decide (vf_pJ f) := vf_bI_56 (by omega)
            exact ⟨I1, L1, by rw [ev], D, F1⟩
          · refine jv_Wp.bys (q := ((vl_I f.kind) = Int32.ofInt 6)) (fun h21 => ?_) (fun h21 => ?_)
            · refine jv_Wp.lift (fun _ Kz => jv_Ev.br jv_i267 (pc' := 57) (st' := []) rfl (by rw [h21]; rfl) Kz) ?_
              refine jv_Wp.lift (fun _ Kz => jv_Ev.steps jv_i267 1 (pc' := 58) (l' := [(0, .ref 196), (1, .ref 197), (2, .int (vl_I p)), (3, .int (vl_I all))]) (st' := [.ref 196]) rfl Kz) ?_
              have c5 : f.kind = f.code % 8 := rfl
              have k6 : f.kind = 6 := (vl_I_inj (b := 6) (by omega) (by decide)).mp h21
              refine jv_Wp.lift (fun _ Kz => jv_Ev.c jv_i267 (pc' := 61) (S' := [.int (vr_b (decide (vf_pJ f)))]) jv_i265 [.ref 196] rfl rfl rfl rfl (jv_cal rfl (jv_H_at (jv_rwK hW 196 12 24 (by decide))) rfl rfl) rfl (vq_isJump f hW D1 (by omega)) rfl rfl Kz) ?_
              refine jv_Wp.of (jv_Ev.ret jv_i267 rfl (jv_ret_b (vr_b01 _))) ?_
              rw [hQ]
              have D := D1
              have c1 := vr_dc D
              have c2 := vr_dd D
              have c3 := vr_ds D
              have c4 : f.n = f.code / 16 := rfl
              have c5 : f.kind = f.code % 8 := rfl
              have c6 : f.mode = f.code / 32 := rfl
              have c7 := vf_z f
              have bn : f.n < 2147483648 := by omega
              have bk : f.kind < 2147483648 := by omega
              have bm : f.mode < 2147483648 := by omega
              have bz : f.z < 2147483648 := by omega
              have bc : f.code < 2147483648 := by omega
              have bd : f.d < 2147483648 := by omega
              have bs : f.s < 2147483648 := by omega
              have k1 : ¬ f.kind = 1 := fun z => h1 ((vl_I_inj (b := 1) (by omega) (by decide)).mpr z)
              have k2 : ¬ f.kind = 2 := fun z => h8 ((vl_I_inj (b := 2) (by omega) (by decide)).mpr z)
              have k3 : ¬ f.kind = 3 := fun z => h12 ((vl_I_inj (b := 3) (by omega) (by decide)).mpr z)
              have k4 : ¬ f.kind = 4 := fun z => h19 ((vl_I_inj (b := 4) (by omega) (by decide)).mpr z)
              have k5 : ¬ f.kind = 5 := fun z => h20 ((vl_I_inj (b := 5) (by omega) (by decide)).mpr z)
              have k6 : f.kind = 6 := (vl_I_inj (b := 6) (by omega) (by decide)).mp h21
              have ev : vf_bI f (p + 1) all (vr_n4 B (8 * p + 8)) (vr_n4 B (8 * p + 12)) = decide (vf_pJ f) := vf_bI_56 (by omega)
              exact ⟨I1, L1, by rw [ev], D, F1⟩
            · refine jv_Wp.bys (q := ((vl_I f.kind) = Int32.ofInt 7)) (fun h22 => ?_) (fun h22 => ?_)
              · refine jv_Wp.lift (fun _ Kz => jv_Ev.br jv_i267 (pc' := 52) (st' := []) rfl (by rw [h22]; rfl) Kz) ?_
                refine jv_Wp.lift (fun _ Kz => jv_Ev.steps jv_i267 1 (pc' := 53) (l' := [(0, .ref 196), (1, .ref 197), (2, .int (vl_I p)), (3, .int (vl_I all))]) (st' := [.ref 196]) rfl Kz) ?_
                refine jv_Wp.lift (fun _ Kz => jv_Ev.c jv_i267 (pc' := 56) (S' := [.int (vr_b (decide (vf_pA f)))]) jv_i264 [.ref 196] rfl rfl rfl rfl (jv_cal rfl (jv_H_at (jv_rwK hW 196 12 24 (by decide))) rfl rfl) rfl (vq_isArithmetic f hW D1) rfl rfl Kz) ?_
                refine jv_Wp.of (jv_Ev.ret jv_i267 rfl (jv_ret_b (vr_b01 _))) ?_
                rw [hQ]
                have D := D1
                have c1 := vr_dc D
                have c2 := vr_dd D
                have c3 := vr_ds D
                have c4 : f.n = f.code / 16 := rfl
                have c5 : f.kind = f.code % 8 := rfl
                have c6 : f.mode = f.code / 32 := rfl
                have c7 := vf_z f
                have bn : f.n < 2147483648 := by omega
                have bk : f.kind < 2147483648 := by omega
                have bm : f.mode < 2147483648 := by omega
                have bz : f.z < 2147483648 := by omega
                have bc : f.code < 2147483648 := by omega
                have bd : f.d < 2147483648 := by omega
                have bs : f.s < 2147483648 := by omega
                have k1 : ¬ f.kind = 1 := fun z => h1 ((vl_I_inj (b := 1) (by omega) (by decide)).mpr z)
                have k2 : ¬ f.kind = 2 := fun z => h8 ((vl_I_inj (b := 2) (by omega) (by decide)).mpr z)
                have k3 : ¬ f.kind = 3 := fun z => h12 ((vl_I_inj (b := 3) (by omega) (by decide)).mpr z)
                have k4 : ¬ f.kind = 4 := fun z => h19 ((vl_I_inj (b := 4) (by omega) (by decide)).mpr z)
                have k5 : ¬ f.kind = 5 := fun z => h20 ((vl_I_inj (b := 5) (by omega) (by decide)).mpr z)
                have k6 : ¬ f.kind = 6 := fun z => h21 ((vl_I_inj (b := 6) (by omega) (by decide)).mpr z)
                have k7 : f.kind = 7 := (vl_I_inj (b := 7) (by omega) (by decide)).mp h22
                have ev : vf_bI f (p + 1) all (vr_n4 B (8 * p + 8)) (vr_n4 B (8 * p + 12)) = decide (vf_pA f) := vf_bI_47 (by omega)
                exact ⟨I1, L1, by rw [ev], D, F1⟩
              · refine jv_Wp.lift (fun _ Kz => jv_Ev.br jv_i267 (pc' := 211) (st' := []) rfl (jv_tsw_def (fun i hi h => by match i, hi, h with 
                      | 0, _, h => exact absurd h (jv_ne_toInt (k := 1) h1) 
                      | 1, _, h => exact absurd h (jv_ne_toInt (k := 2) h8) 
                      | 2, _, h => exact absurd h (jv_ne_toInt (k := 3) h12) 
                      | 3, _, h => exact absurd h (jv_ne_toInt (k := 4) h19) 
                      | 4, _, h => exact absurd h (jv_ne_toInt (k := 5) h20) 
                      | 5, _, h => exact absurd h (jv_ne_toInt (k := 6) h21) 
                      | 6, _, h => exact absurd h (jv_ne_toInt (k := 7) h22) 
                      | i + 7, hi, _ => exact absurd hi (by simp)) rfl) Kz) ?_
                refine jv_Wp.lift (fun _ Kz => jv_Ev.steps jv_i267 1 (pc' := 212) (l' := [(0, .ref 196), (1, .ref 197), (2, .int (vl_I p)), (3, .int (vl_I all))]) (st' := [.ref 196]) rfl Kz) ?_
                refine jv_Wp.lift (fun _ Kz => jv_Ev.c jv_i267 (pc' := 215) (S' := [.int (vr_b (decide (f.code = 24)))]) jv_i262 [.ref 196] rfl rfl rfl rfl (jv_cal rfl (jv_H_at (jv_rwK hW 196 12 24 (by decide))) rfl rfl) rfl (vq_isWide f hW D1) rfl rfl Kz) ?_
                refine jv_Wp.cnd jv_i267 (pt := 253) (pe := 218) (p := ((vr_b (decide (f.code = 24))) = 0)) (q := ((vr_b (decide (f.code = 24))) = 0)) rfl jv_bi_eq rfl rfl Iff.rfl (fun h23 => ?_) (fun h23 => ?_)
                · refine jv_Wp.lift (fun _ Kz => jv_Ev.steps jv_i267 3 (pc' := 258) (l' := [(4, .int (0 : Int32)), (0, .ref 196), (1, .ref 197), (2, .int (vl_I p)), (3, .int (vl_I all))]) (st' := [.int (0 : Int32)]) rfl Kz) ?_
                  refine jv_Wp.lift (fun _ Kz => jv_Ev.br jv_i267 (pc' := 280) (st' := []) rfl (by rfl) Kz) ?_
                  refine jv_Wp.lift (fun _ Kz => jv_Ev.steps jv_i267 3 (pc' := 285) (l' := [(5, .int (0 : Int32)), (4, .int (0 : Int32)), (0, .ref 196), (1, .ref 197), (2, .int (vl_I p)), (3, .int (vl_I all))]) (st' := [.int (0 : Int32)]) rfl Kz) ?_
                  refine jv_Wp.lift (fun _ Kz => jv_Ev.br jv_i267 (pc' := 321) (st' := []) rfl (by rfl) Kz) ?_
                  refine jv_Wp.lift (fun _ Kz => jv_Ev.steps jv_i267 1 (pc' := 322) (l' := [(5, .int (0 : Int32)), (4, .int (0 : Int32)), (0, .ref 196), (1, .ref 197), (2, .int (vl_I p)), (3, .int (vl_I all))]) (st' := [.int (0 : Int32)]) rfl Kz) ?_
                  refine jv_Wp.of (jv_Ev.ret jv_i267 rfl (jv_ret_b (Or.inl rfl))) ?_
                  rw [hQ]
                  have D := D1
                  have c1 := vr_dc D
                  have c2 := vr_dd D
                  have c3 := vr_ds D
                  have c4 : f.n = f.code / 16 := rfl
                  have c5 : f.kind = f.code % 8 := rfl
                  have c6 : f.mode = f.code / 32 := rfl
                  have c7 := vf_z f
                  have bn : f.n < 2147483648 := by omega
                  have bk : f.kind < 2147483648 := by omega
                  have bm : f.mode < 2147483648 := by omega
                  have bz : f.z < 2147483648 := by omega
                  have bc : f.code < 2147483648 := by omega
                  have bd : f.d < 2147483648 := by omega
                  have bs : f.s < 2147483648 := by omega
                  have k1 : ¬ f.kind = 1 := fun z => h1 ((vl_I_inj (b := 1) (by omega) (by decide)).mpr z)
                  have k2 : ¬ f.kind = 2 := fun z => h8 ((vl_I_inj (b := 2) (by omega) (by decide)).mpr z)
                  have k3 : ¬ f.kind = 3 := fun z => h12 ((vl_I_inj (b := 3) (by omega) (by decide)).mpr z)
                  have k4 : ¬ f.kind = 4 := fun z => h19 ((vl_I_inj (b := 4) (by omega) (by decide)).mpr z)
                  have k5 : ¬ f.kind = 5 := fun z => h20 ((vl_I_inj (b := 5) (by omega) (by decide)).mpr z)
                  have k6 : ¬ f.kind = 6 := fun z => h21 ((vl_I_inj (b := 6) (by omega) (by decide)).mpr z)
                  have k7 : ¬ f.kind = 7 := fun z => h22 ((vl_I_inj (b := 7) (by omega) (by decide)).mpr z)
                  have k0 : f.kind = 0 := by omega
                  have b1 := of_decide_eq_false (vr_b_f h23)
                  have ev : vf_bI f (p + 1) all (vr_n4 B (8 * p + 8)) (vr_n4 B (8 * p + 12)) = false := (vf_bI_0 k0).trans (decide_eq_false (by omega))
                  exact ⟨I1, L1, by rw [ev]; rfl, D, F1⟩
                · refine jv_Wp.lift (fun _ Kz => jv_Ev.steps jv_i267 1 (pc' := 219) (l' := [(0, .ref 196), (1, .ref 197), (2, .int (vl_I p)), (3, .int (vl_I all))]) (st' := [.ref 196]) rfl Kz) ?_
                  refine jv_Wp.lift (fun _ Kz => jv_Ev.m jv_i267 (pc' := 222) (st' := [.int (vl_I f.d)]) (G' := (jv_H K I1 L1 R)) rfl rfl (jv_m_getI (jv_rwK hW 196 12 24 (by decide)) rfl rfl D1.2.1) Kz) ?_
                  refine jv_Wp.lift (fun _ Kz => jv_Ev.steps jv_i267 1 (pc' := 224) (l' := [(0, .ref 196), (1, .ref 197), (2, .int (vl_I p)), (3, .int (vl_I all))]) (st' := [.int (10 : Int32), .int (vl_I f.d)]) rfl Kz) ?_
                  refine jv_Wp.cnd jv_i267 (pt := 253) (pe := 227) (p := ((10 : Int32) ≤ (vl_I f.d))) (q := ((10 : Int32) ≤ (vl_I f.d))) rfl jv_bc_ge rfl rfl Iff.rfl (fun h24 => ?_) (fun h24 => ?_)
                  · refine jv_Wp.lift (fun _ Kz => jv_Ev.steps jv_i267 3 (pc' := 258) (l' := [(4, .int (0 : Int32)), (0, .ref 196), (1, .ref 197), (2, .int (vl_I p)), (3, .int (vl_I all))]) (st' := [.int (0 : Int32)]) rfl Kz) ?_
                    refine jv_Wp.lift (fun _ Kz => jv_Ev.br jv_i267 (pc' := 280) (st' := []) rfl (by rfl) Kz) ?_
                    refine jv_Wp.lift (fun _ Kz => jv_Ev.steps jv_i267 3 (pc' := 285) (l' := [(5, .int (0 : Int32)), (4, .int (0 : Int32)), (0, .ref 196), (1, .ref 197), (2, .int (vl_I p)), (3, .int (vl_I all))]) (st' := [.int (0 : Int32)]) rfl Kz) ?_
                    refine jv_Wp.lift (fun _ Kz => jv_Ev.br jv_i267 (pc' := 321) (st' := []) rfl (by rfl) Kz) ?_
                    refine jv_Wp.lift (fun _ Kz => jv_Ev.steps jv_i267 1 (pc' := 322) (l' := [(5, .int (0 : Int32)), (4, .int (0 : Int32)), (0, .ref 196), (1, .ref 197), (2, .int (vl_I p)), (3, .int (vl_I all))]) (st' := [.int (0 : Int32)]) rfl Kz) ?_
                    refine jv_Wp.of (jv_Ev.ret jv_i267 rfl (jv_ret_b (Or.inl rfl))) ?_
                    rw [hQ]
                    have D := D1
                    have c1 := vr_dc D
                    have c2 := vr_dd D
                    have c3 := vr_ds D
                    have c4 : f.n = f.code / 16 := rfl
                    have c5 : f.kind = f.code % 8 := rfl
                    have c6 : f.mode = f.code / 32 := rfl
                    have c7 := vf_z f
                    have bn : f.n < 2147483648 := by omega
                    have bk : f.kind < 2147483648 := by omega
                    have bm : f.mode < 2147483648 := by omega
                    have bz : f.z < 2147483648 := by omega
                    have bc : f.code < 2147483648 := by omega
                    have bd : f.d < 2147483648 := by omega
                    have bs : f.s < 2147483648 := by omega
                    have k1 : ¬ f.kind = 1 := fun z => h1 ((vl_I_inj (b := 1) (by omega) (by decide)).mpr z)
                    have k2 : ¬ f.kind = 2 := fun z => h8 ((vl_I_inj (b := 2) (by omega) (by decide)).mpr z)
                    have k3 : ¬ f.kind = 3 := fun z => h12 ((vl_I_inj (b := 3) (by omega) (by decide)).mpr z)
                    have k4 : ¬ f.kind = 4 := fun z => h19 ((vl_I_inj (b := 4) (by omega) (by decide)).mpr z)
                    have k5 : ¬ f.kind = 5 := fun z => h20 ((vl_I_inj (b := 5) (by omega) (by decide)).mpr z)
                    have k6 : ¬ f.kind = 6 := fun z => h21 ((vl_I_inj (b := 6) (by omega) (by decide)).mpr z)
                    have k7 : ¬ f.kind = 7 := fun z => h22 ((vl_I_inj (b := 7) (by omega) (by decide)).mpr z)
                    have k0 : f.kind = 0 := by omega
                    have b1 := of_decide_eq_true (vr_b_t h23)
                    have x2 : 10 ≤ f.d := (vl_I_le (a := 10) (b := f.d) (by decide) bd).mp h24
                    have ev : vf_bI f (p + 1) all (vr_n4 B (8 * p + 8)) (vr_n4 B (8 * p + 12)) = false := (vf_bI_0 k0).trans (decide_eq_false (by omega))
                    exact ⟨I1, L1, by rw [ev]; rfl, D, F1⟩
                  · refine jv_Wp.lift (fun _ Kz => jv_Ev.steps jv_i267 1 (pc' := 228) (l' := [(0, .ref 196), (1, .ref 197), (2, .int (vl_I p)), (3, .int (vl_I all))]) (st' := [.ref 196]) rfl Kz) ?_
                    refine jv_Wp.lift (fun _ Kz => jv_Ev.m jv_i267 (pc' := 231) (st' := [.int (vl_I f.s)]) (G' := (jv_H K I1 L1 R)) rfl rfl (jv_m_getI (jv_rwK hW 196 12 24 (by decide)) rfl rfl D1.2.2.1) Kz) ?_
                    refine jv_Wp.lift (fun _ Kz => jv_Ev.steps jv_i267 1 (pc' := 232) (l' := [(0, .ref 196), (1, .ref 197), (2, .int (vl_I p)), (3, .int (vl_I all))]) (st' := [.int (2 : Int32), .int (vl_I f.s)]) rfl Kz) ?_
                    refine jv_Wp.cnd jv_i267 (pt := 253) (pe := 235) (p := ((2 : Int32) ≤ (vl_I f.s))) (q := ((2 : Int32) ≤ (vl_I f.s))) rfl jv_bc_ge rfl rfl Iff.rfl (fun h25 => ?_) (fun h25 => ?_)
                    · refine jv_Wp.lift (fun _ Kz => jv_Ev.steps jv_i267 3 (pc' := 258) (l' := [(4, .int (0 : Int32)), (0, .ref 196), (1, .ref 197), (2, .int (vl_I p)), (3, .int (vl_I all))]) (st' := [.int (0 : Int32)]) rfl Kz) ?_
                      refine jv_Wp.lift (fun _ Kz => jv_Ev.br jv_i267 (pc' := 280) (st' := []) rfl (by rfl) Kz) ?_
                      refine jv_Wp.lift (fun _ Kz => jv_Ev.steps jv_i267 3 (pc' := 285) (l' := [(5, .int (0 : Int32)), (4, .int (0 : Int32)), (0, .ref 196), (1, .ref 197), (2, .int (vl_I p)), (3, .int (vl_I all))]) (st' := [.int (0 : Int32)]) rfl Kz) ?_
                      refine jv_Wp.lift (fun _ Kz => jv_Ev.br jv_i267 (pc' := 321) (st' := []) rfl (by rfl) Kz) ?_
                      refine jv_Wp.lift (fun _ Kz => jv_Ev.steps jv_i267 1 (pc' := 322) (l' := [(5, .int (0 : Int32)), (4, .int (0 : Int32)), (0, .ref 196), (1, .ref 197), (2, .int (vl_I p)), (3, .int (vl_I all))]) (st' := [.int (0 : Int32)]) rfl Kz) ?_
                      refine jv_Wp.of (jv_Ev.ret jv_i267 rfl (jv_ret_b (Or.inl rfl))) ?_
                      rw [hQ]
                      have D := D1
                      have c1 := vr_dc D
                      have c2 := vr_dd D
                      have c3 := vr_ds D
                      have c4 : f.n = f.code / 16 := rfl
                      have c5 : f.kind = f.code % 8 := rfl
                      have c6 : f.mode = f.code / 32 := rfl
                      have c7 := vf_z f
                      have bn : f.n < 2147483648 := by omega
                      have bk : f.kind < 2147483648 := by omega
                      have bm : f.mode < 2147483648 := by omega
                      have bz : f.z < 2147483648 := by omega
                      have bc : f.code < 2147483648 := by omega
                      have bd : f.d < 2147483648 := by omega
                      have bs : f.s < 2147483648 := by omega
                      have k1 : ¬ f.kind = 1 := fun z => h1 ((vl_I_inj (b := 1) (by omega) (by decide)).mpr z)
                      have k2 : ¬ f.kind = 2 := fun z => h8 ((vl_I_inj (b := 2) (by omega) (by decide)).mpr z)
                      have k3 : ¬ f.kind = 3 := fun z => h12 ((vl_I_inj (b := 3) (by omega) (by decide)).mpr z)
                      have k4 : ¬ f.kind = 4 := fun z => h19 ((vl_I_inj (b := 4) (by omega) (by decide)).mpr z)
                      have k5 : ¬ f.kind = 5 := fun z => h20 ((vl_I_inj (b := 5) (by omega) (by decide)).mpr z)
                      have k6 : ¬ f.kind = 6 := fun z => h21 ((vl_I_inj (b := 6) (by omega) (by decide)).mpr z)
                      have k7 : ¬ f.kind = 7 := fun z => h22 ((vl_I_inj (b := 7) (by omega) (by decide)).mpr z)
                      have k0 : f.kind = 0 := by omega
                      have b1 := of_decide_eq_true (vr_b_t h23)
                      have x2 : ¬ 10 ≤ f.d := fun z => h24 ((vl_I_le (a := 10) (b := f.d) (by decide) bd).mpr z)
                      have x3 : 2 ≤ f.s := (vl_I_le (a := 2) (b := f.s) (by decide) bs).mp h25
                      have ev : vf_bI f (p + 1) all (vr_n4 B (8 * p + 8)) (vr_n4 B (8 * p + 12)) = false := (vf_bI_0 k0).trans (decide_eq_false (by omega))
                      exact ⟨I1, L1, by rw [ev]; rfl, D, F1⟩
                    · refine jv_Wp.lift (fun _ Kz => jv_Ev.steps jv_i267 1 (pc' := 236) (l' := [(0, .ref 196), (1, .ref 197), (2, .int (vl_I p)), (3, .int (vl_I all))]) (st' := [.ref 196]) rfl Kz) ?_
                      refine jv_Wp.lift (fun _ Kz => jv_Ev.m jv_i267 (pc' := 239) (st' := [.int (Int32.ofInt f.o)]) (G' := (jv_H K I1 L1 R)) rfl rfl (jv_m_getI (jv_rwK hW 196 12 24 (by decide)) rfl rfl (vr_dI D1)) Kz) ?_
                      refine jv_Wp.cnd jv_i267 (pt := 253) (pe := 242) (p := (¬ (Int32.ofInt f.o) = 0)) (q := (¬ (Int32.ofInt f.o) = 0)) rfl jv_bi_ne rfl rfl Iff.rfl (fun h26 => ?_) (fun h26 => ?_)
                      · refine jv_Wp.lift (fun _ Kz => jv_Ev.steps jv_i267 3 (pc' := 258) (l' := [(4, .int (0 : Int32)), (0, .ref 196), (1, .ref 197), (2, .int (vl_I p)), (3, .int (vl_I all))]) (st' := [.int (0 : Int32)]) rfl Kz) ?_
                        refine jv_Wp.lift (fun _ Kz => jv_Ev.br jv_i267 (pc' := 280) (st' := []) rfl (by rfl) Kz) ?_
                        refine jv_Wp.lift (fun _ Kz => jv_Ev.steps jv_i267 3 (pc' := 285) (l' := [(5, .int (0 : Int32)), (4, .int (0 : Int32)), (0, .ref 196), (1, .ref 197), (2, .int (vl_I p)), (3, .int (vl_I all))]) (st' := [.int (0 : Int32)]) rfl Kz) ?_
                        refine jv_Wp.lift (fun _ Kz => jv_Ev.br jv_i267 (pc' := 321) (st' := []) rfl (by rfl) Kz) ?_
                        refine jv_Wp.lift (fun _ Kz => jv_Ev.steps jv_i267 1 (pc' := 322) (l' := [(5, .int (0 : Int32)), (4, .int (0 : Int32)), (0, .ref 196), (1, .ref 197), (2, .int (vl_I p)), (3, .int (vl_I all))]) (st' := [.int (0 : Int32)]) rfl Kz) ?_
                        refine jv_Wp.of (jv_Ev.ret jv_i267 rfl (jv_ret_b (Or.inl rfl))) ?_
                        rw [hQ]
                        have D := D1
                        have c1 := vr_dc D
                        have c2 := vr_dd D
                        have c3 := vr_ds D
                        have c4 : f.n = f.code / 16 := rfl
                        have c5 : f.kind = f.code % 8 := rfl
                        have c6 : f.mode = f.code / 32 := rfl
                        have c7 := vf_z f
                        have bn : f.n < 2147483648 := by omega
                        have bk : f.kind < 2147483648 := by omega
                        have bm : f.mode < 2147483648 := by omega
                        have bz : f.z < 2147483648 := by omega
                        have bc : f.code < 2147483648 := by omega
                        have bd : f.d < 2147483648 := by omega
                        have bs : f.s < 2147483648 := by omega
                        have k1 : ¬ f.kind = 1 := fun z => h1 ((vl_I_inj (b := 1) (by omega) (by decide)).mpr z)
                        have k2 : ¬ f.kind = 2 := fun z => h8 ((vl_I_inj (b := 2) (by omega) (by decide)).mpr z)
                        have k3 : ¬ f.kind = 3 := fun z => h12 ((vl_I_inj (b := 3) (by omega) (by decide)).mpr z)
                        have k4 : ¬ f.kind = 4 := fun z => h19 ((vl_I_inj (b := 4) (by omega) (by decide)).mpr z)
                        have k5 : ¬ f.kind = 5 := fun z => h20 ((vl_I_inj (b := 5) (by omega) (by decide)).mpr z)
                        have k6 : ¬ f.kind = 6 := fun z => h21 ((vl_I_inj (b := 6) (by omega) (by decide)).mpr z)
                        have k7 : ¬ f.kind = 7 := fun z => h22 ((vl_I_inj (b := 7) (by omega) (by decide)).mpr z)
                        have k0 : f.kind = 0 := by omega
                        have b1 := of_decide_eq_true (vr_b_t h23)
                        have x2 : ¬ 10 ≤ f.d := fun z => h24 ((vl_I_le (a := 10) (b := f.d) (by decide) bd).mpr z)
                        have x3 : ¬ 2 ≤ f.s := fun z => h25 ((vl_I_le (a := 2) (b := f.s) (by decide) bs).mpr z)
                        have y4 : ¬ f.o = 0 := fun z => h26 (Int32.toInt_inj.mp ((vr_dO D).trans (z.trans rfl)))
                        have ev : vf_bI f (p + 1) all (vr_n4 B (8 * p + 8)) (vr_n4 B (8 * p + 12)) = false := (vf_bI_0 k0).trans (decide_eq_false (by omega))
                        exact ⟨I1, L1, by rw [ev]; rfl, D, F1⟩
                      · refine jv_Wp.lift (fun _ Kz => jv_Ev.steps jv_i267 4 (pc' := 246) (l' := [(0, .ref 196), (1, .ref 197), (2, .int (vl_I p)), (3, .int (vl_I all))]) (st' := [.int (vl_I all), .int ((vl_I p) + (1 : Int32))]) rfl Kz) ?_
                        refine jv_Wp.cnd jv_i267 (pt := 253) (pe := 249) (p := ((vl_I all) ≤ ((vl_I p) + (1 : Int32)))) (q := ((vl_I all) ≤ ((vl_I p) + (1 : Int32)))) rfl jv_bc_ge rfl rfl Iff.rfl (fun h27 => ?_) (fun h27 => ?_)
                        · refine jv_Wp.lift (fun _ Kz => jv_Ev.steps jv_i267 3 (pc' := 258) (l' := [(4, .int (0 : Int32)), (0, .ref 196), (1, .ref 197), (2, .int (vl_I p)), (3, .int (vl_I all))]) (st' := [.int (0 : Int32)]) rfl Kz) ?_
                          refine jv_Wp.lift (fun _ Kz => jv_Ev.br jv_i267 (pc' := 280) (st' := []) rfl (by rfl) Kz) ?_
                          refine jv_Wp.lift (fun _ Kz => jv_Ev.steps jv_i267 3 (pc' := 285) (l' := [(5, .int (0 : Int32)), (4, .int (0 : Int32)), (0, .ref 196), (1, .ref 197), (2, .int (vl_I p)), (3, .int (vl_I all))]) (st' := [.int (0 : Int32)]) rfl Kz) ?_
                          refine jv_Wp.lift (fun _ Kz => jv_Ev.br jv_i267 (pc' := 321) (st' := []) rfl (by rfl) Kz) ?_
                          refine jv_Wp.lift (fun _ Kz => jv_Ev.steps jv_i267 1 (pc' := 322) (l' := [(5, .int (0 : Int32)), (4, .int (0 : Int32)), (0, .ref 196), (1, .ref 197), (2, .int (vl_I p)), (3, .int (vl_I all))]) (st' := [.int (0 : Int32)]) rfl Kz) ?_
                          refine jv_Wp.of (jv_Ev.ret jv_i267 rfl (jv_ret_b (Or.inl rfl))) ?_
                          rw [hQ]
                          have D := D1
                          have c1 := vr_dc D
                          have c2 := vr_dd D
                          have c3 := vr_ds D
                          have c4 : f.n = f.code / 16 := rfl
                          have c5 : f.kind = f.code % 8 := rfl
                          have c6 : f.mode = f.code / 32 := rfl
                          have c7 := vf_z f
                          have bn : f.n < 2147483648 := by omega
                          have bk : f.kind < 2147483648 := by omega
                          have bm : f.mode < 2147483648 := by omega
                          have bz : f.z < 2147483648 := by omega
                          have bc : f.code < 2147483648 := by omega
                          have bd : f.d < 2147483648 := by omega
                          have bs : f.s < 2147483648 := by omega
                          have k1 : ¬ f.kind = 1 := fun z => h1 ((vl_I_inj (b := 1) (by omega) (by decide)).mpr z)
                          have k2 : ¬ f.kind = 2 := fun z => h8 ((vl_I_inj (b := 2) (by omega) (by decide)).mpr z)
                          have k3 : ¬ f.kind = 3 := fun z => h12 ((vl_I_inj (b := 3) (by omega) (by decide)).mpr z)
                          have k4 : ¬ f.kind = 4 := fun z => h19 ((vl_I_inj (b := 4) (by omega) (by decide)).mpr z)
                          have k5 : ¬ f.kind = 5 := fun z => h20 ((vl_I_inj (b := 5) (by omega) (by decide)).mpr z)
                          have k6 : ¬ f.kind = 6 := fun z => h21 ((vl_I_inj (b := 6) (by omega) (by decide)).mpr z)
                          have k7 : ¬ f.kind = 7 := fun z => h22 ((vl_I_inj (b := 7) (by omega) (by decide)).mpr z)
                          have k0 : f.kind = 0 := by omega
                          have b1 := of_decide_eq_true (vr_b_t h23)
                          have x2 : ¬ 10 ≤ f.d := fun z => h24 ((vl_I_le (a := 10) (b := f.d) (by decide) bd).mpr z)
                          have x3 : ¬ 2 ≤ f.s := fun z => h25 ((vl_I_le (a := 2) (b := f.s) (by decide) bs).mpr z)
                          have y4 : f.o = 0 := (vr_dO D).symm.trans (congrArg Int32.toInt (Classical.not_not.mp h26))
                          have w1 : all ≤ p + 1 := (vl_I_le (a := all) (b := p + 1) (by omega) (by omega)).mp (by have z := h27; rw [vl_I_p1] at z; exact z)
                          have ev : vf_bI f (p + 1) all (vr_n4 B (8 * p + 8)) (vr_n4 B (8 * p + 12)) = false := (vf_bI_0 k0).trans (decide_eq_false (by omega))
                          exact ⟨I1, L1, by rw [ev]; rfl, D, F1⟩
                        · refine jv_Wp.lift (fun _ Kz => jv_Ev.steps jv_i267 4 (pc' := 258) (l' := [(4, .int (1 : Int32)), (0, .ref 196), (1, .ref 197), (2, .int (vl_I p)), (3, .int (vl_I all))]) (st' := [.int (1 : Int32)]) rfl Kz) ?_
                          refine jv_Wp.lift (fun _ Kz => jv_Ev.br jv_i267 (pc' := 261) (st' := []) rfl (by rfl) Kz) ?_
                          refine jv_Wp.lift (fun _ Kz => jv_Ev.steps jv_i267 7 (pc' := 270) (l' := [(4, .int (1 : Int32)), (0, .ref 196), (1, .ref 197), (2, .int (vl_I p)), (3, .int (vl_I all))]) (st' := [.int (4 : Int32), .int (((8 : Int32) * (vl_I p)) + (8 : Int32)), .ref 197]) rfl Kz) ?_
                          have w1 : ¬ all ≤ p + 1 := fun z => h27 (by rw [vl_I_p1]; exact (vl_I_le (a := all) (b := p + 1) (by omega) (by omega)).mpr z)
                          have H2 := vq_num4_197 (I := I1) (L := L1) (n := n) (sl := sl) (8 * p + 8) len B hW tp1 hl (by omega)
                          rw [← show (((8 : Int32) * (vl_I p)) + (8 : Int32)) = vl_I (8 * p + 8) from ((congrArg (fun y => y + (8 : Int32)) (vi_mul8 p)).trans (vl_I_add (8 * p) 8))] at H2
                          refine jv_Wp.lift (fun _ Kz => jv_Ev.c jv_i267 (pc' := 273) (S' := [.int (vl_I (vr_n4 B (8 * p + 8)))]) jv_i255 [.ref 197, .int (((8 : Int32) * (vl_I p)) + (8 : Int32)), .int (4 : Int32)] rfl rfl rfl rfl rfl rfl H2 rfl rfl Kz) ?_
                          refine jv_Wp.cnd jv_i267 (pt := 280) (pe := 276) (p := (¬ (vl_I (vr_n4 B (8 * p + 8))) = 0)) (q := (¬ (vl_I (vr_n4 B (8 * p + 8))) = 0)) rfl jv_bi_ne rfl rfl Iff.rfl (fun h28 => ?_) (fun h28 => ?_)
                          · refine jv_Wp.lift (fun _ Kz => jv_Ev.steps jv_i267 3 (pc' := 285) (l' := [(5, .int (0 : Int32)), (4, .int (1 : Int32)), (0, .ref 196), (1, .ref 197), (2, .int (vl_I p)), (3, .int (vl_I all))]) (st' := [.int (0 : Int32)]) rfl Kz) ?_
                            refine jv_Wp.lift (fun _ Kz => jv_Ev.br jv_i267 (pc' := 321) (st' := []) rfl (by rfl) Kz) ?_
                            refine jv_Wp.lift (fun _ Kz => jv_Ev.steps jv_i267 1 (pc' := 322) (l' := [(5, .int (0 : Int32)), (4, .int (1 : Int32)), (0, .ref 196), (1, .ref 197), (2, .int (vl_I p)), (3, .int (vl_I all))]) (st' := [.int (0 : Int32)]) rfl Kz) ?_
                            refine jv_Wp.of (jv_Ev.ret jv_i267 rfl (jv_ret_b (Or.inl rfl))) ?_
                            rw [hQ]
                            have D := D1
                            have c1 := vr_dc D
                            have c2 := vr_dd D
                            have c3 := vr_ds D
                            have c4 : f.n = f.code / 16 := rfl
                            have c5 : f.kind = f.code % 8 := rfl
                            have c6 : f.mode = f.code / 32 := rfl
                            have c7 := vf_z f
                            have bn : f.n < 2147483648 := by omega
                            have bk : f.kind < 2147483648 := by omega
                            have bm : f.mode < 2147483648 := by omega
                            have bz : f.z < 2147483648 := by omega
                            have bc : f.code < 2147483648 := by omega
                            have bd : f.d < 2147483648 := by omega
                            have bs : f.s < 2147483648 := by omega
                            have k1 : ¬ f.kind = 1 := fun z => h1 ((vl_I_inj (b := 1) (by omega) (by decide)).mpr z)
                            have k2 : ¬ f.kind = 2 := fun z => h8 ((vl_I_inj (b := 2) (by omega) (by decide)).mpr z)
                            have k3 : ¬ f.kind = 3 := fun z => h12 ((vl_I_inj (b := 3) (by omega) (by decide)).mpr z)
                            have k4 : ¬ f.kind = 4 := fun z => h19 ((vl_I_inj (b := 4) (by omega) (by decide)).mpr z)
                            have k5 : ¬ f.kind = 5 := fun z => h20 ((vl_I_inj (b := 5) (by omega) (by decide)).mpr z)
                            have k6 : ¬ f.kind = 6 := fun z => h21 ((vl_I_inj (b := 6) (by omega) (by decide)).mpr z)
                            have k7 : ¬ f.kind = 7 := fun z => h22 ((vl_I_inj (b := 7) (by omega) (by decide)).mpr z)
                            have k0 : f.kind = 0 := by omega
                            have b1 := of_decide_eq_true (vr_b_t h23)
                            have x2 : ¬ 10 ≤ f.d := fun z => h24 ((vl_I_le (a := 10) (b := f.d) (by decide) bd).mpr z)
                            have x3 : ¬ 2 ≤ f.s := fun z => h25 ((vl_I_le (a := 2) (b := f.s) (by decide) bs).mpr z)
                            have y4 : f.o = 0 := (vr_dO D).symm.trans (congrArg Int32.toInt (Classical.not_not.mp h26))
                            have w1 : ¬ all ≤ p + 1 := fun z => h27 (by rw [vl_I_p1]; exact (vl_I_le (a := all) (b := p + 1) (by omega) (by omega)).mpr z)
                            have r8 : ¬ vr_n4 B (8 * p + 8) = 0 := fun z => h28 ((vl_I_inj (a := vr_n4 B (8 * p + 8)) (b := 0) (vr_n4_lt h (by omega)) (by decide)).mpr z)
                            have ev : vf_bI f (p + 1) all (vr_n4 B (8 * p + 8)) (vr_n4 B (8 * p + 12)) = false := (vf_bI_0 k0).trans (decide_eq_false (by omega))
                            exact ⟨I1, L1, by rw [ev]; rfl, D, F1⟩
                          · refine jv_Wp.lift (fun _ Kz => jv_Ev.steps jv_i267 4 (pc' := 285) (l' := [(5, .int (1 : Int32)), (4, .int (1 : Int32)), (0, .ref 196), (1, .ref 197), (2, .int (vl_I p)), (3, .int (vl_I all))]) (st' := [.int (1 : Int32)]) rfl Kz) ?_
                            refine jv_Wp.lift (fun _ Kz => jv_Ev.br jv_i267 (pc' := 288) (st' := []) rfl (by rfl) Kz) ?_
                            refine jv_Wp.lift (fun _ Kz => jv_Ev.steps jv_i267 1 (pc' := 289) (l' := [(5, .int (1 : Int32)), (4, .int (1 : Int32)), (0, .ref 196), (1, .ref 197), (2, .int (vl_I p)), (3, .int (vl_I all))]) (st' := [.ref 196]) rfl Kz) ?_
                            refine jv_Wp.lift (fun _ Kz => jv_Ev.m jv_i267 (pc' := 292) (st' := [.int (vl_I f.s)]) (G' := (jv_H K I1 L1 R)) rfl rfl (jv_m_getI (jv_rwK hW 196 12 24 (by decide)) rfl rfl D1.2.2.1) Kz) ?_
                            refine jv_Wp.cnd jv_i267 (pt := 317) (pe := 295) (p := ((vl_I f.s) = 0)) (q := ((vl_I f.s) = 0)) rfl jv_bi_eq rfl rfl Iff.rfl (fun h29 => ?_) (fun h29 => ?_)
                            · refine jv_Wp.lift (fun _ Kz => jv_Ev.steps jv_i267 2 (pc' := 322) (l' := [(5, .int (1 : Int32)), (4, .int (1 : Int32)), (0, .ref 196), (1, .ref 197), (2, .int (vl_I p)), (3, .int (vl_I all))]) (st' := [.int (1 : Int32)]) rfl Kz) ?_
                              refine jv_Wp.of (jv_Ev.ret jv_i267 rfl (jv_ret_b (Or.inr rfl))) ?_
                              rw [hQ]
                              have D := D1
                              have c1 := vr_dc D
                              have c2 := vr_dd D
                              have c3 := vr_ds D
                              have c4 : f.n = f.code / 16 := rfl
                              have c5 : f.kind = f.code % 8 := rfl
                              have c6 : f.mode = f.code / 32 := rfl
                              have c7 := vf_z f
                              have bn : f.n < 2147483648 := by omega
                              have bk : f.kind < 2147483648 := by omega
                              have bm : f.mode < 2147483648 := by omega
                              have bz : f.z < 2147483648 := by omega
                              have bc : f.code < 2147483648 := by omega
                              have bd : f.d < 2147483648 := by omega
                              have bs : f.s < 2147483648 := by omega
                              have k1 : ¬ f.kind = 1 := fun z => h1 ((vl_I_inj (b := 1) (by omega) (by decide)).mpr z)
                              have k2 : ¬ f.kind = 2 := fun z => h8 ((vl_I_inj (b := 2) (by omega) (by decide)).mpr z)
                              have k3 : ¬ f.kind = 3 := fun z => h12 ((vl_I_inj (b := 3) (by omega) (by decide)).mpr z)
                              have k4 : ¬ f.kind = 4 := fun z => h19 ((vl_I_inj (b := 4) (by omega) (by decide)).mpr z)
                              have k5 : ¬ f.kind = 5 := fun z => h20 ((vl_I_inj (b := 5) (by omega) (by decide)).mpr z)
                              have k6 : ¬ f.kind = 6 := fun z => h21 ((vl_I_inj (b := 6) (by omega) (by decide)).mpr z)
                              have k7 : ¬ f.kind = 7 := fun z => h22 ((vl_I_inj (b := 7) (by omega) (by decide)).mpr z)
                              have k0 : f.kind = 0 := by omega
                              have b1 := of_decide_eq_true (vr_b_t h23)
                              have x2 : ¬ 10 ≤ f.d := fun z => h24 ((vl_I_le (a := 10) (b := f.d) (by decide) bd).mpr z)
                              have x3 : ¬ 2 ≤ f.s := fun z => h25 ((vl_I_le (a := 2) (b := f.s) (by decide) bs).mpr z)
                              have y4 : f.o = 0 := (vr_dO D).symm.trans (congrArg Int32.toInt (Classical.not_not.mp h26))
                              have x5 : f.s = 0 := (vl_I_inj (a := f.s) (b := 0) (Nat.lt_trans bs (by decide)) (by decide)).mp h29
                              have w1 : ¬ all ≤ p + 1 := fun z => h27 (by rw [vl_I_p1]; exact (vl_I_le (a := all) (b := p + 1) (by omega) (by omega)).mpr z)
                              have r8 : vr_n4 B (8 * p + 8) = 0 := (vl_I_inj (a := vr_n4 B (8 * p + 8)) (b := 0) (vr_n4_lt h (by omega)) (by decide)).mp (Classical.not_not.mp h28)
                              have ev : vf_bI f (p + 1) all (vr_n4 B (8 * p + 8)) (vr_n4 B (8 * p + 12)) = true := (vf_bI_0 k0).trans (decide_eq_true (by omega))
                              exact ⟨I1, L1, by rw [ev]; rfl, D, F1⟩
                            · refine jv_Wp.lift (fun _ Kz => jv_Ev.steps jv_i267 1 (pc' := 296) (l' := [(5, .int (1 : Int32)), (4, .int (1 : Int32)), (0, .ref 196), (1, .ref 197), (2, .int (vl_I p)), (3, .int (vl_I all))]) (st' := [.ref 196]) rfl Kz) ?_
                              refine jv_Wp.lift (fun _ Kz => jv_Ev.m jv_i267 (pc' := 299) (st' := [.int (Int32.ofInt f.i)]) (G' := (jv_H K I1 L1 R)) rfl rfl (jv_m_getI (jv_rwK hW 196 12 24 (by decide)) rfl rfl (vr_dJ D1)) Kz) ?_
                              refine jv_Wp.cnd jv_i267 (pt := 321) (pe := 302) (p := ((Int32.ofInt f.i) < 0)) (q := ((Int32.ofInt f.i) < 0)) rfl jv_bi_lt rfl rfl Iff.rfl (fun h30 => ?_) (fun h30 => ?_)
                              · refine jv_Wp.lift (fun _ Kz => jv_Ev.steps jv_i267 1 (pc' := 322) (l' := [(5, .int (1 : Int32)), (4, .int (1 : Int32)), (0, .ref 196), (1, .ref 197), (2, .int (vl_I p)), (3, .int (vl_I all))]) (st' := [.int (0 : Int32)]) rfl Kz) ?_
                                refine jv_Wp.of (jv_Ev.ret jv_i267 rfl (jv_ret_b (Or.inl rfl))) ?_
                                rw [hQ]
                                have D := D1
                                have c1 := vr_dc D
                                have c2 := vr_dd D
                                have c3 := vr_ds D
                                have c4 : f.n = f.code / 16 := rfl
                                have c5 : f.kind = f.code % 8 := rfl
                                have c6 : f.mode = f.code / 32 := rfl
                                have c7 := vf_z f
                                have bn : f.n < 2147483648 := by omega
                                have bk : f.kind < 2147483648 := by omega
                                have bm : f.mode < 2147483648 := by omega
                                have bz : f.z < 2147483648 := by omega
                                have bc : f.code < 2147483648 := by omega
                                have bd : f.d < 2147483648 := by omega
                                have bs : f.s < 2147483648 := by omega
                                have k1 : ¬ f.kind = 1 := fun z => h1 ((vl_I_inj (b := 1) (by omega) (by decide)).mpr z)
                                have k2 : ¬ f.kind = 2 := fun z => h8 ((vl_I_inj (b := 2) (by omega) (by decide)).mpr z)
                                have k3 : ¬ f.kind = 3 := fun z => h12 ((vl_I_inj (b := 3) (by omega) (by decide)).mpr z)
                                have k4 : ¬ f.kind = 4 := fun z => h19 ((vl_I_inj (b := 4) (by omega) (by decide)).mpr z)
                                have k5 : ¬ f.kind = 5 := fun z => h20 ((vl_I_inj (b := 5) (by omega) (by decide)).mpr z)
                                have k6 : ¬ f.kind = 6 := fun z => h21 ((vl_I_inj (b := 6) (by omega) (by decide)).mpr z)
                                have k7 : ¬ f.kind = 7 := fun z => h22 ((vl_I_inj (b := 7) (by omega) (by decide)).mpr z)
                                have k0 : f.kind = 0 := by omega
                                have b1 := of_decide_eq_true (vr_b_t h23)
                                have x2 : ¬ 10 ≤ f.d := fun z => h24 ((vl_I_le (a := 10) (b := f.d) (by decide) bd).mpr z)
                                have x3 : ¬ 2 ≤ f.s := fun z => h25 ((vl_I_le (a := 2) (b := f.s) (by decide) bs).mpr z)
                                have y4 : f.o = 0 := (vr_dO D).symm.trans (congrArg Int32.toInt (Classical.not_not.mp h26))
                                have x5 : ¬ f.s = 0 := fun z => h29 ((vl_I_inj (a := f.s) (b := 0) (Nat.lt_trans bs (by decide)) (by decide)).mpr z)
                                have y6 : f.i < 0 := by have z := h30; rw [Int32.lt_iff_toInt_lt, vr_dQ D] at z; exact z
                                have w1 : ¬ all ≤ p + 1 := fun z => h27 (by rw [vl_I_p1]; exact (vl_I_le (a := all) (b := p + 1) (by omega) (by omega)).mpr z)
                                have r8 : vr_n4 B (8 * p + 8) = 0 := (vl_I_inj (a := vr_n4 B (8 * p + 8)) (b := 0) (vr_n4_lt h (by omega)) (by decide)).mp (Classical.not_not.mp h28)
                                have ev : vf_bI f (p + 1) all (vr_n4 B (8 * p + 8)) (vr_n4 B (8 * p + 12)) = false := (vf_bI_0 k0).trans (decide_eq_false (by omega))
                                exact ⟨I1, L1, by rw [ev]; rfl, D, F1⟩
                              · refine jv_Wp.lift (fun _ Kz => jv_Ev.steps jv_i267 7 (pc' := 311) (l' := [(5, .int (1 : Int32)), (4, .int (1 : Int32)), (0, .ref 196), (1, .ref 197), (2, .int (vl_I p)), (3, .int (vl_I all))]) (st' := [.int (4 : Int32), .int (((8 : Int32) * (vl_I p)) + (12 : Int32)), .ref 197]) rfl Kz) ?_
                                have w1 : ¬ all ≤ p + 1 := fun z => h27 (by rw [vl_I_p1]; exact (vl_I_le (a := all) (b := p + 1) (by omega) (by omega)).mpr z)
                                have H3 := vq_num4_197 (I := I1) (L := L1) (n := n) (sl := sl) (8 * p + 12) len B hW tp1 hl (by omega)
                                rw [← show (((8 : Int32) * (vl_I p)) + (12 : Int32)) = vl_I (8 * p + 12) from ((congrArg (fun y => y + (12 : Int32)) (vi_mul8 p)).trans (vl_I_add (8 * p) 12))] at H3
                                refine jv_Wp.lift (fun _ Kz => jv_Ev.c jv_i267 (pc' := 314) (S' := [.int (vl_I (vr_n4 B (8 * p + 12)))]) jv_i255 [.ref 197, .int (((8 : Int32) * (vl_I p)) + (12 : Int32)), .int (4 : Int32)] rfl rfl rfl rfl rfl rfl H3 rfl rfl Kz) ?_
                                refine jv_Wp.cnd jv_i267 (pt := 321) (pe := 317) (p := (¬ (vl_I (vr_n4 B (8 * p + 12))) = 0)) (q := (¬ (vl_I (vr_n4 B (8 * p + 12))) = 0)) rfl jv_bi_ne rfl rfl Iff.rfl (fun h31 => ?_) (fun h31 => ?_)
                                · refine jv_Wp.lift (fun _ Kz => jv_Ev.steps jv_i267 1 (pc' := 322) (l' := [(5, .int (1 : Int32)), (4, .int (1 : Int32)), (0, .ref 196), (1, .ref 197), (2, .int (vl_I p)), (3, .int (vl_I all))]) (st' := [.int (0 : Int32)]) rfl Kz) ?_
                                  refine jv_Wp.of (jv_Ev.ret jv_i267 rfl (jv_ret_b (Or.inl rfl))) ?_
                                  rw [hQ]
                                  have D := D1
                                  have c1 := vr_dc D
                                  have c2 := vr_dd D
                                  have c3 := vr_ds D
                                  have c4 : f.n = f.code / 16 := rfl
                                  have c5 : f.kind = f.code % 8 := rfl
                                  have c6 : f.mode = f.code / 32 := rfl
                                  have c7 := vf_z f
                                  have bn : f.n < 2147483648 := by omega
                                  have bk : f.kind < 2147483648 := by omega
                                  have bm : f.mode < 2147483648 := by omega
                                  have bz : f.z < 2147483648 := by omega
                                  have bc : f.code < 2147483648 := by omega
                                  have bd : f.d < 2147483648 := by omega
                                  have bs : f.s < 2147483648 := by omega
                                  have k1 : ¬ f.kind = 1 := fun z => h1 ((vl_I_inj (b := 1) (by omega) (by decide)).mpr z)
                                  have k2 : ¬ f.kind = 2 := fun z => h8 ((vl_I_inj (b := 2) (by omega) (by decide)).mpr z)
                                  have k3 : ¬ f.kind = 3 := fun z => h12 ((vl_I_inj (b := 3) (by omega) (by decide)).mpr z)
                                  have k4 : ¬ f.kind = 4 := fun z => h19 ((vl_I_inj (b := 4) (by omega) (by decide)).mpr z)
                                  have k5 : ¬ f.kind = 5 := fun z => h20 ((vl_I_inj (b := 5) (by omega) (by decide)).mpr z)
                                  have k6 : ¬ f.kind = 6 := fun z => h21 ((vl_I_inj (b := 6) (by omega) (by decide)).mpr z)
                                  have k7 : ¬ f.kind = 7 := fun z => h22 ((vl_I_inj (b := 7) (by omega) (by decide)).mpr z)
                                  have k0 : f.kind = 0 := by omega
                                  have b1 := of_decide_eq_true (vr_b_t h23)
                                  have x2 : ¬ 10 ≤ f.d := fun z => h24 ((vl_I_le (a := 10) (b := f.d) (by decide) bd).mpr z)
                                  have x3 : ¬ 2 ≤ f.s := fun z => h25 ((vl_I_le (a := 2) (b := f.s) (by decide) bs).mpr z)
                                  have y4 : f.o = 0 := (vr_dO D).symm.trans (congrArg Int32.toInt (Classical.not_not.mp h26))
                                  have x5 : ¬ f.s = 0 := fun z => h29 ((vl_I_inj (a := f.s) (b := 0) (Nat.lt_trans bs (by decide)) (by decide)).mpr z)
                                  have y6 : ¬ f.i < 0 := by have z := h30; rw [Int32.lt_iff_toInt_lt, vr_dQ D] at z; exact z
                                  have w1 : ¬ all ≤ p + 1 := fun z => h27 (by rw [vl_I_p1]; exact (vl_I_le (a := all) (b := p + 1) (by omega) (by omega)).mpr z)
                                  have r8 : vr_n4 B (8 * p + 8) = 0 := (vl_I_inj (a := vr_n4 B (8 * p + 8)) (b := 0) (vr_n4_lt h (by omega)) (by decide)).mp (Classical.not_not.mp h28)
                                  have r12 : ¬ vr_n4 B (8 * p + 12) = 0 := fun z => h31 ((vl_I_inj (a := vr_n4 B (8 * p + 12)) (b := 0) (vr_n4_lt h (by omega)) (by decide)).mpr z)
                                  have ev : vf_bI f (p + 1) all (vr_n4 B (8 * p + 8)) (vr_n4 B (8 * p + 12)) = false := (vf_bI_0 k0).trans (decide_eq_false (by omega))
                                  exact ⟨I1, L1, by rw [ev]; rfl, D, F1⟩
                                · refine jv_Wp.lift (fun _ Kz => jv_Ev.steps jv_i267 2 (pc' := 322) (l' := [(5, .int (1 : Int32)), (4, .int (1 : Int32)), (0, .ref 196), (1, .ref 197), (2, .int (vl_I p)), (3, .int (vl_I all))]) (st' := [.int (1 : Int32)]) rfl Kz) ?_
                                  refine jv_Wp.of (jv_Ev.ret jv_i267 rfl (jv_ret_b (Or.inr rfl))) ?_
                                  rw [hQ]
                                  have D := D1
                                  have c1 := vr_dc D
                                  have c2 := vr_dd D
                                  have c3 := vr_ds D
                                  have c4 : f.n = f.code / 16 := rfl
                                  have c5 : f.kind = f.code % 8 := rfl
                                  have c6 : f.mode = f.code / 32 := rfl
                                  have c7 := vf_z f
                                  have bn : f.n < 2147483648 := by omega
                                  have bk : f.kind < 2147483648 := by omega
                                  have bm : f.mode < 2147483648 := by omega
                                  have bz : f.z < 2147483648 := by omega
                                  have bc : f.code < 2147483648 := by omega
                                  have bd : f.d < 2147483648 := by omega
                                  have bs : f.s < 2147483648 := by omega
                                  have k1 : ¬ f.kind = 1 := fun z => h1 ((vl_I_inj (b := 1) (by omega) (by decide)).mpr z)
                                  have k2 : ¬ f.kind = 2 := fun z => h8 ((vl_I_inj (b := 2) (by omega) (by decide)).mpr z)
                                  have k3 : ¬ f.kind = 3 := fun z => h12 ((vl_I_inj (b := 3) (by omega) (by decide)).mpr z)
                                  have k4 : ¬ f.kind = 4 := fun z => h19 ((vl_I_inj (b := 4) (by omega) (by decide)).mpr z)
                                  have k5 : ¬ f.kind = 5 := fun z => h20 ((vl_I_inj (b := 5) (by omega) (by decide)).mpr z)
                                  have k6 : ¬ f.kind = 6 := fun z => h21 ((vl_I_inj (b := 6) (by omega) (by decide)).mpr z)
                                  have k7 : ¬ f.kind = 7 := fun z => h22 ((vl_I_inj (b := 7) (by omega) (by decide)).mpr z)
                                  have k0 : f.kind = 0 := by omega
                                  have b1 := of_decide_eq_true (vr_b_t h23)
                                  have x2 : ¬ 10 ≤ f.d := fun z => h24 ((vl_I_le (a := 10) (b := f.d) (by decide) bd).mpr z)
                                  have x3 : ¬ 2 ≤ f.s := fun z => h25 ((vl_I_le (a := 2) (b := f.s) (by decide) bs).mpr z)
                                  have y4 : f.o = 0 := (vr_dO D).symm.trans (congrArg Int32.toInt (Classical.not_not.mp h26))
                                  have x5 : ¬ f.s = 0 := fun z => h29 ((vl_I_inj (a := f.s) (b := 0) (Nat.lt_trans bs (by decide)) (by decide)).mpr z)
                                  have y6 : ¬ f.i < 0 := by have z := h30; rw [Int32.lt_iff_toInt_lt, vr_dQ D] at z; exact z
                                  have w1 : ¬ all ≤ p + 1 := fun z => h27 (by rw [vl_I_p1]; exact (vl_I_le (a := all) (b := p + 1) (by omega) (by omega)).mpr z)
                                  have r8 : vr_n4 B (8 * p + 8) = 0 := (vl_I_inj (a := vr_n4 B (8 * p + 8)) (b := 0) (vr_n4_lt h (by omega)) (by decide)).mp (Classical.not_not.mp h28)
                                  have r12 : vr_n4 B (8 * p + 12) = 0 := (vl_I_inj (a := vr_n4 B (8 * p + 12)) (b := 0) (vr_n4_lt h (by omega)) (by decide)).mp (Classical.not_not.mp h31)
                                  have ev : vf_bI f (p + 1) all (vr_n4 B (8 * p + 8)) (vr_n4 B (8 * p + 12)) = true := (vf_bI_0 k0).trans (decide_eq_true (by omega))
                                  exact ⟨I1, L1, by rw [ev]; rfl, D, F1⟩