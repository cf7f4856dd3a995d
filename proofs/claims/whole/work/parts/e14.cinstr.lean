/-! part e14: whether a place holds an instruction, of the class (gen/te14.py) -/
theorem jv_i91 : jv_I 91 4 (some .boolean) 2 47 jv_c91 := ⟨rfl, rfl, rfl, rfl, rfl⟩
theorem vc_isInstruction_ {K : Nat → Option (Nat × Nat)} {I : Nat → Nat → Int32} {L : Nat → Nat → Int64} {R : Nat → Nat → Value} {pr ws len : Nat} {W : Nat → Int64} (hP : vc_P K L R pr ws len W) {p : Nat} (hp : p < len) {f : vf_F} (ef : vc_F (W p) = f) {n sl : Nat} {Q : jv_R → Prop} (hQ : Q (some (.int (vr_b (vf_bI f (p + 1) len (vc_N (W (p + 1)) % 4294967296) (vc_N (W (p + 1)) / 4294967296)))), jv_H K I L R, n, sl)) : jv_Wp 91 0 [(0, .ref pr), (1, .int (vl_I p))] [] (jv_H K I L R) n sl Q := by
  have hle := hP.2.2.2.1
  have c1 := vw_dc ef
  have c2 := vw_dd ef
  have c3 := vw_ds ef
  have c4 : f.n = f.code / 16 := rfl
  have c5 : f.kind = f.code % 8 := rfl
  have c6 : f.mode = f.code / 32 := rfl
  have c7 := vf_z f
  have bn : f.n < 2147483648 := by omega
  have bk : f.kind < 2147483648 := by omega
  have bm : f.mode < 2147483648 := by omega
  have bz : f.z < 2147483648 := by omega
  have bc : f.code < 2147483648 := by omega
  have bd : f.d < 2147483648 := by omega
  have bs : f.s < 2147483648 := by omega
  refine jv_Wp.lift (fun _ Kz => jv_Ev.steps jv_i91 2 (pc' := 2) (l' := [(0, .ref pr), (1, .int (vl_I p))]) (st' := [.int (vl_I p), .ref pr]) rfl Kz) ?_
  refine jv_Wp.lift (fun _ Kz => jv_Ev.c jv_i91 (pc' := 5) (S' := [.long (W p)]) jv_i78 [.ref pr, .int (vl_I p)] rfl rfl rfl rfl (jv_cal rfl (jv_H_at hP.1) rfl rfl) rfl (vc_wordq hP hp rfl) rfl rfl Kz) ?_
  refine jv_Wp.lift (fun _ Kz => jv_Ev.steps jv_i91 2 (pc' := 7) (l' := [(2, .long (W p)), (0, .ref pr), (1, .int (vl_I p))]) (st' := [.long (W p)]) rfl Kz) ?_
  refine jv_Wp.lift (fun _ Kz => jv_Ev.c jv_i91 (pc' := 10) (S' := [.int (vl_I f.kind)]) jv_i81 [.long (W p)] rfl rfl rfl rfl rfl rfl (vw_f81 ef) rfl rfl Kz) ?_
  refine jv_Wp.bys (q := ((vl_I f.kind) = Int32.ofInt 0)) (fun h1 => ?_) (fun h1 => ?_)
  · refine jv_Wp.lift (fun _ Kz => jv_Ev.br jv_i91 (pc' := 52) (st' := []) rfl (by rw [h1]; rfl) Kz) ?_
    refine jv_Wp.lift (fun _ Kz => jv_Ev.steps jv_i91 2 (pc' := 54) (l' := [(2, .long (W p)), (0, .ref pr), (1, .int (vl_I p))]) (st' := [.int (vl_I p), .ref pr]) rfl Kz) ?_
    refine jv_Wp.lift (fun _ Kz => jv_Ev.c jv_i91 (pc' := 57) (S' := [.int (vr_b (decide (vf_p0 f (p + 1) len (vc_N (W (p + 1)) % 4294967296) (vc_N (W (p + 1)) / 4294967296))))]) jv_i92 [.ref pr, .int (vl_I p)] rfl rfl rfl rfl (jv_cal rfl (jv_H_at hP.1) rfl rfl) rfl (vc_isWide hP hp ef) rfl rfl Kz) ?_
    refine jv_Wp.of (jv_Ev.ret jv_i91 rfl (jv_ret_b (vr_b01 _))) ?_
    have k0 : f.kind = 0 := (vl_I_inj (b := 0) (by omega) (by decide)).mp h1
    rw [show vf_bI f (p + 1) len (vc_N (W (p + 1)) % 4294967296) (vc_N (W (p + 1)) / 4294967296) = (decide (vf_p0 f (p + 1) len (vc_N (W (p + 1)) % 4294967296) (vc_N (W (p + 1)) / 4294967296))) from vf_bI_0 (by omega)] at hQ
    exact hQ
  · refine jv_Wp.bys (q := ((vl_I f.kind) = Int32.ofInt 1)) (fun h2 => ?_) (fun h2 => ?_)
    · refine jv_Wp.lift (fun _ Kz => jv_Ev.br jv_i91 (pc' := 58) (st' := []) rfl (by rw [h2]; rfl) Kz) ?_
      refine jv_Wp.lift (fun _ Kz => jv_Ev.steps jv_i91 1 (pc' := 59) (l' := [(2, .long (W p)), (0, .ref pr), (1, .int (vl_I p))]) (st' := [.long (W p)]) rfl Kz) ?_
      refine jv_Wp.lift (fun _ Kz => jv_Ev.c jv_i91 (pc' := 62) (S' := [.int (vr_b (decide (vf_p1 f)))]) jv_i93 [.long (W p)] rfl rfl rfl rfl rfl rfl (vc_isLoad ef) rfl rfl Kz) ?_
      refine jv_Wp.of (jv_Ev.ret jv_i91 rfl (jv_ret_b (vr_b01 _))) ?_
      have k0 : ¬ f.kind = 0 := fun z => h1 ((vl_I_inj (b := 0) (by omega) (by decide)).mpr z)
      have k1 : f.kind = 1 := (vl_I_inj (b := 1) (by omega) (by decide)).mp h2
      rw [show vf_bI f (p + 1) len (vc_N (W (p + 1)) % 4294967296) (vc_N (W (p + 1)) / 4294967296) = (decide (vf_p1 f)) from vf_bI_1 (by omega)] at hQ
      exact hQ
    · refine jv_Wp.bys (q := ((vl_I f.kind) = Int32.ofInt 2)) (fun h3 => ?_) (fun h3 => ?_)
      · refine jv_Wp.lift (fun _ Kz => jv_Ev.br jv_i91 (pc' := 63) (st' := []) rfl (by rw [h3]; rfl) Kz) ?_
        refine jv_Wp.lift (fun _ Kz => jv_Ev.steps jv_i91 1 (pc' := 64) (l' := [(2, .long (W p)), (0, .ref pr), (1, .int (vl_I p))]) (st' := [.long (W p)]) rfl Kz) ?_
        refine jv_Wp.lift (fun _ Kz => jv_Ev.c jv_i91 (pc' := 67) (S' := [.int (vl_I f.s)]) jv_i87 [.long (W p)] rfl rfl rfl rfl rfl rfl (vw_f87 ef) rfl rfl Kz) ?_
        refine jv_Wp.cnd jv_i91 (pt := 91) (pe := 70) (p := (¬ (vl_I f.s) = 0)) (q := (¬ (vl_I f.s) = 0)) rfl jv_bi_ne rfl rfl Iff.rfl (fun h4 => ?_) (fun h4 => ?_)
        · refine jv_Wp.lift (fun _ Kz => jv_Ev.steps jv_i91 1 (pc' := 92) (l' := [(2, .long (W p)), (0, .ref pr), (1, .int (vl_I p))]) (st' := [.int (0 : Int32)]) rfl Kz) ?_
          refine jv_Wp.of (jv_Ev.ret jv_i91 rfl (jv_ret_b (Or.inl rfl))) ?_
          have k0 : ¬ f.kind = 0 := fun z => h1 ((vl_I_inj (b := 0) (by omega) (by decide)).mpr z)
          have k1 : ¬ f.kind = 1 := fun z => h2 ((vl_I_inj (b := 1) (by omega) (by decide)).mpr z)
          have k2 : f.kind = 2 := (vl_I_inj (b := 2) (by omega) (by decide)).mp h3
          have x1 : ¬ f.s = 0 := fun z => h4 ((vl_I_inj (a := f.s) (b := 0) (Nat.lt_trans bs (by decide)) (by decide)).mpr z)
          rw [show vf_bI f (p + 1) len (vc_N (W (p + 1)) % 4294967296) (vc_N (W (p + 1)) / 4294967296) = false from (vf_bI_2 (by omega)).trans (decide_eq_false (by omega))] at hQ
          exact hQ
        · refine jv_Wp.lift (fun _ Kz => jv_Ev.steps jv_i91 1 (pc' := 71) (l' := [(2, .long (W p)), (0, .ref pr), (1, .int (vl_I p))]) (st' := [.long (W p)]) rfl Kz) ?_
          refine jv_Wp.lift (fun _ Kz => jv_Ev.c jv_i91 (pc' := 74) (S' := [.int (vl_I f.mode)]) jv_i84 [.long (W p)] rfl rfl rfl rfl rfl rfl (vw_f84 ef) rfl rfl Kz) ?_
          refine jv_Wp.lift (fun _ Kz => jv_Ev.steps jv_i91 1 (pc' := 75) (l' := [(2, .long (W p)), (0, .ref pr), (1, .int (vl_I p))]) (st' := [.int (3 : Int32), .int (vl_I f.mode)]) rfl Kz) ?_
          refine jv_Wp.cnd jv_i91 (pt := 91) (pe := 78) (p := (¬ (vl_I f.mode) = (3 : Int32))) (q := (¬ (vl_I f.mode) = (3 : Int32))) rfl jv_bc_ne rfl rfl Iff.rfl (fun h5 => ?_) (fun h5 => ?_)
          · refine jv_Wp.lift (fun _ Kz => jv_Ev.steps jv_i91 1 (pc' := 92) (l' := [(2, .long (W p)), (0, .ref pr), (1, .int (vl_I p))]) (st' := [.int (0 : Int32)]) rfl Kz) ?_
            refine jv_Wp.of (jv_Ev.ret jv_i91 rfl (jv_ret_b (Or.inl rfl))) ?_
            have k0 : ¬ f.kind = 0 := fun z => h1 ((vl_I_inj (b := 0) (by omega) (by decide)).mpr z)
            have k1 : ¬ f.kind = 1 := fun z => h2 ((vl_I_inj (b := 1) (by omega) (by decide)).mpr z)
            have k2 : f.kind = 2 := (vl_I_inj (b := 2) (by omega) (by decide)).mp h3
            have m3 : ¬ f.mode = 3 := fun z => h5 ((vl_I_inj (b := 3) (by omega) (by decide)).mpr z)
            have x1 : f.s = 0 := (vl_I_inj (a := f.s) (b := 0) (Nat.lt_trans bs (by decide)) (by decide)).mp (Classical.not_not.mp h4)
            rw [show vf_bI f (p + 1) len (vc_N (W (p + 1)) % 4294967296) (vc_N (W (p + 1)) / 4294967296) = false from (vf_bI_2 (by omega)).trans (decide_eq_false (by omega))] at hQ
            exact hQ
          · refine jv_Wp.lift (fun _ Kz => jv_Ev.steps jv_i91 1 (pc' := 79) (l' := [(2, .long (W p)), (0, .ref pr), (1, .int (vl_I p))]) (st' := [.long (W p)]) rfl Kz) ?_
            refine jv_Wp.lift (fun _ Kz => jv_Ev.c jv_i91 (pc' := 82) (S' := [.int (vl_I f.d)]) jv_i86 [.long (W p)] rfl rfl rfl rfl rfl rfl (vw_f86 ef) rfl rfl Kz) ?_
            refine jv_Wp.lift (fun _ Kz => jv_Ev.steps jv_i91 1 (pc' := 84) (l' := [(2, .long (W p)), (0, .ref pr), (1, .int (vl_I p))]) (st' := [.int (11 : Int32), .int (vl_I f.d)]) rfl Kz) ?_
            refine jv_Wp.cnd jv_i91 (pt := 91) (pe := 87) (p := ((11 : Int32) ≤ (vl_I f.d))) (q := ((11 : Int32) ≤ (vl_I f.d))) rfl jv_bc_ge rfl rfl Iff.rfl (fun h6 => ?_) (fun h6 => ?_)
            · refine jv_Wp.lift (fun _ Kz => jv_Ev.steps jv_i91 1 (pc' := 92) (l' := [(2, .long (W p)), (0, .ref pr), (1, .int (vl_I p))]) (st' := [.int (0 : Int32)]) rfl Kz) ?_
              refine jv_Wp.of (jv_Ev.ret jv_i91 rfl (jv_ret_b (Or.inl rfl))) ?_
              have k0 : ¬ f.kind = 0 := fun z => h1 ((vl_I_inj (b := 0) (by omega) (by decide)).mpr z)
              have k1 : ¬ f.kind = 1 := fun z => h2 ((vl_I_inj (b := 1) (by omega) (by decide)).mpr z)
              have k2 : f.kind = 2 := (vl_I_inj (b := 2) (by omega) (by decide)).mp h3
              have m3 : f.mode = 3 := (vl_I_inj (b := 3) (by omega) (by decide)).mp (Classical.not_not.mp h5)
              have x1 : f.s = 0 := (vl_I_inj (a := f.s) (b := 0) (Nat.lt_trans bs (by decide)) (by decide)).mp (Classical.not_not.mp h4)
              have x2 : 11 ≤ f.d := (vl_I_le (a := 11) (b := f.d) (by decide) bd).mp h6
              rw [show vf_bI f (p + 1) len (vc_N (W (p + 1)) % 4294967296) (vc_N (W (p + 1)) / 4294967296) = false from (vf_bI_2 (by omega)).trans (decide_eq_false (by omega))] at hQ
              exact hQ
            · refine jv_Wp.lift (fun _ Kz => jv_Ev.steps jv_i91 2 (pc' := 92) (l' := [(2, .long (W p)), (0, .ref pr), (1, .int (vl_I p))]) (st' := [.int (1 : Int32)]) rfl Kz) ?_
              refine jv_Wp.of (jv_Ev.ret jv_i91 rfl (jv_ret_b (Or.inr rfl))) ?_
              have k0 : ¬ f.kind = 0 := fun z => h1 ((vl_I_inj (b := 0) (by omega) (by decide)).mpr z)
              have k1 : ¬ f.kind = 1 := fun z => h2 ((vl_I_inj (b := 1) (by omega) (by decide)).mpr z)
              have k2 : f.kind = 2 := (vl_I_inj (b := 2) (by omega) (by decide)).mp h3
              have m3 : f.mode = 3 := (vl_I_inj (b := 3) (by omega) (by decide)).mp (Classical.not_not.mp h5)
              have x1 : f.s = 0 := (vl_I_inj (a := f.s) (b := 0) (Nat.lt_trans bs (by decide)) (by decide)).mp (Classical.not_not.mp h4)
              have x2 : ¬ 11 ≤ f.d := fun z => h6 ((vl_I_le (a := 11) (b := f.d) (by decide) bd).mpr z)
              rw [show vf_bI f (p + 1) len (vc_N (W (p + 1)) % 4294967296) (vc_N (W (p + 1)) / 4294967296) = true from (vf_bI_2 (by omega)).trans (decide_eq_true (by omega))] at hQ
              exact hQ
      · refine jv_Wp.bys (q := ((vl_I f.kind) = Int32.ofInt 3)) (fun h7 => ?_) (fun h7 => ?_)
        · refine jv_Wp.lift (fun _ Kz => jv_Ev.br jv_i91 (pc' := 93) (st' := []) rfl (by rw [h7]; rfl) Kz) ?_
          refine jv_Wp.lift (fun _ Kz => jv_Ev.steps jv_i91 1 (pc' := 94) (l' := [(2, .long (W p)), (0, .ref pr), (1, .int (vl_I p))]) (st' := [.long (W p)]) rfl Kz) ?_
          refine jv_Wp.lift (fun _ Kz => jv_Ev.c jv_i91 (pc' := 97) (S' := [.int (vl_I f.mode)]) jv_i84 [.long (W p)] rfl rfl rfl rfl rfl rfl (vw_f84 ef) rfl rfl Kz) ?_
          refine jv_Wp.lift (fun _ Kz => jv_Ev.steps jv_i91 1 (pc' := 99) (l' := [(2, .long (W p)), (0, .ref pr), (1, .int (vl_I p))]) (st' := [.int (6 : Int32), .int (vl_I f.mode)]) rfl Kz) ?_
          refine jv_Wp.cnd jv_i91 (pt := 109) (pe := 102) (p := (¬ (vl_I f.mode) = (6 : Int32))) (q := (¬ (vl_I f.mode) = (6 : Int32))) rfl jv_bc_ne rfl rfl Iff.rfl (fun h8 => ?_) (fun h8 => ?_)
          · refine jv_Wp.lift (fun _ Kz => jv_Ev.steps jv_i91 1 (pc' := 110) (l' := [(2, .long (W p)), (0, .ref pr), (1, .int (vl_I p))]) (st' := [.long (W p)]) rfl Kz) ?_
            refine jv_Wp.lift (fun _ Kz => jv_Ev.c jv_i91 (pc' := 113) (S' := [.int (vr_b (decide (f.mode = 3 ∧ f.i = 0 ∧ f.d < 11 ∧ f.s < 11)))]) jv_i94 [.long (W p)] rfl rfl rfl rfl rfl rfl (vc_isStore ef) rfl rfl Kz) ?_
            refine jv_Wp.of (jv_Ev.ret jv_i91 rfl (jv_ret_b (vr_b01 _))) ?_
            have k0 : ¬ f.kind = 0 := fun z => h1 ((vl_I_inj (b := 0) (by omega) (by decide)).mpr z)
            have k1 : ¬ f.kind = 1 := fun z => h2 ((vl_I_inj (b := 1) (by omega) (by decide)).mpr z)
            have k2 : ¬ f.kind = 2 := fun z => h3 ((vl_I_inj (b := 2) (by omega) (by decide)).mpr z)
            have k3 : f.kind = 3 := (vl_I_inj (b := 3) (by omega) (by decide)).mp h7
            have m6 : ¬ f.mode = 6 := fun z => h8 ((vl_I_inj (b := 6) (by omega) (by decide)).mpr z)
            rw [show vf_bI f (p + 1) len (vc_N (W (p + 1)) % 4294967296) (vc_N (W (p + 1)) / 4294967296) = (decide (f.mode = 3 ∧ f.i = 0 ∧ f.d < 11 ∧ f.s < 11)) from (vf_bI_3 (by omega)).trans (decide_eq_decide.mpr ⟨fun z => z.elim id (fun y => absurd y.2.1 (by omega)), Or.inl⟩)] at hQ
            exact hQ
          · refine jv_Wp.lift (fun _ Kz => jv_Ev.steps jv_i91 1 (pc' := 103) (l' := [(2, .long (W p)), (0, .ref pr), (1, .int (vl_I p))]) (st' := [.long (W p)]) rfl Kz) ?_
            refine jv_Wp.lift (fun _ Kz => jv_Ev.c jv_i91 (pc' := 106) (S' := [.int (vr_b (decide (vf_pT f)))]) jv_i95 [.long (W p)] rfl rfl rfl rfl rfl rfl (vc_isAtomic ef) rfl rfl Kz) ?_
            refine jv_Wp.lift (fun _ Kz => jv_Ev.steps jv_i91 1 (pc' := 113) (l' := [(2, .long (W p)), (0, .ref pr), (1, .int (vl_I p))]) (st' := [.int (vr_b (decide (vf_pT f)))]) rfl Kz) ?_
            refine jv_Wp.of (jv_Ev.ret jv_i91 rfl (jv_ret_b (vr_b01 _))) ?_
            have k0 : ¬ f.kind = 0 := fun z => h1 ((vl_I_inj (b := 0) (by omega) (by decide)).mpr z)
            have k1 : ¬ f.kind = 1 := fun z => h2 ((vl_I_inj (b := 1) (by omega) (by decide)).mpr z)
            have k2 : ¬ f.kind = 2 := fun z => h3 ((vl_I_inj (b := 2) (by omega) (by decide)).mpr z)
            have k3 : f.kind = 3 := (vl_I_inj (b := 3) (by omega) (by decide)).mp h7
            have m6 : f.mode = 6 := (vl_I_inj (b := 6) (by omega) (by decide)).mp (Classical.not_not.mp h8)
            rw [show vf_bI f (p + 1) len (vc_N (W (p + 1)) % 4294967296) (vc_N (W (p + 1)) / 4294967296) = (decide (vf_pT f)) from (vf_bI_3 (by omega)).trans (decide_eq_decide.mpr ⟨fun z => z.elim (fun y => absurd y.1 (by omega)) (fun y => y.2.2), fun z => Or.inr ⟨by omega, by omega, z⟩⟩)] at hQ
            exact hQ
        · refine jv_Wp.bys (q := ((vl_I f.kind) = Int32.ofInt 5)) (fun h9 => ?_) (fun h9 => ?_)
          · refine jv_Wp.lift (fun _ Kz => jv_Ev.br jv_i91 (pc' := 114) (st' := []) rfl (by rw [h9]; rfl) Kz) ?_
            refine jv_Wp.lift (fun _ Kz => jv_Ev.steps jv_i91 1 (pc' := 115) (l' := [(2, .long (W p)), (0, .ref pr), (1, .int (vl_I p))]) (st' := [.long (W p)]) rfl Kz) ?_
            have k0 : ¬ f.kind = 0 := fun z => h1 ((vl_I_inj (b := 0) (by omega) (by decide)).mpr z)
            have k1 : ¬ f.kind = 1 := fun z => h2 ((vl_I_inj (b := 1) (by omega) (by decide)).mpr z)
            have k2 : ¬ f.kind = 2 := fun z => h3 ((vl_I_inj (b := 2) (by omega) (by decide)).mpr z)
            have k3 : ¬ f.kind = 3 := fun z => h7 ((vl_I_inj (b := 3) (by omega) (by decide)).mpr z)
            have k5 : f.kind = 5 := (vl_I_inj (b := 5) (by omega) (by decide)).mp h9
            refine jv_Wp.lift (fun _ Kz => jv_Ev.c jv_i91 (pc' := 118) (S' := [.int (vr_b (decide (vf_pJ f)))]) jv_i97 [.long (W p)] rfl rfl rfl rfl rfl rfl (vc_isJump ef (by omega)) rfl rfl Kz) ?_
            refine jv_Wp.of (jv_Ev.ret jv_i91 rfl (jv_ret_b (vr_b01 _))) ?_
            have k0 : ¬ f.kind = 0 := fun z => h1 ((vl_I_inj (b := 0) (by omega) (by decide)).mpr z)
            have k1 : ¬ f.kind = 1 := fun z => h2 ((vl_I_inj (b := 1) (by omega) (by decide)).mpr z)
            have k2 : ¬ f.kind = 2 := fun z => h3 ((vl_I_inj (b := 2) (by omega) (by decide)).mpr z)
            have k3 : ¬ f.kind = 3 := fun z => h7 ((vl_I_inj (b := 3) (by omega) (by decide)).mpr z)
            have k5 : f.kind = 5 := (vl_I_inj (b := 5) (by omega) (by decide)).mp h9
            rw [show vf_bI f (p + 1) len (vc_N (W (p + 1)) % 4294967296) (vc_N (W (p + 1)) / 4294967296) = (decide (vf_pJ f)) from vf_bI_56 (by omega)] at hQ
            exact hQ
          · refine jv_Wp.bys (q := ((vl_I f.kind) = Int32.ofInt 6)) (fun h10 => ?_) (fun h10 => ?_)
            · refine jv_Wp.lift (fun _ Kz => jv_Ev.br jv_i91 (pc' := 114) (st' := []) rfl (by rw [h10]; rfl) Kz) ?_
              refine jv_Wp.lift (fun _ Kz => jv_Ev.steps jv_i91 1 (pc' := 115) (l' := [(2, .long (W p)), (0, .ref pr), (1, .int (vl_I p))]) (st' := [.long (W p)]) rfl Kz) ?_
              have k0 : ¬ f.kind = 0 := fun z => h1 ((vl_I_inj (b := 0) (by omega) (by decide)).mpr z)
              have k1 : ¬ f.kind = 1 := fun z => h2 ((vl_I_inj (b := 1) (by omega) (by decide)).mpr z)
              have k2 : ¬ f.kind = 2 := fun z => h3 ((vl_I_inj (b := 2) (by omega) (by decide)).mpr z)
              have k3 : ¬ f.kind = 3 := fun z => h7 ((vl_I_inj (b := 3) (by omega) (by decide)).mpr z)
              have k5 : ¬ f.kind = 5 := fun z => h9 ((vl_I_inj (b := 5) (by omega) (by decide)).mpr z)
              have k6 : f.kind = 6 := (vl_I_inj (b := 6) (by omega) (by decide)).mp h10
              refine jv_Wp.lift (fun _ Kz => jv_Ev.c jv_i91 (pc' := 118) (S' := [.int (vr_b (decide (vf_pJ f)))]) jv_i97 [.long (W p)] rfl rfl rfl rfl rfl rfl (vc_isJump ef (by omega)) rfl rfl Kz) ?_
              refine jv_Wp.of (jv_Ev.ret jv_i91 rfl (jv_ret_b (vr_b01 _))) ?_
              have k0 : ¬ f.kind = 0 := fun z => h1 ((vl_I_inj (b := 0) (by omega) (by decide)).mpr z)
              have k1 : ¬ f.kind = 1 := fun z => h2 ((vl_I_inj (b := 1) (by omega) (by decide)).mpr z)
              have k2 : ¬ f.kind = 2 := fun z => h3 ((vl_I_inj (b := 2) (by omega) (by decide)).mpr z)
              have k3 : ¬ f.kind = 3 := fun z => h7 ((vl_I_inj (b := 3) (by omega) (by decide)).mpr z)
              have k5 : ¬ f.kind = 5 := fun z => h9 ((vl_I_inj (b := 5) (by omega) (by decide)).mpr z)
              have k6 : f.kind = 6 := (vl_I_inj (b := 6) (by omega) (by decide)).mp h10
              rw [show vf_bI f (p + 1) len (vc_N (W (p + 1)) % 4294967296) (vc_N (W (p + 1)) / 4294967296) = (decide (vf_pJ f)) from vf_bI_56 (by omega)] at hQ
              exact hQ
            · refine jv_Wp.lift (fun _ Kz => jv_Ev.br jv_i91 (pc' := 119) (st' := []) rfl (jv_tsw_def (fun i hi h => by match i, hi, h with 
                    | 0, _, h => exact absurd h (jv_ne_toInt (k := 0) h1) 
                    | 1, _, h => exact absurd h (jv_ne_toInt (k := 1) h2) 
                    | 2, _, h => exact absurd h (jv_ne_toInt (k := 2) h3) 
                    | 3, _, h => exact absurd h (jv_ne_toInt (k := 3) h7) 
                    | 4, _, _ => rfl 
                    | 5, _, h => exact absurd h (jv_ne_toInt (k := 5) h9) 
                    | 6, _, h => exact absurd h (jv_ne_toInt (k := 6) h10) 
                    | i + 7, hi, _ => exact absurd hi (by simp)) rfl) Kz) ?_
              refine jv_Wp.lift (fun _ Kz => jv_Ev.steps jv_i91 1 (pc' := 120) (l' := [(2, .long (W p)), (0, .ref pr), (1, .int (vl_I p))]) (st' := [.long (W p)]) rfl Kz) ?_
              have k0 : ¬ f.kind = 0 := fun z => h1 ((vl_I_inj (b := 0) (by omega) (by decide)).mpr z)
              have k1 : ¬ f.kind = 1 := fun z => h2 ((vl_I_inj (b := 1) (by omega) (by decide)).mpr z)
              have k2 : ¬ f.kind = 2 := fun z => h3 ((vl_I_inj (b := 2) (by omega) (by decide)).mpr z)
              have k3 : ¬ f.kind = 3 := fun z => h7 ((vl_I_inj (b := 3) (by omega) (by decide)).mpr z)
              have k5 : ¬ f.kind = 5 := fun z => h9 ((vl_I_inj (b := 5) (by omega) (by decide)).mpr z)
              have k6 : ¬ f.kind = 6 := fun z => h10 ((vl_I_inj (b := 6) (by omega) (by decide)).mpr z)
              refine jv_Wp.lift (fun _ Kz => jv_Ev.c jv_i91 (pc' := 123) (S' := [.int (vr_b (decide (vf_pA f)))]) jv_i96 [.long (W p)] rfl rfl rfl rfl rfl rfl (vc_isReckoning ef (by omega)) rfl rfl Kz) ?_
              refine jv_Wp.of (jv_Ev.ret jv_i91 rfl (jv_ret_b (vr_b01 _))) ?_
              have k0 : ¬ f.kind = 0 := fun z => h1 ((vl_I_inj (b := 0) (by omega) (by decide)).mpr z)
              have k1 : ¬ f.kind = 1 := fun z => h2 ((vl_I_inj (b := 1) (by omega) (by decide)).mpr z)
              have k2 : ¬ f.kind = 2 := fun z => h3 ((vl_I_inj (b := 2) (by omega) (by decide)).mpr z)
              have k3 : ¬ f.kind = 3 := fun z => h7 ((vl_I_inj (b := 3) (by omega) (by decide)).mpr z)
              have k5 : ¬ f.kind = 5 := fun z => h9 ((vl_I_inj (b := 5) (by omega) (by decide)).mpr z)
              have k6 : ¬ f.kind = 6 := fun z => h10 ((vl_I_inj (b := 6) (by omega) (by decide)).mpr z)
              rw [show vf_bI f (p + 1) len (vc_N (W (p + 1)) % 4294967296) (vc_N (W (p + 1)) / 4294967296) = (decide (vf_pA f)) from vf_bI_47 (by omega)] at hQ
              exact hQ
theorem vc_isInstruction {K : Nat → Option (Nat × Nat)} {I : Nat → Nat → Int32} {L : Nat → Nat → Int64} {R : Nat → Nat → Value} {pr ws len : Nat} {W : Nat → Int64} (hP : vc_P K L R pr ws len W) {p : Nat} (hp : p < len) {f : vf_F} (ef : vc_F (W p) = f) {n sl : Nat} : jv_Ms 91 [.ref pr, .int (vl_I p)] (jv_H K I L R) n sl (some (.int (vr_b (vf_bI f (p + 1) len (vc_N (W (p + 1)) % 4294967296) (vc_N (W (p + 1)) / 4294967296)))), jv_H K I L R, n, sl) := by
  have h := vc_isInstruction_ (I := I) (n := n) (sl := sl) hP hp ef (Q := fun X => X = (some (.int (vr_b (vf_bI f (p + 1) len (vc_N (W (p + 1)) % 4294967296) (vc_N (W (p + 1)) / 4294967296)))), jv_H K I L R, n, sl)) rfl
  obtain ⟨X, h, e⟩ := h
  subst e
  exact h