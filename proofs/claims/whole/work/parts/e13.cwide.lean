/-! part e13: first places, wide instructions, of the class (gen/te13.py) -/
/-- whether an instruction begins at place g, as the class asks -/
abbrev vc_fst (W : Nat → Int64) (len : Nat) (g : Int) : Prop := (0 ≤ g ∧ g < len) ∧ ¬ (0 < g ∧ g ≤ len ∧ (vc_F (W (g.toNat - 1))).code = 24)
theorem vw_lo0 (w : Int64) : w.toInt32 = 0 ↔ vc_N w % 4294967296 = 0 := by
  rw [← Int32.toBitVec_inj, vw_low]
  show BitVec.setWidth 32 w.toBitVec = 0#32 ↔ _
  rw [← BitVec.toNat_inj, BitVec.toNat_setWidth]; exact Iff.rfl
theorem vw_hi0 {w : Int64} {f : vf_F} (ef : vc_F w = f) : f.i = 0 ↔ vc_N w / 4294967296 = 0 := by
  subst ef
  have h := vw_imm w
  have a := (jv_wfimmediate w).toInt_lt; have b := (jv_wfimmediate w).le_toInt
  have e : (vc_F w).i = (jv_wfimmediate w).toInt := rfl
  have n := w.toBitVec.isLt
  have c : vc_N w = w.toBitVec.toNat := rfl
  omega
theorem vi_p1J {p : Nat} (h : p < 2147483000) : ((vl_I p) + (1 : Int32)).toInt64 = Int64.ofInt ((p : Int) + 1) := by
  rw [vl_I_p1]
  refine Int64.toInt_inj.mp ?_
  rw [vi_I64 (by omega), vi_J (by omega)]; omega
theorem jv_i99 : jv_I 99 3 (some .boolean) 2 43 jv_c99 := ⟨rfl, rfl, rfl, rfl, rfl⟩
theorem vc_isFirst_ {K : Nat → Option (Nat × Nat)} {I : Nat → Nat → Int32} {L : Nat → Nat → Int64} {R : Nat → Nat → Value} {pr ws len : Nat} {W : Nat → Int64} (hP : vc_P K L R pr ws len W) {g : Int} (hg : -1099511627776 ≤ g ∧ g ≤ 1099511627776) {n sl : Nat} {Q : jv_R → Prop} (hQ : Q (some (.int (vr_b (decide (vc_fst W len g)))), jv_H K I L R, n, sl)) : jv_Wp 99 0 [(0, .ref pr), (1, .long (Int64.ofInt g))] [] (jv_H K I L R) n sl Q := by
  refine jv_Wp.lift (fun _ Kz => jv_Ev.steps jv_i99 2 (pc' := 2) (l' := [(0, .ref pr), (1, .long (Int64.ofInt g))]) (st' := [.long (Int64.ofInt g), .ref pr]) rfl Kz) ?_
  refine jv_Wp.lift (fun _ Kz => jv_Ev.c jv_i99 (pc' := 5) (S' := [.int (vr_b (decide (0 ≤ g ∧ g < len)))]) jv_i77 [.ref pr, .long (Int64.ofInt g)] rfl rfl rfl rfl (jv_cal rfl (jv_H_at hP.1) rfl rfl) rfl (vc_has hP hg) rfl rfl Kz) ?_
  refine jv_Wp.cnd jv_i99 (pt := 20) (pe := 8) (p := ((vr_b (decide (0 ≤ g ∧ g < len))) = 0)) (q := ((vr_b (decide (0 ≤ g ∧ g < len))) = 0)) rfl jv_bi_eq rfl rfl Iff.rfl (fun h1 => ?_) (fun h1 => ?_)
  · refine jv_Wp.lift (fun _ Kz => jv_Ev.steps jv_i99 1 (pc' := 21) (l' := [(0, .ref pr), (1, .long (Int64.ofInt g))]) (st' := [.int (0 : Int32)]) rfl Kz) ?_
    refine jv_Wp.of (jv_Ev.ret jv_i99 rfl (jv_ret_b (Or.inl rfl))) ?_
    rw [show decide (vc_fst W len g) = false from decide_eq_false (fun z => (of_decide_eq_false (vr_b_f h1)) z.1)] at hQ
    exact hQ
  · refine jv_Wp.lift (fun _ Kz => jv_Ev.steps jv_i99 2 (pc' := 10) (l' := [(0, .ref pr), (1, .long (Int64.ofInt g))]) (st' := [.long (Int64.ofInt g), .ref pr]) rfl Kz) ?_
    refine jv_Wp.lift (fun _ Kz => jv_Ev.c jv_i99 (pc' := 13) (S' := [.int (vr_b (decide (0 < g ∧ g ≤ len ∧ (vc_F (W (g.toNat - 1))).code = 24)))]) jv_i79 [.ref pr, .long (Int64.ofInt g)] rfl rfl rfl rfl (jv_cal rfl (jv_H_at hP.1) rfl rfl) rfl (vc_isSecond hP hg) rfl rfl Kz) ?_
    refine jv_Wp.cnd jv_i99 (pt := 20) (pe := 16) (p := (¬ (vr_b (decide (0 < g ∧ g ≤ len ∧ (vc_F (W (g.toNat - 1))).code = 24))) = 0)) (q := (¬ (vr_b (decide (0 < g ∧ g ≤ len ∧ (vc_F (W (g.toNat - 1))).code = 24))) = 0)) rfl jv_bi_ne rfl rfl Iff.rfl (fun h2 => ?_) (fun h2 => ?_)
    · refine jv_Wp.lift (fun _ Kz => jv_Ev.steps jv_i99 1 (pc' := 21) (l' := [(0, .ref pr), (1, .long (Int64.ofInt g))]) (st' := [.int (0 : Int32)]) rfl Kz) ?_
      refine jv_Wp.of (jv_Ev.ret jv_i99 rfl (jv_ret_b (Or.inl rfl))) ?_
      rw [show decide (vc_fst W len g) = false from decide_eq_false (fun z => z.2 (of_decide_eq_true (vr_b_t h2)))] at hQ
      exact hQ
    · refine jv_Wp.lift (fun _ Kz => jv_Ev.steps jv_i99 2 (pc' := 21) (l' := [(0, .ref pr), (1, .long (Int64.ofInt g))]) (st' := [.int (1 : Int32)]) rfl Kz) ?_
      refine jv_Wp.of (jv_Ev.ret jv_i99 rfl (jv_ret_b (Or.inr rfl))) ?_
      rw [show decide (vc_fst W len g) = true from decide_eq_true ⟨(of_decide_eq_true (vr_b_t h1)), (of_decide_eq_false (vr_b_f (Classical.not_not.mp h2)))⟩] at hQ
      exact hQ
theorem vc_isFirst {K : Nat → Option (Nat × Nat)} {I : Nat → Nat → Int32} {L : Nat → Nat → Int64} {R : Nat → Nat → Value} {pr ws len : Nat} {W : Nat → Int64} (hP : vc_P K L R pr ws len W) {g : Int} (hg : -1099511627776 ≤ g ∧ g ≤ 1099511627776) {n sl : Nat} : jv_Ms 99 [.ref pr, .long (Int64.ofInt g)] (jv_H K I L R) n sl (some (.int (vr_b (decide (vc_fst W len g)))), jv_H K I L R, n, sl) := by
  have h := vc_isFirst_ (I := I) (n := n) (sl := sl) hP hg (Q := fun X => X = (some (.int (vr_b (decide (vc_fst W len g)))), jv_H K I L R, n, sl)) rfl
  obtain ⟨X, h, e⟩ := h
  subst e
  exact h
theorem jv_i92 : jv_I 92 4 (some .boolean) 1 22 jv_c92 := ⟨rfl, rfl, rfl, rfl, rfl⟩
theorem vc_isWide_ {K : Nat → Option (Nat × Nat)} {I : Nat → Nat → Int32} {L : Nat → Nat → Int64} {R : Nat → Nat → Value} {pr ws len : Nat} {W : Nat → Int64} (hP : vc_P K L R pr ws len W) {p : Nat} (hp : p < len) {f f2 : vf_F} (ef : vc_F (W p) = f) (ef2 : vc_F (W (p + 1)) = f2) {n sl : Nat} {Q : jv_R → Prop} (hQ : Q (some (.int (vr_b (decide (vf_p0 f (p + 1) len (vc_N (W (p + 1)) % 4294967296) (vc_N (W (p + 1)) / 4294967296))))), jv_H K I L R, n, sl)) : jv_Wp 92 0 [(0, .ref pr), (1, .int (vl_I p))] [] (jv_H K I L R) n sl Q := by
  have hle := hP.2.2.2.1
  have c1 := vw_dc ef
  have c2 := vw_dd ef
  have c3 := vw_ds ef
  have c4 : f.n = f.code / 16 := rfl
  have c5 : f.kind = f.code % 8 := rfl
  have c6 : f.mode = f.code / 32 := rfl
  have c7 := vf_z f
  have bn : f.n < 2147483648 := by omega
  have bk : f.kind < 2147483648 := by omega
  have bm : f.mode < 2147483648 := by omega
  have bz : f.z < 2147483648 := by omega
  have bc : f.code < 2147483648 := by omega
  have bd : f.d < 2147483648 := by omega
  have bs : f.s < 2147483648 := by omega
  refine jv_Wp.lift (fun _ Kz => jv_Ev.steps jv_i92 2 (pc' := 2) (l' := [(0, .ref pr), (1, .int (vl_I p))]) (st' := [.int (vl_I p), .ref pr]) rfl Kz) ?_
  refine jv_Wp.lift (fun _ Kz => jv_Ev.c jv_i92 (pc' := 5) (S' := [.long (W p)]) jv_i78 [.ref pr, .int (vl_I p)] rfl rfl rfl rfl (jv_cal rfl (jv_H_at hP.1) rfl rfl) rfl (vc_wordq hP hp rfl) rfl rfl Kz) ?_
  refine jv_Wp.lift (fun _ Kz => jv_Ev.steps jv_i92 2 (pc' := 7) (l' := [(2, .long (W p)), (0, .ref pr), (1, .int (vl_I p))]) (st' := [.long (W p)]) rfl Kz) ?_
  refine jv_Wp.lift (fun _ Kz => jv_Ev.c jv_i92 (pc' := 10) (S' := [.int (vl_I f.code)]) jv_i80 [.long (W p)] rfl rfl rfl rfl rfl rfl (vw_f80 ef) rfl rfl Kz) ?_
  refine jv_Wp.lift (fun _ Kz => jv_Ev.steps jv_i92 1 (pc' := 12) (l' := [(2, .long (W p)), (0, .ref pr), (1, .int (vl_I p))]) (st' := [.int (24 : Int32), .int (vl_I f.code)]) rfl Kz) ?_
  refine jv_Wp.cnd jv_i92 (pt := 39) (pe := 15) (p := (¬ (vl_I f.code) = (24 : Int32))) (q := (¬ (vl_I f.code) = (24 : Int32))) rfl jv_bc_ne rfl rfl Iff.rfl (fun h1 => ?_) (fun h1 => ?_)
  · refine jv_Wp.lift (fun _ Kz => jv_Ev.steps jv_i92 1 (pc' := 40) (l' := [(2, .long (W p)), (0, .ref pr), (1, .int (vl_I p))]) (st' := [.int (0 : Int32)]) rfl Kz) ?_
    refine jv_Wp.of (jv_Ev.ret jv_i92 rfl (jv_ret_b (Or.inl rfl))) ?_
    have x1 : ¬ f.code = 24 := fun z => h1 ((vl_I_inj (a := f.code) (b := 24) (Nat.lt_trans bc (by decide)) (by decide)).mpr z)
    rw [show decide (vf_p0 f (p + 1) len (vc_N (W (p + 1)) % 4294967296) (vc_N (W (p + 1)) / 4294967296)) = false from decide_eq_false (by omega)] at hQ
    exact hQ
  · refine jv_Wp.lift (fun _ Kz => jv_Ev.steps jv_i92 1 (pc' := 16) (l' := [(2, .long (W p)), (0, .ref pr), (1, .int (vl_I p))]) (st' := [.long (W p)]) rfl Kz) ?_
    refine jv_Wp.lift (fun _ Kz => jv_Ev.c jv_i92 (pc' := 19) (S' := [.int (vl_I f.d)]) jv_i86 [.long (W p)] rfl rfl rfl rfl rfl rfl (vw_f86 ef) rfl rfl Kz) ?_
    refine jv_Wp.lift (fun _ Kz => jv_Ev.steps jv_i92 1 (pc' := 21) (l' := [(2, .long (W p)), (0, .ref pr), (1, .int (vl_I p))]) (st' := [.int (9 : Int32), .int (vl_I f.d)]) rfl Kz) ?_
    refine jv_Wp.cnd jv_i92 (pt := 39) (pe := 24) (p := ((9 : Int32) < (vl_I f.d))) (q := ((9 : Int32) < (vl_I f.d))) rfl jv_bc_gt rfl rfl Iff.rfl (fun h2 => ?_) (fun h2 => ?_)
    · refine jv_Wp.lift (fun _ Kz => jv_Ev.steps jv_i92 1 (pc' := 40) (l' := [(2, .long (W p)), (0, .ref pr), (1, .int (vl_I p))]) (st' := [.int (0 : Int32)]) rfl Kz) ?_
      refine jv_Wp.of (jv_Ev.ret jv_i92 rfl (jv_ret_b (Or.inl rfl))) ?_
      have x1 : f.code = 24 := (vl_I_inj (a := f.code) (b := 24) (Nat.lt_trans bc (by decide)) (by decide)).mp (Classical.not_not.mp h1)
      have x2 : 9 < f.d := (vl_I_lt (a := 9) (b := f.d) (by decide) bd).mp h2
      rw [show decide (vf_p0 f (p + 1) len (vc_N (W (p + 1)) % 4294967296) (vc_N (W (p + 1)) / 4294967296)) = false from decide_eq_false (by omega)] at hQ
      exact hQ
    · refine jv_Wp.lift (fun _ Kz => jv_Ev.steps jv_i92 1 (pc' := 25) (l' := [(2, .long (W p)), (0, .ref pr), (1, .int (vl_I p))]) (st' := [.long (W p)]) rfl Kz) ?_
      refine jv_Wp.lift (fun _ Kz => jv_Ev.c jv_i92 (pc' := 28) (S' := [.int (vl_I f.s)]) jv_i87 [.long (W p)] rfl rfl rfl rfl rfl rfl (vw_f87 ef) rfl rfl Kz) ?_
      refine jv_Wp.lift (fun _ Kz => jv_Ev.steps jv_i92 1 (pc' := 29) (l' := [(2, .long (W p)), (0, .ref pr), (1, .int (vl_I p))]) (st' := [.int (1 : Int32), .int (vl_I f.s)]) rfl Kz) ?_
      refine jv_Wp.cnd jv_i92 (pt := 39) (pe := 32) (p := ((1 : Int32) < (vl_I f.s))) (q := ((1 : Int32) < (vl_I f.s))) rfl jv_bc_gt rfl rfl Iff.rfl (fun h3 => ?_) (fun h3 => ?_)
      · refine jv_Wp.lift (fun _ Kz => jv_Ev.steps jv_i92 1 (pc' := 40) (l' := [(2, .long (W p)), (0, .ref pr), (1, .int (vl_I p))]) (st' := [.int (0 : Int32)]) rfl Kz) ?_
        refine jv_Wp.of (jv_Ev.ret jv_i92 rfl (jv_ret_b (Or.inl rfl))) ?_
        have x1 : f.code = 24 := (vl_I_inj (a := f.code) (b := 24) (Nat.lt_trans bc (by decide)) (by decide)).mp (Classical.not_not.mp h1)
        have x2 : ¬ 9 < f.d := fun z => h2 ((vl_I_lt (a := 9) (b := f.d) (by decide) bd).mpr z)
        have x3 : 1 < f.s := (vl_I_lt (a := 1) (b := f.s) (by decide) bs).mp h3
        rw [show decide (vf_p0 f (p + 1) len (vc_N (W (p + 1)) % 4294967296) (vc_N (W (p + 1)) / 4294967296)) = false from decide_eq_false (by omega)] at hQ
        exact hQ
      · refine jv_Wp.lift (fun _ Kz => jv_Ev.steps jv_i92 1 (pc' := 33) (l' := [(2, .long (W p)), (0, .ref pr), (1, .int (vl_I p))]) (st' := [.long (W p)]) rfl Kz) ?_
        refine jv_Wp.lift (fun _ Kz => jv_Ev.c jv_i92 (pc' := 36) (S' := [.int (Int32.ofInt f.o)]) jv_i88 [.long (W p)] rfl rfl rfl rfl rfl rfl (vw_f88 ef) rfl rfl Kz) ?_
        refine jv_Wp.cnd jv_i92 (pt := 41) (pe := 39) (p := ((Int32.ofInt f.o) = 0)) (q := ((Int32.ofInt f.o) = 0)) rfl jv_bi_eq rfl rfl Iff.rfl (fun h4 => ?_) (fun h4 => ?_)
        · refine jv_Wp.lift (fun _ Kz => jv_Ev.steps jv_i92 5 (pc' := 46) (l' := [(2, .long (W p)), (0, .ref pr), (1, .int (vl_I p))]) (st' := [.long ((vl_I p) + (1 : Int32)).toInt64, .ref pr]) rfl Kz) ?_
          have H1 := vc_has (I := I) (L := L) (n := n) (sl := sl) (g := (p : Int) + 1) hP (by omega)
          rw [← show ((vl_I p) + (1 : Int32)).toInt64 = Int64.ofInt ((p : Int) + 1) from vi_p1J (by omega)] at H1
          refine jv_Wp.lift (fun _ Kz => jv_Ev.c jv_i92 (pc' := 49) (S' := [.int (vr_b (decide (0 ≤ (p : Int) + 1 ∧ (p : Int) + 1 < len)))]) jv_i77 [.ref pr, .long ((vl_I p) + (1 : Int32)).toInt64] rfl rfl rfl rfl (jv_cal rfl (jv_H_at hP.1) rfl rfl) rfl H1 rfl rfl Kz) ?_
          refine jv_Wp.cnd jv_i92 (pt := 63) (pe := 52) (p := ((vr_b (decide (0 ≤ (p : Int) + 1 ∧ (p : Int) + 1 < len))) = 0)) (q := ((vr_b (decide (0 ≤ (p : Int) + 1 ∧ (p : Int) + 1 < len))) = 0)) rfl jv_bi_eq rfl rfl Iff.rfl (fun h5 => ?_) (fun h5 => ?_)
          · refine jv_Wp.lift (fun _ Kz => jv_Ev.steps jv_i92 1 (pc' := 64) (l' := [(2, .long (W p)), (0, .ref pr), (1, .int (vl_I p))]) (st' := [.int (0 : Int32)]) rfl Kz) ?_
            refine jv_Wp.of (jv_Ev.ret jv_i92 rfl (jv_ret_b (Or.inl rfl))) ?_
            have x1 : f.code = 24 := (vl_I_inj (a := f.code) (b := 24) (Nat.lt_trans bc (by decide)) (by decide)).mp (Classical.not_not.mp h1)
            have x2 : ¬ 9 < f.d := fun z => h2 ((vl_I_lt (a := 9) (b := f.d) (by decide) bd).mpr z)
            have x3 : ¬ 1 < f.s := fun z => h3 ((vl_I_lt (a := 1) (b := f.s) (by decide) bs).mpr z)
            have y4 : f.o = 0 := (vw_dO ef).symm.trans (congrArg Int32.toInt h4)
            have qa : ¬ (0 ≤ (p : Int) + 1 ∧ (p : Int) + 1 < len) := (of_decide_eq_false (vr_b_f h5))
            rw [show decide (vf_p0 f (p + 1) len (vc_N (W (p + 1)) % 4294967296) (vc_N (W (p + 1)) / 4294967296)) = false from decide_eq_false (by omega)] at hQ
            exact hQ
          · refine jv_Wp.lift (fun _ Kz => jv_Ev.steps jv_i92 4 (pc' := 56) (l' := [(2, .long (W p)), (0, .ref pr), (1, .int (vl_I p))]) (st' := [.int ((vl_I p) + (1 : Int32)), .ref pr]) rfl Kz) ?_
            have hp1 : p + 1 < len := by have z := (of_decide_eq_true (vr_b_t h5)); omega
            refine jv_Wp.lift (fun _ Kz => jv_Ev.c jv_i92 (pc' := 59) (S' := [.long (W (p + 1))]) jv_i78 [.ref pr, .int ((vl_I p) + (1 : Int32))] rfl rfl rfl rfl (jv_cal rfl (jv_H_at hP.1) rfl rfl) rfl (vc_wordq hP hp1 (vl_I_p1 p)) rfl rfl Kz) ?_
            refine jv_Wp.lift (fun _ Kz => jv_Ev.steps jv_i92 1 (pc' := 60) (l' := [(2, .long (W p)), (0, .ref pr), (1, .int (vl_I p))]) (st' := [.int (W (p + 1)).toInt32]) rfl Kz) ?_
            refine jv_Wp.cnd jv_i92 (pt := 65) (pe := 63) (p := ((W (p + 1)).toInt32 = 0)) (q := ((W (p + 1)).toInt32 = 0)) rfl jv_bi_eq rfl rfl Iff.rfl (fun h6 => ?_) (fun h6 => ?_)
            · refine jv_Wp.lift (fun _ Kz => jv_Ev.steps jv_i92 1 (pc' := 66) (l' := [(2, .long (W p)), (0, .ref pr), (1, .int (vl_I p))]) (st' := [.long (W p)]) rfl Kz) ?_
              refine jv_Wp.lift (fun _ Kz => jv_Ev.c jv_i92 (pc' := 69) (S' := [.int (vl_I f.s)]) jv_i87 [.long (W p)] rfl rfl rfl rfl rfl rfl (vw_f87 ef) rfl rfl Kz) ?_
              refine jv_Wp.cnd jv_i92 (pt := 92) (pe := 72) (p := ((vl_I f.s) = 0)) (q := ((vl_I f.s) = 0)) rfl jv_bi_eq rfl rfl Iff.rfl (fun h7 => ?_) (fun h7 => ?_)
              · refine jv_Wp.lift (fun _ Kz => jv_Ev.steps jv_i92 2 (pc' := 97) (l' := [(2, .long (W p)), (0, .ref pr), (1, .int (vl_I p))]) (st' := [.int (1 : Int32)]) rfl Kz) ?_
                refine jv_Wp.of (jv_Ev.ret jv_i92 rfl (jv_ret_b (Or.inr rfl))) ?_
                have x1 : f.code = 24 := (vl_I_inj (a := f.code) (b := 24) (Nat.lt_trans bc (by decide)) (by decide)).mp (Classical.not_not.mp h1)
                have x2 : ¬ 9 < f.d := fun z => h2 ((vl_I_lt (a := 9) (b := f.d) (by decide) bd).mpr z)
                have x3 : ¬ 1 < f.s := fun z => h3 ((vl_I_lt (a := 1) (b := f.s) (by decide) bs).mpr z)
                have y4 : f.o = 0 := (vw_dO ef).symm.trans (congrArg Int32.toInt h4)
                have x5 : f.s = 0 := (vl_I_inj (a := f.s) (b := 0) (Nat.lt_trans bs (by decide)) (by decide)).mp h7
                have qa : (0 ≤ (p : Int) + 1 ∧ (p : Int) + 1 < len) := (of_decide_eq_true (vr_b_t h5))
                have ql : (vc_N (W (p + 1)) % 4294967296) = 0 := (vw_lo0 _).mp h6
                rw [show decide (vf_p0 f (p + 1) len (vc_N (W (p + 1)) % 4294967296) (vc_N (W (p + 1)) / 4294967296)) = true from decide_eq_true (by omega)] at hQ
                exact hQ
              · refine jv_Wp.lift (fun _ Kz => jv_Ev.steps jv_i92 1 (pc' := 73) (l' := [(2, .long (W p)), (0, .ref pr), (1, .int (vl_I p))]) (st' := [.long (W p)]) rfl Kz) ?_
                refine jv_Wp.lift (fun _ Kz => jv_Ev.c jv_i92 (pc' := 76) (S' := [.int (Int32.ofInt f.i)]) jv_i89 [.long (W p)] rfl rfl rfl rfl rfl rfl (vw_f89 ef) rfl rfl Kz) ?_
                refine jv_Wp.cnd jv_i92 (pt := 96) (pe := 79) (p := ((Int32.ofInt f.i) < 0)) (q := ((Int32.ofInt f.i) < 0)) rfl jv_bi_lt rfl rfl Iff.rfl (fun h8 => ?_) (fun h8 => ?_)
                · refine jv_Wp.lift (fun _ Kz => jv_Ev.steps jv_i92 1 (pc' := 97) (l' := [(2, .long (W p)), (0, .ref pr), (1, .int (vl_I p))]) (st' := [.int (0 : Int32)]) rfl Kz) ?_
                  refine jv_Wp.of (jv_Ev.ret jv_i92 rfl (jv_ret_b (Or.inl rfl))) ?_
                  have x1 : f.code = 24 := (vl_I_inj (a := f.code) (b := 24) (Nat.lt_trans bc (by decide)) (by decide)).mp (Classical.not_not.mp h1)
                  have x2 : ¬ 9 < f.d := fun z => h2 ((vl_I_lt (a := 9) (b := f.d) (by decide) bd).mpr z)
                  have x3 : ¬ 1 < f.s := fun z => h3 ((vl_I_lt (a := 1) (b := f.s) (by decide) bs).mpr z)
                  have y4 : f.o = 0 := (vw_dO ef).symm.trans (congrArg Int32.toInt h4)
                  have x5 : ¬ f.s = 0 := fun z => h7 ((vl_I_inj (a := f.s) (b := 0) (Nat.lt_trans bs (by decide)) (by decide)).mpr z)
                  have y6 : f.i < 0 := by have z := h8; rw [Int32.lt_iff_toInt_lt, vw_dQ ef] at z; exact z
                  have qa : (0 ≤ (p : Int) + 1 ∧ (p : Int) + 1 < len) := (of_decide_eq_true (vr_b_t h5))
                  have ql : (vc_N (W (p + 1)) % 4294967296) = 0 := (vw_lo0 _).mp h6
                  rw [show decide (vf_p0 f (p + 1) len (vc_N (W (p + 1)) % 4294967296) (vc_N (W (p + 1)) / 4294967296)) = false from decide_eq_false (by omega)] at hQ
                  exact hQ
                · refine jv_Wp.lift (fun _ Kz => jv_Ev.steps jv_i92 4 (pc' := 83) (l' := [(2, .long (W p)), (0, .ref pr), (1, .int (vl_I p))]) (st' := [.int ((vl_I p) + (1 : Int32)), .ref pr]) rfl Kz) ?_
                  have hp1 : p + 1 < len := by have z := (of_decide_eq_true (vr_b_t h5)); omega
                  refine jv_Wp.lift (fun _ Kz => jv_Ev.c jv_i92 (pc' := 86) (S' := [.long (W (p + 1))]) jv_i78 [.ref pr, .int ((vl_I p) + (1 : Int32))] rfl rfl rfl rfl (jv_cal rfl (jv_H_at hP.1) rfl rfl) rfl (vc_wordq hP hp1 (vl_I_p1 p)) rfl rfl Kz) ?_
                  refine jv_Wp.lift (fun _ Kz => jv_Ev.c jv_i92 (pc' := 89) (S' := [.int (Int32.ofInt f2.i)]) jv_i89 [.long (W (p + 1))] rfl rfl rfl rfl rfl rfl (vw_f89 ef2) rfl rfl Kz) ?_
                  refine jv_Wp.cnd jv_i92 (pt := 96) (pe := 92) (p := (¬ (Int32.ofInt f2.i) = 0)) (q := (¬ (Int32.ofInt f2.i) = 0)) rfl jv_bi_ne rfl rfl Iff.rfl (fun h9 => ?_) (fun h9 => ?_)
                  · refine jv_Wp.lift (fun _ Kz => jv_Ev.steps jv_i92 1 (pc' := 97) (l' := [(2, .long (W p)), (0, .ref pr), (1, .int (vl_I p))]) (st' := [.int (0 : Int32)]) rfl Kz) ?_
                    refine jv_Wp.of (jv_Ev.ret jv_i92 rfl (jv_ret_b (Or.inl rfl))) ?_
                    have x1 : f.code = 24 := (vl_I_inj (a := f.code) (b := 24) (Nat.lt_trans bc (by decide)) (by decide)).mp (Classical.not_not.mp h1)
                    have x2 : ¬ 9 < f.d := fun z => h2 ((vl_I_lt (a := 9) (b := f.d) (by decide) bd).mpr z)
                    have x3 : ¬ 1 < f.s := fun z => h3 ((vl_I_lt (a := 1) (b := f.s) (by decide) bs).mpr z)
                    have y4 : f.o = 0 := (vw_dO ef).symm.trans (congrArg Int32.toInt h4)
                    have x5 : ¬ f.s = 0 := fun z => h7 ((vl_I_inj (a := f.s) (b := 0) (Nat.lt_trans bs (by decide)) (by decide)).mpr z)
                    have y6 : ¬ f.i < 0 := by have z := h8; rw [Int32.lt_iff_toInt_lt, vw_dQ ef] at z; exact z
                    have qa : (0 ≤ (p : Int) + 1 ∧ (p : Int) + 1 < len) := (of_decide_eq_true (vr_b_t h5))
                    have ql : (vc_N (W (p + 1)) % 4294967296) = 0 := (vw_lo0 _).mp h6
                    have qh : ¬ (vc_N (W (p + 1)) / 4294967296) = 0 := fun z => h9 (by rw [(vw_hi0 ef2).mpr z]; rfl)
                    rw [show decide (vf_p0 f (p + 1) len (vc_N (W (p + 1)) % 4294967296) (vc_N (W (p + 1)) / 4294967296)) = false from decide_eq_false (by omega)] at hQ
                    exact hQ
                  · refine jv_Wp.lift (fun _ Kz => jv_Ev.steps jv_i92 2 (pc' := 97) (l' := [(2, .long (W p)), (0, .ref pr), (1, .int (vl_I p))]) (st' := [.int (1 : Int32)]) rfl Kz) ?_
                    refine jv_Wp.of (jv_Ev.ret jv_i92 rfl (jv_ret_b (Or.inr rfl))) ?_
                    have x1 : f.code = 24 := (vl_I_inj (a := f.code) (b := 24) (Nat.lt_trans bc (by decide)) (by decide)).mp (Classical.not_not.mp h1)
                    have x2 : ¬ 9 < f.d := fun z => h2 ((vl_I_lt (a := 9) (b := f.d) (by decide) bd).mpr z)
                    have x3 : ¬ 1 < f.s := fun z => h3 ((vl_I_lt (a := 1) (b := f.s) (by decide) bs).mpr z)
                    have y4 : f.o = 0 := (vw_dO ef).symm.trans (congrArg Int32.toInt h4)
                    have x5 : ¬ f.s = 0 := fun z => h7 ((vl_I_inj (a := f.s) (b := 0) (Nat.lt_trans bs (by decide)) (by decide)).mpr z)
                    have y6 : ¬ f.i < 0 := by have z := h8; rw [Int32.lt_iff_toInt_lt, vw_dQ ef] at z; exact z
                    have qa : (0 ≤ (p : Int) + 1 ∧ (p : Int) + 1 < len) := (of_decide_eq_true (vr_b_t h5))
                    have ql : (vc_N (W (p + 1)) % 4294967296) = 0 := (vw_lo0 _).mp h6
                    have qh : (vc_N (W (p + 1)) / 4294967296) = 0 := (vw_hi0 ef2).mp ((vw_dQ ef2).symm.trans (congrArg Int32.toInt (Classical.not_not.mp h9)))
                    rw [show decide (vf_p0 f (p + 1) len (vc_N (W (p + 1)) % 4294967296) (vc_N (W (p + 1)) / 4294967296)) = true from decide_eq_true (by omega)] at hQ
                    exact hQ
            · refine jv_Wp.lift (fun _ Kz => jv_Ev.steps jv_i92 1 (pc' := 64) (l' := [(2, .long (W p)), (0, .ref pr), (1, .int (vl_I p))]) (st' := [.int (0 : Int32)]) rfl Kz) ?_
              refine jv_Wp.of (jv_Ev.ret jv_i92 rfl (jv_ret_b (Or.inl rfl))) ?_
              have x1 : f.code = 24 := (vl_I_inj (a := f.code) (b := 24) (Nat.lt_trans bc (by decide)) (by decide)).mp (Classical.not_not.mp h1)
              have x2 : ¬ 9 < f.d := fun z => h2 ((vl_I_lt (a := 9) (b := f.d) (by decide) bd).mpr z)
              have x3 : ¬ 1 < f.s := fun z => h3 ((vl_I_lt (a := 1) (b := f.s) (by decide) bs).mpr z)
              have y4 : f.o = 0 := (vw_dO ef).symm.trans (congrArg Int32.toInt h4)
              have qa : (0 ≤ (p : Int) + 1 ∧ (p : Int) + 1 < len) := (of_decide_eq_true (vr_b_t h5))
              have ql : ¬ (vc_N (W (p + 1)) % 4294967296) = 0 := fun z => h6 ((vw_lo0 _).mpr z)
              rw [show decide (vf_p0 f (p + 1) len (vc_N (W (p + 1)) % 4294967296) (vc_N (W (p + 1)) / 4294967296)) = false from decide_eq_false (by omega)] at hQ
              exact hQ
        · refine jv_Wp.lift (fun _ Kz => jv_Ev.steps jv_i92 1 (pc' := 40) (l' := [(2, .long (W p)), (0, .ref pr), (1, .int (vl_I p))]) (st' := [.int (0 : Int32)]) rfl Kz) ?_
          refine jv_Wp.of (jv_Ev.ret jv_i92 rfl (jv_ret_b (Or.inl rfl))) ?_
          have x1 : f.code = 24 := (vl_I_inj (a := f.code) (b := 24) (Nat.lt_trans bc (by decide)) (by decide)).mp (Classical.not_not.mp h1)
          have x2 : ¬ 9 < f.d := fun z => h2 ((vl_I_lt (a := 9) (b := f.d) (by decide) bd).mpr z)
          have x3 : ¬ 1 < f.s := fun z => h3 ((vl_I_lt (a := 1) (b := f.s) (by decide) bs).mpr z)
          have y4 : ¬ f.o = 0 := fun z => h4 (Int32.toInt_inj.mp ((vw_dO ef).trans (z.trans rfl)))
          rw [show decide (vf_p0 f (p + 1) len (vc_N (W (p + 1)) % 4294967296) (vc_N (W (p + 1)) / 4294967296)) = false from decide_eq_false (by omega)] at hQ
          exact hQ
theorem vc_isWide {K : Nat → Option (Nat × Nat)} {I : Nat → Nat → Int32} {L : Nat → Nat → Int64} {R : Nat → Nat → Value} {pr ws len : Nat} {W : Nat → Int64} (hP : vc_P K L R pr ws len W) {p : Nat} (hp : p < len) {f : vf_F} (ef : vc_F (W p) = f) {n sl : Nat} : jv_Ms 92 [.ref pr, .int (vl_I p)] (jv_H K I L R) n sl (some (.int (vr_b (decide (vf_p0 f (p + 1) len (vc_N (W (p + 1)) % 4294967296) (vc_N (W (p + 1)) / 4294967296))))), jv_H K I L R, n, sl) := by
  have h := vc_isWide_ (I := I) (n := n) (sl := sl) hP hp ef rfl (Q := fun X => X = (some (.int (vr_b (decide (vf_p0 f (p + 1) len (vc_N (W (p + 1)) % 4294967296) (vc_N (W (p + 1)) / 4294967296))))), jv_H K I L R, n, sl)) rfl
  obtain ⟨X, h, e⟩ := h
  subst e
  exact h