/-! part e10: the form of a word, as the class tests it (gen/te10.py) -/
theorem vw_dc {w : Int64} {f : vf_F} (ef : vc_F w = f) : f.code < 256 := by subst ef; exact Nat.mod_lt _ (by decide)
theorem vw_dd {w : Int64} {f : vf_F} (ef : vc_F w = f) : f.d < 16 := by subst ef; exact Nat.mod_lt _ (by decide)
theorem vw_ds {w : Int64} {f : vf_F} (ef : vc_F w = f) : f.s < 16 := by subst ef; exact Nat.mod_lt _ (by decide)
theorem vw_eO {w : Int64} {f : vf_F} (ef : vc_F w = f) : jv_wfoffset w = Int32.ofInt f.o := by subst ef; exact (Int32.ofInt_toInt _).symm
theorem vw_eQ {w : Int64} {f : vf_F} (ef : vc_F w = f) : jv_wfimmediate w = Int32.ofInt f.i := by subst ef; exact (Int32.ofInt_toInt _).symm
theorem vw_dO {w : Int64} {f : vf_F} (ef : vc_F w = f) : (Int32.ofInt f.o).toInt = f.o := by rw [← vw_eO ef]; subst ef; rfl
theorem vw_dQ {w : Int64} {f : vf_F} (ef : vc_F w = f) : (Int32.ofInt f.i).toInt = f.i := by rw [← vw_eQ ef]; subst ef; rfl
theorem vw_f80 {w : Int64} {f : vf_F} (ef : vc_F w = f) {G : jv_G} {n sl : Nat} : jv_Ms 80 [.long w] G n sl (some (.int (vl_I f.code)), G, n, sl) := by subst ef; exact vw_m80 w
theorem vw_f81 {w : Int64} {f : vf_F} (ef : vc_F w = f) {G : jv_G} {n sl : Nat} : jv_Ms 81 [.long w] G n sl (some (.int (vl_I f.kind)), G, n, sl) := by subst ef; exact vw_m81 w
theorem vw_f82 {w : Int64} {f : vf_F} (ef : vc_F w = f) {G : jv_G} {n sl : Nat} : jv_Ms 82 [.long w] G n sl (some (.int (vl_I f.n)), G, n, sl) := by subst ef; exact vw_m82 w
theorem vw_f83 {w : Int64} {f : vf_F} (ef : vc_F w = f) {G : jv_G} {n sl : Nat} : jv_Ms 83 [.long w] G n sl (some (.int (vr_b f.bit3)), G, n, sl) := by subst ef; exact vw_m83 w
theorem vw_f84 {w : Int64} {f : vf_F} (ef : vc_F w = f) {G : jv_G} {n sl : Nat} : jv_Ms 84 [.long w] G n sl (some (.int (vl_I f.mode)), G, n, sl) := by subst ef; exact vw_m84 w
theorem vw_f85 {w : Int64} {f : vf_F} (ef : vc_F w = f) {G : jv_G} {n sl : Nat} : jv_Ms 85 [.long w] G n sl (some (.int (vl_I f.z)), G, n, sl) := by subst ef; exact vw_m85 w
theorem vw_f86 {w : Int64} {f : vf_F} (ef : vc_F w = f) {G : jv_G} {n sl : Nat} : jv_Ms 86 [.long w] G n sl (some (.int (vl_I f.d)), G, n, sl) := by subst ef; exact vw_m86 w
theorem vw_f87 {w : Int64} {f : vf_F} (ef : vc_F w = f) {G : jv_G} {n sl : Nat} : jv_Ms 87 [.long w] G n sl (some (.int (vl_I f.s)), G, n, sl) := by subst ef; exact vw_m87 w
theorem vw_f88 {w : Int64} {f : vf_F} (ef : vc_F w = f) {G : jv_G} {n sl : Nat} : jv_Ms 88 [.long w] G n sl (some (.int (Int32.ofInt f.o)), G, n, sl) := by have h := jv_s88 (G := G) (n := n) (sl := sl) w; rw [vw_eO ef] at h; exact h
theorem vw_f89 {w : Int64} {f : vf_F} (ef : vc_F w = f) {G : jv_G} {n sl : Nat} : jv_Ms 89 [.long w] G n sl (some (.int (Int32.ofInt f.i)), G, n, sl) := by have h := jv_s89 (G := G) (n := n) (sl := sl) w; rw [vw_eQ ef] at h; exact h
theorem jv_i93 : jv_I 93 3 (some .boolean) 1 22 jv_c93 := ⟨rfl, rfl, rfl, rfl, rfl⟩
theorem vc_isLoad_ {K : Nat → Option (Nat × Nat)} {I : Nat → Nat → Int32} {L : Nat → Nat → Int64} {R : Nat → Nat → Value} {w : Int64} {f : vf_F} (ef : vc_F w = f)  {n sl : Nat} {Q : jv_R → Prop} (hQ : Q (some (.int (vr_b (decide (vf_p1 f)))), jv_H K I L R, n, sl)) : jv_Wp 93 0 [(0, .long w)] [] (jv_H K I L R) n sl Q := by
  have c1 := vw_dc ef
  have c2 := vw_dd ef
  have c3 := vw_ds ef
  have c4 : f.n = f.code / 16 := rfl
  have c5 : f.kind = f.code % 8 := rfl
  have c6 : f.mode = f.code / 32 := rfl
  have c7 := vf_z f
  have bn : f.n < 2147483648 := by omega
  have bk : f.kind < 2147483648 := by omega
  have bm : f.mode < 2147483648 := by omega
  have bz : f.z < 2147483648 := by omega
  have bc : f.code < 2147483648 := by omega
  have bd : f.d < 2147483648 := by omega
  have bs : f.s < 2147483648 := by omega
  refine jv_Wp.lift (fun _ Kz => jv_Ev.steps jv_i93 1 (pc' := 1) (l' := [(0, .long w)]) (st' := [.long w]) rfl Kz) ?_
  refine jv_Wp.lift (fun _ Kz => jv_Ev.c jv_i93 (pc' := 4) (S' := [.int (vl_I f.mode)]) jv_i84 [.long w] rfl rfl rfl rfl rfl rfl (vw_f84 ef) rfl rfl Kz) ?_
  refine jv_Wp.lift (fun _ Kz => jv_Ev.steps jv_i93 1 (pc' := 5) (l' := [(0, .long w)]) (st' := [.int (3 : Int32), .int (vl_I f.mode)]) rfl Kz) ?_
  refine jv_Wp.cnd jv_i93 (pt := 25) (pe := 8) (p := ((vl_I f.mode) = (3 : Int32))) (q := ((vl_I f.mode) = (3 : Int32))) rfl jv_bc_eq rfl rfl Iff.rfl (fun h1 => ?_) (fun h1 => ?_)
  · refine jv_Wp.lift (fun _ Kz => jv_Ev.steps jv_i93 4 (pc' := 32) (l' := [(2, .int (1 : Int32)), (0, .long w)]) (st' := [.int (1 : Int32)]) rfl Kz) ?_
    refine jv_Wp.lift (fun _ Kz => jv_Ev.br jv_i93 (pc' := 35) (st' := []) rfl (by rfl) Kz) ?_
    refine jv_Wp.lift (fun _ Kz => jv_Ev.steps jv_i93 1 (pc' := 36) (l' := [(2, .int (1 : Int32)), (0, .long w)]) (st' := [.long w]) rfl Kz) ?_
    refine jv_Wp.lift (fun _ Kz => jv_Ev.c jv_i93 (pc' := 39) (S' := [.int (vl_I f.d)]) jv_i86 [.long w] rfl rfl rfl rfl rfl rfl (vw_f86 ef) rfl rfl Kz) ?_
    refine jv_Wp.lift (fun _ Kz => jv_Ev.steps jv_i93 1 (pc' := 41) (l' := [(2, .int (1 : Int32)), (0, .long w)]) (st' := [.int (9 : Int32), .int (vl_I f.d)]) rfl Kz) ?_
    refine jv_Wp.cnd jv_i93 (pt := 64) (pe := 44) (p := ((9 : Int32) < (vl_I f.d))) (q := ((9 : Int32) < (vl_I f.d))) rfl jv_bc_gt rfl rfl Iff.rfl (fun h2 => ?_) (fun h2 => ?_)
    · refine jv_Wp.lift (fun _ Kz => jv_Ev.steps jv_i93 1 (pc' := 65) (l' := [(2, .int (1 : Int32)), (0, .long w)]) (st' := [.int (0 : Int32)]) rfl Kz) ?_
      refine jv_Wp.of (jv_Ev.ret jv_i93 rfl (jv_ret_b (Or.inl rfl))) ?_
      have x1 : f.mode = 3 := (vl_I_inj (a := f.mode) (b := 3) (Nat.lt_trans bm (by decide)) (by decide)).mp h1
      have x2 : 9 < f.d := (vl_I_lt (a := 9) (b := f.d) (by decide) bd).mp h2
      have ev : decide (vf_p1 f) = false := decide_eq_false (by omega)
      rw [ev] at hQ
      exact hQ
    · refine jv_Wp.lift (fun _ Kz => jv_Ev.steps jv_i93 1 (pc' := 45) (l' := [(2, .int (1 : Int32)), (0, .long w)]) (st' := [.long w]) rfl Kz) ?_
      refine jv_Wp.lift (fun _ Kz => jv_Ev.c jv_i93 (pc' := 48) (S' := [.int (vl_I f.s)]) jv_i87 [.long w] rfl rfl rfl rfl rfl rfl (vw_f87 ef) rfl rfl Kz) ?_
      refine jv_Wp.lift (fun _ Kz => jv_Ev.steps jv_i93 1 (pc' := 50) (l' := [(2, .int (1 : Int32)), (0, .long w)]) (st' := [.int (11 : Int32), .int (vl_I f.s)]) rfl Kz) ?_
      refine jv_Wp.cnd jv_i93 (pt := 64) (pe := 53) (p := ((11 : Int32) ≤ (vl_I f.s))) (q := ((11 : Int32) ≤ (vl_I f.s))) rfl jv_bc_ge rfl rfl Iff.rfl (fun h3 => ?_) (fun h3 => ?_)
      · refine jv_Wp.lift (fun _ Kz => jv_Ev.steps jv_i93 1 (pc' := 65) (l' := [(2, .int (1 : Int32)), (0, .long w)]) (st' := [.int (0 : Int32)]) rfl Kz) ?_
        refine jv_Wp.of (jv_Ev.ret jv_i93 rfl (jv_ret_b (Or.inl rfl))) ?_
        have x1 : f.mode = 3 := (vl_I_inj (a := f.mode) (b := 3) (Nat.lt_trans bm (by decide)) (by decide)).mp h1
        have x2 : ¬ 9 < f.d := fun z => h2 ((vl_I_lt (a := 9) (b := f.d) (by decide) bd).mpr z)
        have x3 : 11 ≤ f.s := (vl_I_le (a := 11) (b := f.s) (by decide) bs).mp h3
        have ev : decide (vf_p1 f) = false := decide_eq_false (by omega)
        rw [ev] at hQ
        exact hQ
      · refine jv_Wp.lift (fun _ Kz => jv_Ev.steps jv_i93 1 (pc' := 54) (l' := [(2, .int (1 : Int32)), (0, .long w)]) (st' := [.long w]) rfl Kz) ?_
        refine jv_Wp.lift (fun _ Kz => jv_Ev.c jv_i93 (pc' := 57) (S' := [.int (Int32.ofInt f.i)]) jv_i89 [.long w] rfl rfl rfl rfl rfl rfl (vw_f89 ef) rfl rfl Kz) ?_
        refine jv_Wp.cnd jv_i93 (pt := 64) (pe := 60) (p := (¬ (Int32.ofInt f.i) = 0)) (q := (¬ (Int32.ofInt f.i) = 0)) rfl jv_bi_ne rfl rfl Iff.rfl (fun h4 => ?_) (fun h4 => ?_)
        · refine jv_Wp.lift (fun _ Kz => jv_Ev.steps jv_i93 1 (pc' := 65) (l' := [(2, .int (1 : Int32)), (0, .long w)]) (st' := [.int (0 : Int32)]) rfl Kz) ?_
          refine jv_Wp.of (jv_Ev.ret jv_i93 rfl (jv_ret_b (Or.inl rfl))) ?_
          have x1 : f.mode = 3 := (vl_I_inj (a := f.mode) (b := 3) (Nat.lt_trans bm (by decide)) (by decide)).mp h1
          have x2 : ¬ 9 < f.d := fun z => h2 ((vl_I_lt (a := 9) (b := f.d) (by decide) bd).mpr z)
          have x3 : ¬ 11 ≤ f.s := fun z => h3 ((vl_I_le (a := 11) (b := f.s) (by decide) bs).mpr z)
          have y4 : ¬ f.i = 0 := fun z => h4 (Int32.toInt_inj.mp ((vw_dQ ef).trans (z.trans rfl)))
          have ev : decide (vf_p1 f) = false := decide_eq_false (by omega)
          rw [ev] at hQ
          exact hQ
        · refine jv_Wp.lift (fun _ Kz => jv_Ev.steps jv_i93 2 (pc' := 65) (l' := [(2, .int (1 : Int32)), (0, .long w)]) (st' := [.int (1 : Int32)]) rfl Kz) ?_
          refine jv_Wp.of (jv_Ev.ret jv_i93 rfl (jv_ret_b (Or.inr rfl))) ?_
          have x1 : f.mode = 3 := (vl_I_inj (a := f.mode) (b := 3) (Nat.lt_trans bm (by decide)) (by decide)).mp h1
          have x2 : ¬ 9 < f.d := fun z => h2 ((vl_I_lt (a := 9) (b := f.d) (by decide) bd).mpr z)
          have x3 : ¬ 11 ≤ f.s := fun z => h3 ((vl_I_le (a := 11) (b := f.s) (by decide) bs).mpr z)
          have y4 : f.i = 0 := (vw_dQ ef).symm.trans (congrArg Int32.toInt (Classical.not_not.mp h4))
          have ev : decide (vf_p1 f) = true := decide_eq_true (by omega)
          rw [ev] at hQ
          exact hQ
  · refine jv_Wp.lift (fun _ Kz => jv_Ev.steps jv_i93 1 (pc' := 9) (l' := [(0, .long w)]) (st' := [.long w]) rfl Kz) ?_
    refine jv_Wp.lift (fun _ Kz => jv_Ev.c jv_i93 (pc' := 12) (S' := [.int (vl_I f.mode)]) jv_i84 [.long w] rfl rfl rfl rfl rfl rfl (vw_f84 ef) rfl rfl Kz) ?_
    refine jv_Wp.lift (fun _ Kz => jv_Ev.steps jv_i93 1 (pc' := 13) (l' := [(0, .long w)]) (st' := [.int (4 : Int32), .int (vl_I f.mode)]) rfl Kz) ?_
    refine jv_Wp.cnd jv_i93 (pt := 29) (pe := 16) (p := (¬ (vl_I f.mode) = (4 : Int32))) (q := (¬ (vl_I f.mode) = (4 : Int32))) rfl jv_bc_ne rfl rfl Iff.rfl (fun h5 => ?_) (fun h5 => ?_)
    · refine jv_Wp.lift (fun _ Kz => jv_Ev.steps jv_i93 3 (pc' := 32) (l' := [(2, .int (0 : Int32)), (0, .long w)]) (st' := [.int (0 : Int32)]) rfl Kz) ?_
      refine jv_Wp.lift (fun _ Kz => jv_Ev.br jv_i93 (pc' := 64) (st' := []) rfl (by rfl) Kz) ?_
      refine jv_Wp.lift (fun _ Kz => jv_Ev.steps jv_i93 1 (pc' := 65) (l' := [(2, .int (0 : Int32)), (0, .long w)]) (st' := [.int (0 : Int32)]) rfl Kz) ?_
      refine jv_Wp.of (jv_Ev.ret jv_i93 rfl (jv_ret_b (Or.inl rfl))) ?_
      have x1 : ¬ f.mode = 3 := fun z => h1 ((vl_I_inj (a := f.mode) (b := 3) (Nat.lt_trans bm (by decide)) (by decide)).mpr z)
      have x2 : ¬ f.mode = 4 := fun z => h5 ((vl_I_inj (a := f.mode) (b := 4) (Nat.lt_trans bm (by decide)) (by decide)).mpr z)
      have ev : decide (vf_p1 f) = false := decide_eq_false (by omega)
      rw [ev] at hQ
      exact hQ
    · refine jv_Wp.lift (fun _ Kz => jv_Ev.steps jv_i93 1 (pc' := 17) (l' := [(0, .long w)]) (st' := [.long w]) rfl Kz) ?_
      refine jv_Wp.lift (fun _ Kz => jv_Ev.c jv_i93 (pc' := 20) (S' := [.int (vl_I f.z)]) jv_i85 [.long w] rfl rfl rfl rfl rfl rfl (vw_f85 ef) rfl rfl Kz) ?_
      refine jv_Wp.lift (fun _ Kz => jv_Ev.steps jv_i93 1 (pc' := 22) (l' := [(0, .long w)]) (st' := [.int (8 : Int32), .int (vl_I f.z)]) rfl Kz) ?_
      refine jv_Wp.cnd jv_i93 (pt := 29) (pe := 25) (p := ((8 : Int32) ≤ (vl_I f.z))) (q := ((8 : Int32) ≤ (vl_I f.z))) rfl jv_bc_ge rfl rfl Iff.rfl (fun h6 => ?_) (fun h6 => ?_)
      · refine jv_Wp.lift (fun _ Kz => jv_Ev.steps jv_i93 3 (pc' := 32) (l' := [(2, .int (0 : Int32)), (0, .long w)]) (st' := [.int (0 : Int32)]) rfl Kz) ?_
        refine jv_Wp.lift (fun _ Kz => jv_Ev.br jv_i93 (pc' := 64) (st' := []) rfl (by rfl) Kz) ?_
        refine jv_Wp.lift (fun _ Kz => jv_Ev.steps jv_i93 1 (pc' := 65) (l' := [(2, .int (0 : Int32)), (0, .long w)]) (st' := [.int (0 : Int32)]) rfl Kz) ?_
        refine jv_Wp.of (jv_Ev.ret jv_i93 rfl (jv_ret_b (Or.inl rfl))) ?_
        have x1 : ¬ f.mode = 3 := fun z => h1 ((vl_I_inj (a := f.mode) (b := 3) (Nat.lt_trans bm (by decide)) (by decide)).mpr z)
        have x2 : f.mode = 4 := (vl_I_inj (a := f.mode) (b := 4) (Nat.lt_trans bm (by decide)) (by decide)).mp (Classical.not_not.mp h5)
        have x3 : 8 ≤ f.z := (vl_I_le (a := 8) (b := f.z) (by decide) bz).mp h6
        have ev : decide (vf_p1 f) = false := decide_eq_false (by omega)
        rw [ev] at hQ
        exact hQ
      · refine jv_Wp.lift (fun _ Kz => jv_Ev.steps jv_i93 4 (pc' := 32) (l' := [(2, .int (1 : Int32)), (0, .long w)]) (st' := [.int (1 : Int32)]) rfl Kz) ?_
        refine jv_Wp.lift (fun _ Kz => jv_Ev.br jv_i93 (pc' := 35) (st' := []) rfl (by rfl) Kz) ?_
        refine jv_Wp.lift (fun _ Kz => jv_Ev.steps jv_i93 1 (pc' := 36) (l' := [(2, .int (1 : Int32)), (0, .long w)]) (st' := [.long w]) rfl Kz) ?_
        refine jv_Wp.lift (fun _ Kz => jv_Ev.c jv_i93 (pc' := 39) (S' := [.int (vl_I f.d)]) jv_i86 [.long w] rfl rfl rfl rfl rfl rfl (vw_f86 ef) rfl rfl Kz) ?_
        refine jv_Wp.lift (fun _ Kz => jv_Ev.steps jv_i93 1 (pc' := 41) (l' := [(2, .int (1 : Int32)), (0, .long w)]) (st' := [.int (9 : Int32), .int (vl_I f.d)]) rfl Kz) ?_
        refine jv_Wp.cnd jv_i93 (pt := 64) (pe := 44) (p := ((9 : Int32) < (vl_I f.d))) (q := ((9 : Int32) < (vl_I f.d))) rfl jv_bc_gt rfl rfl Iff.rfl (fun h7 => ?_) (fun h7 => ?_)
        · refine jv_Wp.lift (fun _ Kz => jv_Ev.steps jv_i93 1 (pc' := 65) (l' := [(2, .int (1 : Int32)), (0, .long w)]) (st' := [.int (0 : Int32)]) rfl Kz) ?_
          refine jv_Wp.of (jv_Ev.ret jv_i93 rfl (jv_ret_b (Or.inl rfl))) ?_
          have x1 : ¬ f.mode = 3 := fun z => h1 ((vl_I_inj (a := f.mode) (b := 3) (Nat.lt_trans bm (by decide)) (by decide)).mpr z)
          have x2 : f.mode = 4 := (vl_I_inj (a := f.mode) (b := 4) (Nat.lt_trans bm (by decide)) (by decide)).mp (Classical.not_not.mp h5)
          have x3 : ¬ 8 ≤ f.z := fun z => h6 ((vl_I_le (a := 8) (b := f.z) (by decide) bz).mpr z)
          have x4 : 9 < f.d := (vl_I_lt (a := 9) (b := f.d) (by decide) bd).mp h7
          have ev : decide (vf_p1 f) = false := decide_eq_false (by omega)
          rw [ev] at hQ
          exact hQ
        · refine jv_Wp.lift (fun _ Kz => jv_Ev.steps jv_i93 1 (pc' := 45) (l' := [(2, .int (1 : Int32)), (0, .long w)]) (st' := [.long w]) rfl Kz) ?_
          refine jv_Wp.lift (fun _ Kz => jv_Ev.c jv_i93 (pc' := 48) (S' := [.int (vl_I f.s)]) jv_i87 [.long w] rfl rfl rfl rfl rfl rfl (vw_f87 ef) rfl rfl Kz) ?_
          refine jv_Wp.lift (fun _ Kz => jv_Ev.steps jv_i93 1 (pc' := 50) (l' := [(2, .int (1 : Int32)), (0, .long w)]) (st' := [.int (11 : Int32), .int (vl_I f.s)]) rfl Kz) ?_
          refine jv_Wp.cnd jv_i93 (pt := 64) (pe := 53) (p := ((11 : Int32) ≤ (vl_I f.s))) (q := ((11 : Int32) ≤ (vl_I f.s))) rfl jv_bc_ge rfl rfl Iff.rfl (fun h8 => ?_) (fun h8 => ?_)
          · refine jv_Wp.lift (fun _ Kz => jv_Ev.steps jv_i93 1 (pc' := 65) (l' := [(2, .int (1 : Int32)), (0, .long w)]) (st' := [.int (0 : Int32)]) rfl Kz) ?_
            refine jv_Wp.of (jv_Ev.ret jv_i93 rfl (jv_ret_b (Or.inl rfl))) ?_
            have x1 : ¬ f.mode = 3 := fun z => h1 ((vl_I_inj (a := f.mode) (b := 3) (Nat.lt_trans bm (by decide)) (by decide)).mpr z)
            have x2 : f.mode = 4 := (vl_I_inj (a := f.mode) (b := 4) (Nat.lt_trans bm (by decide)) (by decide)).mp (Classical.not_not.mp h5)
            have x3 : ¬ 8 ≤ f.z := fun z => h6 ((vl_I_le (a := 8) (b := f.z) (by decide) bz).mpr z)
            have x4 : ¬ 9 < f.d := fun z => h7 ((vl_I_lt (a := 9) (b := f.d) (by decide) bd).mpr z)
            have x5 : 11 ≤ f.s := (vl_I_le (a := 11) (b := f.s) (by decide) bs).mp h8
            have ev : decide (vf_p1 f) = false := decide_eq_false (by omega)
            rw [ev] at hQ
            exact hQ
          · refine jv_Wp.lift (fun _ Kz => jv_Ev.steps jv_i93 1 (pc' := 54) (l' := [(2, .int (1 : Int32)), (0, .long w)]) (st' := [.long w]) rfl Kz) ?_
            refine jv_Wp.lift (fun _ Kz => jv_Ev.c jv_i93 (pc' := 57) (S' := [.int (Int32.ofInt f.i)]) jv_i89 [.long w] rfl rfl rfl rfl rfl rfl (vw_f89 ef) rfl rfl Kz) ?_
            refine jv_Wp.cnd jv_i93 (pt := 64) (pe := 60) (p := (¬ (Int32.ofInt f.i) = 0)) (q := (¬ (Int32.ofInt f.i) = 0)) rfl jv_bi_ne rfl rfl Iff.rfl (fun h9 => ?_) (fun h9 => ?_)
            · refine jv_Wp.lift (fun _ Kz => jv_Ev.steps jv_i93 1 (pc' := 65) (l' := [(2, .int (1 : Int32)), (0, .long w)]) (st' := [.int (0 : Int32)]) rfl Kz) ?_
              refine jv_Wp.of (jv_Ev.ret jv_i93 rfl (jv_ret_b (Or.inl rfl))) ?_
              have x1 : ¬ f.mode = 3 := fun z => h1 ((vl_I_inj (a := f.mode) (b := 3) (Nat.lt_trans bm (by decide)) (by decide)).mpr z)
              have x2 : f.mode = 4 := (vl_I_inj (a := f.mode) (b := 4) (Nat.lt_trans bm (by decide)) (by decide)).mp (Classical.not_not.mp h5)
              have x3 : ¬ 8 ≤ f.z := fun z => h6 ((vl_I_le (a := 8) (b := f.z) (by decide) bz).mpr z)
              have x4 : ¬ 9 < f.d := fun z => h7 ((vl_I_lt (a := 9) (b := f.d) (by decide) bd).mpr z)
              have x5 : ¬ 11 ≤ f.s := fun z => h8 ((vl_I_le (a := 11) (b := f.s) (by decide) bs).mpr z)
              have y6 : ¬ f.i = 0 := fun z => h9 (Int32.toInt_inj.mp ((vw_dQ ef).trans (z.trans rfl)))
              have ev : decide (vf_p1 f) = false := decide_eq_false (by omega)
              rw [ev] at hQ
              exact hQ
            · refine jv_Wp.lift (fun _ Kz => jv_Ev.steps jv_i93 2 (pc' := 65) (l' := [(2, .int (1 : Int32)), (0, .long w)]) (st' := [.int (1 : Int32)]) rfl Kz) ?_
              refine jv_Wp.of (jv_Ev.ret jv_i93 rfl (jv_ret_b (Or.inr rfl))) ?_
              have x1 : ¬ f.mode = 3 := fun z => h1 ((vl_I_inj (a := f.mode) (b := 3) (Nat.lt_trans bm (by decide)) (by decide)).mpr z)
              have x2 : f.mode = 4 := (vl_I_inj (a := f.mode) (b := 4) (Nat.lt_trans bm (by decide)) (by decide)).mp (Classical.not_not.mp h5)
              have x3 : ¬ 8 ≤ f.z := fun z => h6 ((vl_I_le (a := 8) (b := f.z) (by decide) bz).mpr z)
              have x4 : ¬ 9 < f.d := fun z => h7 ((vl_I_lt (a := 9) (b := f.d) (by decide) bd).mpr z)
              have x5 : ¬ 11 ≤ f.s := fun z => h8 ((vl_I_le (a := 11) (b := f.s) (by decide) bs).mpr z)
              have y6 : f.i = 0 := (vw_dQ ef).symm.trans (congrArg Int32.toInt (Classical.not_not.mp h9))
              have ev : decide (vf_p1 f) = true := decide_eq_true (by omega)
              rw [ev] at hQ
              exact hQ
theorem vc_isLoad {K : Nat → Option (Nat × Nat)} {I : Nat → Nat → Int32} {L : Nat → Nat → Int64} {R : Nat → Nat → Value} {w : Int64} {f : vf_F} (ef : vc_F w = f)  {n sl : Nat} : jv_Ms 93 [.long w] (jv_H K I L R) n sl (some (.int (vr_b (decide (vf_p1 f)))), jv_H K I L R, n, sl) := by
  have h := vc_isLoad_ (n := n) (sl := sl) (K := K) (I := I) (L := L) (R := R) ef  (Q := fun X => X = (some (.int (vr_b (decide (vf_p1 f)))), jv_H K I L R, n, sl)) rfl
  obtain ⟨X, h, e⟩ := h
  subst e
  exact h
theorem jv_i94 : jv_I 94 2 (some .boolean) 1 21 jv_c94 := ⟨rfl, rfl, rfl, rfl, rfl⟩
theorem vc_isStore_ {K : Nat → Option (Nat × Nat)} {I : Nat → Nat → Int32} {L : Nat → Nat → Int64} {R : Nat → Nat → Value} {w : Int64} {f : vf_F} (ef : vc_F w = f)  {n sl : Nat} {Q : jv_R → Prop} (hQ : Q (some (.int (vr_b (decide (f.mode = 3 ∧ f.i = 0 ∧ f.d < 11 ∧ f.s < 11)))), jv_H K I L R, n, sl)) : jv_Wp 94 0 [(0, .long w)] [] (jv_H K I L R) n sl Q := by
  have c1 := vw_dc ef
  have c2 := vw_dd ef
  have c3 := vw_ds ef
  have c4 : f.n = f.code / 16 := rfl
  have c5 : f.kind = f.code % 8 := rfl
  have c6 : f.mode = f.code / 32 := rfl
  have c7 := vf_z f
  have bn : f.n < 2147483648 := by omega
  have bk : f.kind < 2147483648 := by omega
  have bm : f.mode < 2147483648 := by omega
  have bz : f.z < 2147483648 := by omega
  have bc : f.code < 2147483648 := by omega
  have bd : f.d < 2147483648 := by omega
  have bs : f.s < 2147483648 := by omega
  refine jv_Wp.lift (fun _ Kz => jv_Ev.steps jv_i94 1 (pc' := 1) (l' := [(0, .long w)]) (st' := [.long w]) rfl Kz) ?_
  refine jv_Wp.lift (fun _ Kz => jv_Ev.c jv_i94 (pc' := 4) (S' := [.int (vl_I f.mode)]) jv_i84 [.long w] rfl rfl rfl rfl rfl rfl (vw_f84 ef) rfl rfl Kz) ?_
  refine jv_Wp.lift (fun _ Kz => jv_Ev.steps jv_i94 1 (pc' := 5) (l' := [(0, .long w)]) (st' := [.int (3 : Int32), .int (vl_I f.mode)]) rfl Kz) ?_
  refine jv_Wp.cnd jv_i94 (pt := 37) (pe := 8) (p := (¬ (vl_I f.mode) = (3 : Int32))) (q := (¬ (vl_I f.mode) = (3 : Int32))) rfl jv_bc_ne rfl rfl Iff.rfl (fun h1 => ?_) (fun h1 => ?_)
  · refine jv_Wp.lift (fun _ Kz => jv_Ev.steps jv_i94 1 (pc' := 38) (l' := [(0, .long w)]) (st' := [.int (0 : Int32)]) rfl Kz) ?_
    refine jv_Wp.of (jv_Ev.ret jv_i94 rfl (jv_ret_b (Or.inl rfl))) ?_
    have x1 : ¬ f.mode = 3 := fun z => h1 ((vl_I_inj (a := f.mode) (b := 3) (Nat.lt_trans bm (by decide)) (by decide)).mpr z)
    have ev : decide (f.mode = 3 ∧ f.i = 0 ∧ f.d < 11 ∧ f.s < 11) = false := decide_eq_false (by omega)
    rw [ev] at hQ
    exact hQ
  · refine jv_Wp.lift (fun _ Kz => jv_Ev.steps jv_i94 1 (pc' := 9) (l' := [(0, .long w)]) (st' := [.long w]) rfl Kz) ?_
    refine jv_Wp.lift (fun _ Kz => jv_Ev.c jv_i94 (pc' := 12) (S' := [.int (vl_I f.d)]) jv_i86 [.long w] rfl rfl rfl rfl rfl rfl (vw_f86 ef) rfl rfl Kz) ?_
    refine jv_Wp.lift (fun _ Kz => jv_Ev.steps jv_i94 1 (pc' := 14) (l' := [(0, .long w)]) (st' := [.int (11 : Int32), .int (vl_I f.d)]) rfl Kz) ?_
    refine jv_Wp.cnd jv_i94 (pt := 37) (pe := 17) (p := ((11 : Int32) ≤ (vl_I f.d))) (q := ((11 : Int32) ≤ (vl_I f.d))) rfl jv_bc_ge rfl rfl Iff.rfl (fun h2 => ?_) (fun h2 => ?_)
    · refine jv_Wp.lift (fun _ Kz => jv_Ev.steps jv_i94 1 (pc' := 38) (l' := [(0, .long w)]) (st' := [.int (0 : Int32)]) rfl Kz) ?_
      refine jv_Wp.of (jv_Ev.ret jv_i94 rfl (jv_ret_b (Or.inl rfl))) ?_
      have x1 : f.mode = 3 := (vl_I_inj (a := f.mode) (b := 3) (Nat.lt_trans bm (by decide)) (by decide)).mp (Classical.not_not.mp h1)
      have x2 : 11 ≤ f.d := (vl_I_le (a := 11) (b := f.d) (by decide) bd).mp h2
      have ev : decide (f.mode = 3 ∧ f.i = 0 ∧ f.d < 11 ∧ f.s < 11) = false := decide_eq_false (by omega)
      rw [ev] at hQ
      exact hQ
    · refine jv_Wp.lift (fun _ Kz => jv_Ev.steps jv_i94 1 (pc' := 18) (l' := [(0, .long w)]) (st' := [.long w]) rfl Kz) ?_
      refine jv_Wp.lift (fun _ Kz => jv_Ev.c jv_i94 (pc' := 21) (S' := [.int (vl_I f.s)]) jv_i87 [.long w] rfl rfl rfl rfl rfl rfl (vw_f87 ef) rfl rfl Kz) ?_
      refine jv_Wp.lift (fun _ Kz => jv_Ev.steps jv_i94 1 (pc' := 23) (l' := [(0, .long w)]) (st' := [.int (11 : Int32), .int (vl_I f.s)]) rfl Kz) ?_
      refine jv_Wp.cnd jv_i94 (pt := 37) (pe := 26) (p := ((11 : Int32) ≤ (vl_I f.s))) (q := ((11 : Int32) ≤ (vl_I f.s))) rfl jv_bc_ge rfl rfl Iff.rfl (fun h3 => ?_) (fun h3 => ?_)
      · refine jv_Wp.lift (fun _ Kz => jv_Ev.steps jv_i94 1 (pc' := 38) (l' := [(0, .long w)]) (st' := [.int (0 : Int32)]) rfl Kz) ?_
        refine jv_Wp.of (jv_Ev.ret jv_i94 rfl (jv_ret_b (Or.inl rfl))) ?_
        have x1 : f.mode = 3 := (vl_I_inj (a := f.mode) (b := 3) (Nat.lt_trans bm (by decide)) (by decide)).mp (Classical.not_not.mp h1)
        have x2 : ¬ 11 ≤ f.d := fun z => h2 ((vl_I_le (a := 11) (b := f.d) (by decide) bd).mpr z)
        have x3 : 11 ≤ f.s := (vl_I_le (a := 11) (b := f.s) (by decide) bs).mp h3
        have ev : decide (f.mode = 3 ∧ f.i = 0 ∧ f.d < 11 ∧ f.s < 11) = false := decide_eq_false (by omega)
        rw [ev] at hQ
        exact hQ
      · refine jv_Wp.lift (fun _ Kz => jv_Ev.steps jv_i94 1 (pc' := 27) (l' := [(0, .long w)]) (st' := [.long w]) rfl Kz) ?_
        refine jv_Wp.lift (fun _ Kz => jv_Ev.c jv_i94 (pc' := 30) (S' := [.int (Int32.ofInt f.i)]) jv_i89 [.long w] rfl rfl rfl rfl rfl rfl (vw_f89 ef) rfl rfl Kz) ?_
        refine jv_Wp.cnd jv_i94 (pt := 37) (pe := 33) (p := (¬ (Int32.ofInt f.i) = 0)) (q := (¬ (Int32.ofInt f.i) = 0)) rfl jv_bi_ne rfl rfl Iff.rfl (fun h4 => ?_) (fun h4 => ?_)
        · refine jv_Wp.lift (fun _ Kz => jv_Ev.steps jv_i94 1 (pc' := 38) (l' := [(0, .long w)]) (st' := [.int (0 : Int32)]) rfl Kz) ?_
          refine jv_Wp.of (jv_Ev.ret jv_i94 rfl (jv_ret_b (Or.inl rfl))) ?_
          have x1 : f.mode = 3 := (vl_I_inj (a := f.mode) (b := 3) (Nat.lt_trans bm (by decide)) (by decide)).mp (Classical.not_not.mp h1)
          have x2 : ¬ 11 ≤ f.d := fun z => h2 ((vl_I_le (a := 11) (b := f.d) (by decide) bd).mpr z)
          have x3 : ¬ 11 ≤ f.s := fun z => h3 ((vl_I_le (a := 11) (b := f.s) (by decide) bs).mpr z)
          have y4 : ¬ f.i = 0 := fun z => h4 (Int32.toInt_inj.mp ((vw_dQ ef).trans (z.trans rfl)))
          have ev : decide (f.mode = 3 ∧ f.i = 0 ∧ f.d < 11 ∧ f.s < 11) = false := decide_eq_false (by omega)
          rw [ev] at hQ
          exact hQ
        · refine jv_Wp.lift (fun _ Kz => jv_Ev.steps jv_i94 2 (pc' := 38) (l' := [(0, .long w)]) (st' := [.int (1 : Int32)]) rfl Kz) ?_
          refine jv_Wp.of (jv_Ev.ret jv_i94 rfl (jv_ret_b (Or.inr rfl))) ?_
          have x1 : f.mode = 3 := (vl_I_inj (a := f.mode) (b := 3) (Nat.lt_trans bm (by decide)) (by decide)).mp (Classical.not_not.mp h1)
          have x2 : ¬ 11 ≤ f.d := fun z => h2 ((vl_I_le (a := 11) (b := f.d) (by decide) bd).mpr z)
          have x3 : ¬ 11 ≤ f.s := fun z => h3 ((vl_I_le (a := 11) (b := f.s) (by decide) bs).mpr z)
          have y4 : f.i = 0 := (vw_dQ ef).symm.trans (congrArg Int32.toInt (Classical.not_not.mp h4))
          have ev : decide (f.mode = 3 ∧ f.i = 0 ∧ f.d < 11 ∧ f.s < 11) = true := decide_eq_true (by omega)
          rw [ev] at hQ
          exact hQ
theorem vc_isStore {K : Nat → Option (Nat × Nat)} {I : Nat → Nat → Int32} {L : Nat → Nat → Int64} {R : Nat → Nat → Value} {w : Int64} {f : vf_F} (ef : vc_F w = f)  {n sl : Nat} : jv_Ms 94 [.long w] (jv_H K I L R) n sl (some (.int (vr_b (decide (f.mode = 3 ∧ f.i = 0 ∧ f.d < 11 ∧ f.s < 11)))), jv_H K I L R, n, sl) := by
  have h := vc_isStore_ (n := n) (sl := sl) (K := K) (I := I) (L := L) (R := R) ef  (Q := fun X => X = (some (.int (vr_b (decide (f.mode = 3 ∧ f.i = 0 ∧ f.d < 11 ∧ f.s < 11)))), jv_H K I L R, n, sl)) rfl
  obtain ⟨X, h, e⟩ := h
  subst e
  exact h
theorem jv_i95 : jv_I 95 2 (some .boolean) 1 22 jv_c95 := ⟨rfl, rfl, rfl, rfl, rfl⟩
theorem vc_isAtomic_ {K : Nat → Option (Nat × Nat)} {I : Nat → Nat → Int32} {L : Nat → Nat → Int64} {R : Nat → Nat → Value} {w : Int64} {f : vf_F} (ef : vc_F w = f)  {n sl : Nat} {Q : jv_R → Prop} (hQ : Q (some (.int (vr_b (decide (vf_pT f)))), jv_H K I L R, n, sl)) : jv_Wp 95 0 [(0, .long w)] [] (jv_H K I L R) n sl Q := by
  have c1 := vw_dc ef
  have c2 := vw_dd ef
  have c3 := vw_ds ef
  have c4 : f.n = f.code / 16 := rfl
  have c5 : f.kind = f.code % 8 := rfl
  have c6 : f.mode = f.code / 32 := rfl
  have c7 := vf_z f
  have bn : f.n < 2147483648 := by omega
  have bk : f.kind < 2147483648 := by omega
  have bm : f.mode < 2147483648 := by omega
  have bz : f.z < 2147483648 := by omega
  have bc : f.code < 2147483648 := by omega
  have bd : f.d < 2147483648 := by omega
  have bs : f.s < 2147483648 := by omega
  refine jv_Wp.lift (fun _ Kz => jv_Ev.steps jv_i95 1 (pc' := 1) (l' := [(0, .long w)]) (st' := [.long w]) rfl Kz) ?_
  refine jv_Wp.lift (fun _ Kz => jv_Ev.c jv_i95 (pc' := 4) (S' := [.int (vl_I f.z)]) jv_i85 [.long w] rfl rfl rfl rfl rfl rfl (vw_f85 ef) rfl rfl Kz) ?_
  refine jv_Wp.lift (fun _ Kz => jv_Ev.steps jv_i95 1 (pc' := 5) (l' := [(0, .long w)]) (st' := [.int (4 : Int32), .int (vl_I f.z)]) rfl Kz) ?_
  refine jv_Wp.cnd jv_i95 (pt := 26) (pe := 8) (p := ((vl_I f.z) < (4 : Int32))) (q := ((vl_I f.z) < (4 : Int32))) rfl jv_bc_lt rfl rfl Iff.rfl (fun h1 => ?_) (fun h1 => ?_)
  · refine jv_Wp.lift (fun _ Kz => jv_Ev.steps jv_i95 1 (pc' := 27) (l' := [(0, .long w)]) (st' := [.int (0 : Int32)]) rfl Kz) ?_
    refine jv_Wp.of (jv_Ev.ret jv_i95 rfl (jv_ret_b (Or.inl rfl))) ?_
    have x1 : f.z < 4 := (vl_I_lt (a := f.z) (b := 4) bz (by decide)).mp h1
    have ev : decide (vf_pT f) = false := decide_eq_false (by omega)
    rw [ev] at hQ
    exact hQ
  · refine jv_Wp.lift (fun _ Kz => jv_Ev.steps jv_i95 1 (pc' := 9) (l' := [(0, .long w)]) (st' := [.long w]) rfl Kz) ?_
    refine jv_Wp.lift (fun _ Kz => jv_Ev.c jv_i95 (pc' := 12) (S' := [.int (vl_I f.d)]) jv_i86 [.long w] rfl rfl rfl rfl rfl rfl (vw_f86 ef) rfl rfl Kz) ?_
    refine jv_Wp.lift (fun _ Kz => jv_Ev.steps jv_i95 1 (pc' := 14) (l' := [(0, .long w)]) (st' := [.int (11 : Int32), .int (vl_I f.d)]) rfl Kz) ?_
    refine jv_Wp.cnd jv_i95 (pt := 26) (pe := 17) (p := ((11 : Int32) ≤ (vl_I f.d))) (q := ((11 : Int32) ≤ (vl_I f.d))) rfl jv_bc_ge rfl rfl Iff.rfl (fun h2 => ?_) (fun h2 => ?_)
    · refine jv_Wp.lift (fun _ Kz => jv_Ev.steps jv_i95 1 (pc' := 27) (l' := [(0, .long w)]) (st' := [.int (0 : Int32)]) rfl Kz) ?_
      refine jv_Wp.of (jv_Ev.ret jv_i95 rfl (jv_ret_b (Or.inl rfl))) ?_
      have x1 : ¬ f.z < 4 := fun z => h1 ((vl_I_lt (a := f.z) (b := 4) bz (by decide)).mpr z)
      have x2 : 11 ≤ f.d := (vl_I_le (a := 11) (b := f.d) (by decide) bd).mp h2
      have ev : decide (vf_pT f) = false := decide_eq_false (by omega)
      rw [ev] at hQ
      exact hQ
    · refine jv_Wp.lift (fun _ Kz => jv_Ev.steps jv_i95 1 (pc' := 18) (l' := [(0, .long w)]) (st' := [.long w]) rfl Kz) ?_
      refine jv_Wp.lift (fun _ Kz => jv_Ev.c jv_i95 (pc' := 21) (S' := [.int (vl_I f.s)]) jv_i87 [.long w] rfl rfl rfl rfl rfl rfl (vw_f87 ef) rfl rfl Kz) ?_
      refine jv_Wp.lift (fun _ Kz => jv_Ev.steps jv_i95 1 (pc' := 23) (l' := [(0, .long w)]) (st' := [.int (11 : Int32), .int (vl_I f.s)]) rfl Kz) ?_
      refine jv_Wp.cnd jv_i95 (pt := 28) (pe := 26) (p := ((vl_I f.s) < (11 : Int32))) (q := ((vl_I f.s) < (11 : Int32))) rfl jv_bc_lt rfl rfl Iff.rfl (fun h3 => ?_) (fun h3 => ?_)
      · refine jv_Wp.lift (fun _ Kz => jv_Ev.steps jv_i95 1 (pc' := 29) (l' := [(0, .long w)]) (st' := [.long w]) rfl Kz) ?_
        refine jv_Wp.lift (fun _ Kz => jv_Ev.c jv_i95 (pc' := 32) (S' := [.int (Int32.ofInt f.i)]) jv_i89 [.long w] rfl rfl rfl rfl rfl rfl (vw_f89 ef) rfl rfl Kz) ?_
        refine jv_Wp.bys (q := ((Int32.ofInt f.i) = Int32.ofInt 0)) (fun h4 => ?_) (fun h4 => ?_)
        · refine jv_Wp.lift (fun _ Kz => jv_Ev.br jv_i95 (pc' := 124) (st' := []) rfl (by rw [h4]; rfl) Kz) ?_
          refine jv_Wp.lift (fun _ Kz => jv_Ev.steps jv_i95 1 (pc' := 125) (l' := [(0, .long w)]) (st' := [.int (1 : Int32)]) rfl Kz) ?_
          refine jv_Wp.of (jv_Ev.ret jv_i95 rfl (jv_ret_b (Or.inr rfl))) ?_
          have x1 : ¬ f.z < 4 := fun z => h1 ((vl_I_lt (a := f.z) (b := 4) bz (by decide)).mpr z)
          have x2 : ¬ 11 ≤ f.d := fun z => h2 ((vl_I_le (a := 11) (b := f.d) (by decide) bd).mpr z)
          have x3 : f.s < 11 := (vl_I_lt (a := f.s) (b := 11) bs (by decide)).mp h3
          have y4 : f.i = 0 := (vw_dQ ef).symm.trans (congrArg Int32.toInt h4)
          have ev : decide (vf_pT f) = true := decide_eq_true (by omega)
          rw [ev] at hQ
          exact hQ
        · refine jv_Wp.bys (q := ((Int32.ofInt f.i) = Int32.ofInt 1)) (fun h5 => ?_) (fun h5 => ?_)
          · refine jv_Wp.lift (fun _ Kz => jv_Ev.br jv_i95 (pc' := 126) (st' := []) rfl (by rw [h5]; rfl) Kz) ?_
            refine jv_Wp.lift (fun _ Kz => jv_Ev.steps jv_i95 1 (pc' := 127) (l' := [(0, .long w)]) (st' := [.long w]) rfl Kz) ?_
            refine jv_Wp.lift (fun _ Kz => jv_Ev.c jv_i95 (pc' := 130) (S' := [.int (vl_I f.s)]) jv_i87 [.long w] rfl rfl rfl rfl rfl rfl (vw_f87 ef) rfl rfl Kz) ?_
            refine jv_Wp.lift (fun _ Kz => jv_Ev.steps jv_i95 1 (pc' := 132) (l' := [(0, .long w)]) (st' := [.int (9 : Int32), .int (vl_I f.s)]) rfl Kz) ?_
            refine jv_Wp.cnd jv_i95 (pt := 139) (pe := 135) (p := ((9 : Int32) < (vl_I f.s))) (q := ((9 : Int32) < (vl_I f.s))) rfl jv_bc_gt rfl rfl Iff.rfl (fun h6 => ?_) (fun h6 => ?_)
            · refine jv_Wp.lift (fun _ Kz => jv_Ev.steps jv_i95 1 (pc' := 140) (l' := [(0, .long w)]) (st' := [.int (0 : Int32)]) rfl Kz) ?_
              refine jv_Wp.of (jv_Ev.ret jv_i95 rfl (jv_ret_b (Or.inl rfl))) ?_
              have x1 : ¬ f.z < 4 := fun z => h1 ((vl_I_lt (a := f.z) (b := 4) bz (by decide)).mpr z)
              have x2 : ¬ 11 ≤ f.d := fun z => h2 ((vl_I_le (a := 11) (b := f.d) (by decide) bd).mpr z)
              have x3 : f.s < 11 := (vl_I_lt (a := f.s) (b := 11) bs (by decide)).mp h3
              have y4 : ¬ f.i = 0 := fun z => h4 (Int32.toInt_inj.mp ((vw_dQ ef).trans (z.trans rfl)))
              have y5 : f.i = 1 := (vw_dQ ef).symm.trans (congrArg Int32.toInt h5)
              have x6 : 9 < f.s := (vl_I_lt (a := 9) (b := f.s) (by decide) bs).mp h6
              have ev : decide (vf_pT f) = false := decide_eq_false (by omega)
              rw [ev] at hQ
              exact hQ
            · refine jv_Wp.lift (fun _ Kz => jv_Ev.steps jv_i95 2 (pc' := 140) (l' := [(0, .long w)]) (st' := [.int (1 : Int32)]) rfl Kz) ?_
              refine jv_Wp.of (jv_Ev.ret jv_i95 rfl (jv_ret_b (Or.inr rfl))) ?_
              have x1 : ¬ f.z < 4 := fun z => h1 ((vl_I_lt (a := f.z) (b := 4) bz (by decide)).mpr z)
              have x2 : ¬ 11 ≤ f.d := fun z => h2 ((vl_I_le (a := 11) (b := f.d) (by decide) bd).mpr z)
              have x3 : f.s < 11 := (vl_I_lt (a := f.s) (b := 11) bs (by decide)).mp h3
              have y4 : ¬ f.i = 0 := fun z => h4 (Int32.toInt_inj.mp ((vw_dQ ef).trans (z.trans rfl)))
              have y5 : f.i = 1 := (vw_dQ ef).symm.trans (congrArg Int32.toInt h5)
              have x6 : ¬ 9 < f.s := fun z => h6 ((vl_I_lt (a := 9) (b := f.s) (by decide) bs).mpr z)
              have ev : decide (vf_pT f) = true := decide_eq_true (by omega)
              rw [ev] at hQ
              exact hQ
          · refine jv_Wp.bys (q := ((Int32.ofInt f.i) = Int32.ofInt 64)) (fun h7 => ?_) (fun h7 => ?_)
            · refine jv_Wp.lift (fun _ Kz => jv_Ev.br jv_i95 (pc' := 124) (st' := []) rfl (by rw [h7]; rfl) Kz) ?_
              refine jv_Wp.lift (fun _ Kz => jv_Ev.steps jv_i95 1 (pc' := 125) (l' := [(0, .long w)]) (st' := [.int (1 : Int32)]) rfl Kz) ?_
              refine jv_Wp.of (jv_Ev.ret jv_i95 rfl (jv_ret_b (Or.inr rfl))) ?_
              have x1 : ¬ f.z < 4 := fun z => h1 ((vl_I_lt (a := f.z) (b := 4) bz (by decide)).mpr z)
              have x2 : ¬ 11 ≤ f.d := fun z => h2 ((vl_I_le (a := 11) (b := f.d) (by decide) bd).mpr z)
              have x3 : f.s < 11 := (vl_I_lt (a := f.s) (b := 11) bs (by decide)).mp h3
              have y4 : ¬ f.i = 0 := fun z => h4 (Int32.toInt_inj.mp ((vw_dQ ef).trans (z.trans rfl)))
              have y5 : ¬ f.i = 1 := fun z => h5 (Int32.toInt_inj.mp ((vw_dQ ef).trans (z.trans rfl)))
              have y6 : f.i = 64 := (vw_dQ ef).symm.trans (congrArg Int32.toInt h7)
              have ev : decide (vf_pT f) = true := decide_eq_true (by omega)
              rw [ev] at hQ
              exact hQ
            · refine jv_Wp.bys (q := ((Int32.ofInt f.i) = Int32.ofInt 65)) (fun h8 => ?_) (fun h8 => ?_)
              · refine jv_Wp.lift (fun _ Kz => jv_Ev.br jv_i95 (pc' := 126) (st' := []) rfl (by rw [h8]; rfl) Kz) ?_
                refine jv_Wp.lift (fun _ Kz => jv_Ev.steps jv_i95 1 (pc' := 127) (l' := [(0, .long w)]) (st' := [.long w]) rfl Kz) ?_
                refine jv_Wp.lift (fun _ Kz => jv_Ev.c jv_i95 (pc' := 130) (S' := [.int (vl_I f.s)]) jv_i87 [.long w] rfl rfl rfl rfl rfl rfl (vw_f87 ef) rfl rfl Kz) ?_
                refine jv_Wp.lift (fun _ Kz => jv_Ev.steps jv_i95 1 (pc' := 132) (l' := [(0, .long w)]) (st' := [.int (9 : Int32), .int (vl_I f.s)]) rfl Kz) ?_
                refine jv_Wp.cnd jv_i95 (pt := 139) (pe := 135) (p := ((9 : Int32) < (vl_I f.s))) (q := ((9 : Int32) < (vl_I f.s))) rfl jv_bc_gt rfl rfl Iff.rfl (fun h9 => ?_) (fun h9 => ?_)
                · refine jv_Wp.lift (fun _ Kz => jv_Ev.steps jv_i95 1 (pc' := 140) (l' := [(0, .long w)]) (st' := [.int (0 : Int32)]) rfl Kz) ?_
                  refine jv_Wp.of (jv_Ev.ret jv_i95 rfl (jv_ret_b (Or.inl rfl))) ?_
                  have x1 : ¬ f.z < 4 := fun z => h1 ((vl_I_lt (a := f.z) (b := 4) bz (by decide)).mpr z)
                  have x2 : ¬ 11 ≤ f.d := fun z => h2 ((vl_I_le (a := 11) (b := f.d) (by decide) bd).mpr z)
                  have x3 : f.s < 11 := (vl_I_lt (a := f.s) (b := 11) bs (by decide)).mp h3
                  have y4 : ¬ f.i = 0 := fun z => h4 (Int32.toInt_inj.mp ((vw_dQ ef).trans (z.trans rfl)))
                  have y5 : ¬ f.i = 1 := fun z => h5 (Int32.toInt_inj.mp ((vw_dQ ef).trans (z.trans rfl)))
                  have y6 : ¬ f.i = 64 := fun z => h7 (Int32.toInt_inj.mp ((vw_dQ ef).trans (z.trans rfl)))
                  have y7 : f.i = 65 := (vw_dQ ef).symm.trans (congrArg Int32.toInt h8)
                  have x8 : 9 < f.s := (vl_I_lt (a := 9) (b := f.s) (by decide) bs).mp h9
                  have ev : decide (vf_pT f) = false := decide_eq_false (by omega)
                  rw [ev] at hQ
                  exact hQ
                · refine jv_Wp.lift (fun _ Kz => jv_Ev.steps jv_i95 2 (pc' := 140) (l' := [(0, .long w)]) (st' := [.int (1 : Int32)]) rfl Kz) ?_
                  refine jv_Wp.of (jv_Ev.ret jv_i95 rfl (jv_ret_b (Or.inr rfl))) ?_
                  have x1 : ¬ f.z < 4 := fun z => h1 ((vl_I_lt (a := f.z) (b := 4) bz (by decide)).mpr z)
                  have x2 : ¬ 11 ≤ f.d := fun z => h2 ((vl_I_le (a := 11) (b := f.d) (by decide) bd).mpr z)
                  have x3 : f.s < 11 := (vl_I_lt (a := f.s) (b := 11) bs (by decide)).mp h3
                  have y4 : ¬ f.i = 0 := fun z => h4 (Int32.toInt_inj.mp ((vw_dQ ef).trans (z.trans rfl)))
                  have y5 : ¬ f.i = 1 := fun z => h5 (Int32.toInt_inj.mp ((vw_dQ ef).trans (z.trans rfl)))
                  have y6 : ¬ f.i = 64 := fun z => h7 (Int32.toInt_inj.mp ((vw_dQ ef).trans (z.trans rfl)))
                  have y7 : f.i = 65 := (vw_dQ ef).symm.trans (congrArg Int32.toInt h8)
                  have x8 : ¬ 9 < f.s := fun z => h9 ((vl_I_lt (a := 9) (b := f.s) (by decide) bs).mpr z)
                  have ev : decide (vf_pT f) = true := decide_eq_true (by omega)
                  rw [ev] at hQ
                  exact hQ
              · refine jv_Wp.bys (q := ((Int32.ofInt f.i) = Int32.ofInt 80)) (fun h10 => ?_) (fun h10 => ?_)
                · refine jv_Wp.lift (fun _ Kz => jv_Ev.br jv_i95 (pc' := 124) (st' := []) rfl (by rw [h10]; rfl) Kz) ?_
                  refine jv_Wp.lift (fun _ Kz => jv_Ev.steps jv_i95 1 (pc' := 125) (l' := [(0, .long w)]) (st' := [.int (1 : Int32)]) rfl Kz) ?_
                  refine jv_Wp.of (jv_Ev.ret jv_i95 rfl (jv_ret_b (Or.inr rfl))) ?_
                  have x1 : ¬ f.z < 4 := fun z => h1 ((vl_I_lt (a := f.z) (b := 4) bz (by decide)).mpr z)
                  have x2 : ¬ 11 ≤ f.d := fun z => h2 ((vl_I_le (a := 11) (b := f.d) (by decide) bd).mpr z)
                  have x3 : f.s < 11 := (vl_I_lt (a := f.s) (b := 11) bs (by decide)).mp h3
                  have y4 : ¬ f.i = 0 := fun z => h4 (Int32.toInt_inj.mp ((vw_dQ ef).trans (z.trans rfl)))
                  have y5 : ¬ f.i = 1 := fun z => h5 (Int32.toInt_inj.mp ((vw_dQ ef).trans (z.trans rfl)))
                  have y6 : ¬ f.i = 64 := fun z => h7 (Int32.toInt_inj.mp ((vw_dQ ef).trans (z.trans rfl)))
                  have y7 : ¬ f.i = 65 := fun z => h8 (Int32.toInt_inj.mp ((vw_dQ ef).trans (z.trans rfl)))
                  have y8 : f.i = 80 := (vw_dQ ef).symm.trans (congrArg Int32.toInt h10)
                  have ev : decide (vf_pT f) = true := decide_eq_true (by omega)
                  rw [ev] at hQ
                  exact hQ
                · refine jv_Wp.bys (q := ((Int32.ofInt f.i) = Int32.ofInt 81)) (fun h11 => ?_) (fun h11 => ?_)
                  · refine jv_Wp.lift (fun _ Kz => jv_Ev.br jv_i95 (pc' := 126) (st' := []) rfl (by rw [h11]; rfl) Kz) ?_
                    refine jv_Wp.lift (fun _ Kz => jv_Ev.steps jv_i95 1 (pc' := 127) (l' := [(0, .long w)]) (st' := [.long w]) rfl Kz) ?_
                    refine jv_Wp.lift (fun _ Kz => jv_Ev.c jv_i95 (pc' := 130) (S' := [.int (vl_I f.s)]) jv_i87 [.long w] rfl rfl rfl rfl rfl rfl (vw_f87 ef) rfl rfl Kz) ?_
                    refine jv_Wp.lift (fun _ Kz => jv_Ev.steps jv_i95 1 (pc' := 132) (l' := [(0, .long w)]) (st' := [.int (9 : Int32), .int (vl_I f.s)]) rfl Kz) ?_
                    refine jv_Wp.cnd jv_i95 (pt := 139) (pe := 135) (p := ((9 : Int32) < (vl_I f.s))) (q := ((9 : Int32) < (vl_I f.s))) rfl jv_bc_gt rfl rfl Iff.rfl (fun h12 => ?_) (fun h12 => ?_)
                    · refine jv_Wp.lift (fun _ Kz => jv_Ev.steps jv_i95 1 (pc' := 140) (l' := [(0, .long w)]) (st' := [.int (0 : Int32)]) rfl Kz) ?_
                      refine jv_Wp.of (jv_Ev.ret jv_i95 rfl (jv_ret_b (Or.inl rfl))) ?_
                      have x1 : ¬ f.z < 4 := fun z => h1 ((vl_I_lt (a := f.z) (b := 4) bz (by decide)).mpr z)
                      have x2 : ¬ 11 ≤ f.d := fun z => h2 ((vl_I_le (a := 11) (b := f.d) (by decide) bd).mpr z)
                      have x3 : f.s < 11 := (vl_I_lt (a := f.s) (b := 11) bs (by decide)).mp h3
                      have y4 : ¬ f.i = 0 := fun z => h4 (Int32.toInt_inj.mp ((vw_dQ ef).trans (z.trans rfl)))
                      have y5 : ¬ f.i = 1 := fun z => h5 (Int32.toInt_inj.mp ((vw_dQ ef).trans (z.trans rfl)))
                      have y6 : ¬ f.i = 64 := fun z => h7 (Int32.toInt_inj.mp ((vw_dQ ef).trans (z.trans rfl)))
                      have y7 : ¬ f.i = 65 := fun z => h8 (Int32.toInt_inj.mp ((vw_dQ ef).trans (z.trans rfl)))
                      have y8 : ¬ f.i = 80 := fun z => h10 (Int32.toInt_inj.mp ((vw_dQ ef).trans (z.trans rfl)))
                      have y9 : f.i = 81 := (vw_dQ ef).symm.trans (congrArg Int32.toInt h11)
                      have x10 : 9 < f.s := (vl_I_lt (a := 9) (b := f.s) (by decide) bs).mp h12
                      have ev : decide (vf_pT f) = false := decide_eq_false (by omega)
                      rw [ev] at hQ
                      exact hQ
                    · refine jv_Wp.lift (fun _ Kz => jv_Ev.steps jv_i95 2 (pc' := 140) (l' := [(0, .long w)]) (st' := [.int (1 : Int32)]) rfl Kz) ?_
                      refine jv_Wp.of (jv_Ev.ret jv_i95 rfl (jv_ret_b (Or.inr rfl))) ?_
                      have x1 : ¬ f.z < 4 := fun z => h1 ((vl_I_lt (a := f.z) (b := 4) bz (by decide)).mpr z)
                      have x2 : ¬ 11 ≤ f.d := fun z => h2 ((vl_I_le (a := 11) (b := f.d) (by decide) bd).mpr z)
                      have x3 : f.s < 11 := (vl_I_lt (a := f.s) (b := 11) bs (by decide)).mp h3
                      have y4 : ¬ f.i = 0 := fun z => h4 (Int32.toInt_inj.mp ((vw_dQ ef).trans (z.trans rfl)))
                      have y5 : ¬ f.i = 1 := fun z => h5 (Int32.toInt_inj.mp ((vw_dQ ef).trans (z.trans rfl)))
                      have y6 : ¬ f.i = 64 := fun z => h7 (Int32.toInt_inj.mp ((vw_dQ ef).trans (z.trans rfl)))
                      have y7 : ¬ f.i = 65 := fun z => h8 (Int32.toInt_inj.mp ((vw_dQ ef).trans (z.trans rfl)))
                      have y8 : ¬ f.i = 80 := fun z => h10 (Int32.toInt_inj.mp ((vw_dQ ef).trans (z.trans rfl)))
                      have y9 : f.i = 81 := (vw_dQ ef).symm.trans (congrArg Int32.toInt h11)
                      have x10 : ¬ 9 < f.s := fun z => h12 ((vl_I_lt (a := 9) (b := f.s) (by decide) bs).mpr z)
                      have ev : decide (vf_pT f) = true := decide_eq_true (by omega)
                      rw [ev] at hQ
                      exact hQ
                  · refine jv_Wp.bys (q := ((Int32.ofInt f.i) = Int32.ofInt 160)) (fun h13 => ?_) (fun h13 => ?_)
                    · refine jv_Wp.lift (fun _ Kz => jv_Ev.br jv_i95 (pc' := 124) (st' := []) rfl (by rw [h13]; rfl) Kz) ?_
                      refine jv_Wp.lift (fun _ Kz => jv_Ev.steps jv_i95 1 (pc' := 125) (l' := [(0, .long w)]) (st' := [.int (1 : Int32)]) rfl Kz) ?_
                      refine jv_Wp.of (jv_Ev.ret jv_i95 rfl (jv_ret_b (Or.inr rfl))) ?_
                      have x1 : ¬ f.z < 4 := fun z => h1 ((vl_I_lt (a := f.z) (b := 4) bz (by decide)).mpr z)
                      have x2 : ¬ 11 ≤ f.d := fun z => h2 ((vl_I_le (a := 11) (b := f.d) (by decide) bd).mpr z)
                      have x3 : f.s < 11 := (vl_I_lt (a := f.s) (b := 11) bs (by decide)).mp h3
                      have y4 : ¬ f.i = 0 := fun z => h4 (Int32.toInt_inj.mp ((vw_dQ ef).trans (z.trans rfl)))
                      have y5 : ¬ f.i = 1 := fun z => h5 (Int32.toInt_inj.mp ((vw_dQ ef).trans (z.trans rfl)))
                      have y6 : ¬ f.i = 64 := fun z => h7 (Int32.toInt_inj.mp ((vw_dQ ef).trans (z.trans rfl)))
                      have y7 : ¬ f.i = 65 := fun z => h8 (Int32.toInt_inj.mp ((vw_dQ ef).trans (z.trans rfl)))
                      have y8 : ¬ f.i = 80 := fun z => h10 (Int32.toInt_inj.mp ((vw_dQ ef).trans (z.trans rfl)))
                      have y9 : ¬ f.i = 81 := fun z => h11 (Int32.toInt_inj.mp ((vw_dQ ef).trans (z.trans rfl)))
                      have y10 : f.i = 160 := (vw_dQ ef).symm.trans (congrArg Int32.toInt h13)
                      have ev : decide (vf_pT f) = true := decide_eq_true (by omega)
                      rw [ev] at hQ
                      exact hQ
                    · refine jv_Wp.bys (q := ((Int32.ofInt f.i) = Int32.ofInt 161)) (fun h14 => ?_) (fun h14 => ?_)
                      · refine jv_Wp.lift (fun _ Kz => jv_Ev.br jv_i95 (pc' := 126) (st' := []) rfl (by rw [h14]; rfl) Kz) ?_
                        refine jv_Wp.lift (fun _ Kz => jv_Ev.steps jv_i95 1 (pc' := 127) (l' := [(0, .long w)]) (st' := [.long w]) rfl Kz) ?_
                        refine jv_Wp.lift (fun _ Kz => jv_Ev.c jv_i95 (pc' := 130) (S' := [.int (vl_I f.s)]) jv_i87 [.long w] rfl rfl rfl rfl rfl rfl (vw_f87 ef) rfl rfl Kz) ?_
                        refine jv_Wp.lift (fun _ Kz => jv_Ev.steps jv_i95 1 (pc' := 132) (l' := [(0, .long w)]) (st' := [.int (9 : Int32), .int (vl_I f.s)]) rfl Kz) ?_
                        refine jv_Wp.cnd jv_i95 (pt := 139) (pe := 135) (p := ((9 : Int32) < (vl_I f.s))) (q := ((9 : Int32) < (vl_I f.s))) rfl jv_bc_gt rfl rfl Iff.rfl (fun h15 => ?_) (fun h15 => ?_)
                        · refine jv_Wp.lift (fun _ Kz => jv_Ev.steps jv_i95 1 (pc' := 140) (l' := [(0, .long w)]) (st' := [.int (0 : Int32)]) rfl Kz) ?_
                          refine jv_Wp.of (jv_Ev.ret jv_i95 rfl (jv_ret_b (Or.inl rfl))) ?_
                          have x1 : ¬ f.z < 4 := fun z => h1 ((vl_I_lt (a := f.z) (b := 4) bz (by decide)).mpr z)
                          have x2 : ¬ 11 ≤ f.d := fun z => h2 ((vl_I_le (a := 11) (b := f.d) (by decide) bd).mpr z)
                          have x3 : f.s < 11 := (vl_I_lt (a := f.s) (b := 11) bs (by decide)).mp h3
                          have y4 : ¬ f.i = 0 := fun z => h4 (Int32.toInt_inj.mp ((vw_dQ ef).trans (z.trans rfl)))
                          have y5 : ¬ f.i = 1 := fun z => h5 (Int32.toInt_inj.mp ((vw_dQ ef).trans (z.trans rfl)))
                          have y6 : ¬ f.i = 64 := fun z => h7 (Int32.toInt_inj.mp ((vw_dQ ef).trans (z.trans rfl)))
                          have y7 : ¬ f.i = 65 := fun z => h8 (Int32.toInt_inj.mp ((vw_dQ ef).trans (z.trans rfl)))
                          have y8 : ¬ f.i = 80 := fun z => h10 (Int32.toInt_inj.mp ((vw_dQ ef).trans (z.trans rfl)))
                          have y9 : ¬ f.i = 81 := fun z => h11 (Int32.toInt_inj.mp ((vw_dQ ef).trans (z.trans rfl)))
                          have y10 : ¬ f.i = 160 := fun z => h13 (Int32.toInt_inj.mp ((vw_dQ ef).trans (z.trans rfl)))
                          have y11 : f.i = 161 := (vw_dQ ef).symm.trans (congrArg Int32.toInt h14)
                          have x12 : 9 < f.s := (vl_I_lt (a := 9) (b := f.s) (by decide) bs).mp h15
                          have ev : decide (vf_pT f) = false := decide_eq_false (by omega)
                          rw [ev] at hQ
                          exact hQ
                        · refine jv_Wp.lift (fun _ Kz => jv_Ev.steps jv_i95 2 (pc' := 140) (l' := [(0, .long w)]) (st' := [.int (1 : Int32)]) rfl Kz) ?_
                          refine jv_Wp.of (jv_Ev.ret jv_i95 rfl (jv_ret_b (Or.inr rfl))) ?_
                          have x1 : ¬ f.z < 4 := fun z => h1 ((vl_I_lt (a := f.z) (b := 4) bz (by decide)).mpr z)
                          have x2 : ¬ 11 ≤ f.d := fun z => h2 ((vl_I_le (a := 11) (b := f.d) (by decide) bd).mpr z)
                          have x3 : f.s < 11 := (vl_I_lt (a := f.s) (b := 11) bs (by decide)).mp h3
                          have y4 : ¬ f.i = 0 := fun z => h4 (Int32.toInt_inj.mp ((vw_dQ ef).trans (z.trans rfl)))
                          have y5 : ¬ f.i = 1 := fun z => h5 (Int32.toInt_inj.mp ((vw_dQ ef).trans (z.trans rfl)))
                          have y6 : ¬ f.i = 64 := fun z => h7 (Int32.toInt_inj.mp ((vw_dQ ef).trans (z.trans rfl)))
                          have y7 : ¬ f.i = 65 := fun z => h8 (Int32.toInt_inj.mp ((vw_dQ ef).trans (z.trans rfl)))
                          have y8 : ¬ f.i = 80 := fun z => h10 (Int32.toInt_inj.mp ((vw_dQ ef).trans (z.trans rfl)))
                          have y9 : ¬ f.i = 81 := fun z => h11 (Int32.toInt_inj.mp ((vw_dQ ef).trans (z.trans rfl)))
                          have y10 : ¬ f.i = 160 := fun z => h13 (Int32.toInt_inj.mp ((vw_dQ ef).trans (z.trans rfl)))
                          have y11 : f.i = 161 := (vw_dQ ef).symm.trans (congrArg Int32.toInt h14)
                          have x12 : ¬ 9 < f.s := fun z => h15 ((vl_I_lt (a := 9) (b := f.s) (by decide) bs).mpr z)
                          have ev : decide (vf_pT f) = true := decide_eq_true (by omega)
                          rw [ev] at hQ
                          exact hQ
                      · refine jv_Wp.bys (q := ((Int32.ofInt f.i) = Int32.ofInt 225)) (fun h16 => ?_) (fun h16 => ?_)
                        · refine jv_Wp.lift (fun _ Kz => jv_Ev.br jv_i95 (pc' := 126) (st' := []) rfl (by rw [h16]; rfl) Kz) ?_
                          refine jv_Wp.lift (fun _ Kz => jv_Ev.steps jv_i95 1 (pc' := 127) (l' := [(0, .long w)]) (st' := [.long w]) rfl Kz) ?_
                          refine jv_Wp.lift (fun _ Kz => jv_Ev.c jv_i95 (pc' := 130) (S' := [.int (vl_I f.s)]) jv_i87 [.long w] rfl rfl rfl rfl rfl rfl (vw_f87 ef) rfl rfl Kz) ?_
                          refine jv_Wp.lift (fun _ Kz => jv_Ev.steps jv_i95 1 (pc' := 132) (l' := [(0, .long w)]) (st' := [.int (9 : Int32), .int (vl_I f.s)]) rfl Kz) ?_
                          refine jv_Wp.cnd jv_i95 (pt := 139) (pe := 135) (p := ((9 : Int32) < (vl_I f.s))) (q := ((9 : Int32) < (vl_I f.s))) rfl jv_bc_gt rfl rfl Iff.rfl (fun h17 => ?_) (fun h17 => ?_)
                          · refine jv_Wp.lift (fun _ Kz => jv_Ev.steps jv_i95 1 (pc' := 140) (l' := [(0, .long w)]) (st' := [.int (0 : Int32)]) rfl Kz) ?_
                            refine jv_Wp.of (jv_Ev.ret jv_i95 rfl (jv_ret_b (Or.inl rfl))) ?_
                            have x1 : ¬ f.z < 4 := fun z => h1 ((vl_I_lt (a := f.z) (b := 4) bz (by decide)).mpr z)
                            have x2 : ¬ 11 ≤ f.d := fun z => h2 ((vl_I_le (a := 11) (b := f.d) (by decide) bd).mpr z)
                            have x3 : f.s < 11 := (vl_I_lt (a := f.s) (b := 11) bs (by decide)).mp h3
                            have y4 : ¬ f.i = 0 := fun z => h4 (Int32.toInt_inj.mp ((vw_dQ ef).trans (z.trans rfl)))
                            have y5 : ¬ f.i = 1 := fun z => h5 (Int32.toInt_inj.mp ((vw_dQ ef).trans (z.trans rfl)))
                            have y6 : ¬ f.i = 64 := fun z => h7 (Int32.toInt_inj.mp ((vw_dQ ef).trans (z.trans rfl)))
                            have y7 : ¬ f.i = 65 := fun z => h8 (Int32.toInt_inj.mp ((vw_dQ ef).trans (z.trans rfl)))
                            have y8 : ¬ f.i = 80 := fun z => h10 (Int32.toInt_inj.mp ((vw_dQ ef).trans (z.trans rfl)))
                            have y9 : ¬ f.i = 81 := fun z => h11 (Int32.toInt_inj.mp ((vw_dQ ef).trans (z.trans rfl)))
                            have y10 : ¬ f.i = 160 := fun z => h13 (Int32.toInt_inj.mp ((vw_dQ ef).trans (z.trans rfl)))
                            have y11 : ¬ f.i = 161 := fun z => h14 (Int32.toInt_inj.mp ((vw_dQ ef).trans (z.trans rfl)))
                            have y12 : f.i = 225 := (vw_dQ ef).symm.trans (congrArg Int32.toInt h16)
                            have x13 : 9 < f.s := (vl_I_lt (a := 9) (b := f.s) (by decide) bs).mp h17
                            have ev : decide (vf_pT f) = false := decide_eq_false (by omega)
                            rw [ev] at hQ
                            exact hQ
                          · refine jv_Wp.lift (fun _ Kz => jv_Ev.steps jv_i95 2 (pc' := 140) (l' := [(0, .long w)]) (st' := [.int (1 : Int32)]) rfl Kz) ?_
                            refine jv_Wp.of (jv_Ev.ret jv_i95 rfl (jv_ret_b (Or.inr rfl))) ?_
                            have x1 : ¬ f.z < 4 := fun z => h1 ((vl_I_lt (a := f.z) (b := 4) bz (by decide)).mpr z)
                            have x2 : ¬ 11 ≤ f.d := fun z => h2 ((vl_I_le (a := 11) (b := f.d) (by decide) bd).mpr z)
                            have x3 : f.s < 11 := (vl_I_lt (a := f.s) (b := 11) bs (by decide)).mp h3
                            have y4 : ¬ f.i = 0 := fun z => h4 (Int32.toInt_inj.mp ((vw_dQ ef).trans (z.trans rfl)))
                            have y5 : ¬ f.i = 1 := fun z => h5 (Int32.toInt_inj.mp ((vw_dQ ef).trans (z.trans rfl)))
                            have y6 : ¬ f.i = 64 := fun z => h7 (Int32.toInt_inj.mp ((vw_dQ ef).trans (z.trans rfl)))
                            have y7 : ¬ f.i = 65 := fun z => h8 (Int32.toInt_inj.mp ((vw_dQ ef).trans (z.trans rfl)))
                            have y8 : ¬ f.i = 80 := fun z => h10 (Int32.toInt_inj.mp ((vw_dQ ef).trans (z.trans rfl)))
                            have y9 : ¬ f.i = 81 := fun z => h11 (Int32.toInt_inj.mp ((vw_dQ ef).trans (z.trans rfl)))
                            have y10 : ¬ f.i = 160 := fun z => h13 (Int32.toInt_inj.mp ((vw_dQ ef).trans (z.trans rfl)))
                            have y11 : ¬ f.i = 161 := fun z => h14 (Int32.toInt_inj.mp ((vw_dQ ef).trans (z.trans rfl)))
                            have y12 : f.i = 225 := (vw_dQ ef).symm.trans (congrArg Int32.toInt h16)
                            have x13 : ¬ 9 < f.s := fun z => h17 ((vl_I_lt (a := 9) (b := f.s) (by decide) bs).mpr z)
                            have ev : decide (vf_pT f) = true := decide_eq_true (by omega)
                            rw [ev] at hQ
                            exact hQ
                        · refine jv_Wp.bys (q := ((Int32.ofInt f.i) = Int32.ofInt 241)) (fun h18 => ?_) (fun h18 => ?_)
                          · refine jv_Wp.lift (fun _ Kz => jv_Ev.br jv_i95 (pc' := 124) (st' := []) rfl (by rw [h18]; rfl) Kz) ?_
                            refine jv_Wp.lift (fun _ Kz => jv_Ev.steps jv_i95 1 (pc' := 125) (l' := [(0, .long w)]) (st' := [.int (1 : Int32)]) rfl Kz) ?_
                            refine jv_Wp.of (jv_Ev.ret jv_i95 rfl (jv_ret_b (Or.inr rfl))) ?_
                            have x1 : ¬ f.z < 4 := fun z => h1 ((vl_I_lt (a := f.z) (b := 4) bz (by decide)).mpr z)
                            have x2 : ¬ 11 ≤ f.d := fun z => h2 ((vl_I_le (a := 11) (b := f.d) (by decide) bd).mpr z)
                            have x3 : f.s < 11 := (vl_I_lt (a := f.s) (b := 11) bs (by decide)).mp h3
                            have y4 : ¬ f.i = 0 := fun z => h4 (Int32.toInt_inj.mp ((vw_dQ ef).trans (z.trans rfl)))
                            have y5 : ¬ f.i = 1 := fun z => h5 (Int32.toInt_inj.mp ((vw_dQ ef).trans (z.trans rfl)))
                            have y6 : ¬ f.i = 64 := fun z => h7 (Int32.toInt_inj.mp ((vw_dQ ef).trans (z.trans rfl)))
                            have y7 : ¬ f.i = 65 := fun z => h8 (Int32.toInt_inj.mp ((vw_dQ ef).trans (z.trans rfl)))
                            have y8 : ¬ f.i = 80 := fun z => h10 (Int32.toInt_inj.mp ((vw_dQ ef).trans (z.trans rfl)))
                            have y9 : ¬ f.i = 81 := fun z => h11 (Int32.toInt_inj.mp ((vw_dQ ef).trans (z.trans rfl)))
                            have y10 : ¬ f.i = 160 := fun z => h13 (Int32.toInt_inj.mp ((vw_dQ ef).trans (z.trans rfl)))
                            have y11 : ¬ f.i = 161 := fun z => h14 (Int32.toInt_inj.mp ((vw_dQ ef).trans (z.trans rfl)))
                            have y12 : ¬ f.i = 225 := fun z => h16 (Int32.toInt_inj.mp ((vw_dQ ef).trans (z.trans rfl)))
                            have y13 : f.i = 241 := (vw_dQ ef).symm.trans (congrArg Int32.toInt h18)
                            have ev : decide (vf_pT f) = true := decide_eq_true (by omega)
                            rw [ev] at hQ
                            exact hQ
                          · refine jv_Wp.lift (fun _ Kz => jv_Ev.br jv_i95 (pc' := 141) (st' := []) rfl (jv_lsw_def (List.forall_mem_cons.mpr ⟨(jv_ne_toInt (k := 0) h4), List.forall_mem_cons.mpr ⟨(jv_ne_toInt (k := 1) h5), List.forall_mem_cons.mpr ⟨(jv_ne_toInt (k := 64) h7), List.forall_mem_cons.mpr ⟨(jv_ne_toInt (k := 65) h8), List.forall_mem_cons.mpr ⟨(jv_ne_toInt (k := 80) h10), List.forall_mem_cons.mpr ⟨(jv_ne_toInt (k := 81) h11), List.forall_mem_cons.mpr ⟨(jv_ne_toInt (k := 160) h13), List.forall_mem_cons.mpr ⟨(jv_ne_toInt (k := 161) h14), List.forall_mem_cons.mpr ⟨(jv_ne_toInt (k := 225) h16), List.forall_mem_cons.mpr ⟨(jv_ne_toInt (k := 241) h18), fun _ h => absurd h List.not_mem_nil⟩⟩⟩⟩⟩⟩⟩⟩⟩⟩)) Kz) ?_
                            refine jv_Wp.lift (fun _ Kz => jv_Ev.steps jv_i95 1 (pc' := 142) (l' := [(0, .long w)]) (st' := [.int (0 : Int32)]) rfl Kz) ?_
                            refine jv_Wp.of (jv_Ev.ret jv_i95 rfl (jv_ret_b (Or.inl rfl))) ?_
                            have x1 : ¬ f.z < 4 := fun z => h1 ((vl_I_lt (a := f.z) (b := 4) bz (by decide)).mpr z)
                            have x2 : ¬ 11 ≤ f.d := fun z => h2 ((vl_I_le (a := 11) (b := f.d) (by decide) bd).mpr z)
                            have x3 : f.s < 11 := (vl_I_lt (a := f.s) (b := 11) bs (by decide)).mp h3
                            have y4 : ¬ f.i = 0 := fun z => h4 (Int32.toInt_inj.mp ((vw_dQ ef).trans (z.trans rfl)))
                            have y5 : ¬ f.i = 1 := fun z => h5 (Int32.toInt_inj.mp ((vw_dQ ef).trans (z.trans rfl)))
                            have y6 : ¬ f.i = 64 := fun z => h7 (Int32.toInt_inj.mp ((vw_dQ ef).trans (z.trans rfl)))
                            have y7 : ¬ f.i = 65 := fun z => h8 (Int32.toInt_inj.mp ((vw_dQ ef).trans (z.trans rfl)))
                            have y8 : ¬ f.i = 80 := fun z => h10 (Int32.toInt_inj.mp ((vw_dQ ef).trans (z.trans rfl)))
                            have y9 : ¬ f.i = 81 := fun z => h11 (Int32.toInt_inj.mp ((vw_dQ ef).trans (z.trans rfl)))
                            have y10 : ¬ f.i = 160 := fun z => h13 (Int32.toInt_inj.mp ((vw_dQ ef).trans (z.trans rfl)))
                            have y11 : ¬ f.i = 161 := fun z => h14 (Int32.toInt_inj.mp ((vw_dQ ef).trans (z.trans rfl)))
                            have y12 : ¬ f.i = 225 := fun z => h16 (Int32.toInt_inj.mp ((vw_dQ ef).trans (z.trans rfl)))
                            have y13 : ¬ f.i = 241 := fun z => h18 (Int32.toInt_inj.mp ((vw_dQ ef).trans (z.trans rfl)))
                            have ev : decide (vf_pT f) = false := decide_eq_false (by omega)
                            rw [ev] at hQ
                            exact hQ
      · refine jv_Wp.lift (fun _ Kz => jv_Ev.steps jv_i95 1 (pc' := 27) (l' := [(0, .long w)]) (st' := [.int (0 : Int32)]) rfl Kz) ?_
        refine jv_Wp.of (jv_Ev.ret jv_i95 rfl (jv_ret_b (Or.inl rfl))) ?_
        have x1 : ¬ f.z < 4 := fun z => h1 ((vl_I_lt (a := f.z) (b := 4) bz (by decide)).mpr z)
        have x2 : ¬ 11 ≤ f.d := fun z => h2 ((vl_I_le (a := 11) (b := f.d) (by decide) bd).mpr z)
        have x3 : ¬ f.s < 11 := fun z => h3 ((vl_I_lt (a := f.s) (b := 11) bs (by decide)).mpr z)
        have ev : decide (vf_pT f) = false := decide_eq_false (by omega)
        rw [ev] at hQ
        exact hQ
theorem vc_isAtomic {K : Nat → Option (Nat × Nat)} {I : Nat → Nat → Int32} {L : Nat → Nat → Int64} {R : Nat → Nat → Value} {w : Int64} {f : vf_F} (ef : vc_F w = f)  {n sl : Nat} : jv_Ms 95 [.long w] (jv_H K I L R) n sl (some (.int (vr_b (decide (vf_pT f)))), jv_H K I L R, n, sl) := by
  have h := vc_isAtomic_ (n := n) (sl := sl) (K := K) (I := I) (L := L) (R := R) ef  (Q := fun X => X = (some (.int (vr_b (decide (vf_pT f)))), jv_H K I L R, n, sl)) rfl
  obtain ⟨X, h, e⟩ := h
  subst e
  exact h