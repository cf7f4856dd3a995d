/-! part e11: the form of a word, as the class tests it: jumps, reckonings (gen/te11.py) -/
theorem vf_pA_le {f : vf_F} (h : vf_pA f) : f.d ≤ 9 ∧ f.n ≤ 13 := by
  refine ⟨h.1, ?_⟩
  rcases h.2 with h | h | h | h | h
  · have := h.1; omega
  · have := h.1; omega
  · have := h.1; omega
  · have := h.1; omega
  · have := h.1; omega
theorem vf_pA_S {f : vf_F} (hn : f.n ≠ 13) (h : vf_pA f) : vf_pS f := by
  rcases h.2 with h | h | h | h | h
  · exact Or.inr ⟨h.2.1, h.2.2.2.1⟩
  · exact absurd h.1 hn
  · exact h.2.1
  · exact h.2.1
  · exact h.2.2.2.2.2.1
theorem vf_pA_0 {f : vf_F} (h : f.n ≠ 8 ∧ f.n ≠ 3 ∧ f.n ≠ 9 ∧ f.n ≠ 13 ∧ f.o = 0) : vf_pA f ↔ (f.d ≤ 9 ∧ f.n < 13 ∧ vf_pS f) := by
  by_cases c : f.n = 11
  · rw [vf_pA_11 c]; exact ⟨fun z => ⟨z.1, by omega, z.2.1⟩, fun z => ⟨z.1, z.2.2, Or.inl h.2.2.2.2⟩⟩
  · rw [vf_pA_n ⟨h.1, h.2.1, h.2.2.1, c, h.2.2.2.1⟩]; exact ⟨fun z => ⟨z.1, z.2.1, z.2.2.1⟩, fun z => ⟨z.1, z.2.1, z.2.2, h.2.2.2.2⟩⟩
theorem jv_i97 : jv_I 97 7 (some .boolean) 1 21 jv_c97 := ⟨rfl, rfl, rfl, rfl, rfl⟩
theorem vc_isJump_ {K : Nat → Option (Nat × Nat)} {I : Nat → Nat → Int32} {L : Nat → Nat → Int64} {R : Nat → Nat → Value} {w : Int64} {f : vf_F} (ef : vc_F w = f) (hk : f.kind = 5 ∨ f.kind = 6) {n sl : Nat} {Q : jv_R → Prop} (hQ : Q (some (.int (vr_b (decide (vf_pJ f)))), jv_H K I L R, n, sl)) : jv_Wp 97 0 [(0, .long w)] [] (jv_H K I L R) n sl Q := by
  have c1 := vw_dc ef
  have c2 := vw_dd ef
  have c3 := vw_ds ef
  have c4 : f.n = f.code / 16 := rfl
  have c5 : f.kind = f.code % 8 := rfl
  have c6 : f.mode = f.code / 32 := rfl
  have c7 := vf_z f
  have bn : f.n < 2147483648 := by omega
  have bk : f.kind < 2147483648 := by omega
  have bm : f.mode < 2147483648 := by omega
  have bz : f.z < 2147483648 := by omega
  have bc : f.code < 2147483648 := by omega
  have bd : f.d < 2147483648 := by omega
  have bs : f.s < 2147483648 := by omega
  refine jv_Wp.lift (fun _ Kz => jv_Ev.steps jv_i97 1 (pc' := 1) (l' := [(0, .long w)]) (st' := [.long w]) rfl Kz) ?_
  refine jv_Wp.lift (fun _ Kz => jv_Ev.c jv_i97 (pc' := 4) (S' := [.int (vl_I f.n)]) jv_i82 [.long w] rfl rfl rfl rfl rfl rfl (vw_f82 ef) rfl rfl Kz) ?_
  refine jv_Wp.lift (fun _ Kz => jv_Ev.steps jv_i97 2 (pc' := 6) (l' := [(2, .int (vl_I f.n)), (0, .long w)]) (st' := [.long w]) rfl Kz) ?_
  refine jv_Wp.lift (fun _ Kz => jv_Ev.c jv_i97 (pc' := 9) (S' := [.int (vl_I f.code)]) jv_i80 [.long w] rfl rfl rfl rfl rfl rfl (vw_f80 ef) rfl rfl Kz) ?_
  refine jv_Wp.lift (fun _ Kz => jv_Ev.steps jv_i97 2 (pc' := 11) (l' := [(3, .int (vl_I f.code)), (2, .int (vl_I f.n)), (0, .long w)]) (st' := [.int (vl_I f.n)]) rfl Kz) ?_
  refine jv_Wp.cnd jv_i97 (pt := 26) (pe := 14) (p := ((vl_I f.n) = 0)) (q := ((vl_I f.n) = 0)) rfl jv_bi_eq rfl rfl Iff.rfl (fun h1 => ?_) (fun h1 => ?_)
  · refine jv_Wp.lift (fun _ Kz => jv_Ev.steps jv_i97 1 (pc' := 27) (l' := [(3, .int (vl_I f.code)), (2, .int (vl_I f.n)), (0, .long w)]) (st' := [.long w]) rfl Kz) ?_
    refine jv_Wp.lift (fun _ Kz => jv_Ev.c jv_i97 (pc' := 30) (S' := [.int (vl_I f.d)]) jv_i86 [.long w] rfl rfl rfl rfl rfl rfl (vw_f86 ef) rfl rfl Kz) ?_
    refine jv_Wp.cnd jv_i97 (pt := 44) (pe := 33) (p := (¬ (vl_I f.d) = 0)) (q := (¬ (vl_I f.d) = 0)) rfl jv_bi_ne rfl rfl Iff.rfl (fun h2 => ?_) (fun h2 => ?_)
    · refine jv_Wp.lift (fun _ Kz => jv_Ev.steps jv_i97 3 (pc' := 48) (l' := [(4, .int (0 : Int32)), (3, .int (vl_I f.code)), (2, .int (vl_I f.n)), (0, .long w)]) (st' := [.long w]) rfl Kz) ?_
      refine jv_Wp.lift (fun _ Kz => jv_Ev.c jv_i97 (pc' := 51) (S' := [.int (Int32.ofInt f.o)]) jv_i88 [.long w] rfl rfl rfl rfl rfl rfl (vw_f88 ef) rfl rfl Kz) ?_
      refine jv_Wp.cnd jv_i97 (pt := 58) (pe := 54) (p := (¬ (Int32.ofInt f.o) = 0)) (q := (¬ (Int32.ofInt f.o) = 0)) rfl jv_bi_ne rfl rfl Iff.rfl (fun h3 => ?_) (fun h3 => ?_)
      · refine jv_Wp.lift (fun _ Kz => jv_Ev.steps jv_i97 3 (pc' := 62) (l' := [(5, .int (0 : Int32)), (4, .int (0 : Int32)), (3, .int (vl_I f.code)), (2, .int (vl_I f.n)), (0, .long w)]) (st' := [.long w]) rfl Kz) ?_
        refine jv_Wp.lift (fun _ Kz => jv_Ev.c jv_i97 (pc' := 65) (S' := [.int (Int32.ofInt f.i)]) jv_i89 [.long w] rfl rfl rfl rfl rfl rfl (vw_f89 ef) rfl rfl Kz) ?_
        refine jv_Wp.cnd jv_i97 (pt := 72) (pe := 68) (p := (¬ (Int32.ofInt f.i) = 0)) (q := (¬ (Int32.ofInt f.i) = 0)) rfl jv_bi_ne rfl rfl Iff.rfl (fun h4 => ?_) (fun h4 => ?_)
        · refine jv_Wp.lift (fun _ Kz => jv_Ev.steps jv_i97 3 (pc' := 77) (l' := [(6, .int (0 : Int32)), (5, .int (0 : Int32)), (4, .int (0 : Int32)), (3, .int (vl_I f.code)), (2, .int (vl_I f.n)), (0, .long w)]) (st' := [.int (0 : Int32)]) rfl Kz) ?_
          refine jv_Wp.lift (fun _ Kz => jv_Ev.br jv_i97 (pc' := 134) (st' := []) rfl (by rfl) Kz) ?_
          refine jv_Wp.lift (fun _ Kz => jv_Ev.steps jv_i97 1 (pc' := 135) (l' := [(6, .int (0 : Int32)), (5, .int (0 : Int32)), (4, .int (0 : Int32)), (3, .int (vl_I f.code)), (2, .int (vl_I f.n)), (0, .long w)]) (st' := [.int (0 : Int32)]) rfl Kz) ?_
          refine jv_Wp.of (jv_Ev.ret jv_i97 rfl (jv_ret_b (Or.inl rfl))) ?_
          have x1 : f.n = 0 := (vl_I_inj (a := f.n) (b := 0) (Nat.lt_trans bn (by decide)) (by decide)).mp h1
          have x2 : ¬ f.d = 0 := fun z => h2 ((vl_I_inj (a := f.d) (b := 0) (Nat.lt_trans bd (by decide)) (by decide)).mpr z)
          have y3 : ¬ f.o = 0 := fun z => h3 (Int32.toInt_inj.mp ((vw_dO ef).trans (z.trans rfl)))
          have y4 : ¬ f.i = 0 := fun z => h4 (Int32.toInt_inj.mp ((vw_dQ ef).trans (z.trans rfl)))
          have ev : decide (vf_pJ f) = false := decide_eq_false (fun z => by have y := (vf_pJ_0 (by omega)).mp z; omega)
          rw [ev] at hQ
          exact hQ
        · refine jv_Wp.lift (fun _ Kz => jv_Ev.steps jv_i97 4 (pc' := 77) (l' := [(6, .int (1 : Int32)), (5, .int (0 : Int32)), (4, .int (0 : Int32)), (3, .int (vl_I f.code)), (2, .int (vl_I f.n)), (0, .long w)]) (st' := [.int (0 : Int32)]) rfl Kz) ?_
          refine jv_Wp.lift (fun _ Kz => jv_Ev.br jv_i97 (pc' := 134) (st' := []) rfl (by rfl) Kz) ?_
          refine jv_Wp.lift (fun _ Kz => jv_Ev.steps jv_i97 1 (pc' := 135) (l' := [(6, .int (1 : Int32)), (5, .int (0 : Int32)), (4, .int (0 : Int32)), (3, .int (vl_I f.code)), (2, .int (vl_I f.n)), (0, .long w)]) (st' := [.int (0 : Int32)]) rfl Kz) ?_
          refine jv_Wp.of (jv_Ev.ret jv_i97 rfl (jv_ret_b (Or.inl rfl))) ?_
          have x1 : f.n = 0 := (vl_I_inj (a := f.n) (b := 0) (Nat.lt_trans bn (by decide)) (by decide)).mp h1
          have x2 : ¬ f.d = 0 := fun z => h2 ((vl_I_inj (a := f.d) (b := 0) (Nat.lt_trans bd (by decide)) (by decide)).mpr z)
          have y3 : ¬ f.o = 0 := fun z => h3 (Int32.toInt_inj.mp ((vw_dO ef).trans (z.trans rfl)))
          have y4 : f.i = 0 := (vw_dQ ef).symm.trans (congrArg Int32.toInt (Classical.not_not.mp h4))
          have ev : decide (vf_pJ f) = false := decide_eq_false (fun z => by have y := (vf_pJ_0 (by omega)).mp z; omega)
          rw [ev] at hQ
          exact hQ
      · refine jv_Wp.lift (fun _ Kz => jv_Ev.steps jv_i97 4 (pc' := 62) (l' := [(5, .int (1 : Int32)), (4, .int (0 : Int32)), (3, .int (vl_I f.code)), (2, .int (vl_I f.n)), (0, .long w)]) (st' := [.long w]) rfl Kz) ?_
        refine jv_Wp.lift (fun _ Kz => jv_Ev.c jv_i97 (pc' := 65) (S' := [.int (Int32.ofInt f.i)]) jv_i89 [.long w] rfl rfl rfl rfl rfl rfl (vw_f89 ef) rfl rfl Kz) ?_
        refine jv_Wp.cnd jv_i97 (pt := 72) (pe := 68) (p := (¬ (Int32.ofInt f.i) = 0)) (q := (¬ (Int32.ofInt f.i) = 0)) rfl jv_bi_ne rfl rfl Iff.rfl (fun h5 => ?_) (fun h5 => ?_)
        · refine jv_Wp.lift (fun _ Kz => jv_Ev.steps jv_i97 3 (pc' := 77) (l' := [(6, .int (0 : Int32)), (5, .int (1 : Int32)), (4, .int (0 : Int32)), (3, .int (vl_I f.code)), (2, .int (vl_I f.n)), (0, .long w)]) (st' := [.int (0 : Int32)]) rfl Kz) ?_
          refine jv_Wp.lift (fun _ Kz => jv_Ev.br jv_i97 (pc' := 134) (st' := []) rfl (by rfl) Kz) ?_
          refine jv_Wp.lift (fun _ Kz => jv_Ev.steps jv_i97 1 (pc' := 135) (l' := [(6, .int (0 : Int32)), (5, .int (1 : Int32)), (4, .int (0 : Int32)), (3, .int (vl_I f.code)), (2, .int (vl_I f.n)), (0, .long w)]) (st' := [.int (0 : Int32)]) rfl Kz) ?_
          refine jv_Wp.of (jv_Ev.ret jv_i97 rfl (jv_ret_b (Or.inl rfl))) ?_
          have x1 : f.n = 0 := (vl_I_inj (a := f.n) (b := 0) (Nat.lt_trans bn (by decide)) (by decide)).mp h1
          have x2 : ¬ f.d = 0 := fun z => h2 ((vl_I_inj (a := f.d) (b := 0) (Nat.lt_trans bd (by decide)) (by decide)).mpr z)
          have y3 : f.o = 0 := (vw_dO ef).symm.trans (congrArg Int32.toInt (Classical.not_not.mp h3))
          have y4 : ¬ f.i = 0 := fun z => h5 (Int32.toInt_inj.mp ((vw_dQ ef).trans (z.trans rfl)))
          have ev : decide (vf_pJ f) = false := decide_eq_false (fun z => by have y := (vf_pJ_0 (by omega)).mp z; omega)
          rw [ev] at hQ
          exact hQ
        · refine jv_Wp.lift (fun _ Kz => jv_Ev.steps jv_i97 4 (pc' := 77) (l' := [(6, .int (1 : Int32)), (5, .int (1 : Int32)), (4, .int (0 : Int32)), (3, .int (vl_I f.code)), (2, .int (vl_I f.n)), (0, .long w)]) (st' := [.int (0 : Int32)]) rfl Kz) ?_
          refine jv_Wp.lift (fun _ Kz => jv_Ev.br jv_i97 (pc' := 134) (st' := []) rfl (by rfl) Kz) ?_
          refine jv_Wp.lift (fun _ Kz => jv_Ev.steps jv_i97 1 (pc' := 135) (l' := [(6, .int (1 : Int32)), (5, .int (1 : Int32)), (4, .int (0 : Int32)), (3, .int (vl_I f.code)), (2, .int (vl_I f.n)), (0, .long w)]) (st' := [.int (0 : Int32)]) rfl Kz) ?_
          refine jv_Wp.of (jv_Ev.ret jv_i97 rfl (jv_ret_b (Or.inl rfl))) ?_
          have x1 : f.n = 0 := (vl_I_inj (a := f.n) (b := 0) (Nat.lt_trans bn (by decide)) (by decide)).mp h1
          have x2 : ¬ f.d = 0 := fun z => h2 ((vl_I_inj (a := f.d) (b := 0) (Nat.lt_trans bd (by decide)) (by decide)).mpr z)
          have y3 : f.o = 0 := (vw_dO ef).symm.trans (congrArg Int32.toInt (Classical.not_not.mp h3))
          have y4 : f.i = 0 := (vw_dQ ef).symm.trans (congrArg Int32.toInt (Classical.not_not.mp h5))
          have ev : decide (vf_pJ f) = false := decide_eq_false (fun z => by have y := (vf_pJ_0 (by omega)).mp z; omega)
          rw [ev] at hQ
          exact hQ
    · refine jv_Wp.lift (fun _ Kz => jv_Ev.steps jv_i97 1 (pc' := 34) (l' := [(3, .int (vl_I f.code)), (2, .int (vl_I f.n)), (0, .long w)]) (st' := [.long w]) rfl Kz) ?_
      refine jv_Wp.lift (fun _ Kz => jv_Ev.c jv_i97 (pc' := 37) (S' := [.int (vl_I f.s)]) jv_i87 [.long w] rfl rfl rfl rfl rfl rfl (vw_f87 ef) rfl rfl Kz) ?_
      refine jv_Wp.cnd jv_i97 (pt := 44) (pe := 40) (p := (¬ (vl_I f.s) = 0)) (q := (¬ (vl_I f.s) = 0)) rfl jv_bi_ne rfl rfl Iff.rfl (fun h6 => ?_) (fun h6 => ?_)
      · refine jv_Wp.lift (fun _ Kz => jv_Ev.steps jv_i97 3 (pc' := 48) (l' := [(4, .int (0 : Int32)), (3, .int (vl_I f.code)), (2, .int (vl_I f.n)), (0, .long w)]) (st' := [.long w]) rfl Kz) ?_
        refine jv_Wp.lift (fun _ Kz => jv_Ev.c jv_i97 (pc' := 51) (S' := [.int (Int32.ofInt f.o)]) jv_i88 [.long w] rfl rfl rfl rfl rfl rfl (vw_f88 ef) rfl rfl Kz) ?_
        refine jv_Wp.cnd jv_i97 (pt := 58) (pe := 54) (p := (¬ (Int32.ofInt f.o) = 0)) (q := (¬ (Int32.ofInt f.o) = 0)) rfl jv_bi_ne rfl rfl Iff.rfl (fun h7 => ?_) (fun h7 => ?_)
        · refine jv_Wp.lift (fun _ Kz => jv_Ev.steps jv_i97 3 (pc' := 62) (l' := [(5, .int (0 : Int32)), (4, .int (0 : Int32)), (3, .int (vl_I f.code)), (2, .int (vl_I f.n)), (0, .long w)]) (st' := [.long w]) rfl Kz) ?_
          refine jv_Wp.lift (fun _ Kz => jv_Ev.c jv_i97 (pc' := 65) (S' := [.int (Int32.ofInt f.i)]) jv_i89 [.long w] rfl rfl rfl rfl rfl rfl (vw_f89 ef) rfl rfl Kz) ?_
          refine jv_Wp.cnd jv_i97 (pt := 72) (pe := 68) (p := (¬ (Int32.ofInt f.i) = 0)) (q := (¬ (Int32.ofInt f.i) = 0)) rfl jv_bi_ne rfl rfl Iff.rfl (fun h8 => ?_) (fun h8 => ?_)
          · refine jv_Wp.lift (fun _ Kz => jv_Ev.steps jv_i97 3 (pc' := 77) (l' := [(6, .int (0 : Int32)), (5, .int (0 : Int32)), (4, .int (0 : Int32)), (3, .int (vl_I f.code)), (2, .int (vl_I f.n)), (0, .long w)]) (st' := [.int (0 : Int32)]) rfl Kz) ?_
            refine jv_Wp.lift (fun _ Kz => jv_Ev.br jv_i97 (pc' := 134) (st' := []) rfl (by rfl) Kz) ?_
            refine jv_Wp.lift (fun _ Kz => jv_Ev.steps jv_i97 1 (pc' := 135) (l' := [(6, .int (0 : Int32)), (5, .int (0 : Int32)), (4, .int (0 : Int32)), (3, .int (vl_I f.code)), (2, .int (vl_I f.n)), (0, .long w)]) (st' := [.int (0 : Int32)]) rfl Kz) ?_
            refine jv_Wp.of (jv_Ev.ret jv_i97 rfl (jv_ret_b (Or.inl rfl))) ?_
            have x1 : f.n = 0 := (vl_I_inj (a := f.n) (b := 0) (Nat.lt_trans bn (by decide)) (by decide)).mp h1
            have x2 : f.d = 0 := (vl_I_inj (a := f.d) (b := 0) (Nat.lt_trans bd (by decide)) (by decide)).mp (Classical.not_not.mp h2)
            have x3 : ¬ f.s = 0 := fun z => h6 ((vl_I_inj (a := f.s) (b := 0) (Nat.lt_trans bs (by decide)) (by decide)).mpr z)
            have y4 : ¬ f.o = 0 := fun z => h7 (Int32.toInt_inj.mp ((vw_dO ef).trans (z.trans rfl)))
            have y5 : ¬ f.i = 0 := fun z => h8 (Int32.toInt_inj.mp ((vw_dQ ef).trans (z.trans rfl)))
            have ev : decide (vf_pJ f) = false := decide_eq_false (fun z => by have y := (vf_pJ_0 (by omega)).mp z; omega)
            rw [ev] at hQ
            exact hQ
          · refine jv_Wp.lift (fun _ Kz => jv_Ev.steps jv_i97 4 (pc' := 77) (l' := [(6, .int (1 : Int32)), (5, .int (0 : Int32)), (4, .int (0 : Int32)), (3, .int (vl_I f.code)), (2, .int (vl_I f.n)), (0, .long w)]) (st' := [.int (0 : Int32)]) rfl Kz) ?_
            refine jv_Wp.lift (fun _ Kz => jv_Ev.br jv_i97 (pc' := 134) (st' := []) rfl (by rfl) Kz) ?_
            refine jv_Wp.lift (fun _ Kz => jv_Ev.steps jv_i97 1 (pc' := 135) (l' := [(6, .int (1 : Int32)), (5, .int (0 : Int32)), (4, .int (0 : Int32)), (3, .int (vl_I f.code)), (2, .int (vl_I f.n)), (0, .long w)]) (st' := [.int (0 : Int32)]) rfl Kz) ?_
            refine jv_Wp.of (jv_Ev.ret jv_i97 rfl (jv_ret_b (Or.inl rfl))) ?_
            have x1 : f.n = 0 := (vl_I_inj (a := f.n) (b := 0) (Nat.lt_trans bn (by decide)) (by decide)).mp h1
            have x2 : f.d = 0 := (vl_I_inj (a := f.d) (b := 0) (Nat.lt_trans bd (by decide)) (by decide)).mp (Classical.not_not.mp h2)
            have x3 : ¬ f.s = 0 := fun z => h6 ((vl_I_inj (a := f.s) (b := 0) (Nat.lt_trans bs (by decide)) (by decide)).mpr z)
            have y4 : ¬ f.o = 0 := fun z => h7 (Int32.toInt_inj.mp ((vw_dO ef).trans (z.trans rfl)))
            have y5 : f.i = 0 := (vw_dQ ef).symm.trans (congrArg Int32.toInt (Classical.not_not.mp h8))
            have ev : decide (vf_pJ f) = false := decide_eq_false (fun z => by have y := (vf_pJ_0 (by omega)).mp z; omega)
            rw [ev] at hQ
            exact hQ
        · refine jv_Wp.lift (fun _ Kz => jv_Ev.steps jv_i97 4 (pc' := 62) (l' := [(5, .int (1 : Int32)), (4, .int (0 : Int32)), (3, .int (vl_I f.code)), (2, .int (vl_I f.n)), (0, .long w)]) (st' := [.long w]) rfl Kz) ?_
          refine jv_Wp.lift (fun _ Kz => jv_Ev.c jv_i97 (pc' := 65) (S' := [.int (Int32.ofInt f.i)]) jv_i89 [.long w] rfl rfl rfl rfl rfl rfl (vw_f89 ef) rfl rfl Kz) ?_
          refine jv_Wp.cnd jv_i97 (pt := 72) (pe := 68) (p := (¬ (Int32.ofInt f.i) = 0)) (q := (¬ (Int32.ofInt f.i) = 0)) rfl jv_bi_ne rfl rfl Iff.rfl (fun h9 => ?_) (fun h9 => ?_)
          · refine jv_Wp.lift (fun _ Kz => jv_Ev.steps jv_i97 3 (pc' := 77) (l' := [(6, .int (0 : Int32)), (5, .int (1 : Int32)), (4, .int (0 : Int32)), (3, .int (vl_I f.code)), (2, .int (vl_I f.n)), (0, .long w)]) (st' := [.int (0 : Int32)]) rfl Kz) ?_
            refine jv_Wp.lift (fun _ Kz => jv_Ev.br jv_i97 (pc' := 134) (st' := []) rfl (by rfl) Kz) ?_
            refine jv_Wp.lift (fun _ Kz => jv_Ev.steps jv_i97 1 (pc' := 135) (l' := [(6, .int (0 : Int32)), (5, .int (1 : Int32)), (4, .int (0 : Int32)), (3, .int (vl_I f.code)), (2, .int (vl_I f.n)), (0, .long w)]) (st' := [.int (0 : Int32)]) rfl Kz) ?_
            refine jv_Wp.of (jv_Ev.ret jv_i97 rfl (jv_ret_b (Or.inl rfl))) ?_
            have x1 : f.n = 0 := (vl_I_inj (a := f.n) (b := 0) (Nat.lt_trans bn (by decide)) (by decide)).mp h1
            have x2 : f.d = 0 := (vl_I_inj (a := f.d) (b := 0) (Nat.lt_trans bd (by decide)) (by decide)).mp (Classical.not_not.mp h2)
            have x3 : ¬ f.s = 0 := fun z => h6 ((vl_I_inj (a := f.s) (b := 0) (Nat.lt_trans bs (by decide)) (by decide)).mpr z)
            have y4 : f.o = 0 := (vw_dO ef).symm.trans (congrArg Int32.toInt (Classical.not_not.mp h7))
            have y5 : ¬ f.i = 0 := fun z => h9 (Int32.toInt_inj.mp ((vw_dQ ef).trans (z.trans rfl)))
            have ev : decide (vf_pJ f) = false := decide_eq_false (fun z => by have y := (vf_pJ_0 (by omega)).mp z; omega)
            rw [ev] at hQ
            exact hQ
          · refine jv_Wp.lift (fun _ Kz => jv_Ev.steps jv_i97 4 (pc' := 77) (l' := [(6, .int (1 : Int32)), (5, .int (1 : Int32)), (4, .int (0 : Int32)), (3, .int (vl_I f.code)), (2, .int (vl_I f.n)), (0, .long w)]) (st' := [.int (0 : Int32)]) rfl Kz) ?_
            refine jv_Wp.lift (fun _ Kz => jv_Ev.br jv_i97 (pc' := 134) (st' := []) rfl (by rfl) Kz) ?_
            refine jv_Wp.lift (fun _ Kz => jv_Ev.steps jv_i97 1 (pc' := 135) (l' := [(6, .int (1 : Int32)), (5, .int (1 : Int32)), (4, .int (0 : Int32)), (3, .int (vl_I f.code)), (2, .int (vl_I f.n)), (0, .long w)]) (st' := [.int (0 : Int32)]) rfl Kz) ?_
            refine jv_Wp.of (jv_Ev.ret jv_i97 rfl (jv_ret_b (Or.inl rfl))) ?_
            have x1 : f.n = 0 := (vl_I_inj (a := f.n) (b := 0) (Nat.lt_trans bn (by decide)) (by decide)).mp h1
            have x2 : f.d = 0 := (vl_I_inj (a := f.d) (b := 0) (Nat.lt_trans bd (by decide)) (by decide)).mp (Classical.not_not.mp h2)
            have x3 : ¬ f.s = 0 := fun z => h6 ((vl_I_inj (a := f.s) (b := 0) (Nat.lt_trans bs (by decide)) (by decide)).mpr z)
            have y4 : f.o = 0 := (vw_dO ef).symm.trans (congrArg Int32.toInt (Classical.not_not.mp h7))
            have y5 : f.i = 0 := (vw_dQ ef).symm.trans (congrArg Int32.toInt (Classical.not_not.mp h9))
            have ev : decide (vf_pJ f) = false := decide_eq_false (fun z => by have y := (vf_pJ_0 (by omega)).mp z; omega)
            rw [ev] at hQ
            exact hQ
      · refine jv_Wp.lift (fun _ Kz => jv_Ev.steps jv_i97 4 (pc' := 48) (l' := [(4, .int (1 : Int32)), (3, .int (vl_I f.code)), (2, .int (vl_I f.n)), (0, .long w)]) (st' := [.long w]) rfl Kz) ?_
        refine jv_Wp.lift (fun _ Kz => jv_Ev.c jv_i97 (pc' := 51) (S' := [.int (Int32.ofInt f.o)]) jv_i88 [.long w] rfl rfl rfl rfl rfl rfl (vw_f88 ef) rfl rfl Kz) ?_
        refine jv_Wp.cnd jv_i97 (pt := 58) (pe := 54) (p := (¬ (Int32.ofInt f.o) = 0)) (q := (¬ (Int32.ofInt f.o) = 0)) rfl jv_bi_ne rfl rfl Iff.rfl (fun h10 => ?_) (fun h10 => ?_)
        · refine jv_Wp.lift (fun _ Kz => jv_Ev.steps jv_i97 3 (pc' := 62) (l' := [(5, .int (0 : Int32)), (4, .int (1 : Int32)), (3, .int (vl_I f.code)), (2, .int (vl_I f.n)), (0, .long w)]) (st' := [.long w]) rfl Kz) ?_
          refine jv_Wp.lift (fun _ Kz => jv_Ev.c jv_i97 (pc' := 65) (S' := [.int (Int32.ofInt f.i)]) jv_i89 [.long w] rfl rfl rfl rfl rfl rfl (vw_f89 ef) rfl rfl Kz) ?_
          refine jv_Wp.cnd jv_i97 (pt := 72) (pe := 68) (p := (¬ (Int32.ofInt f.i) = 0)) (q := (¬ (Int32.ofInt f.i) = 0)) rfl jv_bi_ne rfl rfl Iff.rfl (fun h11 => ?_) (fun h11 => ?_)
          · refine jv_Wp.lift (fun _ Kz => jv_Ev.steps jv_i97 3 (pc' := 77) (l' := [(6, .int (0 : Int32)), (5, .int (0 : Int32)), (4, .int (1 : Int32)), (3, .int (vl_I f.code)), (2, .int (vl_I f.n)), (0, .long w)]) (st' := [.int (1 : Int32)]) rfl Kz) ?_
            refine jv_Wp.lift (fun _ Kz => jv_Ev.br jv_i97 (pc' := 80) (st' := []) rfl (by rfl) Kz) ?_
            refine jv_Wp.lift (fun _ Kz => jv_Ev.steps jv_i97 2 (pc' := 82) (l' := [(6, .int (0 : Int32)), (5, .int (0 : Int32)), (4, .int (1 : Int32)), (3, .int (vl_I f.code)), (2, .int (vl_I f.n)), (0, .long w)]) (st' := [.int (5 : Int32), .int (vl_I f.code)]) rfl Kz) ?_
            refine jv_Wp.cnd jv_i97 (pt := 90) (pe := 85) (p := (¬ (vl_I f.code) = (5 : Int32))) (q := (¬ (vl_I f.code) = (5 : Int32))) rfl jv_bc_ne rfl rfl Iff.rfl (fun h12 => ?_) (fun h12 => ?_)
            · refine jv_Wp.lift (fun _ Kz => jv_Ev.steps jv_i97 2 (pc' := 93) (l' := [(6, .int (0 : Int32)), (5, .int (0 : Int32)), (4, .int (1 : Int32)), (3, .int (vl_I f.code)), (2, .int (vl_I f.n)), (0, .long w)]) (st' := [.int (6 : Int32), .int (vl_I f.code)]) rfl Kz) ?_
              refine jv_Wp.cnd jv_i97 (pt := 101) (pe := 96) (p := (¬ (vl_I f.code) = (6 : Int32))) (q := (¬ (vl_I f.code) = (6 : Int32))) rfl jv_bc_ne rfl rfl Iff.rfl (fun h13 => ?_) (fun h13 => ?_)
              · refine jv_Wp.lift (fun _ Kz => jv_Ev.steps jv_i97 2 (pc' := 105) (l' := [(6, .int (0 : Int32)), (5, .int (0 : Int32)), (4, .int (1 : Int32)), (3, .int (vl_I f.code)), (2, .int (vl_I f.n)), (0, .long w)]) (st' := [.int (133 : Int32), .int (vl_I f.code)]) rfl Kz) ?_
                refine jv_Wp.cnd jv_i97 (pt := 113) (pe := 108) (p := (¬ (vl_I f.code) = (133 : Int32))) (q := (¬ (vl_I f.code) = (133 : Int32))) rfl jv_bc_ne rfl rfl Iff.rfl (fun h14 => ?_) (fun h14 => ?_)
                · refine jv_Wp.lift (fun _ Kz => jv_Ev.steps jv_i97 2 (pc' := 117) (l' := [(6, .int (0 : Int32)), (5, .int (0 : Int32)), (4, .int (1 : Int32)), (3, .int (vl_I f.code)), (2, .int (vl_I f.n)), (0, .long w)]) (st' := [.int (149 : Int32), .int (vl_I f.code)]) rfl Kz) ?_
                  refine jv_Wp.cnd jv_i97 (pt := 134) (pe := 120) (p := (¬ (vl_I f.code) = (149 : Int32))) (q := (¬ (vl_I f.code) = (149 : Int32))) rfl jv_bc_ne rfl rfl Iff.rfl (fun h15 => ?_) (fun h15 => ?_)
                  · refine jv_Wp.lift (fun _ Kz => jv_Ev.steps jv_i97 1 (pc' := 135) (l' := [(6, .int (0 : Int32)), (5, .int (0 : Int32)), (4, .int (1 : Int32)), (3, .int (vl_I f.code)), (2, .int (vl_I f.n)), (0, .long w)]) (st' := [.int (0 : Int32)]) rfl Kz) ?_
                    refine jv_Wp.of (jv_Ev.ret jv_i97 rfl (jv_ret_b (Or.inl rfl))) ?_
                    have x1 : f.n = 0 := (vl_I_inj (a := f.n) (b := 0) (Nat.lt_trans bn (by decide)) (by decide)).mp h1
                    have x2 : f.d = 0 := (vl_I_inj (a := f.d) (b := 0) (Nat.lt_trans bd (by decide)) (by decide)).mp (Classical.not_not.mp h2)
                    have x3 : f.s = 0 := (vl_I_inj (a := f.s) (b := 0) (Nat.lt_trans bs (by decide)) (by decide)).mp (Classical.not_not.mp h6)
                    have y4 : ¬ f.o = 0 := fun z => h10 (Int32.toInt_inj.mp ((vw_dO ef).trans (z.trans rfl)))
                    have y5 : ¬ f.i = 0 := fun z => h11 (Int32.toInt_inj.mp ((vw_dQ ef).trans (z.trans rfl)))
                    have x6 : ¬ f.code = 5 := fun z => h12 ((vl_I_inj (a := f.code) (b := 5) (Nat.lt_trans bc (by decide)) (by decide)).mpr z)
                    have x7 : ¬ f.code = 6 := fun z => h13 ((vl_I_inj (a := f.code) (b := 6) (Nat.lt_trans bc (by decide)) (by decide)).mpr z)
                    have x8 : ¬ f.code = 133 := fun z => h14 ((vl_I_inj (a := f.code) (b := 133) (Nat.lt_trans bc (by decide)) (by decide)).mpr z)
                    have x9 : ¬ f.code = 149 := fun z => h15 ((vl_I_inj (a := f.code) (b := 149) (Nat.lt_trans bc (by decide)) (by decide)).mpr z)
                    have ev : decide (vf_pJ f) = false := decide_eq_false (fun z => by have y := (vf_pJ_0 (by omega)).mp z; omega)
                    rw [ev] at hQ
                    exact hQ
                  · refine jv_Wp.lift (fun _ Kz => jv_Ev.steps jv_i97 1 (pc' := 122) (l' := [(6, .int (0 : Int32)), (5, .int (0 : Int32)), (4, .int (1 : Int32)), (3, .int (vl_I f.code)), (2, .int (vl_I f.n)), (0, .long w)]) (st' := [.int (0 : Int32)]) rfl Kz) ?_
                    refine jv_Wp.lift (fun _ Kz => jv_Ev.br jv_i97 (pc' := 134) (st' := []) rfl (by rfl) Kz) ?_
                    refine jv_Wp.lift (fun _ Kz => jv_Ev.steps jv_i97 1 (pc' := 135) (l' := [(6, .int (0 : Int32)), (5, .int (0 : Int32)), (4, .int (1 : Int32)), (3, .int (vl_I f.code)), (2, .int (vl_I f.n)), (0, .long w)]) (st' := [.int (0 : Int32)]) rfl Kz) ?_
                    refine jv_Wp.of (jv_Ev.ret jv_i97 rfl (jv_ret_b (Or.inl rfl))) ?_
                    have x1 : f.n = 0 := (vl_I_inj (a := f.n) (b := 0) (Nat.lt_trans bn (by decide)) (by decide)).mp h1
                    have x2 : f.d = 0 := (vl_I_inj (a := f.d) (b := 0) (Nat.lt_trans bd (by decide)) (by decide)).mp (Classical.not_not.mp h2)
                    have x3 : f.s = 0 := (vl_I_inj (a := f.s) (b := 0) (Nat.lt_trans bs (by decide)) (by decide)).mp (Classical.not_not.mp h6)
                    have y4 : ¬ f.o = 0 := fun z => h10 (Int32.toInt_inj.mp ((vw_dO ef).trans (z.trans rfl)))
                    have y5 : ¬ f.i = 0 := fun z => h11 (Int32.toInt_inj.mp ((vw_dQ ef).trans (z.trans rfl)))
                    have x6 : ¬ f.code = 5 := fun z => h12 ((vl_I_inj (a := f.code) (b := 5) (Nat.lt_trans bc (by decide)) (by decide)).mpr z)
                    have x7 : ¬ f.code = 6 := fun z => h13 ((vl_I_inj (a := f.code) (b := 6) (Nat.lt_trans bc (by decide)) (by decide)).mpr z)
                    have x8 : ¬ f.code = 133 := fun z => h14 ((vl_I_inj (a := f.code) (b := 133) (Nat.lt_trans bc (by decide)) (by decide)).mpr z)
                    have x9 : f.code = 149 := (vl_I_inj (a := f.code) (b := 149) (Nat.lt_trans bc (by decide)) (by decide)).mp (Classical.not_not.mp h15)
                    have ev : decide (vf_pJ f) = false := decide_eq_false (fun z => by have y := (vf_pJ_0 (by omega)).mp z; omega)
                    rw [ev] at hQ
                    exact hQ
                · refine jv_Wp.lift (fun _ Kz => jv_Ev.steps jv_i97 1 (pc' := 110) (l' := [(6, .int (0 : Int32)), (5, .int (0 : Int32)), (4, .int (1 : Int32)), (3, .int (vl_I f.code)), (2, .int (vl_I f.n)), (0, .long w)]) (st' := [.int (0 : Int32)]) rfl Kz) ?_
                  refine jv_Wp.lift (fun _ Kz => jv_Ev.br jv_i97 (pc' := 113) (st' := []) rfl (by rfl) Kz) ?_
                  refine jv_Wp.lift (fun _ Kz => jv_Ev.steps jv_i97 2 (pc' := 117) (l' := [(6, .int (0 : Int32)), (5, .int (0 : Int32)), (4, .int (1 : Int32)), (3, .int (vl_I f.code)), (2, .int (vl_I f.n)), (0, .long w)]) (st' := [.int (149 : Int32), .int (vl_I f.code)]) rfl Kz) ?_
                  refine jv_Wp.cnd jv_i97 (pt := 134) (pe := 120) (p := (¬ (vl_I f.code) = (149 : Int32))) (q := (¬ (vl_I f.code) = (149 : Int32))) rfl jv_bc_ne rfl rfl Iff.rfl (fun _ => ?_) (fun hz => absurd (fun z => absurd (z.symm.trans (Classical.not_not.mp h14)) (by decide)) hz)
                  refine jv_Wp.lift (fun _ Kz => jv_Ev.steps jv_i97 1 (pc' := 135) (l' := [(6, .int (0 : Int32)), (5, .int (0 : Int32)), (4, .int (1 : Int32)), (3, .int (vl_I f.code)), (2, .int (vl_I f.n)), (0, .long w)]) (st' := [.int (0 : Int32)]) rfl Kz) ?_
                  refine jv_Wp.of (jv_Ev.ret jv_i97 rfl (jv_ret_b (Or.inl rfl))) ?_
                  have x1 : f.n = 0 := (vl_I_inj (a := f.n) (b := 0) (Nat.lt_trans bn (by decide)) (by decide)).mp h1
                  have x2 : f.d = 0 := (vl_I_inj (a := f.d) (b := 0) (Nat.lt_trans bd (by decide)) (by decide)).mp (Classical.not_not.mp h2)
                  have x3 : f.s = 0 := (vl_I_inj (a := f.s) (b := 0) (Nat.lt_trans bs (by decide)) (by decide)).mp (Classical.not_not.mp h6)
                  have y4 : ¬ f.o = 0 := fun z => h10 (Int32.toInt_inj.mp ((vw_dO ef).trans (z.trans rfl)))
                  have y5 : ¬ f.i = 0 := fun z => h11 (Int32.toInt_inj.mp ((vw_dQ ef).trans (z.trans rfl)))
                  have x6 : ¬ f.code = 5 := fun z => h12 ((vl_I_inj (a := f.code) (b := 5) (Nat.lt_trans bc (by decide)) (by decide)).mpr z)
                  have x7 : ¬ f.code = 6 := fun z => h13 ((vl_I_inj (a := f.code) (b := 6) (Nat.lt_trans bc (by decide)) (by decide)).mpr z)
                  have x8 : f.code = 133 := (vl_I_inj (a := f.code) (b := 133) (Nat.lt_trans bc (by decide)) (by decide)).mp (Classical.not_not.mp h14)
                  have ev : decide (vf_pJ f) = false := decide_eq_false (fun z => by have y := (vf_pJ_0 (by omega)).mp z; omega)
                  rw [ev] at hQ
                  exact hQ
              · refine jv_Wp.lift (fun _ Kz => jv_Ev.steps jv_i97 1 (pc' := 98) (l' := [(6, .int (0 : Int32)), (5, .int (0 : Int32)), (4, .int (1 : Int32)), (3, .int (vl_I f.code)), (2, .int (vl_I f.n)), (0, .long w)]) (st' := [.int (0 : Int32)]) rfl Kz) ?_
                refine jv_Wp.lift (fun _ Kz => jv_Ev.br jv_i97 (pc' := 101) (st' := []) rfl (by rfl) Kz) ?_
                refine jv_Wp.lift (fun _ Kz => jv_Ev.steps jv_i97 2 (pc' := 105) (l' := [(6, .int (0 : Int32)), (5, .int (0 : Int32)), (4, .int (1 : Int32)), (3, .int (vl_I f.code)), (2, .int (vl_I f.n)), (0, .long w)]) (st' := [.int (133 : Int32), .int (vl_I f.code)]) rfl Kz) ?_
                refine jv_Wp.cnd jv_i97 (pt := 113) (pe := 108) (p := (¬ (vl_I f.code) = (133 : Int32))) (q := (¬ (vl_I f.code) = (133 : Int32))) rfl jv_bc_ne rfl rfl Iff.rfl (fun _ => ?_) (fun hz => absurd (fun z => absurd (z.symm.trans (Classical.not_not.mp h13)) (by decide)) hz)
                refine jv_Wp.lift (fun _ Kz => jv_Ev.steps jv_i97 2 (pc' := 117) (l' := [(6, .int (0 : Int32)), (5, .int (0 : Int32)), (4, .int (1 : Int32)), (3, .int (vl_I f.code)), (2, .int (vl_I f.n)), (0, .long w)]) (st' := [.int (149 : Int32), .int (vl_I f.code)]) rfl Kz) ?_
                refine jv_Wp.cnd jv_i97 (pt := 134) (pe := 120) (p := (¬ (vl_I f.code) = (149 : Int32))) (q := (¬ (vl_I f.code) = (149 : Int32))) rfl jv_bc_ne rfl rfl Iff.rfl (fun _ => ?_) (fun hz => absurd (fun z => absurd (z.symm.trans (Classical.not_not.mp h13)) (by decide)) hz)
                refine jv_Wp.lift (fun _ Kz => jv_Ev.steps jv_i97 1 (pc' := 135) (l' := [(6, .int (0 : Int32)), (5, .int (0 : Int32)), (4, .int (1 : Int32)), (3, .int (vl_I f.code)), (2, .int (vl_I f.n)), (0, .long w)]) (st' := [.int (0 : Int32)]) rfl Kz) ?_
                refine jv_Wp.of (jv_Ev.ret jv_i97 rfl (jv_ret_b (Or.inl rfl))) ?_
                have x1 : f.n = 0 := (vl_I_inj (a := f.n) (b := 0) (Nat.lt_trans bn (by decide)) (by decide)).mp h1
                have x2 : f.d = 0 := (vl_I_inj (a := f.d) (b := 0) (Nat.lt_trans bd (by decide)) (by decide)).mp (Classical.not_not.mp h2)
                have x3 : f.s = 0 := (vl_I_inj (a := f.s) (b := 0) (Nat.lt_trans bs (by decide)) (by decide)).mp (Classical.not_not.mp h6)
                have y4 : ¬ f.o = 0 := fun z => h10 (Int32.toInt_inj.mp ((vw_dO ef).trans (z.trans rfl)))
                have y5 : ¬ f.i = 0 := fun z => h11 (Int32.toInt_inj.mp ((vw_dQ ef).trans (z.trans rfl)))
                have x6 : ¬ f.code = 5 := fun z => h12 ((vl_I_inj (a := f.code) (b := 5) (Nat.lt_trans bc (by decide)) (by decide)).mpr z)
                have x7 : f.code = 6 := (vl_I_inj (a := f.code) (b := 6) (Nat.lt_trans bc (by decide)) (by decide)).mp (Classical.not_not.mp h13)
                have ev : decide (vf_pJ f) = false := decide_eq_false (fun z => by have y := (vf_pJ_0 (by omega)).mp z; omega)
                rw [ev] at hQ
                exact hQ
            · refine jv_Wp.lift (fun _ Kz => jv_Ev.steps jv_i97 1 (pc' := 87) (l' := [(6, .int (0 : Int32)), (5, .int (0 : Int32)), (4, .int (1 : Int32)), (3, .int (vl_I f.code)), (2, .int (vl_I f.n)), (0, .long w)]) (st' := [.int (0 : Int32)]) rfl Kz) ?_
              refine jv_Wp.lift (fun _ Kz => jv_Ev.br jv_i97 (pc' := 90) (st' := []) rfl (by rfl) Kz) ?_
              refine jv_Wp.lift (fun _ Kz => jv_Ev.steps jv_i97 2 (pc' := 93) (l' := [(6, .int (0 : Int32)), (5, .int (0 : Int32)), (4, .int (1 : Int32)), (3, .int (vl_I f.code)), (2, .int (vl_I f.n)), (0, .long w)]) (st' := [.int (6 : Int32), .int (vl_I f.code)]) rfl Kz) ?_
              refine jv_Wp.cnd jv_i97 (pt := 101) (pe := 96) (p := (¬ (vl_I f.code) = (6 : Int32))) (q := (¬ (vl_I f.code) = (6 : Int32))) rfl jv_bc_ne rfl rfl Iff.rfl (fun _ => ?_) (fun hz => absurd (fun z => absurd (z.symm.trans (Classical.not_not.mp h12)) (by decide)) hz)
              refine jv_Wp.lift (fun _ Kz => jv_Ev.steps jv_i97 2 (pc' := 105) (l' := [(6, .int (0 : Int32)), (5, .int (0 : Int32)), (4, .int (1 : Int32)), (3, .int (vl_I f.code)), (2, .int (vl_I f.n)), (0, .long w)]) (st' := [.int (133 : Int32), .int (vl_I f.code)]) rfl Kz) ?_
              refine jv_Wp.cnd jv_i97 (pt := 113) (pe := 108) (p := (¬ (vl_I f.code) = (133 : Int32))) (q := (¬ (vl_I f.code) = (133 : Int32))) rfl jv_bc_ne rfl rfl Iff.rfl (fun _ => ?_) (fun hz => absurd (fun z => absurd (z.symm.trans (Classical.not_not.mp h12)) (by decide)) hz)
              refine jv_Wp.lift (fun _ Kz => jv_Ev.steps jv_i97 2 (pc' := 117) (l' := [(6, .int (0 : Int32)), (5, .int (0 : Int32)), (4, .int (1 : Int32)), (3, .int (vl_I f.code)), (2, .int (vl_I f.n)), (0, .long w)]) (st' := [.int (149 : Int32), .int (vl_I f.code)]) rfl Kz) ?_
              refine jv_Wp.cnd jv_i97 (pt := 134) (pe := 120) (p := (¬ (vl_I f.code) = (149 : Int32))) (q := (¬ (vl_I f.code) = (149 : Int32))) rfl jv_bc_ne rfl rfl Iff.rfl (fun _ => ?_) (fun hz => absurd (fun z => absurd (z.symm.trans (Classical.not_not.mp h12)) (by decide)) hz)
              refine jv_Wp.lift (fun _ Kz => jv_Ev.steps jv_i97 1 (pc' := 135) (l' := [(6, .int (0 : Int32)), (5, .int (0 : Int32)), (4, .int (1 : Int32)), (3, .int (vl_I f.code)), (2, .int (vl_I f.n)), (0, .long w)]) (st' := [.int (0 : Int32)]) rfl Kz) ?_
              refine jv_Wp.of (jv_Ev.ret jv_i97 rfl (jv_ret_b (Or.inl rfl))) ?_
              have x1 : f.n = 0 := (vl_I_inj (a := f.n) (b := 0) (Nat.lt_trans bn (by decide)) (by decide)).mp h1
              have x2 : f.d = 0 := (vl_I_inj (a := f.d) (b := 0) (Nat.lt_trans bd (by decide)) (by decide)).mp (Classical.not_not.mp h2)
              have x3 : f.s = 0 := (vl_I_inj (a := f.s) (b := 0) (Nat.lt_trans bs (by decide)) (by decide)).mp (Classical.not_not.mp h6)
              have y4 : ¬ f.o = 0 := fun z => h10 (Int32.toInt_inj.mp ((vw_dO ef).trans (z.trans rfl)))
              have y5 : ¬ f.i = 0 := fun z => h11 (Int32.toInt_inj.mp ((vw_dQ ef).trans (z.trans rfl)))
              have x6 : f.code = 5 := (vl_I_inj (a := f.code) (b := 5) (Nat.lt_trans bc (by decide)) (by decide)).mp (Classical.not_not.mp h12)
              have ev : decide (vf_pJ f) = false := decide_eq_false (fun z => by have y := (vf_pJ_0 (by omega)).mp z; omega)
              rw [ev] at hQ
              exact hQ
          · refine jv_Wp.lift (fun _ Kz => jv_Ev.steps jv_i97 4 (pc' := 77) (l' := [(6, .int (1 : Int32)), (5, .int (0 : Int32)), (4, .int (1 : Int32)), (3, .int (vl_I f.code)), (2, .int (vl_I f.n)), (0, .long w)]) (st' := [.int (1 : Int32)]) rfl Kz) ?_
            refine jv_Wp.lift (fun _ Kz => jv_Ev.br jv_i97 (pc' := 80) (st' := []) rfl (by rfl) Kz) ?_
            refine jv_Wp.lift (fun _ Kz => jv_Ev.steps jv_i97 2 (pc' := 82) (l' := [(6, .int (1 : Int32)), (5, .int (0 : Int32)), (4, .int (1 : Int32)), (3, .int (vl_I f.code)), (2, .int (vl_I f.n)), (0, .long w)]) (st' := [.int (5 : Int32), .int (vl_I f.code)]) rfl Kz) ?_
            refine jv_Wp.cnd jv_i97 (pt := 90) (pe := 85) (p := (¬ (vl_I f.code) = (5 : Int32))) (q := (¬ (vl_I f.code) = (5 : Int32))) rfl jv_bc_ne rfl rfl Iff.rfl (fun h16 => ?_) (fun h16 => ?_)
            · refine jv_Wp.lift (fun _ Kz => jv_Ev.steps jv_i97 2 (pc' := 93) (l' := [(6, .int (1 : Int32)), (5, .int (0 : Int32)), (4, .int (1 : Int32)), (3, .int (vl_I f.code)), (2, .int (vl_I f.n)), (0, .long w)]) (st' := [.int (6 : Int32), .int (vl_I f.code)]) rfl Kz) ?_
              refine jv_Wp.cnd jv_i97 (pt := 101) (pe := 96) (p := (¬ (vl_I f.code) = (6 : Int32))) (q := (¬ (vl_I f.code) = (6 : Int32))) rfl jv_bc_ne rfl rfl Iff.rfl (fun h17 => ?_) (fun h17 => ?_)
              · refine jv_Wp.lift (fun _ Kz => jv_Ev.steps jv_i97 2 (pc' := 105) (l' := [(6, .int (1 : Int32)), (5, .int (0 : Int32)), (4, .int (1 : Int32)), (3, .int (vl_I f.code)), (2, .int (vl_I f.n)), (0, .long w)]) (st' := [.int (133 : Int32), .int (vl_I f.code)]) rfl Kz) ?_
                refine jv_Wp.cnd jv_i97 (pt := 113) (pe := 108) (p := (¬ (vl_I f.code) = (133 : Int32))) (q := (¬ (vl_I f.code) = (133 : Int32))) rfl jv_bc_ne rfl rfl Iff.rfl (fun h18 => ?_) (fun h18 => ?_)
                · refine jv_Wp.lift (fun _ Kz => jv_Ev.steps jv_i97 2 (pc' := 117) (l' := [(6, .int (1 : Int32)), (5, .int (0 : Int32)), (4, .int (1 : Int32)), (3, .int (vl_I f.code)), (2, .int (vl_I f.n)), (0, .long w)]) (st' := [.int (149 : Int32), .int (vl_I f.code)]) rfl Kz) ?_
                  refine jv_Wp.cnd jv_i97 (pt := 134) (pe := 120) (p := (¬ (vl_I f.code) = (149 : Int32))) (q := (¬ (vl_I f.code) = (149 : Int32))) rfl jv_bc_ne rfl rfl Iff.rfl (fun h19 => ?_) (fun h19 => ?_)
                  · refine jv_Wp.lift (fun _ Kz => jv_Ev.steps jv_i97 1 (pc' := 135) (l' := [(6, .int (1 : Int32)), (5, .int (0 : Int32)), (4, .int (1 : Int32)), (3, .int (vl_I f.code)), (2, .int (vl_I f.n)), (0, .long w)]) (st' := [.int (0 : Int32)]) rfl Kz) ?_
                    refine jv_Wp.of (jv_Ev.ret jv_i97 rfl (jv_ret_b (Or.inl rfl))) ?_
                    have x1 : f.n = 0 := (vl_I_inj (a := f.n) (b := 0) (Nat.lt_trans bn (by decide)) (by decide)).mp h1
                    have x2 : f.d = 0 := (vl_I_inj (a := f.d) (b := 0) (Nat.lt_trans bd (by decide)) (by decide)).mp (Classical.not_not.mp h2)
                    have x3 : f.s = 0 := (vl_I_inj (a := f.s) (b := 0) (Nat.lt_trans bs (by decide)) (by decide)).mp (Classical.not_not.mp h6)
                    have y4 : ¬ f.o = 0 := fun z => h10 (Int32.toInt_inj.mp ((vw_dO ef).trans (z.trans rfl)))
                    have y5 : f.i = 0 := (vw_dQ ef).symm.trans (congrArg Int32.toInt (Classical.not_not.mp h11))
                    have x6 : ¬ f.code = 5 := fun z => h16 ((vl_I_inj (a := f.code) (b := 5) (Nat.lt_trans bc (by decide)) (by decide)).mpr z)
                    have x7 : ¬ f.code = 6 := fun z => h17 ((vl_I_inj (a := f.code) (b := 6) (Nat.lt_trans bc (by decide)) (by decide)).mpr z)
                    have x8 : ¬ f.code = 133 := fun z => h18 ((vl_I_inj (a := f.code) (b := 133) (Nat.lt_trans bc (by decide)) (by decide)).mpr z)
                    have x9 : ¬ f.code = 149 := fun z => h19 ((vl_I_inj (a := f.code) (b := 149) (Nat.lt_trans bc (by decide)) (by decide)).mpr z)
                    have ev : decide (vf_pJ f) = false := decide_eq_false (fun z => by have y := (vf_pJ_0 (by omega)).mp z; omega)
                    rw [ev] at hQ
                    exact hQ
                  · refine jv_Wp.lift (fun _ Kz => jv_Ev.steps jv_i97 1 (pc' := 122) (l' := [(6, .int (1 : Int32)), (5, .int (0 : Int32)), (4, .int (1 : Int32)), (3, .int (vl_I f.code)), (2, .int (vl_I f.n)), (0, .long w)]) (st' := [.int (0 : Int32)]) rfl Kz) ?_
                    refine jv_Wp.lift (fun _ Kz => jv_Ev.br jv_i97 (pc' := 134) (st' := []) rfl (by rfl) Kz) ?_
                    refine jv_Wp.lift (fun _ Kz => jv_Ev.steps jv_i97 1 (pc' := 135) (l' := [(6, .int (1 : Int32)), (5, .int (0 : Int32)), (4, .int (1 : Int32)), (3, .int (vl_I f.code)), (2, .int (vl_I f.n)), (0, .long w)]) (st' := [.int (0 : Int32)]) rfl Kz) ?_
                    refine jv_Wp.of (jv_Ev.ret jv_i97 rfl (jv_ret_b (Or.inl rfl))) ?_
                    have x1 : f.n = 0 := (vl_I_inj (a := f.n) (b := 0) (Nat.lt_trans bn (by decide)) (by decide)).mp h1
                    have x2 : f.d = 0 := (vl_I_inj (a := f.d) (b := 0) (Nat.lt_trans bd (by decide)) (by decide)).mp (Classical.not_not.mp h2)
                    have x3 : f.s = 0 := (vl_I_inj (a := f.s) (b := 0) (Nat.lt_trans bs (by decide)) (by decide)).mp (Classical.not_not.mp h6)
                    have y4 : ¬ f.o = 0 := fun z => h10 (Int32.toInt_inj.mp ((vw_dO ef).trans (z.trans rfl)))
                    have y5 : f.i = 0 := (vw_dQ ef).symm.trans (congrArg Int32.toInt (Classical.not_not.mp h11))
                    have x6 : ¬ f.code = 5 := fun z => h16 ((vl_I_inj (a := f.code) (b := 5) (Nat.lt_trans bc (by decide)) (by decide)).mpr z)
                    have x7 : ¬ f.code = 6 := fun z => h17 ((vl_I_inj (a := f.code) (b := 6) (Nat.lt_trans bc (by decide)) (by decide)).mpr z)
                    have x8 : ¬ f.code = 133 := fun z => h18 ((vl_I_inj (a := f.code) (b := 133) (Nat.lt_trans bc (by decide)) (by decide)).mpr z)
                    have x9 : f.code = 149 := (vl_I_inj (a := f.code) (b := 149) (Nat.lt_trans bc (by decide)) (by decide)).mp (Classical.not_not.mp h19)
                    have ev : decide (vf_pJ f) = false := decide_eq_false (fun z => by have y := (vf_pJ_0 (by omega)).mp z; omega)
                    rw [ev] at hQ
                    exact hQ
                · refine jv_Wp.lift (fun _ Kz => jv_Ev.steps jv_i97 1 (pc' := 110) (l' := [(6, .int (1 : Int32)), (5, .int (0 : Int32)), (4, .int (1 : Int32)), (3, .int (vl_I f.code)), (2, .int (vl_I f.n)), (0, .long w)]) (st' := [.int (0 : Int32)]) rfl Kz) ?_
                  refine jv_Wp.lift (fun _ Kz => jv_Ev.br jv_i97 (pc' := 113) (st' := []) rfl (by rfl) Kz) ?_
                  refine jv_Wp.lift (fun _ Kz => jv_Ev.steps jv_i97 2 (pc' := 117) (l' := [(6, .int (1 : Int32)), (5, .int (0 : Int32)), (4, .int (1 : Int32)), (3, .int (vl_I f.code)), (2, .int (vl_I f.n)), (0, .long w)]) (st' := [.int (149 : Int32), .int (vl_I f.code)]) rfl Kz) ?_
                  refine jv_Wp.cnd jv_i97 (pt := 134) (pe := 120) (p := (¬ (vl_I f.code) = (149 : Int32))) (q := (¬ (vl_I f.code) = (149 : Int32))) rfl jv_bc_ne rfl rfl Iff.rfl (fun _ => ?_) (fun hz => absurd (fun z => absurd (z.symm.trans (Classical.not_not.mp h18)) (by decide)) hz)
                  refine jv_Wp.lift (fun _ Kz => jv_Ev.steps jv_i97 1 (pc' := 135) (l' := [(6, .int (1 : Int32)), (5, .int (0 : Int32)), (4, .int (1 : Int32)), (3, .int (vl_I f.code)), (2, .int (vl_I f.n)), (0, .long w)]) (st' := [.int (0 : Int32)]) rfl Kz) ?_
                  refine jv_Wp.of (jv_Ev.ret jv_i97 rfl (jv_ret_b (Or.inl rfl))) ?_
                  have x1 : f.n = 0 := (vl_I_inj (a := f.n) (b := 0) (Nat.lt_trans bn (by decide)) (by decide)).mp h1
                  have x2 : f.d = 0 := (vl_I_inj (a := f.d) (b := 0) (Nat.lt_trans bd (by decide)) (by decide)).mp (Classical.not_not.mp h2)
                  have x3 : f.s = 0 := (vl_I_inj (a := f.s) (b := 0) (Nat.lt_trans bs (by decide)) (by decide)).mp (Classical.not_not.mp h6)
                  have y4 : ¬ f.o = 0 := fun z => h10 (Int32.toInt_inj.mp ((vw_dO ef).trans (z.trans rfl)))
                  have y5 : f.i = 0 := (vw_dQ ef).symm.trans (congrArg Int32.toInt (Classical.not_not.mp h11))
                  have x6 : ¬ f.code = 5 := fun z => h16 ((vl_I_inj (a := f.code) (b := 5) (Nat.lt_trans bc (by decide)) (by decide)).mpr z)
                  have x7 : ¬ f.code = 6 := fun z => h17 ((vl_I_inj (a := f.code) (b := 6) (Nat.lt_trans bc (by decide)) (by decide)).mpr z)
                  have x8 : f.code = 133 := (vl_I_inj (a := f.code) (b := 133) (Nat.lt_trans bc (by decide)) (by decide)).mp (Classical.not_not.mp h18)
                  have ev : decide (vf_pJ f) = false := decide_eq_false (fun z => by have y := (vf_pJ_0 (by omega)).mp z; omega)
                  rw [ev] at hQ
                  exact hQ
              · refine jv_Wp.lift (fun _ Kz => jv_Ev.steps jv_i97 1 (pc' := 98) (l' := [(6, .int (1 : Int32)), (5, .int (0 : Int32)), (4, .int (1 : Int32)), (3, .int (vl_I f.code)), (2, .int (vl_I f.n)), (0, .long w)]) (st' := [.int (0 : Int32)]) rfl Kz) ?_
                refine jv_Wp.lift (fun _ Kz => jv_Ev.br jv_i97 (pc' := 101) (st' := []) rfl (by rfl) Kz) ?_
                refine jv_Wp.lift (fun _ Kz => jv_Ev.steps jv_i97 2 (pc' := 105) (l' := [(6, .int (1 : Int32)), (5, .int (0 : Int32)), (4, .int (1 : Int32)), (3, .int (vl_I f.code)), (2, .int (vl_I f.n)), (0, .long w)]) (st' := [.int (133 : Int32), .int (vl_I f.code)]) rfl Kz) ?_
                refine jv_Wp.cnd jv_i97 (pt := 113) (pe := 108) (p := (¬ (vl_I f.code) = (133 : Int32))) (q := (¬ (vl_I f.code) = (133 : Int32))) rfl jv_bc_ne rfl rfl Iff.rfl (fun _ => ?_) (fun hz => absurd (fun z => absurd (z.symm.trans (Classical.not_not.mp h17)) (by decide)) hz)
                refine jv_Wp.lift (fun _ Kz => jv_Ev.steps jv_i97 2 (pc' := 117) (l' := [(6, .int (1 : Int32)), (5, .int (0 : Int32)), (4, .int (1 : Int32)), (3, .int (vl_I f.code)), (2, .int (vl_I f.n)), (0, .long w)]) (st' := [.int (149 : Int32), .int (vl_I f.code)]) rfl Kz) ?_
                refine jv_Wp.cnd jv_i97 (pt := 134) (pe := 120) (p := (¬ (vl_I f.code) = (149 : Int32))) (q := (¬ (vl_I f.code) = (149 : Int32))) rfl jv_bc_ne rfl rfl Iff.rfl (fun _ => ?_) (fun hz => absurd (fun z => absurd (z.symm.trans (Classical.not_not.mp h17)) (by decide)) hz)
                refine jv_Wp.lift (fun _ Kz => jv_Ev.steps jv_i97 1 (pc' := 135) (l' := [(6, .int (1 : Int32)), (5, .int (0 : Int32)), (4, .int (1 : Int32)), (3, .int (vl_I f.code)), (2, .int (vl_I f.n)), (0, .long w)]) (st' := [.int (0 : Int32)]) rfl Kz) ?_
                refine jv_Wp.of (jv_Ev.ret jv_i97 rfl (jv_ret_b (Or.inl rfl))) ?_
                have x1 : f.n = 0 := (vl_I_inj (a := f.n) (b := 0) (Nat.lt_trans bn (by decide)) (by decide)).mp h1
                have x2 : f.d = 0 := (vl_I_inj (a := f.d) (b := 0) (Nat.lt_trans bd (by decide)) (by decide)).mp (Classical.not_not.mp h2)
                have x3 : f.s = 0 := (vl_I_inj (a := f.s) (b := 0) (Nat.lt_trans bs (by decide)) (by decide)).mp (Classical.not_not.mp h6)
                have y4 : ¬ f.o = 0 := fun z => h10 (Int32.toInt_inj.mp ((vw_dO ef).trans (z.trans rfl)))
                have y5 : f.i = 0 := (vw_dQ ef).symm.trans (congrArg Int32.toInt (Classical.not_not.mp h11))
                have x6 : ¬ f.code = 5 := fun z => h16 ((vl_I_inj (a := f.code) (b := 5) (Nat.lt_trans bc (by decide)) (by decide)).mpr z)
                have x7 : f.code = 6 := (vl_I_inj (a := f.code) (b := 6) (Nat.lt_trans bc (by decide)) (by decide)).mp (Classical.not_not.mp h17)
                have ev : decide (vf_pJ f) = false := decide_eq_false (fun z => by have y := (vf_pJ_0 (by omega)).mp z; omega)
                rw [ev] at hQ
                exact hQ
            · refine jv_Wp.lift (fun _ Kz => jv_Ev.steps jv_i97 1 (pc' := 87) (l' := [(6, .int (1 : Int32)), (5, .int (0 : Int32)), (4, .int (1 : Int32)), (3, .int (vl_I f.code)), (2, .int (vl_I f.n)), (0, .long w)]) (st' := [.int (1 : Int32)]) rfl Kz) ?_
              refine jv_Wp.lift (fun _ Kz => jv_Ev.br jv_i97 (pc' := 130) (st' := []) rfl (by rfl) Kz) ?_
              refine jv_Wp.lift (fun _ Kz => jv_Ev.steps jv_i97 2 (pc' := 135) (l' := [(6, .int (1 : Int32)), (5, .int (0 : Int32)), (4, .int (1 : Int32)), (3, .int (vl_I f.code)), (2, .int (vl_I f.n)), (0, .long w)]) (st' := [.int (1 : Int32)]) rfl Kz) ?_
              refine jv_Wp.of (jv_Ev.ret jv_i97 rfl (jv_ret_b (Or.inr rfl))) ?_
              have x1 : f.n = 0 := (vl_I_inj (a := f.n) (b := 0) (Nat.lt_trans bn (by decide)) (by decide)).mp h1
              have x2 : f.d = 0 := (vl_I_inj (a := f.d) (b := 0) (Nat.lt_trans bd (by decide)) (by decide)).mp (Classical.not_not.mp h2)
              have x3 : f.s = 0 := (vl_I_inj (a := f.s) (b := 0) (Nat.lt_trans bs (by decide)) (by decide)).mp (Classical.not_not.mp h6)
              have y4 : ¬ f.o = 0 := fun z => h10 (Int32.toInt_inj.mp ((vw_dO ef).trans (z.trans rfl)))
              have y5 : f.i = 0 := (vw_dQ ef).symm.trans (congrArg Int32.toInt (Classical.not_not.mp h11))
              have x6 : f.code = 5 := (vl_I_inj (a := f.code) (b := 5) (Nat.lt_trans bc (by decide)) (by decide)).mp (Classical.not_not.mp h16)
              have ev : decide (vf_pJ f) = true := decide_eq_true ((vf_pJ_0 (by omega)).mpr (by omega))
              rw [ev] at hQ
              exact hQ
        · refine jv_Wp.lift (fun _ Kz => jv_Ev.steps jv_i97 4 (pc' := 62) (l' := [(5, .int (1 : Int32)), (4, .int (1 : Int32)), (3, .int (vl_I f.code)), (2, .int (vl_I f.n)), (0, .long w)]) (st' := [.long w]) rfl Kz) ?_
          refine jv_Wp.lift (fun _ Kz => jv_Ev.c jv_i97 (pc' := 65) (S' := [.int (Int32.ofInt f.i)]) jv_i89 [.long w] rfl rfl rfl rfl rfl rfl (vw_f89 ef) rfl rfl Kz) ?_
          refine jv_Wp.cnd jv_i97 (pt := 72) (pe := 68) (p := (¬ (Int32.ofInt f.i) = 0)) (q := (¬ (Int32.ofInt f.i) = 0)) rfl jv_bi_ne rfl rfl Iff.rfl (fun h20 => ?_) (fun h20 => ?_)
          · refine jv_Wp.lift (fun _ Kz => jv_Ev.steps jv_i97 3 (pc' := 77) (l' := [(6, .int (0 : Int32)), (5, .int (1 : Int32)), (4, .int (1 : Int32)), (3, .int (vl_I f.code)), (2, .int (vl_I f.n)), (0, .long w)]) (st' := [.int (1 : Int32)]) rfl Kz) ?_
            refine jv_Wp.lift (fun _ Kz => jv_Ev.br jv_i97 (pc' := 80) (st' := []) rfl (by rfl) Kz) ?_
            refine jv_Wp.lift (fun _ Kz => jv_Ev.steps jv_i97 2 (pc' := 82) (l' := [(6, .int (0 : Int32)), (5, .int (1 : Int32)), (4, .int (1 : Int32)), (3, .int (vl_I f.code)), (2, .int (vl_I f.n)), (0, .long w)]) (st' := [.int (5 : Int32), .int (vl_I f.code)]) rfl Kz) ?_
            refine jv_Wp.cnd jv_i97 (pt := 90) (pe := 85) (p := (¬ (vl_I f.code) = (5 : Int32))) (q := (¬ (vl_I f.code) = (5 : Int32))) rfl jv_bc_ne rfl rfl Iff.rfl (fun h21 => ?_) (fun h21 => ?_)
            · refine jv_Wp.lift (fun _ Kz => jv_Ev.steps jv_i97 2 (pc' := 93) (l' := [(6, .int (0 : Int32)), (5, .int (1 : Int32)), (4, .int (1 : Int32)), (3, .int (vl_I f.code)), (2, .int (vl_I f.n)), (0, .long w)]) (st' := [.int (6 : Int32), .int (vl_I f.code)]) rfl Kz) ?_
              refine jv_Wp.cnd jv_i97 (pt := 101) (pe := 96) (p := (¬ (vl_I f.code) = (6 : Int32))) (q := (¬ (vl_I f.code) = (6 : Int32))) rfl jv_bc_ne rfl rfl Iff.rfl (fun h22 => ?_) (fun h22 => ?_)
              · refine jv_Wp.lift (fun _ Kz => jv_Ev.steps jv_i97 2 (pc' := 105) (l' := [(6, .int (0 : Int32)), (5, .int (1 : Int32)), (4, .int (1 : Int32)), (3, .int (vl_I f.code)), (2, .int (vl_I f.n)), (0, .long w)]) (st' := [.int (133 : Int32), .int (vl_I f.code)]) rfl Kz) ?_
                refine jv_Wp.cnd jv_i97 (pt := 113) (pe := 108) (p := (¬ (vl_I f.code) = (133 : Int32))) (q := (¬ (vl_I f.code) = (133 : Int32))) rfl jv_bc_ne rfl rfl Iff.rfl (fun h23 => ?_) (fun h23 => ?_)
                · refine jv_Wp.lift (fun _ Kz => jv_Ev.steps jv_i97 2 (pc' := 117) (l' := [(6, .int (0 : Int32)), (5, .int (1 : Int32)), (4, .int (1 : Int32)), (3, .int (vl_I f.code)), (2, .int (vl_I f.n)), (0, .long w)]) (st' := [.int (149 : Int32), .int (vl_I f.code)]) rfl Kz) ?_
                  refine jv_Wp.cnd jv_i97 (pt := 134) (pe := 120) (p := (¬ (vl_I f.code) = (149 : Int32))) (q := (¬ (vl_I f.code) = (149 : Int32))) rfl jv_bc_ne rfl rfl Iff.rfl (fun h24 => ?_) (fun h24 => ?_)
                  · refine jv_Wp.lift (fun _ Kz => jv_Ev.steps jv_i97 1 (pc' := 135) (l' := [(6, .int (0 : Int32)), (5, .int (1 : Int32)), (4, .int (1 : Int32)), (3, .int (vl_I f.code)), (2, .int (vl_I f.n)), (0, .long w)]) (st' := [.int (0 : Int32)]) rfl Kz) ?_
                    refine jv_Wp.of (jv_Ev.ret jv_i97 rfl (jv_ret_b (Or.inl rfl))) ?_
                    have x1 : f.n = 0 := (vl_I_inj (a := f.n) (b := 0) (Nat.lt_trans bn (by decide)) (by decide)).mp h1
                    have x2 : f.d = 0 := (vl_I_inj (a := f.d) (b := 0) (Nat.lt_trans bd (by decide)) (by decide)).mp (Classical.not_not.mp h2)
                    have x3 : f.s = 0 := (vl_I_inj (a := f.s) (b := 0) (Nat.lt_trans bs (by decide)) (by decide)).mp (Classical.not_not.mp h6)
                    have y4 : f.o = 0 := (vw_dO ef).symm.trans (congrArg Int32.toInt (Classical.not_not.mp h10))
                    have y5 : ¬ f.i = 0 := fun z => h20 (Int32.toInt_inj.mp ((vw_dQ ef).trans (z.trans rfl)))
                    have x6 : ¬ f.code = 5 := fun z => h21 ((vl_I_inj (a := f.code) (b := 5) (Nat.lt_trans bc (by decide)) (by decide)).mpr z)
                    have x7 : ¬ f.code = 6 := fun z => h22 ((vl_I_inj (a := f.code) (b := 6) (Nat.lt_trans bc (by decide)) (by decide)).mpr z)
                    have x8 : ¬ f.code = 133 := fun z => h23 ((vl_I_inj (a := f.code) (b := 133) (Nat.lt_trans bc (by decide)) (by decide)).mpr z)
                    have x9 : ¬ f.code = 149 := fun z => h24 ((vl_I_inj (a := f.code) (b := 149) (Nat.lt_trans bc (by decide)) (by decide)).mpr z)
                    have ev : decide (vf_pJ f) = false := decide_eq_false (fun z => by have y := (vf_pJ_0 (by omega)).mp z; omega)
                    rw [ev] at hQ
                    exact hQ
                  · refine jv_Wp.lift (fun _ Kz => jv_Ev.steps jv_i97 1 (pc' := 122) (l' := [(6, .int (0 : Int32)), (5, .int (1 : Int32)), (4, .int (1 : Int32)), (3, .int (vl_I f.code)), (2, .int (vl_I f.n)), (0, .long w)]) (st' := [.int (1 : Int32)]) rfl Kz) ?_
                    refine jv_Wp.lift (fun _ Kz => jv_Ev.br jv_i97 (pc' := 125) (st' := []) rfl (by rfl) Kz) ?_
                    refine jv_Wp.lift (fun _ Kz => jv_Ev.steps jv_i97 1 (pc' := 127) (l' := [(6, .int (0 : Int32)), (5, .int (1 : Int32)), (4, .int (1 : Int32)), (3, .int (vl_I f.code)), (2, .int (vl_I f.n)), (0, .long w)]) (st' := [.int (0 : Int32)]) rfl Kz) ?_
                    refine jv_Wp.lift (fun _ Kz => jv_Ev.br jv_i97 (pc' := 134) (st' := []) rfl (by rfl) Kz) ?_
                    refine jv_Wp.lift (fun _ Kz => jv_Ev.steps jv_i97 1 (pc' := 135) (l' := [(6, .int (0 : Int32)), (5, .int (1 : Int32)), (4, .int (1 : Int32)), (3, .int (vl_I f.code)), (2, .int (vl_I f.n)), (0, .long w)]) (st' := [.int (0 : Int32)]) rfl Kz) ?_
                    refine jv_Wp.of (jv_Ev.ret jv_i97 rfl (jv_ret_b (Or.inl rfl))) ?_
                    have x1 : f.n = 0 := (vl_I_inj (a := f.n) (b := 0) (Nat.lt_trans bn (by decide)) (by decide)).mp h1
                    have x2 : f.d = 0 := (vl_I_inj (a := f.d) (b := 0) (Nat.lt_trans bd (by decide)) (by decide)).mp (Classical.not_not.mp h2)
                    have x3 : f.s = 0 := (vl_I_inj (a := f.s) (b := 0) (Nat.lt_trans bs (by decide)) (by decide)).mp (Classical.not_not.mp h6)
                    have y4 : f.o = 0 := (vw_dO ef).symm.trans (congrArg Int32.toInt (Classical.not_not.mp h10))
                    have y5 : ¬ f.i = 0 := fun z => h20 (Int32.toInt_inj.mp ((vw_dQ ef).trans (z.trans rfl)))
                    have x6 : ¬ f.code = 5 := fun z => h21 ((vl_I_inj (a := f.code) (b := 5) (Nat.lt_trans bc (by decide)) (by decide)).mpr z)
                    have x7 : ¬ f.code = 6 := fun z => h22 ((vl_I_inj (a := f.code) (b := 6) (Nat.lt_trans bc (by decide)) (by decide)).mpr z)
                    have x8 : ¬ f.code = 133 := fun z => h23 ((vl_I_inj (a := f.code) (b := 133) (Nat.lt_trans bc (by decide)) (by decide)).mpr z)
                    have x9 : f.code = 149 := (vl_I_inj (a := f.code) (b := 149) (Nat.lt_trans bc (by decide)) (by decide)).mp (Classical.not_not.mp h24)
                    have ev : decide (vf_pJ f) = false := decide_eq_false (fun z => by have y := (vf_pJ_0 (by omega)).mp z; omega)
                    rw [ev] at hQ
                    exact hQ
                · refine jv_Wp.lift (fun _ Kz => jv_Ev.steps jv_i97 1 (pc' := 110) (l' := [(6, .int (0 : Int32)), (5, .int (1 : Int32)), (4, .int (1 : Int32)), (3, .int (vl_I f.code)), (2, .int (vl_I f.n)), (0, .long w)]) (st' := [.int (1 : Int32)]) rfl Kz) ?_
                  refine jv_Wp.lift (fun _ Kz => jv_Ev.br jv_i97 (pc' := 130) (st' := []) rfl (by rfl) Kz) ?_
                  refine jv_Wp.lift (fun _ Kz => jv_Ev.steps jv_i97 2 (pc' := 135) (l' := [(6, .int (0 : Int32)), (5, .int (1 : Int32)), (4, .int (1 : Int32)), (3, .int (vl_I f.code)), (2, .int (vl_I f.n)), (0, .long w)]) (st' := [.int (1 : Int32)]) rfl Kz) ?_
                  refine jv_Wp.of (jv_Ev.ret jv_i97 rfl (jv_ret_b (Or.inr rfl))) ?_
                  have x1 : f.n = 0 := (vl_I_inj (a := f.n) (b := 0) (Nat.lt_trans bn (by decide)) (by decide)).mp h1
                  have x2 : f.d = 0 := (vl_I_inj (a := f.d) (b := 0) (Nat.lt_trans bd (by decide)) (by decide)).mp (Classical.not_not.mp h2)
                  have x3 : f.s = 0 := (vl_I_inj (a := f.s) (b := 0) (Nat.lt_trans bs (by decide)) (by decide)).mp (Classical.not_not.mp h6)
                  have y4 : f.o = 0 := (vw_dO ef).symm.trans (congrArg Int32.toInt (Classical.not_not.mp h10))
                  have y5 : ¬ f.i = 0 := fun z => h20 (Int32.toInt_inj.mp ((vw_dQ ef).trans (z.trans rfl)))
                  have x6 : ¬ f.code = 5 := fun z => h21 ((vl_I_inj (a := f.code) (b := 5) (Nat.lt_trans bc (by decide)) (by decide)).mpr z)
                  have x7 : ¬ f.code = 6 := fun z => h22 ((vl_I_inj (a := f.code) (b := 6) (Nat.lt_trans bc (by decide)) (by decide)).mpr z)
                  have x8 : f.code = 133 := (vl_I_inj (a := f.code) (b := 133) (Nat.lt_trans bc (by decide)) (by decide)).mp (Classical.not_not.mp h23)
                  have ev : decide (vf_pJ f) = true := decide_eq_true ((vf_pJ_0 (by omega)).mpr (by omega))
                  rw [ev] at hQ
                  exact hQ
              · refine jv_Wp.lift (fun _ Kz => jv_Ev.steps jv_i97 1 (pc' := 98) (l' := [(6, .int (0 : Int32)), (5, .int (1 : Int32)), (4, .int (1 : Int32)), (3, .int (vl_I f.code)), (2, .int (vl_I f.n)), (0, .long w)]) (st' := [.int (1 : Int32)]) rfl Kz) ?_
                refine jv_Wp.lift (fun _ Kz => jv_Ev.br jv_i97 (pc' := 130) (st' := []) rfl (by rfl) Kz) ?_
                refine jv_Wp.lift (fun _ Kz => jv_Ev.steps jv_i97 2 (pc' := 135) (l' := [(6, .int (0 : Int32)), (5, .int (1 : Int32)), (4, .int (1 : Int32)), (3, .int (vl_I f.code)), (2, .int (vl_I f.n)), (0, .long w)]) (st' := [.int (1 : Int32)]) rfl Kz) ?_
                refine jv_Wp.of (jv_Ev.ret jv_i97 rfl (jv_ret_b (Or.inr rfl))) ?_
                have x1 : f.n = 0 := (vl_I_inj (a := f.n) (b := 0) (Nat.lt_trans bn (by decide)) (by decide)).mp h1
                have x2 : f.d = 0 := (vl_I_inj (a := f.d) (b := 0) (Nat.lt_trans bd (by decide)) (by decide)).mp (Classical.not_not.mp h2)
                have x3 : f.s = 0 := (vl_I_inj (a := f.s) (b := 0) (Nat.lt_trans bs (by decide)) (by decide)).mp (Classical.not_not.mp h6)
                have y4 : f.o = 0 := (vw_dO ef).symm.trans (congrArg Int32.toInt (Classical.not_not.mp h10))
                have y5 : ¬ f.i = 0 := fun z => h20 (Int32.toInt_inj.mp ((vw_dQ ef).trans (z.trans rfl)))
                have x6 : ¬ f.code = 5 := fun z => h21 ((vl_I_inj (a := f.code) (b := 5) (Nat.lt_trans bc (by decide)) (by decide)).mpr z)
                have x7 : f.code = 6 := (vl_I_inj (a := f.code) (b := 6) (Nat.lt_trans bc (by decide)) (by decide)).mp (Classical.not_not.mp h22)
                have ev : decide (vf_pJ f) = true := decide_eq_true ((vf_pJ_0 (by omega)).mpr (by omega))
                rw [ev] at hQ
                exact hQ
            · refine jv_Wp.lift (fun _ Kz => jv_Ev.steps jv_i97 1 (pc' := 87) (l' := [(6, .int (0 : Int32)), (5, .int (1 : Int32)), (4, .int (1 : Int32)), (3, .int (vl_I f.code)), (2, .int (vl_I f.n)), (0, .long w)]) (st' := [.int (0 : Int32)]) rfl Kz) ?_
              refine jv_Wp.lift (fun _ Kz => jv_Ev.br jv_i97 (pc' := 90) (st' := []) rfl (by rfl) Kz) ?_
              refine jv_Wp.lift (fun _ Kz => jv_Ev.steps jv_i97 2 (pc' := 93) (l' := [(6, .int (0 : Int32)), (5, .int (1 : Int32)), (4, .int (1 : Int32)), (3, .int (vl_I f.code)), (2, .int (vl_I f.n)), (0, .long w)]) (st' := [.int (6 : Int32), .int (vl_I f.code)]) rfl Kz) ?_
              refine jv_Wp.cnd jv_i97 (pt := 101) (pe := 96) (p := (¬ (vl_I f.code) = (6 : Int32))) (q := (¬ (vl_I f.code) = (6 : Int32))) rfl jv_bc_ne rfl rfl Iff.rfl (fun _ => ?_) (fun hz => absurd (fun z => absurd (z.symm.trans (Classical.not_not.mp h21)) (by decide)) hz)
              refine jv_Wp.lift (fun _ Kz => jv_Ev.steps jv_i97 2 (pc' := 105) (l' := [(6, .int (0 : Int32)), (5, .int (1 : Int32)), (4, .int (1 : Int32)), (3, .int (vl_I f.code)), (2, .int (vl_I f.n)), (0, .long w)]) (st' := [.int (133 : Int32), .int (vl_I f.code)]) rfl Kz) ?_
              refine jv_Wp.cnd jv_i97 (pt := 113) (pe := 108) (p := (¬ (vl_I f.code) = (133 : Int32))) (q := (¬ (vl_I f.code) = (133 : Int32))) rfl jv_bc_ne rfl rfl Iff.rfl (fun _ => ?_) (fun hz => absurd (fun z => absurd (z.symm.trans (Classical.not_not.mp h21)) (by decide)) hz)
              refine jv_Wp.lift (fun _ Kz => jv_Ev.steps jv_i97 2 (pc' := 117) (l' := [(6, .int (0 : Int32)), (5, .int (1 : Int32)), (4, .int (1 : Int32)), (3, .int (vl_I f.code)), (2, .int (vl_I f.n)), (0, .long w)]) (st' := [.int (149 : Int32), .int (vl_I f.code)]) rfl Kz) ?_
              refine jv_Wp.cnd jv_i97 (pt := 134) (pe := 120) (p := (¬ (vl_I f.code) = (149 : Int32))) (q := (¬ (vl_I f.code) = (149 : Int32))) rfl jv_bc_ne rfl rfl Iff.rfl (fun _ => ?_) (fun hz => absurd (fun z => absurd (z.symm.trans (Classical.not_not.mp h21)) (by decide)) hz)
              refine jv_Wp.lift (fun _ Kz => jv_Ev.steps jv_i97 1 (pc' := 135) (l' := [(6, .int (0 : Int32)), (5, .int (1 : Int32)), (4, .int (1 : Int32)), (3, .int (vl_I f.code)), (2, .int (vl_I f.n)), (0, .long w)]) (st' := [.int (0 : Int32)]) rfl Kz) ?_
              refine jv_Wp.of (jv_Ev.ret jv_i97 rfl (jv_ret_b (Or.inl rfl))) ?_
              have x1 : f.n = 0 := (vl_I_inj (a := f.n) (b := 0) (Nat.lt_trans bn (by decide)) (by decide)).mp h1
              have x2 : f.d = 0 := (vl_I_inj (a := f.d) (b := 0) (Nat.lt_trans bd (by decide)) (by decide)).mp (Classical.not_not.mp h2)
              have x3 : f.s = 0 := (vl_I_inj (a := f.s) (b := 0) (Nat.lt_trans bs (by decide)) (by decide)).mp (Classical.not_not.mp h6)
              have y4 : f.o = 0 := (vw_dO ef).symm.trans (congrArg Int32.toInt (Classical.not_not.mp h10))
              have y5 : ¬ f.i = 0 := fun z => h20 (Int32.toInt_inj.mp ((vw_dQ ef).trans (z.trans rfl)))
              have x6 : f.code = 5 := (vl_I_inj (a := f.code) (b := 5) (Nat.lt_trans bc (by decide)) (by decide)).mp (Classical.not_not.mp h21)
              have ev : decide (vf_pJ f) = false := decide_eq_false (fun z => by have y := (vf_pJ_0 (by omega)).mp z; omega)
              rw [ev] at hQ
              exact hQ
          · refine jv_Wp.lift (fun _ Kz => jv_Ev.steps jv_i97 4 (pc' := 77) (l' := [(6, .int (1 : Int32)), (5, .int (1 : Int32)), (4, .int (1 : Int32)), (3, .int (vl_I f.code)), (2, .int (vl_I f.n)), (0, .long w)]) (st' := [.int (1 : Int32)]) rfl Kz) ?_
            refine jv_Wp.lift (fun _ Kz => jv_Ev.br jv_i97 (pc' := 80) (st' := []) rfl (by rfl) Kz) ?_
            refine jv_Wp.lift (fun _ Kz => jv_Ev.steps jv_i97 2 (pc' := 82) (l' := [(6, .int (1 : Int32)), (5, .int (1 : Int32)), (4, .int (1 : Int32)), (3, .int (vl_I f.code)), (2, .int (vl_I f.n)), (0, .long w)]) (st' := [.int (5 : Int32), .int (vl_I f.code)]) rfl Kz) ?_
            refine jv_Wp.cnd jv_i97 (pt := 90) (pe := 85) (p := (¬ (vl_I f.code) = (5 : Int32))) (q := (¬ (vl_I f.code) = (5 : Int32))) rfl jv_bc_ne rfl rfl Iff.rfl (fun h25 => ?_) (fun h25 => ?_)
            · refine jv_Wp.lift (fun _ Kz => jv_Ev.steps jv_i97 2 (pc' := 93) (l' := [(6, .int (1 : Int32)), (5, .int (1 : Int32)), (4, .int (1 : Int32)), (3, .int (vl_I f.code)), (2, .int (vl_I f.n)), (0, .long w)]) (st' := [.int (6 : Int32), .int (vl_I f.code)]) rfl Kz) ?_
              refine jv_Wp.cnd jv_i97 (pt := 101) (pe := 96) (p := (¬ (vl_I f.code) = (6 : Int32))) (q := (¬ (vl_I f.code) = (6 : Int32))) rfl jv_bc_ne rfl rfl Iff.rfl (fun h26 => ?_) (fun h26 => ?_)
              · refine jv_Wp.lift (fun _ Kz => jv_Ev.steps jv_i97 2 (pc' := 105) (l' := [(6, .int (1 : Int32)), (5, .int (1 : Int32)), (4, .int (1 : Int32)), (3, .int (vl_I f.code)), (2, .int (vl_I f.n)), (0, .long w)]) (st' := [.int (133 : Int32), .int (vl_I f.code)]) rfl Kz) ?_
                refine jv_Wp.cnd jv_i97 (pt := 113) (pe := 108) (p := (¬ (vl_I f.code) = (133 : Int32))) (q := (¬ (vl_I f.code) = (133 : Int32))) rfl jv_bc_ne rfl rfl Iff.rfl (fun h27 => ?_) (fun h27 => ?_)
                · refine jv_Wp.lift (fun _ Kz => jv_Ev.steps jv_i97 2 (pc' := 117) (l' := [(6, .int (1 : Int32)), (5, .int (1 : Int32)), (4, .int (1 : Int32)), (3, .int (vl_I f.code)), (2, .int (vl_I f.n)), (0, .long w)]) (st' := [.int (149 : Int32), .int (vl_I f.code)]) rfl Kz) ?_
                  refine jv_Wp.cnd jv_i97 (pt := 134) (pe := 120) (p := (¬ (vl_I f.code) = (149 : Int32))) (q := (¬ (vl_I f.code) = (149 : Int32))) rfl jv_bc_ne rfl rfl Iff.rfl (fun h28 => ?_) (fun h28 => ?_)
                  · refine jv_Wp.lift (fun _ Kz => jv_Ev.steps jv_i97 1 (pc' := 135) (l' := [(6, .int (1 : Int32)), (5, .int (1 : Int32)), (4, .int (1 : Int32)), (3, .int (vl_I f.code)), (2, .int (vl_I f.n)), (0, .long w)]) (st' := [.int (0 : Int32)]) rfl Kz) ?_
                    refine jv_Wp.of (jv_Ev.ret jv_i97 rfl (jv_ret_b (Or.inl rfl))) ?_
                    have x1 : f.n = 0 := (vl_I_inj (a := f.n) (b := 0) (Nat.lt_trans bn (by decide)) (by decide)).mp h1
                    have x2 : f.d = 0 := (vl_I_inj (a := f.d) (b := 0) (Nat.lt_trans bd (by decide)) (by decide)).mp (Classical.not_not.mp h2)
                    have x3 : f.s = 0 := (vl_I_inj (a := f.s) (b := 0) (Nat.lt_trans bs (by decide)) (by decide)).mp (Classical.not_not.mp h6)
                    have y4 : f.o = 0 := (vw_dO ef).symm.trans (congrArg Int32.toInt (Classical.not_not.mp h10))
                    have y5 : f.i = 0 := (vw_dQ ef).symm.trans (congrArg Int32.toInt (Classical.not_not.mp h20))
                    have x6 : ¬ f.code = 5 := fun z => h25 ((vl_I_inj (a := f.code) (b := 5) (Nat.lt_trans bc (by decide)) (by decide)).mpr z)
                    have x7 : ¬ f.code = 6 := fun z => h26 ((vl_I_inj (a := f.code) (b := 6) (Nat.lt_trans bc (by decide)) (by decide)).mpr z)
                    have x8 : ¬ f.code = 133 := fun z => h27 ((vl_I_inj (a := f.code) (b := 133) (Nat.lt_trans bc (by decide)) (by decide)).mpr z)
                    have x9 : ¬ f.code = 149 := fun z => h28 ((vl_I_inj (a := f.code) (b := 149) (Nat.lt_trans bc (by decide)) (by decide)).mpr z)
                    have ev : decide (vf_pJ f) = false := decide_eq_false (fun z => by have y := (vf_pJ_0 (by omega)).mp z; omega)
                    rw [ev] at hQ
                    exact hQ
                  · refine jv_Wp.lift (fun _ Kz => jv_Ev.steps jv_i97 1 (pc' := 122) (l' := [(6, .int (1 : Int32)), (5, .int (1 : Int32)), (4, .int (1 : Int32)), (3, .int (vl_I f.code)), (2, .int (vl_I f.n)), (0, .long w)]) (st' := [.int (1 : Int32)]) rfl Kz) ?_
                    refine jv_Wp.lift (fun _ Kz => jv_Ev.br jv_i97 (pc' := 125) (st' := []) rfl (by rfl) Kz) ?_
                    refine jv_Wp.lift (fun _ Kz => jv_Ev.steps jv_i97 1 (pc' := 127) (l' := [(6, .int (1 : Int32)), (5, .int (1 : Int32)), (4, .int (1 : Int32)), (3, .int (vl_I f.code)), (2, .int (vl_I f.n)), (0, .long w)]) (st' := [.int (1 : Int32)]) rfl Kz) ?_
                    refine jv_Wp.lift (fun _ Kz => jv_Ev.br jv_i97 (pc' := 130) (st' := []) rfl (by rfl) Kz) ?_
                    refine jv_Wp.lift (fun _ Kz => jv_Ev.steps jv_i97 2 (pc' := 135) (l' := [(6, .int (1 : Int32)), (5, .int (1 : Int32)), (4, .int (1 : Int32)), (3, .int (vl_I f.code)), (2, .int (vl_I f.n)), (0, .long w)]) (st' := [.int (1 : Int32)]) rfl Kz) ?_
                    refine jv_Wp.of (jv_Ev.ret jv_i97 rfl (jv_ret_b (Or.inr rfl))) ?_
                    have x1 : f.n = 0 := (vl_I_inj (a := f.n) (b := 0) (Nat.lt_trans bn (by decide)) (by decide)).mp h1
                    have x2 : f.d = 0 := (vl_I_inj (a := f.d) (b := 0) (Nat.lt_trans bd (by decide)) (by decide)).mp (Classical.not_not.mp h2)
                    have x3 : f.s = 0 := (vl_I_inj (a := f.s) (b := 0) (Nat.lt_trans bs (by decide)) (by decide)).mp (Classical.not_not.mp h6)
                    have y4 : f.o = 0 := (vw_dO ef).symm.trans (congrArg Int32.toInt (Classical.not_not.mp h10))
                    have y5 : f.i = 0 := (vw_dQ ef).symm.trans (congrArg Int32.toInt (Classical.not_not.mp h20))
                    have x6 : ¬ f.code = 5 := fun z => h25 ((vl_I_inj (a := f.code) (b := 5) (Nat.lt_trans bc (by decide)) (by decide)).mpr z)
                    have x7 : ¬ f.code = 6 := fun z => h26 ((vl_I_inj (a := f.code) (b := 6) (Nat.lt_trans bc (by decide)) (by decide)).mpr z)
                    have x8 : ¬ f.code = 133 := fun z => h27 ((vl_I_inj (a := f.code) (b := 133) (Nat.lt_trans bc (by decide)) (by decide)).mpr z)
                    have x9 : f.code = 149 := (vl_I_inj (a := f.code) (b := 149) (Nat.lt_trans bc (by decide)) (by decide)).mp (Classical.not_not.mp h28)
                    have ev : decide (vf_pJ f) = true := decide_eq_true ((vf_pJ_0 (by omega)).mpr (by omega))
                    rw [ev] at hQ
                    exact hQ
                · refine jv_Wp.lift (fun _ Kz => jv_Ev.steps jv_i97 1 (pc' := 110) (l' := [(6, .int (1 : Int32)), (5, .int (1 : Int32)), (4, .int (1 : Int32)), (3, .int (vl_I f.code)), (2, .int (vl_I f.n)), (0, .long w)]) (st' := [.int (1 : Int32)]) rfl Kz) ?_
                  refine jv_Wp.lift (fun _ Kz => jv_Ev.br jv_i97 (pc' := 130) (st' := []) rfl (by rfl) Kz) ?_
                  refine jv_Wp.lift (fun _ Kz => jv_Ev.steps jv_i97 2 (pc' := 135) (l' := [(6, .int (1 : Int32)), (5, .int (1 : Int32)), (4, .int (1 : Int32)), (3, .int (vl_I f.code)), (2, .int (vl_I f.n)), (0, .long w)]) (st' := [.int (1 : Int32)]) rfl Kz) ?_
                  refine jv_Wp.of (jv_Ev.ret jv_i97 rfl (jv_ret_b (Or.inr rfl))) ?_
                  have x1 : f.n = 0 := (vl_I_inj (a := f.n) (b := 0) (Nat.lt_trans bn (by decide)) (by decide)).mp h1
                  have x2 : f.d = 0 := (vl_I_inj (a := f.d) (b := 0) (Nat.lt_trans bd (by decide)) (by decide)).mp (Classical.not_not.mp h2)
                  have x3 : f.s = 0 := (vl_I_inj (a := f.s) (b := 0) (Nat.lt_trans bs (by decide)) (by decide)).mp (Classical.not_not.mp h6)
                  have y4 : f.o = 0 := (vw_dO ef).symm.trans (congrArg Int32.toInt (Classical.not_not.mp h10))
                  have y5 : f.i = 0 := (vw_dQ ef).symm.trans (congrArg Int32.toInt (Classical.not_not.mp h20))
                  have x6 : ¬ f.code = 5 := fun z => h25 ((vl_I_inj (a := f.code) (b := 5) (Nat.lt_trans bc (by decide)) (by decide)).mpr z)
                  have x7 : ¬ f.code = 6 := fun z => h26 ((vl_I_inj (a := f.code) (b := 6) (Nat.lt_trans bc (by decide)) (by decide)).mpr z)
                  have x8 : f.code = 133 := (vl_I_inj (a := f.code) (b := 133) (Nat.lt_trans bc (by decide)) (by decide)).mp (Classical.not_not.mp h27)
                  have ev : decide (vf_pJ f) = true := decide_eq_true ((vf_pJ_0 (by omega)).mpr (by omega))
                  rw [ev] at hQ
                  exact hQ
              · refine jv_Wp.lift (fun _ Kz => jv_Ev.steps jv_i97 1 (pc' := 98) (l' := [(6, .int (1 : Int32)), (5, .int (1 : Int32)), (4, .int (1 : Int32)), (3, .int (vl_I f.code)), (2, .int (vl_I f.n)), (0, .long w)]) (st' := [.int (1 : Int32)]) rfl Kz) ?_
                refine jv_Wp.lift (fun _ Kz => jv_Ev.br jv_i97 (pc' := 130) (st' := []) rfl (by rfl) Kz) ?_
                refine jv_Wp.lift (fun _ Kz => jv_Ev.steps jv_i97 2 (pc' := 135) (l' := [(6, .int (1 : Int32)), (5, .int (1 : Int32)), (4, .int (1 : Int32)), (3, .int (vl_I f.code)), (2, .int (vl_I f.n)), (0, .long w)]) (st' := [.int (1 : Int32)]) rfl Kz) ?_
                refine jv_Wp.of (jv_Ev.ret jv_i97 rfl (jv_ret_b (Or.inr rfl))) ?_
                have x1 : f.n = 0 := (vl_I_inj (a := f.n) (b := 0) (Nat.lt_trans bn (by decide)) (by decide)).mp h1
                have x2 : f.d = 0 := (vl_I_inj (a := f.d) (b := 0) (Nat.lt_trans bd (by decide)) (by decide)).mp (Classical.not_not.mp h2)
                have x3 : f.s = 0 := (vl_I_inj (a := f.s) (b := 0) (Nat.lt_trans bs (by decide)) (by decide)).mp (Classical.not_not.mp h6)
                have y4 : f.o = 0 := (vw_dO ef).symm.trans (congrArg Int32.toInt (Classical.not_not.mp h10))
                have y5 : f.i = 0 := (vw_dQ ef).symm.trans (congrArg Int32.toInt (Classical.not_not.mp h20))
                have x6 : ¬ f.code = 5 := fun z => h25 ((vl_I_inj (a := f.code) (b := 5) (Nat.lt_trans bc (by decide)) (by decide)).mpr z)
                have x7 : f.code = 6 := (vl_I_inj (a := f.code) (b := 6) (Nat.lt_trans bc (by decide)) (by decide)).mp (Classical.not_not.mp h26)
                have ev : decide (vf_pJ f) = true := decide_eq_true ((vf_pJ_0 (by omega)).mpr (by omega))
                rw [ev] at hQ
                exact hQ
            · refine jv_Wp.lift (fun _ Kz => jv_Ev.steps jv_i97 1 (pc' := 87) (l' := [(6, .int (1 : Int32)), (5, .int (1 : Int32)), (4, .int (1 : Int32)), (3, .int (vl_I f.code)), (2, .int (vl_I f.n)), (0, .long w)]) (st' := [.int (1 : Int32)]) rfl Kz) ?_
              refine jv_Wp.lift (fun _ Kz => jv_Ev.br jv_i97 (pc' := 130) (st' := []) rfl (by rfl) Kz) ?_
              refine jv_Wp.lift (fun _ Kz => jv_Ev.steps jv_i97 2 (pc' := 135) (l' := [(6, .int (1 : Int32)), (5, .int (1 : Int32)), (4, .int (1 : Int32)), (3, .int (vl_I f.code)), (2, .int (vl_I f.n)), (0, .long w)]) (st' := [.int (1 : Int32)]) rfl Kz) ?_
              refine jv_Wp.of (jv_Ev.ret jv_i97 rfl (jv_ret_b (Or.inr rfl))) ?_
              have x1 : f.n = 0 := (vl_I_inj (a := f.n) (b := 0) (Nat.lt_trans bn (by decide)) (by decide)).mp h1
              have x2 : f.d = 0 := (vl_I_inj (a := f.d) (b := 0) (Nat.lt_trans bd (by decide)) (by decide)).mp (Classical.not_not.mp h2)
              have x3 : f.s = 0 := (vl_I_inj (a := f.s) (b := 0) (Nat.lt_trans bs (by decide)) (by decide)).mp (Classical.not_not.mp h6)
              have y4 : f.o = 0 := (vw_dO ef).symm.trans (congrArg Int32.toInt (Classical.not_not.mp h10))
              have y5 : f.i = 0 := (vw_dQ ef).symm.trans (congrArg Int32.toInt (Classical.not_not.mp h20))
              have x6 : f.code = 5 := (vl_I_inj (a := f.code) (b := 5) (Nat.lt_trans bc (by decide)) (by decide)).mp (Classical.not_not.mp h25)
              have ev : decide (vf_pJ f) = true := decide_eq_true ((vf_pJ_0 (by omega)).mpr (by omega))
              rw [ev] at hQ
              exact hQ
  · refine jv_Wp.lift (fun _ Kz => jv_Ev.steps jv_i97 2 (pc' := 17) (l' := [(3, .int (vl_I f.code)), (2, .int (vl_I f.n)), (0, .long w)]) (st' := [.int (8 : Int32), .int (vl_I f.n)]) rfl Kz) ?_
    refine jv_Wp.cnd jv_i97 (pt := 26) (pe := 20) (p := ((vl_I f.n) = (8 : Int32))) (q := ((vl_I f.n) = (8 : Int32))) rfl jv_bc_eq rfl rfl Iff.rfl (fun h29 => ?_) (fun h29 => ?_)
    · refine jv_Wp.lift (fun _ Kz => jv_Ev.steps jv_i97 1 (pc' := 27) (l' := [(3, .int (vl_I f.code)), (2, .int (vl_I f.n)), (0, .long w)]) (st' := [.long w]) rfl Kz) ?_
      refine jv_Wp.lift (fun _ Kz => jv_Ev.c jv_i97 (pc' := 30) (S' := [.int (vl_I f.d)]) jv_i86 [.long w] rfl rfl rfl rfl rfl rfl (vw_f86 ef) rfl rfl Kz) ?_
      refine jv_Wp.cnd jv_i97 (pt := 44) (pe := 33) (p := (¬ (vl_I f.d) = 0)) (q := (¬ (vl_I f.d) = 0)) rfl jv_bi_ne rfl rfl Iff.rfl (fun h30 => ?_) (fun h30 => ?_)
      · refine jv_Wp.lift (fun _ Kz => jv_Ev.steps jv_i97 3 (pc' := 48) (l' := [(4, .int (0 : Int32)), (3, .int (vl_I f.code)), (2, .int (vl_I f.n)), (0, .long w)]) (st' := [.long w]) rfl Kz) ?_
        refine jv_Wp.lift (fun _ Kz => jv_Ev.c jv_i97 (pc' := 51) (S' := [.int (Int32.ofInt f.o)]) jv_i88 [.long w] rfl rfl rfl rfl rfl rfl (vw_f88 ef) rfl rfl Kz) ?_
        refine jv_Wp.cnd jv_i97 (pt := 58) (pe := 54) (p := (¬ (Int32.ofInt f.o) = 0)) (q := (¬ (Int32.ofInt f.o) = 0)) rfl jv_bi_ne rfl rfl Iff.rfl (fun h31 => ?_) (fun h31 => ?_)
        · refine jv_Wp.lift (fun _ Kz => jv_Ev.steps jv_i97 3 (pc' := 62) (l' := [(5, .int (0 : Int32)), (4, .int (0 : Int32)), (3, .int (vl_I f.code)), (2, .int (vl_I f.n)), (0, .long w)]) (st' := [.long w]) rfl Kz) ?_
          refine jv_Wp.lift (fun _ Kz => jv_Ev.c jv_i97 (pc' := 65) (S' := [.int (Int32.ofInt f.i)]) jv_i89 [.long w] rfl rfl rfl rfl rfl rfl (vw_f89 ef) rfl rfl Kz) ?_
          refine jv_Wp.cnd jv_i97 (pt := 72) (pe := 68) (p := (¬ (Int32.ofInt f.i) = 0)) (q := (¬ (Int32.ofInt f.i) = 0)) rfl jv_bi_ne rfl rfl Iff.rfl (fun h32 => ?_) (fun h32 => ?_)
          · refine jv_Wp.lift (fun _ Kz => jv_Ev.steps jv_i97 3 (pc' := 77) (l' := [(6, .int (0 : Int32)), (5, .int (0 : Int32)), (4, .int (0 : Int32)), (3, .int (vl_I f.code)), (2, .int (vl_I f.n)), (0, .long w)]) (st' := [.int (0 : Int32)]) rfl Kz) ?_
            refine jv_Wp.lift (fun _ Kz => jv_Ev.br jv_i97 (pc' := 134) (st' := []) rfl (by rfl) Kz) ?_
            refine jv_Wp.lift (fun _ Kz => jv_Ev.steps jv_i97 1 (pc' := 135) (l' := [(6, .int (0 : Int32)), (5, .int (0 : Int32)), (4, .int (0 : Int32)), (3, .int (vl_I f.code)), (2, .int (vl_I f.n)), (0, .long w)]) (st' := [.int (0 : Int32)]) rfl Kz) ?_
            refine jv_Wp.of (jv_Ev.ret jv_i97 rfl (jv_ret_b (Or.inl rfl))) ?_
            have x1 : ¬ f.n = 0 := fun z => h1 ((vl_I_inj (a := f.n) (b := 0) (Nat.lt_trans bn (by decide)) (by decide)).mpr z)
            have x2 : f.n = 8 := (vl_I_inj (a := f.n) (b := 8) (Nat.lt_trans bn (by decide)) (by decide)).mp h29
            have x3 : ¬ f.d = 0 := fun z => h30 ((vl_I_inj (a := f.d) (b := 0) (Nat.lt_trans bd (by decide)) (by decide)).mpr z)
            have y4 : ¬ f.o = 0 := fun z => h31 (Int32.toInt_inj.mp ((vw_dO ef).trans (z.trans rfl)))
            have y5 : ¬ f.i = 0 := fun z => h32 (Int32.toInt_inj.mp ((vw_dQ ef).trans (z.trans rfl)))
            have ev : decide (vf_pJ f) = false := decide_eq_false (fun z => by have y := (vf_pJ_8 (by omega)).mp z; omega)
            rw [ev] at hQ
            exact hQ
          · refine jv_Wp.lift (fun _ Kz => jv_Ev.steps jv_i97 4 (pc' := 77) (l' := [(6, .int (1 : Int32)), (5, .int (0 : Int32)), (4, .int (0 : Int32)), (3, .int (vl_I f.code)), (2, .int (vl_I f.n)), (0, .long w)]) (st' := [.int (0 : Int32)]) rfl Kz) ?_
            refine jv_Wp.lift (fun _ Kz => jv_Ev.br jv_i97 (pc' := 134) (st' := []) rfl (by rfl) Kz) ?_
            refine jv_Wp.lift (fun _ Kz => jv_Ev.steps jv_i97 1 (pc' := 135) (l' := [(6, .int (1 : Int32)), (5, .int (0 : Int32)), (4, .int (0 : Int32)), (3, .int (vl_I f.code)), (2, .int (vl_I f.n)), (0, .long w)]) (st' := [.int (0 : Int32)]) rfl Kz) ?_
            refine jv_Wp.of (jv_Ev.ret jv_i97 rfl (jv_ret_b (Or.inl rfl))) ?_
            have x1 : ¬ f.n = 0 := fun z => h1 ((vl_I_inj (a := f.n) (b := 0) (Nat.lt_trans bn (by decide)) (by decide)).mpr z)
            have x2 : f.n = 8 := (vl_I_inj (a := f.n) (b := 8) (Nat.lt_trans bn (by decide)) (by decide)).mp h29
            have x3 : ¬ f.d = 0 := fun z => h30 ((vl_I_inj (a := f.d) (b := 0) (Nat.lt_trans bd (by decide)) (by decide)).mpr z)
            have y4 : ¬ f.o = 0 := fun z => h31 (Int32.toInt_inj.mp ((vw_dO ef).trans (z.trans rfl)))
            have y5 : f.i = 0 := (vw_dQ ef).symm.trans (congrArg Int32.toInt (Classical.not_not.mp h32))
            have ev : decide (vf_pJ f) = false := decide_eq_false (fun z => by have y := (vf_pJ_8 (by omega)).mp z; omega)
            rw [ev] at hQ
            exact hQ
        · refine jv_Wp.lift (fun _ Kz => jv_Ev.steps jv_i97 4 (pc' := 62) (l' := [(5, .int (1 : Int32)), (4, .int (0 : Int32)), (3, .int (vl_I f.code)), (2, .int (vl_I f.n)), (0, .long w)]) (st' := [.long w]) rfl Kz) ?_
          refine jv_Wp.lift (fun _ Kz => jv_Ev.c jv_i97 (pc' := 65) (S' := [.int (Int32.ofInt f.i)]) jv_i89 [.long w] rfl rfl rfl rfl rfl rfl (vw_f89 ef) rfl rfl Kz) ?_
          refine jv_Wp.cnd jv_i97 (pt := 72) (pe := 68) (p := (¬ (Int32.ofInt f.i) = 0)) (q := (¬ (Int32.ofInt f.i) = 0)) rfl jv_bi_ne rfl rfl Iff.rfl (fun h33 => ?_) (fun h33 => ?_)
          · refine jv_Wp.lift (fun _ Kz => jv_Ev.steps jv_i97 3 (pc' := 77) (l' := [(6, .int (0 : Int32)), (5, .int (1 : Int32)), (4, .int (0 : Int32)), (3, .int (vl_I f.code)), (2, .int (vl_I f.n)), (0, .long w)]) (st' := [.int (0 : Int32)]) rfl Kz) ?_
            refine jv_Wp.lift (fun _ Kz => jv_Ev.br jv_i97 (pc' := 134) (st' := []) rfl (by rfl) Kz) ?_
            refine jv_Wp.lift (fun _ Kz => jv_Ev.steps jv_i97 1 (pc' := 135) (l' := [(6, .int (0 : Int32)), (5, .int (1 : Int32)), (4, .int (0 : Int32)), (3, .int (vl_I f.code)), (2, .int (vl_I f.n)), (0, .long w)]) (st' := [.int (0 : Int32)]) rfl Kz) ?_
            refine jv_Wp.of (jv_Ev.ret jv_i97 rfl (jv_ret_b (Or.inl rfl))) ?_
            have x1 : ¬ f.n = 0 := fun z => h1 ((vl_I_inj (a := f.n) (b := 0) (Nat.lt_trans bn (by decide)) (by decide)).mpr z)
            have x2 : f.n = 8 := (vl_I_inj (a := f.n) (b := 8) (Nat.lt_trans bn (by decide)) (by decide)).mp h29
            have x3 : ¬ f.d = 0 := fun z => h30 ((vl_I_inj (a := f.d) (b := 0) (Nat.lt_trans bd (by decide)) (by decide)).mpr z)
            have y4 : f.o = 0 := (vw_dO ef).symm.trans (congrArg Int32.toInt (Classical.not_not.mp h31))
            have y5 : ¬ f.i = 0 := fun z => h33 (Int32.toInt_inj.mp ((vw_dQ ef).trans (z.trans rfl)))
            have ev : decide (vf_pJ f) = false := decide_eq_false (fun z => by have y := (vf_pJ_8 (by omega)).mp z; omega)
            rw [ev] at hQ
            exact hQ
          · refine jv_Wp.lift (fun _ Kz => jv_Ev.steps jv_i97 4 (pc' := 77) (l' := [(6, .int (1 : Int32)), (5, .int (1 : Int32)), (4, .int (0 : Int32)), (3, .int (vl_I f.code)), (2, .int (vl_I f.n)), (0, .long w)]) (st' := [.int (0 : Int32)]) rfl Kz) ?_
            refine jv_Wp.lift (fun _ Kz => jv_Ev.br jv_i97 (pc' := 134) (st' := []) rfl (by rfl) Kz) ?_
            refine jv_Wp.lift (fun _ Kz => jv_Ev.steps jv_i97 1 (pc' := 135) (l' := [(6, .int (1 : Int32)), (5, .int (1 : Int32)), (4, .int (0 : Int32)), (3, .int (vl_I f.code)), (2, .int (vl_I f.n)), (0, .long w)]) (st' := [.int (0 : Int32)]) rfl Kz) ?_
            refine jv_Wp.of (jv_Ev.ret jv_i97 rfl (jv_ret_b (Or.inl rfl))) ?_
            have x1 : ¬ f.n = 0 := fun z => h1 ((vl_I_inj (a := f.n) (b := 0) (Nat.lt_trans bn (by decide)) (by decide)).mpr z)
            have x2 : f.n = 8 := (vl_I_inj (a := f.n) (b := 8) (Nat.lt_trans bn (by decide)) (by decide)).mp h29
            have x3 : ¬ f.d = 0 := fun z => h30 ((vl_I_inj (a := f.d) (b := 0) (Nat.lt_trans bd (by decide)) (by decide)).mpr z)
            have y4 : f.o = 0 := (vw_dO ef).symm.trans (congrArg Int32.toInt (Classical.not_not.mp h31))
            have y5 : f.i = 0 := (vw_dQ ef).symm.trans (congrArg Int32.toInt (Classical.not_not.mp h33))
            have ev : decide (vf_pJ f) = false := decide_eq_false (fun z => by have y := (vf_pJ_8 (by omega)).mp z; omega)
            rw [ev] at hQ
            exact hQ
      · refine jv_Wp.lift (fun _ Kz => jv_Ev.steps jv_i97 1 (pc' := 34) (l' := [(3, .int (vl_I f.code)), (2, .int (vl_I f.n)), (0, .long w)]) (st' := [.long w]) rfl Kz) ?_
        refine jv_Wp.lift (fun _ Kz => jv_Ev.c jv_i97 (pc' := 37) (S' := [.int (vl_I f.s)]) jv_i87 [.long w] rfl rfl rfl rfl rfl rfl (vw_f87 ef) rfl rfl Kz) ?_
        refine jv_Wp.cnd jv_i97 (pt := 44) (pe := 40) (p := (¬ (vl_I f.s) = 0)) (q := (¬ (vl_I f.s) = 0)) rfl jv_bi_ne rfl rfl Iff.rfl (fun h34 => ?_) (fun h34 => ?_)
        · refine jv_Wp.lift (fun _ Kz => jv_Ev.steps jv_i97 3 (pc' := 48) (l' := [(4, .int (0 : Int32)), (3, .int (vl_I f.code)), (2, .int (vl_I f.n)), (0, .long w)]) (st' := [.long w]) rfl Kz) ?_
          refine jv_Wp.lift (fun _ Kz => jv_Ev.c jv_i97 (pc' := 51) (S' := [.int (Int32.ofInt f.o)]) jv_i88 [.long w] rfl rfl rfl rfl rfl rfl (vw_f88 ef) rfl rfl Kz) ?_
          refine jv_Wp.cnd jv_i97 (pt := 58) (pe := 54) (p := (¬ (Int32.ofInt f.o) = 0)) (q := (¬ (Int32.ofInt f.o) = 0)) rfl jv_bi_ne rfl rfl Iff.rfl (fun h35 => ?_) (fun h35 => ?_)
          · refine jv_Wp.lift (fun _ Kz => jv_Ev.steps jv_i97 3 (pc' := 62) (l' := [(5, .int (0 : Int32)), (4, .int (0 : Int32)), (3, .int (vl_I f.code)), (2, .int (vl_I f.n)), (0, .long w)]) (st' := [.long w]) rfl Kz) ?_
            refine jv_Wp.lift (fun _ Kz => jv_Ev.c jv_i97 (pc' := 65) (S' := [.int (Int32.ofInt f.i)]) jv_i89 [.long w] rfl rfl rfl rfl rfl rfl (vw_f89 ef) rfl rfl Kz) ?_
            refine jv_Wp.cnd jv_i97 (pt := 72) (pe := 68) (p := (¬ (Int32.ofInt f.i) = 0)) (q := (¬ (Int32.ofInt f.i) = 0)) rfl jv_bi_ne rfl rfl Iff.rfl (fun h36 => ?_) (fun h36 => ?_)
            · refine jv_Wp.lift (fun _ Kz => jv_Ev.steps jv_i97 3 (pc' := 77) (l' := [(6, .int (0 : Int32)), (5, .int (0 : Int32)), (4, .int (0 : Int32)), (3, .int (vl_I f.code)), (2, .int (vl_I f.n)), (0, .long w)]) (st' := [.int (0 : Int32)]) rfl Kz) ?_
              refine jv_Wp.lift (fun _ Kz => jv_Ev.br jv_i97 (pc' := 134) (st' := []) rfl (by rfl) Kz) ?_
              refine jv_Wp.lift (fun _ Kz => jv_Ev.steps jv_i97 1 (pc' := 135) (l' := [(6, .int (0 : Int32)), (5, .int (0 : Int32)), (4, .int (0 : Int32)), (3, .int (vl_I f.code)), (2, .int (vl_I f.n)), (0, .long w)]) (st' := [.int (0 : Int32)]) rfl Kz) ?_
              refine jv_Wp.of (jv_Ev.ret jv_i97 rfl (jv_ret_b (Or.inl rfl))) ?_
              have x1 : ¬ f.n = 0 := fun z => h1 ((vl_I_inj (a := f.n) (b := 0) (Nat.lt_trans bn (by decide)) (by decide)).mpr z)
              have x2 : f.n = 8 := (vl_I_inj (a := f.n) (b := 8) (Nat.lt_trans bn (by decide)) (by decide)).mp h29
              have x3 : f.d = 0 := (vl_I_inj (a := f.d) (b := 0) (Nat.lt_trans bd (by decide)) (by decide)).mp (Classical.not_not.mp h30)
              have x4 : ¬ f.s = 0 := fun z => h34 ((vl_I_inj (a := f.s) (b := 0) (Nat.lt_trans bs (by decide)) (by decide)).mpr z)
              have y5 : ¬ f.o = 0 := fun z => h35 (Int32.toInt_inj.mp ((vw_dO ef).trans (z.trans rfl)))
              have y6 : ¬ f.i = 0 := fun z => h36 (Int32.toInt_inj.mp ((vw_dQ ef).trans (z.trans rfl)))
              have ev : decide (vf_pJ f) = false := decide_eq_false (fun z => by have y := (vf_pJ_8 (by omega)).mp z; omega)
              rw [ev] at hQ
              exact hQ
            · refine jv_Wp.lift (fun _ Kz => jv_Ev.steps jv_i97 4 (pc' := 77) (l' := [(6, .int (1 : Int32)), (5, .int (0 : Int32)), (4, .int (0 : Int32)), (3, .int (vl_I f.code)), (2, .int (vl_I f.n)), (0, .long w)]) (st' := [.int (0 : Int32)]) rfl Kz) ?_
              refine jv_Wp.lift (fun _ Kz => jv_Ev.br jv_i97 (pc' := 134) (st' := []) rfl (by rfl) Kz) ?_
              refine jv_Wp.lift (fun _ Kz => jv_Ev.steps jv_i97 1 (pc' := 135) (l' := [(6, .int (1 : Int32)), (5, .int (0 : Int32)), (4, .int (0 : Int32)), (3, .int (vl_I f.code)), (2, .int (vl_I f.n)), (0, .long w)]) (st' := [.int (0 : Int32)]) rfl Kz) ?_
              refine jv_Wp.of (jv_Ev.ret jv_i97 rfl (jv_ret_b (Or.inl rfl))) ?_
              have x1 : ¬ f.n = 0 := fun z => h1 ((vl_I_inj (a := f.n) (b := 0) (Nat.lt_trans bn (by decide)) (by decide)).mpr z)
              have x2 : f.n = 8 := (vl_I_inj (a := f.n) (b := 8) (Nat.lt_trans bn (by decide)) (by decide)).mp h29
              have x3 : f.d = 0 := (vl_I_inj (a := f.d) (b := 0) (Nat.lt_trans bd (by decide)) (by decide)).mp (Classical.not_not.mp h30)
              have x4 : ¬ f.s = 0 := fun z => h34 ((vl_I_inj (a := f.s) (b := 0) (Nat.lt_trans bs (by decide)) (by decide)).mpr z)
              have y5 : ¬ f.o = 0 := fun z => h35 (Int32.toInt_inj.mp ((vw_dO ef).trans (z.trans rfl)))
              have y6 : f.i = 0 := (vw_dQ ef).symm.trans (congrArg Int32.toInt (Classical.not_not.mp h36))
              have ev : decide (vf_pJ f) = false := decide_eq_false (fun z => by have y := (vf_pJ_8 (by omega)).mp z; omega)
              rw [ev] at hQ
              exact hQ
          · refine jv_Wp.lift (fun _ Kz => jv_Ev.steps jv_i97 4 (pc' := 62) (l' := [(5, .int (1 : Int32)), (4, .int (0 : Int32)), (3, .int (vl_I f.code)), (2, .int (vl_I f.n)), (0, .long w)]) (st' := [.long w]) rfl Kz) ?_
            refine jv_Wp.lift (fun _ Kz => jv_Ev.c jv_i97 (pc' := 65) (S' := [.int (Int32.ofInt f.i)]) jv_i89 [.long w] rfl rfl rfl rfl rfl rfl (vw_f89 ef) rfl rfl Kz) ?_
            refine jv_Wp.cnd jv_i97 (pt := 72) (pe := 68) (p := (¬ (Int32.ofInt f.i) = 0)) (q := (¬ (Int32.ofInt f.i) = 0)) rfl jv_bi_ne rfl rfl Iff.rfl (fun h37 => ?_) (fun h37 => ?_)
            · refine jv_Wp.lift (fun _ Kz => jv_Ev.steps jv_i97 3 (pc' := 77) (l' := [(6, .int (0 : Int32)), (5, .int (1 : Int32)), (4, .int (0 : Int32)), (3, .int (vl_I f.code)), (2, .int (vl_I f.n)), (0, .long w)]) (st' := [.int (0 : Int32)]) rfl Kz) ?_
              refine jv_Wp.lift (fun _ Kz => jv_Ev.br jv_i97 (pc' := 134) (st' := []) rfl (by rfl) Kz) ?_
              refine jv_Wp.lift (fun _ Kz => jv_Ev.steps jv_i97 1 (pc' := 135) (l' := [(6, .int (0 : Int32)), (5, .int (1 : Int32)), (4, .int (0 : Int32)), (3, .int (vl_I f.code)), (2, .int (vl_I f.n)), (0, .long w)]) (st' := [.int (0 : Int32)]) rfl Kz) ?_
              refine jv_Wp.of (jv_Ev.ret jv_i97 rfl (jv_ret_b (Or.inl rfl))) ?_
              have x1 : ¬ f.n = 0 := fun z => h1 ((vl_I_inj (a := f.n) (b := 0) (Nat.lt_trans bn (by decide)) (by decide)).mpr z)
              have x2 : f.n = 8 := (vl_I_inj (a := f.n) (b := 8) (Nat.lt_trans bn (by decide)) (by decide)).mp h29
              have x3 : f.d = 0 := (vl_I_inj (a := f.d) (b := 0) (Nat.lt_trans bd (by decide)) (by decide)).mp (Classical.not_not.mp h30)
              have x4 : ¬ f.s = 0 := fun z => h34 ((vl_I_inj (a := f.s) (b := 0) (Nat.lt_trans bs (by decide)) (by decide)).mpr z)
              have y5 : f.o = 0 := (vw_dO ef).symm.trans (congrArg Int32.toInt (Classical.not_not.mp h35))
              have y6 : ¬ f.i = 0 := fun z => h37 (Int32.toInt_inj.mp ((vw_dQ ef).trans (z.trans rfl)))
              have ev : decide (vf_pJ f) = false := decide_eq_false (fun z => by have y := (vf_pJ_8 (by omega)).mp z; omega)
              rw [ev] at hQ
              exact hQ
            · refine jv_Wp.lift (fun _ Kz => jv_Ev.steps jv_i97 4 (pc' := 77) (l' := [(6, .int (1 : Int32)), (5, .int (1 : Int32)), (4, .int (0 : Int32)), (3, .int (vl_I f.code)), (2, .int (vl_I f.n)), (0, .long w)]) (st' := [.int (0 : Int32)]) rfl Kz) ?_
              refine jv_Wp.lift (fun _ Kz => jv_Ev.br jv_i97 (pc' := 134) (st' := []) rfl (by rfl) Kz) ?_
              refine jv_Wp.lift (fun _ Kz => jv_Ev.steps jv_i97 1 (pc' := 135) (l' := [(6, .int (1 : Int32)), (5, .int (1 : Int32)), (4, .int (0 : Int32)), (3, .int (vl_I f.code)), (2, .int (vl_I f.n)), (0, .long w)]) (st' := [.int (0 : Int32)]) rfl Kz) ?_
              refine jv_Wp.of (jv_Ev.ret jv_i97 rfl (jv_ret_b (Or.inl rfl))) ?_
              have x1 : ¬ f.n = 0 := fun z => h1 ((vl_I_inj (a := f.n) (b := 0) (Nat.lt_trans bn (by decide)) (by decide)).mpr z)
              have x2 : f.n = 8 := (vl_I_inj (a := f.n) (b := 8) (Nat.lt_trans bn (by decide)) (by decide)).mp h29
              have x3 : f.d = 0 := (vl_I_inj (a := f.d) (b := 0) (Nat.lt_trans bd (by decide)) (by decide)).mp (Classical.not_not.mp h30)
              have x4 : ¬ f.s = 0 := fun z => h34 ((vl_I_inj (a := f.s) (b := 0) (Nat.lt_trans bs (by decide)) (by decide)).mpr z)
              have y5 : f.o = 0 := (vw_dO ef).symm.trans (congrArg Int32.toInt (Classical.not_not.mp h35))
              have y6 : f.i = 0 := (vw_dQ ef).symm.trans (congrArg Int32.toInt (Classical.not_not.mp h37))
              have ev : decide (vf_pJ f) = false := decide_eq_false (fun z => by have y := (vf_pJ_8 (by omega)).mp z; omega)
              rw [ev] at hQ
              exact hQ
        · refine jv_Wp.lift (fun _ Kz => jv_Ev.steps jv_i97 4 (pc' := 48) (l' := [(4, .int (1 : Int32)), (3, .int (vl_I f.code)), (2, .int (vl_I f.n)), (0, .long w)]) (st' := [.long w]) rfl Kz) ?_
          refine jv_Wp.lift (fun _ Kz => jv_Ev.c jv_i97 (pc' := 51) (S' := [.int (Int32.ofInt f.o)]) jv_i88 [.long w] rfl rfl rfl rfl rfl rfl (vw_f88 ef) rfl rfl Kz) ?_
          refine jv_Wp.cnd jv_i97 (pt := 58) (pe := 54) (p := (¬ (Int32.ofInt f.o) = 0)) (q := (¬ (Int32.ofInt f.o) = 0)) rfl jv_bi_ne rfl rfl Iff.rfl (fun h38 => ?_) (fun h38 => ?_)
          · refine jv_Wp.lift (fun _ Kz => jv_Ev.steps jv_i97 3 (pc' := 62) (l' := [(5, .int (0 : Int32)), (4, .int (1 : Int32)), (3, .int (vl_I f.code)), (2, .int (vl_I f.n)), (0, .long w)]) (st' := [.long w]) rfl Kz) ?_
            refine jv_Wp.lift (fun _ Kz => jv_Ev.c jv_i97 (pc' := 65) (S' := [.int (Int32.ofInt f.i)]) jv_i89 [.long w] rfl rfl rfl rfl rfl rfl (vw_f89 ef) rfl rfl Kz) ?_
            refine jv_Wp.cnd jv_i97 (pt := 72) (pe := 68) (p := (¬ (Int32.ofInt f.i) = 0)) (q := (¬ (Int32.ofInt f.i) = 0)) rfl jv_bi_ne rfl rfl Iff.rfl (fun h39 => ?_) (fun h39 => ?_)
            · refine jv_Wp.lift (fun _ Kz => jv_Ev.steps jv_i97 3 (pc' := 77) (l' := [(6, .int (0 : Int32)), (5, .int (0 : Int32)), (4, .int (1 : Int32)), (3, .int (vl_I f.code)), (2, .int (vl_I f.n)), (0, .long w)]) (st' := [.int (1 : Int32)]) rfl Kz) ?_
              refine jv_Wp.lift (fun _ Kz => jv_Ev.br jv_i97 (pc' := 80) (st' := []) rfl (by rfl) Kz) ?_
              refine jv_Wp.lift (fun _ Kz => jv_Ev.steps jv_i97 2 (pc' := 82) (l' := [(6, .int (0 : Int32)), (5, .int (0 : Int32)), (4, .int (1 : Int32)), (3, .int (vl_I f.code)), (2, .int (vl_I f.n)), (0, .long w)]) (st' := [.int (5 : Int32), .int (vl_I f.code)]) rfl Kz) ?_
              refine jv_Wp.cnd jv_i97 (pt := 90) (pe := 85) (p := (¬ (vl_I f.code) = (5 : Int32))) (q := (¬ (vl_I f.code) = (5 : Int32))) rfl jv_bc_ne rfl rfl Iff.rfl (fun h40 => ?_) (fun h40 => ?_)
              · refine jv_Wp.lift (fun _ Kz => jv_Ev.steps jv_i97 2 (pc' := 93) (l' := [(6, .int (0 : Int32)), (5, .int (0 : Int32)), (4, .int (1 : Int32)), (3, .int (vl_I f.code)), (2, .int (vl_I f.n)), (0, .long w)]) (st' := [.int (6 : Int32), .int (vl_I f.code)]) rfl Kz) ?_
                refine jv_Wp.cnd jv_i97 (pt := 101) (pe := 96) (p := (¬ (vl_I f.code) = (6 : Int32))) (q := (¬ (vl_I f.code) = (6 : Int32))) rfl jv_bc_ne rfl rfl Iff.rfl (fun h41 => ?_) (fun h41 => ?_)
                · refine jv_Wp.lift (fun _ Kz => jv_Ev.steps jv_i97 2 (pc' := 105) (l' := [(6, .int (0 : Int32)), (5, .int (0 : Int32)), (4, .int (1 : Int32)), (3, .int (vl_I f.code)), (2, .int (vl_I f.n)), (0, .long w)]) (st' := [.int (133 : Int32), .int (vl_I f.code)]) rfl Kz) ?_
                  refine jv_Wp.cnd jv_i97 (pt := 113) (pe := 108) (p := (¬ (vl_I f.code) = (133 : Int32))) (q := (¬ (vl_I f.code) = (133 : Int32))) rfl jv_bc_ne rfl rfl Iff.rfl (fun h42 => ?_) (fun h42 => ?_)
                  · refine jv_Wp.lift (fun _ Kz => jv_Ev.steps jv_i97 2 (pc' := 117) (l' := [(6, .int (0 : Int32)), (5, .int (0 : Int32)), (4, .int (1 : Int32)), (3, .int (vl_I f.code)), (2, .int (vl_I f.n)), (0, .long w)]) (st' := [.int (149 : Int32), .int (vl_I f.code)]) rfl Kz) ?_
                    refine jv_Wp.cnd jv_i97 (pt := 134) (pe := 120) (p := (¬ (vl_I f.code) = (149 : Int32))) (q := (¬ (vl_I f.code) = (149 : Int32))) rfl jv_bc_ne rfl rfl Iff.rfl (fun h43 => ?_) (fun h43 => ?_)
                    · refine jv_Wp.lift (fun _ Kz => jv_Ev.steps jv_i97 1 (pc' := 135) (l' := [(6, .int (0 : Int32)), (5, .int (0 : Int32)), (4, .int (1 : Int32)), (3, .int (vl_I f.code)), (2, .int (vl_I f.n)), (0, .long w)]) (st' := [.int (0 : Int32)]) rfl Kz) ?_
                      refine jv_Wp.of (jv_Ev.ret jv_i97 rfl (jv_ret_b (Or.inl rfl))) ?_
                      have x1 : ¬ f.n = 0 := fun z => h1 ((vl_I_inj (a := f.n) (b := 0) (Nat.lt_trans bn (by decide)) (by decide)).mpr z)
                      have x2 : f.n = 8 := (vl_I_inj (a := f.n) (b := 8) (Nat.lt_trans bn (by decide)) (by decide)).mp h29
                      have x3 : f.d = 0 := (vl_I_inj (a := f.d) (b := 0) (Nat.lt_trans bd (by decide)) (by decide)).mp (Classical.not_not.mp h30)
                      have x4 : f.s = 0 := (vl_I_inj (a := f.s) (b := 0) (Nat.lt_trans bs (by decide)) (by decide)).mp (Classical.not_not.mp h34)
                      have y5 : ¬ f.o = 0 := fun z => h38 (Int32.toInt_inj.mp ((vw_dO ef).trans (z.trans rfl)))
                      have y6 : ¬ f.i = 0 := fun z => h39 (Int32.toInt_inj.mp ((vw_dQ ef).trans (z.trans rfl)))
                      have x7 : ¬ f.code = 5 := fun z => h40 ((vl_I_inj (a := f.code) (b := 5) (Nat.lt_trans bc (by decide)) (by decide)).mpr z)
                      have x8 : ¬ f.code = 6 := fun z => h41 ((vl_I_inj (a := f.code) (b := 6) (Nat.lt_trans bc (by decide)) (by decide)).mpr z)
                      have x9 : ¬ f.code = 133 := fun z => h42 ((vl_I_inj (a := f.code) (b := 133) (Nat.lt_trans bc (by decide)) (by decide)).mpr z)
                      have x10 : ¬ f.code = 149 := fun z => h43 ((vl_I_inj (a := f.code) (b := 149) (Nat.lt_trans bc (by decide)) (by decide)).mpr z)
                      have ev : decide (vf_pJ f) = false := decide_eq_false (fun z => by have y := (vf_pJ_8 (by omega)).mp z; omega)
                      rw [ev] at hQ
                      exact hQ
                    · refine jv_Wp.lift (fun _ Kz => jv_Ev.steps jv_i97 1 (pc' := 122) (l' := [(6, .int (0 : Int32)), (5, .int (0 : Int32)), (4, .int (1 : Int32)), (3, .int (vl_I f.code)), (2, .int (vl_I f.n)), (0, .long w)]) (st' := [.int (0 : Int32)]) rfl Kz) ?_
                      refine jv_Wp.lift (fun _ Kz => jv_Ev.br jv_i97 (pc' := 134) (st' := []) rfl (by rfl) Kz) ?_
                      refine jv_Wp.lift (fun _ Kz => jv_Ev.steps jv_i97 1 (pc' := 135) (l' := [(6, .int (0 : Int32)), (5, .int (0 : Int32)), (4, .int (1 : Int32)), (3, .int (vl_I f.code)), (2, .int (vl_I f.n)), (0, .long w)]) (st' := [.int (0 : Int32)]) rfl Kz) ?_
                      refine jv_Wp.of (jv_Ev.ret jv_i97 rfl (jv_ret_b (Or.inl rfl))) ?_
                      have x1 : ¬ f.n = 0 := fun z => h1 ((vl_I_inj (a := f.n) (b := 0) (Nat.lt_trans bn (by decide)) (by decide)).mpr z)
                      have x2 : f.n = 8 := (vl_I_inj (a := f.n) (b := 8) (Nat.lt_trans bn (by decide)) (by decide)).mp h29
                      have x3 : f.d = 0 := (vl_I_inj (a := f.d) (b := 0) (Nat.lt_trans bd (by decide)) (by decide)).mp (Classical.not_not.mp h30)
                      have x4 : f.s = 0 := (vl_I_inj (a := f.s) (b := 0) (Nat.lt_trans bs (by decide)) (by decide)).mp (Classical.not_not.mp h34)
                      have y5 : ¬ f.o = 0 := fun z => h38 (Int32.toInt_inj.mp ((vw_dO ef).trans (z.trans rfl)))
                      have y6 : ¬ f.i = 0 := fun z => h39 (Int32.toInt_inj.mp ((vw_dQ ef).trans (z.trans rfl)))
                      have x7 : ¬ f.code = 5 := fun z => h40 ((vl_I_inj (a := f.code) (b := 5) (Nat.lt_trans bc (by decide)) (by decide)).mpr z)
                      have x8 : ¬ f.code = 6 := fun z => h41 ((vl_I_inj (a := f.code) (b := 6) (Nat.lt_trans bc (by decide)) (by decide)).mpr z)
                      have x9 : ¬ f.code = 133 := fun z => h42 ((vl_I_inj (a := f.code) (b := 133) (Nat.lt_trans bc (by decide)) (by decide)).mpr z)
                      have x10 : f.code = 149 := (vl_I_inj (a := f.code) (b := 149) (Nat.lt_trans bc (by decide)) (by decide)).mp (Classical.not_not.mp h43)
                      have ev : decide (vf_pJ f) = false := decide_eq_false (fun z => by have y := (vf_pJ_8 (by omega)).mp z; omega)
                      rw [ev] at hQ
                      exact hQ
                  · refine jv_Wp.lift (fun _ Kz => jv_Ev.steps jv_i97 1 (pc' := 110) (l' := [(6, .int (0 : Int32)), (5, .int (0 : Int32)), (4, .int (1 : Int32)), (3, .int (vl_I f.code)), (2, .int (vl_I f.n)), (0, .long w)]) (st' := [.int (0 : Int32)]) rfl Kz) ?_
                    refine jv_Wp.lift (fun _ Kz => jv_Ev.br jv_i97 (pc' := 113) (st' := []) rfl (by rfl) Kz) ?_
                    refine jv_Wp.lift (fun _ Kz => jv_Ev.steps jv_i97 2 (pc' := 117) (l' := [(6, .int (0 : Int32)), (5, .int (0 : Int32)), (4, .int (1 : Int32)), (3, .int (vl_I f.code)), (2, .int (vl_I f.n)), (0, .long w)]) (st' := [.int (149 : Int32), .int (vl_I f.code)]) rfl Kz) ?_
                    refine jv_Wp.cnd jv_i97 (pt := 134) (pe := 120) (p := (¬ (vl_I f.code) = (149 : Int32))) (q := (¬ (vl_I f.code) = (149 : Int32))) rfl jv_bc_ne rfl rfl Iff.rfl (fun _ => ?_) (fun hz => absurd (fun z => absurd (z.symm.trans (Classical.not_not.mp h42)) (by decide)) hz)
                    refine jv_Wp.lift (fun _ Kz => jv_Ev.steps jv_i97 1 (pc' := 135) (l' := [(6, .int (0 : Int32)), (5, .int (0 : Int32)), (4, .int (1 : Int32)), (3, .int (vl_I f.code)), (2, .int (vl_I f.n)), (0, .long w)]) (st' := [.int (0 : Int32)]) rfl Kz) ?_
                    refine jv_Wp.of (jv_Ev.ret jv_i97 rfl (jv_ret_b (Or.inl rfl))) ?_
                    have x1 : ¬ f.n = 0 := fun z => h1 ((vl_I_inj (a := f.n) (b := 0) (Nat.lt_trans bn (by decide)) (by decide)).mpr z)
                    have x2 : f.n = 8 := (vl_I_inj (a := f.n) (b := 8) (Nat.lt_trans bn (by decide)) (by decide)).mp h29
                    have x3 : f.d = 0 := (vl_I_inj (a := f.d) (b := 0) (Nat.lt_trans bd (by decide)) (by decide)).mp (Classical.not_not.mp h30)
                    have x4 : f.s = 0 := (vl_I_inj (a := f.s) (b := 0) (Nat.lt_trans bs (by decide)) (by decide)).mp (Classical.not_not.mp h34)
                    have y5 : ¬ f.o = 0 := fun z => h38 (Int32.toInt_inj.mp ((vw_dO ef).trans (z.trans rfl)))
                    have y6 : ¬ f.i = 0 := fun z => h39 (Int32.toInt_inj.mp ((vw_dQ ef).trans (z.trans rfl)))
                    have x7 : ¬ f.code = 5 := fun z => h40 ((vl_I_inj (a := f.code) (b := 5) (Nat.lt_trans bc (by decide)) (by decide)).mpr z)
                    have x8 : ¬ f.code = 6 := fun z => h41 ((vl_I_inj (a := f.code) (b := 6) (Nat.lt_trans bc (by decide)) (by decide)).mpr z)
                    have x9 : f.code = 133 := (vl_I_inj (a := f.code) (b := 133) (Nat.lt_trans bc (by decide)) (by decide)).mp (Classical.not_not.mp h42)
                    have ev : decide (vf_pJ f) = false := decide_eq_false (fun z => by have y := (vf_pJ_8 (by omega)).mp z; omega)
                    rw [ev] at hQ
                    exact hQ
                · refine jv_Wp.lift (fun _ Kz => jv_Ev.steps jv_i97 1 (pc' := 98) (l' := [(6, .int (0 : Int32)), (5, .int (0 : Int32)), (4, .int (1 : Int32)), (3, .int (vl_I f.code)), (2, .int (vl_I f.n)), (0, .long w)]) (st' := [.int (0 : Int32)]) rfl Kz) ?_
                  refine jv_Wp.lift (fun _ Kz => jv_Ev.br jv_i97 (pc' := 101) (st' := []) rfl (by rfl) Kz) ?_
                  refine jv_Wp.lift (fun _ Kz => jv_Ev.steps jv_i97 2 (pc' := 105) (l' := [(6, .int (0 : Int32)), (5, .int (0 : Int32)), (4, .int (1 : Int32)), (3, .int (vl_I f.code)), (2, .int (vl_I f.n)), (0, .long w)]) (st' := [.int (133 : Int32), .int (vl_I f.code)]) rfl Kz) ?_
                  refine jv_Wp.cnd jv_i97 (pt := 113) (pe := 108) (p := (¬ (vl_I f.code) = (133 : Int32))) (q := (¬ (vl_I f.code) = (133 : Int32))) rfl jv_bc_ne rfl rfl Iff.rfl (fun _ => ?_) (fun hz => absurd (fun z => absurd (z.symm.trans (Classical.not_not.mp h41)) (by decide)) hz)
                  refine jv_Wp.lift (fun _ Kz => jv_Ev.steps jv_i97 2 (pc' := 117) (l' := [(6, .int (0 : Int32)), (5, .int (0 : Int32)), (4, .int (1 : Int32)), (3, .int (vl_I f.code)), (2, .int (vl_I f.n)), (0, .long w)]) (st' := [.int (149 : Int32), .int (vl_I f.code)]) rfl Kz) ?_
                  refine jv_Wp.cnd jv_i97 (pt := 134) (pe := 120) (p := (¬ (vl_I f.code) = (149 : Int32))) (q := (¬ (vl_I f.code) = (149 : Int32))) rfl jv_bc_ne rfl rfl Iff.rfl (fun _ => ?_) (fun hz => absurd (fun z => absurd (z.symm.trans (Classical.not_not.mp h41)) (by decide)) hz)
                  refine jv_Wp.lift (fun _ Kz => jv_Ev.steps jv_i97 1 (pc' := 135) (l' := [(6, .int (0 : Int32)), (5, .int (0 : Int32)), (4, .int (1 : Int32)), (3, .int (vl_I f.code)), (2, .int (vl_I f.n)), (0, .long w)]) (st' := [.int (0 : Int32)]) rfl Kz) ?_
                  refine jv_Wp.of (jv_Ev.ret jv_i97 rfl (jv_ret_b (Or.inl rfl))) ?_
                  have x1 : ¬ f.n = 0 := fun z => h1 ((vl_I_inj (a := f.n) (b := 0) (Nat.lt_trans bn (by decide)) (by decide)).mpr z)
                  have x2 : f.n = 8 := (vl_I_inj (a := f.n) (b := 8) (Nat.lt_trans bn (by decide)) (by decide)).mp h29
                  have x3 : f.d = 0 := (vl_I_inj (a := f.d) (b := 0) (Nat.lt_trans bd (by decide)) (by decide)).mp (Classical.not_not.mp h30)
                  have x4 : f.s = 0 := (vl_I_inj (a := f.s) (b := 0) (Nat.lt_trans bs (by decide)) (by decide)).mp (Classical.not_not.mp h34)
                  have y5 : ¬ f.o = 0 := fun z => h38 (Int32.toInt_inj.mp ((vw_dO ef).trans (z.trans rfl)))
                  have y6 : ¬ f.i = 0 := fun z => h39 (Int32.toInt_inj.mp ((vw_dQ ef).trans (z.trans rfl)))
                  have x7 : ¬ f.code = 5 := fun z => h40 ((vl_I_inj (a := f.code) (b := 5) (Nat.lt_trans bc (by decide)) (by decide)).mpr z)
                  have x8 : f.code = 6 := (vl_I_inj (a := f.code) (b := 6) (Nat.lt_trans bc (by decide)) (by decide)).mp (Classical.not_not.mp h41)
                  have ev : decide (vf_pJ f) = false := decide_eq_false (fun z => by have y := (vf_pJ_8 (by omega)).mp z; omega)
                  rw [ev] at hQ
                  exact hQ
              · refine jv_Wp.lift (fun _ Kz => jv_Ev.steps jv_i97 1 (pc' := 87) (l' := [(6, .int (0 : Int32)), (5, .int (0 : Int32)), (4, .int (1 : Int32)), (3, .int (vl_I f.code)), (2, .int (vl_I f.n)), (0, .long w)]) (st' := [.int (0 : Int32)]) rfl Kz) ?_
                refine jv_Wp.lift (fun _ Kz => jv_Ev.br jv_i97 (pc' := 90) (st' := []) rfl (by rfl) Kz) ?_
                refine jv_Wp.lift (fun _ Kz => jv_Ev.steps jv_i97 2 (pc' := 93) (l' := [(6, .int (0 : Int32)), (5, .int (0 : Int32)), (4, .int (1 : Int32)), (3, .int (vl_I f.code)), (2, .int (vl_I f.n)), (0, .long w)]) (st' := [.int (6 : Int32), .int (vl_I f.code)]) rfl Kz) ?_
                refine jv_Wp.cnd jv_i97 (pt := 101) (pe := 96) (p := (¬ (vl_I f.code) = (6 : Int32))) (q := (¬ (vl_I f.code) = (6 : Int32))) rfl jv_bc_ne rfl rfl Iff.rfl (fun _ => ?_) (fun hz => absurd (fun z => absurd (z.symm.trans (Classical.not_not.mp h40)) (by decide)) hz)
                refine jv_Wp.lift (fun _ Kz => jv_Ev.steps jv_i97 2 (pc' := 105) (l' := [(6, .int (0 : Int32)), (5, .int (0 : Int32)), (4, .int (1 : Int32)), (3, .int (vl_I f.code)), (2, .int (vl_I f.n)), (0, .long w)]) (st' := [.int (133 : Int32), .int (vl_I f.code)]) rfl Kz) ?_
                refine jv_Wp.cnd jv_i97 (pt := 113) (pe := 108) (p := (¬ (vl_I f.code) = (133 : Int32))) (q := (¬ (vl_I f.code) = (133 : Int32))) rfl jv_bc_ne rfl rfl Iff.rfl (fun _ => ?_) (fun hz => absurd (fun z => absurd (z.symm.trans (Classical.not_not.mp h40)) (by decide)) hz)
                refine jv_Wp.lift (fun _ Kz => jv_Ev.steps jv_i97 2 (pc' := 117) (l' := [(6, .int (0 : Int32)), (5, .int (0 : Int32)), (4, .int (1 : Int32)), (3, .int (vl_I f.code)), (2, .int (vl_I f.n)), (0, .long w)]) (st' := [.int (149 : Int32), .int (vl_I f.code)]) rfl Kz) ?_
                refine jv_Wp.cnd jv_i97 (pt := 134) (pe := 120) (p := (¬ (vl_I f.code) = (149 : Int32))) (q := (¬ (vl_I f.code) = (149 : Int32))) rfl jv_bc_ne rfl rfl Iff.rfl (fun _ => ?_) (fun hz => absurd (fun z => absurd (z.symm.trans (Classical.not_not.mp h40)) (by decide)) hz)
                refine jv_Wp.lift (fun _ Kz => jv_Ev.steps jv_i97 1 (pc' := 135) (l' := [(6, .int (0 : Int32)), (5, .int (0 : Int32)), (4, .int (1 : Int32)), (3, .int (vl_I f.code)), (2, .int (vl_I f.n)), (0, .long w)]) (st' := [.int (0 : Int32)]) rfl Kz) ?_
                refine jv_Wp.of (jv_Ev.ret jv_i97 rfl (jv_ret_b (Or.inl rfl))) ?_
                have x1 : ¬ f.n = 0 := fun z => h1 ((vl_I_inj (a := f.n) (b := 0) (Nat.lt_trans bn (by decide)) (by decide)).mpr z)
                have x2 : f.n = 8 := (vl_I_inj (a := f.n) (b := 8) (Nat.lt_trans bn (by decide)) (by decide)).mp h29
                have x3 : f.d = 0 := (vl_I_inj (a := f.d) (b := 0) (Nat.lt_trans bd (by decide)) (by decide)).mp (Classical.not_not.mp h30)
                have x4 : f.s = 0 := (vl_I_inj (a := f.s) (b := 0) (Nat.lt_trans bs (by decide)) (by decide)).mp (Classical.not_not.mp h34)
                have y5 : ¬ f.o = 0 := fun z => h38 (Int32.toInt_inj.mp ((vw_dO ef).trans (z.trans rfl)))
                have y6 : ¬ f.i = 0 := fun z => h39 (Int32.toInt_inj.mp ((vw_dQ ef).trans (z.trans rfl)))
                have x7 : f.code = 5 := (vl_I_inj (a := f.code) (b := 5) (Nat.lt_trans bc (by decide)) (by decide)).mp (Classical.not_not.mp h40)
                have ev : decide (vf_pJ f) = false := decide_eq_false (fun z => by have y := (vf_pJ_8 (by omega)).mp z; omega)
                rw [ev] at hQ
                exact hQ
            · refine jv_Wp.lift (fun _ Kz => jv_Ev.steps jv_i97 4 (pc' := 77) (l' := [(6, .int (1 : Int32)), (5, .int (0 : Int32)), (4, .int (1 : Int32)), (3, .int (vl_I f.code)), (2, .int (vl_I f.n)), (0, .long w)]) (st' := [.int (1 : Int32)]) rfl Kz) ?_
              refine jv_Wp.lift (fun _ Kz => jv_Ev.br jv_i97 (pc' := 80) (st' := []) rfl (by rfl) Kz) ?_
              refine jv_Wp.lift (fun _ Kz => jv_Ev.steps jv_i97 2 (pc' := 82) (l' := [(6, .int (1 : Int32)), (5, .int (0 : Int32)), (4, .int (1 : Int32)), (3, .int (vl_I f.code)), (2, .int (vl_I f.n)), (0, .long w)]) (st' := [.int (5 : Int32), .int (vl_I f.code)]) rfl Kz) ?_
              refine jv_Wp.cnd jv_i97 (pt := 90) (pe := 85) (p := (¬ (vl_I f.code) = (5 : Int32))) (q := (¬ (vl_I f.code) = (5 : Int32))) rfl jv_bc_ne rfl rfl Iff.rfl (fun h44 => ?_) (fun h44 => ?_)
              · refine jv_Wp.lift (fun _ Kz => jv_Ev.steps jv_i97 2 (pc' := 93) (l' := [(6, .int (1 : Int32)), (5, .int (0 : Int32)), (4, .int (1 : Int32)), (3, .int (vl_I f.code)), (2, .int (vl_I f.n)), (0, .long w)]) (st' := [.int (6 : Int32), .int (vl_I f.code)]) rfl Kz) ?_
                refine jv_Wp.cnd jv_i97 (pt := 101) (pe := 96) (p := (¬ (vl_I f.code) = (6 : Int32))) (q := (¬ (vl_I f.code) = (6 : Int32))) rfl jv_bc_ne rfl rfl Iff.rfl (fun h45 => ?_) (fun h45 => ?_)
                · refine jv_Wp.lift (fun _ Kz => jv_Ev.steps jv_i97 2 (pc' := 105) (l' := [(6, .int (1 : Int32)), (5, .int (0 : Int32)), (4, .int (1 : Int32)), (3, .int (vl_I f.code)), (2, .int (vl_I f.n)), (0, .long w)]) (st' := [.int (133 : Int32), .int (vl_I f.code)]) rfl Kz) ?_
                  refine jv_Wp.cnd jv_i97 (pt := 113) (pe := 108) (p := (¬ (vl_I f.code) = (133 : Int32))) (q := (¬ (vl_I f.code) = (133 : Int32))) rfl jv_bc_ne rfl rfl Iff.rfl (fun h46 => ?_) (fun h46 => ?_)
                  · refine jv_Wp.lift (fun _ Kz => jv_Ev.steps jv_i97 2 (pc' := 117) (l' := [(6, .int (1 : Int32)), (5, .int (0 : Int32)), (4, .int (1 : Int32)), (3, .int (vl_I f.code)), (2, .int (vl_I f.n)), (0, .long w)]) (st' := [.int (149 : Int32), .int (vl_I f.code)]) rfl Kz) ?_
                    refine jv_Wp.cnd jv_i97 (pt := 134) (pe := 120) (p := (¬ (vl_I f.code) = (149 : Int32))) (q := (¬ (vl_I f.code) = (149 : Int32))) rfl jv_bc_ne rfl rfl Iff.rfl (fun h47 => ?_) (fun h47 => ?_)
                    · refine jv_Wp.lift (fun _ Kz => jv_Ev.steps jv_i97 1 (pc' := 135) (l' := [(6, .int (1 : Int32)), (5, .int (0 : Int32)), (4, .int (1 : Int32)), (3, .int (vl_I f.code)), (2, .int (vl_I f.n)), (0, .long w)]) (st' := [.int (0 : Int32)]) rfl Kz) ?_
                      refine jv_Wp.of (jv_Ev.ret jv_i97 rfl (jv_ret_b (Or.inl rfl))) ?_
                      have x1 : ¬ f.n = 0 := fun z => h1 ((vl_I_inj (a := f.n) (b := 0) (Nat.lt_trans bn (by decide)) (by decide)).mpr z)
                      have x2 : f.n = 8 := (vl_I_inj (a := f.n) (b := 8) (Nat.lt_trans bn (by decide)) (by decide)).mp h29
                      have x3 : f.d = 0 := (vl_I_inj (a := f.d) (b := 0) (Nat.lt_trans bd (by decide)) (by decide)).mp (Classical.not_not.mp h30)
                      have x4 : f.s = 0 := (vl_I_inj (a := f.s) (b := 0) (Nat.lt_trans bs (by decide)) (by decide)).mp (Classical.not_not.mp h34)
                      have y5 : ¬ f.o = 0 := fun z => h38 (Int32.toInt_inj.mp ((vw_dO ef).trans (z.trans rfl)))
                      have y6 : f.i = 0 := (vw_dQ ef).symm.trans (congrArg Int32.toInt (Classical.not_not.mp h39))
                      have x7 : ¬ f.code = 5 := fun z => h44 ((vl_I_inj (a := f.code) (b := 5) (Nat.lt_trans bc (by decide)) (by decide)).mpr z)
                      have x8 : ¬ f.code = 6 := fun z => h45 ((vl_I_inj (a := f.code) (b := 6) (Nat.lt_trans bc (by decide)) (by decide)).mpr z)
                      have x9 : ¬ f.code = 133 := fun z => h46 ((vl_I_inj (a := f.code) (b := 133) (Nat.lt_trans bc (by decide)) (by decide)).mpr z)
                      have x10 : ¬ f.code = 149 := fun z => h47 ((vl_I_inj (a := f.code) (b := 149) (Nat.lt_trans bc (by decide)) (by decide)).mpr z)
                      have ev : decide (vf_pJ f) = false := decide_eq_false (fun z => by have y := (vf_pJ_8 (by omega)).mp z; omega)
                      rw [ev] at hQ
                      exact hQ
                    · refine jv_Wp.lift (fun _ Kz => jv_Ev.steps jv_i97 1 (pc' := 122) (l' := [(6, .int (1 : Int32)), (5, .int (0 : Int32)), (4, .int (1 : Int32)), (3, .int (vl_I f.code)), (2, .int (vl_I f.n)), (0, .long w)]) (st' := [.int (0 : Int32)]) rfl Kz) ?_
                      refine jv_Wp.lift (fun _ Kz => jv_Ev.br jv_i97 (pc' := 134) (st' := []) rfl (by rfl) Kz) ?_
                      refine jv_Wp.lift (fun _ Kz => jv_Ev.steps jv_i97 1 (pc' := 135) (l' := [(6, .int (1 : Int32)), (5, .int (0 : Int32)), (4, .int (1 : Int32)), (3, .int (vl_I f.code)), (2, .int (vl_I f.n)), (0, .long w)]) (st' := [.int (0 : Int32)]) rfl Kz) ?_
                      refine jv_Wp.of (jv_Ev.ret jv_i97 rfl (jv_ret_b (Or.inl rfl))) ?_
                      have x1 : ¬ f.n = 0 := fun z => h1 ((vl_I_inj (a := f.n) (b := 0) (Nat.lt_trans bn (by decide)) (by decide)).mpr z)
                      have x2 : f.n = 8 := (vl_I_inj (a := f.n) (b := 8) (Nat.lt_trans bn (by decide)) (by decide)).mp h29
                      have x3 : f.d = 0 := (vl_I_inj (a := f.d) (b := 0) (Nat.lt_trans bd (by decide)) (by decide)).mp (Classical.not_not.mp h30)
                      have x4 : f.s = 0 := (vl_I_inj (a := f.s) (b := 0) (Nat.lt_trans bs (by decide)) (by decide)).mp (Classical.not_not.mp h34)
                      have y5 : ¬ f.o = 0 := fun z => h38 (Int32.toInt_inj.mp ((vw_dO ef).trans (z.trans rfl)))
                      have y6 : f.i = 0 := (vw_dQ ef).symm.trans (congrArg Int32.toInt (Classical.not_not.mp h39))
                      have x7 : ¬ f.code = 5 := fun z => h44 ((vl_I_inj (a := f.code) (b := 5) (Nat.lt_trans bc (by decide)) (by decide)).mpr z)
                      have x8 : ¬ f.code = 6 := fun z => h45 ((vl_I_inj (a := f.code) (b := 6) (Nat.lt_trans bc (by decide)) (by decide)).mpr z)
                      have x9 : ¬ f.code = 133 := fun z => h46 ((vl_I_inj (a := f.code) (b := 133) (Nat.lt_trans bc (by decide)) (by decide)).mpr z)
                      have x10 : f.code = 149 := (vl_I_inj (a := f.code) (b := 149) (Nat.lt_trans bc (by decide)) (by decide)).mp (Classical.not_not.mp h47)
                      have ev : decide (vf_pJ f) = false := decide_eq_false (fun z => by have y := (vf_pJ_8 (by omega)).mp z; omega)
                      rw [ev] at hQ
                      exact hQ
                  · refine jv_Wp.lift (fun _ Kz => jv_Ev.steps jv_i97 1 (pc' := 110) (l' := [(6, .int (1 : Int32)), (5, .int (0 : Int32)), (4, .int (1 : Int32)), (3, .int (vl_I f.code)), (2, .int (vl_I f.n)), (0, .long w)]) (st' := [.int (0 : Int32)]) rfl Kz) ?_
                    refine jv_Wp.lift (fun _ Kz => jv_Ev.br jv_i97 (pc' := 113) (st' := []) rfl (by rfl) Kz) ?_
                    refine jv_Wp.lift (fun _ Kz => jv_Ev.steps jv_i97 2 (pc' := 117) (l' := [(6, .int (1 : Int32)), (5, .int (0 : Int32)), (4, .int (1 : Int32)), (3, .int (vl_I f.code)), (2, .int (vl_I f.n)), (0, .long w)]) (st' := [.int (149 : Int32), .int (vl_I f.code)]) rfl Kz) ?_
                    refine jv_Wp.cnd jv_i97 (pt := 134) (pe := 120) (p := (¬ (vl_I f.code) = (149 : Int32))) (q := (¬ (vl_I f.code) = (149 : Int32))) rfl jv_bc_ne rfl rfl Iff.rfl (fun _ => ?_) (fun hz => absurd (fun z => absurd (z.symm.trans (Classical.not_not.mp h46)) (by decide)) hz)
                    refine jv_Wp.lift (fun _ Kz => jv_Ev.steps jv_i97 1 (pc' := 135) (l' := [(6, .int (1 : Int32)), (5, .int (0 : Int32)), (4, .int (1 : Int32)), (3, .int (vl_I f.code)), (2, .int (vl_I f.n)), (0, .long w)]) (st' := [.int (0 : Int32)]) rfl Kz) ?_
                    refine jv_Wp.of (jv_Ev.ret jv_i97 rfl (jv_ret_b (Or.inl rfl))) ?_
                    have x1 : ¬ f.n = 0 := fun z => h1 ((vl_I_inj (a := f.n) (b := 0) (Nat.lt_trans bn (by decide)) (by decide)).mpr z)
                    have x2 : f.n = 8 := (vl_I_inj (a := f.n) (b := 8) (Nat.lt_trans bn (by decide)) (by decide)).mp h29
                    have x3 : f.d = 0 := (vl_I_inj (a := f.d) (b := 0) (Nat.lt_trans bd (by decide)) (by decide)).mp (Classical.not_not.mp h30)
                    have x4 : f.s = 0 := (vl_I_inj (a := f.s) (b := 0) (Nat.lt_trans bs (by decide)) (by decide)).mp (Classical.not_not.mp h34)
                    have y5 : ¬ f.o = 0 := fun z => h38 (Int32.toInt_inj.mp ((vw_dO ef).trans (z.trans rfl)))
                    have y6 : f.i = 0 := (vw_dQ ef).symm.trans (congrArg Int32.toInt (Classical.not_not.mp h39))
                    have x7 : ¬ f.code = 5 := fun z => h44 ((vl_I_inj (a := f.code) (b := 5) (Nat.lt_trans bc (by decide)) (by decide)).mpr z)
                    have x8 : ¬ f.code = 6 := fun z => h45 ((vl_I_inj (a := f.code) (b := 6) (Nat.lt_trans bc (by decide)) (by decide)).mpr z)
                    have x9 : f.code = 133 := (vl_I_inj (a := f.code) (b := 133) (Nat.lt_trans bc (by decide)) (by decide)).mp (Classical.not_not.mp h46)
                    have ev : decide (vf_pJ f) = false := decide_eq_false (fun z => by have y := (vf_pJ_8 (by omega)).mp z; omega)
                    rw [ev] at hQ
                    exact hQ
                · refine jv_Wp.lift (fun _ Kz => jv_Ev.steps jv_i97 1 (pc' := 98) (l' := [(6, .int (1 : Int32)), (5, .int (0 : Int32)), (4, .int (1 : Int32)), (3, .int (vl_I f.code)), (2, .int (vl_I f.n)), (0, .long w)]) (st' := [.int (0 : Int32)]) rfl Kz) ?_
                  refine jv_Wp.lift (fun _ Kz => jv_Ev.br jv_i97 (pc' := 101) (st' := []) rfl (by rfl) Kz) ?_
                  refine jv_Wp.lift (fun _ Kz => jv_Ev.steps jv_i97 2 (pc' := 105) (l' := [(6, .int (1 : Int32)), (5, .int (0 : Int32)), (4, .int (1 : Int32)), (3, .int (vl_I f.code)), (2, .int (vl_I f.n)), (0, .long w)]) (st' := [.int (133 : Int32), .int (vl_I f.code)]) rfl Kz) ?_
                  refine jv_Wp.cnd jv_i97 (pt := 113) (pe := 108) (p := (¬ (vl_I f.code) = (133 : Int32))) (q := (¬ (vl_I f.code) = (133 : Int32))) rfl jv_bc_ne rfl rfl Iff.rfl (fun _ => ?_) (fun hz => absurd (fun z => absurd (z.symm.trans (Classical.not_not.mp h45)) (by decide)) hz)
                  refine jv_Wp.lift (fun _ Kz => jv_Ev.steps jv_i97 2 (pc' := 117) (l' := [(6, .int (1 : Int32)), (5, .int (0 : Int32)), (4, .int (1 : Int32)), (3, .int (vl_I f.code)), (2, .int (vl_I f.n)), (0, .long w)]) (st' := [.int (149 : Int32), .int (vl_I f.code)]) rfl Kz) ?_
                  refine jv_Wp.cnd jv_i97 (pt := 134) (pe := 120) (p := (¬ (vl_I f.code) = (149 : Int32))) (q := (¬ (vl_I f.code) = (149 : Int32))) rfl jv_bc_ne rfl rfl Iff.rfl (fun _ => ?_) (fun hz => absurd (fun z => absurd (z.symm.trans (Classical.not_not.mp h45)) (by decide)) hz)
                  refine jv_Wp.lift (fun _ Kz => jv_Ev.steps jv_i97 1 (pc' := 135) (l' := [(6, .int (1 : Int32)), (5, .int (0 : Int32)), (4, .int (1 : Int32)), (3, .int (vl_I f.code)), (2, .int (vl_I f.n)), (0, .long w)]) (st' := [.int (0 : Int32)]) rfl Kz) ?_
                  refine jv_Wp.of (jv_Ev.ret jv_i97 rfl (jv_ret_b (Or.inl rfl))) ?_
                  have x1 : ¬ f.n = 0 := fun z => h1 ((vl_I_inj (a := f.n) (b := 0) (Nat.lt_trans bn (by decide)) (by decide)).mpr z)
                  have x2 : f.n = 8 := (vl_I_inj (a := f.n) (b := 8) (Nat.lt_trans bn (by decide)) (by decide)).mp h29
                  have x3 : f.d = 0 := (vl_I_inj (a := f.d) (b := 0) (Nat.lt_trans bd (by decide)) (by decide)).mp (Classical.not_not.mp h30)
                  have x4 : f.s = 0 := (vl_I_inj (a := f.s) (b := 0) (Nat.lt_trans bs (by decide)) (by decide)).mp (Classical.not_not.mp h34)
                  have y5 : ¬ f.o = 0 := fun z => h38 (Int32.toInt_inj.mp ((vw_dO ef).trans (z.trans rfl)))
                  have y6 : f.i = 0 := (vw_dQ ef).symm.trans (congrArg Int32.toInt (Classical.not_not.mp h39))
                  have x7 : ¬ f.code = 5 := fun z => h44 ((vl_I_inj (a := f.code) (b := 5) (Nat.lt_trans bc (by decide)) (by decide)).mpr z)
                  have x8 : f.code = 6 := (vl_I_inj (a := f.code) (b := 6) (Nat.lt_trans bc (by decide)) (by decide)).mp (Classical.not_not.mp h45)
                  have ev : decide (vf_pJ f) = false := decide_eq_false (fun z => by have y := (vf_pJ_8 (by omega)).mp z; omega)
                  rw [ev] at hQ
                  exact hQ
              · refine jv_Wp.lift (fun _ Kz => jv_Ev.steps jv_i97 1 (pc' := 87) (l' := [(6, .int (1 : Int32)), (5, .int (0 : Int32)), (4, .int (1 : Int32)), (3, .int (vl_I f.code)), (2, .int (vl_I f.n)), (0, .long w)]) (st' := [.int (1 : Int32)]) rfl Kz) ?_
                refine jv_Wp.lift (fun _ Kz => jv_Ev.br jv_i97 (pc' := 130) (st' := []) rfl (by rfl) Kz) ?_
                refine jv_Wp.lift (fun _ Kz => jv_Ev.steps jv_i97 2 (pc' := 135) (l' := [(6, .int (1 : Int32)), (5, .int (0 : Int32)), (4, .int (1 : Int32)), (3, .int (vl_I f.code)), (2, .int (vl_I f.n)), (0, .long w)]) (st' := [.int (1 : Int32)]) rfl Kz) ?_
                refine jv_Wp.of (jv_Ev.ret jv_i97 rfl (jv_ret_b (Or.inr rfl))) ?_
                have x1 : ¬ f.n = 0 := fun z => h1 ((vl_I_inj (a := f.n) (b := 0) (Nat.lt_trans bn (by decide)) (by decide)).mpr z)
                have x2 : f.n = 8 := (vl_I_inj (a := f.n) (b := 8) (Nat.lt_trans bn (by decide)) (by decide)).mp h29
                have x3 : f.d = 0 := (vl_I_inj (a := f.d) (b := 0) (Nat.lt_trans bd (by decide)) (by decide)).mp (Classical.not_not.mp h30)
                have x4 : f.s = 0 := (vl_I_inj (a := f.s) (b := 0) (Nat.lt_trans bs (by decide)) (by decide)).mp (Classical.not_not.mp h34)
                have y5 : ¬ f.o = 0 := fun z => h38 (Int32.toInt_inj.mp ((vw_dO ef).trans (z.trans rfl)))
                have y6 : f.i = 0 := (vw_dQ ef).symm.trans (congrArg Int32.toInt (Classical.not_not.mp h39))
                have x7 : f.code = 5 := (vl_I_inj (a := f.code) (b := 5) (Nat.lt_trans bc (by decide)) (by decide)).mp (Classical.not_not.mp h44)
                have ev : decide (vf_pJ f) = true := decide_eq_true ((vf_pJ_8 (by omega)).mpr (by omega))
                rw [ev] at hQ
                exact hQ
          · refine jv_Wp.lift (fun _ Kz => jv_Ev.steps jv_i97 4 (pc' := 62) (l' := [(5, .int (1 : Int32)), (4, .int (1 : Int32)), (3, .int (vl_I f.code)), (2, .int (vl_I f.n)), (0, .long w)]) (st' := [.long w]) rfl Kz) ?_
            refine jv_Wp.lift (fun _ Kz => jv_Ev.c jv_i97 (pc' := 65) (S' := [.int (Int32.ofInt f.i)]) jv_i89 [.long w] rfl rfl rfl rfl rfl rfl (vw_f89 ef) rfl rfl Kz) ?_
            refine jv_Wp.cnd jv_i97 (pt := 72) (pe := 68) (p := (¬ (Int32.ofInt f.i) = 0)) (q := (¬ (Int32.ofInt f.i) = 0)) rfl jv_bi_ne rfl rfl Iff.rfl (fun h48 => ?_) (fun h48 => ?_)
            · refine jv_Wp.lift (fun _ Kz => jv_Ev.steps jv_i97 3 (pc' := 77) (l' := [(6, .int (0 : Int32)), (5, .int (1 : Int32)), (4, .int (1 : Int32)), (3, .int (vl_I f.code)), (2, .int (vl_I f.n)), (0, .long w)]) (st' := [.int (1 : Int32)]) rfl Kz) ?_
              refine jv_Wp.lift (fun _ Kz => jv_Ev.br jv_i97 (pc' := 80) (st' := []) rfl (by rfl) Kz) ?_
              refine jv_Wp.lift (fun _ Kz => jv_Ev.steps jv_i97 2 (pc' := 82) (l' := [(6, .int (0 : Int32)), (5, .int (1 : Int32)), (4, .int (1 : Int32)), (3, .int (vl_I f.code)), (2, .int (vl_I f.n)), (0, .long w)]) (st' := [.int (5 : Int32), .int (vl_I f.code)]) rfl Kz) ?_
              refine jv_Wp.cnd jv_i97 (pt := 90) (pe := 85) (p := (¬ (vl_I f.code) = (5 : Int32))) (q := (¬ (vl_I f.code) = (5 : Int32))) rfl jv_bc_ne rfl rfl Iff.rfl (fun h49 => ?_) (fun h49 => ?_)
              · refine jv_Wp.lift (fun _ Kz => jv_Ev.steps jv_i97 2 (pc' := 93) (l' := [(6, .int (0 : Int32)), (5, .int (1 : Int32)), (4, .int (1 : Int32)), (3, .int (vl_I f.code)), (2, .int (vl_I f.n)), (0, .long w)]) (st' := [.int (6 : Int32), .int (vl_I f.code)]) rfl Kz) ?_
                refine jv_Wp.cnd jv_i97 (pt := 101) (pe := 96) (p := (¬ (vl_I f.code) = (6 : Int32))) (q := (¬ (vl_I f.code) = (6 : Int32))) rfl jv_bc_ne rfl rfl Iff.rfl (fun h50 => ?_) (fun h50 => ?_)
                · refine jv_Wp.lift (fun _ Kz => jv_Ev.steps jv_i97 2 (pc' := 105) (l' := [(6, .int (0 : Int32)), (5, .int (1 : Int32)), (4, .int (1 : Int32)), (3, .int (vl_I f.code)), (2, .int (vl_I f.n)), (0, .long w)]) (st' := [.int (133 : Int32), .int (vl_I f.code)]) rfl Kz) ?_
                  refine jv_Wp.cnd jv_i97 (pt := 113) (pe := 108) (p := (¬ (vl_I f.code) = (133 : Int32))) (q := (¬ (vl_I f.code) = (133 : Int32))) rfl jv_bc_ne rfl rfl Iff.rfl (fun h51 => ?_) (fun h51 => ?_)
                  · refine jv_Wp.lift (fun _ Kz => jv_Ev.steps jv_i97 2 (pc' := 117) (l' := [(6, .int (0 : Int32)), (5, .int (1 : Int32)), (4, .int (1 : Int32)), (3, .int (vl_I f.code)), (2, .int (vl_I f.n)), (0, .long w)]) (st' := [.int (149 : Int32), .int (vl_I f.code)]) rfl Kz) ?_
                    refine jv_Wp.cnd jv_i97 (pt := 134) (pe := 120) (p := (¬ (vl_I f.code) = (149 : Int32))) (q := (¬ (vl_I f.code) = (149 : Int32))) rfl jv_bc_ne rfl rfl Iff.rfl (fun h52 => ?_) (fun h52 => ?_)
                    · refine jv_Wp.lift (fun _ Kz => jv_Ev.steps jv_i97 1 (pc' := 135) (l' := [(6, .int (0 : Int32)), (5, .int (1 : Int32)), (4, .int (1 : Int32)), (3, .int (vl_I f.code)), (2, .int (vl_I f.n)), (0, .long w)]) (st' := [.int (0 : Int32)]) rfl Kz) ?_
                      refine jv_Wp.of (jv_Ev.ret jv_i97 rfl (jv_ret_b (Or.inl rfl))) ?_
                      have x1 : ¬ f.n = 0 := fun z => h1 ((vl_I_inj (a := f.n) (b := 0) (Nat.lt_trans bn (by decide)) (by decide)).mpr z)
                      have x2 : f.n = 8 := (vl_I_inj (a := f.n) (b := 8) (Nat.lt_trans bn (by decide)) (by decide)).mp h29
                      have x3 : f.d = 0 := (vl_I_inj (a := f.d) (b := 0) (Nat.lt_trans bd (by decide)) (by decide)).mp (Classical.not_not.mp h30)
                      have x4 : f.s = 0 := (vl_I_inj (a := f.s) (b := 0) (Nat.lt_trans bs (by decide)) (by decide)).mp (Classical.not_not.mp h34)
                      have y5 : f.o = 0 := (vw_dO ef).symm.trans (congrArg Int32.toInt (Classical.not_not.mp h38))
                      have y6 : ¬ f.i = 0 := fun z => h48 (Int32.toInt_inj.mp ((vw_dQ ef).trans (z.trans rfl)))
                      have x7 : ¬ f.code = 5 := fun z => h49 ((vl_I_inj (a := f.code) (b := 5) (Nat.lt_trans bc (by decide)) (by decide)).mpr z)
                      have x8 : ¬ f.code = 6 := fun z => h50 ((vl_I_inj (a := f.code) (b := 6) (Nat.lt_trans bc (by decide)) (by decide)).mpr z)
                      have x9 : ¬ f.code = 133 := fun z => h51 ((vl_I_inj (a := f.code) (b := 133) (Nat.lt_trans bc (by decide)) (by decide)).mpr z)
                      have x10 : ¬ f.code = 149 := fun z => h52 ((vl_I_inj (a := f.code) (b := 149) (Nat.lt_trans bc (by decide)) (by decide)).mpr z)
                      have ev : decide (vf_pJ f) = false := decide_eq_false (fun z => by have y := (vf_pJ_8 (by omega)).mp z; omega)
                      rw [ev] at hQ
                      exact hQ
                    · refine jv_Wp.lift (fun _ Kz => jv_Ev.steps jv_i97 1 (pc' := 122) (l' := [(6, .int (0 : Int32)), (5, .int (1 : Int32)), (4, .int (1 : Int32)), (3, .int (vl_I f.code)), (2, .int (vl_I f.n)), (0, .long w)]) (st' := [.int (1 : Int32)]) rfl Kz) ?_
                      refine jv_Wp.lift (fun _ Kz => jv_Ev.br jv_i97 (pc' := 125) (st' := []) rfl (by rfl) Kz) ?_
                      refine jv_Wp.lift (fun _ Kz => jv_Ev.steps jv_i97 1 (pc' := 127) (l' := [(6, .int (0 : Int32)), (5, .int (1 : Int32)), (4, .int (1 : Int32)), (3, .int (vl_I f.code)), (2, .int (vl_I f.n)), (0, .long w)]) (st' := [.int (0 : Int32)]) rfl Kz) ?_
                      refine jv_Wp.lift (fun _ Kz => jv_Ev.br jv_i97 (pc' := 134) (st' := []) rfl (by rfl) Kz) ?_
                      refine jv_Wp.lift (fun _ Kz => jv_Ev.steps jv_i97 1 (pc' := 135) (l' := [(6, .int (0 : Int32)), (5, .int (1 : Int32)), (4, .int (1 : Int32)), (3, .int (vl_I f.code)), (2, .int (vl_I f.n)), (0, .long w)]) (st' := [.int (0 : Int32)]) rfl Kz) ?_
                      refine jv_Wp.of (jv_Ev.ret jv_i97 rfl (jv_ret_b (Or.inl rfl))) ?_
                      have x1 : ¬ f.n = 0 := fun z => h1 ((vl_I_inj (a := f.n) (b := 0) (Nat.lt_trans bn (by decide)) (by decide)).mpr z)
                      have x2 : f.n = 8 := (vl_I_inj (a := f.n) (b := 8) (Nat.lt_trans bn (by decide)) (by decide)).mp h29
                      have x3 : f.d = 0 := (vl_I_inj (a := f.d) (b := 0) (Nat.lt_trans bd (by decide)) (by decide)).mp (Classical.not_not.mp h30)
                      have x4 : f.s = 0 := (vl_I_inj (a := f.s) (b := 0) (Nat.lt_trans bs (by decide)) (by decide)).mp (Classical.not_not.mp h34)
                      have y5 : f.o = 0 := (vw_dO ef).symm.trans (congrArg Int32.toInt (Classical.not_not.mp h38))
                      have y6 : ¬ f.i = 0 := fun z => h48 (Int32.toInt_inj.mp ((vw_dQ ef).trans (z.trans rfl)))
                      have x7 : ¬ f.code = 5 := fun z => h49 ((vl_I_inj (a := f.code) (b := 5) (Nat.lt_trans bc (by decide)) (by decide)).mpr z)
                      have x8 : ¬ f.code = 6 := fun z => h50 ((vl_I_inj (a := f.code) (b := 6) (Nat.lt_trans bc (by decide)) (by decide)).mpr z)
                      have x9 : ¬ f.code = 133 := fun z => h51 ((vl_I_inj (a := f.code) (b := 133) (Nat.lt_trans bc (by decide)) (by decide)).mpr z)
                      have x10 : f.code = 149 := (vl_I_inj (a := f.code) (b := 149) (Nat.lt_trans bc (by decide)) (by decide)).mp (Classical.not_not.mp h52)
                      have ev : decide (vf_pJ f) = false := decide_eq_false (fun z => by have y := (vf_pJ_8 (by omega)).mp z; omega)
                      rw [ev] at hQ
                      exact hQ
                  · refine jv_Wp.lift (fun _ Kz => jv_Ev.steps jv_i97 1 (pc' := 110) (l' := [(6, .int (0 : Int32)), (5, .int (1 : Int32)), (4, .int (1 : Int32)), (3, .int (vl_I f.code)), (2, .int (vl_I f.n)), (0, .long w)]) (st' := [.int (1 : Int32)]) rfl Kz) ?_
                    refine jv_Wp.lift (fun _ Kz => jv_Ev.br jv_i97 (pc' := 130) (st' := []) rfl (by rfl) Kz) ?_
                    refine jv_Wp.lift (fun _ Kz => jv_Ev.steps jv_i97 2 (pc' := 135) (l' := [(6, .int (0 : Int32)), (5, .int (1 : Int32)), (4, .int (1 : Int32)), (3, .int (vl_I f.code)), (2, .int (vl_I f.n)), (0, .long w)]) (st' := [.int (1 : Int32)]) rfl Kz) ?_
                    refine jv_Wp.of (jv_Ev.ret jv_i97 rfl (jv_ret_b (Or.inr rfl))) ?_
                    have x1 : ¬ f.n = 0 := fun z => h1 ((vl_I_inj (a := f.n) (b := 0) (Nat.lt_trans bn (by decide)) (by decide)).mpr z)
                    have x2 : f.n = 8 := (vl_I_inj (a := f.n) (b := 8) (Nat.lt_trans bn (by decide)) (by decide)).mp h29
                    have x3 : f.d = 0 := (vl_I_inj (a := f.d) (b := 0) (Nat.lt_trans bd (by decide)) (by decide)).mp (Classical.not_not.mp h30)
                    have x4 : f.s = 0 := (vl_I_inj (a := f.s) (b := 0) (Nat.lt_trans bs (by decide)) (by decide)).mp (Classical.not_not.mp h34)
                    have y5 : f.o = 0 := (vw_dO ef).symm.trans (congrArg Int32.toInt (Classical.not_not.mp h38))
                    have y6 : ¬ f.i = 0 := fun z => h48 (Int32.toInt_inj.mp ((vw_dQ ef).trans (z.trans rfl)))
                    have x7 : ¬ f.code = 5 := fun z => h49 ((vl_I_inj (a := f.code) (b := 5) (Nat.lt_trans bc (by decide)) (by decide)).mpr z)
                    have x8 : ¬ f.code = 6 := fun z => h50 ((vl_I_inj (a := f.code) (b := 6) (Nat.lt_trans bc (by decide)) (by decide)).mpr z)
                    have x9 : f.code = 133 := (vl_I_inj (a := f.code) (b := 133) (Nat.lt_trans bc (by decide)) (by decide)).mp (Classical.not_not.mp h51)
                    have ev : decide (vf_pJ f) = true := decide_eq_true ((vf_pJ_8 (by omega)).mpr (by omega))
                    rw [ev] at hQ
                    exact hQ
                · refine jv_Wp.lift (fun _ Kz => jv_Ev.steps jv_i97 1 (pc' := 98) (l' := [(6, .int (0 : Int32)), (5, .int (1 : Int32)), (4, .int (1 : Int32)), (3, .int (vl_I f.code)), (2, .int (vl_I f.n)), (0, .long w)]) (st' := [.int (1 : Int32)]) rfl Kz) ?_
                  refine jv_Wp.lift (fun _ Kz => jv_Ev.br jv_i97 (pc' := 130) (st' := []) rfl (by rfl) Kz) ?_
                  refine jv_Wp.lift (fun _ Kz => jv_Ev.steps jv_i97 2 (pc' := 135) (l' := [(6, .int (0 : Int32)), (5, .int (1 : Int32)), (4, .int (1 : Int32)), (3, .int (vl_I f.code)), (2, .int (vl_I f.n)), (0, .long w)]) (st' := [.int (1 : Int32)]) rfl Kz) ?_
                  refine jv_Wp.of (jv_Ev.ret jv_i97 rfl (jv_ret_b (Or.inr rfl))) ?_
                  have x1 : ¬ f.n = 0 := fun z => h1 ((vl_I_inj (a := f.n) (b := 0) (Nat.lt_trans bn (by decide)) (by decide)).mpr z)
                  have x2 : f.n = 8 := (vl_I_inj (a := f.n) (b := 8) (Nat.lt_trans bn (by decide)) (by decide)).mp h29
                  have x3 : f.d = 0 := (vl_I_inj (a := f.d) (b := 0) (Nat.lt_trans bd (by decide)) (by decide)).mp (Classical.not_not.mp h30)
                  have x4 : f.s = 0 := (vl_I_inj (a := f.s) (b := 0) (Nat.lt_trans bs (by decide)) (by decide)).mp (Classical.not_not.mp h34)
                  have y5 : f.o = 0 := (vw_dO ef).symm.trans (congrArg Int32.toInt (Classical.not_not.mp h38))
                  have y6 : ¬ f.i = 0 := fun z => h48 (Int32.toInt_inj.mp ((vw_dQ ef).trans (z.trans rfl)))
                  have x7 : ¬ f.code = 5 := fun z => h49 ((vl_I_inj (a := f.code) (b := 5) (Nat.lt_trans bc (by decide)) (by decide)).mpr z)
                  have x8 : f.code = 6 := (vl_I_inj (a := f.code) (b := 6) (Nat.lt_trans bc (by decide)) (by decide)).mp (Classical.not_not.mp h50)
                  have ev : decide (vf_pJ f) = true := decide_eq_true ((vf_pJ_8 (by omega)).mpr (by omega))
                  rw [ev] at hQ
                  exact hQ
              · refine jv_Wp.lift (fun _ Kz => jv_Ev.steps jv_i97 1 (pc' := 87) (l' := [(6, .int (0 : Int32)), (5, .int (1 : Int32)), (4, .int (1 : Int32)), (3, .int (vl_I f.code)), (2, .int (vl_I f.n)), (0, .long w)]) (st' := [.int (0 : Int32)]) rfl Kz) ?_
                refine jv_Wp.lift (fun _ Kz => jv_Ev.br jv_i97 (pc' := 90) (st' := []) rfl (by rfl) Kz) ?_
                refine jv_Wp.lift (fun _ Kz => jv_Ev.steps jv_i97 2 (pc' := 93) (l' := [(6, .int (0 : Int32)), (5, .int (1 : Int32)), (4, .int (1 : Int32)), (3, .int (vl_I f.code)), (2, .int (vl_I f.n)), (0, .long w)]) (st' := [.int (6 : Int32), .int (vl_I f.code)]) rfl Kz) ?_
                refine jv_Wp.cnd jv_i97 (pt := 101) (pe := 96) (p := (¬ (vl_I f.code) = (6 : Int32))) (q := (¬ (vl_I f.code) = (6 : Int32))) rfl jv_bc_ne rfl rfl Iff.rfl (fun _ => ?_) (fun hz => absurd (fun z => absurd (z.symm.trans (Classical.not_not.mp h49)) (by decide)) hz)
                refine jv_Wp.lift (fun _ Kz => jv_Ev.steps jv_i97 2 (pc' := 105) (l' := [(6, .int (0 : Int32)), (5, .int (1 : Int32)), (4, .int (1 : Int32)), (3, .int (vl_I f.code)), (2, .int (vl_I f.n)), (0, .long w)]) (st' := [.int (133 : Int32), .int (vl_I f.code)]) rfl Kz) ?_
                refine jv_Wp.cnd jv_i97 (pt := 113) (pe := 108) (p := (¬ (vl_I f.code) = (133 : Int32))) (q := (¬ (vl_I f.code) = (133 : Int32))) rfl jv_bc_ne rfl rfl Iff.rfl (fun _ => ?_) (fun hz => absurd (fun z => absurd (z.symm.trans (Classical.not_not.mp h49)) (by decide)) hz)
                refine jv_Wp.lift (fun _ Kz => jv_Ev.steps jv_i97 2 (pc' := 117) (l' := [(6, .int (0 : Int32)), (5, .int (1 : Int32)), (4, .int (1 : Int32)), (3, .int (vl_I f.code)), (2, .int (vl_I f.n)), (0, .long w)]) (st' := [.int (149 : Int32), .int (vl_I f.code)]) rfl Kz) ?_
                refine jv_Wp.cnd jv_i97 (pt := 134) (pe := 120) (p := (¬ (vl_I f.code) = (149 : Int32))) (q := (¬ (vl_I f.code) = (149 : Int32))) rfl jv_bc_ne rfl rfl Iff.rfl (fun _ => ?_) (fun hz => absurd (fun z => absurd (z.symm.trans (Classical.not_not.mp h49)) (by decide)) hz)
                refine jv_Wp.lift (fun _ Kz => jv_Ev.steps jv_i97 1 (pc' := 135) (l' := [(6, .int (0 : Int32)), (5, .int (1 : Int32)), (4, .int (1 : Int32)), (3, .int (vl_I f.code)), (2, .int (vl_I f.n)), (0, .long w)]) (st' := [.int (0 : Int32)]) rfl Kz) ?_
                refine jv_Wp.of (jv_Ev.ret jv_i97 rfl (jv_ret_b (Or.inl rfl))) ?_
                have x1 : ¬ f.n = 0 := fun z => h1 ((vl_I_inj (a := f.n) (b := 0) (Nat.lt_trans bn (by decide)) (by decide)).mpr z)
                have x2 : f.n = 8 := (vl_I_inj (a := f.n) (b := 8) (Nat.lt_trans bn (by decide)) (by decide)).mp h29
                have x3 : f.d = 0 := (vl_I_inj (a := f.d) (b := 0) (Nat.lt_trans bd (by decide)) (by decide)).mp (Classical.not_not.mp h30)
                have x4 : f.s = 0 := (vl_I_inj (a := f.s) (b := 0) (Nat.lt_trans bs (by decide)) (by decide)).mp (Classical.not_not.mp h34)
                have y5 : f.o = 0 := (vw_dO ef).symm.trans (congrArg Int32.toInt (Classical.not_not.mp h38))
                have y6 : ¬ f.i = 0 := fun z => h48 (Int32.toInt_inj.mp ((vw_dQ ef).trans (z.trans rfl)))
                have x7 : f.code = 5 := (vl_I_inj (a := f.code) (b := 5) (Nat.lt_trans bc (by decide)) (by decide)).mp (Classical.not_not.mp h49)
                have ev : decide (vf_pJ f) = false := decide_eq_false (fun z => by have y := (vf_pJ_8 (by omega)).mp z; omega)
                rw [ev] at hQ
                exact hQ
            · refine jv_Wp.lift (fun _ Kz => jv_Ev.steps jv_i97 4 (pc' := 77) (l' := [(6, .int (1 : Int32)), (5, .int (1 : Int32)), (4, .int (1 : Int32)), (3, .int (vl_I f.code)), (2, .int (vl_I f.n)), (0, .long w)]) (st' := [.int (1 : Int32)]) rfl Kz) ?_
              refine jv_Wp.lift (fun _ Kz => jv_Ev.br jv_i97 (pc' := 80) (st' := []) rfl (by rfl) Kz) ?_
              refine jv_Wp.lift (fun _ Kz => jv_Ev.steps jv_i97 2 (pc' := 82) (l' := [(6, .int (1 : Int32)), (5, .int (1 : Int32)), (4, .int (1 : Int32)), (3, .int (vl_I f.code)), (2, .int (vl_I f.n)), (0, .long w)]) (st' := [.int (5 : Int32), .int (vl_I f.code)]) rfl Kz) ?_
              refine jv_Wp.cnd jv_i97 (pt := 90) (pe := 85) (p := (¬ (vl_I f.code) = (5 : Int32))) (q := (¬ (vl_I f.code) = (5 : Int32))) rfl jv_bc_ne rfl rfl Iff.rfl (fun h53 => ?_) (fun h53 => ?_)
              · refine jv_Wp.lift (fun _ Kz => jv_Ev.steps jv_i97 2 (pc' := 93) (l' := [(6, .int (1 : Int32)), (5, .int (1 : Int32)), (4, .int (1 : Int32)), (3, .int (vl_I f.code)), (2, .int (vl_I f.n)), (0, .long w)]) (st' := [.int (6 : Int32), .int (vl_I f.code)]) rfl Kz) ?_
                refine jv_Wp.cnd jv_i97 (pt := 101) (pe := 96) (p := (¬ (vl_I f.code) = (6 : Int32))) (q := (¬ (vl_I f.code) = (6 : Int32))) rfl jv_bc_ne rfl rfl Iff.rfl (fun h54 => ?_) (fun h54 => ?_)
                · refine jv_Wp.lift (fun _ Kz => jv_Ev.steps jv_i97 2 (pc' := 105) (l' := [(6, .int (1 : Int32)), (5, .int (1 : Int32)), (4, .int (1 : Int32)), (3, .int (vl_I f.code)), (2, .int (vl_I f.n)), (0, .long w)]) (st' := [.int (133 : Int32), .int (vl_I f.code)]) rfl Kz) ?_
                  refine jv_Wp.cnd jv_i97 (pt := 113) (pe := 108) (p := (¬ (vl_I f.code) = (133 : Int32))) (q := (¬ (vl_I f.code) = (133 : Int32))) rfl jv_bc_ne rfl rfl Iff.rfl (fun h55 => ?_) (fun h55 => ?_)
                  · refine jv_Wp.lift (fun _ Kz => jv_Ev.steps jv_i97 2 (pc' := 117) (l' := [(6, .int (1 : Int32)), (5, .int (1 : Int32)), (4, .int (1 : Int32)), (3, .int (vl_I f.code)), (2, .int (vl_I f.n)), (0, .long w)]) (st' := [.int (149 : Int32), .int (vl_I f.code)]) rfl Kz) ?_
                    refine jv_Wp.cnd jv_i97 (pt := 134) (pe := 120) (p := (¬ (vl_I f.code) = (149 : Int32))) (q := (¬ (vl_I f.code) = (149 : Int32))) rfl jv_bc_ne rfl rfl Iff.rfl (fun h56 => ?_) (fun h56 => ?_)
                    · refine jv_Wp.lift (fun _ Kz => jv_Ev.steps jv_i97 1 (pc' := 135) (l' := [(6, .int (1 : Int32)), (5, .int (1 : Int32)), (4, .int (1 : Int32)), (3, .int (vl_I f.code)), (2, .int (vl_I f.n)), (0, .long w)]) (st' := [.int (0 : Int32)]) rfl Kz) ?_
                      refine jv_Wp.of (jv_Ev.ret jv_i97 rfl (jv_ret_b (Or.inl rfl))) ?_
                      have x1 : ¬ f.n = 0 := fun z => h1 ((vl_I_inj (a := f.n) (b := 0) (Nat.lt_trans bn (by decide)) (by decide)).mpr z)
                      have x2 : f.n = 8 := (vl_I_inj (a := f.n) (b := 8) (Nat.lt_trans bn (by decide)) (by decide)).mp h29
                      have x3 : f.d = 0 := (vl_I_inj (a := f.d) (b := 0) (Nat.lt_trans bd (by decide)) (by decide)).mp (Classical.not_not.mp h30)
                      have x4 : f.s = 0 := (vl_I_inj (a := f.s) (b := 0) (Nat.lt_trans bs (by decide)) (by decide)).mp (Classical.not_not.mp h34)
                      have y5 : f.o = 0 := (vw_dO ef).symm.trans (congrArg Int32.toInt (Classical.not_not.mp h38))
                      have y6 : f.i = 0 := (vw_dQ ef).symm.trans (congrArg Int32.toInt (Classical.not_not.mp h48))
                      have x7 : ¬ f.code = 5 := fun z => h53 ((vl_I_inj (a := f.code) (b := 5) (Nat.lt_trans bc (by decide)) (by decide)).mpr z)
                      have x8 : ¬ f.code = 6 := fun z => h54 ((vl_I_inj (a := f.code) (b := 6) (Nat.lt_trans bc (by decide)) (by decide)).mpr z)
                      have x9 : ¬ f.code = 133 := fun z => h55 ((vl_I_inj (a := f.code) (b := 133) (Nat.lt_trans bc (by decide)) (by decide)).mpr z)
                      have x10 : ¬ f.code = 149 := fun z => h56 ((vl_I_inj (a := f.code) (b := 149) (Nat.lt_trans bc (by decide)) (by decide)).mpr z)
                      have ev : decide (vf_pJ f) = false := decide_eq_false (fun z => by have y := (vf_pJ_8 (by omega)).mp z; omega)
                      rw [ev] at hQ
                      exact hQ
                    · refine jv_Wp.lift (fun _ Kz => jv_Ev.steps jv_i97 1 (pc' := 122) (l' := [(6, .int (1 : Int32)), (5, .int (1 : Int32)), (4, .int (1 : Int32)), (3, .int (vl_I f.code)), (2, .int (vl_I f.n)), (0, .long w)]) (st' := [.int (1 : Int32)]) rfl Kz) ?_
                      refine jv_Wp.lift (fun _ Kz => jv_Ev.br jv_i97 (pc' := 125) (st' := []) rfl (by rfl) Kz) ?_
                      refine jv_Wp.lift (fun _ Kz => jv_Ev.steps jv_i97 1 (pc' := 127) (l' := [(6, .int (1 : Int32)), (5, .int (1 : Int32)), (4, .int (1 : Int32)), (3, .int (vl_I f.code)), (2, .int (vl_I f.n)), (0, .long w)]) (st' := [.int (1 : Int32)]) rfl Kz) ?_
                      refine jv_Wp.lift (fun _ Kz => jv_Ev.br jv_i97 (pc' := 130) (st' := []) rfl (by rfl) Kz) ?_
                      refine jv_Wp.lift (fun _ Kz => jv_Ev.steps jv_i97 2 (pc' := 135) (l' := [(6, .int (1 : Int32)), (5, .int (1 : Int32)), (4, .int (1 : Int32)), (3, .int (vl_I f.code)), (2, .int (vl_I f.n)), (0, .long w)]) (st' := [.int (1 : Int32)]) rfl Kz) ?_
                      refine jv_Wp.of (jv_Ev.ret jv_i97 rfl (jv_ret_b (Or.inr rfl))) ?_
                      have x1 : ¬ f.n = 0 := fun z => h1 ((vl_I_inj (a := f.n) (b := 0) (Nat.lt_trans bn (by decide)) (by decide)).mpr z)
                      have x2 : f.n = 8 := (vl_I_inj (a := f.n) (b := 8) (Nat.lt_trans bn (by decide)) (by decide)).mp h29
                      have x3 : f.d = 0 := (vl_I_inj (a := f.d) (b := 0) (Nat.lt_trans bd (by decide)) (by decide)).mp (Classical.not_not.mp h30)
                      have x4 : f.s = 0 := (vl_I_inj (a := f.s) (b := 0) (Nat.lt_trans bs (by decide)) (by decide)).mp (Classical.not_not.mp h34)
                      have y5 : f.o = 0 := (vw_dO ef).symm.trans (congrArg Int32.toInt (Classical.not_not.mp h38))
                      have y6 : f.i = 0 := (vw_dQ ef).symm.trans (congrArg Int32.toInt (Classical.not_not.mp h48))
                      have x7 : ¬ f.code = 5 := fun z => h53 ((vl_I_inj (a := f.code) (b := 5) (Nat.lt_trans bc (by decide)) (by decide)).mpr z)
                      have x8 : ¬ f.code = 6 := fun z => h54 ((vl_I_inj (a := f.code) (b := 6) (Nat.lt_trans bc (by decide)) (by decide)).mpr z)
                      have x9 : ¬ f.code = 133 := fun z => h55 ((vl_I_inj (a := f.code) (b := 133) (Nat.lt_trans bc (by decide)) (by decide)).mpr z)
                      have x10 : f.code = 149 := (vl_I_inj (a := f.code) (b := 149) (Nat.lt_trans bc (by decide)) (by decide)).mp (Classical.not_not.mp h56)
                      have ev : decide (vf_pJ f) = true := decide_eq_true ((vf_pJ_8 (by omega)).mpr (by omega))
                      rw [ev] at hQ
                      exact hQ
                  · refine jv_Wp.lift (fun _ Kz => jv_Ev.steps jv_i97 1 (pc' := 110) (l' := [(6, .int (1 : Int32)), (5, .int (1 : Int32)), (4, .int (1 : Int32)), (3, .int (vl_I f.code)), (2, .int (vl_I f.n)), (0, .long w)]) (st' := [.int (1 : Int32)]) rfl Kz) ?_
                    refine jv_Wp.lift (fun _ Kz => jv_Ev.br jv_i97 (pc' := 130) (st' := []) rfl (by rfl) Kz) ?_
                    refine jv_Wp.lift (fun _ Kz => jv_Ev.steps jv_i97 2 (pc' := 135) (l' := [(6, .int (1 : Int32)), (5, .int (1 : Int32)), (4, .int (1 : Int32)), (3, .int (vl_I f.code)), (2, .int (vl_I f.n)), (0, .long w)]) (st' := [.int (1 : Int32)]) rfl Kz) ?_
                    refine jv_Wp.of (jv_Ev.ret jv_i97 rfl (jv_ret_b (Or.inr rfl))) ?_
                    have x1 : ¬ f.n = 0 := fun z => h1 ((vl_I_inj (a := f.n) (b := 0) (Nat.lt_trans bn (by decide)) (by decide)).mpr z)
                    have x2 : f.n = 8 := (vl_I_inj (a := f.n) (b := 8) (Nat.lt_trans bn (by decide)) (by decide)).mp h29
                    have x3 : f.d = 0 := (vl_I_inj (a := f.d) (b := 0) (Nat.lt_trans bd (by decide)) (by decide)).mp (Classical.not_not.mp h30)
                    have x4 : f.s = 0 := (vl_I_inj (a := f.s) (b := 0) (Nat.lt_trans bs (by decide)) (by decide)).mp (Classical.not_not.mp h34)
                    have y5 : f.o = 0 := (vw_dO ef).symm.trans (congrArg Int32.toInt (Classical.not_not.mp h38))
                    have y6 : f.i = 0 := (vw_dQ ef).symm.trans (congrArg Int32.toInt (Classical.not_not.mp h48))
                    have x7 : ¬ f.code = 5 := fun z => h53 ((vl_I_inj (a := f.code) (b := 5) (Nat.lt_trans bc (by decide)) (by decide)).mpr z)
                    have x8 : ¬ f.code = 6 := fun z => h54 ((vl_I_inj (a := f.code) (b := 6) (Nat.lt_trans bc (by decide)) (by decide)).mpr z)
                    have x9 : f.code = 133 := (vl_I_inj (a := f.code) (b := 133) (Nat.lt_trans bc (by decide)) (by decide)).mp (Classical.not_not.mp h55)
                    have ev : decide (vf_pJ f) = true := decide_eq_true ((vf_pJ_8 (by omega)).mpr (by omega))
                    rw [ev] at hQ
                    exact hQ
                · refine jv_Wp.lift (fun _ Kz => jv_Ev.steps jv_i97 1 (pc' := 98) (l' := [(6, .int (1 : Int32)), (5, .int (1 : Int32)), (4, .int (1 : Int32)), (3, .int (vl_I f.code)), (2, .int (vl_I f.n)), (0, .long w)]) (st' := [.int (1 : Int32)]) rfl Kz) ?_
                  refine jv_Wp.lift (fun _ Kz => jv_Ev.br jv_i97 (pc' := 130) (st' := []) rfl (by rfl) Kz) ?_
                  refine jv_Wp.lift (fun _ Kz => jv_Ev.steps jv_i97 2 (pc' := 135) (l' := [(6, .int (1 : Int32)), (5, .int (1 : Int32)), (4, .int (1 : Int32)), (3, .int (vl_I f.code)), (2, .int (vl_I f.n)), (0, .long w)]) (st' := [.int (1 : Int32)]) rfl Kz) ?_
                  refine jv_Wp.of (jv_Ev.ret jv_i97 rfl (jv_ret_b (Or.inr rfl))) ?_
                  have x1 : ¬ f.n = 0 := fun z => h1 ((vl_I_inj (a := f.n) (b := 0) (Nat.lt_trans bn (by decide)) (by decide)).mpr z)
                  have x2 : f.n = 8 := (vl_I_inj (a := f.n) (b := 8) (Nat.lt_trans bn (by decide)) (by decide)).mp h29
                  have x3 : f.d = 0 := (vl_I_inj (a := f.d) (b := 0) (Nat.lt_trans bd (by decide)) (by decide)).mp (Classical.not_not.mp h30)
                  have x4 : f.s = 0 := (vl_I_inj (a := f.s) (b := 0) (Nat.lt_trans bs (by decide)) (by decide)).mp (Classical.not_not.mp h34)
                  have y5 : f.o = 0 := (vw_dO ef).symm.trans (congrArg Int32.toInt (Classical.not_not.mp h38))
                  have y6 : f.i = 0 := (vw_dQ ef).symm.trans (congrArg Int32.toInt (Classical.not_not.mp h48))
                  have x7 : ¬ f.code = 5 := fun z => h53 ((vl_I_inj (a := f.code) (b := 5) (Nat.lt_trans bc (by decide)) (by decide)).mpr z)
                  have x8 : f.code = 6 := (vl_I_inj (a := f.code) (b := 6) (Nat.lt_trans bc (by decide)) (by decide)).mp (Classical.not_not.mp h54)
                  have ev : decide (vf_pJ f) = true := decide_eq_true ((vf_pJ_8 (by omega)).mpr (by omega))
                  rw [ev] at hQ
                  exact hQ
              · refine jv_Wp.lift (fun _ Kz => jv_Ev.steps jv_i97 1 (pc' := 87) (l' := [(6, .int (1 : Int32)), (5, .int (1 : Int32)), (4, .int (1 : Int32)), (3, .int (vl_I f.code)), (2, .int (vl_I f.n)), (0, .long w)]) (st' := [.int (1 : Int32)]) rfl Kz) ?_
                refine jv_Wp.lift (fun _ Kz => jv_Ev.br jv_i97 (pc' := 130) (st' := []) rfl (by rfl) Kz) ?_
                refine jv_Wp.lift (fun _ Kz => jv_Ev.steps jv_i97 2 (pc' := 135) (l' := [(6, .int (1 : Int32)), (5, .int (1 : Int32)), (4, .int (1 : Int32)), (3, .int (vl_I f.code)), (2, .int (vl_I f.n)), (0, .long w)]) (st' := [.int (1 : Int32)]) rfl Kz) ?_
                refine jv_Wp.of (jv_Ev.ret jv_i97 rfl (jv_ret_b (Or.inr rfl))) ?_
                have x1 : ¬ f.n = 0 := fun z => h1 ((vl_I_inj (a := f.n) (b := 0) (Nat.lt_trans bn (by decide)) (by decide)).mpr z)
                have x2 : f.n = 8 := (vl_I_inj (a := f.n) (b := 8) (Nat.lt_trans bn (by decide)) (by decide)).mp h29
                have x3 : f.d = 0 := (vl_I_inj (a := f.d) (b := 0) (Nat.lt_trans bd (by decide)) (by decide)).mp (Classical.not_not.mp h30)
                have x4 : f.s = 0 := (vl_I_inj (a := f.s) (b := 0) (Nat.lt_trans bs (by decide)) (by decide)).mp (Classical.not_not.mp h34)
                have y5 : f.o = 0 := (vw_dO ef).symm.trans (congrArg Int32.toInt (Classical.not_not.mp h38))
                have y6 : f.i = 0 := (vw_dQ ef).symm.trans (congrArg Int32.toInt (Classical.not_not.mp h48))
                have x7 : f.code = 5 := (vl_I_inj (a := f.code) (b := 5) (Nat.lt_trans bc (by decide)) (by decide)).mp (Classical.not_not.mp h53)
                have ev : decide (vf_pJ f) = true := decide_eq_true ((vf_pJ_8 (by omega)).mpr (by omega))
                rw [ev] at hQ
                exact hQ
    · refine jv_Wp.lift (fun _ Kz => jv_Ev.steps jv_i97 2 (pc' := 23) (l' := [(3, .int (vl_I f.code)), (2, .int (vl_I f.n)), (0, .long w)]) (st' := [.int (9 : Int32), .int (vl_I f.n)]) rfl Kz) ?_
      refine jv_Wp.cnd jv_i97 (pt := 136) (pe := 26) (p := (¬ (vl_I f.n) = (9 : Int32))) (q := (¬ (vl_I f.n) = (9 : Int32))) rfl jv_bc_ne rfl rfl Iff.rfl (fun h57 => ?_) (fun h57 => ?_)
      · refine jv_Wp.lift (fun _ Kz => jv_Ev.steps jv_i97 2 (pc' := 139) (l' := [(3, .int (vl_I f.code)), (2, .int (vl_I f.n)), (0, .long w)]) (st' := [.int (13 : Int32), .int (vl_I f.n)]) rfl Kz) ?_
        refine jv_Wp.cnd jv_i97 (pt := 151) (pe := 142) (p := ((13 : Int32) < (vl_I f.n))) (q := ((13 : Int32) < (vl_I f.n))) rfl jv_bc_gt rfl rfl Iff.rfl (fun h58 => ?_) (fun h58 => ?_)
        · refine jv_Wp.lift (fun _ Kz => jv_Ev.steps jv_i97 1 (pc' := 152) (l' := [(3, .int (vl_I f.code)), (2, .int (vl_I f.n)), (0, .long w)]) (st' := [.int (0 : Int32)]) rfl Kz) ?_
          refine jv_Wp.of (jv_Ev.ret jv_i97 rfl (jv_ret_b (Or.inl rfl))) ?_
          have x1 : ¬ f.n = 0 := fun z => h1 ((vl_I_inj (a := f.n) (b := 0) (Nat.lt_trans bn (by decide)) (by decide)).mpr z)
          have x2 : ¬ f.n = 8 := fun z => h29 ((vl_I_inj (a := f.n) (b := 8) (Nat.lt_trans bn (by decide)) (by decide)).mpr z)
          have x3 : ¬ f.n = 9 := fun z => h57 ((vl_I_inj (a := f.n) (b := 9) (Nat.lt_trans bn (by decide)) (by decide)).mpr z)
          have x4 : 13 < f.n := (vl_I_lt (a := 13) (b := f.n) (by decide) bn).mp h58
          have ev : decide (vf_pJ f) = false := decide_eq_false (fun z => by have y := (vf_pJ_n (by omega)).mp z; omega)
          rw [ev] at hQ
          exact hQ
        · refine jv_Wp.lift (fun _ Kz => jv_Ev.steps jv_i97 1 (pc' := 143) (l' := [(3, .int (vl_I f.code)), (2, .int (vl_I f.n)), (0, .long w)]) (st' := [.long w]) rfl Kz) ?_
          refine jv_Wp.lift (fun _ Kz => jv_Ev.c jv_i97 (pc' := 146) (S' := [.int (vl_I f.d)]) jv_i86 [.long w] rfl rfl rfl rfl rfl rfl (vw_f86 ef) rfl rfl Kz) ?_
          refine jv_Wp.lift (fun _ Kz => jv_Ev.steps jv_i97 1 (pc' := 148) (l' := [(3, .int (vl_I f.code)), (2, .int (vl_I f.n)), (0, .long w)]) (st' := [.int (11 : Int32), .int (vl_I f.d)]) rfl Kz) ?_
          refine jv_Wp.cnd jv_i97 (pt := 153) (pe := 151) (p := ((vl_I f.d) < (11 : Int32))) (q := ((vl_I f.d) < (11 : Int32))) rfl jv_bc_lt rfl rfl Iff.rfl (fun h59 => ?_) (fun h59 => ?_)
          · refine jv_Wp.lift (fun _ Kz => jv_Ev.steps jv_i97 1 (pc' := 154) (l' := [(3, .int (vl_I f.code)), (2, .int (vl_I f.n)), (0, .long w)]) (st' := [.long w]) rfl Kz) ?_
            refine jv_Wp.lift (fun _ Kz => jv_Ev.c jv_i97 (pc' := 157) (S' := [.int (vr_b f.bit3)]) jv_i83 [.long w] rfl rfl rfl rfl rfl rfl (vw_f83 ef) rfl rfl Kz) ?_
            refine jv_Wp.cnd jv_i97 (pt := 184) (pe := 160) (p := ((vr_b f.bit3) = 0)) (q := ((vr_b f.bit3) = 0)) rfl jv_bi_eq rfl rfl Iff.rfl (fun h60 => ?_) (fun h60 => ?_)
            · refine jv_Wp.lift (fun _ Kz => jv_Ev.steps jv_i97 1 (pc' := 185) (l' := [(3, .int (vl_I f.code)), (2, .int (vl_I f.n)), (0, .long w)]) (st' := [.long w]) rfl Kz) ?_
              refine jv_Wp.lift (fun _ Kz => jv_Ev.c jv_i97 (pc' := 188) (S' := [.int (vl_I f.s)]) jv_i87 [.long w] rfl rfl rfl rfl rfl rfl (vw_f87 ef) rfl rfl Kz) ?_
              refine jv_Wp.cnd jv_i97 (pt := 195) (pe := 191) (p := (¬ (vl_I f.s) = 0)) (q := (¬ (vl_I f.s) = 0)) rfl jv_bi_ne rfl rfl Iff.rfl (fun h61 => ?_) (fun h61 => ?_)
              · refine jv_Wp.lift (fun _ Kz => jv_Ev.steps jv_i97 1 (pc' := 196) (l' := [(3, .int (vl_I f.code)), (2, .int (vl_I f.n)), (0, .long w)]) (st' := [.int (0 : Int32)]) rfl Kz) ?_
                refine jv_Wp.of (jv_Ev.ret jv_i97 rfl (jv_ret_b (Or.inl rfl))) ?_
                have x1 : ¬ f.n = 0 := fun z => h1 ((vl_I_inj (a := f.n) (b := 0) (Nat.lt_trans bn (by decide)) (by decide)).mpr z)
                have x2 : ¬ f.n = 8 := fun z => h29 ((vl_I_inj (a := f.n) (b := 8) (Nat.lt_trans bn (by decide)) (by decide)).mpr z)
                have x3 : ¬ f.n = 9 := fun z => h57 ((vl_I_inj (a := f.n) (b := 9) (Nat.lt_trans bn (by decide)) (by decide)).mpr z)
                have x4 : ¬ 13 < f.n := fun z => h58 ((vl_I_lt (a := 13) (b := f.n) (by decide) bn).mpr z)
                have x5 : f.d < 11 := (vl_I_lt (a := f.d) (b := 11) bd (by decide)).mp h59
                have b6 := vf_b3f (vr_b_f h60)
                have x7 : ¬ f.s = 0 := fun z => h61 ((vl_I_inj (a := f.s) (b := 0) (Nat.lt_trans bs (by decide)) (by decide)).mpr z)
                have ev : decide (vf_pJ f) = false := decide_eq_false (fun z => by have y := (vf_pJ_n (by omega)).mp z; omega)
                rw [ev] at hQ
                exact hQ
              · refine jv_Wp.lift (fun _ Kz => jv_Ev.steps jv_i97 2 (pc' := 196) (l' := [(3, .int (vl_I f.code)), (2, .int (vl_I f.n)), (0, .long w)]) (st' := [.int (1 : Int32)]) rfl Kz) ?_
                refine jv_Wp.of (jv_Ev.ret jv_i97 rfl (jv_ret_b (Or.inr rfl))) ?_
                have x1 : ¬ f.n = 0 := fun z => h1 ((vl_I_inj (a := f.n) (b := 0) (Nat.lt_trans bn (by decide)) (by decide)).mpr z)
                have x2 : ¬ f.n = 8 := fun z => h29 ((vl_I_inj (a := f.n) (b := 8) (Nat.lt_trans bn (by decide)) (by decide)).mpr z)
                have x3 : ¬ f.n = 9 := fun z => h57 ((vl_I_inj (a := f.n) (b := 9) (Nat.lt_trans bn (by decide)) (by decide)).mpr z)
                have x4 : ¬ 13 < f.n := fun z => h58 ((vl_I_lt (a := 13) (b := f.n) (by decide) bn).mpr z)
                have x5 : f.d < 11 := (vl_I_lt (a := f.d) (b := 11) bd (by decide)).mp h59
                have b6 := vf_b3f (vr_b_f h60)
                have x7 : f.s = 0 := (vl_I_inj (a := f.s) (b := 0) (Nat.lt_trans bs (by decide)) (by decide)).mp (Classical.not_not.mp h61)
                have ev : decide (vf_pJ f) = true := decide_eq_true ((vf_pJ_n (by omega)).mpr (by omega))
                rw [ev] at hQ
                exact hQ
            · refine jv_Wp.lift (fun _ Kz => jv_Ev.steps jv_i97 1 (pc' := 161) (l' := [(3, .int (vl_I f.code)), (2, .int (vl_I f.n)), (0, .long w)]) (st' := [.long w]) rfl Kz) ?_
              refine jv_Wp.lift (fun _ Kz => jv_Ev.c jv_i97 (pc' := 164) (S' := [.int (vl_I f.s)]) jv_i87 [.long w] rfl rfl rfl rfl rfl rfl (vw_f87 ef) rfl rfl Kz) ?_
              refine jv_Wp.lift (fun _ Kz => jv_Ev.steps jv_i97 1 (pc' := 166) (l' := [(3, .int (vl_I f.code)), (2, .int (vl_I f.n)), (0, .long w)]) (st' := [.int (11 : Int32), .int (vl_I f.s)]) rfl Kz) ?_
              refine jv_Wp.cnd jv_i97 (pt := 180) (pe := 169) (p := ((11 : Int32) ≤ (vl_I f.s))) (q := ((11 : Int32) ≤ (vl_I f.s))) rfl jv_bc_ge rfl rfl Iff.rfl (fun h62 => ?_) (fun h62 => ?_)
              · refine jv_Wp.lift (fun _ Kz => jv_Ev.steps jv_i97 2 (pc' := 196) (l' := [(3, .int (vl_I f.code)), (2, .int (vl_I f.n)), (0, .long w)]) (st' := [.int (0 : Int32)]) rfl Kz) ?_
                refine jv_Wp.of (jv_Ev.ret jv_i97 rfl (jv_ret_b (Or.inl rfl))) ?_
                have x1 : ¬ f.n = 0 := fun z => h1 ((vl_I_inj (a := f.n) (b := 0) (Nat.lt_trans bn (by decide)) (by decide)).mpr z)
                have x2 : ¬ f.n = 8 := fun z => h29 ((vl_I_inj (a := f.n) (b := 8) (Nat.lt_trans bn (by decide)) (by decide)).mpr z)
                have x3 : ¬ f.n = 9 := fun z => h57 ((vl_I_inj (a := f.n) (b := 9) (Nat.lt_trans bn (by decide)) (by decide)).mpr z)
                have x4 : ¬ 13 < f.n := fun z => h58 ((vl_I_lt (a := 13) (b := f.n) (by decide) bn).mpr z)
                have x5 : f.d < 11 := (vl_I_lt (a := f.d) (b := 11) bd (by decide)).mp h59
                have b6 := vf_b3t (vr_b_t h60)
                have x7 : 11 ≤ f.s := (vl_I_le (a := 11) (b := f.s) (by decide) bs).mp h62
                have ev : decide (vf_pJ f) = false := decide_eq_false (fun z => by have y := (vf_pJ_n (by omega)).mp z; omega)
                rw [ev] at hQ
                exact hQ
              · refine jv_Wp.lift (fun _ Kz => jv_Ev.steps jv_i97 1 (pc' := 170) (l' := [(3, .int (vl_I f.code)), (2, .int (vl_I f.n)), (0, .long w)]) (st' := [.long w]) rfl Kz) ?_
                refine jv_Wp.lift (fun _ Kz => jv_Ev.c jv_i97 (pc' := 173) (S' := [.int (Int32.ofInt f.i)]) jv_i89 [.long w] rfl rfl rfl rfl rfl rfl (vw_f89 ef) rfl rfl Kz) ?_
                refine jv_Wp.cnd jv_i97 (pt := 180) (pe := 176) (p := (¬ (Int32.ofInt f.i) = 0)) (q := (¬ (Int32.ofInt f.i) = 0)) rfl jv_bi_ne rfl rfl Iff.rfl (fun h63 => ?_) (fun h63 => ?_)
                · refine jv_Wp.lift (fun _ Kz => jv_Ev.steps jv_i97 2 (pc' := 196) (l' := [(3, .int (vl_I f.code)), (2, .int (vl_I f.n)), (0, .long w)]) (st' := [.int (0 : Int32)]) rfl Kz) ?_
                  refine jv_Wp.of (jv_Ev.ret jv_i97 rfl (jv_ret_b (Or.inl rfl))) ?_
                  have x1 : ¬ f.n = 0 := fun z => h1 ((vl_I_inj (a := f.n) (b := 0) (Nat.lt_trans bn (by decide)) (by decide)).mpr z)
                  have x2 : ¬ f.n = 8 := fun z => h29 ((vl_I_inj (a := f.n) (b := 8) (Nat.lt_trans bn (by decide)) (by decide)).mpr z)
                  have x3 : ¬ f.n = 9 := fun z => h57 ((vl_I_inj (a := f.n) (b := 9) (Nat.lt_trans bn (by decide)) (by decide)).mpr z)
                  have x4 : ¬ 13 < f.n := fun z => h58 ((vl_I_lt (a := 13) (b := f.n) (by decide) bn).mpr z)
                  have x5 : f.d < 11 := (vl_I_lt (a := f.d) (b := 11) bd (by decide)).mp h59
                  have b6 := vf_b3t (vr_b_t h60)
                  have x7 : ¬ 11 ≤ f.s := fun z => h62 ((vl_I_le (a := 11) (b := f.s) (by decide) bs).mpr z)
                  have y8 : ¬ f.i = 0 := fun z => h63 (Int32.toInt_inj.mp ((vw_dQ ef).trans (z.trans rfl)))
                  have ev : decide (vf_pJ f) = false := decide_eq_false (fun z => by have y := (vf_pJ_n (by omega)).mp z; omega)
                  rw [ev] at hQ
                  exact hQ
                · refine jv_Wp.lift (fun _ Kz => jv_Ev.steps jv_i97 2 (pc' := 196) (l' := [(3, .int (vl_I f.code)), (2, .int (vl_I f.n)), (0, .long w)]) (st' := [.int (1 : Int32)]) rfl Kz) ?_
                  refine jv_Wp.of (jv_Ev.ret jv_i97 rfl (jv_ret_b (Or.inr rfl))) ?_
                  have x1 : ¬ f.n = 0 := fun z => h1 ((vl_I_inj (a := f.n) (b := 0) (Nat.lt_trans bn (by decide)) (by decide)).mpr z)
                  have x2 : ¬ f.n = 8 := fun z => h29 ((vl_I_inj (a := f.n) (b := 8) (Nat.lt_trans bn (by decide)) (by decide)).mpr z)
                  have x3 : ¬ f.n = 9 := fun z => h57 ((vl_I_inj (a := f.n) (b := 9) (Nat.lt_trans bn (by decide)) (by decide)).mpr z)
                  have x4 : ¬ 13 < f.n := fun z => h58 ((vl_I_lt (a := 13) (b := f.n) (by decide) bn).mpr z)
                  have x5 : f.d < 11 := (vl_I_lt (a := f.d) (b := 11) bd (by decide)).mp h59
                  have b6 := vf_b3t (vr_b_t h60)
                  have x7 : ¬ 11 ≤ f.s := fun z => h62 ((vl_I_le (a := 11) (b := f.s) (by decide) bs).mpr z)
                  have y8 : f.i = 0 := (vw_dQ ef).symm.trans (congrArg Int32.toInt (Classical.not_not.mp h63))
                  have ev : decide (vf_pJ f) = true := decide_eq_true ((vf_pJ_n (by omega)).mpr (by omega))
                  rw [ev] at hQ
                  exact hQ
          · refine jv_Wp.lift (fun _ Kz => jv_Ev.steps jv_i97 1 (pc' := 152) (l' := [(3, .int (vl_I f.code)), (2, .int (vl_I f.n)), (0, .long w)]) (st' := [.int (0 : Int32)]) rfl Kz) ?_
            refine jv_Wp.of (jv_Ev.ret jv_i97 rfl (jv_ret_b (Or.inl rfl))) ?_
            have x1 : ¬ f.n = 0 := fun z => h1 ((vl_I_inj (a := f.n) (b := 0) (Nat.lt_trans bn (by decide)) (by decide)).mpr z)
            have x2 : ¬ f.n = 8 := fun z => h29 ((vl_I_inj (a := f.n) (b := 8) (Nat.lt_trans bn (by decide)) (by decide)).mpr z)
            have x3 : ¬ f.n = 9 := fun z => h57 ((vl_I_inj (a := f.n) (b := 9) (Nat.lt_trans bn (by decide)) (by decide)).mpr z)
            have x4 : ¬ 13 < f.n := fun z => h58 ((vl_I_lt (a := 13) (b := f.n) (by decide) bn).mpr z)
            have x5 : ¬ f.d < 11 := fun z => h59 ((vl_I_lt (a := f.d) (b := 11) bd (by decide)).mpr z)
            have ev : decide (vf_pJ f) = false := decide_eq_false (fun z => by have y := (vf_pJ_n (by omega)).mp z; omega)
            rw [ev] at hQ
            exact hQ
      · refine jv_Wp.lift (fun _ Kz => jv_Ev.steps jv_i97 1 (pc' := 27) (l' := [(3, .int (vl_I f.code)), (2, .int (vl_I f.n)), (0, .long w)]) (st' := [.long w]) rfl Kz) ?_
        refine jv_Wp.lift (fun _ Kz => jv_Ev.c jv_i97 (pc' := 30) (S' := [.int (vl_I f.d)]) jv_i86 [.long w] rfl rfl rfl rfl rfl rfl (vw_f86 ef) rfl rfl Kz) ?_
        refine jv_Wp.cnd jv_i97 (pt := 44) (pe := 33) (p := (¬ (vl_I f.d) = 0)) (q := (¬ (vl_I f.d) = 0)) rfl jv_bi_ne rfl rfl Iff.rfl (fun h64 => ?_) (fun h64 => ?_)
        · refine jv_Wp.lift (fun _ Kz => jv_Ev.steps jv_i97 3 (pc' := 48) (l' := [(4, .int (0 : Int32)), (3, .int (vl_I f.code)), (2, .int (vl_I f.n)), (0, .long w)]) (st' := [.long w]) rfl Kz) ?_
          refine jv_Wp.lift (fun _ Kz => jv_Ev.c jv_i97 (pc' := 51) (S' := [.int (Int32.ofInt f.o)]) jv_i88 [.long w] rfl rfl rfl rfl rfl rfl (vw_f88 ef) rfl rfl Kz) ?_
          refine jv_Wp.cnd jv_i97 (pt := 58) (pe := 54) (p := (¬ (Int32.ofInt f.o) = 0)) (q := (¬ (Int32.ofInt f.o) = 0)) rfl jv_bi_ne rfl rfl Iff.rfl (fun h65 => ?_) (fun h65 => ?_)
          · refine jv_Wp.lift (fun _ Kz => jv_Ev.steps jv_i97 3 (pc' := 62) (l' := [(5, .int (0 : Int32)), (4, .int (0 : Int32)), (3, .int (vl_I f.code)), (2, .int (vl_I f.n)), (0, .long w)]) (st' := [.long w]) rfl Kz) ?_
            refine jv_Wp.lift (fun _ Kz => jv_Ev.c jv_i97 (pc' := 65) (S' := [.int (Int32.ofInt f.i)]) jv_i89 [.long w] rfl rfl rfl rfl rfl rfl (vw_f89 ef) rfl rfl Kz) ?_
            refine jv_Wp.cnd jv_i97 (pt := 72) (pe := 68) (p := (¬ (Int32.ofInt f.i) = 0)) (q := (¬ (Int32.ofInt f.i) = 0)) rfl jv_bi_ne rfl rfl Iff.rfl (fun h66 => ?_) (fun h66 => ?_)
            · refine jv_Wp.lift (fun _ Kz => jv_Ev.steps jv_i97 3 (pc' := 77) (l' := [(6, .int (0 : Int32)), (5, .int (0 : Int32)), (4, .int (0 : Int32)), (3, .int (vl_I f.code)), (2, .int (vl_I f.n)), (0, .long w)]) (st' := [.int (0 : Int32)]) rfl Kz) ?_
              refine jv_Wp.lift (fun _ Kz => jv_Ev.br jv_i97 (pc' := 134) (st' := []) rfl (by rfl) Kz) ?_
              refine jv_Wp.lift (fun _ Kz => jv_Ev.steps jv_i97 1 (pc' := 135) (l' := [(6, .int (0 : Int32)), (5, .int (0 : Int32)), (4, .int (0 : Int32)), (3, .int (vl_I f.code)), (2, .int (vl_I f.n)), (0, .long w)]) (st' := [.int (0 : Int32)]) rfl Kz) ?_
              refine jv_Wp.of (jv_Ev.ret jv_i97 rfl (jv_ret_b (Or.inl rfl))) ?_
              have x1 : ¬ f.n = 0 := fun z => h1 ((vl_I_inj (a := f.n) (b := 0) (Nat.lt_trans bn (by decide)) (by decide)).mpr z)
              have x2 : ¬ f.n = 8 := fun z => h29 ((vl_I_inj (a := f.n) (b := 8) (Nat.lt_trans bn (by decide)) (by decide)).mpr z)
              have x3 : f.n = 9 := (vl_I_inj (a := f.n) (b := 9) (Nat.lt_trans bn (by decide)) (by decide)).mp (Classical.not_not.mp h57)
              have x4 : ¬ f.d = 0 := fun z => h64 ((vl_I_inj (a := f.d) (b := 0) (Nat.lt_trans bd (by decide)) (by decide)).mpr z)
              have y5 : ¬ f.o = 0 := fun z => h65 (Int32.toInt_inj.mp ((vw_dO ef).trans (z.trans rfl)))
              have y6 : ¬ f.i = 0 := fun z => h66 (Int32.toInt_inj.mp ((vw_dQ ef).trans (z.trans rfl)))
              have ev : decide (vf_pJ f) = false := decide_eq_false (fun z => by have y := (vf_pJ_9 (by omega)).mp z; omega)
              rw [ev] at hQ
              exact hQ
            · refine jv_Wp.lift (fun _ Kz => jv_Ev.steps jv_i97 4 (pc' := 77) (l' := [(6, .int (1 : Int32)), (5, .int (0 : Int32)), (4, .int (0 : Int32)), (3, .int (vl_I f.code)), (2, .int (vl_I f.n)), (0, .long w)]) (st' := [.int (0 : Int32)]) rfl Kz) ?_
              refine jv_Wp.lift (fun _ Kz => jv_Ev.br jv_i97 (pc' := 134) (st' := []) rfl (by rfl) Kz) ?_
              refine jv_Wp.lift (fun _ Kz => jv_Ev.steps jv_i97 1 (pc' := 135) (l' := [(6, .int (1 : Int32)), (5, .int (0 : Int32)), (4, .int (0 : Int32)), (3, .int (vl_I f.code)), (2, .int (vl_I f.n)), (0, .long w)]) (st' := [.int (0 : Int32)]) rfl Kz) ?_
              refine jv_Wp.of (jv_Ev.ret jv_i97 rfl (jv_ret_b (Or.inl rfl))) ?_
              have x1 : ¬ f.n = 0 := fun z => h1 ((vl_I_inj (a := f.n) (b := 0) (Nat.lt_trans bn (by decide)) (by decide)).mpr z)
              have x2 : ¬ f.n = 8 := fun z => h29 ((vl_I_inj (a := f.n) (b := 8) (Nat.lt_trans bn (by decide)) (by decide)).mpr z)
              have x3 : f.n = 9 := (vl_I_inj (a := f.n) (b := 9) (Nat.lt_trans bn (by decide)) (by decide)).mp (Classical.not_not.mp h57)
              have x4 : ¬ f.d = 0 := fun z => h64 ((vl_I_inj (a := f.d) (b := 0) (Nat.lt_trans bd (by decide)) (by decide)).mpr z)
              have y5 : ¬ f.o = 0 := fun z => h65 (Int32.toInt_inj.mp ((vw_dO ef).trans (z.trans rfl)))
              have y6 : f.i = 0 := (vw_dQ ef).symm.trans (congrArg Int32.toInt (Classical.not_not.mp h66))
              have ev : decide (vf_pJ f) = false := decide_eq_false (fun z => by have y := (vf_pJ_9 (by omega)).mp z; omega)
              rw [ev] at hQ
              exact hQ
          · refine jv_Wp.lift (fun _ Kz => jv_Ev.steps jv_i97 4 (pc' := 62) (l' := [(5, .int (1 : Int32)), (4, .int (0 : Int32)), (3, .int (vl_I f.code)), (2, .int (vl_I f.n)), (0, .long w)]) (st' := [.long w]) rfl Kz) ?_
            refine jv_Wp.lift (fun _ Kz => jv_Ev.c jv_i97 (pc' := 65) (S' := [.int (Int32.ofInt f.i)]) jv_i89 [.long w] rfl rfl rfl rfl rfl rfl (vw_f89 ef) rfl rfl Kz) ?_
            refine jv_Wp.cnd jv_i97 (pt := 72) (pe := 68) (p := (¬ (Int32.ofInt f.i) = 0)) (q := (¬ (Int32.ofInt f.i) = 0)) rfl jv_bi_ne rfl rfl Iff.rfl (fun h67 => ?_) (fun h67 => ?_)
            · refine jv_Wp.lift (fun _ Kz => jv_Ev.steps jv_i97 3 (pc' := 77) (l' := [(6, .int (0 : Int32)), (5, .int (1 : Int32)), (4, .int (0 : Int32)), (3, .int (vl_I f.code)), (2, .int (vl_I f.n)), (0, .long w)]) (st' := [.int (0 : Int32)]) rfl Kz) ?_
              refine jv_Wp.lift (fun _ Kz => jv_Ev.br jv_i97 (pc' := 134) (st' := []) rfl (by rfl) Kz) ?_
              refine jv_Wp.lift (fun _ Kz => jv_Ev.steps jv_i97 1 (pc' := 135) (l' := [(6, .int (0 : Int32)), (5, .int (1 : Int32)), (4, .int (0 : Int32)), (3, .int (vl_I f.code)), (2, .int (vl_I f.n)), (0, .long w)]) (st' := [.int (0 : Int32)]) rfl Kz) ?_
              refine jv_Wp.of (jv_Ev.ret jv_i97 rfl (jv_ret_b (Or.inl rfl))) ?_
              have x1 : ¬ f.n = 0 := fun z => h1 ((vl_I_inj (a := f.n) (b := 0) (Nat.lt_trans bn (by decide)) (by decide)).mpr z)
              have x2 : ¬ f.n = 8 := fun z => h29 ((vl_I_inj (a := f.n) (b := 8) (Nat.lt_trans bn (by decide)) (by decide)).mpr z)
              have x3 : f.n = 9 := (vl_I_inj (a := f.n) (b := 9) (Nat.lt_trans bn (by decide)) (by decide)).mp (Classical.not_not.mp h57)
              have x4 : ¬ f.d = 0 := fun z => h64 ((vl_I_inj (a := f.d) (b := 0) (Nat.lt_trans bd (by decide)) (by decide)).mpr z)
              have y5 : f.o = 0 := (vw_dO ef).symm.trans (congrArg Int32.toInt (Classical.not_not.mp h65))
              have y6 : ¬ f.i = 0 := fun z => h67 (Int32.toInt_inj.mp ((vw_dQ ef).trans (z.trans rfl)))
              have ev : decide (vf_pJ f) = false := decide_eq_false (fun z => by have y := (vf_pJ_9 (by omega)).mp z; omega)
              rw [ev] at hQ
              exact hQ
            · refine jv_Wp.lift (fun _ Kz => jv_Ev.steps jv_i97 4 (pc' := 77) (l' := [(6, .int (1 : Int32)), (5, .int (1 : Int32)), (4, .int (0 : Int32)), (3, .int (vl_I f.code)), (2, .int (vl_I f.n)), (0, .long w)]) (st' := [.int (0 : Int32)]) rfl Kz) ?_
              refine jv_Wp.lift (fun _ Kz => jv_Ev.br jv_i97 (pc' := 134) (st' := []) rfl (by rfl) Kz) ?_
              refine jv_Wp.lift (fun _ Kz => jv_Ev.steps jv_i97 1 (pc' := 135) (l' := [(6, .int (1 : Int32)), (5, .int (1 : Int32)), (4, .int (0 : Int32)), (3, .int (vl_I f.code)), (2, .int (vl_I f.n)), (0, .long w)]) (st' := [.int (0 : Int32)]) rfl Kz) ?_
              refine jv_Wp.of (jv_Ev.ret jv_i97 rfl (jv_ret_b (Or.inl rfl))) ?_
              have x1 : ¬ f.n = 0 := fun z => h1 ((vl_I_inj (a := f.n) (b := 0) (Nat.lt_trans bn (by decide)) (by decide)).mpr z)
              have x2 : ¬ f.n = 8 := fun z => h29 ((vl_I_inj (a := f.n) (b := 8) (Nat.lt_trans bn (by decide)) (by decide)).mpr z)
              have x3 : f.n = 9 := (vl_I_inj (a := f.n) (b := 9) (Nat.lt_trans bn (by decide)) (by decide)).mp (Classical.not_not.mp h57)
              have x4 : ¬ f.d = 0 := fun z => h64 ((vl_I_inj (a := f.d) (b := 0) (Nat.lt_trans bd (by decide)) (by decide)).mpr z)
              have y5 : f.o = 0 := (vw_dO ef).symm.trans (congrArg Int32.toInt (Classical.not_not.mp h65))
              have y6 : f.i = 0 := (vw_dQ ef).symm.trans (congrArg Int32.toInt (Classical.not_not.mp h67))
              have ev : decide (vf_pJ f) = false := decide_eq_false (fun z => by have y := (vf_pJ_9 (by omega)).mp z; omega)
              rw [ev] at hQ
              exact hQ
        · refine jv_Wp.lift (fun _ Kz => jv_Ev.steps jv_i97 1 (pc' := 34) (l' := [(3, .int (vl_I f.code)), (2, .int (vl_I f.n)), (0, .long w)]) (st' := [.long w]) rfl Kz) ?_
          refine jv_Wp.lift (fun _ Kz => jv_Ev.c jv_i97 (pc' := 37) (S' := [.int (vl_I f.s)]) jv_i87 [.long w] rfl rfl rfl rfl rfl rfl (vw_f87 ef) rfl rfl Kz) ?_
          refine jv_Wp.cnd jv_i97 (pt := 44) (pe := 40) (p := (¬ (vl_I f.s) = 0)) (q := (¬ (vl_I f.s) = 0)) rfl jv_bi_ne rfl rfl Iff.rfl (fun h68 => ?_) (fun h68 => ?_)
          · refine jv_Wp.lift (fun _ Kz => jv_Ev.steps jv_i97 3 (pc' := 48) (l' := [(4, .int (0 : Int32)), (3, .int (vl_I f.code)), (2, .int (vl_I f.n)), (0, .long w)]) (st' := [.long w]) rfl Kz) ?_
            refine jv_Wp.lift (fun _ Kz => jv_Ev.c jv_i97 (pc' := 51) (S' := [.int (Int32.ofInt f.o)]) jv_i88 [.long w] rfl rfl rfl rfl rfl rfl (vw_f88 ef) rfl rfl Kz) ?_
            refine jv_Wp.cnd jv_i97 (pt := 58) (pe := 54) (p := (¬ (Int32.ofInt f.o) = 0)) (q := (¬ (Int32.ofInt f.o) = 0)) rfl jv_bi_ne rfl rfl Iff.rfl (fun h69 => ?_) (fun h69 => ?_)
            · refine jv_Wp.lift (fun _ Kz => jv_Ev.steps jv_i97 3 (pc' := 62) (l' := [(5, .int (0 : Int32)), (4, .int (0 : Int32)), (3, .int (vl_I f.code)), (2, .int (vl_I f.n)), (0, .long w)]) (st' := [.long w]) rfl Kz) ?_
              refine jv_Wp.lift (fun _ Kz => jv_Ev.c jv_i97 (pc' := 65) (S' := [.int (Int32.ofInt f.i)]) jv_i89 [.long w] rfl rfl rfl rfl rfl rfl (vw_f89 ef) rfl rfl Kz) ?_
              refine jv_Wp.cnd jv_i97 (pt := 72) (pe := 68) (p := (¬ (Int32.ofInt f.i) = 0)) (q := (¬ (Int32.ofInt f.i) = 0)) rfl jv_bi_ne rfl rfl Iff.rfl (fun h70 => ?_) (fun h70 => ?_)
              · refine jv_Wp.lift (fun _ Kz => jv_Ev.steps jv_i97 3 (pc' := 77) (l' := [(6, .int (0 : Int32)), (5, .int (0 : Int32)), (4, .int (0 : Int32)), (3, .int (vl_I f.code)), (2, .int (vl_I f.n)), (0, .long w)]) (st' := [.int (0 : Int32)]) rfl Kz) ?_
                refine jv_Wp.lift (fun _ Kz => jv_Ev.br jv_i97 (pc' := 134) (st' := []) rfl (by rfl) Kz) ?_
                refine jv_Wp.lift (fun _ Kz => jv_Ev.steps jv_i97 1 (pc' := 135) (l' := [(6, .int (0 : Int32)), (5, .int (0 : Int32)), (4, .int (0 : Int32)), (3, .int (vl_I f.code)), (2, .int (vl_I f.n)), (0, .long w)]) (st' := [.int (0 : Int32)]) rfl Kz) ?_
                refine jv_Wp.of (jv_Ev.ret jv_i97 rfl (jv_ret_b (Or.inl rfl))) ?_
                have x1 : ¬ f.n = 0 := fun z => h1 ((vl_I_inj (a := f.n) (b := 0) (Nat.lt_trans bn (by decide)) (by decide)).mpr z)
                have x2 : ¬ f.n = 8 := fun z => h29 ((vl_I_inj (a := f.n) (b := 8) (Nat.lt_trans bn (by decide)) (by decide)).mpr z)
                have x3 : f.n = 9 := (vl_I_inj (a := f.n) (b := 9) (Nat.lt_trans bn (by decide)) (by decide)).mp (Classical.not_not.mp h57)
                have x4 : f.d = 0 := (vl_I_inj (a := f.d) (b := 0) (Nat.lt_trans bd (by decide)) (by decide)).mp (Classical.not_not.mp h64)
                have x5 : ¬ f.s = 0 := fun z => h68 ((vl_I_inj (a := f.s) (b := 0) (Nat.lt_trans bs (by decide)) (by decide)).mpr z)
                have y6 : ¬ f.o = 0 := fun z => h69 (Int32.toInt_inj.mp ((vw_dO ef).trans (z.trans rfl)))
                have y7 : ¬ f.i = 0 := fun z => h70 (Int32.toInt_inj.mp ((vw_dQ ef).trans (z.trans rfl)))
                have ev : decide (vf_pJ f) = false := decide_eq_false (fun z => by have y := (vf_pJ_9 (by omega)).mp z; omega)
                rw [ev] at hQ
                exact hQ
              · refine jv_Wp.lift (fun _ Kz => jv_Ev.steps jv_i97 4 (pc' := 77) (l' := [(6, .int (1 : Int32)), (5, .int (0 : Int32)), (4, .int (0 : Int32)), (3, .int (vl_I f.code)), (2, .int (vl_I f.n)), (0, .long w)]) (st' := [.int (0 : Int32)]) rfl Kz) ?_
                refine jv_Wp.lift (fun _ Kz => jv_Ev.br jv_i97 (pc' := 134) (st' := []) rfl (by rfl) Kz) ?_
                refine jv_Wp.lift (fun _ Kz => jv_Ev.steps jv_i97 1 (pc' := 135) (l' := [(6, .int (1 : Int32)), (5, .int (0 : Int32)), (4, .int (0 : Int32)), (3, .int (vl_I f.code)), (2, .int (vl_I f.n)), (0, .long w)]) (st' := [.int (0 : Int32)]) rfl Kz) ?_
                refine jv_Wp.of (jv_Ev.ret jv_i97 rfl (jv_ret_b (Or.inl rfl))) ?_
                have x1 : ¬ f.n = 0 := fun z => h1 ((vl_I_inj (a := f.n) (b := 0) (Nat.lt_trans bn (by decide)) (by decide)).mpr z)
                have x2 : ¬ f.n = 8 := fun z => h29 ((vl_I_inj (a := f.n) (b := 8) (Nat.lt_trans bn (by decide)) (by decide)).mpr z)
                have x3 : f.n = 9 := (vl_I_inj (a := f.n) (b := 9) (Nat.lt_trans bn (by decide)) (by decide)).mp (Classical.not_not.mp h57)
                have x4 : f.d = 0 := (vl_I_inj (a := f.d) (b := 0) (Nat.lt_trans bd (by decide)) (by decide)).mp (Classical.not_not.mp h64)
                have x5 : ¬ f.s = 0 := fun z => h68 ((vl_I_inj (a := f.s) (b := 0) (Nat.lt_trans bs (by decide)) (by decide)).mpr z)
                have y6 : ¬ f.o = 0 := fun z => h69 (Int32.toInt_inj.mp ((vw_dO ef).trans (z.trans rfl)))
                have y7 : f.i = 0 := (vw_dQ ef).symm.trans (congrArg Int32.toInt (Classical.not_not.mp h70))
                have ev : decide (vf_pJ f) = false := decide_eq_false (fun z => by have y := (vf_pJ_9 (by omega)).mp z; omega)
                rw [ev] at hQ
                exact hQ
            · refine jv_Wp.lift (fun _ Kz => jv_Ev.steps jv_i97 4 (pc' := 62) (l' := [(5, .int (1 : Int32)), (4, .int (0 : Int32)), (3, .int (vl_I f.code)), (2, .int (vl_I f.n)), (0, .long w)]) (st' := [.long w]) rfl Kz) ?_
              refine jv_Wp.lift (fun _ Kz => jv_Ev.c jv_i97 (pc' := 65) (S' := [.int (Int32.ofInt f.i)]) jv_i89 [.long w] rfl rfl rfl rfl rfl rfl (vw_f89 ef) rfl rfl Kz) ?_
              refine jv_Wp.cnd jv_i97 (pt := 72) (pe := 68) (p := (¬ (Int32.ofInt f.i) = 0)) (q := (¬ (Int32.ofInt f.i) = 0)) rfl jv_bi_ne rfl rfl Iff.rfl (fun h71 => ?_) (fun h71 => ?_)
              · refine jv_Wp.lift (fun _ Kz => jv_Ev.steps jv_i97 3 (pc' := 77) (l' := [(6, .int (0 : Int32)), (5, .int (1 : Int32)), (4, .int (0 : Int32)), (3, .int (vl_I f.code)), (2, .int (vl_I f.n)), (0, .long w)]) (st' := [.int (0 : Int32)]) rfl Kz) ?_
                refine jv_Wp.lift (fun _ Kz => jv_Ev.br jv_i97 (pc' := 134) (st' := []) rfl (by rfl) Kz) ?_
                refine jv_Wp.lift (fun _ Kz => jv_Ev.steps jv_i97 1 (pc' := 135) (l' := [(6, .int (0 : Int32)), (5, .int (1 : Int32)), (4, .int (0 : Int32)), (3, .int (vl_I f.code)), (2, .int (vl_I f.n)), (0, .long w)]) (st' := [.int (0 : Int32)]) rfl Kz) ?_
                refine jv_Wp.of (jv_Ev.ret jv_i97 rfl (jv_ret_b (Or.inl rfl))) ?_
                have x1 : ¬ f.n = 0 := fun z => h1 ((vl_I_inj (a := f.n) (b := 0) (Nat.lt_trans bn (by decide)) (by decide)).mpr z)
                have x2 : ¬ f.n = 8 := fun z => h29 ((vl_I_inj (a := f.n) (b := 8) (Nat.lt_trans bn (by decide)) (by decide)).mpr z)
                have x3 : f.n = 9 := (vl_I_inj (a := f.n) (b := 9) (Nat.lt_trans bn (by decide)) (by decide)).mp (Classical.not_not.mp h57)
                have x4 : f.d = 0 := (vl_I_inj (a := f.d) (b := 0) (Nat.lt_trans bd (by decide)) (by decide)).mp (Classical.not_not.mp h64)
                have x5 : ¬ f.s = 0 := fun z => h68 ((vl_I_inj (a := f.s) (b := 0) (Nat.lt_trans bs (by decide)) (by decide)).mpr z)
                have y6 : f.o = 0 := (vw_dO ef).symm.trans (congrArg Int32.toInt (Classical.not_not.mp h69))
                have y7 : ¬ f.i = 0 := fun z => h71 (Int32.toInt_inj.mp ((vw_dQ ef).trans (z.trans rfl)))
                have ev : decide (vf_pJ f) = false := decide_eq_false (fun z => by have y := (vf_pJ_9 (by omega)).mp z; omega)
                rw [ev] at hQ
                exact hQ
              · refine jv_Wp.lift (fun _ Kz => jv_Ev.steps jv_i97 4 (pc' := 77) (l' := [(6, .int (1 : Int32)), (5, .int (1 : Int32)), (4, .int (0 : Int32)), (3, .int (vl_I f.code)), (2, .int (vl_I f.n)), (0, .long w)]) (st' := [.int (0 : Int32)]) rfl Kz) ?_
                refine jv_Wp.lift (fun _ Kz => jv_Ev.br jv_i97 (pc' := 134) (st' := []) rfl (by rfl) Kz) ?_
                refine jv_Wp.lift (fun _ Kz => jv_Ev.steps jv_i97 1 (pc' := 135) (l' := [(6, .int (1 : Int32)), (5, .int (1 : Int32)), (4, .int (0 : Int32)), (3, .int (vl_I f.code)), (2, .int (vl_I f.n)), (0, .long w)]) (st' := [.int (0 : Int32)]) rfl Kz) ?_
                refine jv_Wp.of (jv_Ev.ret jv_i97 rfl (jv_ret_b (Or.inl rfl))) ?_
                have x1 : ¬ f.n = 0 := fun z => h1 ((vl_I_inj (a := f.n) (b := 0) (Nat.lt_trans bn (by decide)) (by decide)).mpr z)
                have x2 : ¬ f.n = 8 := fun z => h29 ((vl_I_inj (a := f.n) (b := 8) (Nat.lt_trans bn (by decide)) (by decide)).mpr z)
                have x3 : f.n = 9 := (vl_I_inj (a := f.n) (b := 9) (Nat.lt_trans bn (by decide)) (by decide)).mp (Classical.not_not.mp h57)
                have x4 : f.d = 0 := (vl_I_inj (a := f.d) (b := 0) (Nat.lt_trans bd (by decide)) (by decide)).mp (Classical.not_not.mp h64)
                have x5 : ¬ f.s = 0 := fun z => h68 ((vl_I_inj (a := f.s) (b := 0) (Nat.lt_trans bs (by decide)) (by decide)).mpr z)
                have y6 : f.o = 0 := (vw_dO ef).symm.trans (congrArg Int32.toInt (Classical.not_not.mp h69))
                have y7 : f.i = 0 := (vw_dQ ef).symm.trans (congrArg Int32.toInt (Classical.not_not.mp h71))
                have ev : decide (vf_pJ f) = false := decide_eq_false (fun z => by have y := (vf_pJ_9 (by omega)).mp z; omega)
                rw [ev] at hQ
                exact hQ
          · refine jv_Wp.lift (fun _ Kz => jv_Ev.steps jv_i97 4 (pc' := 48) (l' := [(4, .int (1 : Int32)), (3, .int (vl_I f.code)), (2, .int (vl_I f.n)), (0, .long w)]) (st' := [.long w]) rfl Kz) ?_
            refine jv_Wp.lift (fun _ Kz => jv_Ev.c jv_i97 (pc' := 51) (S' := [.int (Int32.ofInt f.o)]) jv_i88 [.long w] rfl rfl rfl rfl rfl rfl (vw_f88 ef) rfl rfl Kz) ?_
            refine jv_Wp.cnd jv_i97 (pt := 58) (pe := 54) (p := (¬ (Int32.ofInt f.o) = 0)) (q := (¬ (Int32.ofInt f.o) = 0)) rfl jv_bi_ne rfl rfl Iff.rfl (fun h72 => ?_) (fun h72 => ?_)
            · refine jv_Wp.lift (fun _ Kz => jv_Ev.steps jv_i97 3 (pc' := 62) (l' := [(5, .int (0 : Int32)), (4, .int (1 : Int32)), (3, .int (vl_I f.code)), (2, .int (vl_I f.n)), (0, .long w)]) (st' := [.long w]) rfl Kz) ?_
              refine jv_Wp.lift (fun _ Kz => jv_Ev.c jv_i97 (pc' := 65) (S' := [.int (Int32.ofInt f.i)]) jv_i89 [.long w] rfl rfl rfl rfl rfl rfl (vw_f89 ef) rfl rfl Kz) ?_
              refine jv_Wp.cnd jv_i97 (pt := 72) (pe := 68) (p := (¬ (Int32.ofInt f.i) = 0)) (q := (¬ (Int32.ofInt f.i) = 0)) rfl jv_bi_ne rfl rfl Iff.rfl (fun h73 => ?_) (fun h73 => ?_)
              · refine jv_Wp.lift (fun _ Kz => jv_Ev.steps jv_i97 3 (pc' := 77) (l' := [(6, .int (0 : Int32)), (5, .int (0 : Int32)), (4, .int (1 : Int32)), (3, .int (vl_I f.code)), (2, .int (vl_I f.n)), (0, .long w)]) (st' := [.int (1 : Int32)]) rfl Kz) ?_
                refine jv_Wp.lift (fun _ Kz => jv_Ev.br jv_i97 (pc' := 80) (st' := []) rfl (by rfl) Kz) ?_
                refine jv_Wp.lift (fun _ Kz => jv_Ev.steps jv_i97 2 (pc' := 82) (l' := [(6, .int (0 : Int32)), (5, .int (0 : Int32)), (4, .int (1 : Int32)), (3, .int (vl_I f.code)), (2, .int (vl_I f.n)), (0, .long w)]) (st' := [.int (5 : Int32), .int (vl_I f.code)]) rfl Kz) ?_
                refine jv_Wp.cnd jv_i97 (pt := 90) (pe := 85) (p := (¬ (vl_I f.code) = (5 : Int32))) (q := (¬ (vl_I f.code) = (5 : Int32))) rfl jv_bc_ne rfl rfl Iff.rfl (fun h74 => ?_) (fun h74 => ?_)
                · refine jv_Wp.lift (fun _ Kz => jv_Ev.steps jv_i97 2 (pc' := 93) (l' := [(6, .int (0 : Int32)), (5, .int (0 : Int32)), (4, .int (1 : Int32)), (3, .int (vl_I f.code)), (2, .int (vl_I f.n)), (0, .long w)]) (st' := [.int (6 : Int32), .int (vl_I f.code)]) rfl Kz) ?_
                  refine jv_Wp.cnd jv_i97 (pt := 101) (pe := 96) (p := (¬ (vl_I f.code) = (6 : Int32))) (q := (¬ (vl_I f.code) = (6 : Int32))) rfl jv_bc_ne rfl rfl Iff.rfl (fun h75 => ?_) (fun h75 => ?_)
                  · refine jv_Wp.lift (fun _ Kz => jv_Ev.steps jv_i97 2 (pc' := 105) (l' := [(6, .int (0 : Int32)), (5, .int (0 : Int32)), (4, .int (1 : Int32)), (3, .int (vl_I f.code)), (2, .int (vl_I f.n)), (0, .long w)]) (st' := [.int (133 : Int32), .int (vl_I f.code)]) rfl Kz) ?_
                    refine jv_Wp.cnd jv_i97 (pt := 113) (pe := 108) (p := (¬ (vl_I f.code) = (133 : Int32))) (q := (¬ (vl_I f.code) = (133 : Int32))) rfl jv_bc_ne rfl rfl Iff.rfl (fun h76 => ?_) (fun h76 => ?_)
                    · refine jv_Wp.lift (fun _ Kz => jv_Ev.steps jv_i97 2 (pc' := 117) (l' := [(6, .int (0 : Int32)), (5, .int (0 : Int32)), (4, .int (1 : Int32)), (3, .int (vl_I f.code)), (2, .int (vl_I f.n)), (0, .long w)]) (st' := [.int (149 : Int32), .int (vl_I f.code)]) rfl Kz) ?_
                      refine jv_Wp.cnd jv_i97 (pt := 134) (pe := 120) (p := (¬ (vl_I f.code) = (149 : Int32))) (q := (¬ (vl_I f.code) = (149 : Int32))) rfl jv_bc_ne rfl rfl Iff.rfl (fun h77 => ?_) (fun h77 => ?_)
                      · refine jv_Wp.lift (fun _ Kz => jv_Ev.steps jv_i97 1 (pc' := 135) (l' := [(6, .int (0 : Int32)), (5, .int (0 : Int32)), (4, .int (1 : Int32)), (3, .int (vl_I f.code)), (2, .int (vl_I f.n)), (0, .long w)]) (st' := [.int (0 : Int32)]) rfl Kz) ?_
                        refine jv_Wp.of (jv_Ev.ret jv_i97 rfl (jv_ret_b (Or.inl rfl))) ?_
                        have x1 : ¬ f.n = 0 := fun z => h1 ((vl_I_inj (a := f.n) (b := 0) (Nat.lt_trans bn (by decide)) (by decide)).mpr z)
                        have x2 : ¬ f.n = 8 := fun z => h29 ((vl_I_inj (a := f.n) (b := 8) (Nat.lt_trans bn (by decide)) (by decide)).mpr z)
                        have x3 : f.n = 9 := (vl_I_inj (a := f.n) (b := 9) (Nat.lt_trans bn (by decide)) (by decide)).mp (Classical.not_not.mp h57)
                        have x4 : f.d = 0 := (vl_I_inj (a := f.d) (b := 0) (Nat.lt_trans bd (by decide)) (by decide)).mp (Classical.not_not.mp h64)
                        have x5 : f.s = 0 := (vl_I_inj (a := f.s) (b := 0) (Nat.lt_trans bs (by decide)) (by decide)).mp (Classical.not_not.mp h68)
                        have y6 : ¬ f.o = 0 := fun z => h72 (Int32.toInt_inj.mp ((vw_dO ef).trans (z.trans rfl)))
                        have y7 : ¬ f.i = 0 := fun z => h73 (Int32.toInt_inj.mp ((vw_dQ ef).trans (z.trans rfl)))
                        have x8 : ¬ f.code = 5 := fun z => h74 ((vl_I_inj (a := f.code) (b := 5) (Nat.lt_trans bc (by decide)) (by decide)).mpr z)
                        have x9 : ¬ f.code = 6 := fun z => h75 ((vl_I_inj (a := f.code) (b := 6) (Nat.lt_trans bc (by decide)) (by decide)).mpr z)
                        have x10 : ¬ f.code = 133 := fun z => h76 ((vl_I_inj (a := f.code) (b := 133) (Nat.lt_trans bc (by decide)) (by decide)).mpr z)
                        have x11 : ¬ f.code = 149 := fun z => h77 ((vl_I_inj (a := f.code) (b := 149) (Nat.lt_trans bc (by decide)) (by decide)).mpr z)
                        have ev : decide (vf_pJ f) = false := decide_eq_false (fun z => by have y := (vf_pJ_9 (by omega)).mp z; omega)
                        rw [ev] at hQ
                        exact hQ
                      · refine jv_Wp.lift (fun _ Kz => jv_Ev.steps jv_i97 1 (pc' := 122) (l' := [(6, .int (0 : Int32)), (5, .int (0 : Int32)), (4, .int (1 : Int32)), (3, .int (vl_I f.code)), (2, .int (vl_I f.n)), (0, .long w)]) (st' := [.int (0 : Int32)]) rfl Kz) ?_
                        refine jv_Wp.lift (fun _ Kz => jv_Ev.br jv_i97 (pc' := 134) (st' := []) rfl (by rfl) Kz) ?_
                        refine jv_Wp.lift (fun _ Kz => jv_Ev.steps jv_i97 1 (pc' := 135) (l' := [(6, .int (0 : Int32)), (5, .int (0 : Int32)), (4, .int (1 : Int32)), (3, .int (vl_I f.code)), (2, .int (vl_I f.n)), (0, .long w)]) (st' := [.int (0 : Int32)]) rfl Kz) ?_
                        refine jv_Wp.of (jv_Ev.ret jv_i97 rfl (jv_ret_b (Or.inl rfl))) ?_
                        have x1 : ¬ f.n = 0 := fun z => h1 ((vl_I_inj (a := f.n) (b := 0) (Nat.lt_trans bn (by decide)) (by decide)).mpr z)
                        have x2 : ¬ f.n = 8 := fun z => h29 ((vl_I_inj (a := f.n) (b := 8) (Nat.lt_trans bn (by decide)) (by decide)).mpr z)
                        have x3 : f.n = 9 := (vl_I_inj (a := f.n) (b := 9) (Nat.lt_trans bn (by decide)) (by decide)).mp (Classical.not_not.mp h57)
                        have x4 : f.d = 0 := (vl_I_inj (a := f.d) (b := 0) (Nat.lt_trans bd (by decide)) (by decide)).mp (Classical.not_not.mp h64)
                        have x5 : f.s = 0 := (vl_I_inj (a := f.s) (b := 0) (Nat.lt_trans bs (by decide)) (by decide)).mp (Classical.not_not.mp h68)
                        have y6 : ¬ f.o = 0 := fun z => h72 (Int32.toInt_inj.mp ((vw_dO ef).trans (z.trans rfl)))
                        have y7 : ¬ f.i = 0 := fun z => h73 (Int32.toInt_inj.mp ((vw_dQ ef).trans (z.trans rfl)))
                        have x8 : ¬ f.code = 5 := fun z => h74 ((vl_I_inj (a := f.code) (b := 5) (Nat.lt_trans bc (by decide)) (by decide)).mpr z)
                        have x9 : ¬ f.code = 6 := fun z => h75 ((vl_I_inj (a := f.code) (b := 6) (Nat.lt_trans bc (by decide)) (by decide)).mpr z)
                        have x10 : ¬ f.code = 133 := fun z => h76 ((vl_I_inj (a := f.code) (b := 133) (Nat.lt_trans bc (by decide)) (by decide)).mpr z)
                        have x11 : f.code = 149 := (vl_I_inj (a := f.code) (b := 149) (Nat.lt_trans bc (by decide)) (by decide)).mp (Classical.not_not.mp h77)
                        have ev : decide (vf_pJ f) = false := decide_eq_false (fun z => by have y := (vf_pJ_9 (by omega)).mp z; omega)
                        rw [ev] at hQ
                        exact hQ
                    · refine jv_Wp.lift (fun _ Kz => jv_Ev.steps jv_i97 1 (pc' := 110) (l' := [(6, .int (0 : Int32)), (5, .int (0 : Int32)), (4, .int (1 : Int32)), (3, .int (vl_I f.code)), (2, .int (vl_I f.n)), (0, .long w)]) (st' := [.int (0 : Int32)]) rfl Kz) ?_
                      refine jv_Wp.lift (fun _ Kz => jv_Ev.br jv_i97 (pc' := 113) (st' := []) rfl (by rfl) Kz) ?_
                      refine jv_Wp.lift (fun _ Kz => jv_Ev.steps jv_i97 2 (pc' := 117) (l' := [(6, .int (0 : Int32)), (5, .int (0 : Int32)), (4, .int (1 : Int32)), (3, .int (vl_I f.code)), (2, .int (vl_I f.n)), (0, .long w)]) (st' := [.int (149 : Int32), .int (vl_I f.code)]) rfl Kz) ?_
                      refine jv_Wp.cnd jv_i97 (pt := 134) (pe := 120) (p := (¬ (vl_I f.code) = (149 : Int32))) (q := (¬ (vl_I f.code) = (149 : Int32))) rfl jv_bc_ne rfl rfl Iff.rfl (fun _ => ?_) (fun hz => absurd (fun z => absurd (z.symm.trans (Classical.not_not.mp h76)) (by decide)) hz)
                      refine jv_Wp.lift (fun _ Kz => jv_Ev.steps jv_i97 1 (pc' := 135) (l' := [(6, .int (0 : Int32)), (5, .int (0 : Int32)), (4, .int (1 : Int32)), (3, .int (vl_I f.code)), (2, .int (vl_I f.n)), (0, .long w)]) (st' := [.int (0 : Int32)]) rfl Kz) ?_
                      refine jv_Wp.of (jv_Ev.ret jv_i97 rfl (jv_ret_b (Or.inl rfl))) ?_
                      have x1 : ¬ f.n = 0 := fun z => h1 ((vl_I_inj (a := f.n) (b := 0) (Nat.lt_trans bn (by decide)) (by decide)).mpr z)
                      have x2 : ¬ f.n = 8 := fun z => h29 ((vl_I_inj (a := f.n) (b := 8) (Nat.lt_trans bn (by decide)) (by decide)).mpr z)
                      have x3 : f.n = 9 := (vl_I_inj (a := f.n) (b := 9) (Nat.lt_trans bn (by decide)) (by decide)).mp (Classical.not_not.mp h57)
                      have x4 : f.d = 0 := (vl_I_inj (a := f.d) (b := 0) (Nat.lt_trans bd (by decide)) (by decide)).mp (Classical.not_not.mp h64)
                      have x5 : f.s = 0 := (vl_I_inj (a := f.s) (b := 0) (Nat.lt_trans bs (by decide)) (by decide)).mp (Classical.not_not.mp h68)
                      have y6 : ¬ f.o = 0 := fun z => h72 (Int32.toInt_inj.mp ((vw_dO ef).trans (z.trans rfl)))
                      have y7 : ¬ f.i = 0 := fun z => h73 (Int32.toInt_inj.mp ((vw_dQ ef).trans (z.trans rfl)))
                      have x8 : ¬ f.code = 5 := fun z => h74 ((vl_I_inj (a := f.code) (b := 5) (Nat.lt_trans bc (by decide)) (by decide)).mpr z)
                      have x9 : ¬ f.code = 6 := fun z => h75 ((vl_I_inj (a := f.code) (b := 6) (Nat.lt_trans bc (by decide)) (by decide)).mpr z)
                      have x10 : f.code = 133 := (vl_I_inj (a := f.code) (b := 133) (Nat.lt_trans bc (by decide)) (by decide)).mp (Classical.not_not.mp h76)
                      have ev : decide (vf_pJ f) = false := decide_eq_false (fun z => by have y := (vf_pJ_9 (by omega)).mp z; omega)
                      rw [ev] at hQ
                      exact hQ
                  · refine jv_Wp.lift (fun _ Kz => jv_Ev.steps jv_i97 1 (pc' := 98) (l' := [(6, .int (0 : Int32)), (5, .int (0 : Int32)), (4, .int (1 : Int32)), (3, .int (vl_I f.code)), (2, .int (vl_I f.n)), (0, .long w)]) (st' := [.int (0 : Int32)]) rfl Kz) ?_
                    refine jv_Wp.lift (fun _ Kz => jv_Ev.br jv_i97 (pc' := 101) (st' := []) rfl (by rfl) Kz) ?_
                    refine jv_Wp.lift (fun _ Kz => jv_Ev.steps jv_i97 2 (pc' := 105) (l' := [(6, .int (0 : Int32)), (5, .int (0 : Int32)), (4, .int (1 : Int32)), (3, .int (vl_I f.code)), (2, .int (vl_I f.n)), (0, .long w)]) (st' := [.int (133 : Int32), .int (vl_I f.code)]) rfl Kz) ?_
                    refine jv_Wp.cnd jv_i97 (pt := 113) (pe := 108) (p := (¬ (vl_I f.code) = (133 : Int32))) (q := (¬ (vl_I f.code) = (133 : Int32))) rfl jv_bc_ne rfl rfl Iff.rfl (fun _ => ?_) (fun hz => absurd (fun z => absurd (z.symm.trans (Classical.not_not.mp h75)) (by decide)) hz)
                    refine jv_Wp.lift (fun _ Kz => jv_Ev.steps jv_i97 2 (pc' := 117) (l' := [(6, .int (0 : Int32)), (5, .int (0 : Int32)), (4, .int (1 : Int32)), (3, .int (vl_I f.code)), (2, .int (vl_I f.n)), (0, .long w)]) (st' := [.int (149 : Int32), .int (vl_I f.code)]) rfl Kz) ?_
                    refine jv_Wp.cnd jv_i97 (pt := 134) (pe := 120) (p := (¬ (vl_I f.code) = (149 : Int32))) (q := (¬ (vl_I f.code) = (149 : Int32))) rfl jv_bc_ne rfl rfl Iff.rfl (fun _ => ?_) (fun hz => absurd (fun z => absurd (z.symm.trans (Classical.not_not.mp h75)) (by decide)) hz)
                    refine jv_Wp.lift (fun _ Kz => jv_Ev.steps jv_i97 1 (pc' := 135) (l' := [(6, .int (0 : Int32)), (5, .int (0 : Int32)), (4, .int (1 : Int32)), (3, .int (vl_I f.code)), (2, .int (vl_I f.n)), (0, .long w)]) (st' := [.int (0 : Int32)]) rfl Kz) ?_
                    refine jv_Wp.of (jv_Ev.ret jv_i97 rfl (jv_ret_b (Or.inl rfl))) ?_
                    have x1 : ¬ f.n = 0 := fun z => h1 ((vl_I_inj (a := f.n) (b := 0) (Nat.lt_trans bn (by decide)) (by decide)).mpr z)
                    have x2 : ¬ f.n = 8 := fun z => h29 ((vl_I_inj (a := f.n) (b := 8) (Nat.lt_trans bn (by decide)) (by decide)).mpr z)
                    have x3 : f.n = 9 := (vl_I_inj (a := f.n) (b := 9) (Nat.lt_trans bn (by decide)) (by decide)).mp (Classical.not_not.mp h57)
                    have x4 : f.d = 0 := (vl_I_inj (a := f.d) (b := 0) (Nat.lt_trans bd (by decide)) (by decide)).mp (Classical.not_not.mp h64)
                    have x5 : f.s = 0 := (vl_I_inj (a := f.s) (b := 0) (Nat.lt_trans bs (by decide)) (by decide)).mp (Classical.not_not.mp h68)
                    have y6 : ¬ f.o = 0 := fun z => h72 (Int32.toInt_inj.mp ((vw_dO ef).trans (z.trans rfl)))
                    have y7 : ¬ f.i = 0 := fun z => h73 (Int32.toInt_inj.mp ((vw_dQ ef).trans (z.trans rfl)))
                    have x8 : ¬ f.code = 5 := fun z => h74 ((vl_I_inj (a := f.code) (b := 5) (Nat.lt_trans bc (by decide)) (by decide)).mpr z)
                    have x9 : f.code = 6 := (vl_I_inj (a := f.code) (b := 6) (Nat.lt_trans bc (by decide)) (by decide)).mp (Classical.not_not.mp h75)
                    have ev : decide (vf_pJ f) = false := decide_eq_false (fun z => by have y := (vf_pJ_9 (by omega)).mp z; omega)
                    rw [ev] at hQ
                    exact hQ
                · refine jv_Wp.lift (fun _ Kz => jv_Ev.steps jv_i97 1 (pc' := 87) (l' := [(6, .int (0 : Int32)), (5, .int (0 : Int32)), (4, .int (1 : Int32)), (3, .int (vl_I f.code)), (2, .int (vl_I f.n)), (0, .long w)]) (st' := [.int (0 : Int32)]) rfl Kz) ?_
                  refine jv_Wp.lift (fun _ Kz => jv_Ev.br jv_i97 (pc' := 90) (st' := []) rfl (by rfl) Kz) ?_
                  refine jv_Wp.lift (fun _ Kz => jv_Ev.steps jv_i97 2 (pc' := 93) (l' := [(6, .int (0 : Int32)), (5, .int (0 : Int32)), (4, .int (1 : Int32)), (3, .int (vl_I f.code)), (2, .int (vl_I f.n)), (0, .long w)]) (st' := [.int (6 : Int32), .int (vl_I f.code)]) rfl Kz) ?_
                  refine jv_Wp.cnd jv_i97 (pt := 101) (pe := 96) (p := (¬ (vl_I f.code) = (6 : Int32))) (q := (¬ (vl_I f.code) = (6 : Int32))) rfl jv_bc_ne rfl rfl Iff.rfl (fun _ => ?_) (fun hz => absurd (fun z => absurd (z.symm.trans (Classical.not_not.mp h74)) (by decide)) hz)
                  refine jv_Wp.lift (fun _ Kz => jv_Ev.steps jv_i97 2 (pc' := 105) (l' := [(6, .int (0 : Int32)), (5, .int (0 : Int32)), (4, .int (1 : Int32)), (3, .int (vl_I f.code)), (2, .int (vl_I f.n)), (0, .long w)]) (st' := [.int (133 : Int32), .int (vl_I f.code)]) rfl Kz) ?_
                  refine jv_Wp.cnd jv_i97 (pt := 113) (pe := 108) (p := (¬ (vl_I f.code) = (133 : Int32))) (q := (¬ (vl_I f.code) = (133 : Int32))) rfl jv_bc_ne rfl rfl Iff.rfl (fun _ => ?_) (fun hz => absurd (fun z => absurd (z.symm.trans (Classical.not_not.mp h74)) (by decide)) hz)
                  refine jv_Wp.lift (fun _ Kz => jv_Ev.steps jv_i97 2 (pc' := 117) (l' := [(6, .int (0 : Int32)), (5, .int (0 : Int32)), (4, .int (1 : Int32)), (3, .int (vl_I f.code)), (2, .int (vl_I f.n)), (0, .long w)]) (st' := [.int (149 : Int32), .int (vl_I f.code)]) rfl Kz) ?_
                  refine jv_Wp.cnd jv_i97 (pt := 134) (pe := 120) (p := (¬ (vl_I f.code) = (149 : Int32))) (q := (¬ (vl_I f.code) = (149 : Int32))) rfl jv_bc_ne rfl rfl Iff.rfl (fun _ => ?_) (fun hz => absurd (fun z => absurd (z.symm.trans (Classical.not_not.mp h74)) (by decide)) hz)
                  refine jv_Wp.lift (fun _ Kz => jv_Ev.steps jv_i97 1 (pc' := 135) (l' := [(6, .int (0 : Int32)), (5, .int (0 : Int32)), (4, .int (1 : Int32)), (3, .int (vl_I f.code)), (2, .int (vl_I f.n)), (0, .long w)]) (st' := [.int (0 : Int32)]) rfl Kz) ?_
                  refine jv_Wp.of (jv_Ev.ret jv_i97 rfl (jv_ret_b (Or.inl rfl))) ?_
                  have x1 : ¬ f.n = 0 := fun z => h1 ((vl_I_inj (a := f.n) (b := 0) (Nat.lt_trans bn (by decide)) (by decide)).mpr z)
                  have x2 : ¬ f.n = 8 := fun z => h29 ((vl_I_inj (a := f.n) (b := 8) (Nat.lt_trans bn (by decide)) (by decide)).mpr z)
                  have x3 : f.n = 9 := (vl_I_inj (a := f.n) (b := 9) (Nat.lt_trans bn (by decide)) (by decide)).mp (Classical.not_not.mp h57)
                  have x4 : f.d = 0 := (vl_I_inj (a := f.d) (b := 0) (Nat.lt_trans bd (by decide)) (by decide)).mp (Classical.not_not.mp h64)
                  have x5 : f.s = 0 := (vl_I_inj (a := f.s) (b := 0) (Nat.lt_trans bs (by decide)) (by decide)).mp (Classical.not_not.mp h68)
                  have y6 : ¬ f.o = 0 := fun z => h72 (Int32.toInt_inj.mp ((vw_dO ef).trans (z.trans rfl)))
                  have y7 : ¬ f.i = 0 := fun z => h73 (Int32.toInt_inj.mp ((vw_dQ ef).trans (z.trans rfl)))
                  have x8 : f.code = 5 := (vl_I_inj (a := f.code) (b := 5) (Nat.lt_trans bc (by decide)) (by decide)).mp (Classical.not_not.mp h74)
                  have ev : decide (vf_pJ f) = false := decide_eq_false (fun z => by have y := (vf_pJ_9 (by omega)).mp z; omega)
                  rw [ev] at hQ
                  exact hQ
              · refine jv_Wp.lift (fun _ Kz => jv_Ev.steps jv_i97 4 (pc' := 77) (l' := [(6, .int (1 : Int32)), (5, .int (0 : Int32)), (4, .int (1 : Int32)), (3, .int (vl_I f.code)), (2, .int (vl_I f.n)), (0, .long w)]) (st' := [.int (1 : Int32)]) rfl Kz) ?_
                refine jv_Wp.lift (fun _ Kz => jv_Ev.br jv_i97 (pc' := 80) (st' := []) rfl (by rfl) Kz) ?_
                refine jv_Wp.lift (fun _ Kz => jv_Ev.steps jv_i97 2 (pc' := 82) (l' := [(6, .int (1 : Int32)), (5, .int (0 : Int32)), (4, .int (1 : Int32)), (3, .int (vl_I f.code)), (2, .int (vl_I f.n)), (0, .long w)]) (st' := [.int (5 : Int32), .int (vl_I f.code)]) rfl Kz) ?_
                refine jv_Wp.cnd jv_i97 (pt := 90) (pe := 85) (p := (¬ (vl_I f.code) = (5 : Int32))) (q := (¬ (vl_I f.code) = (5 : Int32))) rfl jv_bc_ne rfl rfl Iff.rfl (fun h78 => ?_) (fun h78 => ?_)
                · refine jv_Wp.lift (fun _ Kz => jv_Ev.steps jv_i97 2 (pc' := 93) (l' := [(6, .int (1 : Int32)), (5, .int (0 : Int32)), (4, .int (1 : Int32)), (3, .int (vl_I f.code)), (2, .int (vl_I f.n)), (0, .long w)]) (st' := [.int (6 : Int32), .int (vl_I f.code)]) rfl Kz) ?_
                  refine jv_Wp.cnd jv_i97 (pt := 101) (pe := 96) (p := (¬ (vl_I f.code) = (6 : Int32))) (q := (¬ (vl_I f.code) = (6 : Int32))) rfl jv_bc_ne rfl rfl Iff.rfl (fun h79 => ?_) (fun h79 => ?_)
                  · refine jv_Wp.lift (fun _ Kz => jv_Ev.steps jv_i97 2 (pc' := 105) (l' := [(6, .int (1 : Int32)), (5, .int (0 : Int32)), (4, .int (1 : Int32)), (3, .int (vl_I f.code)), (2, .int (vl_I f.n)), (0, .long w)]) (st' := [.int (133 : Int32), .int (vl_I f.code)]) rfl Kz) ?_
                    refine jv_Wp.cnd jv_i97 (pt := 113) (pe := 108) (p := (¬ (vl_I f.code) = (133 : Int32))) (q := (¬ (vl_I f.code) = (133 : Int32))) rfl jv_bc_ne rfl rfl Iff.rfl (fun h80 => ?_) (fun h80 => ?_)
                    · refine jv_Wp.lift (fun _ Kz => jv_Ev.steps jv_i97 2 (pc' := 117) (l' := [(6, .int (1 : Int32)), (5, .int (0 : Int32)), (4, .int (1 : Int32)), (3, .int (vl_I f.code)), (2, .int (vl_I f.n)), (0, .long w)]) (st' := [.int (149 : Int32), .int (vl_I f.code)]) rfl Kz) ?_
                      refine jv_Wp.cnd jv_i97 (pt := 134) (pe := 120) (p := (¬ (vl_I f.code) = (149 : Int32))) (q := (¬ (vl_I f.code) = (149 : Int32))) rfl jv_bc_ne rfl rfl Iff.rfl (fun h81 => ?_) (fun h81 => ?_)
                      · refine jv_Wp.lift (fun _ Kz => jv_Ev.steps jv_i97 1 (pc' := 135) (l' := [(6, .int (1 : Int32)), (5, .int (0 : Int32)), (4, .int (1 : Int32)), (3, .int (vl_I f.code)), (2, .int (vl_I f.n)), (0, .long w)]) (st' := [.int (0 : Int32)]) rfl Kz) ?_
                        refine jv_Wp.of (jv_Ev.ret jv_i97 rfl (jv_ret_b (Or.inl rfl))) ?_
                        have x1 : ¬ f.n = 0 := fun z => h1 ((vl_I_inj (a := f.n) (b := 0) (Nat.lt_trans bn (by decide)) (by decide)).mpr z)
                        have x2 : ¬ f.n = 8 := fun z => h29 ((vl_I_inj (a := f.n) (b := 8) (Nat.lt_trans bn (by decide)) (by decide)).mpr z)
                        have x3 : f.n = 9 := (vl_I_inj (a := f.n) (b := 9) (Nat.lt_trans bn (by decide)) (by decide)).mp (Classical.not_not.mp h57)
                        have x4 : f.d = 0 := (vl_I_inj (a := f.d) (b := 0) (Nat.lt_trans bd (by decide)) (by decide)).mp (Classical.not_not.mp h64)
                        have x5 : f.s = 0 := (vl_I_inj (a := f.s) (b := 0) (Nat.lt_trans bs (by decide)) (by decide)).mp (Classical.not_not.mp h68)
                        have y6 : ¬ f.o = 0 := fun z => h72 (Int32.toInt_inj.mp ((vw_dO ef).trans (z.trans rfl)))
                        have y7 : f.i = 0 := (vw_dQ ef).symm.trans (congrArg Int32.toInt (Classical.not_not.mp h73))
                        have x8 : ¬ f.code = 5 := fun z => h78 ((vl_I_inj (a := f.code) (b := 5) (Nat.lt_trans bc (by decide)) (by decide)).mpr z)
                        have x9 : ¬ f.code = 6 := fun z => h79 ((vl_I_inj (a := f.code) (b := 6) (Nat.lt_trans bc (by decide)) (by decide)).mpr z)
                        have x10 : ¬ f.code = 133 := fun z => h80 ((vl_I_inj (a := f.code) (b := 133) (Nat.lt_trans bc (by decide)) (by decide)).mpr z)
                        have x11 : ¬ f.code = 149 := fun z => h81 ((vl_I_inj (a := f.code) (b := 149) (Nat.lt_trans bc (by decide)) (by decide)).mpr z)
                        have ev : decide (vf_pJ f) = false := decide_eq_false (fun z => by have y := (vf_pJ_9 (by omega)).mp z; omega)
                        rw [ev] at hQ
                        exact hQ
                      · refine jv_Wp.lift (fun _ Kz => jv_Ev.steps jv_i97 1 (pc' := 122) (l' := [(6, .int (1 : Int32)), (5, .int (0 : Int32)), (4, .int (1 : Int32)), (3, .int (vl_I f.code)), (2, .int (vl_I f.n)), (0, .long w)]) (st' := [.int (0 : Int32)]) rfl Kz) ?_
                        refine jv_Wp.lift (fun _ Kz => jv_Ev.br jv_i97 (pc' := 134) (st' := []) rfl (by rfl) Kz) ?_
                        refine jv_Wp.lift (fun _ Kz => jv_Ev.steps jv_i97 1 (pc' := 135) (l' := [(6, .int (1 : Int32)), (5, .int (0 : Int32)), (4, .int (1 : Int32)), (3, .int (vl_I f.code)), (2, .int (vl_I f.n)), (0, .long w)]) (st' := [.int (0 : Int32)]) rfl Kz) ?_
                        refine jv_Wp.of (jv_Ev.ret jv_i97 rfl (jv_ret_b (Or.inl rfl))) ?_
                        have x1 : ¬ f.n = 0 := fun z => h1 ((vl_I_inj (a := f.n) (b := 0) (Nat.lt_trans bn (by decide)) (by decide)).mpr z)
                        have x2 : ¬ f.n = 8 := fun z => h29 ((vl_I_inj (a := f.n) (b := 8) (Nat.lt_trans bn (by decide)) (by decide)).mpr z)
                        have x3 : f.n = 9 := (vl_I_inj (a := f.n) (b := 9) (Nat.lt_trans bn (by decide)) (by decide)).mp (Classical.not_not.mp h57)
                        have x4 : f.d = 0 := (vl_I_inj (a := f.d) (b := 0) (Nat.lt_trans bd (by decide)) (by decide)).mp (Classical.not_not.mp h64)
                        have x5 : f.s = 0 := (vl_I_inj (a := f.s) (b := 0) (Nat.lt_trans bs (by decide)) (by decide)).mp (Classical.not_not.mp h68)
                        have y6 : ¬ f.o = 0 := fun z => h72 (Int32.toInt_inj.mp ((vw_dO ef).trans (z.trans rfl)))
                        have y7 : f.i = 0 := (vw_dQ ef).symm.trans (congrArg Int32.toInt (Classical.not_not.mp h73))
                        have x8 : ¬ f.code = 5 := fun z => h78 ((vl_I_inj (a := f.code) (b := 5) (Nat.lt_trans bc (by decide)) (by decide)).mpr z)
                        have x9 : ¬ f.code = 6 := fun z => h79 ((vl_I_inj (a := f.code) (b := 6) (Nat.lt_trans bc (by decide)) (by decide)).mpr z)
                        have x10 : ¬ f.code = 133 := fun z => h80 ((vl_I_inj (a := f.code) (b := 133) (Nat.lt_trans bc (by decide)) (by decide)).mpr z)
                        have x11 : f.code = 149 := (vl_I_inj (a := f.code) (b := 149) (Nat.lt_trans bc (by decide)) (by decide)).mp (Classical.not_not.mp h81)
                        have ev : decide (vf_pJ f) = false := decide_eq_false (fun z => by have y := (vf_pJ_9 (by omega)).mp z; omega)
                        rw [ev] at hQ
                        exact hQ
                    · refine jv_Wp.lift (fun _ Kz => jv_Ev.steps jv_i97 1 (pc' := 110) (l' := [(6, .int (1 : Int32)), (5, .int (0 : Int32)), (4, .int (1 : Int32)), (3, .int (vl_I f.code)), (2, .int (vl_I f.n)), (0, .long w)]) (st' := [.int (0 : Int32)]) rfl Kz) ?_
                      refine jv_Wp.lift (fun _ Kz => jv_Ev.br jv_i97 (pc' := 113) (st' := []) rfl (by rfl) Kz) ?_
                      refine jv_Wp.lift (fun _ Kz => jv_Ev.steps jv_i97 2 (pc' := 117) (l' := [(6, .int (1 : Int32)), (5, .int (0 : Int32)), (4, .int (1 : Int32)), (3, .int (vl_I f.code)), (2, .int (vl_I f.n)), (0, .long w)]) (st' := [.int (149 : Int32), .int (vl_I f.code)]) rfl Kz) ?_
                      refine jv_Wp.cnd jv_i97 (pt := 134) (pe := 120) (p := (¬ (vl_I f.code) = (149 : Int32))) (q := (¬ (vl_I f.code) = (149 : Int32))) rfl jv_bc_ne rfl rfl Iff.rfl (fun _ => ?_) (fun hz => absurd (fun z => absurd (z.symm.trans (Classical.not_not.mp h80)) (by decide)) hz)
                      refine jv_Wp.lift (fun _ Kz => jv_Ev.steps jv_i97 1 (pc' := 135) (l' := [(6, .int (1 : Int32)), (5, .int (0 : Int32)), (4, .int (1 : Int32)), (3, .int (vl_I f.code)), (2, .int (vl_I f.n)), (0, .long w)]) (st' := [.int (0 : Int32)]) rfl Kz) ?_
                      refine jv_Wp.of (jv_Ev.ret jv_i97 rfl (jv_ret_b (Or.inl rfl))) ?_
                      have x1 : ¬ f.n = 0 := fun z => h1 ((vl_I_inj (a := f.n) (b := 0) (Nat.lt_trans bn (by decide)) (by decide)).mpr z)
                      have x2 : ¬ f.n = 8 := fun z => h29 ((vl_I_inj (a := f.n) (b := 8) (Nat.lt_trans bn (by decide)) (by decide)).mpr z)
                      have x3 : f.n = 9 := (vl_I_inj (a := f.n) (b := 9) (Nat.lt_trans bn (by decide)) (by decide)).mp (Classical.not_not.mp h57)
                      have x4 : f.d = 0 := (vl_I_inj (a := f.d) (b := 0) (Nat.lt_trans bd (by decide)) (by decide)).mp (Classical.not_not.mp h64)
                      have x5 : f.s = 0 := (vl_I_inj (a := f.s) (b := 0) (Nat.lt_trans bs (by decide)) (by decide)).mp (Classical.not_not.mp h68)
                      have y6 : ¬ f.o = 0 := fun z => h72 (Int32.toInt_inj.mp ((vw_dO ef).trans (z.trans rfl)))
                      have y7 : f.i = 0 := (vw_dQ ef).symm.trans (congrArg Int32.toInt (Classical.not_not.mp h73))
                      have x8 : ¬ f.code = 5 := fun z => h78 ((vl_I_inj (a := f.code) (b := 5) (Nat.lt_trans bc (by decide)) (by decide)).mpr z)
                      have x9 : ¬ f.code = 6 := fun z => h79 ((vl_I_inj (a := f.code) (b := 6) (Nat.lt_trans bc (by decide)) (by decide)).mpr z)
                      have x10 : f.code = 133 := (vl_I_inj (a := f.code) (b := 133) (Nat.lt_trans bc (by decide)) (by decide)).mp (Classical.not_not.mp h80)
                      have ev : decide (vf_pJ f) = false := decide_eq_false (fun z => by have y := (vf_pJ_9 (by omega)).mp z; omega)
                      rw [ev] at hQ
                      exact hQ
                  · refine jv_Wp.lift (fun _ Kz => jv_Ev.steps jv_i97 1 (pc' := 98) (l' := [(6, .int (1 : Int32)), (5, .int (0 : Int32)), (4, .int (1 : Int32)), (3, .int (vl_I f.code)), (2, .int (vl_I f.n)), (0, .long w)]) (st' := [.int (0 : Int32)]) rfl Kz) ?_
                    refine jv_Wp.lift (fun _ Kz => jv_Ev.br jv_i97 (pc' := 101) (st' := []) rfl (by rfl) Kz) ?_
                    refine jv_Wp.lift (fun _ Kz => jv_Ev.steps jv_i97 2 (pc' := 105) (l' := [(6, .int (1 : Int32)), (5, .int (0 : Int32)), (4, .int (1 : Int32)), (3, .int (vl_I f.code)), (2, .int (vl_I f.n)), (0, .long w)]) (st' := [.int (133 : Int32), .int (vl_I f.code)]) rfl Kz) ?_
                    refine jv_Wp.cnd jv_i97 (pt := 113) (pe := 108) (p := (¬ (vl_I f.code) = (133 : Int32))) (q := (¬ (vl_I f.code) = (133 : Int32))) rfl jv_bc_ne rfl rfl Iff.rfl (fun _ => ?_) (fun hz => absurd (fun z => absurd (z.symm.trans (Classical.not_not.mp h79)) (by decide)) hz)
                    refine jv_Wp.lift (fun _ Kz => jv_Ev.steps jv_i97 2 (pc' := 117) (l' := [(6, .int (1 : Int32)), (5, .int (0 : Int32)), (4, .int (1 : Int32)), (3, .int (vl_I f.code)), (2, .int (vl_I f.n)), (0, .long w)]) (st' := [.int (149 : Int32), .int (vl_I f.code)]) rfl Kz) ?_
                    refine jv_Wp.cnd jv_i97 (pt := 134) (pe := 120) (p := (¬ (vl_I f.code) = (149 : Int32))) (q := (¬ (vl_I f.code) = (149 : Int32))) rfl jv_bc_ne rfl rfl Iff.rfl (fun _ => ?_) (fun hz => absurd (fun z => absurd (z.symm.trans (Classical.not_not.mp h79)) (by decide)) hz)
                    refine jv_Wp.lift (fun _ Kz => jv_Ev.steps jv_i97 1 (pc' := 135) (l' := [(6, .int (1 : Int32)), (5, .int (0 : Int32)), (4, .int (1 : Int32)), (3, .int (vl_I f.code)), (2, .int (vl_I f.n)), (0, .long w)]) (st' := [.int (0 : Int32)]) rfl Kz) ?_
                    refine jv_Wp.of (jv_Ev.ret jv_i97 rfl (jv_ret_b (Or.inl rfl))) ?_
                    have x1 : ¬ f.n = 0 := fun z => h1 ((vl_I_inj (a := f.n) (b := 0) (Nat.lt_trans bn (by decide)) (by decide)).mpr z)
                    have x2 : ¬ f.n = 8 := fun z => h29 ((vl_I_inj (a := f.n) (b := 8) (Nat.lt_trans bn (by decide)) (by decide)).mpr z)
                    have x3 : f.n = 9 := (vl_I_inj (a := f.n) (b := 9) (Nat.lt_trans bn (by decide)) (by decide)).mp (Classical.not_not.mp h57)
                    have x4 : f.d = 0 := (vl_I_inj (a := f.d) (b := 0) (Nat.lt_trans bd (by decide)) (by decide)).mp (Classical.not_not.mp h64)
                    have x5 : f.s = 0 := (vl_I_inj (a := f.s) (b := 0) (Nat.lt_trans bs (by decide)) (by decide)).mp (Classical.not_not.mp h68)
                    have y6 : ¬ f.o = 0 := fun z => h72 (Int32.toInt_inj.mp ((vw_dO ef).trans (z.trans rfl)))
                    have y7 : f.i = 0 := (vw_dQ ef).symm.trans (congrArg Int32.toInt (Classical.not_not.mp h73))
                    have x8 : ¬ f.code = 5 := fun z => h78 ((vl_I_inj (a := f.code) (b := 5) (Nat.lt_trans bc (by decide)) (by decide)).mpr z)
                    have x9 : f.code = 6 := (vl_I_inj (a := f.code) (b := 6) (Nat.lt_trans bc (by decide)) (by decide)).mp (Classical.not_not.mp h79)
                    have ev : decide (vf_pJ f) = false := decide_eq_false (fun z => by have y := (vf_pJ_9 (by omega)).mp z; omega)
                    rw [ev] at hQ
                    exact hQ
                · refine jv_Wp.lift (fun _ Kz => jv_Ev.steps jv_i97 1 (pc' := 87) (l' := [(6, .int (1 : Int32)), (5, .int (0 : Int32)), (4, .int (1 : Int32)), (3, .int (vl_I f.code)), (2, .int (vl_I f.n)), (0, .long w)]) (st' := [.int (1 : Int32)]) rfl Kz) ?_
                  refine jv_Wp.lift (fun _ Kz => jv_Ev.br jv_i97 (pc' := 130) (st' := []) rfl (by rfl) Kz) ?_
                  refine jv_Wp.lift (fun _ Kz => jv_Ev.steps jv_i97 2 (pc' := 135) (l' := [(6, .int (1 : Int32)), (5, .int (0 : Int32)), (4, .int (1 : Int32)), (3, .int (vl_I f.code)), (2, .int (vl_I f.n)), (0, .long w)]) (st' := [.int (1 : Int32)]) rfl Kz) ?_
                  refine jv_Wp.of (jv_Ev.ret jv_i97 rfl (jv_ret_b (Or.inr rfl))) ?_
                  have x1 : ¬ f.n = 0 := fun z => h1 ((vl_I_inj (a := f.n) (b := 0) (Nat.lt_trans bn (by decide)) (by decide)).mpr z)
                  have x2 : ¬ f.n = 8 := fun z => h29 ((vl_I_inj (a := f.n) (b := 8) (Nat.lt_trans bn (by decide)) (by decide)).mpr z)
                  have x3 : f.n = 9 := (vl_I_inj (a := f.n) (b := 9) (Nat.lt_trans bn (by decide)) (by decide)).mp (Classical.not_not.mp h57)
                  have x4 : f.d = 0 := (vl_I_inj (a := f.d) (b := 0) (Nat.lt_trans bd (by decide)) (by decide)).mp (Classical.not_not.mp h64)
                  have x5 : f.s = 0 := (vl_I_inj (a := f.s) (b := 0) (Nat.lt_trans bs (by decide)) (by decide)).mp (Classical.not_not.mp h68)
                  have y6 : ¬ f.o = 0 := fun z => h72 (Int32.toInt_inj.mp ((vw_dO ef).trans (z.trans rfl)))
                  have y7 : f.i = 0 := (vw_dQ ef).symm.trans (congrArg Int32.toInt (Classical.not_not.mp h73))
                  have x8 : f.code = 5 := (vl_I_inj (a := f.code) (b := 5) (Nat.lt_trans bc (by decide)) (by decide)).mp (Classical.not_not.mp h78)
                  have ev : decide (vf_pJ f) = true := decide_eq_true ((vf_pJ_9 (by omega)).mpr (by omega))
                  rw [ev] at hQ
                  exact hQ
            · refine jv_Wp.lift (fun _ Kz => jv_Ev.steps jv_i97 4 (pc' := 62) (l' := [(5, .int (1 : Int32)), (4, .int (1 : Int32)), (3, .int (vl_I f.code)), (2, .int (vl_I f.n)), (0, .long w)]) (st' := [.long w]) rfl Kz) ?_
              refine jv_Wp.lift (fun _ Kz => jv_Ev.c jv_i97 (pc' := 65) (S' := [.int (Int32.ofInt f.i)]) jv_i89 [.long w] rfl rfl rfl rfl rfl rfl (vw_f89 ef) rfl rfl Kz) ?_
              refine jv_Wp.cnd jv_i97 (pt := 72) (pe := 68) (p := (¬ (Int32.ofInt f.i) = 0)) (q := (¬ (Int32.ofInt f.i) = 0)) rfl jv_bi_ne rfl rfl Iff.rfl (fun h82 => ?_) (fun h82 => ?_)
              · refine jv_Wp.lift (fun _ Kz => jv_Ev.steps jv_i97 3 (pc' := 77) (l' := [(6, .int (0 : Int32)), (5, .int (1 : Int32)), (4, .int (1 : Int32)), (3, .int (vl_I f.code)), (2, .int (vl_I f.n)), (0, .long w)]) (st' := [.int (1 : Int32)]) rfl Kz) ?_
                refine jv_Wp.lift (fun _ Kz => jv_Ev.br jv_i97 (pc' := 80) (st' := []) rfl (by rfl) Kz) ?_
                refine jv_Wp.lift (fun _ Kz => jv_Ev.steps jv_i97 2 (pc' := 82) (l' := [(6, .int (0 : Int32)), (5, .int (1 : Int32)), (4, .int (1 : Int32)), (3, .int (vl_I f.code)), (2, .int (vl_I f.n)), (0, .long w)]) (st' := [.int (5 : Int32), .int (vl_I f.code)]) rfl Kz) ?_
                refine jv_Wp.cnd jv_i97 (pt := 90) (pe := 85) (p := (¬ (vl_I f.code) = (5 : Int32))) (q := (¬ (vl_I f.code) = (5 : Int32))) rfl jv_bc_ne rfl rfl Iff.rfl (fun h83 => ?_) (fun h83 => ?_)
                · refine jv_Wp.lift (fun _ Kz => jv_Ev.steps jv_i97 2 (pc' := 93) (l' := [(6, .int (0 : Int32)), (5, .int (1 : Int32)), (4, .int (1 : Int32)), (3, .int (vl_I f.code)), (2, .int (vl_I f.n)), (0, .long w)]) (st' := [.int (6 : Int32), .int (vl_I f.code)]) rfl Kz) ?_
                  refine jv_Wp.cnd jv_i97 (pt := 101) (pe := 96) (p := (¬ (vl_I f.code) = (6 : Int32))) (q := (¬ (vl_I f.code) = (6 : Int32))) rfl jv_bc_ne rfl rfl Iff.rfl (fun h84 => ?_) (fun h84 => ?_)
                  · refine jv_Wp.lift (fun _ Kz => jv_Ev.steps jv_i97 2 (pc' := 105) (l' := [(6, .int (0 : Int32)), (5, .int (1 : Int32)), (4, .int (1 : Int32)), (3, .int (vl_I f.code)), (2, .int (vl_I f.n)), (0, .long w)]) (st' := [.int (133 : Int32), .int (vl_I f.code)]) rfl Kz) ?_
                    refine jv_Wp.cnd jv_i97 (pt := 113) (pe := 108) (p := (¬ (vl_I f.code) = (133 : Int32))) (q := (¬ (vl_I f.code) = (133 : Int32))) rfl jv_bc_ne rfl rfl Iff.rfl (fun h85 => ?_) (fun h85 => ?_)
                    · refine jv_Wp.lift (fun _ Kz => jv_Ev.steps jv_i97 2 (pc' := 117) (l' := [(6, .int (0 : Int32)), (5, .int (1 : Int32)), (4, .int (1 : Int32)), (3, .int (vl_I f.code)), (2, .int (vl_I f.n)), (0, .long w)]) (st' := [.int (149 : Int32), .int (vl_I f.code)]) rfl Kz) ?_
                      refine jv_Wp.cnd jv_i97 (pt := 134) (pe := 120) (p := (¬ (vl_I f.code) = (149 : Int32))) (q := (¬ (vl_I f.code) = (149 : Int32))) rfl jv_bc_ne rfl rfl Iff.rfl (fun h86 => ?_) (fun h86 => ?_)
                      · refine jv_Wp.lift (fun _ Kz => jv_Ev.steps jv_i97 1 (pc' := 135) (l' := [(6, .int (0 : Int32)), (5, .int (1 : Int32)), (4, .int (1 : Int32)), (3, .int (vl_I f.code)), (2, .int (vl_I f.n)), (0, .long w)]) (st' := [.int (0 : Int32)]) rfl Kz) ?_
                        refine jv_Wp.of (jv_Ev.ret jv_i97 rfl (jv_ret_b (Or.inl rfl))) ?_
                        have x1 : ¬ f.n = 0 := fun z => h1 ((vl_I_inj (a := f.n) (b := 0) (Nat.lt_trans bn (by decide)) (by decide)).mpr z)
                        have x2 : ¬ f.n = 8 := fun z => h29 ((vl_I_inj (a := f.n) (b := 8) (Nat.lt_trans bn (by decide)) (by decide)).mpr z)
                        have x3 : f.n = 9 := (vl_I_inj (a := f.n) (b := 9) (Nat.lt_trans bn (by decide)) (by decide)).mp (Classical.not_not.mp h57)
                        have x4 : f.d = 0 := (vl_I_inj (a := f.d) (b := 0) (Nat.lt_trans bd (by decide)) (by decide)).mp (Classical.not_not.mp h64)
                        have x5 : f.s = 0 := (vl_I_inj (a := f.s) (b := 0) (Nat.lt_trans bs (by decide)) (by decide)).mp (Classical.not_not.mp h68)
                        have y6 : f.o = 0 := (vw_dO ef).symm.trans (congrArg Int32.toInt (Classical.not_not.mp h72))
                        have y7 : ¬ f.i = 0 := fun z => h82 (Int32.toInt_inj.mp ((vw_dQ ef).trans (z.trans rfl)))
                        have x8 : ¬ f.code = 5 := fun z => h83 ((vl_I_inj (a := f.code) (b := 5) (Nat.lt_trans bc (by decide)) (by decide)).mpr z)
                        have x9 : ¬ f.code = 6 := fun z => h84 ((vl_I_inj (a := f.code) (b := 6) (Nat.lt_trans bc (by decide)) (by decide)).mpr z)
                        have x10 : ¬ f.code = 133 := fun z => h85 ((vl_I_inj (a := f.code) (b := 133) (Nat.lt_trans bc (by decide)) (by decide)).mpr z)
                        have x11 : ¬ f.code = 149 := fun z => h86 ((vl_I_inj (a := f.code) (b := 149) (Nat.lt_trans bc (by decide)) (by decide)).mpr z)
                        have ev : decide (vf_pJ f) = false := decide_eq_false (fun z => by have y := (vf_pJ_9 (by omega)).mp z; omega)
                        rw [ev] at hQ
                        exact hQ
                      · refine jv_Wp.lift (fun _ Kz => jv_Ev.steps jv_i97 1 (pc' := 122) (l' := [(6, .int (0 : Int32)), (5, .int (1 : Int32)), (4, .int (1 : Int32)), (3, .int (vl_I f.code)), (2, .int (vl_I f.n)), (0, .long w)]) (st' := [.int (1 : Int32)]) rfl Kz) ?_
                        refine jv_Wp.lift (fun _ Kz => jv_Ev.br jv_i97 (pc' := 125) (st' := []) rfl (by rfl) Kz) ?_
                        refine jv_Wp.lift (fun _ Kz => jv_Ev.steps jv_i97 1 (pc' := 127) (l' := [(6, .int (0 : Int32)), (5, .int (1 : Int32)), (4, .int (1 : Int32)), (3, .int (vl_I f.code)), (2, .int (vl_I f.n)), (0, .long w)]) (st' := [.int (0 : Int32)]) rfl Kz) ?_
                        refine jv_Wp.lift (fun _ Kz => jv_Ev.br jv_i97 (pc' := 134) (st' := []) rfl (by rfl) Kz) ?_
                        refine jv_Wp.lift (fun _ Kz => jv_Ev.steps jv_i97 1 (pc' := 135) (l' := [(6, .int (0 : Int32)), (5, .int (1 : Int32)), (4, .int (1 : Int32)), (3, .int (vl_I f.code)), (2, .int (vl_I f.n)), (0, .long w)]) (st' := [.int (0 : Int32)]) rfl Kz) ?_
                        refine jv_Wp.of (jv_Ev.ret jv_i97 rfl (jv_ret_b (Or.inl rfl))) ?_
                        have x1 : ¬ f.n = 0 := fun z => h1 ((vl_I_inj (a := f.n) (b := 0) (Nat.lt_trans bn (by decide)) (by decide)).mpr z)
                        have x2 : ¬ f.n = 8 := fun z => h29 ((vl_I_inj (a := f.n) (b := 8) (Nat.lt_trans bn (by decide)) (by decide)).mpr z)
                        have x3 : f.n = 9 := (vl_I_inj (a := f.n) (b := 9) (Nat.lt_trans bn (by decide)) (by decide)).mp (Classical.not_not.mp h57)
                        have x4 : f.d = 0 := (vl_I_inj (a := f.d) (b := 0) (Nat.lt_trans bd (by decide)) (by decide)).mp (Classical.not_not.mp h64)
                        have x5 : f.s = 0 := (vl_I_inj (a := f.s) (b := 0) (Nat.lt_trans bs (by decide)) (by decide)).mp (Classical.not_not.mp h68)
                        have y6 : f.o = 0 := (vw_dO ef).symm.trans (congrArg Int32.toInt (Classical.not_not.mp h72))
                        have y7 : ¬ f.i = 0 := fun z => h82 (Int32.toInt_inj.mp ((vw_dQ ef).trans (z.trans rfl)))
                        have x8 : ¬ f.code = 5 := fun z => h83 ((vl_I_inj (a := f.code) (b := 5) (Nat.lt_trans bc (by decide)) (by decide)).mpr z)
                        have x9 : ¬ f.code = 6 := fun z => h84 ((vl_I_inj (a := f.code) (b := 6) (Nat.lt_trans bc (by decide)) (by decide)).mpr z)
                        have x10 : ¬ f.code = 133 := fun z => h85 ((vl_I_inj (a := f.code) (b := 133) (Nat.lt_trans bc (by decide)) (by decide)).mpr z)
                        have x11 : f.code = 149 := (vl_I_inj (a := f.code) (b := 149) (Nat.lt_trans bc (by decide)) (by decide)).mp (Classical.not_not.mp h86)
                        have ev : decide (vf_pJ f) = false := decide_eq_false (fun z => by have y := (vf_pJ_9 (by omega)).mp z; omega)
                        rw [ev] at hQ
                        exact hQ
                    · refine jv_Wp.lift (fun _ Kz => jv_Ev.steps jv_i97 1 (pc' := 110) (l' := [(6, .int (0 : Int32)), (5, .int (1 : Int32)), (4, .int (1 : Int32)), (3, .int (vl_I f.code)), (2, .int (vl_I f.n)), (0, .long w)]) (st' := [.int (1 : Int32)]) rfl Kz) ?_
                      refine jv_Wp.lift (fun _ Kz => jv_Ev.br jv_i97 (pc' := 130) (st' := []) rfl (by rfl) Kz) ?_
                      refine jv_Wp.lift (fun _ Kz => jv_Ev.steps jv_i97 2 (pc' := 135) (l' := [(6, .int (0 : Int32)), (5, .int (1 : Int32)), (4, .int (1 : Int32)), (3, .int (vl_I f.code)), (2, .int (vl_I f.n)), (0, .long w)]) (st' := [.int (1 : Int32)]) rfl Kz) ?_
                      refine jv_Wp.of (jv_Ev.ret jv_i97 rfl (jv_ret_b (Or.inr rfl))) ?_
                      have x1 : ¬ f.n = 0 := fun z => h1 ((vl_I_inj (a := f.n) (b := 0) (Nat.lt_trans bn (by decide)) (by decide)).mpr z)
                      have x2 : ¬ f.n = 8 := fun z => h29 ((vl_I_inj (a := f.n) (b := 8) (Nat.lt_trans bn (by decide)) (by decide)).mpr z)
                      have x3 : f.n = 9 := (vl_I_inj (a := f.n) (b := 9) (Nat.lt_trans bn (by decide)) (by decide)).mp (Classical.not_not.mp h57)
                      have x4 : f.d = 0 := (vl_I_inj (a := f.d) (b := 0) (Nat.lt_trans bd (by decide)) (by decide)).mp (Classical.not_not.mp h64)
                      have x5 : f.s = 0 := (vl_I_inj (a := f.s) (b := 0) (Nat.lt_trans bs (by decide)) (by decide)).mp (Classical.not_not.mp h68)
                      have y6 : f.o = 0 := (vw_dO ef).symm.trans (congrArg Int32.toInt (Classical.not_not.mp h72))
                      have y7 : ¬ f.i = 0 := fun z => h82 (Int32.toInt_inj.mp ((vw_dQ ef).trans (z.trans rfl)))
                      have x8 : ¬ f.code = 5 := fun z => h83 ((vl_I_inj (a := f.code) (b := 5) (Nat.lt_trans bc (by decide)) (by decide)).mpr z)
                      have x9 : ¬ f.code = 6 := fun z => h84 ((vl_I_inj (a := f.code) (b := 6) (Nat.lt_trans bc (by decide)) (by decide)).mpr z)
                      have x10 : f.code = 133 := (vl_I_inj (a := f.code) (b := 133) (Nat.lt_trans bc (by decide)) (by decide)).mp (Classical.not_not.mp h85)
                      have ev : decide (vf_pJ f) = true := decide_eq_true ((vf_pJ_9 (by omega)).mpr (by omega))
                      rw [ev] at hQ
                      exact hQ
                  · refine jv_Wp.lift (fun _ Kz => jv_Ev.steps jv_i97 1 (pc' := 98) (l' := [(6, .int (0 : Int32)), (5, .int (1 : Int32)), (4, .int (1 : Int32)), (3, .int (vl_I f.code)), (2, .int (vl_I f.n)), (0, .long w)]) (st' := [.int (1 : Int32)]) rfl Kz) ?_
                    refine jv_Wp.lift (fun _ Kz => jv_Ev.br jv_i97 (pc' := 130) (st' := []) rfl (by rfl) Kz) ?_
                    refine jv_Wp.lift (fun _ Kz => jv_Ev.steps jv_i97 2 (pc' := 135) (l' := [(6, .int (0 : Int32)), (5, .int (1 : Int32)), (4, .int (1 : Int32)), (3, .int (vl_I f.code)), (2, .int (vl_I f.n)), (0, .long w)]) (st' := [.int (1 : Int32)]) rfl Kz) ?_
                    refine jv_Wp.of (jv_Ev.ret jv_i97 rfl (jv_ret_b (Or.inr rfl))) ?_
                    have x1 : ¬ f.n = 0 := fun z => h1 ((vl_I_inj (a := f.n) (b := 0) (Nat.lt_trans bn (by decide)) (by decide)).mpr z)
                    have x2 : ¬ f.n = 8 := fun z => h29 ((vl_I_inj (a := f.n) (b := 8) (Nat.lt_trans bn (by decide)) (by decide)).mpr z)
                    have x3 : f.n = 9 := (vl_I_inj (a := f.n) (b := 9) (Nat.lt_trans bn (by decide)) (by decide)).mp (Classical.not_not.mp h57)
                    have x4 : f.d = 0 := (vl_I_inj (a := f.d) (b := 0) (Nat.lt_trans bd (by decide)) (by decide)).mp (Classical.not_not.mp h64)
                    have x5 : f.s = 0 := (vl_I_inj (a := f.s) (b := 0) (Nat.lt_trans bs (by decide)) (by decide)).mp (Classical.not_not.mp h68)
                    have y6 : f.o = 0 := (vw_dO ef).symm.trans (congrArg Int32.toInt (Classical.not_not.mp h72))
                    have y7 : ¬ f.i = 0 := fun z => h82 (Int32.toInt_inj.mp ((vw_dQ ef).trans (z.trans rfl)))
                    have x8 : ¬ f.code = 5 := fun z => h83 ((vl_I_inj (a := f.code) (b := 5) (Nat.lt_trans bc (by decide)) (by decide)).mpr z)
                    have x9 : f.code = 6 := (vl_I_inj (a := f.code) (b := 6) (Nat.lt_trans bc (by decide)) (by decide)).mp (Classical.not_not.mp h84)
                    have ev : decide (vf_pJ f) = true := decide_eq_true ((vf_pJ_9 (by omega)).mpr (by omega))
                    rw [ev] at hQ
                    exact hQ
                · refine jv_Wp.lift (fun _ Kz => jv_Ev.steps jv_i97 1 (pc' := 87) (l' := [(6, .int (0 : Int32)), (5, .int (1 : Int32)), (4, .int (1 : Int32)), (3, .int (vl_I f.code)), (2, .int (vl_I f.n)), (0, .long w)]) (st' := [.int (0 : Int32)]) rfl Kz) ?_
                  refine jv_Wp.lift (fun _ Kz => jv_Ev.br jv_i97 (pc' := 90) (st' := []) rfl (by rfl) Kz) ?_
                  refine jv_Wp.lift (fun _ Kz => jv_Ev.steps jv_i97 2 (pc' := 93) (l' := [(6, .int (0 : Int32)), (5, .int (1 : Int32)), (4, .int (1 : Int32)), (3, .int (vl_I f.code)), (2, .int (vl_I f.n)), (0, .long w)]) (st' := [.int (6 : Int32), .int (vl_I f.code)]) rfl Kz) ?_
                  refine jv_Wp.cnd jv_i97 (pt := 101) (pe := 96) (p := (¬ (vl_I f.code) = (6 : Int32))) (q := (¬ (vl_I f.code) = (6 : Int32))) rfl jv_bc_ne rfl rfl Iff.rfl (fun _ => ?_) (fun hz => absurd (fun z => absurd (z.symm.trans (Classical.not_not.mp h83)) (by decide)) hz)
                  refine jv_Wp.lift (fun _ Kz => jv_Ev.steps jv_i97 2 (pc' := 105) (l' := [(6, .int (0 : Int32)), (5, .int (1 : Int32)), (4, .int (1 : Int32)), (3, .int (vl_I f.code)), (2, .int (vl_I f.n)), (0, .long w)]) (st' := [.int (133 : Int32), .int (vl_I f.code)]) rfl Kz) ?_
                  refine jv_Wp.cnd jv_i97 (pt := 113) (pe := 108) (p := (¬ (vl_I f.code) = (133 : Int32))) (q := (¬ (vl_I f.code) = (133 : Int32))) rfl jv_bc_ne rfl rfl Iff.rfl (fun _ => ?_) (fun hz => absurd (fun z => absurd (z.symm.trans (Classical.not_not.mp h83)) (by decide)) hz)
                  refine jv_Wp.lift (fun _ Kz => jv_Ev.steps jv_i97 2 (pc' := 117) (l' := [(6, .int (0 : Int32)), (5, .int (1 : Int32)), (4, .int (1 : Int32)), (3, .int (vl_I f.code)), (2, .int (vl_I f.n)), (0, .long w)]) (st' := [.int (149 : Int32), .int (vl_I f.code)]) rfl Kz) ?_
                  refine jv_Wp.cnd jv_i97 (pt := 134) (pe := 120) (p := (¬ (vl_I f.code) = (149 : Int32))) (q := (¬ (vl_I f.code) = (149 : Int32))) rfl jv_bc_ne rfl rfl Iff.rfl (fun _ => ?_) (fun hz => absurd (fun z => absurd (z.symm.trans (Classical.not_not.mp h83)) (by decide)) hz)
                  refine jv_Wp.lift (fun _ Kz => jv_Ev.steps jv_i97 1 (pc' := 135) (l' := [(6, .int (0 : Int32)), (5, .int (1 : Int32)), (4, .int (1 : Int32)), (3, .int (vl_I f.code)), (2, .int (vl_I f.n)), (0, .long w)]) (st' := [.int (0 : Int32)]) rfl Kz) ?_
                  refine jv_Wp.of (jv_Ev.ret jv_i97 rfl (jv_ret_b (Or.inl rfl))) ?_
                  have x1 : ¬ f.n = 0 := fun z => h1 ((vl_I_inj (a := f.n) (b := 0) (Nat.lt_trans bn (by decide)) (by decide)).mpr z)
                  have x2 : ¬ f.n = 8 := fun z => h29 ((vl_I_inj (a := f.n) (b := 8) (Nat.lt_trans bn (by decide)) (by decide)).mpr z)
                  have x3 : f.n = 9 := (vl_I_inj (a := f.n) (b := 9) (Nat.lt_trans bn (by decide)) (by decide)).mp (Classical.not_not.mp h57)
                  have x4 : f.d = 0 := (vl_I_inj (a := f.d) (b := 0) (Nat.lt_trans bd (by decide)) (by decide)).mp (Classical.not_not.mp h64)
                  have x5 : f.s = 0 := (vl_I_inj (a := f.s) (b := 0) (Nat.lt_trans bs (by decide)) (by decide)).mp (Classical.not_not.mp h68)
                  have y6 : f.o = 0 := (vw_dO ef).symm.trans (congrArg Int32.toInt (Classical.not_not.mp h72))
                  have y7 : ¬ f.i = 0 := fun z => h82 (Int32.toInt_inj.mp ((vw_dQ ef).trans (z.trans rfl)))
                  have x8 : f.code = 5 := (vl_I_inj (a := f.code) (b := 5) (Nat.lt_trans bc (by decide)) (by decide)).mp (Classical.not_not.mp h83)
                  have ev : decide (vf_pJ f) = false := decide_eq_false (fun z => by have y := (vf_pJ_9 (by omega)).mp z; omega)
                  rw [ev] at hQ
                  exact hQ
              · refine jv_Wp.lift (fun _ Kz => jv_Ev.steps jv_i97 4 (pc' := 77) (l' := [(6, .int (1 : Int32)), (5, .int (1 : Int32)), (4, .int (1 : Int32)), (3, .int (vl_I f.code)), (2, .int (vl_I f.n)), (0, .long w)]) (st' := [.int (1 : Int32)]) rfl Kz) ?_
                refine jv_Wp.lift (fun _ Kz => jv_Ev.br jv_i97 (pc' := 80) (st' := []) rfl (by rfl) Kz) ?_
                refine jv_Wp.lift (fun _ Kz => jv_Ev.steps jv_i97 2 (pc' := 82) (l' := [(6, .int (1 : Int32)), (5, .int (1 : Int32)), (4, .int (1 : Int32)), (3, .int (vl_I f.code)), (2, .int (vl_I f.n)), (0, .long w)]) (st' := [.int (5 : Int32), .int (vl_I f.code)]) rfl Kz) ?_
                refine jv_Wp.cnd jv_i97 (pt := 90) (pe := 85) (p := (¬ (vl_I f.code) = (5 : Int32))) (q := (¬ (vl_I f.code) = (5 : Int32))) rfl jv_bc_ne rfl rfl Iff.rfl (fun h87 => ?_) (fun h87 => ?_)
                · refine jv_Wp.lift (fun _ Kz => jv_Ev.steps jv_i97 2 (pc' := 93) (l' := [(6, .int (1 : Int32)), (5, .int (1 : Int32)), (4, .int (1 : Int32)), (3, .int (vl_I f.code)), (2, .int (vl_I f.n)), (0, .long w)]) (st' := [.int (6 : Int32), .int (vl_I f.code)]) rfl Kz) ?_
                  refine jv_Wp.cnd jv_i97 (pt := 101) (pe := 96) (p := (¬ (vl_I f.code) = (6 : Int32))) (q := (¬ (vl_I f.code) = (6 : Int32))) rfl jv_bc_ne rfl rfl Iff.rfl (fun h88 => ?_) (fun h88 => ?_)
                  · refine jv_Wp.lift (fun _ Kz => jv_Ev.steps jv_i97 2 (pc' := 105) (l' := [(6, .int (1 : Int32)), (5, .int (1 : Int32)), (4, .int (1 : Int32)), (3, .int (vl_I f.code)), (2, .int (vl_I f.n)), (0, .long w)]) (st' := [.int (133 : Int32), .int (vl_I f.code)]) rfl Kz) ?_
                    refine jv_Wp.cnd jv_i97 (pt := 113) (pe := 108) (p := (¬ (vl_I f.code) = (133 : Int32))) (q := (¬ (vl_I f.code) = (133 : Int32))) rfl jv_bc_ne rfl rfl Iff.rfl (fun h89 => ?_) (fun h89 => ?_)
                    · refine jv_Wp.lift (fun _ Kz => jv_Ev.steps jv_i97 2 (pc' := 117) (l' := [(6, .int (1 : Int32)), (5, .int (1 : Int32)), (4, .int (1 : Int32)), (3, .int (vl_I f.code)), (2, .int (vl_I f.n)), (0, .long w)]) (st' := [.int (149 : Int32), .int (vl_I f.code)]) rfl Kz) ?_
                      refine jv_Wp.cnd jv_i97 (pt := 134) (pe := 120) (p := (¬ (vl_I f.code) = (149 : Int32))) (q := (¬ (vl_I f.code) = (149 : Int32))) rfl jv_bc_ne rfl rfl Iff.rfl (fun h90 => ?_) (fun h90 => ?_)
                      · refine jv_Wp.lift (fun _ Kz => jv_Ev.steps jv_i97 1 (pc' := 135) (l' := [(6, .int (1 : Int32)), (5, .int (1 : Int32)), (4, .int (1 : Int32)), (3, .int (vl_I f.code)), (2, .int (vl_I f.n)), (0, .long w)]) (st' := [.int (0 : Int32)]) rfl Kz) ?_
                        refine jv_Wp.of (jv_Ev.ret jv_i97 rfl (jv_ret_b (Or.inl rfl))) ?_
                        have x1 : ¬ f.n = 0 := fun z => h1 ((vl_I_inj (a := f.n) (b := 0) (Nat.lt_trans bn (by decide)) (by decide)).mpr z)
                        have x2 : ¬ f.n = 8 := fun z => h29 ((vl_I_inj (a := f.n) (b := 8) (Nat.lt_trans bn (by decide)) (by decide)).mpr z)
                        have x3 : f.n = 9 := (vl_I_inj (a := f.n) (b := 9) (Nat.lt_trans bn (by decide)) (by decide)).mp (Classical.not_not.mp h57)
                        have x4 : f.d = 0 := (vl_I_inj (a := f.d) (b := 0) (Nat.lt_trans bd (by decide)) (by decide)).mp (Classical.not_not.mp h64)
                        have x5 : f.s = 0 := (vl_I_inj (a := f.s) (b := 0) (Nat.lt_trans bs (by decide)) (by decide)).mp (Classical.not_not.mp h68)
                        have y6 : f.o = 0 := (vw_dO ef).symm.trans (congrArg Int32.toInt (Classical.not_not.mp h72))
                        have y7 : f.i = 0 := (vw_dQ ef).symm.trans (congrArg Int32.toInt (Classical.not_not.mp h82))
                        have x8 : ¬ f.code = 5 := fun z => h87 ((vl_I_inj (a := f.code) (b := 5) (Nat.lt_trans bc (by decide)) (by decide)).mpr z)
                        have x9 : ¬ f.code = 6 := fun z => h88 ((vl_I_inj (a := f.code) (b := 6) (Nat.lt_trans bc (by decide)) (by decide)).mpr z)
                        have x10 : ¬ f.code = 133 := fun z => h89 ((vl_I_inj (a := f.code) (b := 133) (Nat.lt_trans bc (by decide)) (by decide)).mpr z)
                        have x11 : ¬ f.code = 149 := fun z => h90 ((vl_I_inj (a := f.code) (b := 149) (Nat.lt_trans bc (by decide)) (by decide)).mpr z)
                        have ev : decide (vf_pJ f) = false := decide_eq_false (fun z => by have y := (vf_pJ_9 (by omega)).mp z; omega)
                        rw [ev] at hQ
                        exact hQ
                      · refine jv_Wp.lift (fun _ Kz => jv_Ev.steps jv_i97 1 (pc' := 122) (l' := [(6, .int (1 : Int32)), (5, .int (1 : Int32)), (4, .int (1 : Int32)), (3, .int (vl_I f.code)), (2, .int (vl_I f.n)), (0, .long w)]) (st' := [.int (1 : Int32)]) rfl Kz) ?_
                        refine jv_Wp.lift (fun _ Kz => jv_Ev.br jv_i97 (pc' := 125) (st' := []) rfl (by rfl) Kz) ?_
                        refine jv_Wp.lift (fun _ Kz => jv_Ev.steps jv_i97 1 (pc' := 127) (l' := [(6, .int (1 : Int32)), (5, .int (1 : Int32)), (4, .int (1 : Int32)), (3, .int (vl_I f.code)), (2, .int (vl_I f.n)), (0, .long w)]) (st' := [.int (1 : Int32)]) rfl Kz) ?_
                        refine jv_Wp.lift (fun _ Kz => jv_Ev.br jv_i97 (pc' := 130) (st' := []) rfl (by rfl) Kz) ?_
                        refine jv_Wp.lift (fun _ Kz => jv_Ev.steps jv_i97 2 (pc' := 135) (l' := [(6, .int (1 : Int32)), (5, .int (1 : Int32)), (4, .int (1 : Int32)), (3, .int (vl_I f.code)), (2, .int (vl_I f.n)), (0, .long w)]) (st' := [.int (1 : Int32)]) rfl Kz) ?_
                        refine jv_Wp.of (jv_Ev.ret jv_i97 rfl (jv_ret_b (Or.inr rfl))) ?_
                        have x1 : ¬ f.n = 0 := fun z => h1 ((vl_I_inj (a := f.n) (b := 0) (Nat.lt_trans bn (by decide)) (by decide)).mpr z)
                        have x2 : ¬ f.n = 8 := fun z => h29 ((vl_I_inj (a := f.n) (b := 8) (Nat.lt_trans bn (by decide)) (by decide)).mpr z)
                        have x3 : f.n = 9 := (vl_I_inj (a := f.n) (b := 9) (Nat.lt_trans bn (by decide)) (by decide)).mp (Classical.not_not.mp h57)
                        have x4 : f.d = 0 := (vl_I_inj (a := f.d) (b := 0) (Nat.lt_trans bd (by decide)) (by decide)).mp (Classical.not_not.mp h64)
                        have x5 : f.s = 0 := (vl_I_inj (a := f.s) (b := 0) (Nat.lt_trans bs (by decide)) (by decide)).mp (Classical.not_not.mp h68)
                        have y6 : f.o = 0 := (vw_dO ef).symm.trans (congrArg Int32.toInt (Classical.not_not.mp h72))
                        have y7 : f.i = 0 := (vw_dQ ef).symm.trans (congrArg Int32.toInt (Classical.not_not.mp h82))
                        have x8 : ¬ f.code = 5 := fun z => h87 ((vl_I_inj (a := f.code) (b := 5) (Nat.lt_trans bc (by decide)) (by decide)).mpr z)
                        have x9 : ¬ f.code = 6 := fun z => h88 ((vl_I_inj (a := f.code) (b := 6) (Nat.lt_trans bc (by decide)) (by decide)).mpr z)
                        have x10 : ¬ f.code = 133 := fun z => h89 ((vl_I_inj (a := f.code) (b := 133) (Nat.lt_trans bc (by decide)) (by decide)).mpr z)
                        have x11 : f.code = 149 := (vl_I_inj (a := f.code) (b := 149) (Nat.lt_trans bc (by decide)) (by decide)).mp (Classical.not_not.mp h90)
                        have ev : decide (vf_pJ f) = true := decide_eq_true ((vf_pJ_9 (by omega)).mpr (by omega))
                        rw [ev] at hQ
                        exact hQ
                    · refine jv_Wp.lift (fun _ Kz => jv_Ev.steps jv_i97 1 (pc' := 110) (l' := [(6, .int (1 : Int32)), (5, .int (1 : Int32)), (4, .int (1 : Int32)), (3, .int (vl_I f.code)), (2, .int (vl_I f.n)), (0, .long w)]) (st' := [.int (1 : Int32)]) rfl Kz) ?_
                      refine jv_Wp.lift (fun _ Kz => jv_Ev.br jv_i97 (pc' := 130) (st' := []) rfl (by rfl) Kz) ?_
                      refine jv_Wp.lift (fun _ Kz => jv_Ev.steps jv_i97 2 (pc' := 135) (l' := [(6, .int (1 : Int32)), (5, .int (1 : Int32)), (4, .int (1 : Int32)), (3, .int (vl_I f.code)), (2, .int (vl_I f.n)), (0, .long w)]) (st' := [.int (1 : Int32)]) rfl Kz) ?_
                      refine jv_Wp.of (jv_Ev.ret jv_i97 rfl (jv_ret_b (Or.inr rfl))) ?_
                      have x1 : ¬ f.n = 0 := fun z => h1 ((vl_I_inj (a := f.n) (b := 0) (Nat.lt_trans bn (by decide)) (by decide)).mpr z)
                      have x2 : ¬ f.n = 8 := fun z => h29 ((vl_I_inj (a := f.n) (b := 8) (Nat.lt_trans bn (by decide)) (by decide)).mpr z)
                      have x3 : f.n = 9 := (vl_I_inj (a := f.n) (b := 9) (Nat.lt_trans bn (by decide)) (by decide)).mp (Classical.not_not.mp h57)
                      have x4 : f.d = 0 := (vl_I_inj (a := f.d) (b := 0) (Nat.lt_trans bd (by decide)) (by decide)).mp (Classical.not_not.mp h64)
                      have x5 : f.s = 0 := (vl_I_inj (a := f.s) (b := 0) (Nat.lt_trans bs (by decide)) (by decide)).mp (Classical.not_not.mp h68)
                      have y6 : f.o = 0 := (vw_dO ef).symm.trans (congrArg Int32.toInt (Classical.not_not.mp h72))
                      have y7 : f.i = 0 := (vw_dQ ef).symm.trans (congrArg Int32.toInt (Classical.not_not.mp h82))
                      have x8 : ¬ f.code = 5 := fun z => h87 ((vl_I_inj (a := f.code) (b := 5) (Nat.lt_trans bc (by decide)) (by decide)).mpr z)
                      have x9 : ¬ f.code = 6 := fun z => h88 ((vl_I_inj (a := f.code) (b := 6) (Nat.lt_trans bc (by decide)) (by decide)).mpr z)
                      have x10 : f.code = 133 := (vl_I_inj (a := f.code) (b := 133) (Nat.lt_trans bc (by decide)) (by decide)).mp (Classical.not_not.mp h89)
                      have ev : decide (vf_pJ f) = true := decide_eq_true ((vf_pJ_9 (by omega)).mpr (by omega))
                      rw [ev] at hQ
                      exact hQ
                  · refine jv_Wp.lift (fun _ Kz => jv_Ev.steps jv_i97 1 (pc' := 98) (l' := [(6, .int (1 : Int32)), (5, .int (1 : Int32)), (4, .int (1 : Int32)), (3, .int (vl_I f.code)), (2, .int (vl_I f.n)), (0, .long w)]) (st' := [.int (1 : Int32)]) rfl Kz) ?_
                    refine jv_Wp.lift (fun _ Kz => jv_Ev.br jv_i97 (pc' := 130) (st' := []) rfl (by rfl) Kz) ?_
                    refine jv_Wp.lift (fun _ Kz => jv_Ev.steps jv_i97 2 (pc' := 135) (l' := [(6, .int (1 : Int32)), (5, .int (1 : Int32)), (4, .int (1 : Int32)), (3, .int (vl_I f.code)), (2, .int (vl_I f.n)), (0, .long w)]) (st' := [.int (1 : Int32)]) rfl Kz) ?_
                    refine jv_Wp.of (jv_Ev.ret jv_i97 rfl (jv_ret_b (Or.inr rfl))) ?_
                    have x1 : ¬ f.n = 0 := fun z => h1 ((vl_I_inj (a := f.n) (b := 0) (Nat.lt_trans bn (by decide)) (by decide)).mpr z)
                    have x2 : ¬ f.n = 8 := fun z => h29 ((vl_I_inj (a := f.n) (b := 8) (Nat.lt_trans bn (by decide)) (by decide)).mpr z)
                    have x3 : f.n = 9 := (vl_I_inj (a := f.n) (b := 9) (Nat.lt_trans bn (by decide)) (by decide)).mp (Classical.not_not.mp h57)
                    have x4 : f.d = 0 := (vl_I_inj (a := f.d) (b := 0) (Nat.lt_trans bd (by decide)) (by decide)).mp (Classical.not_not.mp h64)
                    have x5 : f.s = 0 := (vl_I_inj (a := f.s) (b := 0) (Nat.lt_trans bs (by decide)) (by decide)).mp (Classical.not_not.mp h68)
                    have y6 : f.o = 0 := (vw_dO ef).symm.trans (congrArg Int32.toInt (Classical.not_not.mp h72))
                    have y7 : f.i = 0 := (vw_dQ ef).symm.trans (congrArg Int32.toInt (Classical.not_not.mp h82))
                    have x8 : ¬ f.code = 5 := fun z => h87 ((vl_I_inj (a := f.code) (b := 5) (Nat.lt_trans bc (by decide)) (by decide)).mpr z)
                    have x9 : f.code = 6 := (vl_I_inj (a := f.code) (b := 6) (Nat.lt_trans bc (by decide)) (by decide)).mp (Classical.not_not.mp h88)
                    have ev : decide (vf_pJ f) = true := decide_eq_true ((vf_pJ_9 (by omega)).mpr (by omega))
                    rw [ev] at hQ
                    exact hQ
                · refine jv_Wp.lift (fun _ Kz => jv_Ev.steps jv_i97 1 (pc' := 87) (l' := [(6, .int (1 : Int32)), (5, .int (1 : Int32)), (4, .int (1 : Int32)), (3, .int (vl_I f.code)), (2, .int (vl_I f.n)), (0, .long w)]) (st' := [.int (1 : Int32)]) rfl Kz) ?_
                  refine jv_Wp.lift (fun _ Kz => jv_Ev.br jv_i97 (pc' := 130) (st' := []) rfl (by rfl) Kz) ?_
                  refine jv_Wp.lift (fun _ Kz => jv_Ev.steps jv_i97 2 (pc' := 135) (l' := [(6, .int (1 : Int32)), (5, .int (1 : Int32)), (4, .int (1 : Int32)), (3, .int (vl_I f.code)), (2, .int (vl_I f.n)), (0, .long w)]) (st' := [.int (1 : Int32)]) rfl Kz) ?_
                  refine jv_Wp.of (jv_Ev.ret jv_i97 rfl (jv_ret_b (Or.inr rfl))) ?_
                  have x1 : ¬ f.n = 0 := fun z => h1 ((vl_I_inj (a := f.n) (b := 0) (Nat.lt_trans bn (by decide)) (by decide)).mpr z)
                  have x2 : ¬ f.n = 8 := fun z => h29 ((vl_I_inj (a := f.n) (b := 8) (Nat.lt_trans bn (by decide)) (by decide)).mpr z)
                  have x3 : f.n = 9 := (vl_I_inj (a := f.n) (b := 9) (Nat.lt_trans bn (by decide)) (by decide)).mp (Classical.not_not.mp h57)
                  have x4 : f.d = 0 := (vl_I_inj (a := f.d) (b := 0) (Nat.lt_trans bd (by decide)) (by decide)).mp (Classical.not_not.mp h64)
                  have x5 : f.s = 0 := (vl_I_inj (a := f.s) (b := 0) (Nat.lt_trans bs (by decide)) (by decide)).mp (Classical.not_not.mp h68)
                  have y6 : f.o = 0 := (vw_dO ef).symm.trans (congrArg Int32.toInt (Classical.not_not.mp h72))
                  have y7 : f.i = 0 := (vw_dQ ef).symm.trans (congrArg Int32.toInt (Classical.not_not.mp h82))
                  have x8 : f.code = 5 := (vl_I_inj (a := f.code) (b := 5) (Nat.lt_trans bc (by decide)) (by decide)).mp (Classical.not_not.mp h87)
                  have ev : decide (vf_pJ f) = true := decide_eq_true ((vf_pJ_9 (by omega)).mpr (by omega))
                  rw [ev] at hQ
                  exact hQ
theorem vc_isJump {K : Nat → Option (Nat × Nat)} {I : Nat → Nat → Int32} {L : Nat → Nat → Int64} {R : Nat → Nat → Value} {w : Int64} {f : vf_F} (ef : vc_F w = f) (hk : f.kind = 5 ∨ f.kind = 6) {n sl : Nat} : jv_Ms 97 [.long w] (jv_H K I L R) n sl (some (.int (vr_b (decide (vf_pJ f)))), jv_H K I L R, n, sl) := by
  have h := vc_isJump_ (n := n) (sl := sl) (K := K) (I := I) (L := L) (R := R) ef hk (Q := fun X => X = (some (.int (vr_b (decide (vf_pJ f)))), jv_H K I L R, n, sl)) rfl
  obtain ⟨X, h, e⟩ := h
  subst e
  exact h
theorem jv_i96 : jv_I 96 7 (some .boolean) 1 21 jv_c96 := ⟨rfl, rfl, rfl, rfl, rfl⟩
theorem vc_isReckoning_ {K : Nat → Option (Nat × Nat)} {I : Nat → Nat → Int32} {L : Nat → Nat → Int64} {R : Nat → Nat → Value} {w : Int64} {f : vf_F} (ef : vc_F w = f) (hk : f.kind = 4 ∨ f.kind = 7) {n sl : Nat} {Q : jv_R → Prop} (hQ : Q (some (.int (vr_b (decide (vf_pA f)))), jv_H K I L R, n, sl)) : jv_Wp 96 0 [(0, .long w)] [] (jv_H K I L R) n sl Q := by
  have c1 := vw_dc ef
  have c2 := vw_dd ef
  have c3 := vw_ds ef
  have c4 : f.n = f.code / 16 := rfl
  have c5 : f.kind = f.code % 8 := rfl
  have c6 : f.mode = f.code / 32 := rfl
  have c7 := vf_z f
  have bn : f.n < 2147483648 := by omega
  have bk : f.kind < 2147483648 := by omega
  have bm : f.mode < 2147483648 := by omega
  have bz : f.z < 2147483648 := by omega
  have bc : f.code < 2147483648 := by omega
  have bd : f.d < 2147483648 := by omega
  have bs : f.s < 2147483648 := by omega
  refine jv_Wp.lift (fun _ Kz => jv_Ev.steps jv_i96 1 (pc' := 1) (l' := [(0, .long w)]) (st' := [.long w]) rfl Kz) ?_
  refine jv_Wp.lift (fun _ Kz => jv_Ev.c jv_i96 (pc' := 4) (S' := [.int (vl_I f.n)]) jv_i82 [.long w] rfl rfl rfl rfl rfl rfl (vw_f82 ef) rfl rfl Kz) ?_
  refine jv_Wp.lift (fun _ Kz => jv_Ev.steps jv_i96 2 (pc' := 6) (l' := [(2, .int (vl_I f.n)), (0, .long w)]) (st' := [.long w]) rfl Kz) ?_
  refine jv_Wp.lift (fun _ Kz => jv_Ev.c jv_i96 (pc' := 9) (S' := [.int (Int32.ofInt f.o)]) jv_i88 [.long w] rfl rfl rfl rfl rfl rfl (vw_f88 ef) rfl rfl Kz) ?_
  refine jv_Wp.lift (fun _ Kz => jv_Ev.steps jv_i96 2 (pc' := 11) (l' := [(3, .int (Int32.ofInt f.o)), (2, .int (vl_I f.n)), (0, .long w)]) (st' := [.long w]) rfl Kz) ?_
  refine jv_Wp.lift (fun _ Kz => jv_Ev.c jv_i96 (pc' := 14) (S' := [.int (Int32.ofInt f.i)]) jv_i89 [.long w] rfl rfl rfl rfl rfl rfl (vw_f89 ef) rfl rfl Kz) ?_
  refine jv_Wp.lift (fun _ Kz => jv_Ev.steps jv_i96 2 (pc' := 17) (l' := [(4, .int (Int32.ofInt f.i)), (3, .int (Int32.ofInt f.o)), (2, .int (vl_I f.n)), (0, .long w)]) (st' := [.long w]) rfl Kz) ?_
  refine jv_Wp.lift (fun _ Kz => jv_Ev.c jv_i96 (pc' := 20) (S' := [.int (vl_I f.kind)]) jv_i81 [.long w] rfl rfl rfl rfl rfl rfl (vw_f81 ef) rfl rfl Kz) ?_
  refine jv_Wp.lift (fun _ Kz => jv_Ev.steps jv_i96 1 (pc' := 22) (l' := [(4, .int (Int32.ofInt f.i)), (3, .int (Int32.ofInt f.o)), (2, .int (vl_I f.n)), (0, .long w)]) (st' := [.int (7 : Int32), .int (vl_I f.kind)]) rfl Kz) ?_
  refine jv_Wp.cnd jv_i96 (pt := 29) (pe := 25) (p := (¬ (vl_I f.kind) = (7 : Int32))) (q := (¬ (vl_I f.kind) = (7 : Int32))) rfl jv_bc_ne rfl rfl Iff.rfl (fun h1 => ?_) (fun h1 => ?_)
  · refine jv_Wp.lift (fun _ Kz => jv_Ev.steps jv_i96 3 (pc' := 33) (l' := [(5, .int (0 : Int32)), (4, .int (Int32.ofInt f.i)), (3, .int (Int32.ofInt f.o)), (2, .int (vl_I f.n)), (0, .long w)]) (st' := [.long w]) rfl Kz) ?_
    refine jv_Wp.lift (fun _ Kz => jv_Ev.c jv_i96 (pc' := 36) (S' := [.int (vr_b f.bit3)]) jv_i83 [.long w] rfl rfl rfl rfl rfl rfl (vw_f83 ef) rfl rfl Kz) ?_
    refine jv_Wp.lift (fun _ Kz => jv_Ev.steps jv_i96 2 (pc' := 39) (l' := [(6, .int (vr_b f.bit3)), (5, .int (0 : Int32)), (4, .int (Int32.ofInt f.i)), (3, .int (Int32.ofInt f.o)), (2, .int (vl_I f.n)), (0, .long w)]) (st' := [.long w]) rfl Kz) ?_
    refine jv_Wp.lift (fun _ Kz => jv_Ev.c jv_i96 (pc' := 42) (S' := [.int (vl_I f.d)]) jv_i86 [.long w] rfl rfl rfl rfl rfl rfl (vw_f86 ef) rfl rfl Kz) ?_
    refine jv_Wp.lift (fun _ Kz => jv_Ev.steps jv_i96 1 (pc' := 44) (l' := [(6, .int (vr_b f.bit3)), (5, .int (0 : Int32)), (4, .int (Int32.ofInt f.i)), (3, .int (Int32.ofInt f.o)), (2, .int (vl_I f.n)), (0, .long w)]) (st' := [.int (9 : Int32), .int (vl_I f.d)]) rfl Kz) ?_
    refine jv_Wp.cnd jv_i96 (pt := 53) (pe := 47) (p := ((9 : Int32) < (vl_I f.d))) (q := ((9 : Int32) < (vl_I f.d))) rfl jv_bc_gt rfl rfl Iff.rfl (fun h2 => ?_) (fun h2 => ?_)
    · refine jv_Wp.lift (fun _ Kz => jv_Ev.steps jv_i96 1 (pc' := 54) (l' := [(6, .int (vr_b f.bit3)), (5, .int (0 : Int32)), (4, .int (Int32.ofInt f.i)), (3, .int (Int32.ofInt f.o)), (2, .int (vl_I f.n)), (0, .long w)]) (st' := [.int (0 : Int32)]) rfl Kz) ?_
      refine jv_Wp.of (jv_Ev.ret jv_i96 rfl (jv_ret_b (Or.inl rfl))) ?_
      have x1 : ¬ f.kind = 7 := fun z => h1 ((vl_I_inj (a := f.kind) (b := 7) (Nat.lt_trans bk (by decide)) (by decide)).mpr z)
      have x2 : 9 < f.d := (vl_I_lt (a := 9) (b := f.d) (by decide) bd).mp h2
      have ev : decide (vf_pA f) = false := decide_eq_false (fun z => by have y1 := vf_pA_le z; first | omega | (have y2 := vf_pA_S (by omega) z; omega))
      rw [ev] at hQ
      exact hQ
    · refine jv_Wp.lift (fun _ Kz => jv_Ev.steps jv_i96 2 (pc' := 50) (l' := [(6, .int (vr_b f.bit3)), (5, .int (0 : Int32)), (4, .int (Int32.ofInt f.i)), (3, .int (Int32.ofInt f.o)), (2, .int (vl_I f.n)), (0, .long w)]) (st' := [.int (13 : Int32), .int (vl_I f.n)]) rfl Kz) ?_
      refine jv_Wp.cnd jv_i96 (pt := 55) (pe := 53) (p := ((vl_I f.n) ≤ (13 : Int32))) (q := ((vl_I f.n) ≤ (13 : Int32))) rfl jv_bc_le rfl rfl Iff.rfl (fun h3 => ?_) (fun h3 => ?_)
      · refine jv_Wp.lift (fun _ Kz => jv_Ev.steps jv_i96 2 (pc' := 58) (l' := [(6, .int (vr_b f.bit3)), (5, .int (0 : Int32)), (4, .int (Int32.ofInt f.i)), (3, .int (Int32.ofInt f.o)), (2, .int (vl_I f.n)), (0, .long w)]) (st' := [.int (13 : Int32), .int (vl_I f.n)]) rfl Kz) ?_
        refine jv_Wp.cnd jv_i96 (pt := 109) (pe := 61) (p := (¬ (vl_I f.n) = (13 : Int32))) (q := (¬ (vl_I f.n) = (13 : Int32))) rfl jv_bc_ne rfl rfl Iff.rfl (fun h4 => ?_) (fun h4 => ?_)
        · refine jv_Wp.lift (fun _ Kz => jv_Ev.steps jv_i96 1 (pc' := 111) (l' := [(6, .int (vr_b f.bit3)), (5, .int (0 : Int32)), (4, .int (Int32.ofInt f.i)), (3, .int (Int32.ofInt f.o)), (2, .int (vl_I f.n)), (0, .long w)]) (st' := [.int (vr_b f.bit3)]) rfl Kz) ?_
          refine jv_Wp.cnd jv_i96 (pt := 131) (pe := 114) (p := ((vr_b f.bit3) = 0)) (q := ((vr_b f.bit3) = 0)) rfl jv_bi_eq rfl rfl Iff.rfl (fun h5 => ?_) (fun h5 => ?_)
          · refine jv_Wp.lift (fun _ Kz => jv_Ev.steps jv_i96 1 (pc' := 132) (l' := [(6, .int (vr_b f.bit3)), (5, .int (0 : Int32)), (4, .int (Int32.ofInt f.i)), (3, .int (Int32.ofInt f.o)), (2, .int (vl_I f.n)), (0, .long w)]) (st' := [.long w]) rfl Kz) ?_
            refine jv_Wp.lift (fun _ Kz => jv_Ev.c jv_i96 (pc' := 135) (S' := [.int (vl_I f.s)]) jv_i87 [.long w] rfl rfl rfl rfl rfl rfl (vw_f87 ef) rfl rfl Kz) ?_
            refine jv_Wp.cnd jv_i96 (pt := 140) (pe := 138) (p := ((vl_I f.s) = 0)) (q := ((vl_I f.s) = 0)) rfl jv_bi_eq rfl rfl Iff.rfl (fun h6 => ?_) (fun h6 => ?_)
            · refine jv_Wp.lift (fun _ Kz => jv_Ev.steps jv_i96 2 (pc' := 143) (l' := [(6, .int (vr_b f.bit3)), (5, .int (0 : Int32)), (4, .int (Int32.ofInt f.i)), (3, .int (Int32.ofInt f.o)), (2, .int (vl_I f.n)), (0, .long w)]) (st' := [.int (8 : Int32), .int (vl_I f.n)]) rfl Kz) ?_
              refine jv_Wp.cnd jv_i96 (pt := 166) (pe := 146) (p := (¬ (vl_I f.n) = (8 : Int32))) (q := (¬ (vl_I f.n) = (8 : Int32))) rfl jv_bc_ne rfl rfl Iff.rfl (fun h7 => ?_) (fun h7 => ?_)
              · refine jv_Wp.lift (fun _ Kz => jv_Ev.steps jv_i96 2 (pc' := 168) (l' := [(6, .int (vr_b f.bit3)), (5, .int (0 : Int32)), (4, .int (Int32.ofInt f.i)), (3, .int (Int32.ofInt f.o)), (2, .int (vl_I f.n)), (0, .long w)]) (st' := [.int (3 : Int32), .int (vl_I f.n)]) rfl Kz) ?_
                refine jv_Wp.cnd jv_i96 (pt := 177) (pe := 171) (p := ((vl_I f.n) = (3 : Int32))) (q := ((vl_I f.n) = (3 : Int32))) rfl jv_bc_eq rfl rfl Iff.rfl (fun h8 => ?_) (fun h8 => ?_)
                · refine jv_Wp.lift (fun _ Kz => jv_Ev.steps jv_i96 1 (pc' := 178) (l' := [(6, .int (vr_b f.bit3)), (5, .int (0 : Int32)), (4, .int (Int32.ofInt f.i)), (3, .int (Int32.ofInt f.o)), (2, .int (vl_I f.n)), (0, .long w)]) (st' := [.int (Int32.ofInt f.o)]) rfl Kz) ?_
                  refine jv_Wp.cnd jv_i96 (pt := 186) (pe := 181) (p := ((Int32.ofInt f.o) = 0)) (q := ((Int32.ofInt f.o) = 0)) rfl jv_bi_eq rfl rfl Iff.rfl (fun h9 => ?_) (fun h9 => ?_)
                  · refine jv_Wp.lift (fun _ Kz => jv_Ev.steps jv_i96 2 (pc' := 191) (l' := [(6, .int (vr_b f.bit3)), (5, .int (0 : Int32)), (4, .int (Int32.ofInt f.i)), (3, .int (Int32.ofInt f.o)), (2, .int (vl_I f.n)), (0, .long w)]) (st' := [.int (1 : Int32)]) rfl Kz) ?_
                    refine jv_Wp.of (jv_Ev.ret jv_i96 rfl (jv_ret_b (Or.inr rfl))) ?_
                    have x1 : ¬ f.kind = 7 := fun z => h1 ((vl_I_inj (a := f.kind) (b := 7) (Nat.lt_trans bk (by decide)) (by decide)).mpr z)
                    have x2 : ¬ 9 < f.d := fun z => h2 ((vl_I_lt (a := 9) (b := f.d) (by decide) bd).mpr z)
                    have x3 : f.n ≤ 13 := (vl_I_le (a := f.n) (b := 13) bn (by decide)).mp h3
                    have x4 : ¬ f.n = 13 := fun z => h4 ((vl_I_inj (a := f.n) (b := 13) (Nat.lt_trans bn (by decide)) (by decide)).mpr z)
                    have b5 := vf_b3f (vr_b_f h5)
                    have x6 : f.s = 0 := (vl_I_inj (a := f.s) (b := 0) (Nat.lt_trans bs (by decide)) (by decide)).mp h6
                    have x7 : ¬ f.n = 8 := fun z => h7 ((vl_I_inj (a := f.n) (b := 8) (Nat.lt_trans bn (by decide)) (by decide)).mpr z)
                    have x8 : f.n = 3 := (vl_I_inj (a := f.n) (b := 3) (Nat.lt_trans bn (by decide)) (by decide)).mp h8
                    have y9 : f.o = 0 := (vw_dO ef).symm.trans (congrArg Int32.toInt h9)
                    have ev : decide (vf_pA f) = true := decide_eq_true ((vf_pA_3 (by omega)).mpr (by omega))
                    rw [ev] at hQ
                    exact hQ
                  · refine jv_Wp.lift (fun _ Kz => jv_Ev.steps jv_i96 2 (pc' := 183) (l' := [(6, .int (vr_b f.bit3)), (5, .int (0 : Int32)), (4, .int (Int32.ofInt f.i)), (3, .int (Int32.ofInt f.o)), (2, .int (vl_I f.n)), (0, .long w)]) (st' := [.int (1 : Int32), .int (Int32.ofInt f.o)]) rfl Kz) ?_
                    refine jv_Wp.cnd jv_i96 (pt := 190) (pe := 186) (p := (¬ (Int32.ofInt f.o) = (1 : Int32))) (q := (¬ (Int32.ofInt f.o) = (1 : Int32))) rfl jv_bc_ne rfl rfl Iff.rfl (fun h10 => ?_) (fun h10 => ?_)
                    · refine jv_Wp.lift (fun _ Kz => jv_Ev.steps jv_i96 1 (pc' := 191) (l' := [(6, .int (vr_b f.bit3)), (5, .int (0 : Int32)), (4, .int (Int32.ofInt f.i)), (3, .int (Int32.ofInt f.o)), (2, .int (vl_I f.n)), (0, .long w)]) (st' := [.int (0 : Int32)]) rfl Kz) ?_
                      refine jv_Wp.of (jv_Ev.ret jv_i96 rfl (jv_ret_b (Or.inl rfl))) ?_
                      have x1 : ¬ f.kind = 7 := fun z => h1 ((vl_I_inj (a := f.kind) (b := 7) (Nat.lt_trans bk (by decide)) (by decide)).mpr z)
                      have x2 : ¬ 9 < f.d := fun z => h2 ((vl_I_lt (a := 9) (b := f.d) (by decide) bd).mpr z)
                      have x3 : f.n ≤ 13 := (vl_I_le (a := f.n) (b := 13) bn (by decide)).mp h3
                      have x4 : ¬ f.n = 13 := fun z => h4 ((vl_I_inj (a := f.n) (b := 13) (Nat.lt_trans bn (by decide)) (by decide)).mpr z)
                      have b5 := vf_b3f (vr_b_f h5)
                      have x6 : f.s = 0 := (vl_I_inj (a := f.s) (b := 0) (Nat.lt_trans bs (by decide)) (by decide)).mp h6
                      have x7 : ¬ f.n = 8 := fun z => h7 ((vl_I_inj (a := f.n) (b := 8) (Nat.lt_trans bn (by decide)) (by decide)).mpr z)
                      have x8 : f.n = 3 := (vl_I_inj (a := f.n) (b := 3) (Nat.lt_trans bn (by decide)) (by decide)).mp h8
                      have y9 : ¬ f.o = 0 := fun z => h9 (Int32.toInt_inj.mp ((vw_dO ef).trans (z.trans rfl)))
                      have y10 : ¬ f.o = 1 := fun z => h10 (Int32.toInt_inj.mp ((vw_dO ef).trans (z.trans rfl)))
                      have ev : decide (vf_pA f) = false := decide_eq_false (fun z => by have y := (vf_pA_3 (by omega)).mp z; omega)
                      rw [ev] at hQ
                      exact hQ
                    · refine jv_Wp.lift (fun _ Kz => jv_Ev.steps jv_i96 2 (pc' := 191) (l' := [(6, .int (vr_b f.bit3)), (5, .int (0 : Int32)), (4, .int (Int32.ofInt f.i)), (3, .int (Int32.ofInt f.o)), (2, .int (vl_I f.n)), (0, .long w)]) (st' := [.int (1 : Int32)]) rfl Kz) ?_
                      refine jv_Wp.of (jv_Ev.ret jv_i96 rfl (jv_ret_b (Or.inr rfl))) ?_
                      have x1 : ¬ f.kind = 7 := fun z => h1 ((vl_I_inj (a := f.kind) (b := 7) (Nat.lt_trans bk (by decide)) (by decide)).mpr z)
                      have x2 : ¬ 9 < f.d := fun z => h2 ((vl_I_lt (a := 9) (b := f.d) (by decide) bd).mpr z)
                      have x3 : f.n ≤ 13 := (vl_I_le (a := f.n) (b := 13) bn (by decide)).mp h3
                      have x4 : ¬ f.n = 13 := fun z => h4 ((vl_I_inj (a := f.n) (b := 13) (Nat.lt_trans bn (by decide)) (by decide)).mpr z)
                      have b5 := vf_b3f (vr_b_f h5)
                      have x6 : f.s = 0 := (vl_I_inj (a := f.s) (b := 0) (Nat.lt_trans bs (by decide)) (by decide)).mp h6
                      have x7 : ¬ f.n = 8 := fun z => h7 ((vl_I_inj (a := f.n) (b := 8) (Nat.lt_trans bn (by decide)) (by decide)).mpr z)
                      have x8 : f.n = 3 := (vl_I_inj (a := f.n) (b := 3) (Nat.lt_trans bn (by decide)) (by decide)).mp h8
                      have y9 : ¬ f.o = 0 := fun z => h9 (Int32.toInt_inj.mp ((vw_dO ef).trans (z.trans rfl)))
                      have y10 : f.o = 1 := (vw_dO ef).symm.trans (congrArg Int32.toInt (Classical.not_not.mp h10))
                      have ev : decide (vf_pA f) = true := decide_eq_true ((vf_pA_3 (by omega)).mpr (by omega))
                      rw [ev] at hQ
                      exact hQ
                · refine jv_Wp.lift (fun _ Kz => jv_Ev.steps jv_i96 2 (pc' := 174) (l' := [(6, .int (vr_b f.bit3)), (5, .int (0 : Int32)), (4, .int (Int32.ofInt f.i)), (3, .int (Int32.ofInt f.o)), (2, .int (vl_I f.n)), (0, .long w)]) (st' := [.int (9 : Int32), .int (vl_I f.n)]) rfl Kz) ?_
                  refine jv_Wp.cnd jv_i96 (pt := 192) (pe := 177) (p := (¬ (vl_I f.n) = (9 : Int32))) (q := (¬ (vl_I f.n) = (9 : Int32))) rfl jv_bc_ne rfl rfl Iff.rfl (fun h11 => ?_) (fun h11 => ?_)
                  · refine jv_Wp.lift (fun _ Kz => jv_Ev.steps jv_i96 1 (pc' := 193) (l' := [(6, .int (vr_b f.bit3)), (5, .int (0 : Int32)), (4, .int (Int32.ofInt f.i)), (3, .int (Int32.ofInt f.o)), (2, .int (vl_I f.n)), (0, .long w)]) (st' := [.int (Int32.ofInt f.o)]) rfl Kz) ?_
                    refine jv_Wp.cnd jv_i96 (pt := 230) (pe := 196) (p := ((Int32.ofInt f.o) = 0)) (q := ((Int32.ofInt f.o) = 0)) rfl jv_bi_eq rfl rfl Iff.rfl (fun h12 => ?_) (fun h12 => ?_)
                    · refine jv_Wp.lift (fun _ Kz => jv_Ev.steps jv_i96 2 (pc' := 235) (l' := [(6, .int (vr_b f.bit3)), (5, .int (0 : Int32)), (4, .int (Int32.ofInt f.i)), (3, .int (Int32.ofInt f.o)), (2, .int (vl_I f.n)), (0, .long w)]) (st' := [.int (1 : Int32)]) rfl Kz) ?_
                      refine jv_Wp.of (jv_Ev.ret jv_i96 rfl (jv_ret_b (Or.inr rfl))) ?_
                      have x1 : ¬ f.kind = 7 := fun z => h1 ((vl_I_inj (a := f.kind) (b := 7) (Nat.lt_trans bk (by decide)) (by decide)).mpr z)
                      have x2 : ¬ 9 < f.d := fun z => h2 ((vl_I_lt (a := 9) (b := f.d) (by decide) bd).mpr z)
                      have x3 : f.n ≤ 13 := (vl_I_le (a := f.n) (b := 13) bn (by decide)).mp h3
                      have x4 : ¬ f.n = 13 := fun z => h4 ((vl_I_inj (a := f.n) (b := 13) (Nat.lt_trans bn (by decide)) (by decide)).mpr z)
                      have b5 := vf_b3f (vr_b_f h5)
                      have x6 : f.s = 0 := (vl_I_inj (a := f.s) (b := 0) (Nat.lt_trans bs (by decide)) (by decide)).mp h6
                      have x7 : ¬ f.n = 8 := fun z => h7 ((vl_I_inj (a := f.n) (b := 8) (Nat.lt_trans bn (by decide)) (by decide)).mpr z)
                      have x8 : ¬ f.n = 3 := fun z => h8 ((vl_I_inj (a := f.n) (b := 3) (Nat.lt_trans bn (by decide)) (by decide)).mpr z)
                      have x9 : ¬ f.n = 9 := fun z => h11 ((vl_I_inj (a := f.n) (b := 9) (Nat.lt_trans bn (by decide)) (by decide)).mpr z)
                      have y10 : f.o = 0 := (vw_dO ef).symm.trans (congrArg Int32.toInt h12)
                      have ev : decide (vf_pA f) = true := decide_eq_true ((vf_pA_0 (by omega)).mpr (by omega))
                      rw [ev] at hQ
                      exact hQ
                    · refine jv_Wp.lift (fun _ Kz => jv_Ev.steps jv_i96 2 (pc' := 199) (l' := [(6, .int (vr_b f.bit3)), (5, .int (0 : Int32)), (4, .int (Int32.ofInt f.i)), (3, .int (Int32.ofInt f.o)), (2, .int (vl_I f.n)), (0, .long w)]) (st' := [.int (11 : Int32), .int (vl_I f.n)]) rfl Kz) ?_
                      refine jv_Wp.cnd jv_i96 (pt := 234) (pe := 202) (p := (¬ (vl_I f.n) = (11 : Int32))) (q := (¬ (vl_I f.n) = (11 : Int32))) rfl jv_bc_ne rfl rfl Iff.rfl (fun h13 => ?_) (fun h13 => ?_)
                      · refine jv_Wp.lift (fun _ Kz => jv_Ev.steps jv_i96 1 (pc' := 235) (l' := [(6, .int (vr_b f.bit3)), (5, .int (0 : Int32)), (4, .int (Int32.ofInt f.i)), (3, .int (Int32.ofInt f.o)), (2, .int (vl_I f.n)), (0, .long w)]) (st' := [.int (0 : Int32)]) rfl Kz) ?_
                        refine jv_Wp.of (jv_Ev.ret jv_i96 rfl (jv_ret_b (Or.inl rfl))) ?_
                        have x1 : ¬ f.kind = 7 := fun z => h1 ((vl_I_inj (a := f.kind) (b := 7) (Nat.lt_trans bk (by decide)) (by decide)).mpr z)
                        have x2 : ¬ 9 < f.d := fun z => h2 ((vl_I_lt (a := 9) (b := f.d) (by decide) bd).mpr z)
                        have x3 : f.n ≤ 13 := (vl_I_le (a := f.n) (b := 13) bn (by decide)).mp h3
                        have x4 : ¬ f.n = 13 := fun z => h4 ((vl_I_inj (a := f.n) (b := 13) (Nat.lt_trans bn (by decide)) (by decide)).mpr z)
                        have b5 := vf_b3f (vr_b_f h5)
                        have x6 : f.s = 0 := (vl_I_inj (a := f.s) (b := 0) (Nat.lt_trans bs (by decide)) (by decide)).mp h6
                        have x7 : ¬ f.n = 8 := fun z => h7 ((vl_I_inj (a := f.n) (b := 8) (Nat.lt_trans bn (by decide)) (by decide)).mpr z)
                        have x8 : ¬ f.n = 3 := fun z => h8 ((vl_I_inj (a := f.n) (b := 3) (Nat.lt_trans bn (by decide)) (by decide)).mpr z)
                        have x9 : ¬ f.n = 9 := fun z => h11 ((vl_I_inj (a := f.n) (b := 9) (Nat.lt_trans bn (by decide)) (by decide)).mpr z)
                        have y10 : ¬ f.o = 0 := fun z => h12 (Int32.toInt_inj.mp ((vw_dO ef).trans (z.trans rfl)))
                        have x11 : ¬ f.n = 11 := fun z => h13 ((vl_I_inj (a := f.n) (b := 11) (Nat.lt_trans bn (by decide)) (by decide)).mpr z)
                        have ev : decide (vf_pA f) = false := decide_eq_false (fun z => by have y := (vf_pA_n (by omega)).mp z; omega)
                        rw [ev] at hQ
                        exact hQ
                      · refine jv_Wp.lift (fun _ Kz => jv_Ev.steps jv_i96 1 (pc' := 204) (l' := [(6, .int (vr_b f.bit3)), (5, .int (0 : Int32)), (4, .int (Int32.ofInt f.i)), (3, .int (Int32.ofInt f.o)), (2, .int (vl_I f.n)), (0, .long w)]) (st' := [.int (vr_b f.bit3)]) rfl Kz) ?_
                        refine jv_Wp.cnd jv_i96 (pt := 234) (pe := 207) (p := ((vr_b f.bit3) = 0)) (q := ((vr_b f.bit3) = 0)) rfl jv_bi_eq rfl rfl Iff.rfl (fun _ => ?_) (fun hz => absurd h5 hz)
                        refine jv_Wp.lift (fun _ Kz => jv_Ev.steps jv_i96 1 (pc' := 235) (l' := [(6, .int (vr_b f.bit3)), (5, .int (0 : Int32)), (4, .int (Int32.ofInt f.i)), (3, .int (Int32.ofInt f.o)), (2, .int (vl_I f.n)), (0, .long w)]) (st' := [.int (0 : Int32)]) rfl Kz) ?_
                        refine jv_Wp.of (jv_Ev.ret jv_i96 rfl (jv_ret_b (Or.inl rfl))) ?_
                        have x1 : ¬ f.kind = 7 := fun z => h1 ((vl_I_inj (a := f.kind) (b := 7) (Nat.lt_trans bk (by decide)) (by decide)).mpr z)
                        have x2 : ¬ 9 < f.d := fun z => h2 ((vl_I_lt (a := 9) (b := f.d) (by decide) bd).mpr z)
                        have x3 : f.n ≤ 13 := (vl_I_le (a := f.n) (b := 13) bn (by decide)).mp h3
                        have x4 : ¬ f.n = 13 := fun z => h4 ((vl_I_inj (a := f.n) (b := 13) (Nat.lt_trans bn (by decide)) (by decide)).mpr z)
                        have b5 := vf_b3f (vr_b_f h5)
                        have x6 : f.s = 0 := (vl_I_inj (a := f.s) (b := 0) (Nat.lt_trans bs (by decide)) (by decide)).mp h6
                        have x7 : ¬ f.n = 8 := fun z => h7 ((vl_I_inj (a := f.n) (b := 8) (Nat.lt_trans bn (by decide)) (by decide)).mpr z)
                        have x8 : ¬ f.n = 3 := fun z => h8 ((vl_I_inj (a := f.n) (b := 3) (Nat.lt_trans bn (by decide)) (by decide)).mpr z)
                        have x9 : ¬ f.n = 9 := fun z => h11 ((vl_I_inj (a := f.n) (b := 9) (Nat.lt_trans bn (by decide)) (by decide)).mpr z)
                        have y10 : ¬ f.o = 0 := fun z => h12 (Int32.toInt_inj.mp ((vw_dO ef).trans (z.trans rfl)))
                        have x11 : f.n = 11 := (vl_I_inj (a := f.n) (b := 11) (Nat.lt_trans bn (by decide)) (by decide)).mp (Classical.not_not.mp h13)
                        have ev : decide (vf_pA f) = false := decide_eq_false (fun z => by have y := (vf_pA_11 (by omega)).mp z; omega)
                        rw [ev] at hQ
                        exact hQ
                  · refine jv_Wp.lift (fun _ Kz => jv_Ev.steps jv_i96 1 (pc' := 178) (l' := [(6, .int (vr_b f.bit3)), (5, .int (0 : Int32)), (4, .int (Int32.ofInt f.i)), (3, .int (Int32.ofInt f.o)), (2, .int (vl_I f.n)), (0, .long w)]) (st' := [.int (Int32.ofInt f.o)]) rfl Kz) ?_
                    refine jv_Wp.cnd jv_i96 (pt := 186) (pe := 181) (p := ((Int32.ofInt f.o) = 0)) (q := ((Int32.ofInt f.o) = 0)) rfl jv_bi_eq rfl rfl Iff.rfl (fun h14 => ?_) (fun h14 => ?_)
                    · refine jv_Wp.lift (fun _ Kz => jv_Ev.steps jv_i96 2 (pc' := 191) (l' := [(6, .int (vr_b f.bit3)), (5, .int (0 : Int32)), (4, .int (Int32.ofInt f.i)), (3, .int (Int32.ofInt f.o)), (2, .int (vl_I f.n)), (0, .long w)]) (st' := [.int (1 : Int32)]) rfl Kz) ?_
                      refine jv_Wp.of (jv_Ev.ret jv_i96 rfl (jv_ret_b (Or.inr rfl))) ?_
                      have x1 : ¬ f.kind = 7 := fun z => h1 ((vl_I_inj (a := f.kind) (b := 7) (Nat.lt_trans bk (by decide)) (by decide)).mpr z)
                      have x2 : ¬ 9 < f.d := fun z => h2 ((vl_I_lt (a := 9) (b := f.d) (by decide) bd).mpr z)
                      have x3 : f.n ≤ 13 := (vl_I_le (a := f.n) (b := 13) bn (by decide)).mp h3
                      have x4 : ¬ f.n = 13 := fun z => h4 ((vl_I_inj (a := f.n) (b := 13) (Nat.lt_trans bn (by decide)) (by decide)).mpr z)
                      have b5 := vf_b3f (vr_b_f h5)
                      have x6 : f.s = 0 := (vl_I_inj (a := f.s) (b := 0) (Nat.lt_trans bs (by decide)) (by decide)).mp h6
                      have x7 : ¬ f.n = 8 := fun z => h7 ((vl_I_inj (a := f.n) (b := 8) (Nat.lt_trans bn (by decide)) (by decide)).mpr z)
                      have x8 : ¬ f.n = 3 := fun z => h8 ((vl_I_inj (a := f.n) (b := 3) (Nat.lt_trans bn (by decide)) (by decide)).mpr z)
                      have x9 : f.n = 9 := (vl_I_inj (a := f.n) (b := 9) (Nat.lt_trans bn (by decide)) (by decide)).mp (Classical.not_not.mp h11)
                      have y10 : f.o = 0 := (vw_dO ef).symm.trans (congrArg Int32.toInt h14)
                      have ev : decide (vf_pA f) = true := decide_eq_true ((vf_pA_3 (by omega)).mpr (by omega))
                      rw [ev] at hQ
                      exact hQ
                    · refine jv_Wp.lift (fun _ Kz => jv_Ev.steps jv_i96 2 (pc' := 183) (l' := [(6, .int (vr_b f.bit3)), (5, .int (0 : Int32)), (4, .int (Int32.ofInt f.i)), (3, .int (Int32.ofInt f.o)), (2, .int (vl_I f.n)), (0, .long w)]) (st' := [.int (1 : Int32), .int (Int32.ofInt f.o)]) rfl Kz) ?_
                      refine jv_Wp.cnd jv_i96 (pt := 190) (pe := 186) (p := (¬ (Int32.ofInt f.o) = (1 : Int32))) (q := (¬ (Int32.ofInt f.o) = (1 : Int32))) rfl jv_bc_ne rfl rfl Iff.rfl (fun h15 => ?_) (fun h15 => ?_)
                      · refine jv_Wp.lift (fun _ Kz => jv_Ev.steps jv_i96 1 (pc' := 191) (l' := [(6, .int (vr_b f.bit3)), (5, .int (0 : Int32)), (4, .int (Int32.ofInt f.i)), (3, .int (Int32.ofInt f.o)), (2, .int (vl_I f.n)), (0, .long w)]) (st' := [.int (0 : Int32)]) rfl Kz) ?_
                        refine jv_Wp.of (jv_Ev.ret jv_i96 rfl (jv_ret_b (Or.inl rfl))) ?_
                        have x1 : ¬ f.kind = 7 := fun z => h1 ((vl_I_inj (a := f.kind) (b := 7) (Nat.lt_trans bk (by decide)) (by decide)).mpr z)
                        have x2 : ¬ 9 < f.d := fun z => h2 ((vl_I_lt (a := 9) (b := f.d) (by decide) bd).mpr z)
                        have x3 : f.n ≤ 13 := (vl_I_le (a := f.n) (b := 13) bn (by decide)).mp h3
                        have x4 : ¬ f.n = 13 := fun z => h4 ((vl_I_inj (a := f.n) (b := 13) (Nat.lt_trans bn (by decide)) (by decide)).mpr z)
                        have b5 := vf_b3f (vr_b_f h5)
                        have x6 : f.s = 0 := (vl_I_inj (a := f.s) (b := 0) (Nat.lt_trans bs (by decide)) (by decide)).mp h6
                        have x7 : ¬ f.n = 8 := fun z => h7 ((vl_I_inj (a := f.n) (b := 8) (Nat.lt_trans bn (by decide)) (by decide)).mpr z)
                        have x8 : ¬ f.n = 3 := fun z => h8 ((vl_I_inj (a := f.n) (b := 3) (Nat.lt_trans bn (by decide)) (by decide)).mpr z)
                        have x9 : f.n = 9 := (vl_I_inj (a := f.n) (b := 9) (Nat.lt_trans bn (by decide)) (by decide)).mp (Classical.not_not.mp h11)
                        have y10 : ¬ f.o = 0 := fun z => h14 (Int32.toInt_inj.mp ((vw_dO ef).trans (z.trans rfl)))
                        have y11 : ¬ f.o = 1 := fun z => h15 (Int32.toInt_inj.mp ((vw_dO ef).trans (z.trans rfl)))
                        have ev : decide (vf_pA f) = false := decide_eq_false (fun z => by have y := (vf_pA_3 (by omega)).mp z; omega)
                        rw [ev] at hQ
                        exact hQ
                      · refine jv_Wp.lift (fun _ Kz => jv_Ev.steps jv_i96 2 (pc' := 191) (l' := [(6, .int (vr_b f.bit3)), (5, .int (0 : Int32)), (4, .int (Int32.ofInt f.i)), (3, .int (Int32.ofInt f.o)), (2, .int (vl_I f.n)), (0, .long w)]) (st' := [.int (1 : Int32)]) rfl Kz) ?_
                        refine jv_Wp.of (jv_Ev.ret jv_i96 rfl (jv_ret_b (Or.inr rfl))) ?_
                        have x1 : ¬ f.kind = 7 := fun z => h1 ((vl_I_inj (a := f.kind) (b := 7) (Nat.lt_trans bk (by decide)) (by decide)).mpr z)
                        have x2 : ¬ 9 < f.d := fun z => h2 ((vl_I_lt (a := 9) (b := f.d) (by decide) bd).mpr z)
                        have x3 : f.n ≤ 13 := (vl_I_le (a := f.n) (b := 13) bn (by decide)).mp h3
                        have x4 : ¬ f.n = 13 := fun z => h4 ((vl_I_inj (a := f.n) (b := 13) (Nat.lt_trans bn (by decide)) (by decide)).mpr z)
                        have b5 := vf_b3f (vr_b_f h5)
                        have x6 : f.s = 0 := (vl_I_inj (a := f.s) (b := 0) (Nat.lt_trans bs (by decide)) (by decide)).mp h6
                        have x7 : ¬ f.n = 8 := fun z => h7 ((vl_I_inj (a := f.n) (b := 8) (Nat.lt_trans bn (by decide)) (by decide)).mpr z)
                        have x8 : ¬ f.n = 3 := fun z => h8 ((vl_I_inj (a := f.n) (b := 3) (Nat.lt_trans bn (by decide)) (by decide)).mpr z)
                        have x9 : f.n = 9 := (vl_I_inj (a := f.n) (b := 9) (Nat.lt_trans bn (by decide)) (by decide)).mp (Classical.not_not.mp h11)
                        have y10 : ¬ f.o = 0 := fun z => h14 (Int32.toInt_inj.mp ((vw_dO ef).trans (z.trans rfl)))
                        have y11 : f.o = 1 := (vw_dO ef).symm.trans (congrArg Int32.toInt (Classical.not_not.mp h15))
                        have ev : decide (vf_pA f) = true := decide_eq_true ((vf_pA_3 (by omega)).mpr (by omega))
                        rw [ev] at hQ
                        exact hQ
              · refine jv_Wp.lift (fun _ Kz => jv_Ev.steps jv_i96 1 (pc' := 148) (l' := [(6, .int (vr_b f.bit3)), (5, .int (0 : Int32)), (4, .int (Int32.ofInt f.i)), (3, .int (Int32.ofInt f.o)), (2, .int (vl_I f.n)), (0, .long w)]) (st' := [.int (vr_b f.bit3)]) rfl Kz) ?_
                refine jv_Wp.cnd jv_i96 (pt := 164) (pe := 151) (p := (¬ (vr_b f.bit3) = 0)) (q := (¬ (vr_b f.bit3) = 0)) rfl jv_bi_ne rfl rfl Iff.rfl (fun hz => absurd hz (fun z => z h5)) (fun _ => ?_)
                refine jv_Wp.lift (fun _ Kz => jv_Ev.steps jv_i96 1 (pc' := 153) (l' := [(6, .int (vr_b f.bit3)), (5, .int (0 : Int32)), (4, .int (Int32.ofInt f.i)), (3, .int (Int32.ofInt f.o)), (2, .int (vl_I f.n)), (0, .long w)]) (st' := [.int (Int32.ofInt f.i)]) rfl Kz) ?_
                refine jv_Wp.cnd jv_i96 (pt := 164) (pe := 156) (p := (¬ (Int32.ofInt f.i) = 0)) (q := (¬ (Int32.ofInt f.i) = 0)) rfl jv_bi_ne rfl rfl Iff.rfl (fun h16 => ?_) (fun h16 => ?_)
                · refine jv_Wp.lift (fun _ Kz => jv_Ev.steps jv_i96 1 (pc' := 165) (l' := [(6, .int (vr_b f.bit3)), (5, .int (0 : Int32)), (4, .int (Int32.ofInt f.i)), (3, .int (Int32.ofInt f.o)), (2, .int (vl_I f.n)), (0, .long w)]) (st' := [.int (0 : Int32)]) rfl Kz) ?_
                  refine jv_Wp.of (jv_Ev.ret jv_i96 rfl (jv_ret_b (Or.inl rfl))) ?_
                  have x1 : ¬ f.kind = 7 := fun z => h1 ((vl_I_inj (a := f.kind) (b := 7) (Nat.lt_trans bk (by decide)) (by decide)).mpr z)
                  have x2 : ¬ 9 < f.d := fun z => h2 ((vl_I_lt (a := 9) (b := f.d) (by decide) bd).mpr z)
                  have x3 : f.n ≤ 13 := (vl_I_le (a := f.n) (b := 13) bn (by decide)).mp h3
                  have x4 : ¬ f.n = 13 := fun z => h4 ((vl_I_inj (a := f.n) (b := 13) (Nat.lt_trans bn (by decide)) (by decide)).mpr z)
                  have b5 := vf_b3f (vr_b_f h5)
                  have x6 : f.s = 0 := (vl_I_inj (a := f.s) (b := 0) (Nat.lt_trans bs (by decide)) (by decide)).mp h6
                  have x7 : f.n = 8 := (vl_I_inj (a := f.n) (b := 8) (Nat.lt_trans bn (by decide)) (by decide)).mp (Classical.not_not.mp h7)
                  have y8 : ¬ f.i = 0 := fun z => h16 (Int32.toInt_inj.mp ((vw_dQ ef).trans (z.trans rfl)))
                  have ev : decide (vf_pA f) = false := decide_eq_false (fun z => by have y := (vf_pA_8 (by omega)).mp z; omega)
                  rw [ev] at hQ
                  exact hQ
                · refine jv_Wp.lift (fun _ Kz => jv_Ev.steps jv_i96 1 (pc' := 157) (l' := [(6, .int (vr_b f.bit3)), (5, .int (0 : Int32)), (4, .int (Int32.ofInt f.i)), (3, .int (Int32.ofInt f.o)), (2, .int (vl_I f.n)), (0, .long w)]) (st' := [.int (Int32.ofInt f.o)]) rfl Kz) ?_
                  refine jv_Wp.cnd jv_i96 (pt := 164) (pe := 160) (p := (¬ (Int32.ofInt f.o) = 0)) (q := (¬ (Int32.ofInt f.o) = 0)) rfl jv_bi_ne rfl rfl Iff.rfl (fun h17 => ?_) (fun h17 => ?_)
                  · refine jv_Wp.lift (fun _ Kz => jv_Ev.steps jv_i96 1 (pc' := 165) (l' := [(6, .int (vr_b f.bit3)), (5, .int (0 : Int32)), (4, .int (Int32.ofInt f.i)), (3, .int (Int32.ofInt f.o)), (2, .int (vl_I f.n)), (0, .long w)]) (st' := [.int (0 : Int32)]) rfl Kz) ?_
                    refine jv_Wp.of (jv_Ev.ret jv_i96 rfl (jv_ret_b (Or.inl rfl))) ?_
                    have x1 : ¬ f.kind = 7 := fun z => h1 ((vl_I_inj (a := f.kind) (b := 7) (Nat.lt_trans bk (by decide)) (by decide)).mpr z)
                    have x2 : ¬ 9 < f.d := fun z => h2 ((vl_I_lt (a := 9) (b := f.d) (by decide) bd).mpr z)
                    have x3 : f.n ≤ 13 := (vl_I_le (a := f.n) (b := 13) bn (by decide)).mp h3
                    have x4 : ¬ f.n = 13 := fun z => h4 ((vl_I_inj (a := f.n) (b := 13) (Nat.lt_trans bn (by decide)) (by decide)).mpr z)
                    have b5 := vf_b3f (vr_b_f h5)
                    have x6 : f.s = 0 := (vl_I_inj (a := f.s) (b := 0) (Nat.lt_trans bs (by decide)) (by decide)).mp h6
                    have x7 : f.n = 8 := (vl_I_inj (a := f.n) (b := 8) (Nat.lt_trans bn (by decide)) (by decide)).mp (Classical.not_not.mp h7)
                    have y8 : f.i = 0 := (vw_dQ ef).symm.trans (congrArg Int32.toInt (Classical.not_not.mp h16))
                    have y9 : ¬ f.o = 0 := fun z => h17 (Int32.toInt_inj.mp ((vw_dO ef).trans (z.trans rfl)))
                    have ev : decide (vf_pA f) = false := decide_eq_false (fun z => by have y := (vf_pA_8 (by omega)).mp z; omega)
                    rw [ev] at hQ
                    exact hQ
                  · refine jv_Wp.lift (fun _ Kz => jv_Ev.steps jv_i96 2 (pc' := 165) (l' := [(6, .int (vr_b f.bit3)), (5, .int (0 : Int32)), (4, .int (Int32.ofInt f.i)), (3, .int (Int32.ofInt f.o)), (2, .int (vl_I f.n)), (0, .long w)]) (st' := [.int (1 : Int32)]) rfl Kz) ?_
                    refine jv_Wp.of (jv_Ev.ret jv_i96 rfl (jv_ret_b (Or.inr rfl))) ?_
                    have x1 : ¬ f.kind = 7 := fun z => h1 ((vl_I_inj (a := f.kind) (b := 7) (Nat.lt_trans bk (by decide)) (by decide)).mpr z)
                    have x2 : ¬ 9 < f.d := fun z => h2 ((vl_I_lt (a := 9) (b := f.d) (by decide) bd).mpr z)
                    have x3 : f.n ≤ 13 := (vl_I_le (a := f.n) (b := 13) bn (by decide)).mp h3
                    have x4 : ¬ f.n = 13 := fun z => h4 ((vl_I_inj (a := f.n) (b := 13) (Nat.lt_trans bn (by decide)) (by decide)).mpr z)
                    have b5 := vf_b3f (vr_b_f h5)
                    have x6 : f.s = 0 := (vl_I_inj (a := f.s) (b := 0) (Nat.lt_trans bs (by decide)) (by decide)).mp h6
                    have x7 : f.n = 8 := (vl_I_inj (a := f.n) (b := 8) (Nat.lt_trans bn (by decide)) (by decide)).mp (Classical.not_not.mp h7)
                    have y8 : f.i = 0 := (vw_dQ ef).symm.trans (congrArg Int32.toInt (Classical.not_not.mp h16))
                    have y9 : f.o = 0 := (vw_dO ef).symm.trans (congrArg Int32.toInt (Classical.not_not.mp h17))
                    have ev : decide (vf_pA f) = true := decide_eq_true ((vf_pA_8 (by omega)).mpr (by omega))
                    rw [ev] at hQ
                    exact hQ
            · refine jv_Wp.lift (fun _ Kz => jv_Ev.steps jv_i96 1 (pc' := 139) (l' := [(6, .int (vr_b f.bit3)), (5, .int (0 : Int32)), (4, .int (Int32.ofInt f.i)), (3, .int (Int32.ofInt f.o)), (2, .int (vl_I f.n)), (0, .long w)]) (st' := [.int (0 : Int32)]) rfl Kz) ?_
              refine jv_Wp.of (jv_Ev.ret jv_i96 rfl (jv_ret_b (Or.inl rfl))) ?_
              have x1 : ¬ f.kind = 7 := fun z => h1 ((vl_I_inj (a := f.kind) (b := 7) (Nat.lt_trans bk (by decide)) (by decide)).mpr z)
              have x2 : ¬ 9 < f.d := fun z => h2 ((vl_I_lt (a := 9) (b := f.d) (by decide) bd).mpr z)
              have x3 : f.n ≤ 13 := (vl_I_le (a := f.n) (b := 13) bn (by decide)).mp h3
              have x4 : ¬ f.n = 13 := fun z => h4 ((vl_I_inj (a := f.n) (b := 13) (Nat.lt_trans bn (by decide)) (by decide)).mpr z)
              have b5 := vf_b3f (vr_b_f h5)
              have x6 : ¬ f.s = 0 := fun z => h6 ((vl_I_inj (a := f.s) (b := 0) (Nat.lt_trans bs (by decide)) (by decide)).mpr z)
              have ev : decide (vf_pA f) = false := decide_eq_false (fun z => by have y1 := vf_pA_le z; first | omega | (have y2 := vf_pA_S (by omega) z; omega))
              rw [ev] at hQ
              exact hQ
          · refine jv_Wp.lift (fun _ Kz => jv_Ev.steps jv_i96 1 (pc' := 116) (l' := [(6, .int (vr_b f.bit3)), (5, .int (0 : Int32)), (4, .int (Int32.ofInt f.i)), (3, .int (Int32.ofInt f.o)), (2, .int (vl_I f.n)), (0, .long w)]) (st' := [.int (Int32.ofInt f.i)]) rfl Kz) ?_
            refine jv_Wp.cnd jv_i96 (pt := 138) (pe := 119) (p := (¬ (Int32.ofInt f.i) = 0)) (q := (¬ (Int32.ofInt f.i) = 0)) rfl jv_bi_ne rfl rfl Iff.rfl (fun h18 => ?_) (fun h18 => ?_)
            · refine jv_Wp.lift (fun _ Kz => jv_Ev.steps jv_i96 1 (pc' := 139) (l' := [(6, .int (vr_b f.bit3)), (5, .int (0 : Int32)), (4, .int (Int32.ofInt f.i)), (3, .int (Int32.ofInt f.o)), (2, .int (vl_I f.n)), (0, .long w)]) (st' := [.int (0 : Int32)]) rfl Kz) ?_
              refine jv_Wp.of (jv_Ev.ret jv_i96 rfl (jv_ret_b (Or.inl rfl))) ?_
              have x1 : ¬ f.kind = 7 := fun z => h1 ((vl_I_inj (a := f.kind) (b := 7) (Nat.lt_trans bk (by decide)) (by decide)).mpr z)
              have x2 : ¬ 9 < f.d := fun z => h2 ((vl_I_lt (a := 9) (b := f.d) (by decide) bd).mpr z)
              have x3 : f.n ≤ 13 := (vl_I_le (a := f.n) (b := 13) bn (by decide)).mp h3
              have x4 : ¬ f.n = 13 := fun z => h4 ((vl_I_inj (a := f.n) (b := 13) (Nat.lt_trans bn (by decide)) (by decide)).mpr z)
              have b5 := vf_b3t (vr_b_t h5)
              have y6 : ¬ f.i = 0 := fun z => h18 (Int32.toInt_inj.mp ((vw_dQ ef).trans (z.trans rfl)))
              have ev : decide (vf_pA f) = false := decide_eq_false (fun z => by have y1 := vf_pA_le z; first | omega | (have y2 := vf_pA_S (by omega) z; omega))
              rw [ev] at hQ
              exact hQ
            · refine jv_Wp.lift (fun _ Kz => jv_Ev.steps jv_i96 1 (pc' := 120) (l' := [(6, .int (vr_b f.bit3)), (5, .int (0 : Int32)), (4, .int (Int32.ofInt f.i)), (3, .int (Int32.ofInt f.o)), (2, .int (vl_I f.n)), (0, .long w)]) (st' := [.long w]) rfl Kz) ?_
              refine jv_Wp.lift (fun _ Kz => jv_Ev.c jv_i96 (pc' := 123) (S' := [.int (vl_I f.s)]) jv_i87 [.long w] rfl rfl rfl rfl rfl rfl (vw_f87 ef) rfl rfl Kz) ?_
              refine jv_Wp.lift (fun _ Kz => jv_Ev.steps jv_i96 1 (pc' := 125) (l' := [(6, .int (vr_b f.bit3)), (5, .int (0 : Int32)), (4, .int (Int32.ofInt f.i)), (3, .int (Int32.ofInt f.o)), (2, .int (vl_I f.n)), (0, .long w)]) (st' := [.int (11 : Int32), .int (vl_I f.s)]) rfl Kz) ?_
              refine jv_Wp.cnd jv_i96 (pt := 140) (pe := 128) (p := ((vl_I f.s) < (11 : Int32))) (q := ((vl_I f.s) < (11 : Int32))) rfl jv_bc_lt rfl rfl Iff.rfl (fun h19 => ?_) (fun h19 => ?_)
              · refine jv_Wp.lift (fun _ Kz => jv_Ev.steps jv_i96 2 (pc' := 143) (l' := [(6, .int (vr_b f.bit3)), (5, .int (0 : Int32)), (4, .int (Int32.ofInt f.i)), (3, .int (Int32.ofInt f.o)), (2, .int (vl_I f.n)), (0, .long w)]) (st' := [.int (8 : Int32), .int (vl_I f.n)]) rfl Kz) ?_
                refine jv_Wp.cnd jv_i96 (pt := 166) (pe := 146) (p := (¬ (vl_I f.n) = (8 : Int32))) (q := (¬ (vl_I f.n) = (8 : Int32))) rfl jv_bc_ne rfl rfl Iff.rfl (fun h20 => ?_) (fun h20 => ?_)
                · refine jv_Wp.lift (fun _ Kz => jv_Ev.steps jv_i96 2 (pc' := 168) (l' := [(6, .int (vr_b f.bit3)), (5, .int (0 : Int32)), (4, .int (Int32.ofInt f.i)), (3, .int (Int32.ofInt f.o)), (2, .int (vl_I f.n)), (0, .long w)]) (st' := [.int (3 : Int32), .int (vl_I f.n)]) rfl Kz) ?_
                  refine jv_Wp.cnd jv_i96 (pt := 177) (pe := 171) (p := ((vl_I f.n) = (3 : Int32))) (q := ((vl_I f.n) = (3 : Int32))) rfl jv_bc_eq rfl rfl Iff.rfl (fun h21 => ?_) (fun h21 => ?_)
                  · refine jv_Wp.lift (fun _ Kz => jv_Ev.steps jv_i96 1 (pc' := 178) (l' := [(6, .int (vr_b f.bit3)), (5, .int (0 : Int32)), (4, .int (Int32.ofInt f.i)), (3, .int (Int32.ofInt f.o)), (2, .int (vl_I f.n)), (0, .long w)]) (st' := [.int (Int32.ofInt f.o)]) rfl Kz) ?_
                    refine jv_Wp.cnd jv_i96 (pt := 186) (pe := 181) (p := ((Int32.ofInt f.o) = 0)) (q := ((Int32.ofInt f.o) = 0)) rfl jv_bi_eq rfl rfl Iff.rfl (fun h22 => ?_) (fun h22 => ?_)
                    · refine jv_Wp.lift (fun _ Kz => jv_Ev.steps jv_i96 2 (pc' := 191) (l' := [(6, .int (vr_b f.bit3)), (5, .int (0 : Int32)), (4, .int (Int32.ofInt f.i)), (3, .int (Int32.ofInt f.o)), (2, .int (vl_I f.n)), (0, .long w)]) (st' := [.int (1 : Int32)]) rfl Kz) ?_
                      refine jv_Wp.of (jv_Ev.ret jv_i96 rfl (jv_ret_b (Or.inr rfl))) ?_
                      have x1 : ¬ f.kind = 7 := fun z => h1 ((vl_I_inj (a := f.kind) (b := 7) (Nat.lt_trans bk (by decide)) (by decide)).mpr z)
                      have x2 : ¬ 9 < f.d := fun z => h2 ((vl_I_lt (a := 9) (b := f.d) (by decide) bd).mpr z)
                      have x3 : f.n ≤ 13 := (vl_I_le (a := f.n) (b := 13) bn (by decide)).mp h3
                      have x4 : ¬ f.n = 13 := fun z => h4 ((vl_I_inj (a := f.n) (b := 13) (Nat.lt_trans bn (by decide)) (by decide)).mpr z)
                      have b5 := vf_b3t (vr_b_t h5)
                      have y6 : f.i = 0 := (vw_dQ ef).symm.trans (congrArg Int32.toInt (Classical.not_not.mp h18))
                      have x7 : f.s < 11 := (vl_I_lt (a := f.s) (b := 11) bs (by decide)).mp h19
                      have x8 : ¬ f.n = 8 := fun z => h20 ((vl_I_inj (a := f.n) (b := 8) (Nat.lt_trans bn (by decide)) (by decide)).mpr z)
                      have x9 : f.n = 3 := (vl_I_inj (a := f.n) (b := 3) (Nat.lt_trans bn (by decide)) (by decide)).mp h21
                      have y10 : f.o = 0 := (vw_dO ef).symm.trans (congrArg Int32.toInt h22)
                      have ev : decide (vf_pA f) = true := decide_eq_true ((vf_pA_3 (by omega)).mpr (by omega))
                      rw [ev] at hQ
                      exact hQ
                    · refine jv_Wp.lift (fun _ Kz => jv_Ev.steps jv_i96 2 (pc' := 183) (l' := [(6, .int (vr_b f.bit3)), (5, .int (0 : Int32)), (4, .int (Int32.ofInt f.i)), (3, .int (Int32.ofInt f.o)), (2, .int (vl_I f.n)), (0, .long w)]) (st' := [.int (1 : Int32), .int (Int32.ofInt f.o)]) rfl Kz) ?_
                      refine jv_Wp.cnd jv_i96 (pt := 190) (pe := 186) (p := (¬ (Int32.ofInt f.o) = (1 : Int32))) (q := (¬ (Int32.ofInt f.o) = (1 : Int32))) rfl jv_bc_ne rfl rfl Iff.rfl (fun h23 => ?_) (fun h23 => ?_)
                      · refine jv_Wp.lift (fun _ Kz => jv_Ev.steps jv_i96 1 (pc' := 191) (l' := [(6, .int (vr_b f.bit3)), (5, .int (0 : Int32)), (4, .int (Int32.ofInt f.i)), (3, .int (Int32.ofInt f.o)), (2, .int (vl_I f.n)), (0, .long w)]) (st' := [.int (0 : Int32)]) rfl Kz) ?_
                        refine jv_Wp.of (jv_Ev.ret jv_i96 rfl (jv_ret_b (Or.inl rfl))) ?_
                        have x1 : ¬ f.kind = 7 := fun z => h1 ((vl_I_inj (a := f.kind) (b := 7) (Nat.lt_trans bk (by decide)) (by decide)).mpr z)
                        have x2 : ¬ 9 < f.d := fun z => h2 ((vl_I_lt (a := 9) (b := f.d) (by decide) bd).mpr z)
                        have x3 : f.n ≤ 13 := (vl_I_le (a := f.n) (b := 13) bn (by decide)).mp h3
                        have x4 : ¬ f.n = 13 := fun z => h4 ((vl_I_inj (a := f.n) (b := 13) (Nat.lt_trans bn (by decide)) (by decide)).mpr z)
                        have b5 := vf_b3t (vr_b_t h5)
                        have y6 : f.i = 0 := (vw_dQ ef).symm.trans (congrArg Int32.toInt (Classical.not_not.mp h18))
                        have x7 : f.s < 11 := (vl_I_lt (a := f.s) (b := 11) bs (by decide)).mp h19
                        have x8 : ¬ f.n = 8 := fun z => h20 ((vl_I_inj (a := f.n) (b := 8) (Nat.lt_trans bn (by decide)) (by decide)).mpr z)
                        have x9 : f.n = 3 := (vl_I_inj (a := f.n) (b := 3) (Nat.lt_trans bn (by decide)) (by decide)).mp h21
                        have y10 : ¬ f.o = 0 := fun z => h22 (Int32.toInt_inj.mp ((vw_dO ef).trans (z.trans rfl)))
                        have y11 : ¬ f.o = 1 := fun z => h23 (Int32.toInt_inj.mp ((vw_dO ef).trans (z.trans rfl)))
                        have ev : decide (vf_pA f) = false := decide_eq_false (fun z => by have y := (vf_pA_3 (by omega)).mp z; omega)
                        rw [ev] at hQ
                        exact hQ
                      · refine jv_Wp.lift (fun _ Kz => jv_Ev.steps jv_i96 2 (pc' := 191) (l' := [(6, .int (vr_b f.bit3)), (5, .int (0 : Int32)), (4, .int (Int32.ofInt f.i)), (3, .int (Int32.ofInt f.o)), (2, .int (vl_I f.n)), (0, .long w)]) (st' := [.int (1 : Int32)]) rfl Kz) ?_
                        refine jv_Wp.of (jv_Ev.ret jv_i96 rfl (jv_ret_b (Or.inr rfl))) ?_
                        have x1 : ¬ f.kind = 7 := fun z => h1 ((vl_I_inj (a := f.kind) (b := 7) (Nat.lt_trans bk (by decide)) (by decide)).mpr z)
                        have x2 : ¬ 9 < f.d := fun z => h2 ((vl_I_lt (a := 9) (b := f.d) (by decide) bd).mpr z)
                        have x3 : f.n ≤ 13 := (vl_I_le (a := f.n) (b := 13) bn (by decide)).mp h3
                        have x4 : ¬ f.n = 13 := fun z => h4 ((vl_I_inj (a := f.n) (b := 13) (Nat.lt_trans bn (by decide)) (by decide)).mpr z)
                        have b5 := vf_b3t (vr_b_t h5)
                        have y6 : f.i = 0 := (vw_dQ ef).symm.trans (congrArg Int32.toInt (Classical.not_not.mp h18))
                        have x7 : f.s < 11 := (vl_I_lt (a := f.s) (b := 11) bs (by decide)).mp h19
                        have x8 : ¬ f.n = 8 := fun z => h20 ((vl_I_inj (a := f.n) (b := 8) (Nat.lt_trans bn (by decide)) (by decide)).mpr z)
                        have x9 : f.n = 3 := (vl_I_inj (a := f.n) (b := 3) (Nat.lt_trans bn (by decide)) (by decide)).mp h21
                        have y10 : ¬ f.o = 0 := fun z => h22 (Int32.toInt_inj.mp ((vw_dO ef).trans (z.trans rfl)))
                        have y11 : f.o = 1 := (vw_dO ef).symm.trans (congrArg Int32.toInt (Classical.not_not.mp h23))
                        have ev : decide (vf_pA f) = true := decide_eq_true ((vf_pA_3 (by omega)).mpr (by omega))
                        rw [ev] at hQ
                        exact hQ
                  · refine jv_Wp.lift (fun _ Kz => jv_Ev.steps jv_i96 2 (pc' := 174) (l' := [(6, .int (vr_b f.bit3)), (5, .int (0 : Int32)), (4, .int (Int32.ofInt f.i)), (3, .int (Int32.ofInt f.o)), (2, .int (vl_I f.n)), (0, .long w)]) (st' := [.int (9 : Int32), .int (vl_I f.n)]) rfl Kz) ?_
                    refine jv_Wp.cnd jv_i96 (pt := 192) (pe := 177) (p := (¬ (vl_I f.n) = (9 : Int32))) (q := (¬ (vl_I f.n) = (9 : Int32))) rfl jv_bc_ne rfl rfl Iff.rfl (fun h24 => ?_) (fun h24 => ?_)
                    · refine jv_Wp.lift (fun _ Kz => jv_Ev.steps jv_i96 1 (pc' := 193) (l' := [(6, .int (vr_b f.bit3)), (5, .int (0 : Int32)), (4, .int (Int32.ofInt f.i)), (3, .int (Int32.ofInt f.o)), (2, .int (vl_I f.n)), (0, .long w)]) (st' := [.int (Int32.ofInt f.o)]) rfl Kz) ?_
                      refine jv_Wp.cnd jv_i96 (pt := 230) (pe := 196) (p := ((Int32.ofInt f.o) = 0)) (q := ((Int32.ofInt f.o) = 0)) rfl jv_bi_eq rfl rfl Iff.rfl (fun h25 => ?_) (fun h25 => ?_)
                      · refine jv_Wp.lift (fun _ Kz => jv_Ev.steps jv_i96 2 (pc' := 235) (l' := [(6, .int (vr_b f.bit3)), (5, .int (0 : Int32)), (4, .int (Int32.ofInt f.i)), (3, .int (Int32.ofInt f.o)), (2, .int (vl_I f.n)), (0, .long w)]) (st' := [.int (1 : Int32)]) rfl Kz) ?_
                        refine jv_Wp.of (jv_Ev.ret jv_i96 rfl (jv_ret_b (Or.inr rfl))) ?_
                        have x1 : ¬ f.kind = 7 := fun z => h1 ((vl_I_inj (a := f.kind) (b := 7) (Nat.lt_trans bk (by decide)) (by decide)).mpr z)
                        have x2 : ¬ 9 < f.d := fun z => h2 ((vl_I_lt (a := 9) (b := f.d) (by decide) bd).mpr z)
                        have x3 : f.n ≤ 13 := (vl_I_le (a := f.n) (b := 13) bn (by decide)).mp h3
                        have x4 : ¬ f.n = 13 := fun z => h4 ((vl_I_inj (a := f.n) (b := 13) (Nat.lt_trans bn (by decide)) (by decide)).mpr z)
                        have b5 := vf_b3t (vr_b_t h5)
                        have y6 : f.i = 0 := (vw_dQ ef).symm.trans (congrArg Int32.toInt (Classical.not_not.mp h18))
                        have x7 : f.s < 11 := (vl_I_lt (a := f.s) (b := 11) bs (by decide)).mp h19
                        have x8 : ¬ f.n = 8 := fun z => h20 ((vl_I_inj (a := f.n) (b := 8) (Nat.lt_trans bn (by decide)) (by decide)).mpr z)
                        have x9 : ¬ f.n = 3 := fun z => h21 ((vl_I_inj (a := f.n) (b := 3) (Nat.lt_trans bn (by decide)) (by decide)).mpr z)
                        have x10 : ¬ f.n = 9 := fun z => h24 ((vl_I_inj (a := f.n) (b := 9) (Nat.lt_trans bn (by decide)) (by decide)).mpr z)
                        have y11 : f.o = 0 := (vw_dO ef).symm.trans (congrArg Int32.toInt h25)
                        have ev : decide (vf_pA f) = true := decide_eq_true ((vf_pA_0 (by omega)).mpr (by omega))
                        rw [ev] at hQ
                        exact hQ
                      · refine jv_Wp.lift (fun _ Kz => jv_Ev.steps jv_i96 2 (pc' := 199) (l' := [(6, .int (vr_b f.bit3)), (5, .int (0 : Int32)), (4, .int (Int32.ofInt f.i)), (3, .int (Int32.ofInt f.o)), (2, .int (vl_I f.n)), (0, .long w)]) (st' := [.int (11 : Int32), .int (vl_I f.n)]) rfl Kz) ?_
                        refine jv_Wp.cnd jv_i96 (pt := 234) (pe := 202) (p := (¬ (vl_I f.n) = (11 : Int32))) (q := (¬ (vl_I f.n) = (11 : Int32))) rfl jv_bc_ne rfl rfl Iff.rfl (fun h26 => ?_) (fun h26 => ?_)
                        · refine jv_Wp.lift (fun _ Kz => jv_Ev.steps jv_i96 1 (pc' := 235) (l' := [(6, .int (vr_b f.bit3)), (5, .int (0 : Int32)), (4, .int (Int32.ofInt f.i)), (3, .int (Int32.ofInt f.o)), (2, .int (vl_I f.n)), (0, .long w)]) (st' := [.int (0 : Int32)]) rfl Kz) ?_
                          refine jv_Wp.of (jv_Ev.ret jv_i96 rfl (jv_ret_b (Or.inl rfl))) ?_
                          have x1 : ¬ f.kind = 7 := fun z => h1 ((vl_I_inj (a := f.kind) (b := 7) (Nat.lt_trans bk (by decide)) (by decide)).mpr z)
                          have x2 : ¬ 9 < f.d := fun z => h2 ((vl_I_lt (a := 9) (b := f.d) (by decide) bd).mpr z)
                          have x3 : f.n ≤ 13 := (vl_I_le (a := f.n) (b := 13) bn (by decide)).mp h3
                          have x4 : ¬ f.n = 13 := fun z => h4 ((vl_I_inj (a := f.n) (b := 13) (Nat.lt_trans bn (by decide)) (by decide)).mpr z)
                          have b5 := vf_b3t (vr_b_t h5)
                          have y6 : f.i = 0 := (vw_dQ ef).symm.trans (congrArg Int32.toInt (Classical.not_not.mp h18))
                          have x7 : f.s < 11 := (vl_I_lt (a := f.s) (b := 11) bs (by decide)).mp h19
                          have x8 : ¬ f.n = 8 := fun z => h20 ((vl_I_inj (a := f.n) (b := 8) (Nat.lt_trans bn (by decide)) (by decide)).mpr z)
                          have x9 : ¬ f.n = 3 := fun z => h21 ((vl_I_inj (a := f.n) (b := 3) (Nat.lt_trans bn (by decide)) (by decide)).mpr z)
                          have x10 : ¬ f.n = 9 := fun z => h24 ((vl_I_inj (a := f.n) (b := 9) (Nat.lt_trans bn (by decide)) (by decide)).mpr z)
                          have y11 : ¬ f.o = 0 := fun z => h25 (Int32.toInt_inj.mp ((vw_dO ef).trans (z.trans rfl)))
                          have x12 : ¬ f.n = 11 := fun z => h26 ((vl_I_inj (a := f.n) (b := 11) (Nat.lt_trans bn (by decide)) (by decide)).mpr z)
                          have ev : decide (vf_pA f) = false := decide_eq_false (fun z => by have y := (vf_pA_n (by omega)).mp z; omega)
                          rw [ev] at hQ
                          exact hQ
                        · refine jv_Wp.lift (fun _ Kz => jv_Ev.steps jv_i96 1 (pc' := 204) (l' := [(6, .int (vr_b f.bit3)), (5, .int (0 : Int32)), (4, .int (Int32.ofInt f.i)), (3, .int (Int32.ofInt f.o)), (2, .int (vl_I f.n)), (0, .long w)]) (st' := [.int (vr_b f.bit3)]) rfl Kz) ?_
                          refine jv_Wp.cnd jv_i96 (pt := 234) (pe := 207) (p := ((vr_b f.bit3) = 0)) (q := ((vr_b f.bit3) = 0)) rfl jv_bi_eq rfl rfl Iff.rfl (fun hz => absurd hz h5) (fun _ => ?_)
                          refine jv_Wp.lift (fun _ Kz => jv_Ev.steps jv_i96 2 (pc' := 210) (l' := [(6, .int (vr_b f.bit3)), (5, .int (0 : Int32)), (4, .int (Int32.ofInt f.i)), (3, .int (Int32.ofInt f.o)), (2, .int (vl_I f.n)), (0, .long w)]) (st' := [.int (8 : Int32), .int (Int32.ofInt f.o)]) rfl Kz) ?_
                          refine jv_Wp.cnd jv_i96 (pt := 230) (pe := 213) (p := ((Int32.ofInt f.o) = (8 : Int32))) (q := ((Int32.ofInt f.o) = (8 : Int32))) rfl jv_bc_eq rfl rfl Iff.rfl (fun h27 => ?_) (fun h27 => ?_)
                          · refine jv_Wp.lift (fun _ Kz => jv_Ev.steps jv_i96 2 (pc' := 235) (l' := [(6, .int (vr_b f.bit3)), (5, .int (0 : Int32)), (4, .int (Int32.ofInt f.i)), (3, .int (Int32.ofInt f.o)), (2, .int (vl_I f.n)), (0, .long w)]) (st' := [.int (1 : Int32)]) rfl Kz) ?_
                            refine jv_Wp.of (jv_Ev.ret jv_i96 rfl (jv_ret_b (Or.inr rfl))) ?_
                            have x1 : ¬ f.kind = 7 := fun z => h1 ((vl_I_inj (a := f.kind) (b := 7) (Nat.lt_trans bk (by decide)) (by decide)).mpr z)
                            have x2 : ¬ 9 < f.d := fun z => h2 ((vl_I_lt (a := 9) (b := f.d) (by decide) bd).mpr z)
                            have x3 : f.n ≤ 13 := (vl_I_le (a := f.n) (b := 13) bn (by decide)).mp h3
                            have x4 : ¬ f.n = 13 := fun z => h4 ((vl_I_inj (a := f.n) (b := 13) (Nat.lt_trans bn (by decide)) (by decide)).mpr z)
                            have b5 := vf_b3t (vr_b_t h5)
                            have y6 : f.i = 0 := (vw_dQ ef).symm.trans (congrArg Int32.toInt (Classical.not_not.mp h18))
                            have x7 : f.s < 11 := (vl_I_lt (a := f.s) (b := 11) bs (by decide)).mp h19
                            have x8 : ¬ f.n = 8 := fun z => h20 ((vl_I_inj (a := f.n) (b := 8) (Nat.lt_trans bn (by decide)) (by decide)).mpr z)
                            have x9 : ¬ f.n = 3 := fun z => h21 ((vl_I_inj (a := f.n) (b := 3) (Nat.lt_trans bn (by decide)) (by decide)).mpr z)
                            have x10 : ¬ f.n = 9 := fun z => h24 ((vl_I_inj (a := f.n) (b := 9) (Nat.lt_trans bn (by decide)) (by decide)).mpr z)
                            have y11 : ¬ f.o = 0 := fun z => h25 (Int32.toInt_inj.mp ((vw_dO ef).trans (z.trans rfl)))
                            have x12 : f.n = 11 := (vl_I_inj (a := f.n) (b := 11) (Nat.lt_trans bn (by decide)) (by decide)).mp (Classical.not_not.mp h26)
                            have y13 : f.o = 8 := (vw_dO ef).symm.trans (congrArg Int32.toInt h27)
                            have ev : decide (vf_pA f) = true := decide_eq_true ((vf_pA_11 (by omega)).mpr (by omega))
                            rw [ev] at hQ
                            exact hQ
                          · refine jv_Wp.lift (fun _ Kz => jv_Ev.steps jv_i96 2 (pc' := 216) (l' := [(6, .int (vr_b f.bit3)), (5, .int (0 : Int32)), (4, .int (Int32.ofInt f.i)), (3, .int (Int32.ofInt f.o)), (2, .int (vl_I f.n)), (0, .long w)]) (st' := [.int (16 : Int32), .int (Int32.ofInt f.o)]) rfl Kz) ?_
                            refine jv_Wp.cnd jv_i96 (pt := 230) (pe := 219) (p := ((Int32.ofInt f.o) = (16 : Int32))) (q := ((Int32.ofInt f.o) = (16 : Int32))) rfl jv_bc_eq rfl rfl Iff.rfl (fun h28 => ?_) (fun h28 => ?_)
                            · refine jv_Wp.lift (fun _ Kz => jv_Ev.steps jv_i96 2 (pc' := 235) (l' := [(6, .int (vr_b f.bit3)), (5, .int (0 : Int32)), (4, .int (Int32.ofInt f.i)), (3, .int (Int32.ofInt f.o)), (2, .int (vl_I f.n)), (0, .long w)]) (st' := [.int (1 : Int32)]) rfl Kz) ?_
                              refine jv_Wp.of (jv_Ev.ret jv_i96 rfl (jv_ret_b (Or.inr rfl))) ?_
                              have x1 : ¬ f.kind = 7 := fun z => h1 ((vl_I_inj (a := f.kind) (b := 7) (Nat.lt_trans bk (by decide)) (by decide)).mpr z)
                              have x2 : ¬ 9 < f.d := fun z => h2 ((vl_I_lt (a := 9) (b := f.d) (by decide) bd).mpr z)
                              have x3 : f.n ≤ 13 := (vl_I_le (a := f.n) (b := 13) bn (by decide)).mp h3
                              have x4 : ¬ f.n = 13 := fun z => h4 ((vl_I_inj (a := f.n) (b := 13) (Nat.lt_trans bn (by decide)) (by decide)).mpr z)
                              have b5 := vf_b3t (vr_b_t h5)
                              have y6 : f.i = 0 := (vw_dQ ef).symm.trans (congrArg Int32.toInt (Classical.not_not.mp h18))
                              have x7 : f.s < 11 := (vl_I_lt (a := f.s) (b := 11) bs (by decide)).mp h19
                              have x8 : ¬ f.n = 8 := fun z => h20 ((vl_I_inj (a := f.n) (b := 8) (Nat.lt_trans bn (by decide)) (by decide)).mpr z)
                              have x9 : ¬ f.n = 3 := fun z => h21 ((vl_I_inj (a := f.n) (b := 3) (Nat.lt_trans bn (by decide)) (by decide)).mpr z)
                              have x10 : ¬ f.n = 9 := fun z => h24 ((vl_I_inj (a := f.n) (b := 9) (Nat.lt_trans bn (by decide)) (by decide)).mpr z)
                              have y11 : ¬ f.o = 0 := fun z => h25 (Int32.toInt_inj.mp ((vw_dO ef).trans (z.trans rfl)))
                              have x12 : f.n = 11 := (vl_I_inj (a := f.n) (b := 11) (Nat.lt_trans bn (by decide)) (by decide)).mp (Classical.not_not.mp h26)
                              have y13 : ¬ f.o = 8 := fun z => h27 (Int32.toInt_inj.mp ((vw_dO ef).trans (z.trans rfl)))
                              have y14 : f.o = 16 := (vw_dO ef).symm.trans (congrArg Int32.toInt h28)
                              have ev : decide (vf_pA f) = true := decide_eq_true ((vf_pA_11 (by omega)).mpr (by omega))
                              rw [ev] at hQ
                              exact hQ
                            · refine jv_Wp.lift (fun _ Kz => jv_Ev.steps jv_i96 2 (pc' := 222) (l' := [(6, .int (vr_b f.bit3)), (5, .int (0 : Int32)), (4, .int (Int32.ofInt f.i)), (3, .int (Int32.ofInt f.o)), (2, .int (vl_I f.n)), (0, .long w)]) (st' := [.int (32 : Int32), .int (Int32.ofInt f.o)]) rfl Kz) ?_
                              refine jv_Wp.cnd jv_i96 (pt := 234) (pe := 225) (p := (¬ (Int32.ofInt f.o) = (32 : Int32))) (q := (¬ (Int32.ofInt f.o) = (32 : Int32))) rfl jv_bc_ne rfl rfl Iff.rfl (fun h29 => ?_) (fun h29 => ?_)
                              · refine jv_Wp.lift (fun _ Kz => jv_Ev.steps jv_i96 1 (pc' := 235) (l' := [(6, .int (vr_b f.bit3)), (5, .int (0 : Int32)), (4, .int (Int32.ofInt f.i)), (3, .int (Int32.ofInt f.o)), (2, .int (vl_I f.n)), (0, .long w)]) (st' := [.int (0 : Int32)]) rfl Kz) ?_
                                refine jv_Wp.of (jv_Ev.ret jv_i96 rfl (jv_ret_b (Or.inl rfl))) ?_
                                have x1 : ¬ f.kind = 7 := fun z => h1 ((vl_I_inj (a := f.kind) (b := 7) (Nat.lt_trans bk (by decide)) (by decide)).mpr z)
                                have x2 : ¬ 9 < f.d := fun z => h2 ((vl_I_lt (a := 9) (b := f.d) (by decide) bd).mpr z)
                                have x3 : f.n ≤ 13 := (vl_I_le (a := f.n) (b := 13) bn (by decide)).mp h3
                                have x4 : ¬ f.n = 13 := fun z => h4 ((vl_I_inj (a := f.n) (b := 13) (Nat.lt_trans bn (by decide)) (by decide)).mpr z)
                                have b5 := vf_b3t (vr_b_t h5)
                                have y6 : f.i = 0 := (vw_dQ ef).symm.trans (congrArg Int32.toInt (Classical.not_not.mp h18))
                                have x7 : f.s < 11 := (vl_I_lt (a := f.s) (b := 11) bs (by decide)).mp h19
                                have x8 : ¬ f.n = 8 := fun z => h20 ((vl_I_inj (a := f.n) (b := 8) (Nat.lt_trans bn (by decide)) (by decide)).mpr z)
                                have x9 : ¬ f.n = 3 := fun z => h21 ((vl_I_inj (a := f.n) (b := 3) (Nat.lt_trans bn (by decide)) (by decide)).mpr z)
                                have x10 : ¬ f.n = 9 := fun z => h24 ((vl_I_inj (a := f.n) (b := 9) (Nat.lt_trans bn (by decide)) (by decide)).mpr z)
                                have y11 : ¬ f.o = 0 := fun z => h25 (Int32.toInt_inj.mp ((vw_dO ef).trans (z.trans rfl)))
                                have x12 : f.n = 11 := (vl_I_inj (a := f.n) (b := 11) (Nat.lt_trans bn (by decide)) (by decide)).mp (Classical.not_not.mp h26)
                                have y13 : ¬ f.o = 8 := fun z => h27 (Int32.toInt_inj.mp ((vw_dO ef).trans (z.trans rfl)))
                                have y14 : ¬ f.o = 16 := fun z => h28 (Int32.toInt_inj.mp ((vw_dO ef).trans (z.trans rfl)))
                                have y15 : ¬ f.o = 32 := fun z => h29 (Int32.toInt_inj.mp ((vw_dO ef).trans (z.trans rfl)))
                                have ev : decide (vf_pA f) = false := decide_eq_false (fun z => by have y := (vf_pA_11 (by omega)).mp z; omega)
                                rw [ev] at hQ
                                exact hQ
                              · refine jv_Wp.lift (fun _ Kz => jv_Ev.steps jv_i96 1 (pc' := 227) (l' := [(6, .int (vr_b f.bit3)), (5, .int (0 : Int32)), (4, .int (Int32.ofInt f.i)), (3, .int (Int32.ofInt f.o)), (2, .int (vl_I f.n)), (0, .long w)]) (st' := [.int (0 : Int32)]) rfl Kz) ?_
                                refine jv_Wp.lift (fun _ Kz => jv_Ev.br jv_i96 (pc' := 234) (st' := []) rfl (by rfl) Kz) ?_
                                refine jv_Wp.lift (fun _ Kz => jv_Ev.steps jv_i96 1 (pc' := 235) (l' := [(6, .int (vr_b f.bit3)), (5, .int (0 : Int32)), (4, .int (Int32.ofInt f.i)), (3, .int (Int32.ofInt f.o)), (2, .int (vl_I f.n)), (0, .long w)]) (st' := [.int (0 : Int32)]) rfl Kz) ?_
                                refine jv_Wp.of (jv_Ev.ret jv_i96 rfl (jv_ret_b (Or.inl rfl))) ?_
                                have x1 : ¬ f.kind = 7 := fun z => h1 ((vl_I_inj (a := f.kind) (b := 7) (Nat.lt_trans bk (by decide)) (by decide)).mpr z)
                                have x2 : ¬ 9 < f.d := fun z => h2 ((vl_I_lt (a := 9) (b := f.d) (by decide) bd).mpr z)
                                have x3 : f.n ≤ 13 := (vl_I_le (a := f.n) (b := 13) bn (by decide)).mp h3
                                have x4 : ¬ f.n = 13 := fun z => h4 ((vl_I_inj (a := f.n) (b := 13) (Nat.lt_trans bn (by decide)) (by decide)).mpr z)
                                have b5 := vf_b3t (vr_b_t h5)
                                have y6 : f.i = 0 := (vw_dQ ef).symm.trans (congrArg Int32.toInt (Classical.not_not.mp h18))
                                have x7 : f.s < 11 := (vl_I_lt (a := f.s) (b := 11) bs (by decide)).mp h19
                                have x8 : ¬ f.n = 8 := fun z => h20 ((vl_I_inj (a := f.n) (b := 8) (Nat.lt_trans bn (by decide)) (by decide)).mpr z)
                                have x9 : ¬ f.n = 3 := fun z => h21 ((vl_I_inj (a := f.n) (b := 3) (Nat.lt_trans bn (by decide)) (by decide)).mpr z)
                                have x10 : ¬ f.n = 9 := fun z => h24 ((vl_I_inj (a := f.n) (b := 9) (Nat.lt_trans bn (by decide)) (by decide)).mpr z)
                                have y11 : ¬ f.o = 0 := fun z => h25 (Int32.toInt_inj.mp ((vw_dO ef).trans (z.trans rfl)))
                                have x12 : f.n = 11 := (vl_I_inj (a := f.n) (b := 11) (Nat.lt_trans bn (by decide)) (by decide)).mp (Classical.not_not.mp h26)
                                have y13 : ¬ f.o = 8 := fun z => h27 (Int32.toInt_inj.mp ((vw_dO ef).trans (z.trans rfl)))
                                have y14 : ¬ f.o = 16 := fun z => h28 (Int32.toInt_inj.mp ((vw_dO ef).trans (z.trans rfl)))
                                have y15 : f.o = 32 := (vw_dO ef).symm.trans (congrArg Int32.toInt (Classical.not_not.mp h29))
                                have ev : decide (vf_pA f) = false := decide_eq_false (fun z => by have y := (vf_pA_11 (by omega)).mp z; omega)
                                rw [ev] at hQ
                                exact hQ
                    · refine jv_Wp.lift (fun _ Kz => jv_Ev.steps jv_i96 1 (pc' := 178) (l' := [(6, .int (vr_b f.bit3)), (5, .int (0 : Int32)), (4, .int (Int32.ofInt f.i)), (3, .int (Int32.ofInt f.o)), (2, .int (vl_I f.n)), (0, .long w)]) (st' := [.int (Int32.ofInt f.o)]) rfl Kz) ?_
                      refine jv_Wp.cnd jv_i96 (pt := 186) (pe := 181) (p := ((Int32.ofInt f.o) = 0)) (q := ((Int32.ofInt f.o) = 0)) rfl jv_bi_eq rfl rfl Iff.rfl (fun h30 => ?_) (fun h30 => ?_)
                      · refine jv_Wp.lift (fun _ Kz => jv_Ev.steps jv_i96 2 (pc' := 191) (l' := [(6, .int (vr_b f.bit3)), (5, .int (0 : Int32)), (4, .int (Int32.ofInt f.i)), (3, .int (Int32.ofInt f.o)), (2, .int (vl_I f.n)), (0, .long w)]) (st' := [.int (1 : Int32)]) rfl Kz) ?_
                        refine jv_Wp.of (jv_Ev.ret jv_i96 rfl (jv_ret_b (Or.inr rfl))) ?_
                        have x1 : ¬ f.kind = 7 := fun z => h1 ((vl_I_inj (a := f.kind) (b := 7) (Nat.lt_trans bk (by decide)) (by decide)).mpr z)
                        have x2 : ¬ 9 < f.d := fun z => h2 ((vl_I_lt (a := 9) (b := f.d) (by decide) bd).mpr z)
                        have x3 : f.n ≤ 13 := (vl_I_le (a := f.n) (b := 13) bn (by decide)).mp h3
                        have x4 : ¬ f.n = 13 := fun z => h4 ((vl_I_inj (a := f.n) (b := 13) (Nat.lt_trans bn (by decide)) (by decide)).mpr z)
                        have b5 := vf_b3t (vr_b_t h5)
                        have y6 : f.i = 0 := (vw_dQ ef).symm.trans (congrArg Int32.toInt (Classical.not_not.mp h18))
                        have x7 : f.s < 11 := (vl_I_lt (a := f.s) (b := 11) bs (by decide)).mp h19
                        have x8 : ¬ f.n = 8 := fun z => h20 ((vl_I_inj (a := f.n) (b := 8) (Nat.lt_trans bn (by decide)) (by decide)).mpr z)
                        have x9 : ¬ f.n = 3 := fun z => h21 ((vl_I_inj (a := f.n) (b := 3) (Nat.lt_trans bn (by decide)) (by decide)).mpr z)
                        have x10 : f.n = 9 := (vl_I_inj (a := f.n) (b := 9) (Nat.lt_trans bn (by decide)) (by decide)).mp (Classical.not_not.mp h24)
                        have y11 : f.o = 0 := (vw_dO ef).symm.trans (congrArg Int32.toInt h30)
                        have ev : decide (vf_pA f) = true := decide_eq_true ((vf_pA_3 (by omega)).mpr (by omega))
                        rw [ev] at hQ
                        exact hQ
                      · refine jv_Wp.lift (fun _ Kz => jv_Ev.steps jv_i96 2 (pc' := 183) (l' := [(6, .int (vr_b f.bit3)), (5, .int (0 : Int32)), (4, .int (Int32.ofInt f.i)), (3, .int (Int32.ofInt f.o)), (2, .int (vl_I f.n)), (0, .long w)]) (st' := [.int (1 : Int32), .int (Int32.ofInt f.o)]) rfl Kz) ?_
                        refine jv_Wp.cnd jv_i96 (pt := 190) (pe := 186) (p := (¬ (Int32.ofInt f.o) = (1 : Int32))) (q := (¬ (Int32.ofInt f.o) = (1 : Int32))) rfl jv_bc_ne rfl rfl Iff.rfl (fun h31 => ?_) (fun h31 => ?_)
                        · refine jv_Wp.lift (fun _ Kz => jv_Ev.steps jv_i96 1 (pc' := 191) (l' := [(6, .int (vr_b f.bit3)), (5, .int (0 : Int32)), (4, .int (Int32.ofInt f.i)), (3, .int (Int32.ofInt f.o)), (2, .int (vl_I f.n)), (0, .long w)]) (st' := [.int (0 : Int32)]) rfl Kz) ?_
                          refine jv_Wp.of (jv_Ev.ret jv_i96 rfl (jv_ret_b (Or.inl rfl))) ?_
                          have x1 : ¬ f.kind = 7 := fun z => h1 ((vl_I_inj (a := f.kind) (b := 7) (Nat.lt_trans bk (by decide)) (by decide)).mpr z)
                          have x2 : ¬ 9 < f.d := fun z => h2 ((vl_I_lt (a := 9) (b := f.d) (by decide) bd).mpr z)
                          have x3 : f.n ≤ 13 := (vl_I_le (a := f.n) (b := 13) bn (by decide)).mp h3
                          have x4 : ¬ f.n = 13 := fun z => h4 ((vl_I_inj (a := f.n) (b := 13) (Nat.lt_trans bn (by decide)) (by decide)).mpr z)
                          have b5 := vf_b3t (vr_b_t h5)
                          have y6 : f.i = 0 := (vw_dQ ef).symm.trans (congrArg Int32.toInt (Classical.not_not.mp h18))
                          have x7 : f.s < 11 := (vl_I_lt (a := f.s) (b := 11) bs (by decide)).mp h19
                          have x8 : ¬ f.n = 8 := fun z => h20 ((vl_I_inj (a := f.n) (b := 8) (Nat.lt_trans bn (by decide)) (by decide)).mpr z)
                          have x9 : ¬ f.n = 3 := fun z => h21 ((vl_I_inj (a := f.n) (b := 3) (Nat.lt_trans bn (by decide)) (by decide)).mpr z)
                          have x10 : f.n = 9 := (vl_I_inj (a := f.n) (b := 9) (Nat.lt_trans bn (by decide)) (by decide)).mp (Classical.not_not.mp h24)
                          have y11 : ¬ f.o = 0 := fun z => h30 (Int32.toInt_inj.mp ((vw_dO ef).trans (z.trans rfl)))
                          have y12 : ¬ f.o = 1 := fun z => h31 (Int32.toInt_inj.mp ((vw_dO ef).trans (z.trans rfl)))
                          have ev : decide (vf_pA f) = false := decide_eq_false (fun z => by have y := (vf_pA_3 (by omega)).mp z; omega)
                          rw [ev] at hQ
                          exact hQ
                        · refine jv_Wp.lift (fun _ Kz => jv_Ev.steps jv_i96 2 (pc' := 191) (l' := [(6, .int (vr_b f.bit3)), (5, .int (0 : Int32)), (4, .int (Int32.ofInt f.i)), (3, .int (Int32.ofInt f.o)), (2, .int (vl_I f.n)), (0, .long w)]) (st' := [.int (1 : Int32)]) rfl Kz) ?_
                          refine jv_Wp.of (jv_Ev.ret jv_i96 rfl (jv_ret_b (Or.inr rfl))) ?_
                          have x1 : ¬ f.kind = 7 := fun z => h1 ((vl_I_inj (a := f.kind) (b := 7) (Nat.lt_trans bk (by decide)) (by decide)).mpr z)
                          have x2 : ¬ 9 < f.d := fun z => h2 ((vl_I_lt (a := 9) (b := f.d) (by decide) bd).mpr z)
                          have x3 : f.n ≤ 13 := (vl_I_le (a := f.n) (b := 13) bn (by decide)).mp h3
                          have x4 : ¬ f.n = 13 := fun z => h4 ((vl_I_inj (a := f.n) (b := 13) (Nat.lt_trans bn (by decide)) (by decide)).mpr z)
                          have b5 := vf_b3t (vr_b_t h5)
                          have y6 : f.i = 0 := (vw_dQ ef).symm.trans (congrArg Int32.toInt (Classical.not_not.mp h18))
                          have x7 : f.s < 11 := (vl_I_lt (a := f.s) (b := 11) bs (by decide)).mp h19
                          have x8 : ¬ f.n = 8 := fun z => h20 ((vl_I_inj (a := f.n) (b := 8) (Nat.lt_trans bn (by decide)) (by decide)).mpr z)
                          have x9 : ¬ f.n = 3 := fun z => h21 ((vl_I_inj (a := f.n) (b := 3) (Nat.lt_trans bn (by decide)) (by decide)).mpr z)
                          have x10 : f.n = 9 := (vl_I_inj (a := f.n) (b := 9) (Nat.lt_trans bn (by decide)) (by decide)).mp (Classical.not_not.mp h24)
                          have y11 : ¬ f.o = 0 := fun z => h30 (Int32.toInt_inj.mp ((vw_dO ef).trans (z.trans rfl)))
                          have y12 : f.o = 1 := (vw_dO ef).symm.trans (congrArg Int32.toInt (Classical.not_not.mp h31))
                          have ev : decide (vf_pA f) = true := decide_eq_true ((vf_pA_3 (by omega)).mpr (by omega))
                          rw [ev] at hQ
                          exact hQ
                · refine jv_Wp.lift (fun _ Kz => jv_Ev.steps jv_i96 1 (pc' := 148) (l' := [(6, .int (vr_b f.bit3)), (5, .int (0 : Int32)), (4, .int (Int32.ofInt f.i)), (3, .int (Int32.ofInt f.o)), (2, .int (vl_I f.n)), (0, .long w)]) (st' := [.int (vr_b f.bit3)]) rfl Kz) ?_
                  refine jv_Wp.cnd jv_i96 (pt := 164) (pe := 151) (p := (¬ (vr_b f.bit3) = 0)) (q := (¬ (vr_b f.bit3) = 0)) rfl jv_bi_ne rfl rfl Iff.rfl (fun _ => ?_) (fun hz => absurd h5 hz)
                  refine jv_Wp.lift (fun _ Kz => jv_Ev.steps jv_i96 1 (pc' := 165) (l' := [(6, .int (vr_b f.bit3)), (5, .int (0 : Int32)), (4, .int (Int32.ofInt f.i)), (3, .int (Int32.ofInt f.o)), (2, .int (vl_I f.n)), (0, .long w)]) (st' := [.int (0 : Int32)]) rfl Kz) ?_
                  refine jv_Wp.of (jv_Ev.ret jv_i96 rfl (jv_ret_b (Or.inl rfl))) ?_
                  have x1 : ¬ f.kind = 7 := fun z => h1 ((vl_I_inj (a := f.kind) (b := 7) (Nat.lt_trans bk (by decide)) (by decide)).mpr z)
                  have x2 : ¬ 9 < f.d := fun z => h2 ((vl_I_lt (a := 9) (b := f.d) (by decide) bd).mpr z)
                  have x3 : f.n ≤ 13 := (vl_I_le (a := f.n) (b := 13) bn (by decide)).mp h3
                  have x4 : ¬ f.n = 13 := fun z => h4 ((vl_I_inj (a := f.n) (b := 13) (Nat.lt_trans bn (by decide)) (by decide)).mpr z)
                  have b5 := vf_b3t (vr_b_t h5)
                  have y6 : f.i = 0 := (vw_dQ ef).symm.trans (congrArg Int32.toInt (Classical.not_not.mp h18))
                  have x7 : f.s < 11 := (vl_I_lt (a := f.s) (b := 11) bs (by decide)).mp h19
                  have x8 : f.n = 8 := (vl_I_inj (a := f.n) (b := 8) (Nat.lt_trans bn (by decide)) (by decide)).mp (Classical.not_not.mp h20)
                  have ev : decide (vf_pA f) = false := decide_eq_false (fun z => by have y := (vf_pA_8 (by omega)).mp z; omega)
                  rw [ev] at hQ
                  exact hQ
              · refine jv_Wp.lift (fun _ Kz => jv_Ev.steps jv_i96 2 (pc' := 139) (l' := [(6, .int (vr_b f.bit3)), (5, .int (0 : Int32)), (4, .int (Int32.ofInt f.i)), (3, .int (Int32.ofInt f.o)), (2, .int (vl_I f.n)), (0, .long w)]) (st' := [.int (0 : Int32)]) rfl Kz) ?_
                refine jv_Wp.of (jv_Ev.ret jv_i96 rfl (jv_ret_b (Or.inl rfl))) ?_
                have x1 : ¬ f.kind = 7 := fun z => h1 ((vl_I_inj (a := f.kind) (b := 7) (Nat.lt_trans bk (by decide)) (by decide)).mpr z)
                have x2 : ¬ 9 < f.d := fun z => h2 ((vl_I_lt (a := 9) (b := f.d) (by decide) bd).mpr z)
                have x3 : f.n ≤ 13 := (vl_I_le (a := f.n) (b := 13) bn (by decide)).mp h3
                have x4 : ¬ f.n = 13 := fun z => h4 ((vl_I_inj (a := f.n) (b := 13) (Nat.lt_trans bn (by decide)) (by decide)).mpr z)
                have b5 := vf_b3t (vr_b_t h5)
                have y6 : f.i = 0 := (vw_dQ ef).symm.trans (congrArg Int32.toInt (Classical.not_not.mp h18))
                have x7 : ¬ f.s < 11 := fun z => h19 ((vl_I_lt (a := f.s) (b := 11) bs (by decide)).mpr z)
                have ev : decide (vf_pA f) = false := decide_eq_false (fun z => by have y1 := vf_pA_le z; first | omega | (have y2 := vf_pA_S (by omega) z; omega))
                rw [ev] at hQ
                exact hQ
        · refine jv_Wp.lift (fun _ Kz => jv_Ev.steps jv_i96 1 (pc' := 62) (l' := [(6, .int (vr_b f.bit3)), (5, .int (0 : Int32)), (4, .int (Int32.ofInt f.i)), (3, .int (Int32.ofInt f.o)), (2, .int (vl_I f.n)), (0, .long w)]) (st' := [.long w]) rfl Kz) ?_
          refine jv_Wp.lift (fun _ Kz => jv_Ev.c jv_i96 (pc' := 65) (S' := [.int (vl_I f.s)]) jv_i87 [.long w] rfl rfl rfl rfl rfl rfl (vw_f87 ef) rfl rfl Kz) ?_
          refine jv_Wp.cnd jv_i96 (pt := 107) (pe := 68) (p := (¬ (vl_I f.s) = 0)) (q := (¬ (vl_I f.s) = 0)) rfl jv_bi_ne rfl rfl Iff.rfl (fun h32 => ?_) (fun h32 => ?_)
          · refine jv_Wp.lift (fun _ Kz => jv_Ev.steps jv_i96 1 (pc' := 108) (l' := [(6, .int (vr_b f.bit3)), (5, .int (0 : Int32)), (4, .int (Int32.ofInt f.i)), (3, .int (Int32.ofInt f.o)), (2, .int (vl_I f.n)), (0, .long w)]) (st' := [.int (0 : Int32)]) rfl Kz) ?_
            refine jv_Wp.of (jv_Ev.ret jv_i96 rfl (jv_ret_b (Or.inl rfl))) ?_
            have x1 : ¬ f.kind = 7 := fun z => h1 ((vl_I_inj (a := f.kind) (b := 7) (Nat.lt_trans bk (by decide)) (by decide)).mpr z)
            have x2 : ¬ 9 < f.d := fun z => h2 ((vl_I_lt (a := 9) (b := f.d) (by decide) bd).mpr z)
            have x3 : f.n ≤ 13 := (vl_I_le (a := f.n) (b := 13) bn (by decide)).mp h3
            have x4 : f.n = 13 := (vl_I_inj (a := f.n) (b := 13) (Nat.lt_trans bn (by decide)) (by decide)).mp (Classical.not_not.mp h4)
            have x5 : ¬ f.s = 0 := fun z => h32 ((vl_I_inj (a := f.s) (b := 0) (Nat.lt_trans bs (by decide)) (by decide)).mpr z)
            have ev : decide (vf_pA f) = false := decide_eq_false (fun z => by have y := (vf_pA_13 (by omega)).mp z; omega)
            rw [ev] at hQ
            exact hQ
          · refine jv_Wp.lift (fun _ Kz => jv_Ev.steps jv_i96 1 (pc' := 69) (l' := [(6, .int (vr_b f.bit3)), (5, .int (0 : Int32)), (4, .int (Int32.ofInt f.i)), (3, .int (Int32.ofInt f.o)), (2, .int (vl_I f.n)), (0, .long w)]) (st' := [.int (Int32.ofInt f.o)]) rfl Kz) ?_
            refine jv_Wp.cnd jv_i96 (pt := 107) (pe := 72) (p := (¬ (Int32.ofInt f.o) = 0)) (q := (¬ (Int32.ofInt f.o) = 0)) rfl jv_bi_ne rfl rfl Iff.rfl (fun h33 => ?_) (fun h33 => ?_)
            · refine jv_Wp.lift (fun _ Kz => jv_Ev.steps jv_i96 1 (pc' := 108) (l' := [(6, .int (vr_b f.bit3)), (5, .int (0 : Int32)), (4, .int (Int32.ofInt f.i)), (3, .int (Int32.ofInt f.o)), (2, .int (vl_I f.n)), (0, .long w)]) (st' := [.int (0 : Int32)]) rfl Kz) ?_
              refine jv_Wp.of (jv_Ev.ret jv_i96 rfl (jv_ret_b (Or.inl rfl))) ?_
              have x1 : ¬ f.kind = 7 := fun z => h1 ((vl_I_inj (a := f.kind) (b := 7) (Nat.lt_trans bk (by decide)) (by decide)).mpr z)
              have x2 : ¬ 9 < f.d := fun z => h2 ((vl_I_lt (a := 9) (b := f.d) (by decide) bd).mpr z)
              have x3 : f.n ≤ 13 := (vl_I_le (a := f.n) (b := 13) bn (by decide)).mp h3
              have x4 : f.n = 13 := (vl_I_inj (a := f.n) (b := 13) (Nat.lt_trans bn (by decide)) (by decide)).mp (Classical.not_not.mp h4)
              have x5 : f.s = 0 := (vl_I_inj (a := f.s) (b := 0) (Nat.lt_trans bs (by decide)) (by decide)).mp (Classical.not_not.mp h32)
              have y6 : ¬ f.o = 0 := fun z => h33 (Int32.toInt_inj.mp ((vw_dO ef).trans (z.trans rfl)))
              have ev : decide (vf_pA f) = false := decide_eq_false (fun z => by have y := (vf_pA_13 (by omega)).mp z; omega)
              rw [ev] at hQ
              exact hQ
            · refine jv_Wp.lift (fun _ Kz => jv_Ev.steps jv_i96 2 (pc' := 76) (l' := [(6, .int (vr_b f.bit3)), (5, .int (0 : Int32)), (4, .int (Int32.ofInt f.i)), (3, .int (Int32.ofInt f.o)), (2, .int (vl_I f.n)), (0, .long w)]) (st' := [.int (16 : Int32), .int (Int32.ofInt f.i)]) rfl Kz) ?_
              refine jv_Wp.cnd jv_i96 (pt := 93) (pe := 79) (p := ((Int32.ofInt f.i) = (16 : Int32))) (q := ((Int32.ofInt f.i) = (16 : Int32))) rfl jv_bc_eq rfl rfl Iff.rfl (fun h34 => ?_) (fun h34 => ?_)
              · refine jv_Wp.lift (fun _ Kz => jv_Ev.steps jv_i96 1 (pc' := 95) (l' := [(6, .int (vr_b f.bit3)), (5, .int (0 : Int32)), (4, .int (Int32.ofInt f.i)), (3, .int (Int32.ofInt f.o)), (2, .int (vl_I f.n)), (0, .long w)]) (st' := [.int (0 : Int32)]) rfl Kz) ?_
                refine jv_Wp.lift (fun _ Kz => jv_Ev.br jv_i96 (pc' := 103) (st' := []) rfl (by rfl) Kz) ?_
                refine jv_Wp.lift (fun _ Kz => jv_Ev.steps jv_i96 2 (pc' := 108) (l' := [(6, .int (vr_b f.bit3)), (5, .int (0 : Int32)), (4, .int (Int32.ofInt f.i)), (3, .int (Int32.ofInt f.o)), (2, .int (vl_I f.n)), (0, .long w)]) (st' := [.int (1 : Int32)]) rfl Kz) ?_
                refine jv_Wp.of (jv_Ev.ret jv_i96 rfl (jv_ret_b (Or.inr rfl))) ?_
                have x1 : ¬ f.kind = 7 := fun z => h1 ((vl_I_inj (a := f.kind) (b := 7) (Nat.lt_trans bk (by decide)) (by decide)).mpr z)
                have x2 : ¬ 9 < f.d := fun z => h2 ((vl_I_lt (a := 9) (b := f.d) (by decide) bd).mpr z)
                have x3 : f.n ≤ 13 := (vl_I_le (a := f.n) (b := 13) bn (by decide)).mp h3
                have x4 : f.n = 13 := (vl_I_inj (a := f.n) (b := 13) (Nat.lt_trans bn (by decide)) (by decide)).mp (Classical.not_not.mp h4)
                have x5 : f.s = 0 := (vl_I_inj (a := f.s) (b := 0) (Nat.lt_trans bs (by decide)) (by decide)).mp (Classical.not_not.mp h32)
                have y6 : f.o = 0 := (vw_dO ef).symm.trans (congrArg Int32.toInt (Classical.not_not.mp h33))
                have y7 : f.i = 16 := (vw_dQ ef).symm.trans (congrArg Int32.toInt h34)
                have ev : decide (vf_pA f) = true := decide_eq_true ((vf_pA_13 (by omega)).mpr (by omega))
                rw [ev] at hQ
                exact hQ
              · refine jv_Wp.lift (fun _ Kz => jv_Ev.steps jv_i96 2 (pc' := 83) (l' := [(6, .int (vr_b f.bit3)), (5, .int (0 : Int32)), (4, .int (Int32.ofInt f.i)), (3, .int (Int32.ofInt f.o)), (2, .int (vl_I f.n)), (0, .long w)]) (st' := [.int (32 : Int32), .int (Int32.ofInt f.i)]) rfl Kz) ?_
                refine jv_Wp.cnd jv_i96 (pt := 93) (pe := 86) (p := ((Int32.ofInt f.i) = (32 : Int32))) (q := ((Int32.ofInt f.i) = (32 : Int32))) rfl jv_bc_eq rfl rfl Iff.rfl (fun h35 => ?_) (fun h35 => ?_)
                · refine jv_Wp.lift (fun _ Kz => jv_Ev.steps jv_i96 1 (pc' := 95) (l' := [(6, .int (vr_b f.bit3)), (5, .int (0 : Int32)), (4, .int (Int32.ofInt f.i)), (3, .int (Int32.ofInt f.o)), (2, .int (vl_I f.n)), (0, .long w)]) (st' := [.int (0 : Int32)]) rfl Kz) ?_
                  refine jv_Wp.lift (fun _ Kz => jv_Ev.br jv_i96 (pc' := 103) (st' := []) rfl (by rfl) Kz) ?_
                  refine jv_Wp.lift (fun _ Kz => jv_Ev.steps jv_i96 2 (pc' := 108) (l' := [(6, .int (vr_b f.bit3)), (5, .int (0 : Int32)), (4, .int (Int32.ofInt f.i)), (3, .int (Int32.ofInt f.o)), (2, .int (vl_I f.n)), (0, .long w)]) (st' := [.int (1 : Int32)]) rfl Kz) ?_
                  refine jv_Wp.of (jv_Ev.ret jv_i96 rfl (jv_ret_b (Or.inr rfl))) ?_
                  have x1 : ¬ f.kind = 7 := fun z => h1 ((vl_I_inj (a := f.kind) (b := 7) (Nat.lt_trans bk (by decide)) (by decide)).mpr z)
                  have x2 : ¬ 9 < f.d := fun z => h2 ((vl_I_lt (a := 9) (b := f.d) (by decide) bd).mpr z)
                  have x3 : f.n ≤ 13 := (vl_I_le (a := f.n) (b := 13) bn (by decide)).mp h3
                  have x4 : f.n = 13 := (vl_I_inj (a := f.n) (b := 13) (Nat.lt_trans bn (by decide)) (by decide)).mp (Classical.not_not.mp h4)
                  have x5 : f.s = 0 := (vl_I_inj (a := f.s) (b := 0) (Nat.lt_trans bs (by decide)) (by decide)).mp (Classical.not_not.mp h32)
                  have y6 : f.o = 0 := (vw_dO ef).symm.trans (congrArg Int32.toInt (Classical.not_not.mp h33))
                  have y7 : ¬ f.i = 16 := fun z => h34 (Int32.toInt_inj.mp ((vw_dQ ef).trans (z.trans rfl)))
                  have y8 : f.i = 32 := (vw_dQ ef).symm.trans (congrArg Int32.toInt h35)
                  have ev : decide (vf_pA f) = true := decide_eq_true ((vf_pA_13 (by omega)).mpr (by omega))
                  rw [ev] at hQ
                  exact hQ
                · refine jv_Wp.lift (fun _ Kz => jv_Ev.steps jv_i96 2 (pc' := 90) (l' := [(6, .int (vr_b f.bit3)), (5, .int (0 : Int32)), (4, .int (Int32.ofInt f.i)), (3, .int (Int32.ofInt f.o)), (2, .int (vl_I f.n)), (0, .long w)]) (st' := [.int (64 : Int32), .int (Int32.ofInt f.i)]) rfl Kz) ?_
                  refine jv_Wp.cnd jv_i96 (pt := 107) (pe := 93) (p := (¬ (Int32.ofInt f.i) = (64 : Int32))) (q := (¬ (Int32.ofInt f.i) = (64 : Int32))) rfl jv_bc_ne rfl rfl Iff.rfl (fun h36 => ?_) (fun h36 => ?_)
                  · refine jv_Wp.lift (fun _ Kz => jv_Ev.steps jv_i96 1 (pc' := 108) (l' := [(6, .int (vr_b f.bit3)), (5, .int (0 : Int32)), (4, .int (Int32.ofInt f.i)), (3, .int (Int32.ofInt f.o)), (2, .int (vl_I f.n)), (0, .long w)]) (st' := [.int (0 : Int32)]) rfl Kz) ?_
                    refine jv_Wp.of (jv_Ev.ret jv_i96 rfl (jv_ret_b (Or.inl rfl))) ?_
                    have x1 : ¬ f.kind = 7 := fun z => h1 ((vl_I_inj (a := f.kind) (b := 7) (Nat.lt_trans bk (by decide)) (by decide)).mpr z)
                    have x2 : ¬ 9 < f.d := fun z => h2 ((vl_I_lt (a := 9) (b := f.d) (by decide) bd).mpr z)
                    have x3 : f.n ≤ 13 := (vl_I_le (a := f.n) (b := 13) bn (by decide)).mp h3
                    have x4 : f.n = 13 := (vl_I_inj (a := f.n) (b := 13) (Nat.lt_trans bn (by decide)) (by decide)).mp (Classical.not_not.mp h4)
                    have x5 : f.s = 0 := (vl_I_inj (a := f.s) (b := 0) (Nat.lt_trans bs (by decide)) (by decide)).mp (Classical.not_not.mp h32)
                    have y6 : f.o = 0 := (vw_dO ef).symm.trans (congrArg Int32.toInt (Classical.not_not.mp h33))
                    have y7 : ¬ f.i = 16 := fun z => h34 (Int32.toInt_inj.mp ((vw_dQ ef).trans (z.trans rfl)))
                    have y8 : ¬ f.i = 32 := fun z => h35 (Int32.toInt_inj.mp ((vw_dQ ef).trans (z.trans rfl)))
                    have y9 : ¬ f.i = 64 := fun z => h36 (Int32.toInt_inj.mp ((vw_dQ ef).trans (z.trans rfl)))
                    have ev : decide (vf_pA f) = false := decide_eq_false (fun z => by have y := (vf_pA_13 (by omega)).mp z; omega)
                    rw [ev] at hQ
                    exact hQ
                  · refine jv_Wp.lift (fun _ Kz => jv_Ev.steps jv_i96 1 (pc' := 95) (l' := [(6, .int (vr_b f.bit3)), (5, .int (0 : Int32)), (4, .int (Int32.ofInt f.i)), (3, .int (Int32.ofInt f.o)), (2, .int (vl_I f.n)), (0, .long w)]) (st' := [.int (0 : Int32)]) rfl Kz) ?_
                    refine jv_Wp.lift (fun _ Kz => jv_Ev.br jv_i96 (pc' := 103) (st' := []) rfl (by rfl) Kz) ?_
                    refine jv_Wp.lift (fun _ Kz => jv_Ev.steps jv_i96 2 (pc' := 108) (l' := [(6, .int (vr_b f.bit3)), (5, .int (0 : Int32)), (4, .int (Int32.ofInt f.i)), (3, .int (Int32.ofInt f.o)), (2, .int (vl_I f.n)), (0, .long w)]) (st' := [.int (1 : Int32)]) rfl Kz) ?_
                    refine jv_Wp.of (jv_Ev.ret jv_i96 rfl (jv_ret_b (Or.inr rfl))) ?_
                    have x1 : ¬ f.kind = 7 := fun z => h1 ((vl_I_inj (a := f.kind) (b := 7) (Nat.lt_trans bk (by decide)) (by decide)).mpr z)
                    have x2 : ¬ 9 < f.d := fun z => h2 ((vl_I_lt (a := 9) (b := f.d) (by decide) bd).mpr z)
                    have x3 : f.n ≤ 13 := (vl_I_le (a := f.n) (b := 13) bn (by decide)).mp h3
                    have x4 : f.n = 13 := (vl_I_inj (a := f.n) (b := 13) (Nat.lt_trans bn (by decide)) (by decide)).mp (Classical.not_not.mp h4)
                    have x5 : f.s = 0 := (vl_I_inj (a := f.s) (b := 0) (Nat.lt_trans bs (by decide)) (by decide)).mp (Classical.not_not.mp h32)
                    have y6 : f.o = 0 := (vw_dO ef).symm.trans (congrArg Int32.toInt (Classical.not_not.mp h33))
                    have y7 : ¬ f.i = 16 := fun z => h34 (Int32.toInt_inj.mp ((vw_dQ ef).trans (z.trans rfl)))
                    have y8 : ¬ f.i = 32 := fun z => h35 (Int32.toInt_inj.mp ((vw_dQ ef).trans (z.trans rfl)))
                    have y9 : f.i = 64 := (vw_dQ ef).symm.trans (congrArg Int32.toInt (Classical.not_not.mp h36))
                    have ev : decide (vf_pA f) = true := decide_eq_true ((vf_pA_13 (by omega)).mpr (by omega))
                    rw [ev] at hQ
                    exact hQ
      · refine jv_Wp.lift (fun _ Kz => jv_Ev.steps jv_i96 1 (pc' := 54) (l' := [(6, .int (vr_b f.bit3)), (5, .int (0 : Int32)), (4, .int (Int32.ofInt f.i)), (3, .int (Int32.ofInt f.o)), (2, .int (vl_I f.n)), (0, .long w)]) (st' := [.int (0 : Int32)]) rfl Kz) ?_
        refine jv_Wp.of (jv_Ev.ret jv_i96 rfl (jv_ret_b (Or.inl rfl))) ?_
        have x1 : ¬ f.kind = 7 := fun z => h1 ((vl_I_inj (a := f.kind) (b := 7) (Nat.lt_trans bk (by decide)) (by decide)).mpr z)
        have x2 : ¬ 9 < f.d := fun z => h2 ((vl_I_lt (a := 9) (b := f.d) (by decide) bd).mpr z)
        have x3 : ¬ f.n ≤ 13 := fun z => h3 ((vl_I_le (a := f.n) (b := 13) bn (by decide)).mpr z)
        have ev : decide (vf_pA f) = false := decide_eq_false (fun z => by have y1 := vf_pA_le z; first | omega | (have y2 := vf_pA_S (by omega) z; omega))
        rw [ev] at hQ
        exact hQ
  · refine jv_Wp.lift (fun _ Kz => jv_Ev.steps jv_i96 4 (pc' := 33) (l' := [(5, .int (1 : Int32)), (4, .int (Int32.ofInt f.i)), (3, .int (Int32.ofInt f.o)), (2, .int (vl_I f.n)), (0, .long w)]) (st' := [.long w]) rfl Kz) ?_
    refine jv_Wp.lift (fun _ Kz => jv_Ev.c jv_i96 (pc' := 36) (S' := [.int (vr_b f.bit3)]) jv_i83 [.long w] rfl rfl rfl rfl rfl rfl (vw_f83 ef) rfl rfl Kz) ?_
    refine jv_Wp.lift (fun _ Kz => jv_Ev.steps jv_i96 2 (pc' := 39) (l' := [(6, .int (vr_b f.bit3)), (5, .int (1 : Int32)), (4, .int (Int32.ofInt f.i)), (3, .int (Int32.ofInt f.o)), (2, .int (vl_I f.n)), (0, .long w)]) (st' := [.long w]) rfl Kz) ?_
    refine jv_Wp.lift (fun _ Kz => jv_Ev.c jv_i96 (pc' := 42) (S' := [.int (vl_I f.d)]) jv_i86 [.long w] rfl rfl rfl rfl rfl rfl (vw_f86 ef) rfl rfl Kz) ?_
    refine jv_Wp.lift (fun _ Kz => jv_Ev.steps jv_i96 1 (pc' := 44) (l' := [(6, .int (vr_b f.bit3)), (5, .int (1 : Int32)), (4, .int (Int32.ofInt f.i)), (3, .int (Int32.ofInt f.o)), (2, .int (vl_I f.n)), (0, .long w)]) (st' := [.int (9 : Int32), .int (vl_I f.d)]) rfl Kz) ?_
    refine jv_Wp.cnd jv_i96 (pt := 53) (pe := 47) (p := ((9 : Int32) < (vl_I f.d))) (q := ((9 : Int32) < (vl_I f.d))) rfl jv_bc_gt rfl rfl Iff.rfl (fun h37 => ?_) (fun h37 => ?_)
    · refine jv_Wp.lift (fun _ Kz => jv_Ev.steps jv_i96 1 (pc' := 54) (l' := [(6, .int (vr_b f.bit3)), (5, .int (1 : Int32)), (4, .int (Int32.ofInt f.i)), (3, .int (Int32.ofInt f.o)), (2, .int (vl_I f.n)), (0, .long w)]) (st' := [.int (0 : Int32)]) rfl Kz) ?_
      refine jv_Wp.of (jv_Ev.ret jv_i96 rfl (jv_ret_b (Or.inl rfl))) ?_
      have x1 : f.kind = 7 := (vl_I_inj (a := f.kind) (b := 7) (Nat.lt_trans bk (by decide)) (by decide)).mp (Classical.not_not.mp h1)
      have x2 : 9 < f.d := (vl_I_lt (a := 9) (b := f.d) (by decide) bd).mp h37
      have ev : decide (vf_pA f) = false := decide_eq_false (fun z => by have y1 := vf_pA_le z; first | omega | (have y2 := vf_pA_S (by omega) z; omega))
      rw [ev] at hQ
      exact hQ
    · refine jv_Wp.lift (fun _ Kz => jv_Ev.steps jv_i96 2 (pc' := 50) (l' := [(6, .int (vr_b f.bit3)), (5, .int (1 : Int32)), (4, .int (Int32.ofInt f.i)), (3, .int (Int32.ofInt f.o)), (2, .int (vl_I f.n)), (0, .long w)]) (st' := [.int (13 : Int32), .int (vl_I f.n)]) rfl Kz) ?_
      refine jv_Wp.cnd jv_i96 (pt := 55) (pe := 53) (p := ((vl_I f.n) ≤ (13 : Int32))) (q := ((vl_I f.n) ≤ (13 : Int32))) rfl jv_bc_le rfl rfl Iff.rfl (fun h38 => ?_) (fun h38 => ?_)
      · refine jv_Wp.lift (fun _ Kz => jv_Ev.steps jv_i96 2 (pc' := 58) (l' := [(6, .int (vr_b f.bit3)), (5, .int (1 : Int32)), (4, .int (Int32.ofInt f.i)), (3, .int (Int32.ofInt f.o)), (2, .int (vl_I f.n)), (0, .long w)]) (st' := [.int (13 : Int32), .int (vl_I f.n)]) rfl Kz) ?_
        refine jv_Wp.cnd jv_i96 (pt := 109) (pe := 61) (p := (¬ (vl_I f.n) = (13 : Int32))) (q := (¬ (vl_I f.n) = (13 : Int32))) rfl jv_bc_ne rfl rfl Iff.rfl (fun h39 => ?_) (fun h39 => ?_)
        · refine jv_Wp.lift (fun _ Kz => jv_Ev.steps jv_i96 1 (pc' := 111) (l' := [(6, .int (vr_b f.bit3)), (5, .int (1 : Int32)), (4, .int (Int32.ofInt f.i)), (3, .int (Int32.ofInt f.o)), (2, .int (vl_I f.n)), (0, .long w)]) (st' := [.int (vr_b f.bit3)]) rfl Kz) ?_
          refine jv_Wp.cnd jv_i96 (pt := 131) (pe := 114) (p := ((vr_b f.bit3) = 0)) (q := ((vr_b f.bit3) = 0)) rfl jv_bi_eq rfl rfl Iff.rfl (fun h40 => ?_) (fun h40 => ?_)
          · refine jv_Wp.lift (fun _ Kz => jv_Ev.steps jv_i96 1 (pc' := 132) (l' := [(6, .int (vr_b f.bit3)), (5, .int (1 : Int32)), (4, .int (Int32.ofInt f.i)), (3, .int (Int32.ofInt f.o)), (2, .int (vl_I f.n)), (0, .long w)]) (st' := [.long w]) rfl Kz) ?_
            refine jv_Wp.lift (fun _ Kz => jv_Ev.c jv_i96 (pc' := 135) (S' := [.int (vl_I f.s)]) jv_i87 [.long w] rfl rfl rfl rfl rfl rfl (vw_f87 ef) rfl rfl Kz) ?_
            refine jv_Wp.cnd jv_i96 (pt := 140) (pe := 138) (p := ((vl_I f.s) = 0)) (q := ((vl_I f.s) = 0)) rfl jv_bi_eq rfl rfl Iff.rfl (fun h41 => ?_) (fun h41 => ?_)
            · refine jv_Wp.lift (fun _ Kz => jv_Ev.steps jv_i96 2 (pc' := 143) (l' := [(6, .int (vr_b f.bit3)), (5, .int (1 : Int32)), (4, .int (Int32.ofInt f.i)), (3, .int (Int32.ofInt f.o)), (2, .int (vl_I f.n)), (0, .long w)]) (st' := [.int (8 : Int32), .int (vl_I f.n)]) rfl Kz) ?_
              refine jv_Wp.cnd jv_i96 (pt := 166) (pe := 146) (p := (¬ (vl_I f.n) = (8 : Int32))) (q := (¬ (vl_I f.n) = (8 : Int32))) rfl jv_bc_ne rfl rfl Iff.rfl (fun h42 => ?_) (fun h42 => ?_)
              · refine jv_Wp.lift (fun _ Kz => jv_Ev.steps jv_i96 2 (pc' := 168) (l' := [(6, .int (vr_b f.bit3)), (5, .int (1 : Int32)), (4, .int (Int32.ofInt f.i)), (3, .int (Int32.ofInt f.o)), (2, .int (vl_I f.n)), (0, .long w)]) (st' := [.int (3 : Int32), .int (vl_I f.n)]) rfl Kz) ?_
                refine jv_Wp.cnd jv_i96 (pt := 177) (pe := 171) (p := ((vl_I f.n) = (3 : Int32))) (q := ((vl_I f.n) = (3 : Int32))) rfl jv_bc_eq rfl rfl Iff.rfl (fun h43 => ?_) (fun h43 => ?_)
                · refine jv_Wp.lift (fun _ Kz => jv_Ev.steps jv_i96 1 (pc' := 178) (l' := [(6, .int (vr_b f.bit3)), (5, .int (1 : Int32)), (4, .int (Int32.ofInt f.i)), (3, .int (Int32.ofInt f.o)), (2, .int (vl_I f.n)), (0, .long w)]) (st' := [.int (Int32.ofInt f.o)]) rfl Kz) ?_
                  refine jv_Wp.cnd jv_i96 (pt := 186) (pe := 181) (p := ((Int32.ofInt f.o) = 0)) (q := ((Int32.ofInt f.o) = 0)) rfl jv_bi_eq rfl rfl Iff.rfl (fun h44 => ?_) (fun h44 => ?_)
                  · refine jv_Wp.lift (fun _ Kz => jv_Ev.steps jv_i96 2 (pc' := 191) (l' := [(6, .int (vr_b f.bit3)), (5, .int (1 : Int32)), (4, .int (Int32.ofInt f.i)), (3, .int (Int32.ofInt f.o)), (2, .int (vl_I f.n)), (0, .long w)]) (st' := [.int (1 : Int32)]) rfl Kz) ?_
                    refine jv_Wp.of (jv_Ev.ret jv_i96 rfl (jv_ret_b (Or.inr rfl))) ?_
                    have x1 : f.kind = 7 := (vl_I_inj (a := f.kind) (b := 7) (Nat.lt_trans bk (by decide)) (by decide)).mp (Classical.not_not.mp h1)
                    have x2 : ¬ 9 < f.d := fun z => h37 ((vl_I_lt (a := 9) (b := f.d) (by decide) bd).mpr z)
                    have x3 : f.n ≤ 13 := (vl_I_le (a := f.n) (b := 13) bn (by decide)).mp h38
                    have x4 : ¬ f.n = 13 := fun z => h39 ((vl_I_inj (a := f.n) (b := 13) (Nat.lt_trans bn (by decide)) (by decide)).mpr z)
                    have b5 := vf_b3f (vr_b_f h40)
                    have x6 : f.s = 0 := (vl_I_inj (a := f.s) (b := 0) (Nat.lt_trans bs (by decide)) (by decide)).mp h41
                    have x7 : ¬ f.n = 8 := fun z => h42 ((vl_I_inj (a := f.n) (b := 8) (Nat.lt_trans bn (by decide)) (by decide)).mpr z)
                    have x8 : f.n = 3 := (vl_I_inj (a := f.n) (b := 3) (Nat.lt_trans bn (by decide)) (by decide)).mp h43
                    have y9 : f.o = 0 := (vw_dO ef).symm.trans (congrArg Int32.toInt h44)
                    have ev : decide (vf_pA f) = true := decide_eq_true ((vf_pA_3 (by omega)).mpr (by omega))
                    rw [ev] at hQ
                    exact hQ
                  · refine jv_Wp.lift (fun _ Kz => jv_Ev.steps jv_i96 2 (pc' := 183) (l' := [(6, .int (vr_b f.bit3)), (5, .int (1 : Int32)), (4, .int (Int32.ofInt f.i)), (3, .int (Int32.ofInt f.o)), (2, .int (vl_I f.n)), (0, .long w)]) (st' := [.int (1 : Int32), .int (Int32.ofInt f.o)]) rfl Kz) ?_
                    refine jv_Wp.cnd jv_i96 (pt := 190) (pe := 186) (p := (¬ (Int32.ofInt f.o) = (1 : Int32))) (q := (¬ (Int32.ofInt f.o) = (1 : Int32))) rfl jv_bc_ne rfl rfl Iff.rfl (fun h45 => ?_) (fun h45 => ?_)
                    · refine jv_Wp.lift (fun _ Kz => jv_Ev.steps jv_i96 1 (pc' := 191) (l' := [(6, .int (vr_b f.bit3)), (5, .int (1 : Int32)), (4, .int (Int32.ofInt f.i)), (3, .int (Int32.ofInt f.o)), (2, .int (vl_I f.n)), (0, .long w)]) (st' := [.int (0 : Int32)]) rfl Kz) ?_
                      refine jv_Wp.of (jv_Ev.ret jv_i96 rfl (jv_ret_b (Or.inl rfl))) ?_
                      have x1 : f.kind = 7 := (vl_I_inj (a := f.kind) (b := 7) (Nat.lt_trans bk (by decide)) (by decide)).mp (Classical.not_not.mp h1)
                      have x2 : ¬ 9 < f.d := fun z => h37 ((vl_I_lt (a := 9) (b := f.d) (by decide) bd).mpr z)
                      have x3 : f.n ≤ 13 := (vl_I_le (a := f.n) (b := 13) bn (by decide)).mp h38
                      have x4 : ¬ f.n = 13 := fun z => h39 ((vl_I_inj (a := f.n) (b := 13) (Nat.lt_trans bn (by decide)) (by decide)).mpr z)
                      have b5 := vf_b3f (vr_b_f h40)
                      have x6 : f.s = 0 := (vl_I_inj (a := f.s) (b := 0) (Nat.lt_trans bs (by decide)) (by decide)).mp h41
                      have x7 : ¬ f.n = 8 := fun z => h42 ((vl_I_inj (a := f.n) (b := 8) (Nat.lt_trans bn (by decide)) (by decide)).mpr z)
                      have x8 : f.n = 3 := (vl_I_inj (a := f.n) (b := 3) (Nat.lt_trans bn (by decide)) (by decide)).mp h43
                      have y9 : ¬ f.o = 0 := fun z => h44 (Int32.toInt_inj.mp ((vw_dO ef).trans (z.trans rfl)))
                      have y10 : ¬ f.o = 1 := fun z => h45 (Int32.toInt_inj.mp ((vw_dO ef).trans (z.trans rfl)))
                      have ev : decide (vf_pA f) = false := decide_eq_false (fun z => by have y := (vf_pA_3 (by omega)).mp z; omega)
                      rw [ev] at hQ
                      exact hQ
                    · refine jv_Wp.lift (fun _ Kz => jv_Ev.steps jv_i96 2 (pc' := 191) (l' := [(6, .int (vr_b f.bit3)), (5, .int (1 : Int32)), (4, .int (Int32.ofInt f.i)), (3, .int (Int32.ofInt f.o)), (2, .int (vl_I f.n)), (0, .long w)]) (st' := [.int (1 : Int32)]) rfl Kz) ?_
                      refine jv_Wp.of (jv_Ev.ret jv_i96 rfl (jv_ret_b (Or.inr rfl))) ?_
                      have x1 : f.kind = 7 := (vl_I_inj (a := f.kind) (b := 7) (Nat.lt_trans bk (by decide)) (by decide)).mp (Classical.not_not.mp h1)
                      have x2 : ¬ 9 < f.d := fun z => h37 ((vl_I_lt (a := 9) (b := f.d) (by decide) bd).mpr z)
                      have x3 : f.n ≤ 13 := (vl_I_le (a := f.n) (b := 13) bn (by decide)).mp h38
                      have x4 : ¬ f.n = 13 := fun z => h39 ((vl_I_inj (a := f.n) (b := 13) (Nat.lt_trans bn (by decide)) (by decide)).mpr z)
                      have b5 := vf_b3f (vr_b_f h40)
                      have x6 : f.s = 0 := (vl_I_inj (a := f.s) (b := 0) (Nat.lt_trans bs (by decide)) (by decide)).mp h41
                      have x7 : ¬ f.n = 8 := fun z => h42 ((vl_I_inj (a := f.n) (b := 8) (Nat.lt_trans bn (by decide)) (by decide)).mpr z)
                      have x8 : f.n = 3 := (vl_I_inj (a := f.n) (b := 3) (Nat.lt_trans bn (by decide)) (by decide)).mp h43
                      have y9 : ¬ f.o = 0 := fun z => h44 (Int32.toInt_inj.mp ((vw_dO ef).trans (z.trans rfl)))
                      have y10 : f.o = 1 := (vw_dO ef).symm.trans (congrArg Int32.toInt (Classical.not_not.mp h45))
                      have ev : decide (vf_pA f) = true := decide_eq_true ((vf_pA_3 (by omega)).mpr (by omega))
                      rw [ev] at hQ
                      exact hQ
                · refine jv_Wp.lift (fun _ Kz => jv_Ev.steps jv_i96 2 (pc' := 174) (l' := [(6, .int (vr_b f.bit3)), (5, .int (1 : Int32)), (4, .int (Int32.ofInt f.i)), (3, .int (Int32.ofInt f.o)), (2, .int (vl_I f.n)), (0, .long w)]) (st' := [.int (9 : Int32), .int (vl_I f.n)]) rfl Kz) ?_
                  refine jv_Wp.cnd jv_i96 (pt := 192) (pe := 177) (p := (¬ (vl_I f.n) = (9 : Int32))) (q := (¬ (vl_I f.n) = (9 : Int32))) rfl jv_bc_ne rfl rfl Iff.rfl (fun h46 => ?_) (fun h46 => ?_)
                  · refine jv_Wp.lift (fun _ Kz => jv_Ev.steps jv_i96 1 (pc' := 193) (l' := [(6, .int (vr_b f.bit3)), (5, .int (1 : Int32)), (4, .int (Int32.ofInt f.i)), (3, .int (Int32.ofInt f.o)), (2, .int (vl_I f.n)), (0, .long w)]) (st' := [.int (Int32.ofInt f.o)]) rfl Kz) ?_
                    refine jv_Wp.cnd jv_i96 (pt := 230) (pe := 196) (p := ((Int32.ofInt f.o) = 0)) (q := ((Int32.ofInt f.o) = 0)) rfl jv_bi_eq rfl rfl Iff.rfl (fun h47 => ?_) (fun h47 => ?_)
                    · refine jv_Wp.lift (fun _ Kz => jv_Ev.steps jv_i96 2 (pc' := 235) (l' := [(6, .int (vr_b f.bit3)), (5, .int (1 : Int32)), (4, .int (Int32.ofInt f.i)), (3, .int (Int32.ofInt f.o)), (2, .int (vl_I f.n)), (0, .long w)]) (st' := [.int (1 : Int32)]) rfl Kz) ?_
                      refine jv_Wp.of (jv_Ev.ret jv_i96 rfl (jv_ret_b (Or.inr rfl))) ?_
                      have x1 : f.kind = 7 := (vl_I_inj (a := f.kind) (b := 7) (Nat.lt_trans bk (by decide)) (by decide)).mp (Classical.not_not.mp h1)
                      have x2 : ¬ 9 < f.d := fun z => h37 ((vl_I_lt (a := 9) (b := f.d) (by decide) bd).mpr z)
                      have x3 : f.n ≤ 13 := (vl_I_le (a := f.n) (b := 13) bn (by decide)).mp h38
                      have x4 : ¬ f.n = 13 := fun z => h39 ((vl_I_inj (a := f.n) (b := 13) (Nat.lt_trans bn (by decide)) (by decide)).mpr z)
                      have b5 := vf_b3f (vr_b_f h40)
                      have x6 : f.s = 0 := (vl_I_inj (a := f.s) (b := 0) (Nat.lt_trans bs (by decide)) (by decide)).mp h41
                      have x7 : ¬ f.n = 8 := fun z => h42 ((vl_I_inj (a := f.n) (b := 8) (Nat.lt_trans bn (by decide)) (by decide)).mpr z)
                      have x8 : ¬ f.n = 3 := fun z => h43 ((vl_I_inj (a := f.n) (b := 3) (Nat.lt_trans bn (by decide)) (by decide)).mpr z)
                      have x9 : ¬ f.n = 9 := fun z => h46 ((vl_I_inj (a := f.n) (b := 9) (Nat.lt_trans bn (by decide)) (by decide)).mpr z)
                      have y10 : f.o = 0 := (vw_dO ef).symm.trans (congrArg Int32.toInt h47)
                      have ev : decide (vf_pA f) = true := decide_eq_true ((vf_pA_0 (by omega)).mpr (by omega))
                      rw [ev] at hQ
                      exact hQ
                    · refine jv_Wp.lift (fun _ Kz => jv_Ev.steps jv_i96 2 (pc' := 199) (l' := [(6, .int (vr_b f.bit3)), (5, .int (1 : Int32)), (4, .int (Int32.ofInt f.i)), (3, .int (Int32.ofInt f.o)), (2, .int (vl_I f.n)), (0, .long w)]) (st' := [.int (11 : Int32), .int (vl_I f.n)]) rfl Kz) ?_
                      refine jv_Wp.cnd jv_i96 (pt := 234) (pe := 202) (p := (¬ (vl_I f.n) = (11 : Int32))) (q := (¬ (vl_I f.n) = (11 : Int32))) rfl jv_bc_ne rfl rfl Iff.rfl (fun h48 => ?_) (fun h48 => ?_)
                      · refine jv_Wp.lift (fun _ Kz => jv_Ev.steps jv_i96 1 (pc' := 235) (l' := [(6, .int (vr_b f.bit3)), (5, .int (1 : Int32)), (4, .int (Int32.ofInt f.i)), (3, .int (Int32.ofInt f.o)), (2, .int (vl_I f.n)), (0, .long w)]) (st' := [.int (0 : Int32)]) rfl Kz) ?_
                        refine jv_Wp.of (jv_Ev.ret jv_i96 rfl (jv_ret_b (Or.inl rfl))) ?_
                        have x1 : f.kind = 7 := (vl_I_inj (a := f.kind) (b := 7) (Nat.lt_trans bk (by decide)) (by decide)).mp (Classical.not_not.mp h1)
                        have x2 : ¬ 9 < f.d := fun z => h37 ((vl_I_lt (a := 9) (b := f.d) (by decide) bd).mpr z)
                        have x3 : f.n ≤ 13 := (vl_I_le (a := f.n) (b := 13) bn (by decide)).mp h38
                        have x4 : ¬ f.n = 13 := fun z => h39 ((vl_I_inj (a := f.n) (b := 13) (Nat.lt_trans bn (by decide)) (by decide)).mpr z)
                        have b5 := vf_b3f (vr_b_f h40)
                        have x6 : f.s = 0 := (vl_I_inj (a := f.s) (b := 0) (Nat.lt_trans bs (by decide)) (by decide)).mp h41
                        have x7 : ¬ f.n = 8 := fun z => h42 ((vl_I_inj (a := f.n) (b := 8) (Nat.lt_trans bn (by decide)) (by decide)).mpr z)
                        have x8 : ¬ f.n = 3 := fun z => h43 ((vl_I_inj (a := f.n) (b := 3) (Nat.lt_trans bn (by decide)) (by decide)).mpr z)
                        have x9 : ¬ f.n = 9 := fun z => h46 ((vl_I_inj (a := f.n) (b := 9) (Nat.lt_trans bn (by decide)) (by decide)).mpr z)
                        have y10 : ¬ f.o = 0 := fun z => h47 (Int32.toInt_inj.mp ((vw_dO ef).trans (z.trans rfl)))
                        have x11 : ¬ f.n = 11 := fun z => h48 ((vl_I_inj (a := f.n) (b := 11) (Nat.lt_trans bn (by decide)) (by decide)).mpr z)
                        have ev : decide (vf_pA f) = false := decide_eq_false (fun z => by have y := (vf_pA_n (by omega)).mp z; omega)
                        rw [ev] at hQ
                        exact hQ
                      · refine jv_Wp.lift (fun _ Kz => jv_Ev.steps jv_i96 1 (pc' := 204) (l' := [(6, .int (vr_b f.bit3)), (5, .int (1 : Int32)), (4, .int (Int32.ofInt f.i)), (3, .int (Int32.ofInt f.o)), (2, .int (vl_I f.n)), (0, .long w)]) (st' := [.int (vr_b f.bit3)]) rfl Kz) ?_
                        refine jv_Wp.cnd jv_i96 (pt := 234) (pe := 207) (p := ((vr_b f.bit3) = 0)) (q := ((vr_b f.bit3) = 0)) rfl jv_bi_eq rfl rfl Iff.rfl (fun _ => ?_) (fun hz => absurd h40 hz)
                        refine jv_Wp.lift (fun _ Kz => jv_Ev.steps jv_i96 1 (pc' := 235) (l' := [(6, .int (vr_b f.bit3)), (5, .int (1 : Int32)), (4, .int (Int32.ofInt f.i)), (3, .int (Int32.ofInt f.o)), (2, .int (vl_I f.n)), (0, .long w)]) (st' := [.int (0 : Int32)]) rfl Kz) ?_
                        refine jv_Wp.of (jv_Ev.ret jv_i96 rfl (jv_ret_b (Or.inl rfl))) ?_
                        have x1 : f.kind = 7 := (vl_I_inj (a := f.kind) (b := 7) (Nat.lt_trans bk (by decide)) (by decide)).mp (Classical.not_not.mp h1)
                        have x2 : ¬ 9 < f.d := fun z => h37 ((vl_I_lt (a := 9) (b := f.d) (by decide) bd).mpr z)
                        have x3 : f.n ≤ 13 := (vl_I_le (a := f.n) (b := 13) bn (by decide)).mp h38
                        have x4 : ¬ f.n = 13 := fun z => h39 ((vl_I_inj (a := f.n) (b := 13) (Nat.lt_trans bn (by decide)) (by decide)).mpr z)
                        have b5 := vf_b3f (vr_b_f h40)
                        have x6 : f.s = 0 := (vl_I_inj (a := f.s) (b := 0) (Nat.lt_trans bs (by decide)) (by decide)).mp h41
                        have x7 : ¬ f.n = 8 := fun z => h42 ((vl_I_inj (a := f.n) (b := 8) (Nat.lt_trans bn (by decide)) (by decide)).mpr z)
                        have x8 : ¬ f.n = 3 := fun z => h43 ((vl_I_inj (a := f.n) (b := 3) (Nat.lt_trans bn (by decide)) (by decide)).mpr z)
                        have x9 : ¬ f.n = 9 := fun z => h46 ((vl_I_inj (a := f.n) (b := 9) (Nat.lt_trans bn (by decide)) (by decide)).mpr z)
                        have y10 : ¬ f.o = 0 := fun z => h47 (Int32.toInt_inj.mp ((vw_dO ef).trans (z.trans rfl)))
                        have x11 : f.n = 11 := (vl_I_inj (a := f.n) (b := 11) (Nat.lt_trans bn (by decide)) (by decide)).mp (Classical.not_not.mp h48)
                        have ev : decide (vf_pA f) = false := decide_eq_false (fun z => by have y := (vf_pA_11 (by omega)).mp z; omega)
                        rw [ev] at hQ
                        exact hQ
                  · refine jv_Wp.lift (fun _ Kz => jv_Ev.steps jv_i96 1 (pc' := 178) (l' := [(6, .int (vr_b f.bit3)), (5, .int (1 : Int32)), (4, .int (Int32.ofInt f.i)), (3, .int (Int32.ofInt f.o)), (2, .int (vl_I f.n)), (0, .long w)]) (st' := [.int (Int32.ofInt f.o)]) rfl Kz) ?_
                    refine jv_Wp.cnd jv_i96 (pt := 186) (pe := 181) (p := ((Int32.ofInt f.o) = 0)) (q := ((Int32.ofInt f.o) = 0)) rfl jv_bi_eq rfl rfl Iff.rfl (fun h49 => ?_) (fun h49 => ?_)
                    · refine jv_Wp.lift (fun _ Kz => jv_Ev.steps jv_i96 2 (pc' := 191) (l' := [(6, .int (vr_b f.bit3)), (5, .int (1 : Int32)), (4, .int (Int32.ofInt f.i)), (3, .int (Int32.ofInt f.o)), (2, .int (vl_I f.n)), (0, .long w)]) (st' := [.int (1 : Int32)]) rfl Kz) ?_
                      refine jv_Wp.of (jv_Ev.ret jv_i96 rfl (jv_ret_b (Or.inr rfl))) ?_
                      have x1 : f.kind = 7 := (vl_I_inj (a := f.kind) (b := 7) (Nat.lt_trans bk (by decide)) (by decide)).mp (Classical.not_not.mp h1)
                      have x2 : ¬ 9 < f.d := fun z => h37 ((vl_I_lt (a := 9) (b := f.d) (by decide) bd).mpr z)
                      have x3 : f.n ≤ 13 := (vl_I_le (a := f.n) (b := 13) bn (by decide)).mp h38
                      have x4 : ¬ f.n = 13 := fun z => h39 ((vl_I_inj (a := f.n) (b := 13) (Nat.lt_trans bn (by decide)) (by decide)).mpr z)
                      have b5 := vf_b3f (vr_b_f h40)
                      have x6 : f.s = 0 := (vl_I_inj (a := f.s) (b := 0) (Nat.lt_trans bs (by decide)) (by decide)).mp h41
                      have x7 : ¬ f.n = 8 := fun z => h42 ((vl_I_inj (a := f.n) (b := 8) (Nat.lt_trans bn (by decide)) (by decide)).mpr z)
                      have x8 : ¬ f.n = 3 := fun z => h43 ((vl_I_inj (a := f.n) (b := 3) (Nat.lt_trans bn (by decide)) (by decide)).mpr z)
                      have x9 : f.n = 9 := (vl_I_inj (a := f.n) (b := 9) (Nat.lt_trans bn (by decide)) (by decide)).mp (Classical.not_not.mp h46)
                      have y10 : f.o = 0 := (vw_dO ef).symm.trans (congrArg Int32.toInt h49)
                      have ev : decide (vf_pA f) = true := decide_eq_true ((vf_pA_3 (by omega)).mpr (by omega))
                      rw [ev] at hQ
                      exact hQ
                    · refine jv_Wp.lift (fun _ Kz => jv_Ev.steps jv_i96 2 (pc' := 183) (l' := [(6, .int (vr_b f.bit3)), (5, .int (1 : Int32)), (4, .int (Int32.ofInt f.i)), (3, .int (Int32.ofInt f.o)), (2, .int (vl_I f.n)), (0, .long w)]) (st' := [.int (1 : Int32), .int (Int32.ofInt f.o)]) rfl Kz) ?_
                      refine jv_Wp.cnd jv_i96 (pt := 190) (pe := 186) (p := (¬ (Int32.ofInt f.o) = (1 : Int32))) (q := (¬ (Int32.ofInt f.o) = (1 : Int32))) rfl jv_bc_ne rfl rfl Iff.rfl (fun h50 => ?_) (fun h50 => ?_)
                      · refine jv_Wp.lift (fun _ Kz => jv_Ev.steps jv_i96 1 (pc' := 191) (l' := [(6, .int (vr_b f.bit3)), (5, .int (1 : Int32)), (4, .int (Int32.ofInt f.i)), (3, .int (Int32.ofInt f.o)), (2, .int (vl_I f.n)), (0, .long w)]) (st' := [.int (0 : Int32)]) rfl Kz) ?_
                        refine jv_Wp.of (jv_Ev.ret jv_i96 rfl (jv_ret_b (Or.inl rfl))) ?_
                        have x1 : f.kind = 7 := (vl_I_inj (a := f.kind) (b := 7) (Nat.lt_trans bk (by decide)) (by decide)).mp (Classical.not_not.mp h1)
                        have x2 : ¬ 9 < f.d := fun z => h37 ((vl_I_lt (a := 9) (b := f.d) (by decide) bd).mpr z)
                        have x3 : f.n ≤ 13 := (vl_I_le (a := f.n) (b := 13) bn (by decide)).mp h38
                        have x4 : ¬ f.n = 13 := fun z => h39 ((vl_I_inj (a := f.n) (b := 13) (Nat.lt_trans bn (by decide)) (by decide)).mpr z)
                        have b5 := vf_b3f (vr_b_f h40)
                        have x6 : f.s = 0 := (vl_I_inj (a := f.s) (b := 0) (Nat.lt_trans bs (by decide)) (by decide)).mp h41
                        have x7 : ¬ f.n = 8 := fun z => h42 ((vl_I_inj (a := f.n) (b := 8) (Nat.lt_trans bn (by decide)) (by decide)).mpr z)
                        have x8 : ¬ f.n = 3 := fun z => h43 ((vl_I_inj (a := f.n) (b := 3) (Nat.lt_trans bn (by decide)) (by decide)).mpr z)
                        have x9 : f.n = 9 := (vl_I_inj (a := f.n) (b := 9) (Nat.lt_trans bn (by decide)) (by decide)).mp (Classical.not_not.mp h46)
                        have y10 : ¬ f.o = 0 := fun z => h49 (Int32.toInt_inj.mp ((vw_dO ef).trans (z.trans rfl)))
                        have y11 : ¬ f.o = 1 := fun z => h50 (Int32.toInt_inj.mp ((vw_dO ef).trans (z.trans rfl)))
                        have ev : decide (vf_pA f) = false := decide_eq_false (fun z => by have y := (vf_pA_3 (by omega)).mp z; omega)
                        rw [ev] at hQ
                        exact hQ
                      · refine jv_Wp.lift (fun _ Kz => jv_Ev.steps jv_i96 2 (pc' := 191) (l' := [(6, .int (vr_b f.bit3)), (5, .int (1 : Int32)), (4, .int (Int32.ofInt f.i)), (3, .int (Int32.ofInt f.o)), (2, .int (vl_I f.n)), (0, .long w)]) (st' := [.int (1 : Int32)]) rfl Kz) ?_
                        refine jv_Wp.of (jv_Ev.ret jv_i96 rfl (jv_ret_b (Or.inr rfl))) ?_
                        have x1 : f.kind = 7 := (vl_I_inj (a := f.kind) (b := 7) (Nat.lt_trans bk (by decide)) (by decide)).mp (Classical.not_not.mp h1)
                        have x2 : ¬ 9 < f.d := fun z => h37 ((vl_I_lt (a := 9) (b := f.d) (by decide) bd).mpr z)
                        have x3 : f.n ≤ 13 := (vl_I_le (a := f.n) (b := 13) bn (by decide)).mp h38
                        have x4 : ¬ f.n = 13 := fun z => h39 ((vl_I_inj (a := f.n) (b := 13) (Nat.lt_trans bn (by decide)) (by decide)).mpr z)
                        have b5 := vf_b3f (vr_b_f h40)
                        have x6 : f.s = 0 := (vl_I_inj (a := f.s) (b := 0) (Nat.lt_trans bs (by decide)) (by decide)).mp h41
                        have x7 : ¬ f.n = 8 := fun z => h42 ((vl_I_inj (a := f.n) (b := 8) (Nat.lt_trans bn (by decide)) (by decide)).mpr z)
                        have x8 : ¬ f.n = 3 := fun z => h43 ((vl_I_inj (a := f.n) (b := 3) (Nat.lt_trans bn (by decide)) (by decide)).mpr z)
                        have x9 : f.n = 9 := (vl_I_inj (a := f.n) (b := 9) (Nat.lt_trans bn (by decide)) (by decide)).mp (Classical.not_not.mp h46)
                        have y10 : ¬ f.o = 0 := fun z => h49 (Int32.toInt_inj.mp ((vw_dO ef).trans (z.trans rfl)))
                        have y11 : f.o = 1 := (vw_dO ef).symm.trans (congrArg Int32.toInt (Classical.not_not.mp h50))
                        have ev : decide (vf_pA f) = true := decide_eq_true ((vf_pA_3 (by omega)).mpr (by omega))
                        rw [ev] at hQ
                        exact hQ
              · refine jv_Wp.lift (fun _ Kz => jv_Ev.steps jv_i96 1 (pc' := 148) (l' := [(6, .int (vr_b f.bit3)), (5, .int (1 : Int32)), (4, .int (Int32.ofInt f.i)), (3, .int (Int32.ofInt f.o)), (2, .int (vl_I f.n)), (0, .long w)]) (st' := [.int (vr_b f.bit3)]) rfl Kz) ?_
                refine jv_Wp.cnd jv_i96 (pt := 164) (pe := 151) (p := (¬ (vr_b f.bit3) = 0)) (q := (¬ (vr_b f.bit3) = 0)) rfl jv_bi_ne rfl rfl Iff.rfl (fun hz => absurd hz (fun z => z h40)) (fun _ => ?_)
                refine jv_Wp.lift (fun _ Kz => jv_Ev.steps jv_i96 1 (pc' := 153) (l' := [(6, .int (vr_b f.bit3)), (5, .int (1 : Int32)), (4, .int (Int32.ofInt f.i)), (3, .int (Int32.ofInt f.o)), (2, .int (vl_I f.n)), (0, .long w)]) (st' := [.int (Int32.ofInt f.i)]) rfl Kz) ?_
                refine jv_Wp.cnd jv_i96 (pt := 164) (pe := 156) (p := (¬ (Int32.ofInt f.i) = 0)) (q := (¬ (Int32.ofInt f.i) = 0)) rfl jv_bi_ne rfl rfl Iff.rfl (fun h51 => ?_) (fun h51 => ?_)
                · refine jv_Wp.lift (fun _ Kz => jv_Ev.steps jv_i96 1 (pc' := 165) (l' := [(6, .int (vr_b f.bit3)), (5, .int (1 : Int32)), (4, .int (Int32.ofInt f.i)), (3, .int (Int32.ofInt f.o)), (2, .int (vl_I f.n)), (0, .long w)]) (st' := [.int (0 : Int32)]) rfl Kz) ?_
                  refine jv_Wp.of (jv_Ev.ret jv_i96 rfl (jv_ret_b (Or.inl rfl))) ?_
                  have x1 : f.kind = 7 := (vl_I_inj (a := f.kind) (b := 7) (Nat.lt_trans bk (by decide)) (by decide)).mp (Classical.not_not.mp h1)
                  have x2 : ¬ 9 < f.d := fun z => h37 ((vl_I_lt (a := 9) (b := f.d) (by decide) bd).mpr z)
                  have x3 : f.n ≤ 13 := (vl_I_le (a := f.n) (b := 13) bn (by decide)).mp h38
                  have x4 : ¬ f.n = 13 := fun z => h39 ((vl_I_inj (a := f.n) (b := 13) (Nat.lt_trans bn (by decide)) (by decide)).mpr z)
                  have b5 := vf_b3f (vr_b_f h40)
                  have x6 : f.s = 0 := (vl_I_inj (a := f.s) (b := 0) (Nat.lt_trans bs (by decide)) (by decide)).mp h41
                  have x7 : f.n = 8 := (vl_I_inj (a := f.n) (b := 8) (Nat.lt_trans bn (by decide)) (by decide)).mp (Classical.not_not.mp h42)
                  have y8 : ¬ f.i = 0 := fun z => h51 (Int32.toInt_inj.mp ((vw_dQ ef).trans (z.trans rfl)))
                  have ev : decide (vf_pA f) = false := decide_eq_false (fun z => by have y := (vf_pA_8 (by omega)).mp z; omega)
                  rw [ev] at hQ
                  exact hQ
                · refine jv_Wp.lift (fun _ Kz => jv_Ev.steps jv_i96 1 (pc' := 157) (l' := [(6, .int (vr_b f.bit3)), (5, .int (1 : Int32)), (4, .int (Int32.ofInt f.i)), (3, .int (Int32.ofInt f.o)), (2, .int (vl_I f.n)), (0, .long w)]) (st' := [.int (Int32.ofInt f.o)]) rfl Kz) ?_
                  refine jv_Wp.cnd jv_i96 (pt := 164) (pe := 160) (p := (¬ (Int32.ofInt f.o) = 0)) (q := (¬ (Int32.ofInt f.o) = 0)) rfl jv_bi_ne rfl rfl Iff.rfl (fun h52 => ?_) (fun h52 => ?_)
                  · refine jv_Wp.lift (fun _ Kz => jv_Ev.steps jv_i96 1 (pc' := 165) (l' := [(6, .int (vr_b f.bit3)), (5, .int (1 : Int32)), (4, .int (Int32.ofInt f.i)), (3, .int (Int32.ofInt f.o)), (2, .int (vl_I f.n)), (0, .long w)]) (st' := [.int (0 : Int32)]) rfl Kz) ?_
                    refine jv_Wp.of (jv_Ev.ret jv_i96 rfl (jv_ret_b (Or.inl rfl))) ?_
                    have x1 : f.kind = 7 := (vl_I_inj (a := f.kind) (b := 7) (Nat.lt_trans bk (by decide)) (by decide)).mp (Classical.not_not.mp h1)
                    have x2 : ¬ 9 < f.d := fun z => h37 ((vl_I_lt (a := 9) (b := f.d) (by decide) bd).mpr z)
                    have x3 : f.n ≤ 13 := (vl_I_le (a := f.n) (b := 13) bn (by decide)).mp h38
                    have x4 : ¬ f.n = 13 := fun z => h39 ((vl_I_inj (a := f.n) (b := 13) (Nat.lt_trans bn (by decide)) (by decide)).mpr z)
                    have b5 := vf_b3f (vr_b_f h40)
                    have x6 : f.s = 0 := (vl_I_inj (a := f.s) (b := 0) (Nat.lt_trans bs (by decide)) (by decide)).mp h41
                    have x7 : f.n = 8 := (vl_I_inj (a := f.n) (b := 8) (Nat.lt_trans bn (by decide)) (by decide)).mp (Classical.not_not.mp h42)
                    have y8 : f.i = 0 := (vw_dQ ef).symm.trans (congrArg Int32.toInt (Classical.not_not.mp h51))
                    have y9 : ¬ f.o = 0 := fun z => h52 (Int32.toInt_inj.mp ((vw_dO ef).trans (z.trans rfl)))
                    have ev : decide (vf_pA f) = false := decide_eq_false (fun z => by have y := (vf_pA_8 (by omega)).mp z; omega)
                    rw [ev] at hQ
                    exact hQ
                  · refine jv_Wp.lift (fun _ Kz => jv_Ev.steps jv_i96 2 (pc' := 165) (l' := [(6, .int (vr_b f.bit3)), (5, .int (1 : Int32)), (4, .int (Int32.ofInt f.i)), (3, .int (Int32.ofInt f.o)), (2, .int (vl_I f.n)), (0, .long w)]) (st' := [.int (1 : Int32)]) rfl Kz) ?_
                    refine jv_Wp.of (jv_Ev.ret jv_i96 rfl (jv_ret_b (Or.inr rfl))) ?_
                    have x1 : f.kind = 7 := (vl_I_inj (a := f.kind) (b := 7) (Nat.lt_trans bk (by decide)) (by decide)).mp (Classical.not_not.mp h1)
                    have x2 : ¬ 9 < f.d := fun z => h37 ((vl_I_lt (a := 9) (b := f.d) (by decide) bd).mpr z)
                    have x3 : f.n ≤ 13 := (vl_I_le (a := f.n) (b := 13) bn (by decide)).mp h38
                    have x4 : ¬ f.n = 13 := fun z => h39 ((vl_I_inj (a := f.n) (b := 13) (Nat.lt_trans bn (by decide)) (by decide)).mpr z)
                    have b5 := vf_b3f (vr_b_f h40)
                    have x6 : f.s = 0 := (vl_I_inj (a := f.s) (b := 0) (Nat.lt_trans bs (by decide)) (by decide)).mp h41
                    have x7 : f.n = 8 := (vl_I_inj (a := f.n) (b := 8) (Nat.lt_trans bn (by decide)) (by decide)).mp (Classical.not_not.mp h42)
                    have y8 : f.i = 0 := (vw_dQ ef).symm.trans (congrArg Int32.toInt (Classical.not_not.mp h51))
                    have y9 : f.o = 0 := (vw_dO ef).symm.trans (congrArg Int32.toInt (Classical.not_not.mp h52))
                    have ev : decide (vf_pA f) = true := decide_eq_true ((vf_pA_8 (by omega)).mpr (by omega))
                    rw [ev] at hQ
                    exact hQ
            · refine jv_Wp.lift (fun _ Kz => jv_Ev.steps jv_i96 1 (pc' := 139) (l' := [(6, .int (vr_b f.bit3)), (5, .int (1 : Int32)), (4, .int (Int32.ofInt f.i)), (3, .int (Int32.ofInt f.o)), (2, .int (vl_I f.n)), (0, .long w)]) (st' := [.int (0 : Int32)]) rfl Kz) ?_
              refine jv_Wp.of (jv_Ev.ret jv_i96 rfl (jv_ret_b (Or.inl rfl))) ?_
              have x1 : f.kind = 7 := (vl_I_inj (a := f.kind) (b := 7) (Nat.lt_trans bk (by decide)) (by decide)).mp (Classical.not_not.mp h1)
              have x2 : ¬ 9 < f.d := fun z => h37 ((vl_I_lt (a := 9) (b := f.d) (by decide) bd).mpr z)
              have x3 : f.n ≤ 13 := (vl_I_le (a := f.n) (b := 13) bn (by decide)).mp h38
              have x4 : ¬ f.n = 13 := fun z => h39 ((vl_I_inj (a := f.n) (b := 13) (Nat.lt_trans bn (by decide)) (by decide)).mpr z)
              have b5 := vf_b3f (vr_b_f h40)
              have x6 : ¬ f.s = 0 := fun z => h41 ((vl_I_inj (a := f.s) (b := 0) (Nat.lt_trans bs (by decide)) (by decide)).mpr z)
              have ev : decide (vf_pA f) = false := decide_eq_false (fun z => by have y1 := vf_pA_le z; first | omega | (have y2 := vf_pA_S (by omega) z; omega))
              rw [ev] at hQ
              exact hQ
          · refine jv_Wp.lift (fun _ Kz => jv_Ev.steps jv_i96 1 (pc' := 116) (l' := [(6, .int (vr_b f.bit3)), (5, .int (1 : Int32)), (4, .int (Int32.ofInt f.i)), (3, .int (Int32.ofInt f.o)), (2, .int (vl_I f.n)), (0, .long w)]) (st' := [.int (Int32.ofInt f.i)]) rfl Kz) ?_
            refine jv_Wp.cnd jv_i96 (pt := 138) (pe := 119) (p := (¬ (Int32.ofInt f.i) = 0)) (q := (¬ (Int32.ofInt f.i) = 0)) rfl jv_bi_ne rfl rfl Iff.rfl (fun h53 => ?_) (fun h53 => ?_)
            · refine jv_Wp.lift (fun _ Kz => jv_Ev.steps jv_i96 1 (pc' := 139) (l' := [(6, .int (vr_b f.bit3)), (5, .int (1 : Int32)), (4, .int (Int32.ofInt f.i)), (3, .int (Int32.ofInt f.o)), (2, .int (vl_I f.n)), (0, .long w)]) (st' := [.int (0 : Int32)]) rfl Kz) ?_
              refine jv_Wp.of (jv_Ev.ret jv_i96 rfl (jv_ret_b (Or.inl rfl))) ?_
              have x1 : f.kind = 7 := (vl_I_inj (a := f.kind) (b := 7) (Nat.lt_trans bk (by decide)) (by decide)).mp (Classical.not_not.mp h1)
              have x2 : ¬ 9 < f.d := fun z => h37 ((vl_I_lt (a := 9) (b := f.d) (by decide) bd).mpr z)
              have x3 : f.n ≤ 13 := (vl_I_le (a := f.n) (b := 13) bn (by decide)).mp h38
              have x4 : ¬ f.n = 13 := fun z => h39 ((vl_I_inj (a := f.n) (b := 13) (Nat.lt_trans bn (by decide)) (by decide)).mpr z)
              have b5 := vf_b3t (vr_b_t h40)
              have y6 : ¬ f.i = 0 := fun z => h53 (Int32.toInt_inj.mp ((vw_dQ ef).trans (z.trans rfl)))
              have ev : decide (vf_pA f) = false := decide_eq_false (fun z => by have y1 := vf_pA_le z; first | omega | (have y2 := vf_pA_S (by omega) z; omega))
              rw [ev] at hQ
              exact hQ
            · refine jv_Wp.lift (fun _ Kz => jv_Ev.steps jv_i96 1 (pc' := 120) (l' := [(6, .int (vr_b f.bit3)), (5, .int (1 : Int32)), (4, .int (Int32.ofInt f.i)), (3, .int (Int32.ofInt f.o)), (2, .int (vl_I f.n)), (0, .long w)]) (st' := [.long w]) rfl Kz) ?_
              refine jv_Wp.lift (fun _ Kz => jv_Ev.c jv_i96 (pc' := 123) (S' := [.int (vl_I f.s)]) jv_i87 [.long w] rfl rfl rfl rfl rfl rfl (vw_f87 ef) rfl rfl Kz) ?_
              refine jv_Wp.lift (fun _ Kz => jv_Ev.steps jv_i96 1 (pc' := 125) (l' := [(6, .int (vr_b f.bit3)), (5, .int (1 : Int32)), (4, .int (Int32.ofInt f.i)), (3, .int (Int32.ofInt f.o)), (2, .int (vl_I f.n)), (0, .long w)]) (st' := [.int (11 : Int32), .int (vl_I f.s)]) rfl Kz) ?_
              refine jv_Wp.cnd jv_i96 (pt := 140) (pe := 128) (p := ((vl_I f.s) < (11 : Int32))) (q := ((vl_I f.s) < (11 : Int32))) rfl jv_bc_lt rfl rfl Iff.rfl (fun h54 => ?_) (fun h54 => ?_)
              · refine jv_Wp.lift (fun _ Kz => jv_Ev.steps jv_i96 2 (pc' := 143) (l' := [(6, .int (vr_b f.bit3)), (5, .int (1 : Int32)), (4, .int (Int32.ofInt f.i)), (3, .int (Int32.ofInt f.o)), (2, .int (vl_I f.n)), (0, .long w)]) (st' := [.int (8 : Int32), .int (vl_I f.n)]) rfl Kz) ?_
                refine jv_Wp.cnd jv_i96 (pt := 166) (pe := 146) (p := (¬ (vl_I f.n) = (8 : Int32))) (q := (¬ (vl_I f.n) = (8 : Int32))) rfl jv_bc_ne rfl rfl Iff.rfl (fun h55 => ?_) (fun h55 => ?_)
                · refine jv_Wp.lift (fun _ Kz => jv_Ev.steps jv_i96 2 (pc' := 168) (l' := [(6, .int (vr_b f.bit3)), (5, .int (1 : Int32)), (4, .int (Int32.ofInt f.i)), (3, .int (Int32.ofInt f.o)), (2, .int (vl_I f.n)), (0, .long w)]) (st' := [.int (3 : Int32), .int (vl_I f.n)]) rfl Kz) ?_
                  refine jv_Wp.cnd jv_i96 (pt := 177) (pe := 171) (p := ((vl_I f.n) = (3 : Int32))) (q := ((vl_I f.n) = (3 : Int32))) rfl jv_bc_eq rfl rfl Iff.rfl (fun h56 => ?_) (fun h56 => ?_)
                  · refine jv_Wp.lift (fun _ Kz => jv_Ev.steps jv_i96 1 (pc' := 178) (l' := [(6, .int (vr_b f.bit3)), (5, .int (1 : Int32)), (4, .int (Int32.ofInt f.i)), (3, .int (Int32.ofInt f.o)), (2, .int (vl_I f.n)), (0, .long w)]) (st' := [.int (Int32.ofInt f.o)]) rfl Kz) ?_
                    refine jv_Wp.cnd jv_i96 (pt := 186) (pe := 181) (p := ((Int32.ofInt f.o) = 0)) (q := ((Int32.ofInt f.o) = 0)) rfl jv_bi_eq rfl rfl Iff.rfl (fun h57 => ?_) (fun h57 => ?_)
                    · refine jv_Wp.lift (fun _ Kz => jv_Ev.steps jv_i96 2 (pc' := 191) (l' := [(6, .int (vr_b f.bit3)), (5, .int (1 : Int32)), (4, .int (Int32.ofInt f.i)), (3, .int (Int32.ofInt f.o)), (2, .int (vl_I f.n)), (0, .long w)]) (st' := [.int (1 : Int32)]) rfl Kz) ?_
                      refine jv_Wp.of (jv_Ev.ret jv_i96 rfl (jv_ret_b (Or.inr rfl))) ?_
                      have x1 : f.kind = 7 := (vl_I_inj (a := f.kind) (b := 7) (Nat.lt_trans bk (by decide)) (by decide)).mp (Classical.not_not.mp h1)
                      have x2 : ¬ 9 < f.d := fun z => h37 ((vl_I_lt (a := 9) (b := f.d) (by decide) bd).mpr z)
                      have x3 : f.n ≤ 13 := (vl_I_le (a := f.n) (b := 13) bn (by decide)).mp h38
                      have x4 : ¬ f.n = 13 := fun z => h39 ((vl_I_inj (a := f.n) (b := 13) (Nat.lt_trans bn (by decide)) (by decide)).mpr z)
                      have b5 := vf_b3t (vr_b_t h40)
                      have y6 : f.i = 0 := (vw_dQ ef).symm.trans (congrArg Int32.toInt (Classical.not_not.mp h53))
                      have x7 : f.s < 11 := (vl_I_lt (a := f.s) (b := 11) bs (by decide)).mp h54
                      have x8 : ¬ f.n = 8 := fun z => h55 ((vl_I_inj (a := f.n) (b := 8) (Nat.lt_trans bn (by decide)) (by decide)).mpr z)
                      have x9 : f.n = 3 := (vl_I_inj (a := f.n) (b := 3) (Nat.lt_trans bn (by decide)) (by decide)).mp h56
                      have y10 : f.o = 0 := (vw_dO ef).symm.trans (congrArg Int32.toInt h57)
                      have ev : decide (vf_pA f) = true := decide_eq_true ((vf_pA_3 (by omega)).mpr (by omega))
                      rw [ev] at hQ
                      exact hQ
                    · refine jv_Wp.lift (fun _ Kz => jv_Ev.steps jv_i96 2 (pc' := 183) (l' := [(6, .int (vr_b f.bit3)), (5, .int (1 : Int32)), (4, .int (Int32.ofInt f.i)), (3, .int (Int32.ofInt f.o)), (2, .int (vl_I f.n)), (0, .long w)]) (st' := [.int (1 : Int32), .int (Int32.ofInt f.o)]) rfl Kz) ?_
                      refine jv_Wp.cnd jv_i96 (pt := 190) (pe := 186) (p := (¬ (Int32.ofInt f.o) = (1 : Int32))) (q := (¬ (Int32.ofInt f.o) = (1 : Int32))) rfl jv_bc_ne rfl rfl Iff.rfl (fun h58 => ?_) (fun h58 => ?_)
                      · refine jv_Wp.lift (fun _ Kz => jv_Ev.steps jv_i96 1 (pc' := 191) (l' := [(6, .int (vr_b f.bit3)), (5, .int (1 : Int32)), (4, .int (Int32.ofInt f.i)), (3, .int (Int32.ofInt f.o)), (2, .int (vl_I f.n)), (0, .long w)]) (st' := [.int (0 : Int32)]) rfl Kz) ?_
                        refine jv_Wp.of (jv_Ev.ret jv_i96 rfl (jv_ret_b (Or.inl rfl))) ?_
                        have x1 : f.kind = 7 := (vl_I_inj (a := f.kind) (b := 7) (Nat.lt_trans bk (by decide)) (by decide)).mp (Classical.not_not.mp h1)
                        have x2 : ¬ 9 < f.d := fun z => h37 ((vl_I_lt (a := 9) (b := f.d) (by decide) bd).mpr z)
                        have x3 : f.n ≤ 13 := (vl_I_le (a := f.n) (b := 13) bn (by decide)).mp h38
                        have x4 : ¬ f.n = 13 := fun z => h39 ((vl_I_inj (a := f.n) (b := 13) (Nat.lt_trans bn (by decide)) (by decide)).mpr z)
                        have b5 := vf_b3t (vr_b_t h40)
                        have y6 : f.i = 0 := (vw_dQ ef).symm.trans (congrArg Int32.toInt (Classical.not_not.mp h53))
                        have x7 : f.s < 11 := (vl_I_lt (a := f.s) (b := 11) bs (by decide)).mp h54
                        have x8 : ¬ f.n = 8 := fun z => h55 ((vl_I_inj (a := f.n) (b := 8) (Nat.lt_trans bn (by decide)) (by decide)).mpr z)
                        have x9 : f.n = 3 := (vl_I_inj (a := f.n) (b := 3) (Nat.lt_trans bn (by decide)) (by decide)).mp h56
                        have y10 : ¬ f.o = 0 := fun z => h57 (Int32.toInt_inj.mp ((vw_dO ef).trans (z.trans rfl)))
                        have y11 : ¬ f.o = 1 := fun z => h58 (Int32.toInt_inj.mp ((vw_dO ef).trans (z.trans rfl)))
                        have ev : decide (vf_pA f) = false := decide_eq_false (fun z => by have y := (vf_pA_3 (by omega)).mp z; omega)
                        rw [ev] at hQ
                        exact hQ
                      · refine jv_Wp.lift (fun _ Kz => jv_Ev.steps jv_i96 2 (pc' := 191) (l' := [(6, .int (vr_b f.bit3)), (5, .int (1 : Int32)), (4, .int (Int32.ofInt f.i)), (3, .int (Int32.ofInt f.o)), (2, .int (vl_I f.n)), (0, .long w)]) (st' := [.int (1 : Int32)]) rfl Kz) ?_
                        refine jv_Wp.of (jv_Ev.ret jv_i96 rfl (jv_ret_b (Or.inr rfl))) ?_
                        have x1 : f.kind = 7 := (vl_I_inj (a := f.kind) (b := 7) (Nat.lt_trans bk (by decide)) (by decide)).mp (Classical.not_not.mp h1)
                        have x2 : ¬ 9 < f.d := fun z => h37 ((vl_I_lt (a := 9) (b := f.d) (by decide) bd).mpr z)
                        have x3 : f.n ≤ 13 := (vl_I_le (a := f.n) (b := 13) bn (by decide)).mp h38
                        have x4 : ¬ f.n = 13 := fun z => h39 ((vl_I_inj (a := f.n) (b := 13) (Nat.lt_trans bn (by decide)) (by decide)).mpr z)
                        have b5 := vf_b3t (vr_b_t h40)
                        have y6 : f.i = 0 := (vw_dQ ef).symm.trans (congrArg Int32.toInt (Classical.not_not.mp h53))
                        have x7 : f.s < 11 := (vl_I_lt (a := f.s) (b := 11) bs (by decide)).mp h54
                        have x8 : ¬ f.n = 8 := fun z => h55 ((vl_I_inj (a := f.n) (b := 8) (Nat.lt_trans bn (by decide)) (by decide)).mpr z)
                        have x9 : f.n = 3 := (vl_I_inj (a := f.n) (b := 3) (Nat.lt_trans bn (by decide)) (by decide)).mp h56
                        have y10 : ¬ f.o = 0 := fun z => h57 (Int32.toInt_inj.mp ((vw_dO ef).trans (z.trans rfl)))
                        have y11 : f.o = 1 := (vw_dO ef).symm.trans (congrArg Int32.toInt (Classical.not_not.mp h58))
                        have ev : decide (vf_pA f) = true := decide_eq_true ((vf_pA_3 (by omega)).mpr (by omega))
                        rw [ev] at hQ
                        exact hQ
                  · refine jv_Wp.lift (fun _ Kz => jv_Ev.steps jv_i96 2 (pc' := 174) (l' := [(6, .int (vr_b f.bit3)), (5, .int (1 : Int32)), (4, .int (Int32.ofInt f.i)), (3, .int (Int32.ofInt f.o)), (2, .int (vl_I f.n)), (0, .long w)]) (st' := [.int (9 : Int32), .int (vl_I f.n)]) rfl Kz) ?_
                    refine jv_Wp.cnd jv_i96 (pt := 192) (pe := 177) (p := (¬ (vl_I f.n) = (9 : Int32))) (q := (¬ (vl_I f.n) = (9 : Int32))) rfl jv_bc_ne rfl rfl Iff.rfl (fun h59 => ?_) (fun h59 => ?_)
                    · refine jv_Wp.lift (fun _ Kz => jv_Ev.steps jv_i96 1 (pc' := 193) (l' := [(6, .int (vr_b f.bit3)), (5, .int (1 : Int32)), (4, .int (Int32.ofInt f.i)), (3, .int (Int32.ofInt f.o)), (2, .int (vl_I f.n)), (0, .long w)]) (st' := [.int (Int32.ofInt f.o)]) rfl Kz) ?_
                      refine jv_Wp.cnd jv_i96 (pt := 230) (pe := 196) (p := ((Int32.ofInt f.o) = 0)) (q := ((Int32.ofInt f.o) = 0)) rfl jv_bi_eq rfl rfl Iff.rfl (fun h60 => ?_) (fun h60 => ?_)
                      · refine jv_Wp.lift (fun _ Kz => jv_Ev.steps jv_i96 2 (pc' := 235) (l' := [(6, .int (vr_b f.bit3)), (5, .int (1 : Int32)), (4, .int (Int32.ofInt f.i)), (3, .int (Int32.ofInt f.o)), (2, .int (vl_I f.n)), (0, .long w)]) (st' := [.int (1 : Int32)]) rfl Kz) ?_
                        refine jv_Wp.of (jv_Ev.ret jv_i96 rfl (jv_ret_b (Or.inr rfl))) ?_
                        have x1 : f.kind = 7 := (vl_I_inj (a := f.kind) (b := 7) (Nat.lt_trans bk (by decide)) (by decide)).mp (Classical.not_not.mp h1)
                        have x2 : ¬ 9 < f.d := fun z => h37 ((vl_I_lt (a := 9) (b := f.d) (by decide) bd).mpr z)
                        have x3 : f.n ≤ 13 := (vl_I_le (a := f.n) (b := 13) bn (by decide)).mp h38
                        have x4 : ¬ f.n = 13 := fun z => h39 ((vl_I_inj (a := f.n) (b := 13) (Nat.lt_trans bn (by decide)) (by decide)).mpr z)
                        have b5 := vf_b3t (vr_b_t h40)
                        have y6 : f.i = 0 := (vw_dQ ef).symm.trans (congrArg Int32.toInt (Classical.not_not.mp h53))
                        have x7 : f.s < 11 := (vl_I_lt (a := f.s) (b := 11) bs (by decide)).mp h54
                        have x8 : ¬ f.n = 8 := fun z => h55 ((vl_I_inj (a := f.n) (b := 8) (Nat.lt_trans bn (by decide)) (by decide)).mpr z)
                        have x9 : ¬ f.n = 3 := fun z => h56 ((vl_I_inj (a := f.n) (b := 3) (Nat.lt_trans bn (by decide)) (by decide)).mpr z)
                        have x10 : ¬ f.n = 9 := fun z => h59 ((vl_I_inj (a := f.n) (b := 9) (Nat.lt_trans bn (by decide)) (by decide)).mpr z)
                        have y11 : f.o = 0 := (vw_dO ef).symm.trans (congrArg Int32.toInt h60)
                        have ev : decide (vf_pA f) = true := decide_eq_true ((vf_pA_0 (by omega)).mpr (by omega))
                        rw [ev] at hQ
                        exact hQ
                      · refine jv_Wp.lift (fun _ Kz => jv_Ev.steps jv_i96 2 (pc' := 199) (l' := [(6, .int (vr_b f.bit3)), (5, .int (1 : Int32)), (4, .int (Int32.ofInt f.i)), (3, .int (Int32.ofInt f.o)), (2, .int (vl_I f.n)), (0, .long w)]) (st' := [.int (11 : Int32), .int (vl_I f.n)]) rfl Kz) ?_
                        refine jv_Wp.cnd jv_i96 (pt := 234) (pe := 202) (p := (¬ (vl_I f.n) = (11 : Int32))) (q := (¬ (vl_I f.n) = (11 : Int32))) rfl jv_bc_ne rfl rfl Iff.rfl (fun h61 => ?_) (fun h61 => ?_)
                        · refine jv_Wp.lift (fun _ Kz => jv_Ev.steps jv_i96 1 (pc' := 235) (l' := [(6, .int (vr_b f.bit3)), (5, .int (1 : Int32)), (4, .int (Int32.ofInt f.i)), (3, .int (Int32.ofInt f.o)), (2, .int (vl_I f.n)), (0, .long w)]) (st' := [.int (0 : Int32)]) rfl Kz) ?_
                          refine jv_Wp.of (jv_Ev.ret jv_i96 rfl (jv_ret_b (Or.inl rfl))) ?_
                          have x1 : f.kind = 7 := (vl_I_inj (a := f.kind) (b := 7) (Nat.lt_trans bk (by decide)) (by decide)).mp (Classical.not_not.mp h1)
                          have x2 : ¬ 9 < f.d := fun z => h37 ((vl_I_lt (a := 9) (b := f.d) (by decide) bd).mpr z)
                          have x3 : f.n ≤ 13 := (vl_I_le (a := f.n) (b := 13) bn (by decide)).mp h38
                          have x4 : ¬ f.n = 13 := fun z => h39 ((vl_I_inj (a := f.n) (b := 13) (Nat.lt_trans bn (by decide)) (by decide)).mpr z)
                          have b5 := vf_b3t (vr_b_t h40)
                          have y6 : f.i = 0 := (vw_dQ ef).symm.trans (congrArg Int32.toInt (Classical.not_not.mp h53))
                          have x7 : f.s < 11 := (vl_I_lt (a := f.s) (b := 11) bs (by decide)).mp h54
                          have x8 : ¬ f.n = 8 := fun z => h55 ((vl_I_inj (a := f.n) (b := 8) (Nat.lt_trans bn (by decide)) (by decide)).mpr z)
                          have x9 : ¬ f.n = 3 := fun z => h56 ((vl_I_inj (a := f.n) (b := 3) (Nat.lt_trans bn (by decide)) (by decide)).mpr z)
                          have x10 : ¬ f.n = 9 := fun z => h59 ((vl_I_inj (a := f.n) (b := 9) (Nat.lt_trans bn (by decide)) (by decide)).mpr z)
                          have y11 : ¬ f.o = 0 := fun z => h60 (Int32.toInt_inj.mp ((vw_dO ef).trans (z.trans rfl)))
                          have x12 : ¬ f.n = 11 := fun z => h61 ((vl_I_inj (a := f.n) (b := 11) (Nat.lt_trans bn (by decide)) (by decide)).mpr z)
                          have ev : decide (vf_pA f) = false := decide_eq_false (fun z => by have y := (vf_pA_n (by omega)).mp z; omega)
                          rw [ev] at hQ
                          exact hQ
                        · refine jv_Wp.lift (fun _ Kz => jv_Ev.steps jv_i96 1 (pc' := 204) (l' := [(6, .int (vr_b f.bit3)), (5, .int (1 : Int32)), (4, .int (Int32.ofInt f.i)), (3, .int (Int32.ofInt f.o)), (2, .int (vl_I f.n)), (0, .long w)]) (st' := [.int (vr_b f.bit3)]) rfl Kz) ?_
                          refine jv_Wp.cnd jv_i96 (pt := 234) (pe := 207) (p := ((vr_b f.bit3) = 0)) (q := ((vr_b f.bit3) = 0)) rfl jv_bi_eq rfl rfl Iff.rfl (fun hz => absurd hz h40) (fun _ => ?_)
                          refine jv_Wp.lift (fun _ Kz => jv_Ev.steps jv_i96 2 (pc' := 210) (l' := [(6, .int (vr_b f.bit3)), (5, .int (1 : Int32)), (4, .int (Int32.ofInt f.i)), (3, .int (Int32.ofInt f.o)), (2, .int (vl_I f.n)), (0, .long w)]) (st' := [.int (8 : Int32), .int (Int32.ofInt f.o)]) rfl Kz) ?_
                          refine jv_Wp.cnd jv_i96 (pt := 230) (pe := 213) (p := ((Int32.ofInt f.o) = (8 : Int32))) (q := ((Int32.ofInt f.o) = (8 : Int32))) rfl jv_bc_eq rfl rfl Iff.rfl (fun h62 => ?_) (fun h62 => ?_)
                          · refine jv_Wp.lift (fun _ Kz => jv_Ev.steps jv_i96 2 (pc' := 235) (l' := [(6, .int (vr_b f.bit3)), (5, .int (1 : Int32)), (4, .int (Int32.ofInt f.i)), (3, .int (Int32.ofInt f.o)), (2, .int (vl_I f.n)), (0, .long w)]) (st' := [.int (1 : Int32)]) rfl Kz) ?_
                            refine jv_Wp.of (jv_Ev.ret jv_i96 rfl (jv_ret_b (Or.inr rfl))) ?_
                            have x1 : f.kind = 7 := (vl_I_inj (a := f.kind) (b := 7) (Nat.lt_trans bk (by decide)) (by decide)).mp (Classical.not_not.mp h1)
                            have x2 : ¬ 9 < f.d := fun z => h37 ((vl_I_lt (a := 9) (b := f.d) (by decide) bd).mpr z)
                            have x3 : f.n ≤ 13 := (vl_I_le (a := f.n) (b := 13) bn (by decide)).mp h38
                            have x4 : ¬ f.n = 13 := fun z => h39 ((vl_I_inj (a := f.n) (b := 13) (Nat.lt_trans bn (by decide)) (by decide)).mpr z)
                            have b5 := vf_b3t (vr_b_t h40)
                            have y6 : f.i = 0 := (vw_dQ ef).symm.trans (congrArg Int32.toInt (Classical.not_not.mp h53))
                            have x7 : f.s < 11 := (vl_I_lt (a := f.s) (b := 11) bs (by decide)).mp h54
                            have x8 : ¬ f.n = 8 := fun z => h55 ((vl_I_inj (a := f.n) (b := 8) (Nat.lt_trans bn (by decide)) (by decide)).mpr z)
                            have x9 : ¬ f.n = 3 := fun z => h56 ((vl_I_inj (a := f.n) (b := 3) (Nat.lt_trans bn (by decide)) (by decide)).mpr z)
                            have x10 : ¬ f.n = 9 := fun z => h59 ((vl_I_inj (a := f.n) (b := 9) (Nat.lt_trans bn (by decide)) (by decide)).mpr z)
                            have y11 : ¬ f.o = 0 := fun z => h60 (Int32.toInt_inj.mp ((vw_dO ef).trans (z.trans rfl)))
                            have x12 : f.n = 11 := (vl_I_inj (a := f.n) (b := 11) (Nat.lt_trans bn (by decide)) (by decide)).mp (Classical.not_not.mp h61)
                            have y13 : f.o = 8 := (vw_dO ef).symm.trans (congrArg Int32.toInt h62)
                            have ev : decide (vf_pA f) = true := decide_eq_true ((vf_pA_11 (by omega)).mpr (by omega))
                            rw [ev] at hQ
                            exact hQ
                          · refine jv_Wp.lift (fun _ Kz => jv_Ev.steps jv_i96 2 (pc' := 216) (l' := [(6, .int (vr_b f.bit3)), (5, .int (1 : Int32)), (4, .int (Int32.ofInt f.i)), (3, .int (Int32.ofInt f.o)), (2, .int (vl_I f.n)), (0, .long w)]) (st' := [.int (16 : Int32), .int (Int32.ofInt f.o)]) rfl Kz) ?_
                            refine jv_Wp.cnd jv_i96 (pt := 230) (pe := 219) (p := ((Int32.ofInt f.o) = (16 : Int32))) (q := ((Int32.ofInt f.o) = (16 : Int32))) rfl jv_bc_eq rfl rfl Iff.rfl (fun h63 => ?_) (fun h63 => ?_)
                            · refine jv_Wp.lift (fun _ Kz => jv_Ev.steps jv_i96 2 (pc' := 235) (l' := [(6, .int (vr_b f.bit3)), (5, .int (1 : Int32)), (4, .int (Int32.ofInt f.i)), (3, .int (Int32.ofInt f.o)), (2, .int (vl_I f.n)), (0, .long w)]) (st' := [.int (1 : Int32)]) rfl Kz) ?_
                              refine jv_Wp.of (jv_Ev.ret jv_i96 rfl (jv_ret_b (Or.inr rfl))) ?_
                              have x1 : f.kind = 7 := (vl_I_inj (a := f.kind) (b := 7) (Nat.lt_trans bk (by decide)) (by decide)).mp (Classical.not_not.mp h1)
                              have x2 : ¬ 9 < f.d := fun z => h37 ((vl_I_lt (a := 9) (b := f.d) (by decide) bd).mpr z)
                              have x3 : f.n ≤ 13 := (vl_I_le (a := f.n) (b := 13) bn (by decide)).mp h38
                              have x4 : ¬ f.n = 13 := fun z => h39 ((vl_I_inj (a := f.n) (b := 13) (Nat.lt_trans bn (by decide)) (by decide)).mpr z)
                              have b5 := vf_b3t (vr_b_t h40)
                              have y6 : f.i = 0 := (vw_dQ ef).symm.trans (congrArg Int32.toInt (Classical.not_not.mp h53))
                              have x7 : f.s < 11 := (vl_I_lt (a := f.s) (b := 11) bs (by decide)).mp h54
                              have x8 : ¬ f.n = 8 := fun z => h55 ((vl_I_inj (a := f.n) (b := 8) (Nat.lt_trans bn (by decide)) (by decide)).mpr z)
                              have x9 : ¬ f.n = 3 := fun z => h56 ((vl_I_inj (a := f.n) (b := 3) (Nat.lt_trans bn (by decide)) (by decide)).mpr z)
                              have x10 : ¬ f.n = 9 := fun z => h59 ((vl_I_inj (a := f.n) (b := 9) (Nat.lt_trans bn (by decide)) (by decide)).mpr z)
                              have y11 : ¬ f.o = 0 := fun z => h60 (Int32.toInt_inj.mp ((vw_dO ef).trans (z.trans rfl)))
                              have x12 : f.n = 11 := (vl_I_inj (a := f.n) (b := 11) (Nat.lt_trans bn (by decide)) (by decide)).mp (Classical.not_not.mp h61)
                              have y13 : ¬ f.o = 8 := fun z => h62 (Int32.toInt_inj.mp ((vw_dO ef).trans (z.trans rfl)))
                              have y14 : f.o = 16 := (vw_dO ef).symm.trans (congrArg Int32.toInt h63)
                              have ev : decide (vf_pA f) = true := decide_eq_true ((vf_pA_11 (by omega)).mpr (by omega))
                              rw [ev] at hQ
                              exact hQ
                            · refine jv_Wp.lift (fun _ Kz => jv_Ev.steps jv_i96 2 (pc' := 222) (l' := [(6, .int (vr_b f.bit3)), (5, .int (1 : Int32)), (4, .int (Int32.ofInt f.i)), (3, .int (Int32.ofInt f.o)), (2, .int (vl_I f.n)), (0, .long w)]) (st' := [.int (32 : Int32), .int (Int32.ofInt f.o)]) rfl Kz) ?_
                              refine jv_Wp.cnd jv_i96 (pt := 234) (pe := 225) (p := (¬ (Int32.ofInt f.o) = (32 : Int32))) (q := (¬ (Int32.ofInt f.o) = (32 : Int32))) rfl jv_bc_ne rfl rfl Iff.rfl (fun h64 => ?_) (fun h64 => ?_)
                              · refine jv_Wp.lift (fun _ Kz => jv_Ev.steps jv_i96 1 (pc' := 235) (l' := [(6, .int (vr_b f.bit3)), (5, .int (1 : Int32)), (4, .int (Int32.ofInt f.i)), (3, .int (Int32.ofInt f.o)), (2, .int (vl_I f.n)), (0, .long w)]) (st' := [.int (0 : Int32)]) rfl Kz) ?_
                                refine jv_Wp.of (jv_Ev.ret jv_i96 rfl (jv_ret_b (Or.inl rfl))) ?_
                                have x1 : f.kind = 7 := (vl_I_inj (a := f.kind) (b := 7) (Nat.lt_trans bk (by decide)) (by decide)).mp (Classical.not_not.mp h1)
                                have x2 : ¬ 9 < f.d := fun z => h37 ((vl_I_lt (a := 9) (b := f.d) (by decide) bd).mpr z)
                                have x3 : f.n ≤ 13 := (vl_I_le (a := f.n) (b := 13) bn (by decide)).mp h38
                                have x4 : ¬ f.n = 13 := fun z => h39 ((vl_I_inj (a := f.n) (b := 13) (Nat.lt_trans bn (by decide)) (by decide)).mpr z)
                                have b5 := vf_b3t (vr_b_t h40)
                                have y6 : f.i = 0 := (vw_dQ ef).symm.trans (congrArg Int32.toInt (Classical.not_not.mp h53))
                                have x7 : f.s < 11 := (vl_I_lt (a := f.s) (b := 11) bs (by decide)).mp h54
                                have x8 : ¬ f.n = 8 := fun z => h55 ((vl_I_inj (a := f.n) (b := 8) (Nat.lt_trans bn (by decide)) (by decide)).mpr z)
                                have x9 : ¬ f.n = 3 := fun z => h56 ((vl_I_inj (a := f.n) (b := 3) (Nat.lt_trans bn (by decide)) (by decide)).mpr z)
                                have x10 : ¬ f.n = 9 := fun z => h59 ((vl_I_inj (a := f.n) (b := 9) (Nat.lt_trans bn (by decide)) (by decide)).mpr z)
                                have y11 : ¬ f.o = 0 := fun z => h60 (Int32.toInt_inj.mp ((vw_dO ef).trans (z.trans rfl)))
                                have x12 : f.n = 11 := (vl_I_inj (a := f.n) (b := 11) (Nat.lt_trans bn (by decide)) (by decide)).mp (Classical.not_not.mp h61)
                                have y13 : ¬ f.o = 8 := fun z => h62 (Int32.toInt_inj.mp ((vw_dO ef).trans (z.trans rfl)))
                                have y14 : ¬ f.o = 16 := fun z => h63 (Int32.toInt_inj.mp ((vw_dO ef).trans (z.trans rfl)))
                                have y15 : ¬ f.o = 32 := fun z => h64 (Int32.toInt_inj.mp ((vw_dO ef).trans (z.trans rfl)))
                                have ev : decide (vf_pA f) = false := decide_eq_false (fun z => by have y := (vf_pA_11 (by omega)).mp z; omega)
                                rw [ev] at hQ
                                exact hQ
                              · refine jv_Wp.lift (fun _ Kz => jv_Ev.steps jv_i96 1 (pc' := 227) (l' := [(6, .int (vr_b f.bit3)), (5, .int (1 : Int32)), (4, .int (Int32.ofInt f.i)), (3, .int (Int32.ofInt f.o)), (2, .int (vl_I f.n)), (0, .long w)]) (st' := [.int (1 : Int32)]) rfl Kz) ?_
                                refine jv_Wp.lift (fun _ Kz => jv_Ev.br jv_i96 (pc' := 230) (st' := []) rfl (by rfl) Kz) ?_
                                refine jv_Wp.lift (fun _ Kz => jv_Ev.steps jv_i96 2 (pc' := 235) (l' := [(6, .int (vr_b f.bit3)), (5, .int (1 : Int32)), (4, .int (Int32.ofInt f.i)), (3, .int (Int32.ofInt f.o)), (2, .int (vl_I f.n)), (0, .long w)]) (st' := [.int (1 : Int32)]) rfl Kz) ?_
                                refine jv_Wp.of (jv_Ev.ret jv_i96 rfl (jv_ret_b (Or.inr rfl))) ?_
                                have x1 : f.kind = 7 := (vl_I_inj (a := f.kind) (b := 7) (Nat.lt_trans bk (by decide)) (by decide)).mp (Classical.not_not.mp h1)
                                have x2 : ¬ 9 < f.d := fun z => h37 ((vl_I_lt (a := 9) (b := f.d) (by decide) bd).mpr z)
                                have x3 : f.n ≤ 13 := (vl_I_le (a := f.n) (b := 13) bn (by decide)).mp h38
                                have x4 : ¬ f.n = 13 := fun z => h39 ((vl_I_inj (a := f.n) (b := 13) (Nat.lt_trans bn (by decide)) (by decide)).mpr z)
                                have b5 := vf_b3t (vr_b_t h40)
                                have y6 : f.i = 0 := (vw_dQ ef).symm.trans (congrArg Int32.toInt (Classical.not_not.mp h53))
                                have x7 : f.s < 11 := (vl_I_lt (a := f.s) (b := 11) bs (by decide)).mp h54
                                have x8 : ¬ f.n = 8 := fun z => h55 ((vl_I_inj (a := f.n) (b := 8) (Nat.lt_trans bn (by decide)) (by decide)).mpr z)
                                have x9 : ¬ f.n = 3 := fun z => h56 ((vl_I_inj (a := f.n) (b := 3) (Nat.lt_trans bn (by decide)) (by decide)).mpr z)
                                have x10 : ¬ f.n = 9 := fun z => h59 ((vl_I_inj (a := f.n) (b := 9) (Nat.lt_trans bn (by decide)) (by decide)).mpr z)
                                have y11 : ¬ f.o = 0 := fun z => h60 (Int32.toInt_inj.mp ((vw_dO ef).trans (z.trans rfl)))
                                have x12 : f.n = 11 := (vl_I_inj (a := f.n) (b := 11) (Nat.lt_trans bn (by decide)) (by decide)).mp (Classical.not_not.mp h61)
                                have y13 : ¬ f.o = 8 := fun z => h62 (Int32.toInt_inj.mp ((vw_dO ef).trans (z.trans rfl)))
                                have y14 : ¬ f.o = 16 := fun z => h63 (Int32.toInt_inj.mp ((vw_dO ef).trans (z.trans rfl)))
                                have y15 : f.o = 32 := (vw_dO ef).symm.trans (congrArg Int32.toInt (Classical.not_not.mp h64))
                                have ev : decide (vf_pA f) = true := decide_eq_true ((vf_pA_11 (by omega)).mpr (by omega))
                                rw [ev] at hQ
                                exact hQ
                    · refine jv_Wp.lift (fun _ Kz => jv_Ev.steps jv_i96 1 (pc' := 178) (l' := [(6, .int (vr_b f.bit3)), (5, .int (1 : Int32)), (4, .int (Int32.ofInt f.i)), (3, .int (Int32.ofInt f.o)), (2, .int (vl_I f.n)), (0, .long w)]) (st' := [.int (Int32.ofInt f.o)]) rfl Kz) ?_
                      refine jv_Wp.cnd jv_i96 (pt := 186) (pe := 181) (p := ((Int32.ofInt f.o) = 0)) (q := ((Int32.ofInt f.o) = 0)) rfl jv_bi_eq rfl rfl Iff.rfl (fun h65 => ?_) (fun h65 => ?_)
                      · refine jv_Wp.lift (fun _ Kz => jv_Ev.steps jv_i96 2 (pc' := 191) (l' := [(6, .int (vr_b f.bit3)), (5, .int (1 : Int32)), (4, .int (Int32.ofInt f.i)), (3, .int (Int32.ofInt f.o)), (2, .int (vl_I f.n)), (0, .long w)]) (st' := [.int (1 : Int32)]) rfl Kz) ?_
                        refine jv_Wp.of (jv_Ev.ret jv_i96 rfl (jv_ret_b (Or.inr rfl))) ?_
                        have x1 : f.kind = 7 := (vl_I_inj (a := f.kind) (b := 7) (Nat.lt_trans bk (by decide)) (by decide)).mp (Classical.not_not.mp h1)
                        have x2 : ¬ 9 < f.d := fun z => h37 ((vl_I_lt (a := 9) (b := f.d) (by decide) bd).mpr z)
                        have x3 : f.n ≤ 13 := (vl_I_le (a := f.n) (b := 13) bn (by decide)).mp h38
                        have x4 : ¬ f.n = 13 := fun z => h39 ((vl_I_inj (a := f.n) (b := 13) (Nat.lt_trans bn (by decide)) (by decide)).mpr z)
                        have b5 := vf_b3t (vr_b_t h40)
                        have y6 : f.i = 0 := (vw_dQ ef).symm.trans (congrArg Int32.toInt (Classical.not_not.mp h53))
                        have x7 : f.s < 11 := (vl_I_lt (a := f.s) (b := 11) bs (by decide)).mp h54
                        have x8 : ¬ f.n = 8 := fun z => h55 ((vl_I_inj (a := f.n) (b := 8) (Nat.lt_trans bn (by decide)) (by decide)).mpr z)
                        have x9 : ¬ f.n = 3 := fun z => h56 ((vl_I_inj (a := f.n) (b := 3) (Nat.lt_trans bn (by decide)) (by decide)).mpr z)
                        have x10 : f.n = 9 := (vl_I_inj (a := f.n) (b := 9) (Nat.lt_trans bn (by decide)) (by decide)).mp (Classical.not_not.mp h59)
                        have y11 : f.o = 0 := (vw_dO ef).symm.trans (congrArg Int32.toInt h65)
                        have ev : decide (vf_pA f) = true := decide_eq_true ((vf_pA_3 (by omega)).mpr (by omega))
                        rw [ev] at hQ
                        exact hQ
                      · refine jv_Wp.lift (fun _ Kz => jv_Ev.steps jv_i96 2 (pc' := 183) (l' := [(6, .int (vr_b f.bit3)), (5, .int (1 : Int32)), (4, .int (Int32.ofInt f.i)), (3, .int (Int32.ofInt f.o)), (2, .int (vl_I f.n)), (0, .long w)]) (st' := [.int (1 : Int32), .int (Int32.ofInt f.o)]) rfl Kz) ?_
                        refine jv_Wp.cnd jv_i96 (pt := 190) (pe := 186) (p := (¬ (Int32.ofInt f.o) = (1 : Int32))) (q := (¬ (Int32.ofInt f.o) = (1 : Int32))) rfl jv_bc_ne rfl rfl Iff.rfl (fun h66 => ?_) (fun h66 => ?_)
                        · refine jv_Wp.lift (fun _ Kz => jv_Ev.steps jv_i96 1 (pc' := 191) (l' := [(6, .int (vr_b f.bit3)), (5, .int (1 : Int32)), (4, .int (Int32.ofInt f.i)), (3, .int (Int32.ofInt f.o)), (2, .int (vl_I f.n)), (0, .long w)]) (st' := [.int (0 : Int32)]) rfl Kz) ?_
                          refine jv_Wp.of (jv_Ev.ret jv_i96 rfl (jv_ret_b (Or.inl rfl))) ?_
                          have x1 : f.kind = 7 := (vl_I_inj (a := f.kind) (b := 7) (Nat.lt_trans bk (by decide)) (by decide)).mp (Classical.not_not.mp h1)
                          have x2 : ¬ 9 < f.d := fun z => h37 ((vl_I_lt (a := 9) (b := f.d) (by decide) bd).mpr z)
                          have x3 : f.n ≤ 13 := (vl_I_le (a := f.n) (b := 13) bn (by decide)).mp h38
                          have x4 : ¬ f.n = 13 := fun z => h39 ((vl_I_inj (a := f.n) (b := 13) (Nat.lt_trans bn (by decide)) (by decide)).mpr z)
                          have b5 := vf_b3t (vr_b_t h40)
                          have y6 : f.i = 0 := (vw_dQ ef).symm.trans (congrArg Int32.toInt (Classical.not_not.mp h53))
                          have x7 : f.s < 11 := (vl_I_lt (a := f.s) (b := 11) bs (by decide)).mp h54
                          have x8 : ¬ f.n = 8 := fun z => h55 ((vl_I_inj (a := f.n) (b := 8) (Nat.lt_trans bn (by decide)) (by decide)).mpr z)
                          have x9 : ¬ f.n = 3 := fun z => h56 ((vl_I_inj (a := f.n) (b := 3) (Nat.lt_trans bn (by decide)) (by decide)).mpr z)
                          have x10 : f.n = 9 := (vl_I_inj (a := f.n) (b := 9) (Nat.lt_trans bn (by decide)) (by decide)).mp (Classical.not_not.mp h59)
                          have y11 : ¬ f.o = 0 := fun z => h65 (Int32.toInt_inj.mp ((vw_dO ef).trans (z.trans rfl)))
                          have y12 : ¬ f.o = 1 := fun z => h66 (Int32.toInt_inj.mp ((vw_dO ef).trans (z.trans rfl)))
                          have ev : decide (vf_pA f) = false := decide_eq_false (fun z => by have y := (vf_pA_3 (by omega)).mp z; omega)
                          rw [ev] at hQ
                          exact hQ
                        · refine jv_Wp.lift (fun _ Kz => jv_Ev.steps jv_i96 2 (pc' := 191) (l' := [(6, .int (vr_b f.bit3)), (5, .int (1 : Int32)), (4, .int (Int32.ofInt f.i)), (3, .int (Int32.ofInt f.o)), (2, .int (vl_I f.n)), (0, .long w)]) (st' := [.int (1 : Int32)]) rfl Kz) ?_
                          refine jv_Wp.of (jv_Ev.ret jv_i96 rfl (jv_ret_b (Or.inr rfl))) ?_
                          have x1 : f.kind = 7 := (vl_I_inj (a := f.kind) (b := 7) (Nat.lt_trans bk (by decide)) (by decide)).mp (Classical.not_not.mp h1)
                          have x2 : ¬ 9 < f.d := fun z => h37 ((vl_I_lt (a := 9) (b := f.d) (by decide) bd).mpr z)
                          have x3 : f.n ≤ 13 := (vl_I_le (a := f.n) (b := 13) bn (by decide)).mp h38
                          have x4 : ¬ f.n = 13 := fun z => h39 ((vl_I_inj (a := f.n) (b := 13) (Nat.lt_trans bn (by decide)) (by decide)).mpr z)
                          have b5 := vf_b3t (vr_b_t h40)
                          have y6 : f.i = 0 := (vw_dQ ef).symm.trans (congrArg Int32.toInt (Classical.not_not.mp h53))
                          have x7 : f.s < 11 := (vl_I_lt (a := f.s) (b := 11) bs (by decide)).mp h54
                          have x8 : ¬ f.n = 8 := fun z => h55 ((vl_I_inj (a := f.n) (b := 8) (Nat.lt_trans bn (by decide)) (by decide)).mpr z)
                          have x9 : ¬ f.n = 3 := fun z => h56 ((vl_I_inj (a := f.n) (b := 3) (Nat.lt_trans bn (by decide)) (by decide)).mpr z)
                          have x10 : f.n = 9 := (vl_I_inj (a := f.n) (b := 9) (Nat.lt_trans bn (by decide)) (by decide)).mp (Classical.not_not.mp h59)
                          have y11 : ¬ f.o = 0 := fun z => h65 (Int32.toInt_inj.mp ((vw_dO ef).trans (z.trans rfl)))
                          have y12 : f.o = 1 := (vw_dO ef).symm.trans (congrArg Int32.toInt (Classical.not_not.mp h66))
                          have ev : decide (vf_pA f) = true := decide_eq_true ((vf_pA_3 (by omega)).mpr (by omega))
                          rw [ev] at hQ
                          exact hQ
                · refine jv_Wp.lift (fun _ Kz => jv_Ev.steps jv_i96 1 (pc' := 148) (l' := [(6, .int (vr_b f.bit3)), (5, .int (1 : Int32)), (4, .int (Int32.ofInt f.i)), (3, .int (Int32.ofInt f.o)), (2, .int (vl_I f.n)), (0, .long w)]) (st' := [.int (vr_b f.bit3)]) rfl Kz) ?_
                  refine jv_Wp.cnd jv_i96 (pt := 164) (pe := 151) (p := (¬ (vr_b f.bit3) = 0)) (q := (¬ (vr_b f.bit3) = 0)) rfl jv_bi_ne rfl rfl Iff.rfl (fun _ => ?_) (fun hz => absurd h40 hz)
                  refine jv_Wp.lift (fun _ Kz => jv_Ev.steps jv_i96 1 (pc' := 165) (l' := [(6, .int (vr_b f.bit3)), (5, .int (1 : Int32)), (4, .int (Int32.ofInt f.i)), (3, .int (Int32.ofInt f.o)), (2, .int (vl_I f.n)), (0, .long w)]) (st' := [.int (0 : Int32)]) rfl Kz) ?_
                  refine jv_Wp.of (jv_Ev.ret jv_i96 rfl (jv_ret_b (Or.inl rfl))) ?_
                  have x1 : f.kind = 7 := (vl_I_inj (a := f.kind) (b := 7) (Nat.lt_trans bk (by decide)) (by decide)).mp (Classical.not_not.mp h1)
                  have x2 : ¬ 9 < f.d := fun z => h37 ((vl_I_lt (a := 9) (b := f.d) (by decide) bd).mpr z)
                  have x3 : f.n ≤ 13 := (vl_I_le (a := f.n) (b := 13) bn (by decide)).mp h38
                  have x4 : ¬ f.n = 13 := fun z => h39 ((vl_I_inj (a := f.n) (b := 13) (Nat.lt_trans bn (by decide)) (by decide)).mpr z)
                  have b5 := vf_b3t (vr_b_t h40)
                  have y6 : f.i = 0 := (vw_dQ ef).symm.trans (congrArg Int32.toInt (Classical.not_not.mp h53))
                  have x7 : f.s < 11 := (vl_I_lt (a := f.s) (b := 11) bs (by decide)).mp h54
                  have x8 : f.n = 8 := (vl_I_inj (a := f.n) (b := 8) (Nat.lt_trans bn (by decide)) (by decide)).mp (Classical.not_not.mp h55)
                  have ev : decide (vf_pA f) = false := decide_eq_false (fun z => by have y := (vf_pA_8 (by omega)).mp z; omega)
                  rw [ev] at hQ
                  exact hQ
              · refine jv_Wp.lift (fun _ Kz => jv_Ev.steps jv_i96 2 (pc' := 139) (l' := [(6, .int (vr_b f.bit3)), (5, .int (1 : Int32)), (4, .int (Int32.ofInt f.i)), (3, .int (Int32.ofInt f.o)), (2, .int (vl_I f.n)), (0, .long w)]) (st' := [.int (0 : Int32)]) rfl Kz) ?_
                refine jv_Wp.of (jv_Ev.ret jv_i96 rfl (jv_ret_b (Or.inl rfl))) ?_
                have x1 : f.kind = 7 := (vl_I_inj (a := f.kind) (b := 7) (Nat.lt_trans bk (by decide)) (by decide)).mp (Classical.not_not.mp h1)
                have x2 : ¬ 9 < f.d := fun z => h37 ((vl_I_lt (a := 9) (b := f.d) (by decide) bd).mpr z)
                have x3 : f.n ≤ 13 := (vl_I_le (a := f.n) (b := 13) bn (by decide)).mp h38
                have x4 : ¬ f.n = 13 := fun z => h39 ((vl_I_inj (a := f.n) (b := 13) (Nat.lt_trans bn (by decide)) (by decide)).mpr z)
                have b5 := vf_b3t (vr_b_t h40)
                have y6 : f.i = 0 := (vw_dQ ef).symm.trans (congrArg Int32.toInt (Classical.not_not.mp h53))
                have x7 : ¬ f.s < 11 := fun z => h54 ((vl_I_lt (a := f.s) (b := 11) bs (by decide)).mpr z)
                have ev : decide (vf_pA f) = false := decide_eq_false (fun z => by have y1 := vf_pA_le z; first | omega | (have y2 := vf_pA_S (by omega) z; omega))
                rw [ev] at hQ
                exact hQ
        · refine jv_Wp.lift (fun _ Kz => jv_Ev.steps jv_i96 1 (pc' := 62) (l' := [(6, .int (vr_b f.bit3)), (5, .int (1 : Int32)), (4, .int (Int32.ofInt f.i)), (3, .int (Int32.ofInt f.o)), (2, .int (vl_I f.n)), (0, .long w)]) (st' := [.long w]) rfl Kz) ?_
          refine jv_Wp.lift (fun _ Kz => jv_Ev.c jv_i96 (pc' := 65) (S' := [.int (vl_I f.s)]) jv_i87 [.long w] rfl rfl rfl rfl rfl rfl (vw_f87 ef) rfl rfl Kz) ?_
          refine jv_Wp.cnd jv_i96 (pt := 107) (pe := 68) (p := (¬ (vl_I f.s) = 0)) (q := (¬ (vl_I f.s) = 0)) rfl jv_bi_ne rfl rfl Iff.rfl (fun h67 => ?_) (fun h67 => ?_)
          · refine jv_Wp.lift (fun _ Kz => jv_Ev.steps jv_i96 1 (pc' := 108) (l' := [(6, .int (vr_b f.bit3)), (5, .int (1 : Int32)), (4, .int (Int32.ofInt f.i)), (3, .int (Int32.ofInt f.o)), (2, .int (vl_I f.n)), (0, .long w)]) (st' := [.int (0 : Int32)]) rfl Kz) ?_
            refine jv_Wp.of (jv_Ev.ret jv_i96 rfl (jv_ret_b (Or.inl rfl))) ?_
            have x1 : f.kind = 7 := (vl_I_inj (a := f.kind) (b := 7) (Nat.lt_trans bk (by decide)) (by decide)).mp (Classical.not_not.mp h1)
            have x2 : ¬ 9 < f.d := fun z => h37 ((vl_I_lt (a := 9) (b := f.d) (by decide) bd).mpr z)
            have x3 : f.n ≤ 13 := (vl_I_le (a := f.n) (b := 13) bn (by decide)).mp h38
            have x4 : f.n = 13 := (vl_I_inj (a := f.n) (b := 13) (Nat.lt_trans bn (by decide)) (by decide)).mp (Classical.not_not.mp h39)
            have x5 : ¬ f.s = 0 := fun z => h67 ((vl_I_inj (a := f.s) (b := 0) (Nat.lt_trans bs (by decide)) (by decide)).mpr z)
            have ev : decide (vf_pA f) = false := decide_eq_false (fun z => by have y := (vf_pA_13 (by omega)).mp z; omega)
            rw [ev] at hQ
            exact hQ
          · refine jv_Wp.lift (fun _ Kz => jv_Ev.steps jv_i96 1 (pc' := 69) (l' := [(6, .int (vr_b f.bit3)), (5, .int (1 : Int32)), (4, .int (Int32.ofInt f.i)), (3, .int (Int32.ofInt f.o)), (2, .int (vl_I f.n)), (0, .long w)]) (st' := [.int (Int32.ofInt f.o)]) rfl Kz) ?_
            refine jv_Wp.cnd jv_i96 (pt := 107) (pe := 72) (p := (¬ (Int32.ofInt f.o) = 0)) (q := (¬ (Int32.ofInt f.o) = 0)) rfl jv_bi_ne rfl rfl Iff.rfl (fun h68 => ?_) (fun h68 => ?_)
            · refine jv_Wp.lift (fun _ Kz => jv_Ev.steps jv_i96 1 (pc' := 108) (l' := [(6, .int (vr_b f.bit3)), (5, .int (1 : Int32)), (4, .int (Int32.ofInt f.i)), (3, .int (Int32.ofInt f.o)), (2, .int (vl_I f.n)), (0, .long w)]) (st' := [.int (0 : Int32)]) rfl Kz) ?_
              refine jv_Wp.of (jv_Ev.ret jv_i96 rfl (jv_ret_b (Or.inl rfl))) ?_
              have x1 : f.kind = 7 := (vl_I_inj (a := f.kind) (b := 7) (Nat.lt_trans bk (by decide)) (by decide)).mp (Classical.not_not.mp h1)
              have x2 : ¬ 9 < f.d := fun z => h37 ((vl_I_lt (a := 9) (b := f.d) (by decide) bd).mpr z)
              have x3 : f.n ≤ 13 := (vl_I_le (a := f.n) (b := 13) bn (by decide)).mp h38
              have x4 : f.n = 13 := (vl_I_inj (a := f.n) (b := 13) (Nat.lt_trans bn (by decide)) (by decide)).mp (Classical.not_not.mp h39)
              have x5 : f.s = 0 := (vl_I_inj (a := f.s) (b := 0) (Nat.lt_trans bs (by decide)) (by decide)).mp (Classical.not_not.mp h67)
              have y6 : ¬ f.o = 0 := fun z => h68 (Int32.toInt_inj.mp ((vw_dO ef).trans (z.trans rfl)))
              have ev : decide (vf_pA f) = false := decide_eq_false (fun z => by have y := (vf_pA_13 (by omega)).mp z; omega)
              rw [ev] at hQ
              exact hQ
            · refine jv_Wp.lift (fun _ Kz => jv_Ev.steps jv_i96 2 (pc' := 76) (l' := [(6, .int (vr_b f.bit3)), (5, .int (1 : Int32)), (4, .int (Int32.ofInt f.i)), (3, .int (Int32.ofInt f.o)), (2, .int (vl_I f.n)), (0, .long w)]) (st' := [.int (16 : Int32), .int (Int32.ofInt f.i)]) rfl Kz) ?_
              refine jv_Wp.cnd jv_i96 (pt := 93) (pe := 79) (p := ((Int32.ofInt f.i) = (16 : Int32))) (q := ((Int32.ofInt f.i) = (16 : Int32))) rfl jv_bc_eq rfl rfl Iff.rfl (fun h69 => ?_) (fun h69 => ?_)
              · refine jv_Wp.lift (fun _ Kz => jv_Ev.steps jv_i96 1 (pc' := 95) (l' := [(6, .int (vr_b f.bit3)), (5, .int (1 : Int32)), (4, .int (Int32.ofInt f.i)), (3, .int (Int32.ofInt f.o)), (2, .int (vl_I f.n)), (0, .long w)]) (st' := [.int (1 : Int32)]) rfl Kz) ?_
                refine jv_Wp.lift (fun _ Kz => jv_Ev.br jv_i96 (pc' := 98) (st' := []) rfl (by rfl) Kz) ?_
                refine jv_Wp.lift (fun _ Kz => jv_Ev.steps jv_i96 1 (pc' := 100) (l' := [(6, .int (vr_b f.bit3)), (5, .int (1 : Int32)), (4, .int (Int32.ofInt f.i)), (3, .int (Int32.ofInt f.o)), (2, .int (vl_I f.n)), (0, .long w)]) (st' := [.int (vr_b f.bit3)]) rfl Kz) ?_
                refine jv_Wp.cnd jv_i96 (pt := 107) (pe := 103) (p := (¬ (vr_b f.bit3) = 0)) (q := (¬ (vr_b f.bit3) = 0)) rfl jv_bi_ne rfl rfl Iff.rfl (fun h70 => ?_) (fun h70 => ?_)
                · refine jv_Wp.lift (fun _ Kz => jv_Ev.steps jv_i96 1 (pc' := 108) (l' := [(6, .int (vr_b f.bit3)), (5, .int (1 : Int32)), (4, .int (Int32.ofInt f.i)), (3, .int (Int32.ofInt f.o)), (2, .int (vl_I f.n)), (0, .long w)]) (st' := [.int (0 : Int32)]) rfl Kz) ?_
                  refine jv_Wp.of (jv_Ev.ret jv_i96 rfl (jv_ret_b (Or.inl rfl))) ?_
                  have x1 : f.kind = 7 := (vl_I_inj (a := f.kind) (b := 7) (Nat.lt_trans bk (by decide)) (by decide)).mp (Classical.not_not.mp h1)
                  have x2 : ¬ 9 < f.d := fun z => h37 ((vl_I_lt (a := 9) (b := f.d) (by decide) bd).mpr z)
                  have x3 : f.n ≤ 13 := (vl_I_le (a := f.n) (b := 13) bn (by decide)).mp h38
                  have x4 : f.n = 13 := (vl_I_inj (a := f.n) (b := 13) (Nat.lt_trans bn (by decide)) (by decide)).mp (Classical.not_not.mp h39)
                  have x5 : f.s = 0 := (vl_I_inj (a := f.s) (b := 0) (Nat.lt_trans bs (by decide)) (by decide)).mp (Classical.not_not.mp h67)
                  have y6 : f.o = 0 := (vw_dO ef).symm.trans (congrArg Int32.toInt (Classical.not_not.mp h68))
                  have y7 : f.i = 16 := (vw_dQ ef).symm.trans (congrArg Int32.toInt h69)
                  have b8 := vf_b3t (vr_b_t h70)
                  have ev : decide (vf_pA f) = false := decide_eq_false (fun z => by have y := (vf_pA_13 (by omega)).mp z; omega)
                  rw [ev] at hQ
                  exact hQ
                · refine jv_Wp.lift (fun _ Kz => jv_Ev.steps jv_i96 2 (pc' := 108) (l' := [(6, .int (vr_b f.bit3)), (5, .int (1 : Int32)), (4, .int (Int32.ofInt f.i)), (3, .int (Int32.ofInt f.o)), (2, .int (vl_I f.n)), (0, .long w)]) (st' := [.int (1 : Int32)]) rfl Kz) ?_
                  refine jv_Wp.of (jv_Ev.ret jv_i96 rfl (jv_ret_b (Or.inr rfl))) ?_
                  have x1 : f.kind = 7 := (vl_I_inj (a := f.kind) (b := 7) (Nat.lt_trans bk (by decide)) (by decide)).mp (Classical.not_not.mp h1)
                  have x2 : ¬ 9 < f.d := fun z => h37 ((vl_I_lt (a := 9) (b := f.d) (by decide) bd).mpr z)
                  have x3 : f.n ≤ 13 := (vl_I_le (a := f.n) (b := 13) bn (by decide)).mp h38
                  have x4 : f.n = 13 := (vl_I_inj (a := f.n) (b := 13) (Nat.lt_trans bn (by decide)) (by decide)).mp (Classical.not_not.mp h39)
                  have x5 : f.s = 0 := (vl_I_inj (a := f.s) (b := 0) (Nat.lt_trans bs (by decide)) (by decide)).mp (Classical.not_not.mp h67)
                  have y6 : f.o = 0 := (vw_dO ef).symm.trans (congrArg Int32.toInt (Classical.not_not.mp h68))
                  have y7 : f.i = 16 := (vw_dQ ef).symm.trans (congrArg Int32.toInt h69)
                  have b8 := vf_b3f (vr_b_f (Classical.not_not.mp h70))
                  have ev : decide (vf_pA f) = true := decide_eq_true ((vf_pA_13 (by omega)).mpr (by omega))
                  rw [ev] at hQ
                  exact hQ
              · refine jv_Wp.lift (fun _ Kz => jv_Ev.steps jv_i96 2 (pc' := 83) (l' := [(6, .int (vr_b f.bit3)), (5, .int (1 : Int32)), (4, .int (Int32.ofInt f.i)), (3, .int (Int32.ofInt f.o)), (2, .int (vl_I f.n)), (0, .long w)]) (st' := [.int (32 : Int32), .int (Int32.ofInt f.i)]) rfl Kz) ?_
                refine jv_Wp.cnd jv_i96 (pt := 93) (pe := 86) (p := ((Int32.ofInt f.i) = (32 : Int32))) (q := ((Int32.ofInt f.i) = (32 : Int32))) rfl jv_bc_eq rfl rfl Iff.rfl (fun h71 => ?_) (fun h71 => ?_)
                · refine jv_Wp.lift (fun _ Kz => jv_Ev.steps jv_i96 1 (pc' := 95) (l' := [(6, .int (vr_b f.bit3)), (5, .int (1 : Int32)), (4, .int (Int32.ofInt f.i)), (3, .int (Int32.ofInt f.o)), (2, .int (vl_I f.n)), (0, .long w)]) (st' := [.int (1 : Int32)]) rfl Kz) ?_
                  refine jv_Wp.lift (fun _ Kz => jv_Ev.br jv_i96 (pc' := 98) (st' := []) rfl (by rfl) Kz) ?_
                  refine jv_Wp.lift (fun _ Kz => jv_Ev.steps jv_i96 1 (pc' := 100) (l' := [(6, .int (vr_b f.bit3)), (5, .int (1 : Int32)), (4, .int (Int32.ofInt f.i)), (3, .int (Int32.ofInt f.o)), (2, .int (vl_I f.n)), (0, .long w)]) (st' := [.int (vr_b f.bit3)]) rfl Kz) ?_
                  refine jv_Wp.cnd jv_i96 (pt := 107) (pe := 103) (p := (¬ (vr_b f.bit3) = 0)) (q := (¬ (vr_b f.bit3) = 0)) rfl jv_bi_ne rfl rfl Iff.rfl (fun h72 => ?_) (fun h72 => ?_)
                  · refine jv_Wp.lift (fun _ Kz => jv_Ev.steps jv_i96 1 (pc' := 108) (l' := [(6, .int (vr_b f.bit3)), (5, .int (1 : Int32)), (4, .int (Int32.ofInt f.i)), (3, .int (Int32.ofInt f.o)), (2, .int (vl_I f.n)), (0, .long w)]) (st' := [.int (0 : Int32)]) rfl Kz) ?_
                    refine jv_Wp.of (jv_Ev.ret jv_i96 rfl (jv_ret_b (Or.inl rfl))) ?_
                    have x1 : f.kind = 7 := (vl_I_inj (a := f.kind) (b := 7) (Nat.lt_trans bk (by decide)) (by decide)).mp (Classical.not_not.mp h1)
                    have x2 : ¬ 9 < f.d := fun z => h37 ((vl_I_lt (a := 9) (b := f.d) (by decide) bd).mpr z)
                    have x3 : f.n ≤ 13 := (vl_I_le (a := f.n) (b := 13) bn (by decide)).mp h38
                    have x4 : f.n = 13 := (vl_I_inj (a := f.n) (b := 13) (Nat.lt_trans bn (by decide)) (by decide)).mp (Classical.not_not.mp h39)
                    have x5 : f.s = 0 := (vl_I_inj (a := f.s) (b := 0) (Nat.lt_trans bs (by decide)) (by decide)).mp (Classical.not_not.mp h67)
                    have y6 : f.o = 0 := (vw_dO ef).symm.trans (congrArg Int32.toInt (Classical.not_not.mp h68))
                    have y7 : ¬ f.i = 16 := fun z => h69 (Int32.toInt_inj.mp ((vw_dQ ef).trans (z.trans rfl)))
                    have y8 : f.i = 32 := (vw_dQ ef).symm.trans (congrArg Int32.toInt h71)
                    have b9 := vf_b3t (vr_b_t h72)
                    have ev : decide (vf_pA f) = false := decide_eq_false (fun z => by have y := (vf_pA_13 (by omega)).mp z; omega)
                    rw [ev] at hQ
                    exact hQ
                  · refine jv_Wp.lift (fun _ Kz => jv_Ev.steps jv_i96 2 (pc' := 108) (l' := [(6, .int (vr_b f.bit3)), (5, .int (1 : Int32)), (4, .int (Int32.ofInt f.i)), (3, .int (Int32.ofInt f.o)), (2, .int (vl_I f.n)), (0, .long w)]) (st' := [.int (1 : Int32)]) rfl Kz) ?_
                    refine jv_Wp.of (jv_Ev.ret jv_i96 rfl (jv_ret_b (Or.inr rfl))) ?_
                    have x1 : f.kind = 7 := (vl_I_inj (a := f.kind) (b := 7) (Nat.lt_trans bk (by decide)) (by decide)).mp (Classical.not_not.mp h1)
                    have x2 : ¬ 9 < f.d := fun z => h37 ((vl_I_lt (a := 9) (b := f.d) (by decide) bd).mpr z)
                    have x3 : f.n ≤ 13 := (vl_I_le (a := f.n) (b := 13) bn (by decide)).mp h38
                    have x4 : f.n = 13 := (vl_I_inj (a := f.n) (b := 13) (Nat.lt_trans bn (by decide)) (by decide)).mp (Classical.not_not.mp h39)
                    have x5 : f.s = 0 := (vl_I_inj (a := f.s) (b := 0) (Nat.lt_trans bs (by decide)) (by decide)).mp (Classical.not_not.mp h67)
                    have y6 : f.o = 0 := (vw_dO ef).symm.trans (congrArg Int32.toInt (Classical.not_not.mp h68))
                    have y7 : ¬ f.i = 16 := fun z => h69 (Int32.toInt_inj.mp ((vw_dQ ef).trans (z.trans rfl)))
                    have y8 : f.i = 32 := (vw_dQ ef).symm.trans (congrArg Int32.toInt h71)
                    have b9 := vf_b3f (vr_b_f (Classical.not_not.mp h72))
                    have ev : decide (vf_pA f) = true := decide_eq_true ((vf_pA_13 (by omega)).mpr (by omega))
                    rw [ev] at hQ
                    exact hQ
                · refine jv_Wp.lift (fun _ Kz => jv_Ev.steps jv_i96 2 (pc' := 90) (l' := [(6, .int (vr_b f.bit3)), (5, .int (1 : Int32)), (4, .int (Int32.ofInt f.i)), (3, .int (Int32.ofInt f.o)), (2, .int (vl_I f.n)), (0, .long w)]) (st' := [.int (64 : Int32), .int (Int32.ofInt f.i)]) rfl Kz) ?_
                  refine jv_Wp.cnd jv_i96 (pt := 107) (pe := 93) (p := (¬ (Int32.ofInt f.i) = (64 : Int32))) (q := (¬ (Int32.ofInt f.i) = (64 : Int32))) rfl jv_bc_ne rfl rfl Iff.rfl (fun h73 => ?_) (fun h73 => ?_)
                  · refine jv_Wp.lift (fun _ Kz => jv_Ev.steps jv_i96 1 (pc' := 108) (l' := [(6, .int (vr_b f.bit3)), (5, .int (1 : Int32)), (4, .int (Int32.ofInt f.i)), (3, .int (Int32.ofInt f.o)), (2, .int (vl_I f.n)), (0, .long w)]) (st' := [.int (0 : Int32)]) rfl Kz) ?_
                    refine jv_Wp.of (jv_Ev.ret jv_i96 rfl (jv_ret_b (Or.inl rfl))) ?_
                    have x1 : f.kind = 7 := (vl_I_inj (a := f.kind) (b := 7) (Nat.lt_trans bk (by decide)) (by decide)).mp (Classical.not_not.mp h1)
                    have x2 : ¬ 9 < f.d := fun z => h37 ((vl_I_lt (a := 9) (b := f.d) (by decide) bd).mpr z)
                    have x3 : f.n ≤ 13 := (vl_I_le (a := f.n) (b := 13) bn (by decide)).mp h38
                    have x4 : f.n = 13 := (vl_I_inj (a := f.n) (b := 13) (Nat.lt_trans bn (by decide)) (by decide)).mp (Classical.not_not.mp h39)
                    have x5 : f.s = 0 := (vl_I_inj (a := f.s) (b := 0) (Nat.lt_trans bs (by decide)) (by decide)).mp (Classical.not_not.mp h67)
                    have y6 : f.o = 0 := (vw_dO ef).symm.trans (congrArg Int32.toInt (Classical.not_not.mp h68))
                    have y7 : ¬ f.i = 16 := fun z => h69 (Int32.toInt_inj.mp ((vw_dQ ef).trans (z.trans rfl)))
                    have y8 : ¬ f.i = 32 := fun z => h71 (Int32.toInt_inj.mp ((vw_dQ ef).trans (z.trans rfl)))
                    have y9 : ¬ f.i = 64 := fun z => h73 (Int32.toInt_inj.mp ((vw_dQ ef).trans (z.trans rfl)))
                    have ev : decide (vf_pA f) = false := decide_eq_false (fun z => by have y := (vf_pA_13 (by omega)).mp z; omega)
                    rw [ev] at hQ
                    exact hQ
                  · refine jv_Wp.lift (fun _ Kz => jv_Ev.steps jv_i96 1 (pc' := 95) (l' := [(6, .int (vr_b f.bit3)), (5, .int (1 : Int32)), (4, .int (Int32.ofInt f.i)), (3, .int (Int32.ofInt f.o)), (2, .int (vl_I f.n)), (0, .long w)]) (st' := [.int (1 : Int32)]) rfl Kz) ?_
                    refine jv_Wp.lift (fun _ Kz => jv_Ev.br jv_i96 (pc' := 98) (st' := []) rfl (by rfl) Kz) ?_
                    refine jv_Wp.lift (fun _ Kz => jv_Ev.steps jv_i96 1 (pc' := 100) (l' := [(6, .int (vr_b f.bit3)), (5, .int (1 : Int32)), (4, .int (Int32.ofInt f.i)), (3, .int (Int32.ofInt f.o)), (2, .int (vl_I f.n)), (0, .long w)]) (st' := [.int (vr_b f.bit3)]) rfl Kz) ?_
                    refine jv_Wp.cnd jv_i96 (pt := 107) (pe := 103) (p := (¬ (vr_b f.bit3) = 0)) (q := (¬ (vr_b f.bit3) = 0)) rfl jv_bi_ne rfl rfl Iff.rfl (fun h74 => ?_) (fun h74 => ?_)
                    · refine jv_Wp.lift (fun _ Kz => jv_Ev.steps jv_i96 1 (pc' := 108) (l' := [(6, .int (vr_b f.bit3)), (5, .int (1 : Int32)), (4, .int (Int32.ofInt f.i)), (3, .int (Int32.ofInt f.o)), (2, .int (vl_I f.n)), (0, .long w)]) (st' := [.int (0 : Int32)]) rfl Kz) ?_
                      refine jv_Wp.of (jv_Ev.ret jv_i96 rfl (jv_ret_b (Or.inl rfl))) ?_
                      have x1 : f.kind = 7 := (vl_I_inj (a := f.kind) (b := 7) (Nat.lt_trans bk (by decide)) (by decide)).mp (Classical.not_not.mp h1)
                      have x2 : ¬ 9 < f.d := fun z => h37 ((vl_I_lt (a := 9) (b := f.d) (by decide) bd).mpr z)
                      have x3 : f.n ≤ 13 := (vl_I_le (a := f.n) (b := 13) bn (by decide)).mp h38
                      have x4 : f.n = 13 := (vl_I_inj (a := f.n) (b := 13) (Nat.lt_trans bn (by decide)) (by decide)).mp (Classical.not_not.mp h39)
                      have x5 : f.s = 0 := (vl_I_inj (a := f.s) (b := 0) (Nat.lt_trans bs (by decide)) (by decide)).mp (Classical.not_not.mp h67)
                      have y6 : f.o = 0 := (vw_dO ef).symm.trans (congrArg Int32.toInt (Classical.not_not.mp h68))
                      have y7 : ¬ f.i = 16 := fun z => h69 (Int32.toInt_inj.mp ((vw_dQ ef).trans (z.trans rfl)))
                      have y8 : ¬ f.i = 32 := fun z => h71 (Int32.toInt_inj.mp ((vw_dQ ef).trans (z.trans rfl)))
                      have y9 : f.i = 64 := (vw_dQ ef).symm.trans (congrArg Int32.toInt (Classical.not_not.mp h73))
                      have b10 := vf_b3t (vr_b_t h74)
                      have ev : decide (vf_pA f) = false := decide_eq_false (fun z => by have y := (vf_pA_13 (by omega)).mp z; omega)
                      rw [ev] at hQ
                      exact hQ
                    · refine jv_Wp.lift (fun _ Kz => jv_Ev.steps jv_i96 2 (pc' := 108) (l' := [(6, .int (vr_b f.bit3)), (5, .int (1 : Int32)), (4, .int (Int32.ofInt f.i)), (3, .int (Int32.ofInt f.o)), (2, .int (vl_I f.n)), (0, .long w)]) (st' := [.int (1 : Int32)]) rfl Kz) ?_
                      refine jv_Wp.of (jv_Ev.ret jv_i96 rfl (jv_ret_b (Or.inr rfl))) ?_
                      have x1 : f.kind = 7 := (vl_I_inj (a := f.kind) (b := 7) (Nat.lt_trans bk (by decide)) (by decide)).mp (Classical.not_not.mp h1)
                      have x2 : ¬ 9 < f.d := fun z => h37 ((vl_I_lt (a := 9) (b := f.d) (by decide) bd).mpr z)
                      have x3 : f.n ≤ 13 := (vl_I_le (a := f.n) (b := 13) bn (by decide)).mp h38
                      have x4 : f.n = 13 := (vl_I_inj (a := f.n) (b := 13) (Nat.lt_trans bn (by decide)) (by decide)).mp (Classical.not_not.mp h39)
                      have x5 : f.s = 0 := (vl_I_inj (a := f.s) (b := 0) (Nat.lt_trans bs (by decide)) (by decide)).mp (Classical.not_not.mp h67)
                      have y6 : f.o = 0 := (vw_dO ef).symm.trans (congrArg Int32.toInt (Classical.not_not.mp h68))
                      have y7 : ¬ f.i = 16 := fun z => h69 (Int32.toInt_inj.mp ((vw_dQ ef).trans (z.trans rfl)))
                      have y8 : ¬ f.i = 32 := fun z => h71 (Int32.toInt_inj.mp ((vw_dQ ef).trans (z.trans rfl)))
                      have y9 : f.i = 64 := (vw_dQ ef).symm.trans (congrArg Int32.toInt (Classical.not_not.mp h73))
                      have b10 := vf_b3f (vr_b_f (Classical.not_not.mp h74))
                      have ev : decide (vf_pA f) = true := decide_eq_true ((vf_pA_13 (by omega)).mpr (by omega))
                      rw [ev] at hQ
                      exact hQ
      · refine jv_Wp.lift (fun _ Kz => jv_Ev.steps jv_i96 1 (pc' := 54) (l' := [(6, .int (vr_b f.bit3)), (5, .int (1 : Int32)), (4, .int (Int32.ofInt f.i)), (3, .int (Int32.ofInt f.o)), (2, .int (vl_I f.n)), (0, .long w)]) (st' := [.int (0 : Int32)]) rfl Kz) ?_
        refine jv_Wp.of (jv_Ev.ret jv_i96 rfl (jv_ret_b (Or.inl rfl))) ?_
        have x1 : f.kind = 7 := (vl_I_inj (a := f.kind) (b := 7) (Nat.lt_trans bk (by decide)) (by decide)).mp (Classical.not_not.mp h1)
        have x2 : ¬ 9 < f.d := fun z => h37 ((vl_I_lt (a := 9) (b := f.d) (by decide) bd).mpr z)
        have x3 : ¬ f.n ≤ 13 := fun z => h38 ((vl_I_le (a := f.n) (b := 13) bn (by decide)).mpr z)
        have ev : decide (vf_pA f) = false := decide_eq_false (fun z => by have y1 := vf_pA_le z; first | omega | (have y2 := vf_pA_S (by omega) z; omega))
        rw [ev] at hQ
        exact hQ
theorem vc_isReckoning {K : Nat → Option (Nat × Nat)} {I : Nat → Nat → Int32} {L : Nat → Nat → Int64} {R : Nat → Nat → Value} {w : Int64} {f : vf_F} (ef : vc_F w = f) (hk : f.kind = 4 ∨ f.kind = 7) {n sl : Nat} : jv_Ms 96 [.long w] (jv_H K I L R) n sl (some (.int (vr_b (decide (vf_pA f)))), jv_H K I L R, n, sl) := by
  have h := vc_isReckoning_ (n := n) (sl := sl) (K := K) (I := I) (L := L) (R := R) ef hk (Q := fun X => X = (some (.int (vr_b (decide (vf_pA f)))), jv_H K I L R, n, sl)) rfl
  obtain ⟨X, h, e⟩ := h
  subst e
  exact h