/-! part e15: where a place of the class goes to (gen/te15.py) -/
abbrev vc_bj (f : vf_F) : Prop := (f.kind = 5 ∨ f.kind = 6) ∧ f.code ≠ 133
/-- whether all places to which place p goes on are there, as the class asks -/
abbrev vc_gw (W : Nat → Int64) (len : Nat) (f : vf_F) (p : Nat) : Prop := f.code = 149 ∨ ((f.code = 5 ∨ f.code = 6) ∧ vc_fst W len (vf_gl f p)) ∨ ((f.code ≠ 149 ∧ f.code ≠ 5 ∧ f.code ≠ 6) ∧ (vc_bj f → vc_fst W len (vf_gl f p)) ∧ vf_nx f p < len)
theorem vf_gl_b {w : Int64} {f : vf_F} (ef : vc_F w = f) {p : Nat} (hp : p < 1024) : -1099511627776 ≤ vf_gl f p ∧ vf_gl f p ≤ 1099511627776 := by
  have o1 := (Int32.ofInt f.o).toInt_lt; have o2 := (Int32.ofInt f.o).le_toInt; have o3 := (Int32.ofInt f.i).toInt_lt; have o4 := (Int32.ofInt f.i).le_toInt
  rw [vw_dO ef] at o1 o2; rw [vw_dQ ef] at o3 o4
  unfold vf_gl; split <;> omega
theorem vi_p2J {p : Nat} (h : p < 2147483000) : ((vl_I p) + (2 : Int32)).toInt64 = Int64.ofInt ((p : Int) + 2) := by
  rw [vl_I_p2]
  refine Int64.toInt_inj.mp ?_
  rw [vi_I64 (by omega), vi_J (by omega)]; omega
theorem vc_gw_9 {W : Nat → Int64} {len p : Nat} {f : vf_F} (h : f.code = 149) : vc_gw W len f p := Or.inl h
theorem vc_gw_56 {W : Nat → Int64} {len p : Nat} {f : vf_F} (h : f.code = 5 ∨ f.code = 6) : vc_gw W len f p ↔ vc_fst W len (vf_gl f p) :=
  ⟨fun z => z.elim (fun y => absurd y (by omega)) (fun y => y.elim (fun x => x.2) (fun x => absurd x.1 (by omega))), fun z => Or.inr (Or.inl ⟨h, z⟩)⟩
theorem vc_gw_n {W : Nat → Int64} {len p : Nat} {f : vf_F} (h : f.code ≠ 149 ∧ f.code ≠ 5 ∧ f.code ≠ 6) : vc_gw W len f p ↔ ((vc_bj f → vc_fst W len (vf_gl f p)) ∧ vf_nx f p < len) :=
  ⟨fun z => z.elim (fun y => absurd y h.1) (fun y => y.elim (fun x => absurd x.1 (by omega)) (fun x => x.2)), fun z => Or.inr (Or.inr ⟨h, z⟩)⟩
theorem jv_i98 : jv_I 98 6 (some .boolean) 3 65 jv_c98 := ⟨rfl, rfl, rfl, rfl, rfl⟩
theorem vc_gw_97 {K : Nat → Option (Nat × Nat)} {I : Nat → Nat → Int32} {L : Nat → Nat → Int64} {R : Nat → Nat → Value} {pr ws len : Nat} {W : Nat → Int64} (hP : vc_P K L R pr ws len W) {p : Nat} (hp : p < len) {f : vf_F} (ef : vc_F (W p) = f) (hc : f.code ≠ 149 ∧ f.code ≠ 5 ∧ f.code ≠ 6) (t5 : Bool) (h5 : t5 = decide (vc_bj f)) {n sl : Nat} {Q : jv_R → Prop} (hQ : Q (some (.int (vr_b (decide (vc_gw W len f p)))), jv_H K I L R, n, sl)) : jv_Wp 98 97 [(0, .ref pr), (1, .int (vl_I p)), (2, .long (W p)), (4, .int (vl_I f.code)), (5, .int (vr_b t5))] [] (jv_H K I L R) n sl Q := by
  have hle := hP.2.2.2.1
  have c1 := vw_dc ef
  have c2 := vw_dd ef
  have c3 := vw_ds ef
  have c4 : f.n = f.code / 16 := rfl
  have c5 : f.kind = f.code % 8 := rfl
  have c6 : f.mode = f.code / 32 := rfl
  have c7 := vf_z f
  have bn : f.n < 2147483648 := by omega
  have bk : f.kind < 2147483648 := by omega
  have bm : f.mode < 2147483648 := by omega
  have bz : f.z < 2147483648 := by omega
  have bc : f.code < 2147483648 := by omega
  have bd : f.d < 2147483648 := by omega
  have bs : f.s < 2147483648 := by omega
  refine jv_Wp.lift (fun _ Kz => jv_Ev.steps jv_i98 1 (pc' := 99) (l' := [(0, .ref pr), (1, .int (vl_I p)), (2, .long (W p)), (4, .int (vl_I f.code)), (5, .int (vr_b t5))]) (st' := [.int (vr_b t5)]) rfl Kz) ?_
  refine jv_Wp.cnd jv_i98 (pt := 121) (pe := 102) (p := ((vr_b t5) = 0)) (q := ((vr_b t5) = 0)) rfl jv_bi_eq rfl rfl Iff.rfl (fun h1 => ?_) (fun h1 => ?_)
  · refine jv_Wp.lift (fun _ Kz => jv_Ev.steps jv_i98 3 (pc' := 126) (l' := [(0, .ref pr), (1, .int (vl_I p)), (2, .long (W p)), (4, .int (vl_I f.code)), (5, .int (vr_b t5))]) (st' := [.int (24 : Int32), .int (vl_I f.code), .ref pr]) rfl Kz) ?_
    refine jv_Wp.cnd jv_i98 (pt := 136) (pe := 129) (p := (¬ (vl_I f.code) = (24 : Int32))) (q := (¬ (vl_I f.code) = (24 : Int32))) rfl jv_bc_ne rfl rfl Iff.rfl (fun h2 => ?_) (fun h2 => ?_)
    · refine jv_Wp.lift (fun _ Kz => jv_Ev.steps jv_i98 4 (pc' := 140) (l' := [(0, .ref pr), (1, .int (vl_I p)), (2, .long (W p)), (4, .int (vl_I f.code)), (5, .int (vr_b t5))]) (st' := [.long ((vl_I p) + (1 : Int32)).toInt64, .ref pr]) rfl Kz) ?_
      have H3 := vc_has (I := I) (L := L) (n := n) (sl := sl) (g := (p : Int) + 1) hP (by omega)
      rw [← show ((vl_I p) + (1 : Int32)).toInt64 = Int64.ofInt ((p : Int) + 1) from vi_p1J (by omega)] at H3
      refine jv_Wp.lift (fun _ Kz => jv_Ev.c jv_i98 (pc' := 143) (S' := [.int (vr_b (decide (0 ≤ (p : Int) + 1 ∧ (p : Int) + 1 < len)))]) jv_i77 [.ref pr, .long ((vl_I p) + (1 : Int32)).toInt64] rfl rfl rfl rfl (jv_cal rfl (jv_H_at hP.1) rfl rfl) rfl H3 rfl rfl Kz) ?_
      refine jv_Wp.of (jv_Ev.ret jv_i98 rfl (jv_ret_b (vr_b01 _))) ?_
      have x1 : ¬ f.code = 24 := fun z => h2 ((vl_I_inj (a := f.code) (b := 24) (Nat.lt_trans bc (by decide)) (by decide)).mpr z)
      have q5 : ¬ vc_bj f := of_decide_eq_false (h5.symm.trans (vr_b_f h1))
      have enx : vf_nx f p = p + 1 := by unfold vf_nx; rw [if_neg (by omega)]
      rw [show decide (vc_gw W len f p) = (decide (0 ≤ (p : Int) + 1 ∧ (p : Int) + 1 < len)) from decide_eq_decide.mpr ((vc_gw_n (by omega)).trans ⟨fun z => ⟨by omega, by have := z.2; omega⟩, fun z => ⟨(fun y => absurd y q5), by have := z.2; omega⟩⟩)] at hQ
      exact hQ
    · refine jv_Wp.lift (fun _ Kz => jv_Ev.steps jv_i98 5 (pc' := 140) (l' := [(0, .ref pr), (1, .int (vl_I p)), (2, .long (W p)), (4, .int (vl_I f.code)), (5, .int (vr_b t5))]) (st' := [.long ((vl_I p) + (2 : Int32)).toInt64, .ref pr]) rfl Kz) ?_
      have H4 := vc_has (I := I) (L := L) (n := n) (sl := sl) (g := (p : Int) + 2) hP (by omega)
      rw [← show ((vl_I p) + (2 : Int32)).toInt64 = Int64.ofInt ((p : Int) + 2) from vi_p2J (by omega)] at H4
      refine jv_Wp.lift (fun _ Kz => jv_Ev.c jv_i98 (pc' := 143) (S' := [.int (vr_b (decide (0 ≤ (p : Int) + 2 ∧ (p : Int) + 2 < len)))]) jv_i77 [.ref pr, .long ((vl_I p) + (2 : Int32)).toInt64] rfl rfl rfl rfl (jv_cal rfl (jv_H_at hP.1) rfl rfl) rfl H4 rfl rfl Kz) ?_
      refine jv_Wp.of (jv_Ev.ret jv_i98 rfl (jv_ret_b (vr_b01 _))) ?_
      have x1 : f.code = 24 := (vl_I_inj (a := f.code) (b := 24) (Nat.lt_trans bc (by decide)) (by decide)).mp (Classical.not_not.mp h2)
      have q5 : ¬ vc_bj f := of_decide_eq_false (h5.symm.trans (vr_b_f h1))
      have enx : vf_nx f p = p + 2 := by unfold vf_nx; rw [if_pos (by omega)]
      rw [show decide (vc_gw W len f p) = (decide (0 ≤ (p : Int) + 2 ∧ (p : Int) + 2 < len)) from decide_eq_decide.mpr ((vc_gw_n (by omega)).trans ⟨fun z => ⟨by omega, by have := z.2; omega⟩, fun z => ⟨(fun y => absurd y q5), by have := z.2; omega⟩⟩)] at hQ
      exact hQ
  · refine jv_Wp.lift (fun _ Kz => jv_Ev.steps jv_i98 6 (pc' := 108) (l' := [(0, .ref pr), (1, .int (vl_I p)), (2, .long (W p)), (4, .int (vl_I f.code)), (5, .int (vr_b t5))]) (st' := [.long (W p), .long ((vl_I p).toInt64 + (1 : Int64)), .ref pr]) rfl Kz) ?_
    refine jv_Wp.lift (fun _ Kz => jv_Ev.c jv_i98 (pc' := 111) (S' := [.int (Int32.ofInt f.o), .long ((vl_I p).toInt64 + (1 : Int64)), .ref pr]) jv_i88 [.long (W p)] rfl rfl rfl rfl rfl rfl (vw_f88 ef) rfl rfl Kz) ?_
    refine jv_Wp.lift (fun _ Kz => jv_Ev.steps jv_i98 2 (pc' := 113) (l' := [(0, .ref pr), (1, .int (vl_I p)), (2, .long (W p)), (4, .int (vl_I f.code)), (5, .int (vr_b t5))]) (st' := [.long (((vl_I p).toInt64 + (1 : Int64)) + (Int32.ofInt f.o).toInt64), .ref pr]) rfl Kz) ?_
    have H5 := vc_isFirst (I := I) (L := L) (n := n) (sl := sl) (g := vf_gl f p) hP (vf_gl_b ef (by omega))
    rw [← show (((vl_I p).toInt64 + (1 : Int64)) + (Int32.ofInt f.o).toInt64) = Int64.ofInt (vf_gl f p) from (vi_gw (by omega) (vw_dO ef)).trans (by unfold vf_gl; rw [if_neg (by omega)])] at H5
    refine jv_Wp.lift (fun _ Kz => jv_Ev.c jv_i98 (pc' := 116) (S' := [.int (vr_b (decide (vc_fst W len (vf_gl f p))))]) jv_i99 [.ref pr, .long (((vl_I p).toInt64 + (1 : Int64)) + (Int32.ofInt f.o).toInt64)] rfl rfl rfl rfl (jv_cal rfl (jv_H_at hP.1) rfl rfl) rfl H5 rfl rfl Kz) ?_
    refine jv_Wp.cnd jv_i98 (pt := 121) (pe := 119) (p := (¬ (vr_b (decide (vc_fst W len (vf_gl f p)))) = 0)) (q := (¬ (vr_b (decide (vc_fst W len (vf_gl f p)))) = 0)) rfl jv_bi_ne rfl rfl Iff.rfl (fun h3 => ?_) (fun h3 => ?_)
    · refine jv_Wp.lift (fun _ Kz => jv_Ev.steps jv_i98 3 (pc' := 126) (l' := [(0, .ref pr), (1, .int (vl_I p)), (2, .long (W p)), (4, .int (vl_I f.code)), (5, .int (vr_b t5))]) (st' := [.int (24 : Int32), .int (vl_I f.code), .ref pr]) rfl Kz) ?_
      refine jv_Wp.cnd jv_i98 (pt := 136) (pe := 129) (p := (¬ (vl_I f.code) = (24 : Int32))) (q := (¬ (vl_I f.code) = (24 : Int32))) rfl jv_bc_ne rfl rfl Iff.rfl (fun h4 => ?_) (fun h4 => ?_)
      · refine jv_Wp.lift (fun _ Kz => jv_Ev.steps jv_i98 4 (pc' := 140) (l' := [(0, .ref pr), (1, .int (vl_I p)), (2, .long (W p)), (4, .int (vl_I f.code)), (5, .int (vr_b t5))]) (st' := [.long ((vl_I p) + (1 : Int32)).toInt64, .ref pr]) rfl Kz) ?_
        have H6 := vc_has (I := I) (L := L) (n := n) (sl := sl) (g := (p : Int) + 1) hP (by omega)
        rw [← show ((vl_I p) + (1 : Int32)).toInt64 = Int64.ofInt ((p : Int) + 1) from vi_p1J (by omega)] at H6
        refine jv_Wp.lift (fun _ Kz => jv_Ev.c jv_i98 (pc' := 143) (S' := [.int (vr_b (decide (0 ≤ (p : Int) + 1 ∧ (p : Int) + 1 < len)))]) jv_i77 [.ref pr, .long ((vl_I p) + (1 : Int32)).toInt64] rfl rfl rfl rfl (jv_cal rfl (jv_H_at hP.1) rfl rfl) rfl H6 rfl rfl Kz) ?_
        refine jv_Wp.of (jv_Ev.ret jv_i98 rfl (jv_ret_b (vr_b01 _))) ?_
        have x1 : ¬ f.code = 24 := fun z => h4 ((vl_I_inj (a := f.code) (b := 24) (Nat.lt_trans bc (by decide)) (by decide)).mpr z)
        have q5 : vc_bj f := of_decide_eq_true (h5.symm.trans (vr_b_t h1))
        have enx : vf_nx f p = p + 1 := by unfold vf_nx; rw [if_neg (by omega)]
        rw [show decide (vc_gw W len f p) = (decide (0 ≤ (p : Int) + 1 ∧ (p : Int) + 1 < len)) from decide_eq_decide.mpr ((vc_gw_n (by omega)).trans ⟨fun z => ⟨by omega, by have := z.2; omega⟩, fun z => ⟨(fun _ => (of_decide_eq_true (vr_b_t h3))), by have := z.2; omega⟩⟩)] at hQ
        exact hQ
      · refine jv_Wp.lift (fun _ Kz => jv_Ev.steps jv_i98 5 (pc' := 140) (l' := [(0, .ref pr), (1, .int (vl_I p)), (2, .long (W p)), (4, .int (vl_I f.code)), (5, .int (vr_b t5))]) (st' := [.long ((vl_I p) + (2 : Int32)).toInt64, .ref pr]) rfl Kz) ?_
        have H7 := vc_has (I := I) (L := L) (n := n) (sl := sl) (g := (p : Int) + 2) hP (by omega)
        rw [← show ((vl_I p) + (2 : Int32)).toInt64 = Int64.ofInt ((p : Int) + 2) from vi_p2J (by omega)] at H7
        refine jv_Wp.lift (fun _ Kz => jv_Ev.c jv_i98 (pc' := 143) (S' := [.int (vr_b (decide (0 ≤ (p : Int) + 2 ∧ (p : Int) + 2 < len)))]) jv_i77 [.ref pr, .long ((vl_I p) + (2 : Int32)).toInt64] rfl rfl rfl rfl (jv_cal rfl (jv_H_at hP.1) rfl rfl) rfl H7 rfl rfl Kz) ?_
        refine jv_Wp.of (jv_Ev.ret jv_i98 rfl (jv_ret_b (vr_b01 _))) ?_
        have x1 : f.code = 24 := (vl_I_inj (a := f.code) (b := 24) (Nat.lt_trans bc (by decide)) (by decide)).mp (Classical.not_not.mp h4)
        have q5 : vc_bj f := of_decide_eq_true (h5.symm.trans (vr_b_t h1))
        have enx : vf_nx f p = p + 2 := by unfold vf_nx; rw [if_pos (by omega)]
        rw [show decide (vc_gw W len f p) = (decide (0 ≤ (p : Int) + 2 ∧ (p : Int) + 2 < len)) from decide_eq_decide.mpr ((vc_gw_n (by omega)).trans ⟨fun z => ⟨by omega, by have := z.2; omega⟩, fun z => ⟨(fun _ => (of_decide_eq_true (vr_b_t h3))), by have := z.2; omega⟩⟩)] at hQ
        exact hQ
    · refine jv_Wp.lift (fun _ Kz => jv_Ev.steps jv_i98 1 (pc' := 120) (l' := [(0, .ref pr), (1, .int (vl_I p)), (2, .long (W p)), (4, .int (vl_I f.code)), (5, .int (vr_b t5))]) (st' := [.int (0 : Int32)]) rfl Kz) ?_
      refine jv_Wp.of (jv_Ev.ret jv_i98 rfl (jv_ret_b (Or.inl rfl))) ?_
      have q5 : vc_bj f := of_decide_eq_true (h5.symm.trans (vr_b_t h1))
      rw [show decide (vc_gw W len f p) = false from decide_eq_false (fun z => (of_decide_eq_false (vr_b_f (Classical.not_not.mp h3))) (((vc_gw_n (by omega)).mp z).1 q5))] at hQ
      exact hQ
theorem vc_gw_0 {K : Nat → Option (Nat × Nat)} {I : Nat → Nat → Int32} {L : Nat → Nat → Int64} {R : Nat → Nat → Value} {pr ws len : Nat} {W : Nat → Int64} (hP : vc_P K L R pr ws len W) {p : Nat} (hp : p < len) {f : vf_F} (ef : vc_F (W p) = f) {n sl : Nat} {Q : jv_R → Prop} (hQ : Q (some (.int (vr_b (decide (vc_gw W len f p)))), jv_H K I L R, n, sl)) (cont : (f.code ≠ 149 ∧ f.code ≠ 5 ∧ f.code ≠ 6) → ∀ t5, t5 = decide (vc_bj f) → jv_Wp 98 97 [(0, .ref pr), (1, .int (vl_I p)), (2, .long (W p)), (4, .int (vl_I f.code)), (5, .int (vr_b t5))] [] (jv_H K I L R) n sl Q) : jv_Wp 98 0 [(0, .ref pr), (1, .int (vl_I p))] [] (jv_H K I L R) n sl Q := by
  have hle := hP.2.2.2.1
  have c1 := vw_dc ef
  have c2 := vw_dd ef
  have c3 := vw_ds ef
  have c4 : f.n = f.code / 16 := rfl
  have c5 : f.kind = f.code % 8 := rfl
  have c6 : f.mode = f.code / 32 := rfl
  have c7 := vf_z f
  have bn : f.n < 2147483648 := by omega
  have bk : f.kind < 2147483648 := by omega
  have bm : f.mode < 2147483648 := by omega
  have bz : f.z < 2147483648 := by omega
  have bc : f.code < 2147483648 := by omega
  have bd : f.d < 2147483648 := by omega
  have bs : f.s < 2147483648 := by omega
  refine jv_Wp.lift (fun _ Kz => jv_Ev.steps jv_i98 2 (pc' := 2) (l' := [(0, .ref pr), (1, .int (vl_I p))]) (st' := [.int (vl_I p), .ref pr]) rfl Kz) ?_
  refine jv_Wp.lift (fun _ Kz => jv_Ev.c jv_i98 (pc' := 5) (S' := [.long (W p)]) jv_i78 [.ref pr, .int (vl_I p)] rfl rfl rfl rfl (jv_cal rfl (jv_H_at hP.1) rfl rfl) rfl (vc_wordq hP hp rfl) rfl rfl Kz) ?_
  refine jv_Wp.lift (fun _ Kz => jv_Ev.steps jv_i98 2 (pc' := 7) (l' := [(2, .long (W p)), (0, .ref pr), (1, .int (vl_I p))]) (st' := [.long (W p)]) rfl Kz) ?_
  refine jv_Wp.lift (fun _ Kz => jv_Ev.c jv_i98 (pc' := 10) (S' := [.int (vl_I f.code)]) jv_i80 [.long (W p)] rfl rfl rfl rfl rfl rfl (vw_f80 ef) rfl rfl Kz) ?_
  refine jv_Wp.lift (fun _ Kz => jv_Ev.steps jv_i98 3 (pc' := 17) (l' := [(4, .int (vl_I f.code)), (2, .long (W p)), (0, .ref pr), (1, .int (vl_I p))]) (st' := [.int (149 : Int32), .int (vl_I f.code)]) rfl Kz) ?_
  refine jv_Wp.cnd jv_i98 (pt := 22) (pe := 20) (p := (¬ (vl_I f.code) = (149 : Int32))) (q := (¬ (vl_I f.code) = (149 : Int32))) rfl jv_bc_ne rfl rfl Iff.rfl (fun h1 => ?_) (fun h1 => ?_)
  · refine jv_Wp.lift (fun _ Kz => jv_Ev.steps jv_i98 2 (pc' := 26) (l' := [(4, .int (vl_I f.code)), (2, .long (W p)), (0, .ref pr), (1, .int (vl_I p))]) (st' := [.int (6 : Int32), .int (vl_I f.code)]) rfl Kz) ?_
    refine jv_Wp.cnd jv_i98 (pt := 44) (pe := 29) (p := (¬ (vl_I f.code) = (6 : Int32))) (q := (¬ (vl_I f.code) = (6 : Int32))) rfl jv_bc_ne rfl rfl Iff.rfl (fun h2 => ?_) (fun h2 => ?_)
    · refine jv_Wp.lift (fun _ Kz => jv_Ev.steps jv_i98 2 (pc' := 47) (l' := [(4, .int (vl_I f.code)), (2, .long (W p)), (0, .ref pr), (1, .int (vl_I p))]) (st' := [.int (5 : Int32), .int (vl_I f.code)]) rfl Kz) ?_
      refine jv_Wp.cnd jv_i98 (pt := 65) (pe := 50) (p := (¬ (vl_I f.code) = (5 : Int32))) (q := (¬ (vl_I f.code) = (5 : Int32))) rfl jv_bc_ne rfl rfl Iff.rfl (fun h3 => ?_) (fun h3 => ?_)
      · refine jv_Wp.lift (fun _ Kz => jv_Ev.steps jv_i98 1 (pc' := 66) (l' := [(4, .int (vl_I f.code)), (2, .long (W p)), (0, .ref pr), (1, .int (vl_I p))]) (st' := [.long (W p)]) rfl Kz) ?_
        refine jv_Wp.lift (fun _ Kz => jv_Ev.c jv_i98 (pc' := 69) (S' := [.int (vl_I f.kind)]) jv_i81 [.long (W p)] rfl rfl rfl rfl rfl rfl (vw_f81 ef) rfl rfl Kz) ?_
        refine jv_Wp.lift (fun _ Kz => jv_Ev.steps jv_i98 1 (pc' := 70) (l' := [(4, .int (vl_I f.code)), (2, .long (W p)), (0, .ref pr), (1, .int (vl_I p))]) (st' := [.int (5 : Int32), .int (vl_I f.kind)]) rfl Kz) ?_
        refine jv_Wp.cnd jv_i98 (pt := 82) (pe := 73) (p := ((vl_I f.kind) = (5 : Int32))) (q := ((vl_I f.kind) = (5 : Int32))) rfl jv_bc_eq rfl rfl Iff.rfl (fun h4 => ?_) (fun h4 => ?_)
        · refine jv_Wp.lift (fun _ Kz => jv_Ev.steps jv_i98 2 (pc' := 87) (l' := [(4, .int (vl_I f.code)), (2, .long (W p)), (0, .ref pr), (1, .int (vl_I p))]) (st' := [.int (133 : Int32), .int (vl_I f.code)]) rfl Kz) ?_
          refine jv_Wp.cnd jv_i98 (pt := 94) (pe := 90) (p := ((vl_I f.code) = (133 : Int32))) (q := ((vl_I f.code) = (133 : Int32))) rfl jv_bc_eq rfl rfl Iff.rfl (fun h5 => ?_) (fun h5 => ?_)
          · refine jv_Wp.lift (fun _ Kz => jv_Ev.steps jv_i98 2 (pc' := 97) (l' := [(5, .int (0 : Int32)), (4, .int (vl_I f.code)), (2, .long (W p)), (0, .ref pr), (1, .int (vl_I p))]) (st' := []) rfl Kz) ?_
            refine jv_Wp.loc (l := [(0, .ref pr), (1, .int (vl_I p)), (2, .long (W p)), (4, .int (vl_I f.code)), (5, .int (0 : Int32))]) ⟨List.forall_mem_cons.mpr ⟨.tail _ (.tail _ (.tail _ (.head _))), List.forall_mem_cons.mpr ⟨.tail _ (.tail _ (.tail _ (.tail _ (.head _)))), List.forall_mem_cons.mpr ⟨.tail _ (.tail _ (.head _)), List.forall_mem_cons.mpr ⟨.tail _ (.head _), List.forall_mem_cons.mpr ⟨.head _, fun _ h => absurd h List.not_mem_nil⟩⟩⟩⟩⟩, by show List.Nodup [5, 4, 2, 0, 1]; decide⟩ ?_
            have x1 : ¬ f.code = 149 := fun z => h1 ((vl_I_inj (a := f.code) (b := 149) (Nat.lt_trans bc (by decide)) (by decide)).mpr z)
            have x2 : ¬ f.code = 6 := fun z => h2 ((vl_I_inj (a := f.code) (b := 6) (Nat.lt_trans bc (by decide)) (by decide)).mpr z)
            have x3 : ¬ f.code = 5 := fun z => h3 ((vl_I_inj (a := f.code) (b := 5) (Nat.lt_trans bc (by decide)) (by decide)).mpr z)
            have x4 : f.kind = 5 := (vl_I_inj (a := f.kind) (b := 5) (Nat.lt_trans bk (by decide)) (by decide)).mp h4
            have x5 : f.code = 133 := (vl_I_inj (a := f.code) (b := 133) (Nat.lt_trans bc (by decide)) (by decide)).mp h5
            exact cont (by omega) false (decide_eq_false (by omega)).symm
          · refine jv_Wp.lift (fun _ Kz => jv_Ev.steps jv_i98 3 (pc' := 97) (l' := [(5, .int (1 : Int32)), (4, .int (vl_I f.code)), (2, .long (W p)), (0, .ref pr), (1, .int (vl_I p))]) (st' := []) rfl Kz) ?_
            refine jv_Wp.loc (l := [(0, .ref pr), (1, .int (vl_I p)), (2, .long (W p)), (4, .int (vl_I f.code)), (5, .int (1 : Int32))]) ⟨List.forall_mem_cons.mpr ⟨.tail _ (.tail _ (.tail _ (.head _))), List.forall_mem_cons.mpr ⟨.tail _ (.tail _ (.tail _ (.tail _ (.head _)))), List.forall_mem_cons.mpr ⟨.tail _ (.tail _ (.head _)), List.forall_mem_cons.mpr ⟨.tail _ (.head _), List.forall_mem_cons.mpr ⟨.head _, fun _ h => absurd h List.not_mem_nil⟩⟩⟩⟩⟩, by show List.Nodup [5, 4, 2, 0, 1]; decide⟩ ?_
            have x1 : ¬ f.code = 149 := fun z => h1 ((vl_I_inj (a := f.code) (b := 149) (Nat.lt_trans bc (by decide)) (by decide)).mpr z)
            have x2 : ¬ f.code = 6 := fun z => h2 ((vl_I_inj (a := f.code) (b := 6) (Nat.lt_trans bc (by decide)) (by decide)).mpr z)
            have x3 : ¬ f.code = 5 := fun z => h3 ((vl_I_inj (a := f.code) (b := 5) (Nat.lt_trans bc (by decide)) (by decide)).mpr z)
            have x4 : f.kind = 5 := (vl_I_inj (a := f.kind) (b := 5) (Nat.lt_trans bk (by decide)) (by decide)).mp h4
            have x5 : ¬ f.code = 133 := fun z => h5 ((vl_I_inj (a := f.code) (b := 133) (Nat.lt_trans bc (by decide)) (by decide)).mpr z)
            exact cont (by omega) true (decide_eq_true (by omega)).symm
        · refine jv_Wp.lift (fun _ Kz => jv_Ev.steps jv_i98 1 (pc' := 74) (l' := [(4, .int (vl_I f.code)), (2, .long (W p)), (0, .ref pr), (1, .int (vl_I p))]) (st' := [.long (W p)]) rfl Kz) ?_
          refine jv_Wp.lift (fun _ Kz => jv_Ev.c jv_i98 (pc' := 77) (S' := [.int (vl_I f.kind)]) jv_i81 [.long (W p)] rfl rfl rfl rfl rfl rfl (vw_f81 ef) rfl rfl Kz) ?_
          refine jv_Wp.lift (fun _ Kz => jv_Ev.steps jv_i98 1 (pc' := 79) (l' := [(4, .int (vl_I f.code)), (2, .long (W p)), (0, .ref pr), (1, .int (vl_I p))]) (st' := [.int (6 : Int32), .int (vl_I f.kind)]) rfl Kz) ?_
          refine jv_Wp.cnd jv_i98 (pt := 94) (pe := 82) (p := (¬ (vl_I f.kind) = (6 : Int32))) (q := (¬ (vl_I f.kind) = (6 : Int32))) rfl jv_bc_ne rfl rfl Iff.rfl (fun h6 => ?_) (fun h6 => ?_)
          · refine jv_Wp.lift (fun _ Kz => jv_Ev.steps jv_i98 2 (pc' := 97) (l' := [(5, .int (0 : Int32)), (4, .int (vl_I f.code)), (2, .long (W p)), (0, .ref pr), (1, .int (vl_I p))]) (st' := []) rfl Kz) ?_
            refine jv_Wp.loc (l := [(0, .ref pr), (1, .int (vl_I p)), (2, .long (W p)), (4, .int (vl_I f.code)), (5, .int (0 : Int32))]) ⟨List.forall_mem_cons.mpr ⟨.tail _ (.tail _ (.tail _ (.head _))), List.forall_mem_cons.mpr ⟨.tail _ (.tail _ (.tail _ (.tail _ (.head _)))), List.forall_mem_cons.mpr ⟨.tail _ (.tail _ (.head _)), List.forall_mem_cons.mpr ⟨.tail _ (.head _), List.forall_mem_cons.mpr ⟨.head _, fun _ h => absurd h List.not_mem_nil⟩⟩⟩⟩⟩, by show List.Nodup [5, 4, 2, 0, 1]; decide⟩ ?_
            have x1 : ¬ f.code = 149 := fun z => h1 ((vl_I_inj (a := f.code) (b := 149) (Nat.lt_trans bc (by decide)) (by decide)).mpr z)
            have x2 : ¬ f.code = 6 := fun z => h2 ((vl_I_inj (a := f.code) (b := 6) (Nat.lt_trans bc (by decide)) (by decide)).mpr z)
            have x3 : ¬ f.code = 5 := fun z => h3 ((vl_I_inj (a := f.code) (b := 5) (Nat.lt_trans bc (by decide)) (by decide)).mpr z)
            have x4 : ¬ f.kind = 5 := fun z => h4 ((vl_I_inj (a := f.kind) (b := 5) (Nat.lt_trans bk (by decide)) (by decide)).mpr z)
            have x5 : ¬ f.kind = 6 := fun z => h6 ((vl_I_inj (a := f.kind) (b := 6) (Nat.lt_trans bk (by decide)) (by decide)).mpr z)
            exact cont (by omega) false (decide_eq_false (by omega)).symm
          · refine jv_Wp.lift (fun _ Kz => jv_Ev.steps jv_i98 2 (pc' := 87) (l' := [(4, .int (vl_I f.code)), (2, .long (W p)), (0, .ref pr), (1, .int (vl_I p))]) (st' := [.int (133 : Int32), .int (vl_I f.code)]) rfl Kz) ?_
            refine jv_Wp.cnd jv_i98 (pt := 94) (pe := 90) (p := ((vl_I f.code) = (133 : Int32))) (q := ((vl_I f.code) = (133 : Int32))) rfl jv_bc_eq rfl rfl Iff.rfl (fun h7 => ?_) (fun h7 => ?_)
            · refine jv_Wp.lift (fun _ Kz => jv_Ev.steps jv_i98 2 (pc' := 97) (l' := [(5, .int (0 : Int32)), (4, .int (vl_I f.code)), (2, .long (W p)), (0, .ref pr), (1, .int (vl_I p))]) (st' := []) rfl Kz) ?_
              refine jv_Wp.loc (l := [(0, .ref pr), (1, .int (vl_I p)), (2, .long (W p)), (4, .int (vl_I f.code)), (5, .int (0 : Int32))]) ⟨List.forall_mem_cons.mpr ⟨.tail _ (.tail _ (.tail _ (.head _))), List.forall_mem_cons.mpr ⟨.tail _ (.tail _ (.tail _ (.tail _ (.head _)))), List.forall_mem_cons.mpr ⟨.tail _ (.tail _ (.head _)), List.forall_mem_cons.mpr ⟨.tail _ (.head _), List.forall_mem_cons.mpr ⟨.head _, fun _ h => absurd h List.not_mem_nil⟩⟩⟩⟩⟩, by show List.Nodup [5, 4, 2, 0, 1]; decide⟩ ?_
              have x1 : ¬ f.code = 149 := fun z => h1 ((vl_I_inj (a := f.code) (b := 149) (Nat.lt_trans bc (by decide)) (by decide)).mpr z)
              have x2 : ¬ f.code = 6 := fun z => h2 ((vl_I_inj (a := f.code) (b := 6) (Nat.lt_trans bc (by decide)) (by decide)).mpr z)
              have x3 : ¬ f.code = 5 := fun z => h3 ((vl_I_inj (a := f.code) (b := 5) (Nat.lt_trans bc (by decide)) (by decide)).mpr z)
              have x4 : ¬ f.kind = 5 := fun z => h4 ((vl_I_inj (a := f.kind) (b := 5) (Nat.lt_trans bk (by decide)) (by decide)).mpr z)
              have x5 : f.kind = 6 := (vl_I_inj (a := f.kind) (b := 6) (Nat.lt_trans bk (by decide)) (by decide)).mp (Classical.not_not.mp h6)
              have x6 : f.code = 133 := (vl_I_inj (a := f.code) (b := 133) (Nat.lt_trans bc (by decide)) (by decide)).mp h7
              exact cont (by omega) false (decide_eq_false (by omega)).symm
            · refine jv_Wp.lift (fun _ Kz => jv_Ev.steps jv_i98 3 (pc' := 97) (l' := [(5, .int (1 : Int32)), (4, .int (vl_I f.code)), (2, .long (W p)), (0, .ref pr), (1, .int (vl_I p))]) (st' := []) rfl Kz) ?_
              refine jv_Wp.loc (l := [(0, .ref pr), (1, .int (vl_I p)), (2, .long (W p)), (4, .int (vl_I f.code)), (5, .int (1 : Int32))]) ⟨List.forall_mem_cons.mpr ⟨.tail _ (.tail _ (.tail _ (.head _))), List.forall_mem_cons.mpr ⟨.tail _ (.tail _ (.tail _ (.tail _ (.head _)))), List.forall_mem_cons.mpr ⟨.tail _ (.tail _ (.head _)), List.forall_mem_cons.mpr ⟨.tail _ (.head _), List.forall_mem_cons.mpr ⟨.head _, fun _ h => absurd h List.not_mem_nil⟩⟩⟩⟩⟩, by show List.Nodup [5, 4, 2, 0, 1]; decide⟩ ?_
              have x1 : ¬ f.code = 149 := fun z => h1 ((vl_I_inj (a := f.code) (b := 149) (Nat.lt_trans bc (by decide)) (by decide)).mpr z)
              have x2 : ¬ f.code = 6 := fun z => h2 ((vl_I_inj (a := f.code) (b := 6) (Nat.lt_trans bc (by decide)) (by decide)).mpr z)
              have x3 : ¬ f.code = 5 := fun z => h3 ((vl_I_inj (a := f.code) (b := 5) (Nat.lt_trans bc (by decide)) (by decide)).mpr z)
              have x4 : ¬ f.kind = 5 := fun z => h4 ((vl_I_inj (a := f.kind) (b := 5) (Nat.lt_trans bk (by decide)) (by decide)).mpr z)
              have x5 : f.kind = 6 := (vl_I_inj (a := f.kind) (b := 6) (Nat.lt_trans bk (by decide)) (by decide)).mp (Classical.not_not.mp h6)
              have x6 : ¬ f.code = 133 := fun z => h7 ((vl_I_inj (a := f.code) (b := 133) (Nat.lt_trans bc (by decide)) (by decide)).mpr z)
              exact cont (by omega) true (decide_eq_true (by omega)).symm
      · refine jv_Wp.lift (fun _ Kz => jv_Ev.steps jv_i98 6 (pc' := 56) (l' := [(4, .int (vl_I f.code)), (2, .long (W p)), (0, .ref pr), (1, .int (vl_I p))]) (st' := [.long (W p), .long ((vl_I p).toInt64 + (1 : Int64)), .ref pr]) rfl Kz) ?_
        refine jv_Wp.lift (fun _ Kz => jv_Ev.c jv_i98 (pc' := 59) (S' := [.int (Int32.ofInt f.o), .long ((vl_I p).toInt64 + (1 : Int64)), .ref pr]) jv_i88 [.long (W p)] rfl rfl rfl rfl rfl rfl (vw_f88 ef) rfl rfl Kz) ?_
        refine jv_Wp.lift (fun _ Kz => jv_Ev.steps jv_i98 2 (pc' := 61) (l' := [(4, .int (vl_I f.code)), (2, .long (W p)), (0, .ref pr), (1, .int (vl_I p))]) (st' := [.long (((vl_I p).toInt64 + (1 : Int64)) + (Int32.ofInt f.o).toInt64), .ref pr]) rfl Kz) ?_
        have x1 : ¬ f.code = 149 := fun z => h1 ((vl_I_inj (a := f.code) (b := 149) (Nat.lt_trans bc (by decide)) (by decide)).mpr z)
        have x2 : ¬ f.code = 6 := fun z => h2 ((vl_I_inj (a := f.code) (b := 6) (Nat.lt_trans bc (by decide)) (by decide)).mpr z)
        have x3 : f.code = 5 := (vl_I_inj (a := f.code) (b := 5) (Nat.lt_trans bc (by decide)) (by decide)).mp (Classical.not_not.mp h3)
        have H1 := vc_isFirst (I := I) (L := L) (n := n) (sl := sl) (g := vf_gl f p) hP (vf_gl_b ef (by omega))
        rw [← show (((vl_I p).toInt64 + (1 : Int64)) + (Int32.ofInt f.o).toInt64) = Int64.ofInt (vf_gl f p) from (vi_gw (by omega) (vw_dO ef)).trans (by unfold vf_gl; rw [if_neg (by omega)])] at H1
        refine jv_Wp.lift (fun _ Kz => jv_Ev.c jv_i98 (pc' := 64) (S' := [.int (vr_b (decide (vc_fst W len (vf_gl f p))))]) jv_i99 [.ref pr, .long (((vl_I p).toInt64 + (1 : Int64)) + (Int32.ofInt f.o).toInt64)] rfl rfl rfl rfl (jv_cal rfl (jv_H_at hP.1) rfl rfl) rfl H1 rfl rfl Kz) ?_
        refine jv_Wp.loc (l := [(0, .ref pr), (1, .int (vl_I p)), (2, .long (W p)), (4, .int (vl_I f.code))]) ⟨List.forall_mem_cons.mpr ⟨.tail _ (.tail _ (.head _)), List.forall_mem_cons.mpr ⟨.tail _ (.tail _ (.tail _ (.head _))), List.forall_mem_cons.mpr ⟨.tail _ (.head _), List.forall_mem_cons.mpr ⟨.head _, fun _ h => absurd h List.not_mem_nil⟩⟩⟩⟩, by show List.Nodup [4, 2, 0, 1]; decide⟩ ?_
        refine jv_Wp.of (jv_Ev.ret jv_i98 rfl (jv_ret_b (vr_b01 _))) ?_
        have x1 : ¬ f.code = 149 := fun z => h1 ((vl_I_inj (a := f.code) (b := 149) (Nat.lt_trans bc (by decide)) (by decide)).mpr z)
        have x2 : ¬ f.code = 6 := fun z => h2 ((vl_I_inj (a := f.code) (b := 6) (Nat.lt_trans bc (by decide)) (by decide)).mpr z)
        have x3 : f.code = 5 := (vl_I_inj (a := f.code) (b := 5) (Nat.lt_trans bc (by decide)) (by decide)).mp (Classical.not_not.mp h3)
        rw [show decide (vc_gw W len f p) = (decide (vc_fst W len (vf_gl f p))) from decide_eq_decide.mpr (vc_gw_56 (by omega))] at hQ
        exact hQ
    · refine jv_Wp.lift (fun _ Kz => jv_Ev.steps jv_i98 6 (pc' := 35) (l' := [(4, .int (vl_I f.code)), (2, .long (W p)), (0, .ref pr), (1, .int (vl_I p))]) (st' := [.long (W p), .long ((vl_I p).toInt64 + (1 : Int64)), .ref pr]) rfl Kz) ?_
      refine jv_Wp.lift (fun _ Kz => jv_Ev.c jv_i98 (pc' := 38) (S' := [.int (Int32.ofInt f.i), .long ((vl_I p).toInt64 + (1 : Int64)), .ref pr]) jv_i89 [.long (W p)] rfl rfl rfl rfl rfl rfl (vw_f89 ef) rfl rfl Kz) ?_
      refine jv_Wp.lift (fun _ Kz => jv_Ev.steps jv_i98 2 (pc' := 40) (l' := [(4, .int (vl_I f.code)), (2, .long (W p)), (0, .ref pr), (1, .int (vl_I p))]) (st' := [.long (((vl_I p).toInt64 + (1 : Int64)) + (Int32.ofInt f.i).toInt64), .ref pr]) rfl Kz) ?_
      have x1 : ¬ f.code = 149 := fun z => h1 ((vl_I_inj (a := f.code) (b := 149) (Nat.lt_trans bc (by decide)) (by decide)).mpr z)
      have x2 : f.code = 6 := (vl_I_inj (a := f.code) (b := 6) (Nat.lt_trans bc (by decide)) (by decide)).mp (Classical.not_not.mp h2)
      have H2 := vc_isFirst (I := I) (L := L) (n := n) (sl := sl) (g := vf_gl f p) hP (vf_gl_b ef (by omega))
      rw [← show (((vl_I p).toInt64 + (1 : Int64)) + (Int32.ofInt f.i).toInt64) = Int64.ofInt (vf_gl f p) from (vi_gw (by omega) (vw_dQ ef)).trans (by unfold vf_gl; rw [if_pos (by omega)])] at H2
      refine jv_Wp.lift (fun _ Kz => jv_Ev.c jv_i98 (pc' := 43) (S' := [.int (vr_b (decide (vc_fst W len (vf_gl f p))))]) jv_i99 [.ref pr, .long (((vl_I p).toInt64 + (1 : Int64)) + (Int32.ofInt f.i).toInt64)] rfl rfl rfl rfl (jv_cal rfl (jv_H_at hP.1) rfl rfl) rfl H2 rfl rfl Kz) ?_
      refine jv_Wp.loc (l := [(0, .ref pr), (1, .int (vl_I p)), (2, .long (W p)), (4, .int (vl_I f.code))]) ⟨List.forall_mem_cons.mpr ⟨.tail _ (.tail _ (.head _)), List.forall_mem_cons.mpr ⟨.tail _ (.tail _ (.tail _ (.head _))), List.forall_mem_cons.mpr ⟨.tail _ (.head _), List.forall_mem_cons.mpr ⟨.head _, fun _ h => absurd h List.not_mem_nil⟩⟩⟩⟩, by show List.Nodup [4, 2, 0, 1]; decide⟩ ?_
      refine jv_Wp.of (jv_Ev.ret jv_i98 rfl (jv_ret_b (vr_b01 _))) ?_
      have x1 : ¬ f.code = 149 := fun z => h1 ((vl_I_inj (a := f.code) (b := 149) (Nat.lt_trans bc (by decide)) (by decide)).mpr z)
      have x2 : f.code = 6 := (vl_I_inj (a := f.code) (b := 6) (Nat.lt_trans bc (by decide)) (by decide)).mp (Classical.not_not.mp h2)
      rw [show decide (vc_gw W len f p) = (decide (vc_fst W len (vf_gl f p))) from decide_eq_decide.mpr (vc_gw_56 (by omega))] at hQ
      exact hQ
  · refine jv_Wp.lift (fun _ Kz => jv_Ev.steps jv_i98 1 (pc' := 21) (l' := [(4, .int (vl_I f.code)), (2, .long (W p)), (0, .ref pr), (1, .int (vl_I p))]) (st' := [.int (1 : Int32)]) rfl Kz) ?_
    refine jv_Wp.loc (l := [(0, .ref pr), (1, .int (vl_I p)), (2, .long (W p)), (4, .int (vl_I f.code))]) ⟨List.forall_mem_cons.mpr ⟨.tail _ (.tail _ (.head _)), List.forall_mem_cons.mpr ⟨.tail _ (.tail _ (.tail _ (.head _))), List.forall_mem_cons.mpr ⟨.tail _ (.head _), List.forall_mem_cons.mpr ⟨.head _, fun _ h => absurd h List.not_mem_nil⟩⟩⟩⟩, by show List.Nodup [4, 2, 0, 1]; decide⟩ ?_
    refine jv_Wp.of (jv_Ev.ret jv_i98 rfl (jv_ret_b (Or.inr rfl))) ?_
    have x1 : f.code = 149 := (vl_I_inj (a := f.code) (b := 149) (Nat.lt_trans bc (by decide)) (by decide)).mp (Classical.not_not.mp h1)
    rw [show decide (vc_gw W len f p) = true from decide_eq_true (vc_gw_9 (by omega))] at hQ
    exact hQ
theorem vc_goesWell {K : Nat → Option (Nat × Nat)} {I : Nat → Nat → Int32} {L : Nat → Nat → Int64} {R : Nat → Nat → Value} {pr ws len : Nat} {W : Nat → Int64} (hP : vc_P K L R pr ws len W) {p : Nat} (hp : p < len) {f : vf_F} (ef : vc_F (W p) = f) {n sl : Nat} : jv_Ms 98 [.ref pr, .int (vl_I p)] (jv_H K I L R) n sl (some (.int (vr_b (decide (vc_gw W len f p)))), jv_H K I L R, n, sl) := by
  obtain ⟨Q, hQ⟩ : ∃ Q : jv_R → Prop, Q = fun X => X = (some (.int (vr_b (decide (vc_gw W len f p)))), jv_H K I L R, n, sl) := ⟨_, rfl⟩
  have q : Q (some (.int (vr_b (decide (vc_gw W len f p)))), jv_H K I L R, n, sl) := by rw [hQ]
  have h := vc_gw_0 (I := I) (n := n) (sl := sl) hP hp ef q (fun hc t5 h5 => vc_gw_97 hP hp ef hc t5 h5 q)
  rw [hQ] at h
  obtain ⟨X, h, e⟩ := h
  subst e
  exact h