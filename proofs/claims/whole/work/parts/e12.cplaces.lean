/-! part e12: places of a program of the class (gen/te12.py) -/
theorem jv_i77 : jv_I 77 3 (some .boolean) 0 0 jv_c77 := ⟨rfl, rfl, rfl, rfl, rfl⟩
theorem vi_glt {g : Int} {q : Nat} (h : -1099511627776 ≤ g ∧ g ≤ 1099511627776) (hq : q < 2147483648) : ((vl_I q).toInt64 < (Int64.ofInt g)) ↔ (q : Int) < g := by rw [Int64.lt_iff_toInt_lt, vi_J h, vi_I64 hq]
theorem vc_has_ {K : Nat → Option (Nat × Nat)} {I : Nat → Nat → Int32} {L : Nat → Nat → Int64} {R : Nat → Nat → Value} {pr ws len : Nat} {W : Nat → Int64} (hP : vc_P K L R pr ws len W) {g : Int} (hg : -1099511627776 ≤ g ∧ g ≤ 1099511627776) {n sl : Nat} {Q : jv_R → Prop} (hQ : Q (some (.int (vr_b (decide (0 ≤ g ∧ g < len)))), jv_H K I L R, n, sl)) : jv_Wp 77 0 [(0, .ref pr), (1, .long (Int64.ofInt g))] [] (jv_H K I L R) n sl Q := by
  have hle := hP.2.2.2.1
  refine jv_Wp.lift (fun _ Kz => jv_Ev.steps jv_i77 3 (pc' := 3) (l' := [(0, .ref pr), (1, .long (Int64.ofInt g))]) (st' := [.int (lg_cmp (Int64.ofInt g) (0 : Int64))]) rfl Kz) ?_
  refine jv_Wp.cnd jv_i77 (pt := 21) (pe := 6) (p := ((lg_cmp (Int64.ofInt g) (0 : Int64)) < 0)) (q := ((Int64.ofInt g) < (0 : Int64))) rfl jv_bi_lt rfl rfl (lg_cmp_lt (Int64.ofInt g) (0 : Int64)) (fun h1 => ?_) (fun h1 => ?_)
  · refine jv_Wp.lift (fun _ Kz => jv_Ev.steps jv_i77 1 (pc' := 22) (l' := [(0, .ref pr), (1, .long (Int64.ofInt g))]) (st' := [.int (0 : Int32)]) rfl Kz) ?_
    refine jv_Wp.of (jv_Ev.ret jv_i77 rfl (jv_ret_b (Or.inl rfl))) ?_
    have x1 : g < 0 := (vi_gneg hg).mp h1
    have ev : decide (0 ≤ g ∧ g < len) = false := decide_eq_false (by omega)
    rw [ev] at hQ
    exact hQ
  · refine jv_Wp.lift (fun _ Kz => jv_Ev.steps jv_i77 2 (pc' := 8) (l' := [(0, .ref pr), (1, .long (Int64.ofInt g))]) (st' := [.ref pr, .long (Int64.ofInt g)]) rfl Kz) ?_
    refine jv_Wp.lift (fun _ Kz => jv_Ev.m jv_i77 (pc' := 11) (st' := [.ref ws, .long (Int64.ofInt g)]) (G' := (jv_H K I L R)) rfl rfl (jv_m_getR hP.1 rfl rfl hP.2.1) Kz) ?_
    refine jv_Wp.lift (fun _ Kz => jv_Ev.m jv_i77 (pc' := 12) (st' := [.int (Int32.ofNat len), .long (Int64.ofInt g)]) (G' := (jv_H K I L R)) rfl rfl (jv_m_len hP.2.2.1 rfl) Kz) ?_
    refine jv_Wp.lift (fun _ Kz => jv_Ev.steps jv_i77 2 (pc' := 14) (l' := [(0, .ref pr), (1, .long (Int64.ofInt g))]) (st' := [.int (lg_cmp (Int64.ofInt g) (Int32.ofNat len).toInt64)]) rfl Kz) ?_
    refine jv_Wp.cnd jv_i77 (pt := 21) (pe := 17) (p := (0 ≤ (lg_cmp (Int64.ofInt g) (Int32.ofNat len).toInt64))) (q := ((Int32.ofNat len).toInt64 ≤ (Int64.ofInt g))) rfl jv_bi_ge rfl rfl (lg_cmp_ge (Int64.ofInt g) (Int32.ofNat len).toInt64) (fun h2 => ?_) (fun h2 => ?_)
    · refine jv_Wp.lift (fun _ Kz => jv_Ev.steps jv_i77 1 (pc' := 22) (l' := [(0, .ref pr), (1, .long (Int64.ofInt g))]) (st' := [.int (0 : Int32)]) rfl Kz) ?_
      refine jv_Wp.of (jv_Ev.ret jv_i77 rfl (jv_ret_b (Or.inl rfl))) ?_
      have x1 : ¬ g < 0 := fun z => h1 ((vi_gneg hg).mpr z)
      have x2 : (len : Int) ≤ g := (vi_gge hg (q := len) (by omega)).mp h2
      have ev : decide (0 ≤ g ∧ g < len) = false := decide_eq_false (by omega)
      rw [ev] at hQ
      exact hQ
    · refine jv_Wp.lift (fun _ Kz => jv_Ev.steps jv_i77 2 (pc' := 22) (l' := [(0, .ref pr), (1, .long (Int64.ofInt g))]) (st' := [.int (1 : Int32)]) rfl Kz) ?_
      refine jv_Wp.of (jv_Ev.ret jv_i77 rfl (jv_ret_b (Or.inr rfl))) ?_
      have x1 : ¬ g < 0 := fun z => h1 ((vi_gneg hg).mpr z)
      have x2 : ¬ (len : Int) ≤ g := fun z => h2 ((vi_gge hg (q := len) (by omega)).mpr z)
      have ev : decide (0 ≤ g ∧ g < len) = true := decide_eq_true (by omega)
      rw [ev] at hQ
      exact hQ
theorem vc_has {K : Nat → Option (Nat × Nat)} {I : Nat → Nat → Int32} {L : Nat → Nat → Int64} {R : Nat → Nat → Value} {pr ws len : Nat} {W : Nat → Int64} (hP : vc_P K L R pr ws len W) {g : Int} (hg : -1099511627776 ≤ g ∧ g ≤ 1099511627776) {n sl : Nat} : jv_Ms 77 [.ref pr, .long (Int64.ofInt g)] (jv_H K I L R) n sl (some (.int (vr_b (decide (0 ≤ g ∧ g < len)))), jv_H K I L R, n, sl) := by
  have h := vc_has_ (I := I) (n := n) (sl := sl) hP hg (Q := fun X => X = (some (.int (vr_b (decide (0 ≤ g ∧ g < len)))), jv_H K I L R, n, sl)) rfl
  obtain ⟨X, h, e⟩ := h
  subst e
  exact h
theorem jv_i79 : jv_I 79 3 (some .boolean) 1 21 jv_c79 := ⟨rfl, rfl, rfl, rfl, rfl⟩
theorem vi_l2i {g : Int} (h : 0 < g) (h2 : g ≤ 1024) : (Int64.ofInt g).toInt32 - (1 : Int32) = vl_I (g.toNat - 1) := by
  refine Int32.toInt_inj.mp ?_
  have e : (Int64.ofInt g).toInt32.toInt = g := by rw [Int64.toInt_toInt32, vi_J (by omega)]; exact vi_bm32 (by omega) (by omega)
  rw [Int32.toInt_sub, e, vl_I_i (by omega), show (1 : Int32).toInt = 1 from rfl]
  exact (vi_bm32 (by omega) (by omega)).trans (by omega)
theorem vc_sec_0 {K : Nat → Option (Nat × Nat)} {I : Nat → Nat → Int32} {L : Nat → Nat → Int64} {R : Nat → Nat → Value} {pr ws len : Nat} {W : Nat → Int64} (hP : vc_P K L R pr ws len W) {g : Int} (hg : -1099511627776 ≤ g ∧ g ≤ 1099511627776) {n sl : Nat} {Q : jv_R → Prop} (cont : 0 < g → g ≤ len → jv_Wp 79 25 [(0, .ref pr), (1, .long (Int64.ofInt g))] [.int (vl_I (g.toNat - 1)), .ref ws] (jv_H K I L R) n sl Q) (contF : ¬ (0 < g ∧ g ≤ len) → Q (some (.int 0), jv_H K I L R, n, sl)) : jv_Wp 79 0 [(0, .ref pr), (1, .long (Int64.ofInt g))] [] (jv_H K I L R) n sl Q := by
  have hle := hP.2.2.2.1
  refine jv_Wp.lift (fun _ Kz => jv_Ev.steps jv_i79 3 (pc' := 3) (l' := [(0, .ref pr), (1, .long (Int64.ofInt g))]) (st' := [.int (lg_cmp (Int64.ofInt g) (0 : Int64))]) rfl Kz) ?_
  refine jv_Wp.cnd jv_i79 (pt := 38) (pe := 6) (p := ((lg_cmp (Int64.ofInt g) (0 : Int64)) ≤ 0)) (q := ((Int64.ofInt g) ≤ (0 : Int64))) rfl jv_bi_le rfl rfl (lg_cmp_le (Int64.ofInt g) (0 : Int64)) (fun h1 => ?_) (fun h1 => ?_)
  · refine jv_Wp.lift (fun _ Kz => jv_Ev.steps jv_i79 1 (pc' := 39) (l' := [(0, .ref pr), (1, .long (Int64.ofInt g))]) (st' := [.int (0 : Int32)]) rfl Kz) ?_
    refine jv_Wp.of (jv_Ev.ret jv_i79 rfl (jv_ret_b (Or.inl rfl))) ?_
    have x1 : g ≤ (0 : Nat) := (vi_gle hg (q := 0) (by decide)).mp h1
    exact contF (by omega)
  · refine jv_Wp.lift (fun _ Kz => jv_Ev.steps jv_i79 2 (pc' := 8) (l' := [(0, .ref pr), (1, .long (Int64.ofInt g))]) (st' := [.ref pr, .long (Int64.ofInt g)]) rfl Kz) ?_
    refine jv_Wp.lift (fun _ Kz => jv_Ev.m jv_i79 (pc' := 11) (st' := [.ref ws, .long (Int64.ofInt g)]) (G' := (jv_H K I L R)) rfl rfl (jv_m_getR hP.1 rfl rfl hP.2.1) Kz) ?_
    refine jv_Wp.lift (fun _ Kz => jv_Ev.m jv_i79 (pc' := 12) (st' := [.int (Int32.ofNat len), .long (Int64.ofInt g)]) (G' := (jv_H K I L R)) rfl rfl (jv_m_len hP.2.2.1 rfl) Kz) ?_
    refine jv_Wp.lift (fun _ Kz => jv_Ev.steps jv_i79 2 (pc' := 14) (l' := [(0, .ref pr), (1, .long (Int64.ofInt g))]) (st' := [.int (lg_cmp (Int64.ofInt g) (Int32.ofNat len).toInt64)]) rfl Kz) ?_
    refine jv_Wp.cnd jv_i79 (pt := 38) (pe := 17) (p := (0 < (lg_cmp (Int64.ofInt g) (Int32.ofNat len).toInt64))) (q := ((Int32.ofNat len).toInt64 < (Int64.ofInt g))) rfl jv_bi_gt rfl rfl (lg_cmp_gt (Int64.ofInt g) (Int32.ofNat len).toInt64) (fun h2 => ?_) (fun h2 => ?_)
    · refine jv_Wp.lift (fun _ Kz => jv_Ev.steps jv_i79 1 (pc' := 39) (l' := [(0, .ref pr), (1, .long (Int64.ofInt g))]) (st' := [.int (0 : Int32)]) rfl Kz) ?_
      refine jv_Wp.of (jv_Ev.ret jv_i79 rfl (jv_ret_b (Or.inl rfl))) ?_
      have x1 : ¬ g ≤ (0 : Nat) := fun z => h1 ((vi_gle hg (q := 0) (by decide)).mpr z)
      have x2 : (len : Int) < g := (vi_glt hg (q := len) (by omega)).mp h2
      exact contF (by omega)
    · refine jv_Wp.lift (fun _ Kz => jv_Ev.steps jv_i79 1 (pc' := 18) (l' := [(0, .ref pr), (1, .long (Int64.ofInt g))]) (st' := [.ref pr]) rfl Kz) ?_
      refine jv_Wp.lift (fun _ Kz => jv_Ev.m jv_i79 (pc' := 21) (st' := [.ref ws]) (G' := (jv_H K I L R)) rfl rfl (jv_m_getR hP.1 rfl rfl hP.2.1) Kz) ?_
      refine jv_Wp.lift (fun _ Kz => jv_Ev.steps jv_i79 4 (pc' := 25) (l' := [(0, .ref pr), (1, .long (Int64.ofInt g))]) (st' := [.int ((Int64.ofInt g).toInt32 - (1 : Int32)), .ref ws]) rfl Kz) ?_
      have x1 : ¬ g ≤ (0 : Nat) := fun z => h1 ((vi_gle hg (q := 0) (by decide)).mpr z)
      have x2 : ¬ (len : Int) < g := fun z => h2 ((vi_glt hg (q := len) (by omega)).mpr z)
      rw [show ((Int64.ofInt g).toInt32 - (1 : Int32)) = vl_I (g.toNat - 1) from vi_l2i (by omega) (by omega)]
      exact cont (by omega) (by omega)
theorem vc_sec_25 {K : Nat → Option (Nat × Nat)} {I : Nat → Nat → Int32} {L : Nat → Nat → Int64} {R : Nat → Nat → Value} {pr ws len : Nat} {W : Nat → Int64} (hP : vc_P K L R pr ws len W) {g : Int} {q : Nat} (hq : q < len) {f : vf_F} (ef : vc_F (L ws q) = f) {n sl : Nat} {Q : jv_R → Prop} (hQ : Q (some (.int (vr_b (decide (f.code = 24)))), jv_H K I L R, n, sl)) : jv_Wp 79 25 [(0, .ref pr), (1, .long (Int64.ofInt g))] [.int (vl_I q), .ref ws] (jv_H K I L R) n sl Q := by
  have hle := hP.2.2.2.1
  have c1 := vw_dc ef
  have c2 := vw_dd ef
  have c3 := vw_ds ef
  have c4 : f.n = f.code / 16 := rfl
  have c5 : f.kind = f.code % 8 := rfl
  have c6 : f.mode = f.code / 32 := rfl
  have c7 := vf_z f
  have bn : f.n < 2147483648 := by omega
  have bk : f.kind < 2147483648 := by omega
  have bm : f.mode < 2147483648 := by omega
  have bz : f.z < 2147483648 := by omega
  have bc : f.code < 2147483648 := by omega
  have bd : f.d < 2147483648 := by omega
  have bs : f.s < 2147483648 := by omega
  refine jv_Wp.lift (fun _ Kz => jv_Ev.m jv_i79 (pc' := 26) (st' := [.long (L ws q)]) (G' := (jv_H K I L R)) rfl rfl (jv_m_laldv hP.2.2.1 rfl (vl_I_ix hq (by omega)) rfl ((congrArg (L ws) (vl_I_nat (by omega))).trans rfl)) Kz) ?_
  refine jv_Wp.lift (fun _ Kz => jv_Ev.c jv_i79 (pc' := 29) (S' := [.int (vl_I f.code)]) jv_i80 [.long (L ws q)] rfl rfl rfl rfl rfl rfl (vw_f80 ef) rfl rfl Kz) ?_
  refine jv_Wp.lift (fun _ Kz => jv_Ev.steps jv_i79 1 (pc' := 31) (l' := [(0, .ref pr), (1, .long (Int64.ofInt g))]) (st' := [.int (24 : Int32), .int (vl_I f.code)]) rfl Kz) ?_
  refine jv_Wp.cnd jv_i79 (pt := 38) (pe := 34) (p := (¬ (vl_I f.code) = (24 : Int32))) (q := (¬ (vl_I f.code) = (24 : Int32))) rfl jv_bc_ne rfl rfl Iff.rfl (fun h1 => ?_) (fun h1 => ?_)
  · refine jv_Wp.lift (fun _ Kz => jv_Ev.steps jv_i79 1 (pc' := 39) (l' := [(0, .ref pr), (1, .long (Int64.ofInt g))]) (st' := [.int (0 : Int32)]) rfl Kz) ?_
    refine jv_Wp.of (jv_Ev.ret jv_i79 rfl (jv_ret_b (Or.inl rfl))) ?_
    have x1 : ¬ f.code = 24 := fun z => h1 ((vl_I_inj (a := f.code) (b := 24) (Nat.lt_trans bc (by decide)) (by decide)).mpr z)
    have ev : decide (f.code = 24) = false := decide_eq_false (by omega)
    rw [ev] at hQ
    exact hQ
  · refine jv_Wp.lift (fun _ Kz => jv_Ev.steps jv_i79 2 (pc' := 39) (l' := [(0, .ref pr), (1, .long (Int64.ofInt g))]) (st' := [.int (1 : Int32)]) rfl Kz) ?_
    refine jv_Wp.of (jv_Ev.ret jv_i79 rfl (jv_ret_b (Or.inr rfl))) ?_
    have x1 : f.code = 24 := (vl_I_inj (a := f.code) (b := 24) (Nat.lt_trans bc (by decide)) (by decide)).mp (Classical.not_not.mp h1)
    have ev : decide (f.code = 24) = true := decide_eq_true (by omega)
    rw [ev] at hQ
    exact hQ
theorem vc_isSecond {K : Nat → Option (Nat × Nat)} {I : Nat → Nat → Int32} {L : Nat → Nat → Int64} {R : Nat → Nat → Value} {pr ws len : Nat} {W : Nat → Int64} (hP : vc_P K L R pr ws len W) {g : Int} (hg : -1099511627776 ≤ g ∧ g ≤ 1099511627776) {n sl : Nat} : jv_Ms 79 [.ref pr, .long (Int64.ofInt g)] (jv_H K I L R) n sl (some (.int (vr_b (decide (0 < g ∧ g ≤ len ∧ (vc_F (W (g.toNat - 1))).code = 24)))), jv_H K I L R, n, sl) := by
  have hle := hP.2.2.2.1
  obtain ⟨Q, hQ⟩ : ∃ Q : jv_R → Prop, Q = fun X => X = (some (.int (vr_b (decide (0 < g ∧ g ≤ len ∧ (vc_F (W (g.toNat - 1))).code = 24)))), jv_H K I L R, n, sl) := ⟨_, rfl⟩
  suffices h : jv_Wp 79 0 [(0, .ref pr), (1, .long (Int64.ofInt g))] [] (jv_H K I L R) n sl Q by
    rw [hQ] at h
    obtain ⟨X, h, e⟩ := h
    subst e
    exact h
  refine vc_sec_0 hP hg (fun a b => ?_) (fun a => ?_)
  · have hq : g.toNat - 1 < len := by omega
    refine vc_sec_25 hP hq rfl ?_
    have e : L ws (g.toNat - 1) = W (g.toNat - 1) := hP.2.2.2.2 _ hq
    rw [e, hQ, show decide (0 < g ∧ g ≤ len ∧ (vc_F (W (g.toNat - 1))).code = 24) = decide ((vc_F (W (g.toNat - 1))).code = 24) from decide_eq_decide.mpr ⟨fun z => z.2.2, fun z => ⟨a, b, z⟩⟩]
  · rw [hQ, show decide (0 < g ∧ g ≤ len ∧ (vc_F (W (g.toNat - 1))).code = 24) = false from decide_eq_false (fun z => a ⟨z.1, z.2.1⟩)]; rfl