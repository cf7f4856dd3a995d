/-! part e01: the form of a word, as the reference tests it (gen/te01.py) -/
abbrev vf_pS (f : vf_F) : Prop := (f.code / 8 % 2 = 1 ∧ f.s < 11 ∧ f.i = 0) ∨ (f.code / 8 % 2 ≠ 1 ∧ f.s = 0)
abbrev vf_pA (f : vf_F) : Prop := f.d ≤ 9 ∧ ((f.n = 8 ∧ f.code / 8 % 2 ≠ 1 ∧ f.i = 0 ∧ f.s = 0 ∧ f.o = 0) ∨ (f.n = 13 ∧ f.s = 0 ∧ f.o = 0 ∧ (f.i = 16 ∨ f.i = 32 ∨ f.i = 64) ∧ (f.kind ≠ 7 ∨ f.code / 8 % 2 ≠ 1)) ∨ ((f.n = 3 ∨ f.n = 9) ∧ vf_pS f ∧ (f.o = 0 ∨ f.o = 1)) ∨ (f.n = 11 ∧ vf_pS f ∧ (f.o = 0 ∨ (f.code / 8 % 2 = 1 ∧ (f.o = 8 ∨ f.o = 16 ∨ (f.kind = 7 ∧ f.o = 32))))) ∨ (f.n < 13 ∧ f.n ≠ 8 ∧ f.n ≠ 3 ∧ f.n ≠ 9 ∧ f.n ≠ 11 ∧ vf_pS f ∧ f.o = 0))
abbrev vf_pJ (f : vf_F) : Prop := (f.n = 0 ∧ f.code / 8 % 2 ≠ 1 ∧ f.d = 0 ∧ f.s = 0 ∧ ((f.kind = 6 ∧ f.o = 0) ∨ (f.kind ≠ 6 ∧ f.i = 0))) ∨ (f.n = 8 ∧ f.kind ≠ 6 ∧ f.code = 133 ∧ f.d = 0 ∧ f.s = 0 ∧ f.o = 0) ∨ (f.n = 9 ∧ f.kind ≠ 6 ∧ f.code = 149 ∧ f.d = 0 ∧ f.s = 0 ∧ f.i = 0 ∧ f.o = 0) ∨ (f.n ≠ 0 ∧ f.n ≠ 8 ∧ f.n ≠ 9 ∧ f.n < 14 ∧ f.d < 11 ∧ vf_pS f)
abbrev vf_pT (f : vf_F) : Prop := 2 < f.z ∧ f.d < 11 ∧ (((f.i = 1 ∨ f.i = 65 ∨ f.i = 81 ∨ f.i = 161 ∨ f.i = 225) ∧ f.s < 10) ∨ ((f.i = 0 ∨ f.i = 64 ∨ f.i = 80 ∨ f.i = 160 ∨ f.i = 241) ∧ f.s < 11))
abbrev vf_p1 (f : vf_F) : Prop := f.i = 0 ∧ f.d < 10 ∧ f.s < 11 ∧ (f.mode = 3 ∨ (f.mode = 4 ∧ f.z < 8))
abbrev vf_p2 (f : vf_F) : Prop := f.s = 0 ∧ f.d < 11 ∧ f.mode = 3
abbrev vf_p3 (f : vf_F) : Prop := (f.mode = 3 ∧ f.i = 0 ∧ f.d < 11 ∧ f.s < 11) ∨ (f.mode ≠ 3 ∧ f.mode = 6 ∧ vf_pT f)
abbrev vf_p0 (f : vf_F) (q all lo hi : Nat) : Prop := f.code = 24 ∧ f.d < 10 ∧ f.s < 2 ∧ f.o = 0 ∧ q < all ∧ lo = 0 ∧ (f.s = 0 ∨ (0 ≤ f.i ∧ hi = 0))
/-- whether a word is an instruction; for a wide one: the place behind it, the number of places, the lower and the higher half of the word there -/
def vf_bI (f : vf_F) (q all lo hi : Nat) : Bool :=
  if f.kind = 4 ∨ f.kind = 7 then decide (vf_pA f) else if f.kind = 5 ∨ f.kind = 6 then decide (vf_pJ f) else if f.kind = 1 then decide (vf_p1 f) else if f.kind = 2 then decide (vf_p2 f) else if f.kind = 3 then decide (vf_p3 f) else decide (vf_p0 f q all lo hi)
theorem vf_pA_8 {f : vf_F} (h : f.n = 8) : vf_pA f ↔ (f.d ≤ 9 ∧ f.code / 8 % 2 ≠ 1 ∧ f.i = 0 ∧ f.s = 0 ∧ f.o = 0) :=
  ⟨fun ⟨a, z⟩ => by rcases z with z|z|z|z|z <;> first | exact ⟨a, z.2⟩ | (exfalso; omega), fun z => ⟨z.1, Or.inl ⟨h, z.2⟩⟩⟩
theorem vf_pA_13 {f : vf_F} (h : f.n = 13) : vf_pA f ↔ (f.d ≤ 9 ∧ f.s = 0 ∧ f.o = 0 ∧ (f.i = 16 ∨ f.i = 32 ∨ f.i = 64) ∧ (f.kind ≠ 7 ∨ f.code / 8 % 2 ≠ 1)) :=
  ⟨fun ⟨a, z⟩ => by rcases z with z|z|z|z|z <;> first | exact ⟨a, z.2⟩ | (exfalso; omega), fun z => ⟨z.1, Or.inr (Or.inl ⟨h, z.2⟩)⟩⟩
theorem vf_pA_3 {f : vf_F} (h : f.n = 3 ∨ f.n = 9) : vf_pA f ↔ (f.d ≤ 9 ∧ vf_pS f ∧ (f.o = 0 ∨ f.o = 1)) :=
  ⟨fun ⟨a, z⟩ => by rcases z with z|z|z|z|z <;> first | exact ⟨a, z.2⟩ | (exfalso; omega), fun z => ⟨z.1, Or.inr (Or.inr (Or.inl ⟨h, z.2⟩))⟩⟩
theorem vf_pA_11 {f : vf_F} (h : f.n = 11) : vf_pA f ↔ (f.d ≤ 9 ∧ vf_pS f ∧ (f.o = 0 ∨ (f.code / 8 % 2 = 1 ∧ (f.o = 8 ∨ f.o = 16 ∨ (f.kind = 7 ∧ f.o = 32))))) :=
  ⟨fun ⟨a, z⟩ => by rcases z with z|z|z|z|z <;> first | exact ⟨a, z.2⟩ | (exfalso; omega), fun z => ⟨z.1, Or.inr (Or.inr (Or.inr (Or.inl ⟨h, z.2⟩)))⟩⟩
theorem vf_pA_n {f : vf_F} (h : f.n ≠ 8 ∧ f.n ≠ 3 ∧ f.n ≠ 9 ∧ f.n ≠ 11 ∧ f.n ≠ 13) : vf_pA f ↔ (f.d ≤ 9 ∧ f.n < 13 ∧ vf_pS f ∧ f.o = 0) :=
  ⟨fun ⟨a, z⟩ => by rcases z with z|z|z|z|z <;> first | exact ⟨a, z.1, z.2.2.2.2.2⟩ | (exfalso; omega), fun z => ⟨z.1, Or.inr (Or.inr (Or.inr (Or.inr ⟨z.2.1, h.1, h.2.1, h.2.2.1, h.2.2.2.1, z.2.2⟩)))⟩⟩
theorem vf_pJ_0 {f : vf_F} (h : f.n = 0) : vf_pJ f ↔ (f.code / 8 % 2 ≠ 1 ∧ f.d = 0 ∧ f.s = 0 ∧ ((f.kind = 6 ∧ f.o = 0) ∨ (f.kind ≠ 6 ∧ f.i = 0))) :=
  ⟨fun z => by rcases z with z|z|z|z <;> first | exact z.2 | (exfalso; omega), fun z => Or.inl ⟨h, z⟩⟩
theorem vf_pJ_8 {f : vf_F} (h : f.n = 8) : vf_pJ f ↔ (f.kind ≠ 6 ∧ f.code = 133 ∧ f.d = 0 ∧ f.s = 0 ∧ f.o = 0) :=
  ⟨fun z => by rcases z with z|z|z|z <;> first | exact z.2 | (exfalso; omega), fun z => Or.inr (Or.inl ⟨h, z⟩)⟩
theorem vf_pJ_9 {f : vf_F} (h : f.n = 9) : vf_pJ f ↔ (f.kind ≠ 6 ∧ f.code = 149 ∧ f.d = 0 ∧ f.s = 0 ∧ f.i = 0 ∧ f.o = 0) :=
  ⟨fun z => by rcases z with z|z|z|z <;> first | exact z.2 | (exfalso; omega), fun z => Or.inr (Or.inr (Or.inl ⟨h, z⟩))⟩
theorem vf_pJ_n {f : vf_F} (h : f.n ≠ 0 ∧ f.n ≠ 8 ∧ f.n ≠ 9) : vf_pJ f ↔ (f.n < 14 ∧ f.d < 11 ∧ vf_pS f) :=
  ⟨fun z => by rcases z with z|z|z|z <;> first | exact z.2.2.2 | (exfalso; omega), fun z => Or.inr (Or.inr (Or.inr ⟨h.1, h.2.1, h.2.2, z⟩))⟩
theorem vf_b3t {f : vf_F} (h : f.bit3 = true) : f.code / 8 % 2 = 1 := of_decide_eq_true h
theorem vf_b3f {f : vf_F} (h : f.bit3 = false) : f.code / 8 % 2 ≠ 1 := of_decide_eq_false h
theorem jv_i263 : jv_I 263 1 (some .boolean) 1 20 jv_c263 := ⟨rfl, rfl, rfl, rfl, rfl⟩
theorem vq_hasSource_0 {K : Nat → Option (Nat × Nat)} {I : Nat → Nat → Int32} {L : Nat → Nat → Int64} {R : Nat → Nat → Value} (f : vf_F) (hW : jv_rW K R) (D : vr_dec I f)     {n sl : Nat} {Q : jv_R → Prop} (hQ : Q (some (.int (vr_b (decide (vf_pS f)))), jv_H K I L R, n, sl)) : jv_Wp 263 0 [(0, .ref 196)] [] (jv_H K I L R) n sl Q := by
  have c1 := vr_dc D
  have c2 := vr_dd D
  have c3 := vr_ds D
  have c4 : f.n = f.code / 16 := rfl
  have c5 : f.kind = f.code % 8 := rfl
  have c6 : f.mode = f.code / 32 := rfl
  have c7 := vf_z f
  have bn : f.n < 2147483648 := by omega
  have bk : f.kind < 2147483648 := by omega
  have bm : f.mode < 2147483648 := by omega
  have bz : f.z < 2147483648 := by omega
  have bc : f.code < 2147483648 := by omega
  have bd : f.d < 2147483648 := by omega
  have bs : f.s < 2147483648 := by omega
  refine jv_Wp.lift (fun _ Kz => jv_Ev.steps jv_i263 1 (pc' := 1) (l' := [(0, .ref 196)]) (st' := [.ref 196]) rfl Kz) ?_
  refine jv_Wp.lift (fun _ Kz => jv_Ev.c jv_i263 (pc' := 4) (S' := [.int (vr_b f.bit3)]) jv_i259 [.ref 196] rfl rfl rfl rfl (jv_cal rfl (jv_H_at (jv_rwK hW 196 12 24 (by decide))) rfl rfl) rfl (vq_bit3 f hW D) rfl rfl Kz) ?_
  refine jv_Wp.cnd jv_i263 (pt := 31) (pe := 7) (p := ((vr_b f.bit3) = 0)) (q := ((vr_b f.bit3) = 0)) rfl jv_bi_eq rfl rfl Iff.rfl (fun h1 => ?_) (fun h1 => ?_)
  · refine jv_Wp.lift (fun _ Kz => jv_Ev.steps jv_i263 1 (pc' := 32) (l' := [(0, .ref 196)]) (st' := [.ref 196]) rfl Kz) ?_
    refine jv_Wp.lift (fun _ Kz => jv_Ev.m jv_i263 (pc' := 35) (st' := [.int (vl_I f.s)]) (G' := (jv_H K I L R)) rfl rfl (jv_m_getI (jv_rwK hW 196 12 24 (by decide)) rfl rfl D.2.2.1) Kz) ?_
    refine jv_Wp.cnd jv_i263 (pt := 42) (pe := 38) (p := (¬ (vl_I f.s) = 0)) (q := (¬ (vl_I f.s) = 0)) rfl jv_bi_ne rfl rfl Iff.rfl (fun h2 => ?_) (fun h2 => ?_)
    · refine jv_Wp.lift (fun _ Kz => jv_Ev.steps jv_i263 1 (pc' := 43) (l' := [(0, .ref 196)]) (st' := [.int (0 : Int32)]) rfl Kz) ?_
      refine jv_Wp.of (jv_Ev.ret jv_i263 rfl (jv_ret_b (Or.inl rfl))) ?_
      have b1 := vf_b3f (vr_b_f h1)
      have x2 : ¬ f.s = 0 := fun z => h2 ((vl_I_inj (a := f.s) (b := 0) (Nat.lt_trans bs (by decide)) (by decide)).mpr z)
      have ev : decide (vf_pS f) = false := decide_eq_false (by omega)
      rw [ev] at hQ
      exact hQ
    · refine jv_Wp.lift (fun _ Kz => jv_Ev.steps jv_i263 2 (pc' := 43) (l' := [(0, .ref 196)]) (st' := [.int (1 : Int32)]) rfl Kz) ?_
      refine jv_Wp.of (jv_Ev.ret jv_i263 rfl (jv_ret_b (Or.inr rfl))) ?_
      have b1 := vf_b3f (vr_b_f h1)
      have x2 : f.s = 0 := (vl_I_inj (a := f.s) (b := 0) (Nat.lt_trans bs (by decide)) (by decide)).mp (Classical.not_not.mp h2)
      have ev : decide (vf_pS f) = true := decide_eq_true (by omega)
      rw [ev] at hQ
      exact hQ
  · refine jv_Wp.lift (fun _ Kz => jv_Ev.steps jv_i263 1 (pc' := 8) (l' := [(0, .ref 196)]) (st' := [.ref 196]) rfl Kz) ?_
    refine jv_Wp.lift (fun _ Kz => jv_Ev.m jv_i263 (pc' := 11) (st' := [.int (vl_I f.s)]) (G' := (jv_H K I L R)) rfl rfl (jv_m_getI (jv_rwK hW 196 12 24 (by decide)) rfl rfl D.2.2.1) Kz) ?_
    refine jv_Wp.lift (fun _ Kz => jv_Ev.steps jv_i263 1 (pc' := 13) (l' := [(0, .ref 196)]) (st' := [.int (11 : Int32), .int (vl_I f.s)]) rfl Kz) ?_
    refine jv_Wp.cnd jv_i263 (pt := 27) (pe := 16) (p := ((11 : Int32) ≤ (vl_I f.s))) (q := ((11 : Int32) ≤ (vl_I f.s))) rfl jv_bc_ge rfl rfl Iff.rfl (fun h3 => ?_) (fun h3 => ?_)
    · refine jv_Wp.lift (fun _ Kz => jv_Ev.steps jv_i263 2 (pc' := 43) (l' := [(0, .ref 196)]) (st' := [.int (0 : Int32)]) rfl Kz) ?_
      refine jv_Wp.of (jv_Ev.ret jv_i263 rfl (jv_ret_b (Or.inl rfl))) ?_
      have b1 := vf_b3t (vr_b_t h1)
      have x2 : 11 ≤ f.s := (vl_I_le (a := 11) (b := f.s) (by decide) bs).mp h3
      have ev : decide (vf_pS f) = false := decide_eq_false (by omega)
      rw [ev] at hQ
      exact hQ
    · refine jv_Wp.lift (fun _ Kz => jv_Ev.steps jv_i263 1 (pc' := 17) (l' := [(0, .ref 196)]) (st' := [.ref 196]) rfl Kz) ?_
      refine jv_Wp.lift (fun _ Kz => jv_Ev.m jv_i263 (pc' := 20) (st' := [.int (Int32.ofInt f.i)]) (G' := (jv_H K I L R)) rfl rfl (jv_m_getI (jv_rwK hW 196 12 24 (by decide)) rfl rfl (vr_dJ D)) Kz) ?_
      refine jv_Wp.cnd jv_i263 (pt := 27) (pe := 23) (p := (¬ (Int32.ofInt f.i) = 0)) (q := (¬ (Int32.ofInt f.i) = 0)) rfl jv_bi_ne rfl rfl Iff.rfl (fun h4 => ?_) (fun h4 => ?_)
      · refine jv_Wp.lift (fun _ Kz => jv_Ev.steps jv_i263 2 (pc' := 43) (l' := [(0, .ref 196)]) (st' := [.int (0 : Int32)]) rfl Kz) ?_
        refine jv_Wp.of (jv_Ev.ret jv_i263 rfl (jv_ret_b (Or.inl rfl))) ?_
        have b1 := vf_b3t (vr_b_t h1)
        have x2 : ¬ 11 ≤ f.s := fun z => h3 ((vl_I_le (a := 11) (b := f.s) (by decide) bs).mpr z)
        have y3 : ¬ f.i = 0 := fun z => h4 (Int32.toInt_inj.mp ((vr_dQ D).trans (z.trans rfl)))
        have ev : decide (vf_pS f) = false := decide_eq_false (by omega)
        rw [ev] at hQ
        exact hQ
      · refine jv_Wp.lift (fun _ Kz => jv_Ev.steps jv_i263 2 (pc' := 43) (l' := [(0, .ref 196)]) (st' := [.int (1 : Int32)]) rfl Kz) ?_
        refine jv_Wp.of (jv_Ev.ret jv_i263 rfl (jv_ret_b (Or.inr rfl))) ?_
        have b1 := vf_b3t (vr_b_t h1)
        have x2 : ¬ 11 ≤ f.s := fun z => h3 ((vl_I_le (a := 11) (b := f.s) (by decide) bs).mpr z)
        have y3 : f.i = 0 := (vr_dQ D).symm.trans (congrArg Int32.toInt (Classical.not_not.mp h4))
        have ev : decide (vf_pS f) = true := decide_eq_true (by omega)
        rw [ev] at hQ
        exact hQ
theorem vq_hasSource {K : Nat → Option (Nat × Nat)} {I : Nat → Nat → Int32} {L : Nat → Nat → Int64} {R : Nat → Nat → Value} (f : vf_F) (hW : jv_rW K R) (D : vr_dec I f)  {n sl : Nat} : jv_Ms 263 [.ref 196] (jv_H K I L R) n sl (some (.int (vr_b (decide (vf_pS f)))), jv_H K I L R, n, sl) := by
  have h := vq_hasSource_0 (n := n) (sl := sl) (I := I) (L := L) f hW D  (Q := fun X => X = (some (.int (vr_b (decide (vf_pS f)))), jv_H K I L R, n, sl)) rfl
  obtain ⟨X, h, e⟩ := h
  subst e
  exact h
theorem jv_i264 : jv_I 264 3 (some .boolean) 2 40 jv_c264 := ⟨rfl, rfl, rfl, rfl, rfl⟩
theorem vq_isArithmetic_73 {K : Nat → Option (Nat × Nat)} {I : Nat → Nat → Int32} {L : Nat → Nat → Int64} {R : Nat → Nat → Value} (f : vf_F) (hW : jv_rW K R) (D : vr_dec I f)  (gg0 : f.d ≤ 9) (t1 : Bool) (t2 : Bool) (ht1 : t1 = decide (f.kind = 7)) (ht2 : t2 = decide (f.s = 0 ∧ f.o = 0 ∧ (f.i = 16 ∨ f.i = 32 ∨ f.i = 64))) {n sl : Nat} {Q : jv_R → Prop} (hQ : Q (some (.int (vr_b (decide (vf_pA f)))), jv_H K I L R, n, sl)) : jv_Wp 264 73 [(0, .ref 196), (1, .int (vr_b t1)), (2, .int (vr_b t2))] [] (jv_H K I L R) n sl Q := by
  have c1 := vr_dc D
  have c2 := vr_dd D
  have c3 := vr_ds D
  have c4 : f.n = f.code / 16 := rfl
  have c5 : f.kind = f.code % 8 := rfl
  have c6 : f.mode = f.code / 32 := rfl
  have c7 := vf_z f
  have bn : f.n < 2147483648 := by omega
  have bk : f.kind < 2147483648 := by omega
  have bm : f.mode < 2147483648 := by omega
  have bz : f.z < 2147483648 := by omega
  have bc : f.code < 2147483648 := by omega
  have bd : f.d < 2147483648 := by omega
  have bs : f.s < 2147483648 := by omega
  refine jv_Wp.lift (fun _ Kz => jv_Ev.steps jv_i264 1 (pc' := 74) (l' := [(0, .ref 196), (1, .int (vr_b t1)), (2, .int (vr_b t2))]) (st' := [.ref 196]) rfl Kz) ?_
  refine jv_Wp.lift (fun _ Kz => jv_Ev.c jv_i264 (pc' := 77) (S' := [.int (vl_I f.n)]) jv_i258 [.ref 196] rfl rfl rfl rfl (jv_cal rfl (jv_H_at (jv_rwK hW 196 12 24 (by decide))) rfl rfl) rfl (vq_n f hW D) rfl rfl Kz) ?_
  refine jv_Wp.bys (q := ((vl_I f.n) = Int32.ofInt 3)) (fun h1 => ?_) (fun h1 => ?_)
  · refine jv_Wp.lift (fun _ Kz => jv_Ev.br jv_i264 (pc' := 191) (st' := []) rfl (by rw [h1]; rfl) Kz) ?_
    refine jv_Wp.lift (fun _ Kz => jv_Ev.steps jv_i264 1 (pc' := 192) (l' := [(0, .ref 196), (1, .int (vr_b t1)), (2, .int (vr_b t2))]) (st' := [.ref 196]) rfl Kz) ?_
    refine jv_Wp.lift (fun _ Kz => jv_Ev.c jv_i264 (pc' := 195) (S' := [.int (vr_b (decide (vf_pS f)))]) jv_i263 [.ref 196] rfl rfl rfl rfl (jv_cal rfl (jv_H_at (jv_rwK hW 196 12 24 (by decide))) rfl rfl) rfl (vq_hasSource f hW D) rfl rfl Kz) ?_
    refine jv_Wp.cnd jv_i264 (pt := 217) (pe := 198) (p := ((vr_b (decide (vf_pS f))) = 0)) (q := ((vr_b (decide (vf_pS f))) = 0)) rfl jv_bi_eq rfl rfl Iff.rfl (fun h2 => ?_) (fun h2 => ?_)
    · refine jv_Wp.lift (fun _ Kz => jv_Ev.steps jv_i264 1 (pc' := 218) (l' := [(0, .ref 196), (1, .int (vr_b t1)), (2, .int (vr_b t2))]) (st' := [.int (0 : Int32)]) rfl Kz) ?_
      refine jv_Wp.of (jv_Ev.ret jv_i264 rfl (jv_ret_b (Or.inl rfl))) ?_
      have x1 : f.n = 3 := (vl_I_inj (a := f.n) (b := 3) (Nat.lt_trans bn (by decide)) (by decide)).mp h1
      have b2 := of_decide_eq_false (vr_b_f h2)
      have ev : decide (vf_pA f) = false := decide_eq_false (fun z => by have y := (vf_pA_3 (by omega)).mp z; omega)
      rw [ev] at hQ
      exact hQ
    · refine jv_Wp.lift (fun _ Kz => jv_Ev.steps jv_i264 1 (pc' := 199) (l' := [(0, .ref 196), (1, .int (vr_b t1)), (2, .int (vr_b t2))]) (st' := [.ref 196]) rfl Kz) ?_
      refine jv_Wp.lift (fun _ Kz => jv_Ev.m jv_i264 (pc' := 202) (st' := [.int (Int32.ofInt f.o)]) (G' := (jv_H K I L R)) rfl rfl (jv_m_getI (jv_rwK hW 196 12 24 (by decide)) rfl rfl (vr_dI D)) Kz) ?_
      refine jv_Wp.cnd jv_i264 (pt := 213) (pe := 205) (p := ((Int32.ofInt f.o) = 0)) (q := ((Int32.ofInt f.o) = 0)) rfl jv_bi_eq rfl rfl Iff.rfl (fun h3 => ?_) (fun h3 => ?_)
      · refine jv_Wp.lift (fun _ Kz => jv_Ev.steps jv_i264 2 (pc' := 218) (l' := [(0, .ref 196), (1, .int (vr_b t1)), (2, .int (vr_b t2))]) (st' := [.int (1 : Int32)]) rfl Kz) ?_
        refine jv_Wp.of (jv_Ev.ret jv_i264 rfl (jv_ret_b (Or.inr rfl))) ?_
        have x1 : f.n = 3 := (vl_I_inj (a := f.n) (b := 3) (Nat.lt_trans bn (by decide)) (by decide)).mp h1
        have b2 := of_decide_eq_true (vr_b_t h2)
        have y3 : f.o = 0 := (vr_dO D).symm.trans (congrArg Int32.toInt h3)
        have ev : decide (vf_pA f) = true := decide_eq_true ((vf_pA_3 (by omega)).mpr (by omega))
        rw [ev] at hQ
        exact hQ
      · refine jv_Wp.lift (fun _ Kz => jv_Ev.steps jv_i264 1 (pc' := 206) (l' := [(0, .ref 196), (1, .int (vr_b t1)), (2, .int (vr_b t2))]) (st' := [.ref 196]) rfl Kz) ?_
        refine jv_Wp.lift (fun _ Kz => jv_Ev.m jv_i264 (pc' := 209) (st' := [.int (Int32.ofInt f.o)]) (G' := (jv_H K I L R)) rfl rfl (jv_m_getI (jv_rwK hW 196 12 24 (by decide)) rfl rfl (vr_dI D)) Kz) ?_
        refine jv_Wp.lift (fun _ Kz => jv_Ev.steps jv_i264 1 (pc' := 210) (l' := [(0, .ref 196), (1, .int (vr_b t1)), (2, .int (vr_b t2))]) (st' := [.int (1 : Int32), .int (Int32.ofInt f.o)]) rfl Kz) ?_
        refine jv_Wp.cnd jv_i264 (pt := 217) (pe := 213) (p := (¬ (Int32.ofInt f.o) = (1 : Int32))) (q := (¬ (Int32.ofInt f.o) = (1 : Int32))) rfl jv_bc_ne rfl rfl Iff.rfl (fun h4 => ?_) (fun h4 => ?_)
        · refine jv_Wp.lift (fun _ Kz => jv_Ev.steps jv_i264 1 (pc' := 218) (l' := [(0, .ref 196), (1, .int (vr_b t1)), (2, .int (vr_b t2))]) (st' := [.int (0 : Int32)]) rfl Kz) ?_
          refine jv_Wp.of (jv_Ev.ret jv_i264 rfl (jv_ret_b (Or.inl rfl))) ?_
          have x1 : f.n = 3 := (vl_I_inj (a := f.n) (b := 3) (Nat.lt_trans bn (by decide)) (by decide)).mp h1
          have b2 := of_decide_eq_true (vr_b_t h2)
          have y3 : ¬ f.o = 0 := fun z => h3 (Int32.toInt_inj.mp ((vr_dO D).trans (z.trans rfl)))
          have y4 : ¬ f.o = 1 := fun z => h4 (Int32.toInt_inj.mp ((vr_dO D).trans (z.trans rfl)))
          have ev : decide (vf_pA f) = false := decide_eq_false (fun z => by have y := (vf_pA_3 (by omega)).mp z; omega)
          rw [ev] at hQ
          exact hQ
        · refine jv_Wp.lift (fun _ Kz => jv_Ev.steps jv_i264 2 (pc' := 218) (l' := [(0, .ref 196), (1, .int (vr_b t1)), (2, .int (vr_b t2))]) (st' := [.int (1 : Int32)]) rfl Kz) ?_
          refine jv_Wp.of (jv_Ev.ret jv_i264 rfl (jv_ret_b (Or.inr rfl))) ?_
          have x1 : f.n = 3 := (vl_I_inj (a := f.n) (b := 3) (Nat.lt_trans bn (by decide)) (by decide)).mp h1
          have b2 := of_decide_eq_true (vr_b_t h2)
          have y3 : ¬ f.o = 0 := fun z => h3 (Int32.toInt_inj.mp ((vr_dO D).trans (z.trans rfl)))
          have y4 : f.o = 1 := (vr_dO D).symm.trans (congrArg Int32.toInt (Classical.not_not.mp h4))
          have ev : decide (vf_pA f) = true := decide_eq_true ((vf_pA_3 (by omega)).mpr (by omega))
          rw [ev] at hQ
          exact hQ
  · refine jv_Wp.bys (q := ((vl_I f.n) = Int32.ofInt 8)) (fun h5 => ?_) (fun h5 => ?_)
    · refine jv_Wp.lift (fun _ Kz => jv_Ev.br jv_i264 (pc' := 136) (st' := []) rfl (by rw [h5]; rfl) Kz) ?_
      refine jv_Wp.lift (fun _ Kz => jv_Ev.steps jv_i264 1 (pc' := 137) (l' := [(0, .ref 196), (1, .int (vr_b t1)), (2, .int (vr_b t2))]) (st' := [.ref 196]) rfl Kz) ?_
      refine jv_Wp.lift (fun _ Kz => jv_Ev.c jv_i264 (pc' := 140) (S' := [.int (vr_b f.bit3)]) jv_i259 [.ref 196] rfl rfl rfl rfl (jv_cal rfl (jv_H_at (jv_rwK hW 196 12 24 (by decide))) rfl rfl) rfl (vq_bit3 f hW D) rfl rfl Kz) ?_
      refine jv_Wp.cnd jv_i264 (pt := 168) (pe := 143) (p := (¬ (vr_b f.bit3) = 0)) (q := (¬ (vr_b f.bit3) = 0)) rfl jv_bi_ne rfl rfl Iff.rfl (fun h6 => ?_) (fun h6 => ?_)
      · refine jv_Wp.lift (fun _ Kz => jv_Ev.steps jv_i264 1 (pc' := 169) (l' := [(0, .ref 196), (1, .int (vr_b t1)), (2, .int (vr_b t2))]) (st' := [.int (0 : Int32)]) rfl Kz) ?_
        refine jv_Wp.of (jv_Ev.ret jv_i264 rfl (jv_ret_b (Or.inl rfl))) ?_
        have x1 : ¬ f.n = 3 := fun z => h1 ((vl_I_inj (a := f.n) (b := 3) (Nat.lt_trans bn (by decide)) (by decide)).mpr z)
        have x2 : f.n = 8 := (vl_I_inj (a := f.n) (b := 8) (Nat.lt_trans bn (by decide)) (by decide)).mp h5
        have b3 := vf_b3t (vr_b_t h6)
        have ev : decide (vf_pA f) = false := decide_eq_false (fun z => by have y := (vf_pA_8 (by omega)).mp z; omega)
        rw [ev] at hQ
        exact hQ
      · refine jv_Wp.lift (fun _ Kz => jv_Ev.steps jv_i264 1 (pc' := 144) (l' := [(0, .ref 196), (1, .int (vr_b t1)), (2, .int (vr_b t2))]) (st' := [.ref 196]) rfl Kz) ?_
        refine jv_Wp.lift (fun _ Kz => jv_Ev.m jv_i264 (pc' := 147) (st' := [.int (Int32.ofInt f.i)]) (G' := (jv_H K I L R)) rfl rfl (jv_m_getI (jv_rwK hW 196 12 24 (by decide)) rfl rfl (vr_dJ D)) Kz) ?_
        refine jv_Wp.cnd jv_i264 (pt := 168) (pe := 150) (p := (¬ (Int32.ofInt f.i) = 0)) (q := (¬ (Int32.ofInt f.i) = 0)) rfl jv_bi_ne rfl rfl Iff.rfl (fun h7 => ?_) (fun h7 => ?_)
        · refine jv_Wp.lift (fun _ Kz => jv_Ev.steps jv_i264 1 (pc' := 169) (l' := [(0, .ref 196), (1, .int (vr_b t1)), (2, .int (vr_b t2))]) (st' := [.int (0 : Int32)]) rfl Kz) ?_
          refine jv_Wp.of (jv_Ev.ret jv_i264 rfl (jv_ret_b (Or.inl rfl))) ?_
          have x1 : ¬ f.n = 3 := fun z => h1 ((vl_I_inj (a := f.n) (b := 3) (Nat.lt_trans bn (by decide)) (by decide)).mpr z)
          have x2 : f.n = 8 := (vl_I_inj (a := f.n) (b := 8) (Nat.lt_trans bn (by decide)) (by decide)).mp h5
          have b3 := vf_b3f (vr_b_f (Classical.not_not.mp h6))
          have y4 : ¬ f.i = 0 := fun z => h7 (Int32.toInt_inj.mp ((vr_dQ D).trans (z.trans rfl)))
          have ev : decide (vf_pA f) = false := decide_eq_false (fun z => by have y := (vf_pA_8 (by omega)).mp z; omega)
          rw [ev] at hQ
          exact hQ
        · refine jv_Wp.lift (fun _ Kz => jv_Ev.steps jv_i264 1 (pc' := 151) (l' := [(0, .ref 196), (1, .int (vr_b t1)), (2, .int (vr_b t2))]) (st' := [.ref 196]) rfl Kz) ?_
          refine jv_Wp.lift (fun _ Kz => jv_Ev.m jv_i264 (pc' := 154) (st' := [.int (vl_I f.s)]) (G' := (jv_H K I L R)) rfl rfl (jv_m_getI (jv_rwK hW 196 12 24 (by decide)) rfl rfl D.2.2.1) Kz) ?_
          refine jv_Wp.cnd jv_i264 (pt := 168) (pe := 157) (p := (¬ (vl_I f.s) = 0)) (q := (¬ (vl_I f.s) = 0)) rfl jv_bi_ne rfl rfl Iff.rfl (fun h8 => ?_) (fun h8 => ?_)
          · refine jv_Wp.lift (fun _ Kz => jv_Ev.steps jv_i264 1 (pc' := 169) (l' := [(0, .ref 196), (1, .int (vr_b t1)), (2, .int (vr_b t2))]) (st' := [.int (0 : Int32)]) rfl Kz) ?_
            refine jv_Wp.of (jv_Ev.ret jv_i264 rfl (jv_ret_b (Or.inl rfl))) ?_
            have x1 : ¬ f.n = 3 := fun z => h1 ((vl_I_inj (a := f.n) (b := 3) (Nat.lt_trans bn (by decide)) (by decide)).mpr z)
            have x2 : f.n = 8 := (vl_I_inj (a := f.n) (b := 8) (Nat.lt_trans bn (by decide)) (by decide)).mp h5
            have b3 := vf_b3f (vr_b_f (Classical.not_not.mp h6))
            have y4 : f.i = 0 := (vr_dQ D).symm.trans (congrArg Int32.toInt (Classical.not_not.mp h7))
            have x5 : ¬ f.s = 0 := fun z => h8 ((vl_I_inj (a := f.s) (b := 0) (Nat.lt_trans bs (by decide)) (by decide)).mpr z)
            have ev : decide (vf_pA f) = false := decide_eq_false (fun z => by have y := (vf_pA_8 (by omega)).mp z; omega)
            rw [ev] at hQ
            exact hQ
          · refine jv_Wp.lift (fun _ Kz => jv_Ev.steps jv_i264 1 (pc' := 158) (l' := [(0, .ref 196), (1, .int (vr_b t1)), (2, .int (vr_b t2))]) (st' := [.ref 196]) rfl Kz) ?_
            refine jv_Wp.lift (fun _ Kz => jv_Ev.m jv_i264 (pc' := 161) (st' := [.int (Int32.ofInt f.o)]) (G' := (jv_H K I L R)) rfl rfl (jv_m_getI (jv_rwK hW 196 12 24 (by decide)) rfl rfl (vr_dI D)) Kz) ?_
            refine jv_Wp.cnd jv_i264 (pt := 168) (pe := 164) (p := (¬ (Int32.ofInt f.o) = 0)) (q := (¬ (Int32.ofInt f.o) = 0)) rfl jv_bi_ne rfl rfl Iff.rfl (fun h9 => ?_) (fun h9 => ?_)
            · refine jv_Wp.lift (fun _ Kz => jv_Ev.steps jv_i264 1 (pc' := 169) (l' := [(0, .ref 196), (1, .int (vr_b t1)), (2, .int (vr_b t2))]) (st' := [.int (0 : Int32)]) rfl Kz) ?_
              refine jv_Wp.of (jv_Ev.ret jv_i264 rfl (jv_ret_b (Or.inl rfl))) ?_
              have x1 : ¬ f.n = 3 := fun z => h1 ((vl_I_inj (a := f.n) (b := 3) (Nat.lt_trans bn (by decide)) (by decide)).mpr z)
              have x2 : f.n = 8 := (vl_I_inj (a := f.n) (b := 8) (Nat.lt_trans bn (by decide)) (by decide)).mp h5
              have b3 := vf_b3f (vr_b_f (Classical.not_not.mp h6))
              have y4 : f.i = 0 := (vr_dQ D).symm.trans (congrArg Int32.toInt (Classical.not_not.mp h7))
              have x5 : f.s = 0 := (vl_I_inj (a := f.s) (b := 0) (Nat.lt_trans bs (by decide)) (by decide)).mp (Classical.not_not.mp h8)
              have y6 : ¬ f.o = 0 := fun z => h9 (Int32.toInt_inj.mp ((vr_dO D).trans (z.trans rfl)))
              have ev : decide (vf_pA f) = false := decide_eq_false (fun z => by have y := (vf_pA_8 (by omega)).mp z; omega)
              rw [ev] at hQ
              exact hQ
            · refine jv_Wp.lift (fun _ Kz => jv_Ev.steps jv_i264 2 (pc' := 169) (l' := [(0, .ref 196), (1, .int (vr_b t1)), (2, .int (vr_b t2))]) (st' := [.int (1 : Int32)]) rfl Kz) ?_
              refine jv_Wp.of (jv_Ev.ret jv_i264 rfl (jv_ret_b (Or.inr rfl))) ?_
              have x1 : ¬ f.n = 3 := fun z => h1 ((vl_I_inj (a := f.n) (b := 3) (Nat.lt_trans bn (by decide)) (by decide)).mpr z)
              have x2 : f.n = 8 := (vl_I_inj (a := f.n) (b := 8) (Nat.lt_trans bn (by decide)) (by decide)).mp h5
              have b3 := vf_b3f (vr_b_f (Classical.not_not.mp h6))
              have y4 : f.i = 0 := (vr_dQ D).symm.trans (congrArg Int32.toInt (Classical.not_not.mp h7))
              have x5 : f.s = 0 := (vl_I_inj (a := f.s) (b := 0) (Nat.lt_trans bs (by decide)) (by decide)).mp (Classical.not_not.mp h8)
              have y6 : f.o = 0 := (vr_dO D).symm.trans (congrArg Int32.toInt (Classical.not_not.mp h9))
              have ev : decide (vf_pA f) = true := decide_eq_true ((vf_pA_8 (by omega)).mpr (by omega))
              rw [ev] at hQ
              exact hQ
    · refine jv_Wp.bys (q := ((vl_I f.n) = Int32.ofInt 9)) (fun h10 => ?_) (fun h10 => ?_)
      · refine jv_Wp.lift (fun _ Kz => jv_Ev.br jv_i264 (pc' := 191) (st' := []) rfl (by rw [h10]; rfl) Kz) ?_
        refine jv_Wp.lift (fun _ Kz => jv_Ev.steps jv_i264 1 (pc' := 192) (l' := [(0, .ref 196), (1, .int (vr_b t1)), (2, .int (vr_b t2))]) (st' := [.ref 196]) rfl Kz) ?_
        refine jv_Wp.lift (fun _ Kz => jv_Ev.c jv_i264 (pc' := 195) (S' := [.int (vr_b (decide (vf_pS f)))]) jv_i263 [.ref 196] rfl rfl rfl rfl (jv_cal rfl (jv_H_at (jv_rwK hW 196 12 24 (by decide))) rfl rfl) rfl (vq_hasSource f hW D) rfl rfl Kz) ?_
        refine jv_Wp.cnd jv_i264 (pt := 217) (pe := 198) (p := ((vr_b (decide (vf_pS f))) = 0)) (q := ((vr_b (decide (vf_pS f))) = 0)) rfl jv_bi_eq rfl rfl Iff.rfl (fun h11 => ?_) (fun h11 => ?_)
        · refine jv_Wp.lift (fun _ Kz => jv_Ev.steps jv_i264 1 (pc' := 218) (l' := [(0, .ref 196), (1, .int (vr_b t1)), (2, .int (vr_b t2))]) (st' := [.int (0 : Int32)]) rfl Kz) ?_
          refine jv_Wp.of (jv_Ev.ret jv_i264 rfl (jv_ret_b (Or.inl rfl))) ?_
          have x1 : ¬ f.n = 3 := fun z => h1 ((vl_I_inj (a := f.n) (b := 3) (Nat.lt_trans bn (by decide)) (by decide)).mpr z)
          have x2 : ¬ f.n = 8 := fun z => h5 ((vl_I_inj (a := f.n) (b := 8) (Nat.lt_trans bn (by decide)) (by decide)).mpr z)
          have x3 : f.n = 9 := (vl_I_inj (a := f.n) (b := 9) (Nat.lt_trans bn (by decide)) (by decide)).mp h10
          have b4 := of_decide_eq_false (vr_b_f h11)
          have ev : decide (vf_pA f) = false := decide_eq_false (fun z => by have y := (vf_pA_3 (by omega)).mp z; omega)
          rw [ev] at hQ
          exact hQ
        · refine jv_Wp.lift (fun _ Kz => jv_Ev.steps jv_i264 1 (pc' := 199) (l' := [(0, .ref 196), (1, .int (vr_b t1)), (2, .int (vr_b t2))]) (st' := [.ref 196]) rfl Kz) ?_
          refine jv_Wp.lift (fun _ Kz => jv_Ev.m jv_i264 (pc' := 202) (st' := [.int (Int32.ofInt f.o)]) (G' := (jv_H K I L R)) rfl rfl (jv_m_getI (jv_rwK hW 196 12 24 (by decide)) rfl rfl (vr_dI D)) Kz) ?_
          refine jv_Wp.cnd jv_i264 (pt := 213) (pe := 205) (p := ((Int32.ofInt f.o) = 0)) (q := ((Int32.ofInt f.o) = 0)) rfl jv_bi_eq rfl rfl Iff.rfl (fun h12 => ?_) (fun h12 => ?_)
          · refine jv_Wp.lift (fun _ Kz => jv_Ev.steps jv_i264 2 (pc' := 218) (l' := [(0, .ref 196), (1, .int (vr_b t1)), (2, .int (vr_b t2))]) (st' := [.int (1 : Int32)]) rfl Kz) ?_
            refine jv_Wp.of (jv_Ev.ret jv_i264 rfl (jv_ret_b (Or.inr rfl))) ?_
            have x1 : ¬ f.n = 3 := fun z => h1 ((vl_I_inj (a := f.n) (b := 3) (Nat.lt_trans bn (by decide)) (by decide)).mpr z)
            have x2 : ¬ f.n = 8 := fun z => h5 ((vl_I_inj (a := f.n) (b := 8) (Nat.lt_trans bn (by decide)) (by decide)).mpr z)
            have x3 : f.n = 9 := (vl_I_inj (a := f.n) (b := 9) (Nat.lt_trans bn (by decide)) (by decide)).mp h10
            have b4 := of_decide_eq_true (vr_b_t h11)
            have y5 : f.o = 0 := (vr_dO D).symm.trans (congrArg Int32.toInt h12)
            have ev : decide (vf_pA f) = true := decide_eq_true ((vf_pA_3 (by omega)).mpr (by omega))
            rw [ev] at hQ
            exact hQ
          · refine jv_Wp.lift (fun _ Kz => jv_Ev.steps jv_i264 1 (pc' := 206) (l' := [(0, .ref 196), (1, .int (vr_b t1)), (2, .int (vr_b t2))]) (st' := [.ref 196]) rfl Kz) ?_
            refine jv_Wp.lift (fun _ Kz => jv_Ev.m jv_i264 (pc' := 209) (st' := [.int (Int32.ofInt f.o)]) (G' := (jv_H K I L R)) rfl rfl (jv_m_getI (jv_rwK hW 196 12 24 (by decide)) rfl rfl (vr_dI D)) Kz) ?_
            refine jv_Wp.lift (fun _ Kz => jv_Ev.steps jv_i264 1 (pc' := 210) (l' := [(0, .ref 196), (1, .int (vr_b t1)), (2, .int (vr_b t2))]) (st' := [.int (1 : Int32), .int (Int32.ofInt f.o)]) rfl Kz) ?_
            refine jv_Wp.cnd jv_i264 (pt := 217) (pe := 213) (p := (¬ (Int32.ofInt f.o) = (1 : Int32))) (q := (¬ (Int32.ofInt f.o) = (1 : Int32))) rfl jv_bc_ne rfl rfl Iff.rfl (fun h13 => ?_) (fun h13 => ?_)
            · refine jv_Wp.lift (fun _ Kz => jv_Ev.steps jv_i264 1 (pc' := 218) (l' := [(0, .ref 196), (1, .int (vr_b t1)), (2, .int (vr_b t2))]) (st' := [.int (0 : Int32)]) rfl Kz) ?_
              refine jv_Wp.of (jv_Ev.ret jv_i264 rfl (jv_ret_b (Or.inl rfl))) ?_
              have x1 : ¬ f.n = 3 := fun z => h1 ((vl_I_inj (a := f.n) (b := 3) (Nat.lt_trans bn (by decide)) (by decide)).mpr z)
              have x2 : ¬ f.n = 8 := fun z => h5 ((vl_I_inj (a := f.n) (b := 8) (Nat.lt_trans bn (by decide)) (by decide)).mpr z)
              have x3 : f.n = 9 := (vl_I_inj (a := f.n) (b := 9) (Nat.lt_trans bn (by decide)) (by decide)).mp h10
              have b4 := of_decide_eq_true (vr_b_t h11)
              have y5 : ¬ f.o = 0 := fun z => h12 (Int32.toInt_inj.mp ((vr_dO D).trans (z.trans rfl)))
              have y6 : ¬ f.o = 1 := fun z => h13 (Int32.toInt_inj.mp ((vr_dO D).trans (z.trans rfl)))
              have ev : decide (vf_pA f) = false := decide_eq_false (fun z => by have y := (vf_pA_3 (by omega)).mp z; omega)
              rw [ev] at hQ
              exact hQ
            · refine jv_Wp.lift (fun _ Kz => jv_Ev.steps jv_i264 2 (pc' := 218) (l' := [(0, .ref 196), (1, .int (vr_b t1)), (2, .int (vr_b t2))]) (st' := [.int (1 : Int32)]) rfl Kz) ?_
              refine jv_Wp.of (jv_Ev.ret jv_i264 rfl (jv_ret_b (Or.inr rfl))) ?_
              have x1 : ¬ f.n = 3 := fun z => h1 ((vl_I_inj (a := f.n) (b := 3) (Nat.lt_trans bn (by decide)) (by decide)).mpr z)
              have x2 : ¬ f.n = 8 := fun z => h5 ((vl_I_inj (a := f.n) (b := 8) (Nat.lt_trans bn (by decide)) (by decide)).mpr z)
              have x3 : f.n = 9 := (vl_I_inj (a := f.n) (b := 9) (Nat.lt_trans bn (by decide)) (by decide)).mp h10
              have b4 := of_decide_eq_true (vr_b_t h11)
              have y5 : ¬ f.o = 0 := fun z => h12 (Int32.toInt_inj.mp ((vr_dO D).trans (z.trans rfl)))
              have y6 : f.o = 1 := (vr_dO D).symm.trans (congrArg Int32.toInt (Classical.not_not.mp h13))
              have ev : decide (vf_pA f) = true := decide_eq_true ((vf_pA_3 (by omega)).mpr (by omega))
              rw [ev] at hQ
              exact hQ
      · refine jv_Wp.bys (q := ((vl_I f.n) = Int32.ofInt 11)) (fun h14 => ?_) (fun h14 => ?_)
        · refine jv_Wp.lift (fun _ Kz => jv_Ev.br jv_i264 (pc' := 219) (st' := []) rfl (by rw [h14]; rfl) Kz) ?_
          refine jv_Wp.lift (fun _ Kz => jv_Ev.steps jv_i264 1 (pc' := 220) (l' := [(0, .ref 196), (1, .int (vr_b t1)), (2, .int (vr_b t2))]) (st' := [.ref 196]) rfl Kz) ?_
          refine jv_Wp.lift (fun _ Kz => jv_Ev.c jv_i264 (pc' := 223) (S' := [.int (vr_b (decide (vf_pS f)))]) jv_i263 [.ref 196] rfl rfl rfl rfl (jv_cal rfl (jv_H_at (jv_rwK hW 196 12 24 (by decide))) rfl rfl) rfl (vq_hasSource f hW D) rfl rfl Kz) ?_
          refine jv_Wp.cnd jv_i264 (pt := 275) (pe := 226) (p := ((vr_b (decide (vf_pS f))) = 0)) (q := ((vr_b (decide (vf_pS f))) = 0)) rfl jv_bi_eq rfl rfl Iff.rfl (fun h15 => ?_) (fun h15 => ?_)
          · refine jv_Wp.lift (fun _ Kz => jv_Ev.steps jv_i264 1 (pc' := 276) (l' := [(0, .ref 196), (1, .int (vr_b t1)), (2, .int (vr_b t2))]) (st' := [.int (0 : Int32)]) rfl Kz) ?_
            refine jv_Wp.of (jv_Ev.ret jv_i264 rfl (jv_ret_b (Or.inl rfl))) ?_
            have x1 : ¬ f.n = 3 := fun z => h1 ((vl_I_inj (a := f.n) (b := 3) (Nat.lt_trans bn (by decide)) (by decide)).mpr z)
            have x2 : ¬ f.n = 8 := fun z => h5 ((vl_I_inj (a := f.n) (b := 8) (Nat.lt_trans bn (by decide)) (by decide)).mpr z)
            have x3 : ¬ f.n = 9 := fun z => h10 ((vl_I_inj (a := f.n) (b := 9) (Nat.lt_trans bn (by decide)) (by decide)).mpr z)
            have x4 : f.n = 11 := (vl_I_inj (a := f.n) (b := 11) (Nat.lt_trans bn (by decide)) (by decide)).mp h14
            have b5 := of_decide_eq_false (vr_b_f h15)
            have ev : decide (vf_pA f) = false := decide_eq_false (fun z => by have y := (vf_pA_11 (by omega)).mp z; omega)
            rw [ev] at hQ
            exact hQ
          · refine jv_Wp.lift (fun _ Kz => jv_Ev.steps jv_i264 1 (pc' := 227) (l' := [(0, .ref 196), (1, .int (vr_b t1)), (2, .int (vr_b t2))]) (st' := [.ref 196]) rfl Kz) ?_
            refine jv_Wp.lift (fun _ Kz => jv_Ev.m jv_i264 (pc' := 230) (st' := [.int (Int32.ofInt f.o)]) (G' := (jv_H K I L R)) rfl rfl (jv_m_getI (jv_rwK hW 196 12 24 (by decide)) rfl rfl (vr_dI D)) Kz) ?_
            refine jv_Wp.cnd jv_i264 (pt := 271) (pe := 233) (p := ((Int32.ofInt f.o) = 0)) (q := ((Int32.ofInt f.o) = 0)) rfl jv_bi_eq rfl rfl Iff.rfl (fun h16 => ?_) (fun h16 => ?_)
            · refine jv_Wp.lift (fun _ Kz => jv_Ev.steps jv_i264 2 (pc' := 276) (l' := [(0, .ref 196), (1, .int (vr_b t1)), (2, .int (vr_b t2))]) (st' := [.int (1 : Int32)]) rfl Kz) ?_
              refine jv_Wp.of (jv_Ev.ret jv_i264 rfl (jv_ret_b (Or.inr rfl))) ?_
              have x1 : ¬ f.n = 3 := fun z => h1 ((vl_I_inj (a := f.n) (b := 3) (Nat.lt_trans bn (by decide)) (by decide)).mpr z)
              have x2 : ¬ f.n = 8 := fun z => h5 ((vl_I_inj (a := f.n) (b := 8) (Nat.lt_trans bn (by decide)) (by decide)).mpr z)
              have x3 : ¬ f.n = 9 := fun z => h10 ((vl_I_inj (a := f.n) (b := 9) (Nat.lt_trans bn (by decide)) (by decide)).mpr z)
              have x4 : f.n = 11 := (vl_I_inj (a := f.n) (b := 11) (Nat.lt_trans bn (by decide)) (by decide)).mp h14
              have b5 := of_decide_eq_true (vr_b_t h15)
              have y6 : f.o = 0 := (vr_dO D).symm.trans (congrArg Int32.toInt h16)
              have ev : decide (vf_pA f) = true := decide_eq_true ((vf_pA_11 (by omega)).mpr (by omega))
              rw [ev] at hQ
              exact hQ
            · refine jv_Wp.lift (fun _ Kz => jv_Ev.steps jv_i264 1 (pc' := 234) (l' := [(0, .ref 196), (1, .int (vr_b t1)), (2, .int (vr_b t2))]) (st' := [.ref 196]) rfl Kz) ?_
              refine jv_Wp.lift (fun _ Kz => jv_Ev.c jv_i264 (pc' := 237) (S' := [.int (vr_b f.bit3)]) jv_i259 [.ref 196] rfl rfl rfl rfl (jv_cal rfl (jv_H_at (jv_rwK hW 196 12 24 (by decide))) rfl rfl) rfl (vq_bit3 f hW D) rfl rfl Kz) ?_
              refine jv_Wp.cnd jv_i264 (pt := 275) (pe := 240) (p := ((vr_b f.bit3) = 0)) (q := ((vr_b f.bit3) = 0)) rfl jv_bi_eq rfl rfl Iff.rfl (fun h17 => ?_) (fun h17 => ?_)
              · refine jv_Wp.lift (fun _ Kz => jv_Ev.steps jv_i264 1 (pc' := 276) (l' := [(0, .ref 196), (1, .int (vr_b t1)), (2, .int (vr_b t2))]) (st' := [.int (0 : Int32)]) rfl Kz) ?_
                refine jv_Wp.of (jv_Ev.ret jv_i264 rfl (jv_ret_b (Or.inl rfl))) ?_
                have x1 : ¬ f.n = 3 := fun z => h1 ((vl_I_inj (a := f.n) (b := 3) (Nat.lt_trans bn (by decide)) (by decide)).mpr z)
                have x2 : ¬ f.n = 8 := fun z => h5 ((vl_I_inj (a := f.n) (b := 8) (Nat.lt_trans bn (by decide)) (by decide)).mpr z)
                have x3 : ¬ f.n = 9 := fun z => h10 ((vl_I_inj (a := f.n) (b := 9) (Nat.lt_trans bn (by decide)) (by decide)).mpr z)
                have x4 : f.n = 11 := (vl_I_inj (a := f.n) (b := 11) (Nat.lt_trans bn (by decide)) (by decide)).mp h14
                have b5 := of_decide_eq_true (vr_b_t h15)
                have y6 : ¬ f.o = 0 := fun z => h16 (Int32.toInt_inj.mp ((vr_dO D).trans (z.trans rfl)))
                have b7 := vf_b3f (vr_b_f h17)
                have ev : decide (vf_pA f) = false := decide_eq_false (fun z => by have y := (vf_pA_11 (by omega)).mp z; omega)
                rw [ev] at hQ
                exact hQ
              · refine jv_Wp.lift (fun _ Kz => jv_Ev.steps jv_i264 1 (pc' := 241) (l' := [(0, .ref 196), (1, .int (vr_b t1)), (2, .int (vr_b t2))]) (st' := [.ref 196]) rfl Kz) ?_
                refine jv_Wp.lift (fun _ Kz => jv_Ev.m jv_i264 (pc' := 244) (st' := [.int (Int32.ofInt f.o)]) (G' := (jv_H K I L R)) rfl rfl (jv_m_getI (jv_rwK hW 196 12 24 (by decide)) rfl rfl (vr_dI D)) Kz) ?_
                refine jv_Wp.lift (fun _ Kz => jv_Ev.steps jv_i264 1 (pc' := 246) (l' := [(0, .ref 196), (1, .int (vr_b t1)), (2, .int (vr_b t2))]) (st' := [.int (8 : Int32), .int (Int32.ofInt f.o)]) rfl Kz) ?_
                refine jv_Wp.cnd jv_i264 (pt := 271) (pe := 249) (p := ((Int32.ofInt f.o) = (8 : Int32))) (q := ((Int32.ofInt f.o) = (8 : Int32))) rfl jv_bc_eq rfl rfl Iff.rfl (fun h18 => ?_) (fun h18 => ?_)
                · refine jv_Wp.lift (fun _ Kz => jv_Ev.steps jv_i264 2 (pc' := 276) (l' := [(0, .ref 196), (1, .int (vr_b t1)), (2, .int (vr_b t2))]) (st' := [.int (1 : Int32)]) rfl Kz) ?_
                  refine jv_Wp.of (jv_Ev.ret jv_i264 rfl (jv_ret_b (Or.inr rfl))) ?_
                  have x1 : ¬ f.n = 3 := fun z => h1 ((vl_I_inj (a := f.n) (b := 3) (Nat.lt_trans bn (by decide)) (by decide)).mpr z)
                  have x2 : ¬ f.n = 8 := fun z => h5 ((vl_I_inj (a := f.n) (b := 8) (Nat.lt_trans bn (by decide)) (by decide)).mpr z)
                  have x3 : ¬ f.n = 9 := fun z => h10 ((vl_I_inj (a := f.n) (b := 9) (Nat.lt_trans bn (by decide)) (by decide)).mpr z)
                  have x4 : f.n = 11 := (vl_I_inj (a := f.n) (b := 11) (Nat.lt_trans bn (by decide)) (by decide)).mp h14
                  have b5 := of_decide_eq_true (vr_b_t h15)
                  have y6 : ¬ f.o = 0 := fun z => h16 (Int32.toInt_inj.mp ((vr_dO D).trans (z.trans rfl)))
                  have b7 := vf_b3t (vr_b_t h17)
                  have y8 : f.o = 8 := (vr_dO D).symm.trans (congrArg Int32.toInt h18)
                  have ev : decide (vf_pA f) = true := decide_eq_true ((vf_pA_11 (by omega)).mpr (by omega))
                  rw [ev] at hQ
                  exact hQ
                · refine jv_Wp.lift (fun _ Kz => jv_Ev.steps jv_i264 1 (pc' := 250) (l' := [(0, .ref 196), (1, .int (vr_b t1)), (2, .int (vr_b t2))]) (st' := [.ref 196]) rfl Kz) ?_
                  refine jv_Wp.lift (fun _ Kz => jv_Ev.m jv_i264 (pc' := 253) (st' := [.int (Int32.ofInt f.o)]) (G' := (jv_H K I L R)) rfl rfl (jv_m_getI (jv_rwK hW 196 12 24 (by decide)) rfl rfl (vr_dI D)) Kz) ?_
                  refine jv_Wp.lift (fun _ Kz => jv_Ev.steps jv_i264 1 (pc' := 255) (l' := [(0, .ref 196), (1, .int (vr_b t1)), (2, .int (vr_b t2))]) (st' := [.int (16 : Int32), .int (Int32.ofInt f.o)]) rfl Kz) ?_
                  refine jv_Wp.cnd jv_i264 (pt := 271) (pe := 258) (p := ((Int32.ofInt f.o) = (16 : Int32))) (q := ((Int32.ofInt f.o) = (16 : Int32))) rfl jv_bc_eq rfl rfl Iff.rfl (fun h19 => ?_) (fun h19 => ?_)
                  · refine jv_Wp.lift (fun _ Kz => jv_Ev.steps jv_i264 2 (pc' := 276) (l' := [(0, .ref 196), (1, .int (vr_b t1)), (2, .int (vr_b t2))]) (st' := [.int (1 : Int32)]) rfl Kz) ?_
                    refine jv_Wp.of (jv_Ev.ret jv_i264 rfl (jv_ret_b (Or.inr rfl))) ?_
                    have x1 : ¬ f.n = 3 := fun z => h1 ((vl_I_inj (a := f.n) (b := 3) (Nat.lt_trans bn (by decide)) (by decide)).mpr z)
                    have x2 : ¬ f.n = 8 := fun z => h5 ((vl_I_inj (a := f.n) (b := 8) (Nat.lt_trans bn (by decide)) (by decide)).mpr z)
                    have x3 : ¬ f.n = 9 := fun z => h10 ((vl_I_inj (a := f.n) (b := 9) (Nat.lt_trans bn (by decide)) (by decide)).mpr z)
                    have x4 : f.n = 11 := (vl_I_inj (a := f.n) (b := 11) (Nat.lt_trans bn (by decide)) (by decide)).mp h14
                    have b5 := of_decide_eq_true (vr_b_t h15)
                    have y6 : ¬ f.o = 0 := fun z => h16 (Int32.toInt_inj.mp ((vr_dO D).trans (z.trans rfl)))
                    have b7 := vf_b3t (vr_b_t h17)
                    have y8 : ¬ f.o = 8 := fun z => h18 (Int32.toInt_inj.mp ((vr_dO D).trans (z.trans rfl)))
                    have y9 : f.o = 16 := (vr_dO D).symm.trans (congrArg Int32.toInt h19)
                    have ev : decide (vf_pA f) = true := decide_eq_true ((vf_pA_11 (by omega)).mpr (by omega))
                    rw [ev] at hQ
                    exact hQ
                  · refine jv_Wp.lift (fun _ Kz => jv_Ev.steps jv_i264 1 (pc' := 259) (l' := [(0, .ref 196), (1, .int (vr_b t1)), (2, .int (vr_b t2))]) (st' := [.int (vr_b t1)]) rfl Kz) ?_
                    refine jv_Wp.cnd jv_i264 (pt := 275) (pe := 262) (p := ((vr_b t1) = 0)) (q := ((vr_b t1) = 0)) rfl jv_bi_eq rfl rfl Iff.rfl (fun h20 => ?_) (fun h20 => ?_)
                    · refine jv_Wp.lift (fun _ Kz => jv_Ev.steps jv_i264 1 (pc' := 276) (l' := [(0, .ref 196), (1, .int (vr_b t1)), (2, .int (vr_b t2))]) (st' := [.int (0 : Int32)]) rfl Kz) ?_
                      refine jv_Wp.of (jv_Ev.ret jv_i264 rfl (jv_ret_b (Or.inl rfl))) ?_
                      have x1 : ¬ f.n = 3 := fun z => h1 ((vl_I_inj (a := f.n) (b := 3) (Nat.lt_trans bn (by decide)) (by decide)).mpr z)
                      have x2 : ¬ f.n = 8 := fun z => h5 ((vl_I_inj (a := f.n) (b := 8) (Nat.lt_trans bn (by decide)) (by decide)).mpr z)
                      have x3 : ¬ f.n = 9 := fun z => h10 ((vl_I_inj (a := f.n) (b := 9) (Nat.lt_trans bn (by decide)) (by decide)).mpr z)
                      have x4 : f.n = 11 := (vl_I_inj (a := f.n) (b := 11) (Nat.lt_trans bn (by decide)) (by decide)).mp h14
                      have b5 := of_decide_eq_true (vr_b_t h15)
                      have y6 : ¬ f.o = 0 := fun z => h16 (Int32.toInt_inj.mp ((vr_dO D).trans (z.trans rfl)))
                      have b7 := vf_b3t (vr_b_t h17)
                      have y8 : ¬ f.o = 8 := fun z => h18 (Int32.toInt_inj.mp ((vr_dO D).trans (z.trans rfl)))
                      have y9 : ¬ f.o = 16 := fun z => h19 (Int32.toInt_inj.mp ((vr_dO D).trans (z.trans rfl)))
                      have qt1 : ¬ (f.kind = 7) := of_decide_eq_false (ht1.symm.trans (vr_b_f h20))
                      have ev : decide (vf_pA f) = false := decide_eq_false (fun z => by have y := (vf_pA_11 (by omega)).mp z; omega)
                      rw [ev] at hQ
                      exact hQ
                    · refine jv_Wp.lift (fun _ Kz => jv_Ev.steps jv_i264 1 (pc' := 263) (l' := [(0, .ref 196), (1, .int (vr_b t1)), (2, .int (vr_b t2))]) (st' := [.ref 196]) rfl Kz) ?_
                      refine jv_Wp.lift (fun _ Kz => jv_Ev.m jv_i264 (pc' := 266) (st' := [.int (Int32.ofInt f.o)]) (G' := (jv_H K I L R)) rfl rfl (jv_m_getI (jv_rwK hW 196 12 24 (by decide)) rfl rfl (vr_dI D)) Kz) ?_
                      refine jv_Wp.lift (fun _ Kz => jv_Ev.steps jv_i264 1 (pc' := 268) (l' := [(0, .ref 196), (1, .int (vr_b t1)), (2, .int (vr_b t2))]) (st' := [.int (32 : Int32), .int (Int32.ofInt f.o)]) rfl Kz) ?_
                      refine jv_Wp.cnd jv_i264 (pt := 275) (pe := 271) (p := (¬ (Int32.ofInt f.o) = (32 : Int32))) (q := (¬ (Int32.ofInt f.o) = (32 : Int32))) rfl jv_bc_ne rfl rfl Iff.rfl (fun h21 => ?_) (fun h21 => ?_)
                      · refine jv_Wp.lift (fun _ Kz => jv_Ev.steps jv_i264 1 (pc' := 276) (l' := [(0, .ref 196), (1, .int (vr_b t1)), (2, .int (vr_b t2))]) (st' := [.int (0 : Int32)]) rfl Kz) ?_
                        refine jv_Wp.of (jv_Ev.ret jv_i264 rfl (jv_ret_b (Or.inl rfl))) ?_
                        have x1 : ¬ f.n = 3 := fun z => h1 ((vl_I_inj (a := f.n) (b := 3) (Nat.lt_trans bn (by decide)) (by decide)).mpr z)
                        have x2 : ¬ f.n = 8 := fun z => h5 ((vl_I_inj (a := f.n) (b := 8) (Nat.lt_trans bn (by decide)) (by decide)).mpr z)
                        have x3 : ¬ f.n = 9 := fun z => h10 ((vl_I_inj (a := f.n) (b := 9) (Nat.lt_trans bn (by decide)) (by decide)).mpr z)
                        have x4 : f.n = 11 := (vl_I_inj (a := f.n) (b := 11) (Nat.lt_trans bn (by decide)) (by decide)).mp h14
                        have b5 := of_decide_eq_true (vr_b_t h15)
                        have y6 : ¬ f.o = 0 := fun z => h16 (Int32.toInt_inj.mp ((vr_dO D).trans (z.trans rfl)))
                        have b7 := vf_b3t (vr_b_t h17)
                        have y8 : ¬ f.o = 8 := fun z => h18 (Int32.toInt_inj.mp ((vr_dO D).trans (z.trans rfl)))
                        have y9 : ¬ f.o = 16 := fun z => h19 (Int32.toInt_inj.mp ((vr_dO D).trans (z.trans rfl)))
                        have y10 : ¬ f.o = 32 := fun z => h21 (Int32.toInt_inj.mp ((vr_dO D).trans (z.trans rfl)))
                        have qt1 : (f.kind = 7) := of_decide_eq_true (ht1.symm.trans (vr_b_t h20))
                        have ev : decide (vf_pA f) = false := decide_eq_false (fun z => by have y := (vf_pA_11 (by omega)).mp z; omega)
                        rw [ev] at hQ
                        exact hQ
                      · refine jv_Wp.lift (fun _ Kz => jv_Ev.steps jv_i264 2 (pc' := 276) (l' := [(0, .ref 196), (1, .int (vr_b t1)), (2, .int (vr_b t2))]) (st' := [.int (1 : Int32)]) rfl Kz) ?_
                        refine jv_Wp.of (jv_Ev.ret jv_i264 rfl (jv_ret_b (Or.inr rfl))) ?_
                        have x1 : ¬ f.n = 3 := fun z => h1 ((vl_I_inj (a := f.n) (b := 3) (Nat.lt_trans bn (by decide)) (by decide)).mpr z)
                        have x2 : ¬ f.n = 8 := fun z => h5 ((vl_I_inj (a := f.n) (b := 8) (Nat.lt_trans bn (by decide)) (by decide)).mpr z)
                        have x3 : ¬ f.n = 9 := fun z => h10 ((vl_I_inj (a := f.n) (b := 9) (Nat.lt_trans bn (by decide)) (by decide)).mpr z)
                        have x4 : f.n = 11 := (vl_I_inj (a := f.n) (b := 11) (Nat.lt_trans bn (by decide)) (by decide)).mp h14
                        have b5 := of_decide_eq_true (vr_b_t h15)
                        have y6 : ¬ f.o = 0 := fun z => h16 (Int32.toInt_inj.mp ((vr_dO D).trans (z.trans rfl)))
                        have b7 := vf_b3t (vr_b_t h17)
                        have y8 : ¬ f.o = 8 := fun z => h18 (Int32.toInt_inj.mp ((vr_dO D).trans (z.trans rfl)))
                        have y9 : ¬ f.o = 16 := fun z => h19 (Int32.toInt_inj.mp ((vr_dO D).trans (z.trans rfl)))
                        have y10 : f.o = 32 := (vr_dO D).symm.trans (congrArg Int32.toInt (Classical.not_not.mp h21))
                        have qt1 : (f.kind = 7) := of_decide_eq_true (ht1.symm.trans (vr_b_t h20))
                        have ev : decide (vf_pA f) = true := decide_eq_true ((vf_pA_11 (by omega)).mpr (by omega))
                        rw [ev] at hQ
                        exact hQ
        · refine jv_Wp.bys (q := ((vl_I f.n) = Int32.ofInt 13)) (fun h22 => ?_) (fun h22 => ?_)
          · refine jv_Wp.lift (fun _ Kz => jv_Ev.br jv_i264 (pc' := 170) (st' := []) rfl (by rw [h22]; rfl) Kz) ?_
            refine jv_Wp.lift (fun _ Kz => jv_Ev.steps jv_i264 1 (pc' := 171) (l' := [(0, .ref 196), (1, .int (vr_b t1)), (2, .int (vr_b t2))]) (st' := [.int (vr_b t2)]) rfl Kz) ?_
            refine jv_Wp.cnd jv_i264 (pt := 189) (pe := 174) (p := ((vr_b t2) = 0)) (q := ((vr_b t2) = 0)) rfl jv_bi_eq rfl rfl Iff.rfl (fun h23 => ?_) (fun h23 => ?_)
            · refine jv_Wp.lift (fun _ Kz => jv_Ev.steps jv_i264 1 (pc' := 190) (l' := [(0, .ref 196), (1, .int (vr_b t1)), (2, .int (vr_b t2))]) (st' := [.int (0 : Int32)]) rfl Kz) ?_
              refine jv_Wp.of (jv_Ev.ret jv_i264 rfl (jv_ret_b (Or.inl rfl))) ?_
              have x1 : ¬ f.n = 3 := fun z => h1 ((vl_I_inj (a := f.n) (b := 3) (Nat.lt_trans bn (by decide)) (by decide)).mpr z)
              have x2 : ¬ f.n = 8 := fun z => h5 ((vl_I_inj (a := f.n) (b := 8) (Nat.lt_trans bn (by decide)) (by decide)).mpr z)
              have x3 : ¬ f.n = 9 := fun z => h10 ((vl_I_inj (a := f.n) (b := 9) (Nat.lt_trans bn (by decide)) (by decide)).mpr z)
              have x4 : ¬ f.n = 11 := fun z => h14 ((vl_I_inj (a := f.n) (b := 11) (Nat.lt_trans bn (by decide)) (by decide)).mpr z)
              have x5 : f.n = 13 := (vl_I_inj (a := f.n) (b := 13) (Nat.lt_trans bn (by decide)) (by decide)).mp h22
              have qt2 : ¬ (f.s = 0 ∧ f.o = 0 ∧ (f.i = 16 ∨ f.i = 32 ∨ f.i = 64)) := of_decide_eq_false (ht2.symm.trans (vr_b_f h23))
              have ev : decide (vf_pA f) = false := decide_eq_false (fun z => by have y := (vf_pA_13 (by omega)).mp z; omega)
              rw [ev] at hQ
              exact hQ
            · refine jv_Wp.lift (fun _ Kz => jv_Ev.steps jv_i264 1 (pc' := 175) (l' := [(0, .ref 196), (1, .int (vr_b t1)), (2, .int (vr_b t2))]) (st' := [.int (vr_b t1)]) rfl Kz) ?_
              refine jv_Wp.cnd jv_i264 (pt := 185) (pe := 178) (p := ((vr_b t1) = 0)) (q := ((vr_b t1) = 0)) rfl jv_bi_eq rfl rfl Iff.rfl (fun h24 => ?_) (fun h24 => ?_)
              · refine jv_Wp.lift (fun _ Kz => jv_Ev.steps jv_i264 2 (pc' := 190) (l' := [(0, .ref 196), (1, .int (vr_b t1)), (2, .int (vr_b t2))]) (st' := [.int (1 : Int32)]) rfl Kz) ?_
                refine jv_Wp.of (jv_Ev.ret jv_i264 rfl (jv_ret_b (Or.inr rfl))) ?_
                have x1 : ¬ f.n = 3 := fun z => h1 ((vl_I_inj (a := f.n) (b := 3) (Nat.lt_trans bn (by decide)) (by decide)).mpr z)
                have x2 : ¬ f.n = 8 := fun z => h5 ((vl_I_inj (a := f.n) (b := 8) (Nat.lt_trans bn (by decide)) (by decide)).mpr z)
                have x3 : ¬ f.n = 9 := fun z => h10 ((vl_I_inj (a := f.n) (b := 9) (Nat.lt_trans bn (by decide)) (by decide)).mpr z)
                have x4 : ¬ f.n = 11 := fun z => h14 ((vl_I_inj (a := f.n) (b := 11) (Nat.lt_trans bn (by decide)) (by decide)).mpr z)
                have x5 : f.n = 13 := (vl_I_inj (a := f.n) (b := 13) (Nat.lt_trans bn (by decide)) (by decide)).mp h22
                have qt2 : (f.s = 0 ∧ f.o = 0 ∧ (f.i = 16 ∨ f.i = 32 ∨ f.i = 64)) := of_decide_eq_true (ht2.symm.trans (vr_b_t h23))
                have qt1 : ¬ (f.kind = 7) := of_decide_eq_false (ht1.symm.trans (vr_b_f h24))
                have ev : decide (vf_pA f) = true := decide_eq_true ((vf_pA_13 (by omega)).mpr (by omega))
                rw [ev] at hQ
                exact hQ
              · refine jv_Wp.lift (fun _ Kz => jv_Ev.steps jv_i264 1 (pc' := 179) (l' := [(0, .ref 196), (1, .int (vr_b t1)), (2, .int (vr_b t2))]) (st' := [.ref 196]) rfl Kz) ?_
                refine jv_Wp.lift (fun _ Kz => jv_Ev.c jv_i264 (pc' := 182) (S' := [.int (vr_b f.bit3)]) jv_i259 [.ref 196] rfl rfl rfl rfl (jv_cal rfl (jv_H_at (jv_rwK hW 196 12 24 (by decide))) rfl rfl) rfl (vq_bit3 f hW D) rfl rfl Kz) ?_
                refine jv_Wp.cnd jv_i264 (pt := 189) (pe := 185) (p := (¬ (vr_b f.bit3) = 0)) (q := (¬ (vr_b f.bit3) = 0)) rfl jv_bi_ne rfl rfl Iff.rfl (fun h25 => ?_) (fun h25 => ?_)
                · refine jv_Wp.lift (fun _ Kz => jv_Ev.steps jv_i264 1 (pc' := 190) (l' := [(0, .ref 196), (1, .int (vr_b t1)), (2, .int (vr_b t2))]) (st' := [.int (0 : Int32)]) rfl Kz) ?_
                  refine jv_Wp.of (jv_Ev.ret jv_i264 rfl (jv_ret_b (Or.inl rfl))) ?_
                  have x1 : ¬ f.n = 3 := fun z => h1 ((vl_I_inj (a := f.n) (b := 3) (Nat.lt_trans bn (by decide)) (by decide)).mpr z)
                  have x2 : ¬ f.n = 8 := fun z => h5 ((vl_I_inj (a := f.n) (b := 8) (Nat.lt_trans bn (by decide)) (by decide)).mpr z)
                  have x3 : ¬ f.n = 9 := fun z => h10 ((vl_I_inj (a := f.n) (b := 9) (Nat.lt_trans bn (by decide)) (by decide)).mpr z)
                  have x4 : ¬ f.n = 11 := fun z => h14 ((vl_I_inj (a := f.n) (b := 11) (Nat.lt_trans bn (by decide)) (by decide)).mpr z)
                  have x5 : f.n = 13 := (vl_I_inj (a := f.n) (b := 13) (Nat.lt_trans bn (by decide)) (by decide)).mp h22
                  have b6 := vf_b3t (vr_b_t h25)
                  have qt2 : (f.s = 0 ∧ f.o = 0 ∧ (f.i = 16 ∨ f.i = 32 ∨ f.i = 64)) := of_decide_eq_true (ht2.symm.trans (vr_b_t h23))
                  have qt1 : (f.kind = 7) := of_decide_eq_true (ht1.symm.trans (vr_b_t h24))
                  have ev : decide (vf_pA f) = false := decide_eq_false (fun z => by have y := (vf_pA_13 (by omega)).mp z; omega)
                  rw [ev] at hQ
                  exact hQ
                · refine jv_Wp.lift (fun _ Kz => jv_Ev.steps jv_i264 2 (pc' := 190) (l' := [(0, .ref 196), (1, .int (vr_b t1)), (2, .int (vr_b t2))]) (st' := [.int (1 : Int32)]) rfl Kz) ?_
                  refine jv_Wp.of (jv_Ev.ret jv_i264 rfl (jv_ret_b (Or.inr rfl))) ?_
                  have x1 : ¬ f.n = 3 := fun z => h1 ((vl_I_inj (a := f.n) (b := 3) (Nat.lt_trans bn (by decide)) (by decide)).mpr z)
                  have x2 : ¬ f.n = 8 := fun z => h5 ((vl_I_inj (a := f.n) (b := 8) (Nat.lt_trans bn (by decide)) (by decide)).mpr z)
                  have x3 : ¬ f.n = 9 := fun z => h10 ((vl_I_inj (a := f.n) (b := 9) (Nat.lt_trans bn (by decide)) (by decide)).mpr z)
                  have x4 : ¬ f.n = 11 := fun z => h14 ((vl_I_inj (a := f.n) (b := 11) (Nat.lt_trans bn (by decide)) (by decide)).mpr z)
                  have x5 : f.n = 13 := (vl_I_inj (a := f.n) (b := 13) (Nat.lt_trans bn (by decide)) (by decide)).mp h22
                  have b6 := vf_b3f (vr_b_f (Classical.not_not.mp h25))
                  have qt2 : (f.s = 0 ∧ f.o = 0 ∧ (f.i = 16 ∨ f.i = 32 ∨ f.i = 64)) := of_decide_eq_true (ht2.symm.trans (vr_b_t h23))
                  have qt1 : (f.kind = 7) := of_decide_eq_true (ht1.symm.trans (vr_b_t h24))
                  have ev : decide (vf_pA f) = true := decide_eq_true ((vf_pA_13 (by omega)).mpr (by omega))
                  rw [ev] at hQ
                  exact hQ
          · refine jv_Wp.lift (fun _ Kz => jv_Ev.br jv_i264 (pc' := 277) (st' := []) rfl (jv_tsw_def (fun i hi h => by match i, hi, h with 
                  | 0, _, h => exact absurd h (jv_ne_toInt (k := 3) h1) 
                  | 1, _, _ => rfl 
                  | 2, _, _ => rfl 
                  | 3, _, _ => rfl 
                  | 4, _, _ => rfl 
                  | 5, _, h => exact absurd h (jv_ne_toInt (k := 8) h5) 
                  | 6, _, h => exact absurd h (jv_ne_toInt (k := 9) h10) 
                  | 7, _, _ => rfl 
                  | 8, _, h => exact absurd h (jv_ne_toInt (k := 11) h14) 
                  | 9, _, _ => rfl 
                  | 10, _, h => exact absurd h (jv_ne_toInt (k := 13) h22) 
                  | i + 11, hi, _ => exact absurd hi (by simp)) rfl) Kz) ?_
            refine jv_Wp.lift (fun _ Kz => jv_Ev.steps jv_i264 1 (pc' := 278) (l' := [(0, .ref 196), (1, .int (vr_b t1)), (2, .int (vr_b t2))]) (st' := [.ref 196]) rfl Kz) ?_
            refine jv_Wp.lift (fun _ Kz => jv_Ev.c jv_i264 (pc' := 281) (S' := [.int (vl_I f.n)]) jv_i258 [.ref 196] rfl rfl rfl rfl (jv_cal rfl (jv_H_at (jv_rwK hW 196 12 24 (by decide))) rfl rfl) rfl (vq_n f hW D) rfl rfl Kz) ?_
            refine jv_Wp.lift (fun _ Kz => jv_Ev.steps jv_i264 1 (pc' := 283) (l' := [(0, .ref 196), (1, .int (vr_b t1)), (2, .int (vr_b t2))]) (st' := [.int (13 : Int32), .int (vl_I f.n)]) rfl Kz) ?_
            refine jv_Wp.cnd jv_i264 (pt := 304) (pe := 286) (p := ((13 : Int32) ≤ (vl_I f.n))) (q := ((13 : Int32) ≤ (vl_I f.n))) rfl jv_bc_ge rfl rfl Iff.rfl (fun h26 => ?_) (fun h26 => ?_)
            · refine jv_Wp.lift (fun _ Kz => jv_Ev.steps jv_i264 1 (pc' := 305) (l' := [(0, .ref 196), (1, .int (vr_b t1)), (2, .int (vr_b t2))]) (st' := [.int (0 : Int32)]) rfl Kz) ?_
              refine jv_Wp.of (jv_Ev.ret jv_i264 rfl (jv_ret_b (Or.inl rfl))) ?_
              have x1 : ¬ f.n = 3 := fun z => h1 ((vl_I_inj (a := f.n) (b := 3) (Nat.lt_trans bn (by decide)) (by decide)).mpr z)
              have x2 : ¬ f.n = 8 := fun z => h5 ((vl_I_inj (a := f.n) (b := 8) (Nat.lt_trans bn (by decide)) (by decide)).mpr z)
              have x3 : ¬ f.n = 9 := fun z => h10 ((vl_I_inj (a := f.n) (b := 9) (Nat.lt_trans bn (by decide)) (by decide)).mpr z)
              have x4 : ¬ f.n = 11 := fun z => h14 ((vl_I_inj (a := f.n) (b := 11) (Nat.lt_trans bn (by decide)) (by decide)).mpr z)
              have x5 : ¬ f.n = 13 := fun z => h22 ((vl_I_inj (a := f.n) (b := 13) (Nat.lt_trans bn (by decide)) (by decide)).mpr z)
              have x6 : 13 ≤ f.n := (vl_I_le (a := 13) (b := f.n) (by decide) bn).mp h26
              have ev : decide (vf_pA f) = false := decide_eq_false (fun z => by have y := (vf_pA_n (by omega)).mp z; omega)
              rw [ev] at hQ
              exact hQ
            · refine jv_Wp.lift (fun _ Kz => jv_Ev.steps jv_i264 1 (pc' := 287) (l' := [(0, .ref 196), (1, .int (vr_b t1)), (2, .int (vr_b t2))]) (st' := [.ref 196]) rfl Kz) ?_
              refine jv_Wp.lift (fun _ Kz => jv_Ev.c jv_i264 (pc' := 290) (S' := [.int (vr_b (decide (vf_pS f)))]) jv_i263 [.ref 196] rfl rfl rfl rfl (jv_cal rfl (jv_H_at (jv_rwK hW 196 12 24 (by decide))) rfl rfl) rfl (vq_hasSource f hW D) rfl rfl Kz) ?_
              refine jv_Wp.cnd jv_i264 (pt := 304) (pe := 293) (p := ((vr_b (decide (vf_pS f))) = 0)) (q := ((vr_b (decide (vf_pS f))) = 0)) rfl jv_bi_eq rfl rfl Iff.rfl (fun h27 => ?_) (fun h27 => ?_)
              · refine jv_Wp.lift (fun _ Kz => jv_Ev.steps jv_i264 1 (pc' := 305) (l' := [(0, .ref 196), (1, .int (vr_b t1)), (2, .int (vr_b t2))]) (st' := [.int (0 : Int32)]) rfl Kz) ?_
                refine jv_Wp.of (jv_Ev.ret jv_i264 rfl (jv_ret_b (Or.inl rfl))) ?_
                have x1 : ¬ f.n = 3 := fun z => h1 ((vl_I_inj (a := f.n) (b := 3) (Nat.lt_trans bn (by decide)) (by decide)).mpr z)
                have x2 : ¬ f.n = 8 := fun z => h5 ((vl_I_inj (a := f.n) (b := 8) (Nat.lt_trans bn (by decide)) (by decide)).mpr z)
                have x3 : ¬ f.n = 9 := fun z => h10 ((vl_I_inj (a := f.n) (b := 9) (Nat.lt_trans bn (by decide)) (by decide)).mpr z)
                have x4 : ¬ f.n = 11 := fun z => h14 ((vl_I_inj (a := f.n) (b := 11) (Nat.lt_trans bn (by decide)) (by decide)).mpr z)
                have x5 : ¬ f.n = 13 := fun z => h22 ((vl_I_inj (a := f.n) (b := 13) (Nat.lt_trans bn (by decide)) (by decide)).mpr z)
                have x6 : ¬ 13 ≤ f.n := fun z => h26 ((vl_I_le (a := 13) (b := f.n) (by decide) bn).mpr z)
                have b7 := of_decide_eq_false (vr_b_f h27)
                have ev : decide (vf_pA f) = false := decide_eq_false (fun z => by have y := (vf_pA_n (by omega)).mp z; omega)
                rw [ev] at hQ
                exact hQ
              · refine jv_Wp.lift (fun _ Kz => jv_Ev.steps jv_i264 1 (pc' := 294) (l' := [(0, .ref 196), (1, .int (vr_b t1)), (2, .int (vr_b t2))]) (st' := [.ref 196]) rfl Kz) ?_
                refine jv_Wp.lift (fun _ Kz => jv_Ev.m jv_i264 (pc' := 297) (st' := [.int (Int32.ofInt f.o)]) (G' := (jv_H K I L R)) rfl rfl (jv_m_getI (jv_rwK hW 196 12 24 (by decide)) rfl rfl (vr_dI D)) Kz) ?_
                refine jv_Wp.cnd jv_i264 (pt := 304) (pe := 300) (p := (¬ (Int32.ofInt f.o) = 0)) (q := (¬ (Int32.ofInt f.o) = 0)) rfl jv_bi_ne rfl rfl Iff.rfl (fun h28 => ?_) (fun h28 => ?_)
                · refine jv_Wp.lift (fun _ Kz => jv_Ev.steps jv_i264 1 (pc' := 305) (l' := [(0, .ref 196), (1, .int (vr_b t1)), (2, .int (vr_b t2))]) (st' := [.int (0 : Int32)]) rfl Kz) ?_
                  refine jv_Wp.of (jv_Ev.ret jv_i264 rfl (jv_ret_b (Or.inl rfl))) ?_
                  have x1 : ¬ f.n = 3 := fun z => h1 ((vl_I_inj (a := f.n) (b := 3) (Nat.lt_trans bn (by decide)) (by decide)).mpr z)
                  have x2 : ¬ f.n = 8 := fun z => h5 ((vl_I_inj (a := f.n) (b := 8) (Nat.lt_trans bn (by decide)) (by decide)).mpr z)
                  have x3 : ¬ f.n = 9 := fun z => h10 ((vl_I_inj (a := f.n) (b := 9) (Nat.lt_trans bn (by decide)) (by decide)).mpr z)
                  have x4 : ¬ f.n = 11 := fun z => h14 ((vl_I_inj (a := f.n) (b := 11) (Nat.lt_trans bn (by decide)) (by decide)).mpr z)
                  have x5 : ¬ f.n = 13 := fun z => h22 ((vl_I_inj (a := f.n) (b := 13) (Nat.lt_trans bn (by decide)) (by decide)).mpr z)
                  have x6 : ¬ 13 ≤ f.n := fun z => h26 ((vl_I_le (a := 13) (b := f.n) (by decide) bn).mpr z)
                  have b7 := of_decide_eq_true (vr_b_t h27)
                  have y8 : ¬ f.o = 0 := fun z => h28 (Int32.toInt_inj.mp ((vr_dO D).trans (z.trans rfl)))
                  have ev : decide (vf_pA f) = false := decide_eq_false (fun z => by have y := (vf_pA_n (by omega)).mp z; omega)
                  rw [ev] at hQ
                  exact hQ
                · refine jv_Wp.lift (fun _ Kz => jv_Ev.steps jv_i264 2 (pc' := 305) (l' := [(0, .ref 196), (1, .int (vr_b t1)), (2, .int (vr_b t2))]) (st' := [.int (1 : Int32)]) rfl Kz) ?_
                  refine jv_Wp.of (jv_Ev.ret jv_i264 rfl (jv_ret_b (Or.inr rfl))) ?_
                  have x1 : ¬ f.n = 3 := fun z => h1 ((vl_I_inj (a := f.n) (b := 3) (Nat.lt_trans bn (by decide)) (by decide)).mpr z)
                  have x2 : ¬ f.n = 8 := fun z => h5 ((vl_I_inj (a := f.n) (b := 8) (Nat.lt_trans bn (by decide)) (by decide)).mpr z)
                  have x3 : ¬ f.n = 9 := fun z => h10 ((vl_I_inj (a := f.n) (b := 9) (Nat.lt_trans bn (by decide)) (by decide)).mpr z)
                  have x4 : ¬ f.n = 11 := fun z => h14 ((vl_I_inj (a := f.n) (b := 11) (Nat.lt_trans bn (by decide)) (by decide)).mpr z)
                  have x5 : ¬ f.n = 13 := fun z => h22 ((vl_I_inj (a := f.n) (b := 13) (Nat.lt_trans bn (by decide)) (by decide)).mpr z)
                  have x6 : ¬ 13 ≤ f.n := fun z => h26 ((vl_I_le (a := 13) (b := f.n) (by decide) bn).mpr z)
                  have b7 := of_decide_eq_true (vr_b_t h27)
                  have y8 : f.o = 0 := (vr_dO D).symm.trans (congrArg Int32.toInt (Classical.not_not.mp h28))
                  have ev : decide (vf_pA f) = true := decide_eq_true ((vf_pA_n (by omega)).mpr (by omega))
                  rw [ev] at hQ
                  exact hQ
theorem vq_isArithmetic_15 {K : Nat → Option (Nat × Nat)} {I : Nat → Nat → Int32} {L : Nat → Nat → Int64} {R : Nat → Nat → Value} (f : vf_F) (hW : jv_rW K R) (D : vr_dec I f)   (t1 : Bool) (ht1 : t1 = decide (f.kind = 7)) {n sl : Nat} {Q : jv_R → Prop} (hQ : Q (some (.int (vr_b (decide (vf_pA f)))), jv_H K I L R, n, sl)) : jv_Wp 264 15 [(0, .ref 196), (1, .int (vr_b t1))] [] (jv_H K I L R) n sl Q := by
  have c1 := vr_dc D
  have c2 := vr_dd D
  have c3 := vr_ds D
  have c4 : f.n = f.code / 16 := rfl
  have c5 : f.kind = f.code % 8 := rfl
  have c6 : f.mode = f.code / 32 := rfl
  have c7 := vf_z f
  have bn : f.n < 2147483648 := by omega
  have bk : f.kind < 2147483648 := by omega
  have bm : f.mode < 2147483648 := by omega
  have bz : f.z < 2147483648 := by omega
  have bc : f.code < 2147483648 := by omega
  have bd : f.d < 2147483648 := by omega
  have bs : f.s < 2147483648 := by omega
  refine jv_Wp.lift (fun _ Kz => jv_Ev.steps jv_i264 1 (pc' := 16) (l' := [(0, .ref 196), (1, .int (vr_b t1))]) (st' := [.ref 196]) rfl Kz) ?_
  refine jv_Wp.lift (fun _ Kz => jv_Ev.m jv_i264 (pc' := 19) (st' := [.int (vl_I f.d)]) (G' := (jv_H K I L R)) rfl rfl (jv_m_getI (jv_rwK hW 196 12 24 (by decide)) rfl rfl D.2.1) Kz) ?_
  refine jv_Wp.lift (fun _ Kz => jv_Ev.steps jv_i264 1 (pc' := 21) (l' := [(0, .ref 196), (1, .int (vr_b t1))]) (st' := [.int (9 : Int32), .int (vl_I f.d)]) rfl Kz) ?_
  refine jv_Wp.cnd jv_i264 (pt := 26) (pe := 24) (p := ((vl_I f.d) ≤ (9 : Int32))) (q := ((vl_I f.d) ≤ (9 : Int32))) rfl jv_bc_le rfl rfl Iff.rfl (fun h1 => ?_) (fun h1 => ?_)
  · refine jv_Wp.lift (fun _ Kz => jv_Ev.steps jv_i264 1 (pc' := 27) (l' := [(0, .ref 196), (1, .int (vr_b t1))]) (st' := [.ref 196]) rfl Kz) ?_
    refine jv_Wp.lift (fun _ Kz => jv_Ev.m jv_i264 (pc' := 30) (st' := [.int (vl_I f.s)]) (G' := (jv_H K I L R)) rfl rfl (jv_m_getI (jv_rwK hW 196 12 24 (by decide)) rfl rfl D.2.2.1) Kz) ?_
    refine jv_Wp.cnd jv_i264 (pt := 71) (pe := 33) (p := (¬ (vl_I f.s) = 0)) (q := (¬ (vl_I f.s) = 0)) rfl jv_bi_ne rfl rfl Iff.rfl (fun h2 => ?_) (fun h2 => ?_)
    · refine jv_Wp.lift (fun _ Kz => jv_Ev.steps jv_i264 2 (pc' := 73) (l' := [(2, .int (0 : Int32)), (0, .ref 196), (1, .int (vr_b t1))]) (st' := []) rfl Kz) ?_
      refine jv_Wp.loc (l := [(0, .ref 196), (1, .int (vr_b t1)), (2, .int (0 : Int32))]) ⟨List.forall_mem_cons.mpr ⟨.tail _ (.head _), List.forall_mem_cons.mpr ⟨.tail _ (.tail _ (.head _)), List.forall_mem_cons.mpr ⟨.head _, fun _ h => absurd h List.not_mem_nil⟩⟩⟩, by show List.Nodup [2, 0, 1]; decide⟩ ?_
      have x1 : f.d ≤ 9 := (vl_I_le (a := f.d) (b := 9) bd (by decide)).mp h1
      have x2 : ¬ f.s = 0 := fun z => h2 ((vl_I_inj (a := f.s) (b := 0) (Nat.lt_trans bs (by decide)) (by decide)).mpr z)
      exact vq_isArithmetic_73 f hW D  (by omega) t1 false ht1 (decide_eq_false (by omega)).symm hQ
    · refine jv_Wp.lift (fun _ Kz => jv_Ev.steps jv_i264 1 (pc' := 34) (l' := [(0, .ref 196), (1, .int (vr_b t1))]) (st' := [.ref 196]) rfl Kz) ?_
      refine jv_Wp.lift (fun _ Kz => jv_Ev.m jv_i264 (pc' := 37) (st' := [.int (Int32.ofInt f.o)]) (G' := (jv_H K I L R)) rfl rfl (jv_m_getI (jv_rwK hW 196 12 24 (by decide)) rfl rfl (vr_dI D)) Kz) ?_
      refine jv_Wp.cnd jv_i264 (pt := 71) (pe := 40) (p := (¬ (Int32.ofInt f.o) = 0)) (q := (¬ (Int32.ofInt f.o) = 0)) rfl jv_bi_ne rfl rfl Iff.rfl (fun h3 => ?_) (fun h3 => ?_)
      · refine jv_Wp.lift (fun _ Kz => jv_Ev.steps jv_i264 2 (pc' := 73) (l' := [(2, .int (0 : Int32)), (0, .ref 196), (1, .int (vr_b t1))]) (st' := []) rfl Kz) ?_
        refine jv_Wp.loc (l := [(0, .ref 196), (1, .int (vr_b t1)), (2, .int (0 : Int32))]) ⟨List.forall_mem_cons.mpr ⟨.tail _ (.head _), List.forall_mem_cons.mpr ⟨.tail _ (.tail _ (.head _)), List.forall_mem_cons.mpr ⟨.head _, fun _ h => absurd h List.not_mem_nil⟩⟩⟩, by show List.Nodup [2, 0, 1]; decide⟩ ?_
        have x1 : f.d ≤ 9 := (vl_I_le (a := f.d) (b := 9) bd (by decide)).mp h1
        have x2 : f.s = 0 := (vl_I_inj (a := f.s) (b := 0) (Nat.lt_trans bs (by decide)) (by decide)).mp (Classical.not_not.mp h2)
        have y3 : ¬ f.o = 0 := fun z => h3 (Int32.toInt_inj.mp ((vr_dO D).trans (z.trans rfl)))
        exact vq_isArithmetic_73 f hW D  (by omega) t1 false ht1 (decide_eq_false (by omega)).symm hQ
      · refine jv_Wp.lift (fun _ Kz => jv_Ev.steps jv_i264 1 (pc' := 41) (l' := [(0, .ref 196), (1, .int (vr_b t1))]) (st' := [.ref 196]) rfl Kz) ?_
        refine jv_Wp.lift (fun _ Kz => jv_Ev.m jv_i264 (pc' := 44) (st' := [.int (Int32.ofInt f.i)]) (G' := (jv_H K I L R)) rfl rfl (jv_m_getI (jv_rwK hW 196 12 24 (by decide)) rfl rfl (vr_dJ D)) Kz) ?_
        refine jv_Wp.lift (fun _ Kz => jv_Ev.steps jv_i264 1 (pc' := 46) (l' := [(0, .ref 196), (1, .int (vr_b t1))]) (st' := [.int (16 : Int32), .int (Int32.ofInt f.i)]) rfl Kz) ?_
        refine jv_Wp.cnd jv_i264 (pt := 67) (pe := 49) (p := ((Int32.ofInt f.i) = (16 : Int32))) (q := ((Int32.ofInt f.i) = (16 : Int32))) rfl jv_bc_eq rfl rfl Iff.rfl (fun h4 => ?_) (fun h4 => ?_)
        · refine jv_Wp.lift (fun _ Kz => jv_Ev.steps jv_i264 3 (pc' := 73) (l' := [(2, .int (1 : Int32)), (0, .ref 196), (1, .int (vr_b t1))]) (st' := []) rfl Kz) ?_
          refine jv_Wp.loc (l := [(0, .ref 196), (1, .int (vr_b t1)), (2, .int (1 : Int32))]) ⟨List.forall_mem_cons.mpr ⟨.tail _ (.head _), List.forall_mem_cons.mpr ⟨.tail _ (.tail _ (.head _)), List.forall_mem_cons.mpr ⟨.head _, fun _ h => absurd h List.not_mem_nil⟩⟩⟩, by show List.Nodup [2, 0, 1]; decide⟩ ?_
          have x1 : f.d ≤ 9 := (vl_I_le (a := f.d) (b := 9) bd (by decide)).mp h1
          have x2 : f.s = 0 := (vl_I_inj (a := f.s) (b := 0) (Nat.lt_trans bs (by decide)) (by decide)).mp (Classical.not_not.mp h2)
          have y3 : f.o = 0 := (vr_dO D).symm.trans (congrArg Int32.toInt (Classical.not_not.mp h3))
          have y4 : f.i = 16 := (vr_dQ D).symm.trans (congrArg Int32.toInt h4)
          exact vq_isArithmetic_73 f hW D  (by omega) t1 true ht1 (decide_eq_true (by omega)).symm hQ
        · refine jv_Wp.lift (fun _ Kz => jv_Ev.steps jv_i264 1 (pc' := 50) (l' := [(0, .ref 196), (1, .int (vr_b t1))]) (st' := [.ref 196]) rfl Kz) ?_
          refine jv_Wp.lift (fun _ Kz => jv_Ev.m jv_i264 (pc' := 53) (st' := [.int (Int32.ofInt f.i)]) (G' := (jv_H K I L R)) rfl rfl (jv_m_getI (jv_rwK hW 196 12 24 (by decide)) rfl rfl (vr_dJ D)) Kz) ?_
          refine jv_Wp.lift (fun _ Kz => jv_Ev.steps jv_i264 1 (pc' := 55) (l' := [(0, .ref 196), (1, .int (vr_b t1))]) (st' := [.int (32 : Int32), .int (Int32.ofInt f.i)]) rfl Kz) ?_
          refine jv_Wp.cnd jv_i264 (pt := 67) (pe := 58) (p := ((Int32.ofInt f.i) = (32 : Int32))) (q := ((Int32.ofInt f.i) = (32 : Int32))) rfl jv_bc_eq rfl rfl Iff.rfl (fun h5 => ?_) (fun h5 => ?_)
          · refine jv_Wp.lift (fun _ Kz => jv_Ev.steps jv_i264 3 (pc' := 73) (l' := [(2, .int (1 : Int32)), (0, .ref 196), (1, .int (vr_b t1))]) (st' := []) rfl Kz) ?_
            refine jv_Wp.loc (l := [(0, .ref 196), (1, .int (vr_b t1)), (2, .int (1 : Int32))]) ⟨List.forall_mem_cons.mpr ⟨.tail _ (.head _), List.forall_mem_cons.mpr ⟨.tail _ (.tail _ (.head _)), List.forall_mem_cons.mpr ⟨.head _, fun _ h => absurd h List.not_mem_nil⟩⟩⟩, by show List.Nodup [2, 0, 1]; decide⟩ ?_
            have x1 : f.d ≤ 9 := (vl_I_le (a := f.d) (b := 9) bd (by decide)).mp h1
            have x2 : f.s = 0 := (vl_I_inj (a := f.s) (b := 0) (Nat.lt_trans bs (by decide)) (by decide)).mp (Classical.not_not.mp h2)
            have y3 : f.o = 0 := (vr_dO D).symm.trans (congrArg Int32.toInt (Classical.not_not.mp h3))
            have y4 : ¬ f.i = 16 := fun z => h4 (Int32.toInt_inj.mp ((vr_dQ D).trans (z.trans rfl)))
            have y5 : f.i = 32 := (vr_dQ D).symm.trans (congrArg Int32.toInt h5)
            exact vq_isArithmetic_73 f hW D  (by omega) t1 true ht1 (decide_eq_true (by omega)).symm hQ
          · refine jv_Wp.lift (fun _ Kz => jv_Ev.steps jv_i264 1 (pc' := 59) (l' := [(0, .ref 196), (1, .int (vr_b t1))]) (st' := [.ref 196]) rfl Kz) ?_
            refine jv_Wp.lift (fun _ Kz => jv_Ev.m jv_i264 (pc' := 62) (st' := [.int (Int32.ofInt f.i)]) (G' := (jv_H K I L R)) rfl rfl (jv_m_getI (jv_rwK hW 196 12 24 (by decide)) rfl rfl (vr_dJ D)) Kz) ?_
            refine jv_Wp.lift (fun _ Kz => jv_Ev.steps jv_i264 1 (pc' := 64) (l' := [(0, .ref 196), (1, .int (vr_b t1))]) (st' := [.int (64 : Int32), .int (Int32.ofInt f.i)]) rfl Kz) ?_
            refine jv_Wp.cnd jv_i264 (pt := 71) (pe := 67) (p := (¬ (Int32.ofInt f.i) = (64 : Int32))) (q := (¬ (Int32.ofInt f.i) = (64 : Int32))) rfl jv_bc_ne rfl rfl Iff.rfl (fun h6 => ?_) (fun h6 => ?_)
            · refine jv_Wp.lift (fun _ Kz => jv_Ev.steps jv_i264 2 (pc' := 73) (l' := [(2, .int (0 : Int32)), (0, .ref 196), (1, .int (vr_b t1))]) (st' := []) rfl Kz) ?_
              refine jv_Wp.loc (l := [(0, .ref 196), (1, .int (vr_b t1)), (2, .int (0 : Int32))]) ⟨List.forall_mem_cons.mpr ⟨.tail _ (.head _), List.forall_mem_cons.mpr ⟨.tail _ (.tail _ (.head _)), List.forall_mem_cons.mpr ⟨.head _, fun _ h => absurd h List.not_mem_nil⟩⟩⟩, by show List.Nodup [2, 0, 1]; decide⟩ ?_
              have x1 : f.d ≤ 9 := (vl_I_le (a := f.d) (b := 9) bd (by decide)).mp h1
              have x2 : f.s = 0 := (vl_I_inj (a := f.s) (b := 0) (Nat.lt_trans bs (by decide)) (by decide)).mp (Classical.not_not.mp h2)
              have y3 : f.o = 0 := (vr_dO D).symm.trans (congrArg Int32.toInt (Classical.not_not.mp h3))
              have y4 : ¬ f.i = 16 := fun z => h4 (Int32.toInt_inj.mp ((vr_dQ D).trans (z.trans rfl)))
              have y5 : ¬ f.i = 32 := fun z => h5 (Int32.toInt_inj.mp ((vr_dQ D).trans (z.trans rfl)))
              have y6 : ¬ f.i = 64 := fun z => h6 (Int32.toInt_inj.mp ((vr_dQ D).trans (z.trans rfl)))
              exact vq_isArithmetic_73 f hW D  (by omega) t1 false ht1 (decide_eq_false (by omega)).symm hQ
            · refine jv_Wp.lift (fun _ Kz => jv_Ev.steps jv_i264 3 (pc' := 73) (l' := [(2, .int (1 : Int32)), (0, .ref 196), (1, .int (vr_b t1))]) (st' := []) rfl Kz) ?_
              refine jv_Wp.loc (l := [(0, .ref 196), (1, .int (vr_b t1)), (2, .int (1 : Int32))]) ⟨List.forall_mem_cons.mpr ⟨.tail _ (.head _), List.forall_mem_cons.mpr ⟨.tail _ (.tail _ (.head _)), List.forall_mem_cons.mpr ⟨.head _, fun _ h => absurd h List.not_mem_nil⟩⟩⟩, by show List.Nodup [2, 0, 1]; decide⟩ ?_
              have x1 : f.d ≤ 9 := (vl_I_le (a := f.d) (b := 9) bd (by decide)).mp h1
              have x2 : f.s = 0 := (vl_I_inj (a := f.s) (b := 0) (Nat.lt_trans bs (by decide)) (by decide)).mp (Classical.not_not.mp h2)
              have y3 : f.o = 0 := (vr_dO D).symm.trans (congrArg Int32.toInt (Classical.not_not.mp h3))
              have y4 : ¬ f.i = 16 := fun z => h4 (Int32.toInt_inj.mp ((vr_dQ D).trans (z.trans rfl)))
              have y5 : ¬ f.i = 32 := fun z => h5 (Int32.toInt_inj.mp ((vr_dQ D).trans (z.trans rfl)))
              have y6 : f.i = 64 := (vr_dQ D).symm.trans (congrArg Int32.toInt (Classical.not_not.mp h6))
              exact vq_isArithmetic_73 f hW D  (by omega) t1 true ht1 (decide_eq_true (by omega)).symm hQ
  · refine jv_Wp.lift (fun _ Kz => jv_Ev.steps jv_i264 1 (pc' := 25) (l' := [(0, .ref 196), (1, .int (vr_b t1))]) (st' := [.int (0 : Int32)]) rfl Kz) ?_
    refine jv_Wp.of (jv_Ev.ret jv_i264 rfl (jv_ret_b (Or.inl rfl))) ?_
    have x1 : ¬ f.d ≤ 9 := fun z => h1 ((vl_I_le (a := f.d) (b := 9) bd (by decide)).mpr z)
    have ev : decide (vf_pA f) = false := decide_eq_false (fun z => by have y := (vf_pA_n (by omega)).mp z; omega)
    rw [ev] at hQ
    exact hQ
theorem vq_isArithmetic_0 {K : Nat → Option (Nat × Nat)} {I : Nat → Nat → Int32} {L : Nat → Nat → Int64} {R : Nat → Nat → Value} (f : vf_F) (hW : jv_rW K R) (D : vr_dec I f)     {n sl : Nat} {Q : jv_R → Prop} (hQ : Q (some (.int (vr_b (decide (vf_pA f)))), jv_H K I L R, n, sl)) : jv_Wp 264 0 [(0, .ref 196)] [] (jv_H K I L R) n sl Q := by
  have c1 := vr_dc D
  have c2 := vr_dd D
  have c3 := vr_ds D
  have c4 : f.n = f.code / 16 := rfl
  have c5 : f.kind = f.code % 8 := rfl
  have c6 : f.mode = f.code / 32 := rfl
  have c7 := vf_z f
  have bn : f.n < 2147483648 := by omega
  have bk : f.kind < 2147483648 := by omega
  have bm : f.mode < 2147483648 := by omega
  have bz : f.z < 2147483648 := by omega
  have bc : f.code < 2147483648 := by omega
  have bd : f.d < 2147483648 := by omega
  have bs : f.s < 2147483648 := by omega
  refine jv_Wp.lift (fun _ Kz => jv_Ev.steps jv_i264 1 (pc' := 1) (l' := [(0, .ref 196)]) (st' := [.ref 196]) rfl Kz) ?_
  refine jv_Wp.lift (fun _ Kz => jv_Ev.c jv_i264 (pc' := 4) (S' := [.int (vl_I f.kind)]) jv_i257 [.ref 196] rfl rfl rfl rfl (jv_cal rfl (jv_H_at (jv_rwK hW 196 12 24 (by decide))) rfl rfl) rfl (vq_kind f hW D) rfl rfl Kz) ?_
  refine jv_Wp.lift (fun _ Kz => jv_Ev.steps jv_i264 1 (pc' := 6) (l' := [(0, .ref 196)]) (st' := [.int (7 : Int32), .int (vl_I f.kind)]) rfl Kz) ?_
  refine jv_Wp.cnd jv_i264 (pt := 13) (pe := 9) (p := (¬ (vl_I f.kind) = (7 : Int32))) (q := (¬ (vl_I f.kind) = (7 : Int32))) rfl jv_bc_ne rfl rfl Iff.rfl (fun h1 => ?_) (fun h1 => ?_)
  · refine jv_Wp.lift (fun _ Kz => jv_Ev.steps jv_i264 2 (pc' := 15) (l' := [(1, .int (0 : Int32)), (0, .ref 196)]) (st' := []) rfl Kz) ?_
    refine jv_Wp.loc (l := [(0, .ref 196), (1, .int (0 : Int32))]) ⟨List.forall_mem_cons.mpr ⟨.tail _ (.head _), List.forall_mem_cons.mpr ⟨.head _, fun _ h => absurd h List.not_mem_nil⟩⟩, by show List.Nodup [1, 0]; decide⟩ ?_
    have x1 : ¬ f.kind = 7 := fun z => h1 ((vl_I_inj (a := f.kind) (b := 7) (Nat.lt_trans bk (by decide)) (by decide)).mpr z)
    exact vq_isArithmetic_15 f hW D   false (decide_eq_false (by omega)).symm hQ
  · refine jv_Wp.lift (fun _ Kz => jv_Ev.steps jv_i264 3 (pc' := 15) (l' := [(1, .int (1 : Int32)), (0, .ref 196)]) (st' := []) rfl Kz) ?_
    refine jv_Wp.loc (l := [(0, .ref 196), (1, .int (1 : Int32))]) ⟨List.forall_mem_cons.mpr ⟨.tail _ (.head _), List.forall_mem_cons.mpr ⟨.head _, fun _ h => absurd h List.not_mem_nil⟩⟩, by show List.Nodup [1, 0]; decide⟩ ?_
    have x1 : f.kind = 7 := (vl_I_inj (a := f.kind) (b := 7) (Nat.lt_trans bk (by decide)) (by decide)).mp (Classical.not_not.mp h1)
    exact vq_isArithmetic_15 f hW D   true (decide_eq_true (by omega)).symm hQ
theorem vq_isArithmetic {K : Nat → Option (Nat × Nat)} {I : Nat → Nat → Int32} {L : Nat → Nat → Int64} {R : Nat → Nat → Value} (f : vf_F) (hW : jv_rW K R) (D : vr_dec I f)  {n sl : Nat} : jv_Ms 264 [.ref 196] (jv_H K I L R) n sl (some (.int (vr_b (decide (vf_pA f)))), jv_H K I L R, n, sl) := by
  have h := vq_isArithmetic_0 (n := n) (sl := sl) (I := I) (L := L) f hW D  (Q := fun X => X = (some (.int (vr_b (decide (vf_pA f)))), jv_H K I L R, n, sl)) rfl
  obtain ⟨X, h, e⟩ := h
  subst e
  exact h
theorem jv_i265 : jv_I 265 2 (some .boolean) 2 40 jv_c265 := ⟨rfl, rfl, rfl, rfl, rfl⟩
theorem vq_isJump_15 {K : Nat → Option (Nat × Nat)} {I : Nat → Nat → Int32} {L : Nat → Nat → Int64} {R : Nat → Nat → Value} (f : vf_F) (hW : jv_rW K R) (D : vr_dec I f) (hk : f.kind = 5 ∨ f.kind = 6)  (t1 : Bool) (ht1 : t1 = decide (f.kind = 6)) {n sl : Nat} {Q : jv_R → Prop} (hQ : Q (some (.int (vr_b (decide (vf_pJ f)))), jv_H K I L R, n, sl)) : jv_Wp 265 15 [(0, .ref 196), (1, .int (vr_b t1))] [] (jv_H K I L R) n sl Q := by
  have c1 := vr_dc D
  have c2 := vr_dd D
  have c3 := vr_ds D
  have c4 : f.n = f.code / 16 := rfl
  have c5 : f.kind = f.code % 8 := rfl
  have c6 : f.mode = f.code / 32 := rfl
  have c7 := vf_z f
  have bn : f.n < 2147483648 := by omega
  have bk : f.kind < 2147483648 := by omega
  have bm : f.mode < 2147483648 := by omega
  have bz : f.z < 2147483648 := by omega
  have bc : f.code < 2147483648 := by omega
  have bd : f.d < 2147483648 := by omega
  have bs : f.s < 2147483648 := by omega
  refine jv_Wp.lift (fun _ Kz => jv_Ev.steps jv_i265 1 (pc' := 16) (l' := [(0, .ref 196), (1, .int (vr_b t1))]) (st' := [.ref 196]) rfl Kz) ?_
  refine jv_Wp.lift (fun _ Kz => jv_Ev.c jv_i265 (pc' := 19) (S' := [.int (vl_I f.n)]) jv_i258 [.ref 196] rfl rfl rfl rfl (jv_cal rfl (jv_H_at (jv_rwK hW 196 12 24 (by decide))) rfl rfl) rfl (vq_n f hW D) rfl rfl Kz) ?_
  refine jv_Wp.bys (q := ((vl_I f.n) = Int32.ofInt 0)) (fun h1 => ?_) (fun h1 => ?_)
  · refine jv_Wp.lift (fun _ Kz => jv_Ev.br jv_i265 (pc' := 52) (st' := []) rfl (by rw [h1]; rfl) Kz) ?_
    refine jv_Wp.lift (fun _ Kz => jv_Ev.steps jv_i265 1 (pc' := 53) (l' := [(0, .ref 196), (1, .int (vr_b t1))]) (st' := [.ref 196]) rfl Kz) ?_
    refine jv_Wp.lift (fun _ Kz => jv_Ev.c jv_i265 (pc' := 56) (S' := [.int (vr_b f.bit3)]) jv_i259 [.ref 196] rfl rfl rfl rfl (jv_cal rfl (jv_H_at (jv_rwK hW 196 12 24 (by decide))) rfl rfl) rfl (vq_bit3 f hW D) rfl rfl Kz) ?_
    refine jv_Wp.cnd jv_i265 (pt := 98) (pe := 59) (p := (¬ (vr_b f.bit3) = 0)) (q := (¬ (vr_b f.bit3) = 0)) rfl jv_bi_ne rfl rfl Iff.rfl (fun h2 => ?_) (fun h2 => ?_)
    · refine jv_Wp.lift (fun _ Kz => jv_Ev.steps jv_i265 1 (pc' := 99) (l' := [(0, .ref 196), (1, .int (vr_b t1))]) (st' := [.int (0 : Int32)]) rfl Kz) ?_
      refine jv_Wp.of (jv_Ev.ret jv_i265 rfl (jv_ret_b (Or.inl rfl))) ?_
      have x1 : f.n = 0 := (vl_I_inj (a := f.n) (b := 0) (Nat.lt_trans bn (by decide)) (by decide)).mp h1
      have b2 := vf_b3t (vr_b_t h2)
      have ev : decide (vf_pJ f) = false := decide_eq_false (fun z => by have y := (vf_pJ_0 (by omega)).mp z; omega)
      rw [ev] at hQ
      exact hQ
    · refine jv_Wp.lift (fun _ Kz => jv_Ev.steps jv_i265 1 (pc' := 60) (l' := [(0, .ref 196), (1, .int (vr_b t1))]) (st' := [.ref 196]) rfl Kz) ?_
      refine jv_Wp.lift (fun _ Kz => jv_Ev.m jv_i265 (pc' := 63) (st' := [.int (vl_I f.d)]) (G' := (jv_H K I L R)) rfl rfl (jv_m_getI (jv_rwK hW 196 12 24 (by decide)) rfl rfl D.2.1) Kz) ?_
      refine jv_Wp.cnd jv_i265 (pt := 98) (pe := 66) (p := (¬ (vl_I f.d) = 0)) (q := (¬ (vl_I f.d) = 0)) rfl jv_bi_ne rfl rfl Iff.rfl (fun h3 => ?_) (fun h3 => ?_)
      · refine jv_Wp.lift (fun _ Kz => jv_Ev.steps jv_i265 1 (pc' := 99) (l' := [(0, .ref 196), (1, .int (vr_b t1))]) (st' := [.int (0 : Int32)]) rfl Kz) ?_
        refine jv_Wp.of (jv_Ev.ret jv_i265 rfl (jv_ret_b (Or.inl rfl))) ?_
        have x1 : f.n = 0 := (vl_I_inj (a := f.n) (b := 0) (Nat.lt_trans bn (by decide)) (by decide)).mp h1
        have b2 := vf_b3f (vr_b_f (Classical.not_not.mp h2))
        have x3 : ¬ f.d = 0 := fun z => h3 ((vl_I_inj (a := f.d) (b := 0) (Nat.lt_trans bd (by decide)) (by decide)).mpr z)
        have ev : decide (vf_pJ f) = false := decide_eq_false (fun z => by have y := (vf_pJ_0 (by omega)).mp z; omega)
        rw [ev] at hQ
        exact hQ
      · refine jv_Wp.lift (fun _ Kz => jv_Ev.steps jv_i265 1 (pc' := 67) (l' := [(0, .ref 196), (1, .int (vr_b t1))]) (st' := [.ref 196]) rfl Kz) ?_
        refine jv_Wp.lift (fun _ Kz => jv_Ev.m jv_i265 (pc' := 70) (st' := [.int (vl_I f.s)]) (G' := (jv_H K I L R)) rfl rfl (jv_m_getI (jv_rwK hW 196 12 24 (by decide)) rfl rfl D.2.2.1) Kz) ?_
        refine jv_Wp.cnd jv_i265 (pt := 98) (pe := 73) (p := (¬ (vl_I f.s) = 0)) (q := (¬ (vl_I f.s) = 0)) rfl jv_bi_ne rfl rfl Iff.rfl (fun h4 => ?_) (fun h4 => ?_)
        · refine jv_Wp.lift (fun _ Kz => jv_Ev.steps jv_i265 1 (pc' := 99) (l' := [(0, .ref 196), (1, .int (vr_b t1))]) (st' := [.int (0 : Int32)]) rfl Kz) ?_
          refine jv_Wp.of (jv_Ev.ret jv_i265 rfl (jv_ret_b (Or.inl rfl))) ?_
          have x1 : f.n = 0 := (vl_I_inj (a := f.n) (b := 0) (Nat.lt_trans bn (by decide)) (by decide)).mp h1
          have b2 := vf_b3f (vr_b_f (Classical.not_not.mp h2))
          have x3 : f.d = 0 := (vl_I_inj (a := f.d) (b := 0) (Nat.lt_trans bd (by decide)) (by decide)).mp (Classical.not_not.mp h3)
          have x4 : ¬ f.s = 0 := fun z => h4 ((vl_I_inj (a := f.s) (b := 0) (Nat.lt_trans bs (by decide)) (by decide)).mpr z)
          have ev : decide (vf_pJ f) = false := decide_eq_false (fun z => by have y := (vf_pJ_0 (by omega)).mp z; omega)
          rw [ev] at hQ
          exact hQ
        · refine jv_Wp.lift (fun _ Kz => jv_Ev.steps jv_i265 1 (pc' := 74) (l' := [(0, .ref 196), (1, .int (vr_b t1))]) (st' := [.int (vr_b t1)]) rfl Kz) ?_
          refine jv_Wp.cnd jv_i265 (pt := 87) (pe := 77) (p := ((vr_b t1) = 0)) (q := ((vr_b t1) = 0)) rfl jv_bi_eq rfl rfl Iff.rfl (fun h5 => ?_) (fun h5 => ?_)
          · refine jv_Wp.lift (fun _ Kz => jv_Ev.steps jv_i265 1 (pc' := 88) (l' := [(0, .ref 196), (1, .int (vr_b t1))]) (st' := [.ref 196]) rfl Kz) ?_
            refine jv_Wp.lift (fun _ Kz => jv_Ev.m jv_i265 (pc' := 91) (st' := [.int (Int32.ofInt f.i)]) (G' := (jv_H K I L R)) rfl rfl (jv_m_getI (jv_rwK hW 196 12 24 (by decide)) rfl rfl (vr_dJ D)) Kz) ?_
            refine jv_Wp.cnd jv_i265 (pt := 98) (pe := 94) (p := (¬ (Int32.ofInt f.i) = 0)) (q := (¬ (Int32.ofInt f.i) = 0)) rfl jv_bi_ne rfl rfl Iff.rfl (fun h6 => ?_) (fun h6 => ?_)
            · refine jv_Wp.lift (fun _ Kz => jv_Ev.steps jv_i265 1 (pc' := 99) (l' := [(0, .ref 196), (1, .int (vr_b t1))]) (st' := [.int (0 : Int32)]) rfl Kz) ?_
              refine jv_Wp.of (jv_Ev.ret jv_i265 rfl (jv_ret_b (Or.inl rfl))) ?_
              have x1 : f.n = 0 := (vl_I_inj (a := f.n) (b := 0) (Nat.lt_trans bn (by decide)) (by decide)).mp h1
              have b2 := vf_b3f (vr_b_f (Classical.not_not.mp h2))
              have x3 : f.d = 0 := (vl_I_inj (a := f.d) (b := 0) (Nat.lt_trans bd (by decide)) (by decide)).mp (Classical.not_not.mp h3)
              have x4 : f.s = 0 := (vl_I_inj (a := f.s) (b := 0) (Nat.lt_trans bs (by decide)) (by decide)).mp (Classical.not_not.mp h4)
              have y5 : ¬ f.i = 0 := fun z => h6 (Int32.toInt_inj.mp ((vr_dQ D).trans (z.trans rfl)))
              have qt1 : ¬ (f.kind = 6) := of_decide_eq_false (ht1.symm.trans (vr_b_f h5))
              have ev : decide (vf_pJ f) = false := decide_eq_false (fun z => by have y := (vf_pJ_0 (by omega)).mp z; omega)
              rw [ev] at hQ
              exact hQ
            · refine jv_Wp.lift (fun _ Kz => jv_Ev.steps jv_i265 2 (pc' := 99) (l' := [(0, .ref 196), (1, .int (vr_b t1))]) (st' := [.int (1 : Int32)]) rfl Kz) ?_
              refine jv_Wp.of (jv_Ev.ret jv_i265 rfl (jv_ret_b (Or.inr rfl))) ?_
              have x1 : f.n = 0 := (vl_I_inj (a := f.n) (b := 0) (Nat.lt_trans bn (by decide)) (by decide)).mp h1
              have b2 := vf_b3f (vr_b_f (Classical.not_not.mp h2))
              have x3 : f.d = 0 := (vl_I_inj (a := f.d) (b := 0) (Nat.lt_trans bd (by decide)) (by decide)).mp (Classical.not_not.mp h3)
              have x4 : f.s = 0 := (vl_I_inj (a := f.s) (b := 0) (Nat.lt_trans bs (by decide)) (by decide)).mp (Classical.not_not.mp h4)
              have y5 : f.i = 0 := (vr_dQ D).symm.trans (congrArg Int32.toInt (Classical.not_not.mp h6))
              have qt1 : ¬ (f.kind = 6) := of_decide_eq_false (ht1.symm.trans (vr_b_f h5))
              have ev : decide (vf_pJ f) = true := decide_eq_true ((vf_pJ_0 (by omega)).mpr (by omega))
              rw [ev] at hQ
              exact hQ
          · refine jv_Wp.lift (fun _ Kz => jv_Ev.steps jv_i265 1 (pc' := 78) (l' := [(0, .ref 196), (1, .int (vr_b t1))]) (st' := [.ref 196]) rfl Kz) ?_
            refine jv_Wp.lift (fun _ Kz => jv_Ev.m jv_i265 (pc' := 81) (st' := [.int (Int32.ofInt f.o)]) (G' := (jv_H K I L R)) rfl rfl (jv_m_getI (jv_rwK hW 196 12 24 (by decide)) rfl rfl (vr_dI D)) Kz) ?_
            refine jv_Wp.cnd jv_i265 (pt := 98) (pe := 84) (p := (¬ (Int32.ofInt f.o) = 0)) (q := (¬ (Int32.ofInt f.o) = 0)) rfl jv_bi_ne rfl rfl Iff.rfl (fun h7 => ?_) (fun h7 => ?_)
            · refine jv_Wp.lift (fun _ Kz => jv_Ev.steps jv_i265 1 (pc' := 99) (l' := [(0, .ref 196), (1, .int (vr_b t1))]) (st' := [.int (0 : Int32)]) rfl Kz) ?_
              refine jv_Wp.of (jv_Ev.ret jv_i265 rfl (jv_ret_b (Or.inl rfl))) ?_
              have x1 : f.n = 0 := (vl_I_inj (a := f.n) (b := 0) (Nat.lt_trans bn (by decide)) (by decide)).mp h1
              have b2 := vf_b3f (vr_b_f (Classical.not_not.mp h2))
              have x3 : f.d = 0 := (vl_I_inj (a := f.d) (b := 0) (Nat.lt_trans bd (by decide)) (by decide)).mp (Classical.not_not.mp h3)
              have x4 : f.s = 0 := (vl_I_inj (a := f.s) (b := 0) (Nat.lt_trans bs (by decide)) (by decide)).mp (Classical.not_not.mp h4)
              have y5 : ¬ f.o = 0 := fun z => h7 (Int32.toInt_inj.mp ((vr_dO D).trans (z.trans rfl)))
              have qt1 : (f.kind = 6) := of_decide_eq_true (ht1.symm.trans (vr_b_t h5))
              have ev : decide (vf_pJ f) = false := decide_eq_false (fun z => by have y := (vf_pJ_0 (by omega)).mp z; omega)
              rw [ev] at hQ
              exact hQ
            · refine jv_Wp.lift (fun _ Kz => jv_Ev.steps jv_i265 3 (pc' := 99) (l' := [(0, .ref 196), (1, .int (vr_b t1))]) (st' := [.int (1 : Int32)]) rfl Kz) ?_
              refine jv_Wp.of (jv_Ev.ret jv_i265 rfl (jv_ret_b (Or.inr rfl))) ?_
              have x1 : f.n = 0 := (vl_I_inj (a := f.n) (b := 0) (Nat.lt_trans bn (by decide)) (by decide)).mp h1
              have b2 := vf_b3f (vr_b_f (Classical.not_not.mp h2))
              have x3 : f.d = 0 := (vl_I_inj (a := f.d) (b := 0) (Nat.lt_trans bd (by decide)) (by decide)).mp (Classical.not_not.mp h3)
              have x4 : f.s = 0 := (vl_I_inj (a := f.s) (b := 0) (Nat.lt_trans bs (by decide)) (by decide)).mp (Classical.not_not.mp h4)
              have y5 : f.o = 0 := (vr_dO D).symm.trans (congrArg Int32.toInt (Classical.not_not.mp h7))
              have qt1 : (f.kind = 6) := of_decide_eq_true (ht1.symm.trans (vr_b_t h5))
              have ev : decide (vf_pJ f) = true := decide_eq_true ((vf_pJ_0 (by omega)).mpr (by omega))
              rw [ev] at hQ
              exact hQ
  · refine jv_Wp.bys (q := ((vl_I f.n) = Int32.ofInt 8)) (fun h8 => ?_) (fun h8 => ?_)
    · refine jv_Wp.lift (fun _ Kz => jv_Ev.br jv_i265 (pc' := 100) (st' := []) rfl (by rw [h8]; rfl) Kz) ?_
      refine jv_Wp.lift (fun _ Kz => jv_Ev.steps jv_i265 1 (pc' := 101) (l' := [(0, .ref 196), (1, .int (vr_b t1))]) (st' := [.int (vr_b t1)]) rfl Kz) ?_
      refine jv_Wp.cnd jv_i265 (pt := 139) (pe := 104) (p := (¬ (vr_b t1) = 0)) (q := (¬ (vr_b t1) = 0)) rfl jv_bi_ne rfl rfl Iff.rfl (fun h9 => ?_) (fun h9 => ?_)
      · refine jv_Wp.lift (fun _ Kz => jv_Ev.steps jv_i265 1 (pc' := 140) (l' := [(0, .ref 196), (1, .int (vr_b t1))]) (st' := [.int (0 : Int32)]) rfl Kz) ?_
        refine jv_Wp.of (jv_Ev.ret jv_i265 rfl (jv_ret_b (Or.inl rfl))) ?_
        have x1 : ¬ f.n = 0 := fun z => h1 ((vl_I_inj (a := f.n) (b := 0) (Nat.lt_trans bn (by decide)) (by decide)).mpr z)
        have x2 : f.n = 8 := (vl_I_inj (a := f.n) (b := 8) (Nat.lt_trans bn (by decide)) (by decide)).mp h8
        have qt1 : (f.kind = 6) := of_decide_eq_true (ht1.symm.trans (vr_b_t h9))
        have ev : decide (vf_pJ f) = false := decide_eq_false (fun z => by have y := (vf_pJ_8 (by omega)).mp z; omega)
        rw [ev] at hQ
        exact hQ
      · refine jv_Wp.lift (fun _ Kz => jv_Ev.steps jv_i265 1 (pc' := 105) (l' := [(0, .ref 196), (1, .int (vr_b t1))]) (st' := [.ref 196]) rfl Kz) ?_
        refine jv_Wp.lift (fun _ Kz => jv_Ev.m jv_i265 (pc' := 108) (st' := [.int (vl_I f.code)]) (G' := (jv_H K I L R)) rfl rfl (jv_m_getI (jv_rwK hW 196 12 24 (by decide)) rfl rfl D.1) Kz) ?_
        refine jv_Wp.lift (fun _ Kz => jv_Ev.steps jv_i265 1 (pc' := 111) (l' := [(0, .ref 196), (1, .int (vr_b t1))]) (st' := [.int (133 : Int32), .int (vl_I f.code)]) rfl Kz) ?_
        refine jv_Wp.cnd jv_i265 (pt := 139) (pe := 114) (p := (¬ (vl_I f.code) = (133 : Int32))) (q := (¬ (vl_I f.code) = (133 : Int32))) rfl jv_bc_ne rfl rfl Iff.rfl (fun h10 => ?_) (fun h10 => ?_)
        · refine jv_Wp.lift (fun _ Kz => jv_Ev.steps jv_i265 1 (pc' := 140) (l' := [(0, .ref 196), (1, .int (vr_b t1))]) (st' := [.int (0 : Int32)]) rfl Kz) ?_
          refine jv_Wp.of (jv_Ev.ret jv_i265 rfl (jv_ret_b (Or.inl rfl))) ?_
          have x1 : ¬ f.n = 0 := fun z => h1 ((vl_I_inj (a := f.n) (b := 0) (Nat.lt_trans bn (by decide)) (by decide)).mpr z)
          have x2 : f.n = 8 := (vl_I_inj (a := f.n) (b := 8) (Nat.lt_trans bn (by decide)) (by decide)).mp h8
          have x3 : ¬ f.code = 133 := fun z => h10 ((vl_I_inj (a := f.code) (b := 133) (Nat.lt_trans bc (by decide)) (by decide)).mpr z)
          have qt1 : ¬ (f.kind = 6) := of_decide_eq_false (ht1.symm.trans (vr_b_f (Classical.not_not.mp h9)))
          have ev : decide (vf_pJ f) = false := decide_eq_false (fun z => by have y := (vf_pJ_8 (by omega)).mp z; omega)
          rw [ev] at hQ
          exact hQ
        · refine jv_Wp.lift (fun _ Kz => jv_Ev.steps jv_i265 1 (pc' := 115) (l' := [(0, .ref 196), (1, .int (vr_b t1))]) (st' := [.ref 196]) rfl Kz) ?_
          refine jv_Wp.lift (fun _ Kz => jv_Ev.m jv_i265 (pc' := 118) (st' := [.int (vl_I f.d)]) (G' := (jv_H K I L R)) rfl rfl (jv_m_getI (jv_rwK hW 196 12 24 (by decide)) rfl rfl D.2.1) Kz) ?_
          refine jv_Wp.cnd jv_i265 (pt := 139) (pe := 121) (p := (¬ (vl_I f.d) = 0)) (q := (¬ (vl_I f.d) = 0)) rfl jv_bi_ne rfl rfl Iff.rfl (fun h11 => ?_) (fun h11 => ?_)
          · refine jv_Wp.lift (fun _ Kz => jv_Ev.steps jv_i265 1 (pc' := 140) (l' := [(0, .ref 196), (1, .int (vr_b t1))]) (st' := [.int (0 : Int32)]) rfl Kz) ?_
            refine jv_Wp.of (jv_Ev.ret jv_i265 rfl (jv_ret_b (Or.inl rfl))) ?_
            have x1 : ¬ f.n = 0 := fun z => h1 ((vl_I_inj (a := f.n) (b := 0) (Nat.lt_trans bn (by decide)) (by decide)).mpr z)
            have x2 : f.n = 8 := (vl_I_inj (a := f.n) (b := 8) (Nat.lt_trans bn (by decide)) (by decide)).mp h8
            have x3 : f.code = 133 := (vl_I_inj (a := f.code) (b := 133) (Nat.lt_trans bc (by decide)) (by decide)).mp (Classical.not_not.mp h10)
            have x4 : ¬ f.d = 0 := fun z => h11 ((vl_I_inj (a := f.d) (b := 0) (Nat.lt_trans bd (by decide)) (by decide)).mpr z)
            have qt1 : ¬ (f.kind = 6) := of_decide_eq_false (ht1.symm.trans (vr_b_f (Classical.not_not.mp h9)))
            have ev : decide (vf_pJ f) = false := decide_eq_false (fun z => by have y := (vf_pJ_8 (by omega)).mp z; omega)
            rw [ev] at hQ
            exact hQ
          · refine jv_Wp.lift (fun _ Kz => jv_Ev.steps jv_i265 1 (pc' := 122) (l' := [(0, .ref 196), (1, .int (vr_b t1))]) (st' := [.ref 196]) rfl Kz) ?_
            refine jv_Wp.lift (fun _ Kz => jv_Ev.m jv_i265 (pc' := 125) (st' := [.int (vl_I f.s)]) (G' := (jv_H K I L R)) rfl rfl (jv_m_getI (jv_rwK hW 196 12 24 (by decide)) rfl rfl D.2.2.1) Kz) ?_
            refine jv_Wp.cnd jv_i265 (pt := 139) (pe := 128) (p := (¬ (vl_I f.s) = 0)) (q := (¬ (vl_I f.s) = 0)) rfl jv_bi_ne rfl rfl Iff.rfl (fun h12 => ?_) (fun h12 => ?_)
            · refine jv_Wp.lift (fun _ Kz => jv_Ev.steps jv_i265 1 (pc' := 140) (l' := [(0, .ref 196), (1, .int (vr_b t1))]) (st' := [.int (0 : Int32)]) rfl Kz) ?_
              refine jv_Wp.of (jv_Ev.ret jv_i265 rfl (jv_ret_b (Or.inl rfl))) ?_
              have x1 : ¬ f.n = 0 := fun z => h1 ((vl_I_inj (a := f.n) (b := 0) (Nat.lt_trans bn (by decide)) (by decide)).mpr z)
              have x2 : f.n = 8 := (vl_I_inj (a := f.n) (b := 8) (Nat.lt_trans bn (by decide)) (by decide)).mp h8
              have x3 : f.code = 133 := (vl_I_inj (a := f.code) (b := 133) (Nat.lt_trans bc (by decide)) (by decide)).mp (Classical.not_not.mp h10)
              have x4 : f.d = 0 := (vl_I_inj (a := f.d) (b := 0) (Nat.lt_trans bd (by decide)) (by decide)).mp (Classical.not_not.mp h11)
              have x5 : ¬ f.s = 0 := fun z => h12 ((vl_I_inj (a := f.s) (b := 0) (Nat.lt_trans bs (by decide)) (by decide)).mpr z)
              have qt1 : ¬ (f.kind = 6) := of_decide_eq_false (ht1.symm.trans (vr_b_f (Classical.not_not.mp h9)))
              have ev : decide (vf_pJ f) = false := decide_eq_false (fun z => by have y := (vf_pJ_8 (by omega)).mp z; omega)
              rw [ev] at hQ
              exact hQ
            · refine jv_Wp.lift (fun _ Kz => jv_Ev.steps jv_i265 1 (pc' := 129) (l' := [(0, .ref 196), (1, .int (vr_b t1))]) (st' := [.ref 196]) rfl Kz) ?_
              refine jv_Wp.lift (fun _ Kz => jv_Ev.m jv_i265 (pc' := 132) (st' := [.int (Int32.ofInt f.o)]) (G' := (jv_H K I L R)) rfl rfl (jv_m_getI (jv_rwK hW 196 12 24 (by decide)) rfl rfl (vr_dI D)) Kz) ?_
              refine jv_Wp.cnd jv_i265 (pt := 139) (pe := 135) (p := (¬ (Int32.ofInt f.o) = 0)) (q := (¬ (Int32.ofInt f.o) = 0)) rfl jv_bi_ne rfl rfl Iff.rfl (fun h13 => ?_) (fun h13 => ?_)
              · refine jv_Wp.lift (fun _ Kz => jv_Ev.steps jv_i265 1 (pc' := 140) (l' := [(0, .ref 196), (1, .int (vr_b t1))]) (st' := [.int (0 : Int32)]) rfl Kz) ?_
                refine jv_Wp.of (jv_Ev.ret jv_i265 rfl (jv_ret_b (Or.inl rfl))) ?_
                have x1 : ¬ f.n = 0 := fun z => h1 ((vl_I_inj (a := f.n) (b := 0) (Nat.lt_trans bn (by decide)) (by decide)).mpr z)
                have x2 : f.n = 8 := (vl_I_inj (a := f.n) (b := 8) (Nat.lt_trans bn (by decide)) (by decide)).mp h8
                have x3 : f.code = 133 := (vl_I_inj (a := f.code) (b := 133) (Nat.lt_trans bc (by decide)) (by decide)).mp (Classical.not_not.mp h10)
                have x4 : f.d = 0 := (vl_I_inj (a := f.d) (b := 0) (Nat.lt_trans bd (by decide)) (by decide)).mp (Classical.not_not.mp h11)
                have x5 : f.s = 0 := (vl_I_inj (a := f.s) (b := 0) (Nat.lt_trans bs (by decide)) (by decide)).mp (Classical.not_not.mp h12)
                have y6 : ¬ f.o = 0 := fun z => h13 (Int32.toInt_inj.mp ((vr_dO D).trans (z.trans rfl)))
                have qt1 : ¬ (f.kind = 6) := of_decide_eq_false (ht1.symm.trans (vr_b_f (Classical.not_not.mp h9)))
                have ev : decide (vf_pJ f) = false := decide_eq_false (fun z => by have y := (vf_pJ_8 (by omega)).mp z; omega)
                rw [ev] at hQ
                exact hQ
              · refine jv_Wp.lift (fun _ Kz => jv_Ev.steps jv_i265 2 (pc' := 140) (l' := [(0, .ref 196), (1, .int (vr_b t1))]) (st' := [.int (1 : Int32)]) rfl Kz) ?_
                refine jv_Wp.of (jv_Ev.ret jv_i265 rfl (jv_ret_b (Or.inr rfl))) ?_
                have x1 : ¬ f.n = 0 := fun z => h1 ((vl_I_inj (a := f.n) (b := 0) (Nat.lt_trans bn (by decide)) (by decide)).mpr z)
                have x2 : f.n = 8 := (vl_I_inj (a := f.n) (b := 8) (Nat.lt_trans bn (by decide)) (by decide)).mp h8
                have x3 : f.code = 133 := (vl_I_inj (a := f.code) (b := 133) (Nat.lt_trans bc (by decide)) (by decide)).mp (Classical.not_not.mp h10)
                have x4 : f.d = 0 := (vl_I_inj (a := f.d) (b := 0) (Nat.lt_trans bd (by decide)) (by decide)).mp (Classical.not_not.mp h11)
                have x5 : f.s = 0 := (vl_I_inj (a := f.s) (b := 0) (Nat.lt_trans bs (by decide)) (by decide)).mp (Classical.not_not.mp h12)
                have y6 : f.o = 0 := (vr_dO D).symm.trans (congrArg Int32.toInt (Classical.not_not.mp h13))
                have qt1 : ¬ (f.kind = 6) := of_decide_eq_false (ht1.symm.trans (vr_b_f (Classical.not_not.mp h9)))
                have ev : decide (vf_pJ f) = true := decide_eq_true ((vf_pJ_8 (by omega)).mpr (by omega))
                rw [ev] at hQ
                exact hQ
    · refine jv_Wp.bys (q := ((vl_I f.n) = Int32.ofInt 9)) (fun h14 => ?_) (fun h14 => ?_)
      · refine jv_Wp.lift (fun _ Kz => jv_Ev.br jv_i265 (pc' := 141) (st' := []) rfl (by rw [h14]; rfl) Kz) ?_
        refine jv_Wp.lift (fun _ Kz => jv_Ev.steps jv_i265 1 (pc' := 142) (l' := [(0, .ref 196), (1, .int (vr_b t1))]) (st' := [.int (vr_b t1)]) rfl Kz) ?_
        refine jv_Wp.cnd jv_i265 (pt := 187) (pe := 145) (p := (¬ (vr_b t1) = 0)) (q := (¬ (vr_b t1) = 0)) rfl jv_bi_ne rfl rfl Iff.rfl (fun h15 => ?_) (fun h15 => ?_)
        · refine jv_Wp.lift (fun _ Kz => jv_Ev.steps jv_i265 1 (pc' := 188) (l' := [(0, .ref 196), (1, .int (vr_b t1))]) (st' := [.int (0 : Int32)]) rfl Kz) ?_
          refine jv_Wp.of (jv_Ev.ret jv_i265 rfl (jv_ret_b (Or.inl rfl))) ?_
          have x1 : ¬ f.n = 0 := fun z => h1 ((vl_I_inj (a := f.n) (b := 0) (Nat.lt_trans bn (by decide)) (by decide)).mpr z)
          have x2 : ¬ f.n = 8 := fun z => h8 ((vl_I_inj (a := f.n) (b := 8) (Nat.lt_trans bn (by decide)) (by decide)).mpr z)
          have x3 : f.n = 9 := (vl_I_inj (a := f.n) (b := 9) (Nat.lt_trans bn (by decide)) (by decide)).mp h14
          have qt1 : (f.kind = 6) := of_decide_eq_true (ht1.symm.trans (vr_b_t h15))
          have ev : decide (vf_pJ f) = false := decide_eq_false (fun z => by have y := (vf_pJ_9 (by omega)).mp z; omega)
          rw [ev] at hQ
          exact hQ
        · refine jv_Wp.lift (fun _ Kz => jv_Ev.steps jv_i265 1 (pc' := 146) (l' := [(0, .ref 196), (1, .int (vr_b t1))]) (st' := [.ref 196]) rfl Kz) ?_
          refine jv_Wp.lift (fun _ Kz => jv_Ev.m jv_i265 (pc' := 149) (st' := [.int (vl_I f.code)]) (G' := (jv_H K I L R)) rfl rfl (jv_m_getI (jv_rwK hW 196 12 24 (by decide)) rfl rfl D.1) Kz) ?_
          refine jv_Wp.lift (fun _ Kz => jv_Ev.steps jv_i265 1 (pc' := 152) (l' := [(0, .ref 196), (1, .int (vr_b t1))]) (st' := [.int (149 : Int32), .int (vl_I f.code)]) rfl Kz) ?_
          refine jv_Wp.cnd jv_i265 (pt := 187) (pe := 155) (p := (¬ (vl_I f.code) = (149 : Int32))) (q := (¬ (vl_I f.code) = (149 : Int32))) rfl jv_bc_ne rfl rfl Iff.rfl (fun h16 => ?_) (fun h16 => ?_)
          · refine jv_Wp.lift (fun _ Kz => jv_Ev.steps jv_i265 1 (pc' := 188) (l' := [(0, .ref 196), (1, .int (vr_b t1))]) (st' := [.int (0 : Int32)]) rfl Kz) ?_
            refine jv_Wp.of (jv_Ev.ret jv_i265 rfl (jv_ret_b (Or.inl rfl))) ?_
            have x1 : ¬ f.n = 0 := fun z => h1 ((vl_I_inj (a := f.n) (b := 0) (Nat.lt_trans bn (by decide)) (by decide)).mpr z)
            have x2 : ¬ f.n = 8 := fun z => h8 ((vl_I_inj (a := f.n) (b := 8) (Nat.lt_trans bn (by decide)) (by decide)).mpr z)
            have x3 : f.n = 9 := (vl_I_inj (a := f.n) (b := 9) (Nat.lt_trans bn (by decide)) (by decide)).mp h14
            have x4 : ¬ f.code = 149 := fun z => h16 ((vl_I_inj (a := f.code) (b := 149) (Nat.lt_trans bc (by decide)) (by decide)).mpr z)
            have qt1 : ¬ (f.kind = 6) := of_decide_eq_false (ht1.symm.trans (vr_b_f (Classical.not_not.mp h15)))
            have ev : decide (vf_pJ f) = false := decide_eq_false (fun z => by have y := (vf_pJ_9 (by omega)).mp z; omega)
            rw [ev] at hQ
            exact hQ
          · refine jv_Wp.lift (fun _ Kz => jv_Ev.steps jv_i265 1 (pc' := 156) (l' := [(0, .ref 196), (1, .int (vr_b t1))]) (st' := [.ref 196]) rfl Kz) ?_
            refine jv_Wp.lift (fun _ Kz => jv_Ev.m jv_i265 (pc' := 159) (st' := [.int (vl_I f.d)]) (G' := (jv_H K I L R)) rfl rfl (jv_m_getI (jv_rwK hW 196 12 24 (by decide)) rfl rfl D.2.1) Kz) ?_
            refine jv_Wp.cnd jv_i265 (pt := 187) (pe := 162) (p := (¬ (vl_I f.d) = 0)) (q := (¬ (vl_I f.d) = 0)) rfl jv_bi_ne rfl rfl Iff.rfl (fun h17 => ?_) (fun h17 => ?_)
            · refine jv_Wp.lift (fun _ Kz => jv_Ev.steps jv_i265 1 (pc' := 188) (l' := [(0, .ref 196), (1, .int (vr_b t1))]) (st' := [.int (0 : Int32)]) rfl Kz) ?_
              refine jv_Wp.of (jv_Ev.ret jv_i265 rfl (jv_ret_b (Or.inl rfl))) ?_
              have x1 : ¬ f.n = 0 := fun z => h1 ((vl_I_inj (a := f.n) (b := 0) (Nat.lt_trans bn (by decide)) (by decide)).mpr z)
              have x2 : ¬ f.n = 8 := fun z => h8 ((vl_I_inj (a := f.n) (b := 8) (Nat.lt_trans bn (by decide)) (by decide)).mpr z)
              have x3 : f.n = 9 := (vl_I_inj (a := f.n) (b := 9) (Nat.lt_trans bn (by decide)) (by decide)).mp h14
              have x4 : f.code = 149 := (vl_I_inj (a := f.code) (b := 149) (Nat.lt_trans bc (by decide)) (by decide)).mp (Classical.not_not.mp h16)
              have x5 : ¬ f.d = 0 := fun z => h17 ((vl_I_inj (a := f.d) (b := 0) (Nat.lt_trans bd (by decide)) (by decide)).mpr z)
              have qt1 : ¬ (f.kind = 6) := of_decide_eq_false (ht1.symm.trans (vr_b_f (Classical.not_not.mp h15)))
              have ev : decide (vf_pJ f) = false := decide_eq_false (fun z => by have y := (vf_pJ_9 (by omega)).mp z; omega)
              rw [ev] at hQ
              exact hQ
            · refine jv_Wp.lift (fun _ Kz => jv_Ev.steps jv_i265 1 (pc' := 163) (l' := [(0, .ref 196), (1, .int (vr_b t1))]) (st' := [.ref 196]) rfl Kz) ?_
              refine jv_Wp.lift (fun _ Kz => jv_Ev.m jv_i265 (pc' := 166) (st' := [.int (vl_I f.s)]) (G' := (jv_H K I L R)) rfl rfl (jv_m_getI (jv_rwK hW 196 12 24 (by decide)) rfl rfl D.2.2.1) Kz) ?_
              refine jv_Wp.cnd jv_i265 (pt := 187) (pe := 169) (p := (¬ (vl_I f.s) = 0)) (q := (¬ (vl_I f.s) = 0)) rfl jv_bi_ne rfl rfl Iff.rfl (fun h18 => ?_) (fun h18 => ?_)
              · refine jv_Wp.lift (fun _ Kz => jv_Ev.steps jv_i265 1 (pc' := 188) (l' := [(0, .ref 196), (1, .int (vr_b t1))]) (st' := [.int (0 : Int32)]) rfl Kz) ?_
                refine jv_Wp.of (jv_Ev.ret jv_i265 rfl (jv_ret_b (Or.inl rfl))) ?_
                have x1 : ¬ f.n = 0 := fun z => h1 ((vl_I_inj (a := f.n) (b := 0) (Nat.lt_trans bn (by decide)) (by decide)).mpr z)
                have x2 : ¬ f.n = 8 := fun z => h8 ((vl_I_inj (a := f.n) (b := 8) (Nat.lt_trans bn (by decide)) (by decide)).mpr z)
                have x3 : f.n = 9 := (vl_I_inj (a := f.n) (b := 9) (Nat.lt_trans bn (by decide)) (by decide)).mp h14
                have x4 : f.code = 149 := (vl_I_inj (a := f.code) (b := 149) (Nat.lt_trans bc (by decide)) (by decide)).mp (Classical.not_not.mp h16)
                have x5 : f.d = 0 := (vl_I_inj (a := f.d) (b := 0) (Nat.lt_trans bd (by decide)) (by decide)).mp (Classical.not_not.mp h17)
                have x6 : ¬ f.s = 0 := fun z => h18 ((vl_I_inj (a := f.s) (b := 0) (Nat.lt_trans bs (by decide)) (by decide)).mpr z)
                have qt1 : ¬ (f.kind = 6) := of_decide_eq_false (ht1.symm.trans (vr_b_f (Classical.not_not.mp h15)))
                have ev : decide (vf_pJ f) = false := decide_eq_false (fun z => by have y := (vf_pJ_9 (by omega)).mp z; omega)
                rw [ev] at hQ
                exact hQ
              · refine jv_Wp.lift (fun _ Kz => jv_Ev.steps jv_i265 1 (pc' := 170) (l' := [(0, .ref 196), (1, .int (vr_b t1))]) (st' := [.ref 196]) rfl Kz) ?_
                refine jv_Wp.lift (fun _ Kz => jv_Ev.m jv_i265 (pc' := 173) (st' := [.int (Int32.ofInt f.i)]) (G' := (jv_H K I L R)) rfl rfl (jv_m_getI (jv_rwK hW 196 12 24 (by decide)) rfl rfl (vr_dJ D)) Kz) ?_
                refine jv_Wp.cnd jv_i265 (pt := 187) (pe := 176) (p := (¬ (Int32.ofInt f.i) = 0)) (q := (¬ (Int32.ofInt f.i) = 0)) rfl jv_bi_ne rfl rfl Iff.rfl (fun h19 => ?_) (fun h19 => ?_)
                · refine jv_Wp.lift (fun _ Kz => jv_Ev.steps jv_i265 1 (pc' := 188) (l' := [(0, .ref 196), (1, .int (vr_b t1))]) (st' := [.int (0 : Int32)]) rfl Kz) ?_
                  refine jv_Wp.of (jv_Ev.ret jv_i265 rfl (jv_ret_b (Or.inl rfl))) ?_
                  have x1 : ¬ f.n = 0 := fun z => h1 ((vl_I_inj (a := f.n) (b := 0) (Nat.lt_trans bn (by decide)) (by decide)).mpr z)
                  have x2 : ¬ f.n = 8 := fun z => h8 ((vl_I_inj (a := f.n) (b := 8) (Nat.lt_trans bn (by decide)) (by decide)).mpr z)
                  have x3 : f.n = 9 := (vl_I_inj (a := f.n) (b := 9) (Nat.lt_trans bn (by decide)) (by decide)).mp h14
                  have x4 : f.code = 149 := (vl_I_inj (a := f.code) (b := 149) (Nat.lt_trans bc (by decide)) (by decide)).mp (Classical.not_not.mp h16)
                  have x5 : f.d = 0 := (vl_I_inj (a := f.d) (b := 0) (Nat.lt_trans bd (by decide)) (by decide)).mp (Classical.not_not.mp h17)
                  have x6 : f.s = 0 := (vl_I_inj (a := f.s) (b := 0) (Nat.lt_trans bs (by decide)) (by decide)).mp (Classical.not_not.mp h18)
                  have y7 : ¬ f.i = 0 := fun z => h19 (Int32.toInt_inj.mp ((vr_dQ D).trans (z.trans rfl)))
                  have qt1 : ¬ (f.kind = 6) := of_decide_eq_false (ht1.symm.trans (vr_b_f (Classical.not_not.mp h15)))
                  have ev : decide (vf_pJ f) = false := decide_eq_false (fun z => by have y := (vf_pJ_9 (by omega)).mp z; omega)
                  rw [ev] at hQ
                  exact hQ
                · refine jv_Wp.lift (fun _ Kz => jv_Ev.steps jv_i265 1 (pc' := 177) (l' := [(0, .ref 196), (1, .int (vr_b t1))]) (st' := [.ref 196]) rfl Kz) ?_
                  refine jv_Wp.lift (fun _ Kz => jv_Ev.m jv_i265 (pc' := 180) (st' := [.int (Int32.ofInt f.o)]) (G' := (jv_H K I L R)) rfl rfl (jv_m_getI (jv_rwK hW 196 12 24 (by decide)) rfl rfl (vr_dI D)) Kz) ?_
                  refine jv_Wp.cnd jv_i265 (pt := 187) (pe := 183) (p := (¬ (Int32.ofInt f.o) = 0)) (q := (¬ (Int32.ofInt f.o) = 0)) rfl jv_bi_ne rfl rfl Iff.rfl (fun h20 => ?_) (fun h20 => ?_)
                  · refine jv_Wp.lift (fun _ Kz => jv_Ev.steps jv_i265 1 (pc' := 188) (l' := [(0, .ref 196), (1, .int (vr_b t1))]) (st' := [.int (0 : Int32)]) rfl Kz) ?_
                    refine jv_Wp.of (jv_Ev.ret jv_i265 rfl (jv_ret_b (Or.inl rfl))) ?_
                    have x1 : ¬ f.n = 0 := fun z => h1 ((vl_I_inj (a := f.n) (b := 0) (Nat.lt_trans bn (by decide)) (by decide)).mpr z)
                    have x2 : ¬ f.n = 8 := fun z => h8 ((vl_I_inj (a := f.n) (b := 8) (Nat.lt_trans bn (by decide)) (by decide)).mpr z)
                    have x3 : f.n = 9 := (vl_I_inj (a := f.n) (b := 9) (Nat.lt_trans bn (by decide)) (by decide)).mp h14
                    have x4 : f.code = 149 := (vl_I_inj (a := f.code) (b := 149) (Nat.lt_trans bc (by decide)) (by decide)).mp (Classical.not_not.mp h16)
                    have x5 : f.d = 0 := (vl_I_inj (a := f.d) (b := 0) (Nat.lt_trans bd (by decide)) (by decide)).mp (Classical.not_not.mp h17)
                    have x6 : f.s = 0 := (vl_I_inj (a := f.s) (b := 0) (Nat.lt_trans bs (by decide)) (by decide)).mp (Classical.not_not.mp h18)
                    have y7 : f.i = 0 := (vr_dQ D).symm.trans (congrArg Int32.toInt (Classical.not_not.mp h19))
                    have y8 : ¬ f.o = 0 := fun z => h20 (Int32.toInt_inj.mp ((vr_dO D).trans (z.trans rfl)))
                    have qt1 : ¬ (f.kind = 6) := of_decide_eq_false (ht1.symm.trans (vr_b_f (Classical.not_not.mp h15)))
                    have ev : decide (vf_pJ f) = false := decide_eq_false (fun z => by have y := (vf_pJ_9 (by omega)).mp z; omega)
                    rw [ev] at hQ
                    exact hQ
                  · refine jv_Wp.lift (fun _ Kz => jv_Ev.steps jv_i265 2 (pc' := 188) (l' := [(0, .ref 196), (1, .int (vr_b t1))]) (st' := [.int (1 : Int32)]) rfl Kz) ?_
                    refine jv_Wp.of (jv_Ev.ret jv_i265 rfl (jv_ret_b (Or.inr rfl))) ?_
                    have x1 : ¬ f.n = 0 := fun z => h1 ((vl_I_inj (a := f.n) (b := 0) (Nat.lt_trans bn (by decide)) (by decide)).mpr z)
                    have x2 : ¬ f.n = 8 := fun z => h8 ((vl_I_inj (a := f.n) (b := 8) (Nat.lt_trans bn (by decide)) (by decide)).mpr z)
                    have x3 : f.n = 9 := (vl_I_inj (a := f.n) (b := 9) (Nat.lt_trans bn (by decide)) (by decide)).mp h14
                    have x4 : f.code = 149 := (vl_I_inj (a := f.code) (b := 149) (Nat.lt_trans bc (by decide)) (by decide)).mp (Classical.not_not.mp h16)
                    have x5 : f.d = 0 := (vl_I_inj (a := f.d) (b := 0) (Nat.lt_trans bd (by decide)) (by decide)).mp (Classical.not_not.mp h17)
                    have x6 : f.s = 0 := (vl_I_inj (a := f.s) (b := 0) (Nat.lt_trans bs (by decide)) (by decide)).mp (Classical.not_not.mp h18)
                    have y7 : f.i = 0 := (vr_dQ D).symm.trans (congrArg Int32.toInt (Classical.not_not.mp h19))
                    have y8 : f.o = 0 := (vr_dO D).symm.trans (congrArg Int32.toInt (Classical.not_not.mp h20))
                    have qt1 : ¬ (f.kind = 6) := of_decide_eq_false (ht1.symm.trans (vr_b_f (Classical.not_not.mp h15)))
                    have ev : decide (vf_pJ f) = true := decide_eq_true ((vf_pJ_9 (by omega)).mpr (by omega))
                    rw [ev] at hQ
                    exact hQ
      · refine jv_Wp.lift (fun _ Kz => jv_Ev.br jv_i265 (pc' := 189) (st' := []) rfl (jv_lsw_def (List.forall_mem_cons.mpr ⟨(jv_ne_toInt (k := 0) h1), List.forall_mem_cons.mpr ⟨(jv_ne_toInt (k := 8) h8), List.forall_mem_cons.mpr ⟨(jv_ne_toInt (k := 9) h14), fun _ h => absurd h List.not_mem_nil⟩⟩⟩)) Kz) ?_
        refine jv_Wp.lift (fun _ Kz => jv_Ev.steps jv_i265 1 (pc' := 190) (l' := [(0, .ref 196), (1, .int (vr_b t1))]) (st' := [.ref 196]) rfl Kz) ?_
        refine jv_Wp.lift (fun _ Kz => jv_Ev.c jv_i265 (pc' := 193) (S' := [.int (vl_I f.n)]) jv_i258 [.ref 196] rfl rfl rfl rfl (jv_cal rfl (jv_H_at (jv_rwK hW 196 12 24 (by decide))) rfl rfl) rfl (vq_n f hW D) rfl rfl Kz) ?_
        refine jv_Wp.lift (fun _ Kz => jv_Ev.steps jv_i265 1 (pc' := 195) (l' := [(0, .ref 196), (1, .int (vr_b t1))]) (st' := [.int (14 : Int32), .int (vl_I f.n)]) rfl Kz) ?_
        refine jv_Wp.cnd jv_i265 (pt := 218) (pe := 198) (p := ((14 : Int32) ≤ (vl_I f.n))) (q := ((14 : Int32) ≤ (vl_I f.n))) rfl jv_bc_ge rfl rfl Iff.rfl (fun h21 => ?_) (fun h21 => ?_)
        · refine jv_Wp.lift (fun _ Kz => jv_Ev.steps jv_i265 1 (pc' := 219) (l' := [(0, .ref 196), (1, .int (vr_b t1))]) (st' := [.int (0 : Int32)]) rfl Kz) ?_
          refine jv_Wp.of (jv_Ev.ret jv_i265 rfl (jv_ret_b (Or.inl rfl))) ?_
          have x1 : ¬ f.n = 0 := fun z => h1 ((vl_I_inj (a := f.n) (b := 0) (Nat.lt_trans bn (by decide)) (by decide)).mpr z)
          have x2 : ¬ f.n = 8 := fun z => h8 ((vl_I_inj (a := f.n) (b := 8) (Nat.lt_trans bn (by decide)) (by decide)).mpr z)
          have x3 : ¬ f.n = 9 := fun z => h14 ((vl_I_inj (a := f.n) (b := 9) (Nat.lt_trans bn (by decide)) (by decide)).mpr z)
          have x4 : 14 ≤ f.n := (vl_I_le (a := 14) (b := f.n) (by decide) bn).mp h21
          have ev : decide (vf_pJ f) = false := decide_eq_false (fun z => by have y := (vf_pJ_n (by omega)).mp z; omega)
          rw [ev] at hQ
          exact hQ
        · refine jv_Wp.lift (fun _ Kz => jv_Ev.steps jv_i265 1 (pc' := 199) (l' := [(0, .ref 196), (1, .int (vr_b t1))]) (st' := [.ref 196]) rfl Kz) ?_
          refine jv_Wp.lift (fun _ Kz => jv_Ev.m jv_i265 (pc' := 202) (st' := [.int (vl_I f.d)]) (G' := (jv_H K I L R)) rfl rfl (jv_m_getI (jv_rwK hW 196 12 24 (by decide)) rfl rfl D.2.1) Kz) ?_
          refine jv_Wp.lift (fun _ Kz => jv_Ev.steps jv_i265 1 (pc' := 204) (l' := [(0, .ref 196), (1, .int (vr_b t1))]) (st' := [.int (11 : Int32), .int (vl_I f.d)]) rfl Kz) ?_
          refine jv_Wp.cnd jv_i265 (pt := 218) (pe := 207) (p := ((11 : Int32) ≤ (vl_I f.d))) (q := ((11 : Int32) ≤ (vl_I f.d))) rfl jv_bc_ge rfl rfl Iff.rfl (fun h22 => ?_) (fun h22 => ?_)
          · refine jv_Wp.lift (fun _ Kz => jv_Ev.steps jv_i265 1 (pc' := 219) (l' := [(0, .ref 196), (1, .int (vr_b t1))]) (st' := [.int (0 : Int32)]) rfl Kz) ?_
            refine jv_Wp.of (jv_Ev.ret jv_i265 rfl (jv_ret_b (Or.inl rfl))) ?_
            have x1 : ¬ f.n = 0 := fun z => h1 ((vl_I_inj (a := f.n) (b := 0) (Nat.lt_trans bn (by decide)) (by decide)).mpr z)
            have x2 : ¬ f.n = 8 := fun z => h8 ((vl_I_inj (a := f.n) (b := 8) (Nat.lt_trans bn (by decide)) (by decide)).mpr z)
            have x3 : ¬ f.n = 9 := fun z => h14 ((vl_I_inj (a := f.n) (b := 9) (Nat.lt_trans bn (by decide)) (by decide)).mpr z)
            have x4 : ¬ 14 ≤ f.n := fun z => h21 ((vl_I_le (a := 14) (b := f.n) (by decide) bn).mpr z)
            have x5 : 11 ≤ f.d := (vl_I_le (a := 11) (b := f.d) (by decide) bd).mp h22
            have ev : decide (vf_pJ f) = false := decide_eq_false (fun z => by have y := (vf_pJ_n (by omega)).mp z; omega)
            rw [ev] at hQ
            exact hQ
          · refine jv_Wp.lift (fun _ Kz => jv_Ev.steps jv_i265 1 (pc' := 208) (l' := [(0, .ref 196), (1, .int (vr_b t1))]) (st' := [.ref 196]) rfl Kz) ?_
            refine jv_Wp.lift (fun _ Kz => jv_Ev.c jv_i265 (pc' := 211) (S' := [.int (vr_b (decide (vf_pS f)))]) jv_i263 [.ref 196] rfl rfl rfl rfl (jv_cal rfl (jv_H_at (jv_rwK hW 196 12 24 (by decide))) rfl rfl) rfl (vq_hasSource f hW D) rfl rfl Kz) ?_
            refine jv_Wp.cnd jv_i265 (pt := 218) (pe := 214) (p := ((vr_b (decide (vf_pS f))) = 0)) (q := ((vr_b (decide (vf_pS f))) = 0)) rfl jv_bi_eq rfl rfl Iff.rfl (fun h23 => ?_) (fun h23 => ?_)
            · refine jv_Wp.lift (fun _ Kz => jv_Ev.steps jv_i265 1 (pc' := 219) (l' := [(0, .ref 196), (1, .int (vr_b t1))]) (st' := [.int (0 : Int32)]) rfl Kz) ?_
              refine jv_Wp.of (jv_Ev.ret jv_i265 rfl (jv_ret_b (Or.inl rfl))) ?_
              have x1 : ¬ f.n = 0 := fun z => h1 ((vl_I_inj (a := f.n) (b := 0) (Nat.lt_trans bn (by decide)) (by decide)).mpr z)
              have x2 : ¬ f.n = 8 := fun z => h8 ((vl_I_inj (a := f.n) (b := 8) (Nat.lt_trans bn (by decide)) (by decide)).mpr z)
              have x3 : ¬ f.n = 9 := fun z => h14 ((vl_I_inj (a := f.n) (b := 9) (Nat.lt_trans bn (by decide)) (by decide)).mpr z)
              have x4 : ¬ 14 ≤ f.n := fun z => h21 ((vl_I_le (a := 14) (b := f.n) (by decide) bn).mpr z)
              have x5 : ¬ 11 ≤ f.d := fun z => h22 ((vl_I_le (a := 11) (b := f.d) (by decide) bd).mpr z)
              have b6 := of_decide_eq_false (vr_b_f h23)
              have ev : decide (vf_pJ f) = false := decide_eq_false (fun z => by have y := (vf_pJ_n (by omega)).mp z; omega)
              rw [ev] at hQ
              exact hQ
            · refine jv_Wp.lift (fun _ Kz => jv_Ev.steps jv_i265 2 (pc' := 219) (l' := [(0, .ref 196), (1, .int (vr_b t1))]) (st' := [.int (1 : Int32)]) rfl Kz) ?_
              refine jv_Wp.of (jv_Ev.ret jv_i265 rfl (jv_ret_b (Or.inr rfl))) ?_
              have x1 : ¬ f.n = 0 := fun z => h1 ((vl_I_inj (a := f.n) (b := 0) (Nat.lt_trans bn (by decide)) (by decide)).mpr z)
              have x2 : ¬ f.n = 8 := fun z => h8 ((vl_I_inj (a := f.n) (b := 8) (Nat.lt_trans bn (by decide)) (by decide)).mpr z)
              have x3 : ¬ f.n = 9 := fun z => h14 ((vl_I_inj (a := f.n) (b := 9) (Nat.lt_trans bn (by decide)) (by decide)).mpr z)
              have x4 : ¬ 14 ≤ f.n := fun z => h21 ((vl_I_le (a := 14) (b := f.n) (by decide) bn).mpr z)
              have x5 : ¬ 11 ≤ f.d := fun z => h22 ((vl_I_le (a := 11) (b := f.d) (by decide) bd).mpr z)
              have b6 := of_decide_eq_true (vr_b_t h23)
              have ev : decide (vf_pJ f) = true := decide_eq_true ((vf_pJ_n (by omega)).mpr (by omega))
              rw [ev] at hQ
              exact hQ
theorem vq_isJump_0 {K : Nat → Option (Nat × Nat)} {I : Nat → Nat → Int32} {L : Nat → Nat → Int64} {R : Nat → Nat → Value} (f : vf_F) (hW : jv_rW K R) (D : vr_dec I f) (hk : f.kind = 5 ∨ f.kind = 6)    {n sl : Nat} {Q : jv_R → Prop} (hQ : Q (some (.int (vr_b (decide (vf_pJ f)))), jv_H K I L R, n, sl)) : jv_Wp 265 0 [(0, .ref 196)] [] (jv_H K I L R) n sl Q := by
  have c1 := vr_dc D
  have c2 := vr_dd D
  have c3 := vr_ds D
  have c4 : f.n = f.code / 16 := rfl
  have c5 : f.kind = f.code % 8 := rfl
  have c6 : f.mode = f.code / 32 := rfl
  have c7 := vf_z f
  have bn : f.n < 2147483648 := by omega
  have bk : f.kind < 2147483648 := by omega
  have bm : f.mode < 2147483648 := by omega
  have bz : f.z < 2147483648 := by omega
  have bc : f.code < 2147483648 := by omega
  have bd : f.d < 2147483648 := by omega
  have bs : f.s < 2147483648 := by omega
  refine jv_Wp.lift (fun _ Kz => jv_Ev.steps jv_i265 1 (pc' := 1) (l' := [(0, .ref 196)]) (st' := [.ref 196]) rfl Kz) ?_
  refine jv_Wp.lift (fun _ Kz => jv_Ev.c jv_i265 (pc' := 4) (S' := [.int (vl_I f.kind)]) jv_i257 [.ref 196] rfl rfl rfl rfl (jv_cal rfl (jv_H_at (jv_rwK hW 196 12 24 (by decide))) rfl rfl) rfl (vq_kind f hW D) rfl rfl Kz) ?_
  refine jv_Wp.lift (fun _ Kz => jv_Ev.steps jv_i265 1 (pc' := 6) (l' := [(0, .ref 196)]) (st' := [.int (6 : Int32), .int (vl_I f.kind)]) rfl Kz) ?_
  refine jv_Wp.cnd jv_i265 (pt := 13) (pe := 9) (p := (¬ (vl_I f.kind) = (6 : Int32))) (q := (¬ (vl_I f.kind) = (6 : Int32))) rfl jv_bc_ne rfl rfl Iff.rfl (fun h1 => ?_) (fun h1 => ?_)
  · refine jv_Wp.lift (fun _ Kz => jv_Ev.steps jv_i265 2 (pc' := 15) (l' := [(1, .int (0 : Int32)), (0, .ref 196)]) (st' := []) rfl Kz) ?_
    refine jv_Wp.loc (l := [(0, .ref 196), (1, .int (0 : Int32))]) ⟨List.forall_mem_cons.mpr ⟨.tail _ (.head _), List.forall_mem_cons.mpr ⟨.head _, fun _ h => absurd h List.not_mem_nil⟩⟩, by show List.Nodup [1, 0]; decide⟩ ?_
    have x1 : ¬ f.kind = 6 := fun z => h1 ((vl_I_inj (a := f.kind) (b := 6) (Nat.lt_trans bk (by decide)) (by decide)).mpr z)
    exact vq_isJump_15 f hW D hk  false (decide_eq_false (by omega)).symm hQ
  · refine jv_Wp.lift (fun _ Kz => jv_Ev.steps jv_i265 3 (pc' := 15) (l' := [(1, .int (1 : Int32)), (0, .ref 196)]) (st' := []) rfl Kz) ?_
    refine jv_Wp.loc (l := [(0, .ref 196), (1, .int (1 : Int32))]) ⟨List.forall_mem_cons.mpr ⟨.tail _ (.head _), List.forall_mem_cons.mpr ⟨.head _, fun _ h => absurd h List.not_mem_nil⟩⟩, by show List.Nodup [1, 0]; decide⟩ ?_
    have x1 : f.kind = 6 := (vl_I_inj (a := f.kind) (b := 6) (Nat.lt_trans bk (by decide)) (by decide)).mp (Classical.not_not.mp h1)
    exact vq_isJump_15 f hW D hk  true (decide_eq_true (by omega)).symm hQ
theorem vq_isJump {K : Nat → Option (Nat × Nat)} {I : Nat → Nat → Int32} {L : Nat → Nat → Int64} {R : Nat → Nat → Value} (f : vf_F) (hW : jv_rW K R) (D : vr_dec I f) (hk : f.kind = 5 ∨ f.kind = 6) {n sl : Nat} : jv_Ms 265 [.ref 196] (jv_H K I L R) n sl (some (.int (vr_b (decide (vf_pJ f)))), jv_H K I L R, n, sl) := by
  have h := vq_isJump_0 (n := n) (sl := sl) (I := I) (L := L) f hW D hk (Q := fun X => X = (some (.int (vr_b (decide (vf_pJ f)))), jv_H K I L R, n, sl)) rfl
  obtain ⟨X, h, e⟩ := h
  subst e
  exact h
theorem jv_i266 : jv_I 266 3 (some .boolean) 1 21 jv_c266 := ⟨rfl, rfl, rfl, rfl, rfl⟩
theorem vq_isAtomic_103 {K : Nat → Option (Nat × Nat)} {I : Nat → Nat → Int32} {L : Nat → Nat → Int64} {R : Nat → Nat → Value} (f : vf_F) (hW : jv_rW K R) (D : vr_dec I f)   (t1 : Bool) (t2 : Bool) (ht1 : t1 = decide (f.i = 1 ∨ f.i = 65 ∨ f.i = 81 ∨ f.i = 161 ∨ f.i = 225)) (ht2 : t2 = decide (f.i = 0 ∨ f.i = 64 ∨ f.i = 80 ∨ f.i = 160 ∨ f.i = 241)) {n sl : Nat} {Q : jv_R → Prop} (hQ : Q (some (.int (vr_b (decide (vf_pT f)))), jv_H K I L R, n, sl)) : jv_Wp 266 103 [(0, .ref 196), (1, .int (vr_b t1)), (2, .int (vr_b t2))] [] (jv_H K I L R) n sl Q := by
  have c1 := vr_dc D
  have c2 := vr_dd D
  have c3 := vr_ds D
  have c4 : f.n = f.code / 16 := rfl
  have c5 : f.kind = f.code % 8 := rfl
  have c6 : f.mode = f.code / 32 := rfl
  have c7 := vf_z f
  have bn : f.n < 2147483648 := by omega
  have bk : f.kind < 2147483648 := by omega
  have bm : f.mode < 2147483648 := by omega
  have bz : f.z < 2147483648 := by omega
  have bc : f.code < 2147483648 := by omega
  have bd : f.d < 2147483648 := by omega
  have bs : f.s < 2147483648 := by omega
  refine jv_Wp.lift (fun _ Kz => jv_Ev.steps jv_i266 1 (pc' := 104) (l' := [(0, .ref 196), (1, .int (vr_b t1)), (2, .int (vr_b t2))]) (st' := [.ref 196]) rfl Kz) ?_
  refine jv_Wp.lift (fun _ Kz => jv_Ev.c jv_i266 (pc' := 107) (S' := [.int (vl_I f.z)]) jv_i260 [.ref 196] rfl rfl rfl rfl (jv_cal rfl (jv_H_at (jv_rwK hW 196 12 24 (by decide))) rfl rfl) rfl (vq_size f hW D) rfl rfl Kz) ?_
  refine jv_Wp.lift (fun _ Kz => jv_Ev.steps jv_i266 1 (pc' := 108) (l' := [(0, .ref 196), (1, .int (vr_b t1)), (2, .int (vr_b t2))]) (st' := [.int (2 : Int32), .int (vl_I f.z)]) rfl Kz) ?_
  refine jv_Wp.cnd jv_i266 (pt := 150) (pe := 111) (p := ((vl_I f.z) ≤ (2 : Int32))) (q := ((vl_I f.z) ≤ (2 : Int32))) rfl jv_bc_le rfl rfl Iff.rfl (fun h1 => ?_) (fun h1 => ?_)
  · refine jv_Wp.lift (fun _ Kz => jv_Ev.steps jv_i266 1 (pc' := 151) (l' := [(0, .ref 196), (1, .int (vr_b t1)), (2, .int (vr_b t2))]) (st' := [.int (0 : Int32)]) rfl Kz) ?_
    refine jv_Wp.of (jv_Ev.ret jv_i266 rfl (jv_ret_b (Or.inl rfl))) ?_
    have x1 : f.z ≤ 2 := (vl_I_le (a := f.z) (b := 2) bz (by decide)).mp h1
    have ev : decide (vf_pT f) = false := decide_eq_false (by omega)
    rw [ev] at hQ
    exact hQ
  · refine jv_Wp.lift (fun _ Kz => jv_Ev.steps jv_i266 1 (pc' := 112) (l' := [(0, .ref 196), (1, .int (vr_b t1)), (2, .int (vr_b t2))]) (st' := [.ref 196]) rfl Kz) ?_
    refine jv_Wp.lift (fun _ Kz => jv_Ev.m jv_i266 (pc' := 115) (st' := [.int (vl_I f.d)]) (G' := (jv_H K I L R)) rfl rfl (jv_m_getI (jv_rwK hW 196 12 24 (by decide)) rfl rfl D.2.1) Kz) ?_
    refine jv_Wp.lift (fun _ Kz => jv_Ev.steps jv_i266 1 (pc' := 117) (l' := [(0, .ref 196), (1, .int (vr_b t1)), (2, .int (vr_b t2))]) (st' := [.int (11 : Int32), .int (vl_I f.d)]) rfl Kz) ?_
    refine jv_Wp.cnd jv_i266 (pt := 150) (pe := 120) (p := ((11 : Int32) ≤ (vl_I f.d))) (q := ((11 : Int32) ≤ (vl_I f.d))) rfl jv_bc_ge rfl rfl Iff.rfl (fun h2 => ?_) (fun h2 => ?_)
    · refine jv_Wp.lift (fun _ Kz => jv_Ev.steps jv_i266 1 (pc' := 151) (l' := [(0, .ref 196), (1, .int (vr_b t1)), (2, .int (vr_b t2))]) (st' := [.int (0 : Int32)]) rfl Kz) ?_
      refine jv_Wp.of (jv_Ev.ret jv_i266 rfl (jv_ret_b (Or.inl rfl))) ?_
      have x1 : ¬ f.z ≤ 2 := fun z => h1 ((vl_I_le (a := f.z) (b := 2) bz (by decide)).mpr z)
      have x2 : 11 ≤ f.d := (vl_I_le (a := 11) (b := f.d) (by decide) bd).mp h2
      have ev : decide (vf_pT f) = false := decide_eq_false (by omega)
      rw [ev] at hQ
      exact hQ
    · refine jv_Wp.lift (fun _ Kz => jv_Ev.steps jv_i266 1 (pc' := 121) (l' := [(0, .ref 196), (1, .int (vr_b t1)), (2, .int (vr_b t2))]) (st' := [.int (vr_b t1)]) rfl Kz) ?_
      refine jv_Wp.cnd jv_i266 (pt := 133) (pe := 124) (p := ((vr_b t1) = 0)) (q := ((vr_b t1) = 0)) rfl jv_bi_eq rfl rfl Iff.rfl (fun h3 => ?_) (fun h3 => ?_)
      · refine jv_Wp.lift (fun _ Kz => jv_Ev.steps jv_i266 1 (pc' := 134) (l' := [(0, .ref 196), (1, .int (vr_b t1)), (2, .int (vr_b t2))]) (st' := [.int (vr_b t2)]) rfl Kz) ?_
        refine jv_Wp.cnd jv_i266 (pt := 150) (pe := 137) (p := ((vr_b t2) = 0)) (q := ((vr_b t2) = 0)) rfl jv_bi_eq rfl rfl Iff.rfl (fun h4 => ?_) (fun h4 => ?_)
        · refine jv_Wp.lift (fun _ Kz => jv_Ev.steps jv_i266 1 (pc' := 151) (l' := [(0, .ref 196), (1, .int (vr_b t1)), (2, .int (vr_b t2))]) (st' := [.int (0 : Int32)]) rfl Kz) ?_
          refine jv_Wp.of (jv_Ev.ret jv_i266 rfl (jv_ret_b (Or.inl rfl))) ?_
          have x1 : ¬ f.z ≤ 2 := fun z => h1 ((vl_I_le (a := f.z) (b := 2) bz (by decide)).mpr z)
          have x2 : ¬ 11 ≤ f.d := fun z => h2 ((vl_I_le (a := 11) (b := f.d) (by decide) bd).mpr z)
          have qt1 : ¬ (f.i = 1 ∨ f.i = 65 ∨ f.i = 81 ∨ f.i = 161 ∨ f.i = 225) := of_decide_eq_false (ht1.symm.trans (vr_b_f h3))
          have qt2 : ¬ (f.i = 0 ∨ f.i = 64 ∨ f.i = 80 ∨ f.i = 160 ∨ f.i = 241) := of_decide_eq_false (ht2.symm.trans (vr_b_f h4))
          have ev : decide (vf_pT f) = false := decide_eq_false (by omega)
          rw [ev] at hQ
          exact hQ
        · refine jv_Wp.lift (fun _ Kz => jv_Ev.steps jv_i266 1 (pc' := 138) (l' := [(0, .ref 196), (1, .int (vr_b t1)), (2, .int (vr_b t2))]) (st' := [.ref 196]) rfl Kz) ?_
          refine jv_Wp.lift (fun _ Kz => jv_Ev.m jv_i266 (pc' := 141) (st' := [.int (vl_I f.s)]) (G' := (jv_H K I L R)) rfl rfl (jv_m_getI (jv_rwK hW 196 12 24 (by decide)) rfl rfl D.2.2.1) Kz) ?_
          refine jv_Wp.lift (fun _ Kz => jv_Ev.steps jv_i266 1 (pc' := 143) (l' := [(0, .ref 196), (1, .int (vr_b t1)), (2, .int (vr_b t2))]) (st' := [.int (11 : Int32), .int (vl_I f.s)]) rfl Kz) ?_
          refine jv_Wp.cnd jv_i266 (pt := 150) (pe := 146) (p := ((11 : Int32) ≤ (vl_I f.s))) (q := ((11 : Int32) ≤ (vl_I f.s))) rfl jv_bc_ge rfl rfl Iff.rfl (fun h5 => ?_) (fun h5 => ?_)
          · refine jv_Wp.lift (fun _ Kz => jv_Ev.steps jv_i266 1 (pc' := 151) (l' := [(0, .ref 196), (1, .int (vr_b t1)), (2, .int (vr_b t2))]) (st' := [.int (0 : Int32)]) rfl Kz) ?_
            refine jv_Wp.of (jv_Ev.ret jv_i266 rfl (jv_ret_b (Or.inl rfl))) ?_
            have x1 : ¬ f.z ≤ 2 := fun z => h1 ((vl_I_le (a := f.z) (b := 2) bz (by decide)).mpr z)
            have x2 : ¬ 11 ≤ f.d := fun z => h2 ((vl_I_le (a := 11) (b := f.d) (by decide) bd).mpr z)
            have x3 : 11 ≤ f.s := (vl_I_le (a := 11) (b := f.s) (by decide) bs).mp h5
            have qt1 : ¬ (f.i = 1 ∨ f.i = 65 ∨ f.i = 81 ∨ f.i = 161 ∨ f.i = 225) := of_decide_eq_false (ht1.symm.trans (vr_b_f h3))
            have qt2 : (f.i = 0 ∨ f.i = 64 ∨ f.i = 80 ∨ f.i = 160 ∨ f.i = 241) := of_decide_eq_true (ht2.symm.trans (vr_b_t h4))
            have ev : decide (vf_pT f) = false := decide_eq_false (by omega)
            rw [ev] at hQ
            exact hQ
          · refine jv_Wp.lift (fun _ Kz => jv_Ev.steps jv_i266 2 (pc' := 151) (l' := [(0, .ref 196), (1, .int (vr_b t1)), (2, .int (vr_b t2))]) (st' := [.int (1 : Int32)]) rfl Kz) ?_
            refine jv_Wp.of (jv_Ev.ret jv_i266 rfl (jv_ret_b (Or.inr rfl))) ?_
            have x1 : ¬ f.z ≤ 2 := fun z => h1 ((vl_I_le (a := f.z) (b := 2) bz (by decide)).mpr z)
            have x2 : ¬ 11 ≤ f.d := fun z => h2 ((vl_I_le (a := 11) (b := f.d) (by decide) bd).mpr z)
            have x3 : ¬ 11 ≤ f.s := fun z => h5 ((vl_I_le (a := 11) (b := f.s) (by decide) bs).mpr z)
            have qt1 : ¬ (f.i = 1 ∨ f.i = 65 ∨ f.i = 81 ∨ f.i = 161 ∨ f.i = 225) := of_decide_eq_false (ht1.symm.trans (vr_b_f h3))
            have qt2 : (f.i = 0 ∨ f.i = 64 ∨ f.i = 80 ∨ f.i = 160 ∨ f.i = 241) := of_decide_eq_true (ht2.symm.trans (vr_b_t h4))
            have ev : decide (vf_pT f) = true := decide_eq_true (by omega)
            rw [ev] at hQ
            exact hQ
      · refine jv_Wp.lift (fun _ Kz => jv_Ev.steps jv_i266 1 (pc' := 125) (l' := [(0, .ref 196), (1, .int (vr_b t1)), (2, .int (vr_b t2))]) (st' := [.ref 196]) rfl Kz) ?_
        refine jv_Wp.lift (fun _ Kz => jv_Ev.m jv_i266 (pc' := 128) (st' := [.int (vl_I f.s)]) (G' := (jv_H K I L R)) rfl rfl (jv_m_getI (jv_rwK hW 196 12 24 (by decide)) rfl rfl D.2.2.1) Kz) ?_
        refine jv_Wp.lift (fun _ Kz => jv_Ev.steps jv_i266 1 (pc' := 130) (l' := [(0, .ref 196), (1, .int (vr_b t1)), (2, .int (vr_b t2))]) (st' := [.int (10 : Int32), .int (vl_I f.s)]) rfl Kz) ?_
        refine jv_Wp.cnd jv_i266 (pt := 146) (pe := 133) (p := ((vl_I f.s) < (10 : Int32))) (q := ((vl_I f.s) < (10 : Int32))) rfl jv_bc_lt rfl rfl Iff.rfl (fun h6 => ?_) (fun h6 => ?_)
        · refine jv_Wp.lift (fun _ Kz => jv_Ev.steps jv_i266 2 (pc' := 151) (l' := [(0, .ref 196), (1, .int (vr_b t1)), (2, .int (vr_b t2))]) (st' := [.int (1 : Int32)]) rfl Kz) ?_
          refine jv_Wp.of (jv_Ev.ret jv_i266 rfl (jv_ret_b (Or.inr rfl))) ?_
          have x1 : ¬ f.z ≤ 2 := fun z => h1 ((vl_I_le (a := f.z) (b := 2) bz (by decide)).mpr z)
          have x2 : ¬ 11 ≤ f.d := fun z => h2 ((vl_I_le (a := 11) (b := f.d) (by decide) bd).mpr z)
          have x3 : f.s < 10 := (vl_I_lt (a := f.s) (b := 10) bs (by decide)).mp h6
          have qt1 : (f.i = 1 ∨ f.i = 65 ∨ f.i = 81 ∨ f.i = 161 ∨ f.i = 225) := of_decide_eq_true (ht1.symm.trans (vr_b_t h3))
          have ev : decide (vf_pT f) = true := decide_eq_true (by omega)
          rw [ev] at hQ
          exact hQ
        · refine jv_Wp.lift (fun _ Kz => jv_Ev.steps jv_i266 1 (pc' := 134) (l' := [(0, .ref 196), (1, .int (vr_b t1)), (2, .int (vr_b t2))]) (st' := [.int (vr_b t2)]) rfl Kz) ?_
          refine jv_Wp.cnd jv_i266 (pt := 150) (pe := 137) (p := ((vr_b t2) = 0)) (q := ((vr_b t2) = 0)) rfl jv_bi_eq rfl rfl Iff.rfl (fun h7 => ?_) (fun h7 => ?_)
          · refine jv_Wp.lift (fun _ Kz => jv_Ev.steps jv_i266 1 (pc' := 151) (l' := [(0, .ref 196), (1, .int (vr_b t1)), (2, .int (vr_b t2))]) (st' := [.int (0 : Int32)]) rfl Kz) ?_
            refine jv_Wp.of (jv_Ev.ret jv_i266 rfl (jv_ret_b (Or.inl rfl))) ?_
            have x1 : ¬ f.z ≤ 2 := fun z => h1 ((vl_I_le (a := f.z) (b := 2) bz (by decide)).mpr z)
            have x2 : ¬ 11 ≤ f.d := fun z => h2 ((vl_I_le (a := 11) (b := f.d) (by decide) bd).mpr z)
            have x3 : ¬ f.s < 10 := fun z => h6 ((vl_I_lt (a := f.s) (b := 10) bs (by decide)).mpr z)
            have qt1 : (f.i = 1 ∨ f.i = 65 ∨ f.i = 81 ∨ f.i = 161 ∨ f.i = 225) := of_decide_eq_true (ht1.symm.trans (vr_b_t h3))
            have qt2 : ¬ (f.i = 0 ∨ f.i = 64 ∨ f.i = 80 ∨ f.i = 160 ∨ f.i = 241) := of_decide_eq_false (ht2.symm.trans (vr_b_f h7))
            have ev : decide (vf_pT f) = false := decide_eq_false (by omega)
            rw [ev] at hQ
            exact hQ
          · refine jv_Wp.lift (fun _ Kz => jv_Ev.steps jv_i266 1 (pc' := 138) (l' := [(0, .ref 196), (1, .int (vr_b t1)), (2, .int (vr_b t2))]) (st' := [.ref 196]) rfl Kz) ?_
            refine jv_Wp.lift (fun _ Kz => jv_Ev.m jv_i266 (pc' := 141) (st' := [.int (vl_I f.s)]) (G' := (jv_H K I L R)) rfl rfl (jv_m_getI (jv_rwK hW 196 12 24 (by decide)) rfl rfl D.2.2.1) Kz) ?_
            refine jv_Wp.lift (fun _ Kz => jv_Ev.steps jv_i266 1 (pc' := 143) (l' := [(0, .ref 196), (1, .int (vr_b t1)), (2, .int (vr_b t2))]) (st' := [.int (11 : Int32), .int (vl_I f.s)]) rfl Kz) ?_
            refine jv_Wp.cnd jv_i266 (pt := 150) (pe := 146) (p := ((11 : Int32) ≤ (vl_I f.s))) (q := ((11 : Int32) ≤ (vl_I f.s))) rfl jv_bc_ge rfl rfl Iff.rfl (fun h8 => ?_) (fun h8 => ?_)
            · refine jv_Wp.lift (fun _ Kz => jv_Ev.steps jv_i266 1 (pc' := 151) (l' := [(0, .ref 196), (1, .int (vr_b t1)), (2, .int (vr_b t2))]) (st' := [.int (0 : Int32)]) rfl Kz) ?_
              refine jv_Wp.of (jv_Ev.ret jv_i266 rfl (jv_ret_b (Or.inl rfl))) ?_
              have x1 : ¬ f.z ≤ 2 := fun z => h1 ((vl_I_le (a := f.z) (b := 2) bz (by decide)).mpr z)
              have x2 : ¬ 11 ≤ f.d := fun z => h2 ((vl_I_le (a := 11) (b := f.d) (by decide) bd).mpr z)
              have x3 : ¬ f.s < 10 := fun z => h6 ((vl_I_lt (a := f.s) (b := 10) bs (by decide)).mpr z)
              have x4 : 11 ≤ f.s := (vl_I_le (a := 11) (b := f.s) (by decide) bs).mp h8
              have qt1 : (f.i = 1 ∨ f.i = 65 ∨ f.i = 81 ∨ f.i = 161 ∨ f.i = 225) := of_decide_eq_true (ht1.symm.trans (vr_b_t h3))
              have qt2 : (f.i = 0 ∨ f.i = 64 ∨ f.i = 80 ∨ f.i = 160 ∨ f.i = 241) := of_decide_eq_true (ht2.symm.trans (vr_b_t h7))
              have ev : decide (vf_pT f) = false := decide_eq_false (by omega)
              rw [ev] at hQ
              exact hQ
            · refine jv_Wp.lift (fun _ Kz => jv_Ev.steps jv_i266 2 (pc' := 151) (l' := [(0, .ref 196), (1, .int (vr_b t1)), (2, .int (vr_b t2))]) (st' := [.int (1 : Int32)]) rfl Kz) ?_
              refine jv_Wp.of (jv_Ev.ret jv_i266 rfl (jv_ret_b (Or.inr rfl))) ?_
              have x1 : ¬ f.z ≤ 2 := fun z => h1 ((vl_I_le (a := f.z) (b := 2) bz (by decide)).mpr z)
              have x2 : ¬ 11 ≤ f.d := fun z => h2 ((vl_I_le (a := 11) (b := f.d) (by decide) bd).mpr z)
              have x3 : ¬ f.s < 10 := fun z => h6 ((vl_I_lt (a := f.s) (b := 10) bs (by decide)).mpr z)
              have x4 : ¬ 11 ≤ f.s := fun z => h8 ((vl_I_le (a := 11) (b := f.s) (by decide) bs).mpr z)
              have qt1 : (f.i = 1 ∨ f.i = 65 ∨ f.i = 81 ∨ f.i = 161 ∨ f.i = 225) := of_decide_eq_true (ht1.symm.trans (vr_b_t h3))
              have qt2 : (f.i = 0 ∨ f.i = 64 ∨ f.i = 80 ∨ f.i = 160 ∨ f.i = 241) := of_decide_eq_true (ht2.symm.trans (vr_b_t h7))
              have ev : decide (vf_pT f) = true := decide_eq_true (by omega)
              rw [ev] at hQ
              exact hQ
theorem vq_isAtomic_52 {K : Nat → Option (Nat × Nat)} {I : Nat → Nat → Int32} {L : Nat → Nat → Int64} {R : Nat → Nat → Value} (f : vf_F) (hW : jv_rW K R) (D : vr_dec I f)   (t1 : Bool) (ht1 : t1 = decide (f.i = 1 ∨ f.i = 65 ∨ f.i = 81 ∨ f.i = 161 ∨ f.i = 225)) {n sl : Nat} {Q : jv_R → Prop} (hQ : Q (some (.int (vr_b (decide (vf_pT f)))), jv_H K I L R, n, sl)) : jv_Wp 266 52 [(0, .ref 196), (1, .int (vr_b t1))] [] (jv_H K I L R) n sl Q := by
  have c1 := vr_dc D
  have c2 := vr_dd D
  have c3 := vr_ds D
  have c4 : f.n = f.code / 16 := rfl
  have c5 : f.kind = f.code % 8 := rfl
  have c6 : f.mode = f.code / 32 := rfl
  have c7 := vf_z f
  have bn : f.n < 2147483648 := by omega
  have bk : f.kind < 2147483648 := by omega
  have bm : f.mode < 2147483648 := by omega
  have bz : f.z < 2147483648 := by omega
  have bc : f.code < 2147483648 := by omega
  have bd : f.d < 2147483648 := by omega
  have bs : f.s < 2147483648 := by omega
  refine jv_Wp.lift (fun _ Kz => jv_Ev.steps jv_i266 1 (pc' := 53) (l' := [(0, .ref 196), (1, .int (vr_b t1))]) (st' := [.ref 196]) rfl Kz) ?_
  refine jv_Wp.lift (fun _ Kz => jv_Ev.m jv_i266 (pc' := 56) (st' := [.int (Int32.ofInt f.i)]) (G' := (jv_H K I L R)) rfl rfl (jv_m_getI (jv_rwK hW 196 12 24 (by decide)) rfl rfl (vr_dJ D)) Kz) ?_
  refine jv_Wp.cnd jv_i266 (pt := 97) (pe := 59) (p := ((Int32.ofInt f.i) = 0)) (q := ((Int32.ofInt f.i) = 0)) rfl jv_bi_eq rfl rfl Iff.rfl (fun h1 => ?_) (fun h1 => ?_)
  · refine jv_Wp.lift (fun _ Kz => jv_Ev.steps jv_i266 3 (pc' := 103) (l' := [(2, .int (1 : Int32)), (0, .ref 196), (1, .int (vr_b t1))]) (st' := []) rfl Kz) ?_
    refine jv_Wp.loc (l := [(0, .ref 196), (1, .int (vr_b t1)), (2, .int (1 : Int32))]) ⟨List.forall_mem_cons.mpr ⟨.tail _ (.head _), List.forall_mem_cons.mpr ⟨.tail _ (.tail _ (.head _)), List.forall_mem_cons.mpr ⟨.head _, fun _ h => absurd h List.not_mem_nil⟩⟩⟩, by show List.Nodup [2, 0, 1]; decide⟩ ?_
    have y1 : f.i = 0 := (vr_dQ D).symm.trans (congrArg Int32.toInt h1)
    exact vq_isAtomic_103 f hW D   t1 true ht1 (decide_eq_true (by omega)).symm hQ
  · refine jv_Wp.lift (fun _ Kz => jv_Ev.steps jv_i266 1 (pc' := 60) (l' := [(0, .ref 196), (1, .int (vr_b t1))]) (st' := [.ref 196]) rfl Kz) ?_
    refine jv_Wp.lift (fun _ Kz => jv_Ev.m jv_i266 (pc' := 63) (st' := [.int (Int32.ofInt f.i)]) (G' := (jv_H K I L R)) rfl rfl (jv_m_getI (jv_rwK hW 196 12 24 (by decide)) rfl rfl (vr_dJ D)) Kz) ?_
    refine jv_Wp.lift (fun _ Kz => jv_Ev.steps jv_i266 1 (pc' := 65) (l' := [(0, .ref 196), (1, .int (vr_b t1))]) (st' := [.int (64 : Int32), .int (Int32.ofInt f.i)]) rfl Kz) ?_
    refine jv_Wp.cnd jv_i266 (pt := 97) (pe := 68) (p := ((Int32.ofInt f.i) = (64 : Int32))) (q := ((Int32.ofInt f.i) = (64 : Int32))) rfl jv_bc_eq rfl rfl Iff.rfl (fun h2 => ?_) (fun h2 => ?_)
    · refine jv_Wp.lift (fun _ Kz => jv_Ev.steps jv_i266 3 (pc' := 103) (l' := [(2, .int (1 : Int32)), (0, .ref 196), (1, .int (vr_b t1))]) (st' := []) rfl Kz) ?_
      refine jv_Wp.loc (l := [(0, .ref 196), (1, .int (vr_b t1)), (2, .int (1 : Int32))]) ⟨List.forall_mem_cons.mpr ⟨.tail _ (.head _), List.forall_mem_cons.mpr ⟨.tail _ (.tail _ (.head _)), List.forall_mem_cons.mpr ⟨.head _, fun _ h => absurd h List.not_mem_nil⟩⟩⟩, by show List.Nodup [2, 0, 1]; decide⟩ ?_
      have y1 : ¬ f.i = 0 := fun z => h1 (Int32.toInt_inj.mp ((vr_dQ D).trans (z.trans rfl)))
      have y2 : f.i = 64 := (vr_dQ D).symm.trans (congrArg Int32.toInt h2)
      exact vq_isAtomic_103 f hW D   t1 true ht1 (decide_eq_true (by omega)).symm hQ
    · refine jv_Wp.lift (fun _ Kz => jv_Ev.steps jv_i266 1 (pc' := 69) (l' := [(0, .ref 196), (1, .int (vr_b t1))]) (st' := [.ref 196]) rfl Kz) ?_
      refine jv_Wp.lift (fun _ Kz => jv_Ev.m jv_i266 (pc' := 72) (st' := [.int (Int32.ofInt f.i)]) (G' := (jv_H K I L R)) rfl rfl (jv_m_getI (jv_rwK hW 196 12 24 (by decide)) rfl rfl (vr_dJ D)) Kz) ?_
      refine jv_Wp.lift (fun _ Kz => jv_Ev.steps jv_i266 1 (pc' := 74) (l' := [(0, .ref 196), (1, .int (vr_b t1))]) (st' := [.int (80 : Int32), .int (Int32.ofInt f.i)]) rfl Kz) ?_
      refine jv_Wp.cnd jv_i266 (pt := 97) (pe := 77) (p := ((Int32.ofInt f.i) = (80 : Int32))) (q := ((Int32.ofInt f.i) = (80 : Int32))) rfl jv_bc_eq rfl rfl Iff.rfl (fun h3 => ?_) (fun h3 => ?_)
      · refine jv_Wp.lift (fun _ Kz => jv_Ev.steps jv_i266 3 (pc' := 103) (l' := [(2, .int (1 : Int32)), (0, .ref 196), (1, .int (vr_b t1))]) (st' := []) rfl Kz) ?_
        refine jv_Wp.loc (l := [(0, .ref 196), (1, .int (vr_b t1)), (2, .int (1 : Int32))]) ⟨List.forall_mem_cons.mpr ⟨.tail _ (.head _), List.forall_mem_cons.mpr ⟨.tail _ (.tail _ (.head _)), List.forall_mem_cons.mpr ⟨.head _, fun _ h => absurd h List.not_mem_nil⟩⟩⟩, by show List.Nodup [2, 0, 1]; decide⟩ ?_
        have y1 : ¬ f.i = 0 := fun z => h1 (Int32.toInt_inj.mp ((vr_dQ D).trans (z.trans rfl)))
        have y2 : ¬ f.i = 64 := fun z => h2 (Int32.toInt_inj.mp ((vr_dQ D).trans (z.trans rfl)))
        have y3 : f.i = 80 := (vr_dQ D).symm.trans (congrArg Int32.toInt h3)
        exact vq_isAtomic_103 f hW D   t1 true ht1 (decide_eq_true (by omega)).symm hQ
      · refine jv_Wp.lift (fun _ Kz => jv_Ev.steps jv_i266 1 (pc' := 78) (l' := [(0, .ref 196), (1, .int (vr_b t1))]) (st' := [.ref 196]) rfl Kz) ?_
        refine jv_Wp.lift (fun _ Kz => jv_Ev.m jv_i266 (pc' := 81) (st' := [.int (Int32.ofInt f.i)]) (G' := (jv_H K I L R)) rfl rfl (jv_m_getI (jv_rwK hW 196 12 24 (by decide)) rfl rfl (vr_dJ D)) Kz) ?_
        refine jv_Wp.lift (fun _ Kz => jv_Ev.steps jv_i266 1 (pc' := 84) (l' := [(0, .ref 196), (1, .int (vr_b t1))]) (st' := [.int (160 : Int32), .int (Int32.ofInt f.i)]) rfl Kz) ?_
        refine jv_Wp.cnd jv_i266 (pt := 97) (pe := 87) (p := ((Int32.ofInt f.i) = (160 : Int32))) (q := ((Int32.ofInt f.i) = (160 : Int32))) rfl jv_bc_eq rfl rfl Iff.rfl (fun h4 => ?_) (fun h4 => ?_)
        · refine jv_Wp.lift (fun _ Kz => jv_Ev.steps jv_i266 3 (pc' := 103) (l' := [(2, .int (1 : Int32)), (0, .ref 196), (1, .int (vr_b t1))]) (st' := []) rfl Kz) ?_
          refine jv_Wp.loc (l := [(0, .ref 196), (1, .int (vr_b t1)), (2, .int (1 : Int32))]) ⟨List.forall_mem_cons.mpr ⟨.tail _ (.head _), List.forall_mem_cons.mpr ⟨.tail _ (.tail _ (.head _)), List.forall_mem_cons.mpr ⟨.head _, fun _ h => absurd h List.not_mem_nil⟩⟩⟩, by show List.Nodup [2, 0, 1]; decide⟩ ?_
          have y1 : ¬ f.i = 0 := fun z => h1 (Int32.toInt_inj.mp ((vr_dQ D).trans (z.trans rfl)))
          have y2 : ¬ f.i = 64 := fun z => h2 (Int32.toInt_inj.mp ((vr_dQ D).trans (z.trans rfl)))
          have y3 : ¬ f.i = 80 := fun z => h3 (Int32.toInt_inj.mp ((vr_dQ D).trans (z.trans rfl)))
          have y4 : f.i = 160 := (vr_dQ D).symm.trans (congrArg Int32.toInt h4)
          exact vq_isAtomic_103 f hW D   t1 true ht1 (decide_eq_true (by omega)).symm hQ
        · refine jv_Wp.lift (fun _ Kz => jv_Ev.steps jv_i266 1 (pc' := 88) (l' := [(0, .ref 196), (1, .int (vr_b t1))]) (st' := [.ref 196]) rfl Kz) ?_
          refine jv_Wp.lift (fun _ Kz => jv_Ev.m jv_i266 (pc' := 91) (st' := [.int (Int32.ofInt f.i)]) (G' := (jv_H K I L R)) rfl rfl (jv_m_getI (jv_rwK hW 196 12 24 (by decide)) rfl rfl (vr_dJ D)) Kz) ?_
          refine jv_Wp.lift (fun _ Kz => jv_Ev.steps jv_i266 1 (pc' := 94) (l' := [(0, .ref 196), (1, .int (vr_b t1))]) (st' := [.int (241 : Int32), .int (Int32.ofInt f.i)]) rfl Kz) ?_
          refine jv_Wp.cnd jv_i266 (pt := 101) (pe := 97) (p := (¬ (Int32.ofInt f.i) = (241 : Int32))) (q := (¬ (Int32.ofInt f.i) = (241 : Int32))) rfl jv_bc_ne rfl rfl Iff.rfl (fun h5 => ?_) (fun h5 => ?_)
          · refine jv_Wp.lift (fun _ Kz => jv_Ev.steps jv_i266 2 (pc' := 103) (l' := [(2, .int (0 : Int32)), (0, .ref 196), (1, .int (vr_b t1))]) (st' := []) rfl Kz) ?_
            refine jv_Wp.loc (l := [(0, .ref 196), (1, .int (vr_b t1)), (2, .int (0 : Int32))]) ⟨List.forall_mem_cons.mpr ⟨.tail _ (.head _), List.forall_mem_cons.mpr ⟨.tail _ (.tail _ (.head _)), List.forall_mem_cons.mpr ⟨.head _, fun _ h => absurd h List.not_mem_nil⟩⟩⟩, by show List.Nodup [2, 0, 1]; decide⟩ ?_
            have y1 : ¬ f.i = 0 := fun z => h1 (Int32.toInt_inj.mp ((vr_dQ D).trans (z.trans rfl)))
            have y2 : ¬ f.i = 64 := fun z => h2 (Int32.toInt_inj.mp ((vr_dQ D).trans (z.trans rfl)))
            have y3 : ¬ f.i = 80 := fun z => h3 (Int32.toInt_inj.mp ((vr_dQ D).trans (z.trans rfl)))
            have y4 : ¬ f.i = 160 := fun z => h4 (Int32.toInt_inj.mp ((vr_dQ D).trans (z.trans rfl)))
            have y5 : ¬ f.i = 241 := fun z => h5 (Int32.toInt_inj.mp ((vr_dQ D).trans (z.trans rfl)))
            exact vq_isAtomic_103 f hW D   t1 false ht1 (decide_eq_false (by omega)).symm hQ
          · refine jv_Wp.lift (fun _ Kz => jv_Ev.steps jv_i266 3 (pc' := 103) (l' := [(2, .int (1 : Int32)), (0, .ref 196), (1, .int (vr_b t1))]) (st' := []) rfl Kz) ?_
            refine jv_Wp.loc (l := [(0, .ref 196), (1, .int (vr_b t1)), (2, .int (1 : Int32))]) ⟨List.forall_mem_cons.mpr ⟨.tail _ (.head _), List.forall_mem_cons.mpr ⟨.tail _ (.tail _ (.head _)), List.forall_mem_cons.mpr ⟨.head _, fun _ h => absurd h List.not_mem_nil⟩⟩⟩, by show List.Nodup [2, 0, 1]; decide⟩ ?_
            have y1 : ¬ f.i = 0 := fun z => h1 (Int32.toInt_inj.mp ((vr_dQ D).trans (z.trans rfl)))
            have y2 : ¬ f.i = 64 := fun z => h2 (Int32.toInt_inj.mp ((vr_dQ D).trans (z.trans rfl)))
            have y3 : ¬ f.i = 80 := fun z => h3 (Int32.toInt_inj.mp ((vr_dQ D).trans (z.trans rfl)))
            have y4 : ¬ f.i = 160 := fun z => h4 (Int32.toInt_inj.mp ((vr_dQ D).trans (z.trans rfl)))
            have y5 : f.i = 241 := (vr_dQ D).symm.trans (congrArg Int32.toInt (Classical.not_not.mp h5))
            exact vq_isAtomic_103 f hW D   t1 true ht1 (decide_eq_true (by omega)).symm hQ
theorem vq_isAtomic_0 {K : Nat → Option (Nat × Nat)} {I : Nat → Nat → Int32} {L : Nat → Nat → Int64} {R : Nat → Nat → Value} (f : vf_F) (hW : jv_rW K R) (D : vr_dec I f)     {n sl : Nat} {Q : jv_R → Prop} (hQ : Q (some (.int (vr_b (decide (vf_pT f)))), jv_H K I L R, n, sl)) : jv_Wp 266 0 [(0, .ref 196)] [] (jv_H K I L R) n sl Q := by
  have c1 := vr_dc D
  have c2 := vr_dd D
  have c3 := vr_ds D
  have c4 : f.n = f.code / 16 := rfl
  have c5 : f.kind = f.code % 8 := rfl
  have c6 : f.mode = f.code / 32 := rfl
  have c7 := vf_z f
  have bn : f.n < 2147483648 := by omega
  have bk : f.kind < 2147483648 := by omega
  have bm : f.mode < 2147483648 := by omega
  have bz : f.z < 2147483648 := by omega
  have bc : f.code < 2147483648 := by omega
  have bd : f.d < 2147483648 := by omega
  have bs : f.s < 2147483648 := by omega
  refine jv_Wp.lift (fun _ Kz => jv_Ev.steps jv_i266 1 (pc' := 1) (l' := [(0, .ref 196)]) (st' := [.ref 196]) rfl Kz) ?_
  refine jv_Wp.lift (fun _ Kz => jv_Ev.m jv_i266 (pc' := 4) (st' := [.int (Int32.ofInt f.i)]) (G' := (jv_H K I L R)) rfl rfl (jv_m_getI (jv_rwK hW 196 12 24 (by decide)) rfl rfl (vr_dJ D)) Kz) ?_
  refine jv_Wp.lift (fun _ Kz => jv_Ev.steps jv_i266 1 (pc' := 5) (l' := [(0, .ref 196)]) (st' := [.int (1 : Int32), .int (Int32.ofInt f.i)]) rfl Kz) ?_
  refine jv_Wp.cnd jv_i266 (pt := 46) (pe := 8) (p := ((Int32.ofInt f.i) = (1 : Int32))) (q := ((Int32.ofInt f.i) = (1 : Int32))) rfl jv_bc_eq rfl rfl Iff.rfl (fun h1 => ?_) (fun h1 => ?_)
  · refine jv_Wp.lift (fun _ Kz => jv_Ev.steps jv_i266 3 (pc' := 52) (l' := [(1, .int (1 : Int32)), (0, .ref 196)]) (st' := []) rfl Kz) ?_
    refine jv_Wp.loc (l := [(0, .ref 196), (1, .int (1 : Int32))]) ⟨List.forall_mem_cons.mpr ⟨.tail _ (.head _), List.forall_mem_cons.mpr ⟨.head _, fun _ h => absurd h List.not_mem_nil⟩⟩, by show List.Nodup [1, 0]; decide⟩ ?_
    have y1 : f.i = 1 := (vr_dQ D).symm.trans (congrArg Int32.toInt h1)
    exact vq_isAtomic_52 f hW D   true (decide_eq_true (by omega)).symm hQ
  · refine jv_Wp.lift (fun _ Kz => jv_Ev.steps jv_i266 1 (pc' := 9) (l' := [(0, .ref 196)]) (st' := [.ref 196]) rfl Kz) ?_
    refine jv_Wp.lift (fun _ Kz => jv_Ev.m jv_i266 (pc' := 12) (st' := [.int (Int32.ofInt f.i)]) (G' := (jv_H K I L R)) rfl rfl (jv_m_getI (jv_rwK hW 196 12 24 (by decide)) rfl rfl (vr_dJ D)) Kz) ?_
    refine jv_Wp.lift (fun _ Kz => jv_Ev.steps jv_i266 1 (pc' := 14) (l' := [(0, .ref 196)]) (st' := [.int (65 : Int32), .int (Int32.ofInt f.i)]) rfl Kz) ?_
    refine jv_Wp.cnd jv_i266 (pt := 46) (pe := 17) (p := ((Int32.ofInt f.i) = (65 : Int32))) (q := ((Int32.ofInt f.i) = (65 : Int32))) rfl jv_bc_eq rfl rfl Iff.rfl (fun h2 => ?_) (fun h2 => ?_)
    · refine jv_Wp.lift (fun _ Kz => jv_Ev.steps jv_i266 3 (pc' := 52) (l' := [(1, .int (1 : Int32)), (0, .ref 196)]) (st' := []) rfl Kz) ?_
      refine jv_Wp.loc (l := [(0, .ref 196), (1, .int (1 : Int32))]) ⟨List.forall_mem_cons.mpr ⟨.tail _ (.head _), List.forall_mem_cons.mpr ⟨.head _, fun _ h => absurd h List.not_mem_nil⟩⟩, by show List.Nodup [1, 0]; decide⟩ ?_
      have y1 : ¬ f.i = 1 := fun z => h1 (Int32.toInt_inj.mp ((vr_dQ D).trans (z.trans rfl)))
      have y2 : f.i = 65 := (vr_dQ D).symm.trans (congrArg Int32.toInt h2)
      exact vq_isAtomic_52 f hW D   true (decide_eq_true (by omega)).symm hQ
    · refine jv_Wp.lift (fun _ Kz => jv_Ev.steps jv_i266 1 (pc' := 18) (l' := [(0, .ref 196)]) (st' := [.ref 196]) rfl Kz) ?_
      refine jv_Wp.lift (fun _ Kz => jv_Ev.m jv_i266 (pc' := 21) (st' := [.int (Int32.ofInt f.i)]) (G' := (jv_H K I L R)) rfl rfl (jv_m_getI (jv_rwK hW 196 12 24 (by decide)) rfl rfl (vr_dJ D)) Kz) ?_
      refine jv_Wp.lift (fun _ Kz => jv_Ev.steps jv_i266 1 (pc' := 23) (l' := [(0, .ref 196)]) (st' := [.int (81 : Int32), .int (Int32.ofInt f.i)]) rfl Kz) ?_
      refine jv_Wp.cnd jv_i266 (pt := 46) (pe := 26) (p := ((Int32.ofInt f.i) = (81 : Int32))) (q := ((Int32.ofInt f.i) = (81 : Int32))) rfl jv_bc_eq rfl rfl Iff.rfl (fun h3 => ?_) (fun h3 => ?_)
      · refine jv_Wp.lift (fun _ Kz => jv_Ev.steps jv_i266 3 (pc' := 52) (l' := [(1, .int (1 : Int32)), (0, .ref 196)]) (st' := []) rfl Kz) ?_
        refine jv_Wp.loc (l := [(0, .ref 196), (1, .int (1 : Int32))]) ⟨List.forall_mem_cons.mpr ⟨.tail _ (.head _), List.forall_mem_cons.mpr ⟨.head _, fun _ h => absurd h List.not_mem_nil⟩⟩, by show List.Nodup [1, 0]; decide⟩ ?_
        have y1 : ¬ f.i = 1 := fun z => h1 (Int32.toInt_inj.mp ((vr_dQ D).trans (z.trans rfl)))
        have y2 : ¬ f.i = 65 := fun z => h2 (Int32.toInt_inj.mp ((vr_dQ D).trans (z.trans rfl)))
        have y3 : f.i = 81 := (vr_dQ D).symm.trans (congrArg Int32.toInt h3)
        exact vq_isAtomic_52 f hW D   true (decide_eq_true (by omega)).symm hQ
      · refine jv_Wp.lift (fun _ Kz => jv_Ev.steps jv_i266 1 (pc' := 27) (l' := [(0, .ref 196)]) (st' := [.ref 196]) rfl Kz) ?_
        refine jv_Wp.lift (fun _ Kz => jv_Ev.m jv_i266 (pc' := 30) (st' := [.int (Int32.ofInt f.i)]) (G' := (jv_H K I L R)) rfl rfl (jv_m_getI (jv_rwK hW 196 12 24 (by decide)) rfl rfl (vr_dJ D)) Kz) ?_
        refine jv_Wp.lift (fun _ Kz => jv_Ev.steps jv_i266 1 (pc' := 33) (l' := [(0, .ref 196)]) (st' := [.int (161 : Int32), .int (Int32.ofInt f.i)]) rfl Kz) ?_
        refine jv_Wp.cnd jv_i266 (pt := 46) (pe := 36) (p := ((Int32.ofInt f.i) = (161 : Int32))) (q := ((Int32.ofInt f.i) = (161 : Int32))) rfl jv_bc_eq rfl rfl Iff.rfl (fun h4 => ?_) (fun h4 => ?_)
        · refine jv_Wp.lift (fun _ Kz => jv_Ev.steps jv_i266 3 (pc' := 52) (l' := [(1, .int (1 : Int32)), (0, .ref 196)]) (st' := []) rfl Kz) ?_
          refine jv_Wp.loc (l := [(0, .ref 196), (1, .int (1 : Int32))]) ⟨List.forall_mem_cons.mpr ⟨.tail _ (.head _), List.forall_mem_cons.mpr ⟨.head _, fun _ h => absurd h List.not_mem_nil⟩⟩, by show List.Nodup [1, 0]; decide⟩ ?_
          have y1 : ¬ f.i = 1 := fun z => h1 (Int32.toInt_inj.mp ((vr_dQ D).trans (z.trans rfl)))
          have y2 : ¬ f.i = 65 := fun z => h2 (Int32.toInt_inj.mp ((vr_dQ D).trans (z.trans rfl)))
          have y3 : ¬ f.i = 81 := fun z => h3 (Int32.toInt_inj.mp ((vr_dQ D).trans (z.trans rfl)))
          have y4 : f.i = 161 := (vr_dQ D).symm.trans (congrArg Int32.toInt h4)
          exact vq_isAtomic_52 f hW D   true (decide_eq_true (by omega)).symm hQ
        · refine jv_Wp.lift (fun _ Kz => jv_Ev.steps jv_i266 1 (pc' := 37) (l' := [(0, .ref 196)]) (st' := [.ref 196]) rfl Kz) ?_
          refine jv_Wp.lift (fun _ Kz => jv_Ev.m jv_i266 (pc' := 40) (st' := [.int (Int32.ofInt f.i)]) (G' := (jv_H K I L R)) rfl rfl (jv_m_getI (jv_rwK hW 196 12 24 (by decide)) rfl rfl (vr_dJ D)) Kz) ?_
          refine jv_Wp.lift (fun _ Kz => jv_Ev.steps jv_i266 1 (pc' := 43) (l' := [(0, .ref 196)]) (st' := [.int (225 : Int32), .int (Int32.ofInt f.i)]) rfl Kz) ?_
          refine jv_Wp.cnd jv_i266 (pt := 50) (pe := 46) (p := (¬ (Int32.ofInt f.i) = (225 : Int32))) (q := (¬ (Int32.ofInt f.i) = (225 : Int32))) rfl jv_bc_ne rfl rfl Iff.rfl (fun h5 => ?_) (fun h5 => ?_)
          · refine jv_Wp.lift (fun _ Kz => jv_Ev.steps jv_i266 2 (pc' := 52) (l' := [(1, .int (0 : Int32)), (0, .ref 196)]) (st' := []) rfl Kz) ?_
            refine jv_Wp.loc (l := [(0, .ref 196), (1, .int (0 : Int32))]) ⟨List.forall_mem_cons.mpr ⟨.tail _ (.head _), List.forall_mem_cons.mpr ⟨.head _, fun _ h => absurd h List.not_mem_nil⟩⟩, by show List.Nodup [1, 0]; decide⟩ ?_
            have y1 : ¬ f.i = 1 := fun z => h1 (Int32.toInt_inj.mp ((vr_dQ D).trans (z.trans rfl)))
            have y2 : ¬ f.i = 65 := fun z => h2 (Int32.toInt_inj.mp ((vr_dQ D).trans (z.trans rfl)))
            have y3 : ¬ f.i = 81 := fun z => h3 (Int32.toInt_inj.mp ((vr_dQ D).trans (z.trans rfl)))
            have y4 : ¬ f.i = 161 := fun z => h4 (Int32.toInt_inj.mp ((vr_dQ D).trans (z.trans rfl)))
            have y5 : ¬ f.i = 225 := fun z => h5 (Int32.toInt_inj.mp ((vr_dQ D).trans (z.trans rfl)))
            exact vq_isAtomic_52 f hW D   false (decide_eq_false (by omega)).symm hQ
          · refine jv_Wp.lift (fun _ Kz => jv_Ev.steps jv_i266 3 (pc' := 52) (l' := [(1, .int (1 : Int32)), (0, .ref 196)]) (st' := []) rfl Kz) ?_
            refine jv_Wp.loc (l := [(0, .ref 196), (1, .int (1 : Int32))]) ⟨List.forall_mem_cons.mpr ⟨.tail _ (.head _), List.forall_mem_cons.mpr ⟨.head _, fun _ h => absurd h List.not_mem_nil⟩⟩, by show List.Nodup [1, 0]; decide⟩ ?_
            have y1 : ¬ f.i = 1 := fun z => h1 (Int32.toInt_inj.mp ((vr_dQ D).trans (z.trans rfl)))
            have y2 : ¬ f.i = 65 := fun z => h2 (Int32.toInt_inj.mp ((vr_dQ D).trans (z.trans rfl)))
            have y3 : ¬ f.i = 81 := fun z => h3 (Int32.toInt_inj.mp ((vr_dQ D).trans (z.trans rfl)))
            have y4 : ¬ f.i = 161 := fun z => h4 (Int32.toInt_inj.mp ((vr_dQ D).trans (z.trans rfl)))
            have y5 : f.i = 225 := (vr_dQ D).symm.trans (congrArg Int32.toInt (Classical.not_not.mp h5))
            exact vq_isAtomic_52 f hW D   true (decide_eq_true (by omega)).symm hQ
theorem vq_isAtomic {K : Nat → Option (Nat × Nat)} {I : Nat → Nat → Int32} {L : Nat → Nat → Int64} {R : Nat → Nat → Value} (f : vf_F) (hW : jv_rW K R) (D : vr_dec I f)  {n sl : Nat} : jv_Ms 266 [.ref 196] (jv_H K I L R) n sl (some (.int (vr_b (decide (vf_pT f)))), jv_H K I L R, n, sl) := by
  have h := vq_isAtomic_0 (n := n) (sl := sl) (I := I) (L := L) f hW D  (Q := fun X => X = (some (.int (vr_b (decide (vf_pT f)))), jv_H K I L R, n, sl)) rfl
  obtain ⟨X, h, e⟩ := h
  subst e
  exact h