/-! part b29: comparisons of two numbers (gen/tb29.py) -/
theorem vc_cmpfin {L La Lb Lc : Nat → Nat → Int64} {x u d y c o : Nat} {vn : vb_S} (hxu : x ≠ u) (hdy : d ≠ y) (hxd : x ≠ d) (hxy : x ≠ y) (hud : u ≠ d) (x166 : x ≠ 166) (d166 : d ≠ 166) (hu : (u = 166 ∧ y = 166) ∨ (u ≠ 166 ∧ y ≠ 166 ∧ u ≠ y)) (hn : u = 166 → vl_S L 166 = vn)
    (Ea : ∀ p, vb_refine c (vl_S L x) (vl_S L u) = some p → La = vl_set (vl_set L x p.1) u p.2) (Ga : ∀ q i, ¬ (q = x ∧ i < 6) → ¬ (q = u ∧ i < 6) → La q i = L q i)
    (Fb : ∀ q, q ≠ 166 → ∀ f, Lb q f = La q f) (Sb : vl_S Lb 166 = vn)
    (Ec : ∀ p, vb_refine o (vl_S Lb d) (vl_S Lb y) = some p → Lc = vl_set (vl_set Lb d p.1) y p.2) (Gc : ∀ q i, ¬ (q = d ∧ i < 6) → ¬ (q = y ∧ i < 6) → Lc q i = Lb q i) :
    (vl_S Lb d = vl_S L d ∧ vl_S Lb y = vl_S L y) ∧ (∀ p, vb_refine c (vl_S L x) (vl_S L u) = some p → vl_S Lc x = p.1 ∧ (u ≠ 166 → vl_S Lc u = p.2)) ∧ (∀ p, vb_refine o (vl_S L d) (vl_S L y) = some p → vl_S Lc d = p.1 ∧ (y ≠ 166 → vl_S Lc y = p.2)) ∧ (∀ q, q ≠ 166 → ∀ i, 6 ≤ i → Lc q i = L q i) ∧ ∀ q, q ≠ 166 → q ≠ x → q ≠ u → q ≠ d → q ≠ y → ∀ i, Lc q i = L q i := by
  have a1 : ∀ q, q ≠ x → q ≠ u → ∀ f, La q f = L q f := fun q h1 h2 f => Ga q f (fun z => h1 z.1) (fun z => h2 z.1)
  have c1 : ∀ q, q ≠ d → q ≠ y → ∀ f, Lc q f = Lb q f := fun q h1 h2 f => Gc q f (fun z => h1 z.1) (fun z => h2 z.1)
  have bd : vl_S Lb d = vl_S L d := vl_S_ext (fun f => (Fb d d166 f).trans (a1 d hxd.symm hud.symm f))
  have bY : vl_S Lb y = vl_S L y := by
    rcases hu with h | h
    · rw [h.2, Sb, hn h.1]
    · exact vl_S_ext (fun f => (Fb y h.2.1 f).trans (a1 y hxy.symm (fun z => h.2.2 z.symm) f))
  refine ⟨⟨bd, bY⟩, fun p hp => ⟨?_, fun hu6 => ?_⟩, fun p hp => ?_, fun q hq i hi => ?_, fun q h6 h1 h2 h3 h4 i => ?_⟩
  · have e : vl_S Lc x = vl_S La x := vl_S_ext (fun f => (c1 x hxd hxy f).trans (Fb x x166 f))
    rw [e, Ea p hp, vl_set_o hxu, vl_set_S]
  · have uy : u ≠ y := by rcases hu with h | h <;> omega
    have e : vl_S Lc u = vl_S La u := vl_S_ext (fun f => (c1 u hud uy f).trans (Fb u hu6 f))
    rw [e, Ea p hp, vl_set_S]
  · rw [← bd, ← bY] at hp
    rw [Ec p hp]
    exact ⟨by rw [vl_set_o hdy, vl_set_S], fun _ => vl_set_S _ _ _⟩
  · exact (Gc q i (fun z => by omega) (fun z => by omega)).trans ((Fb q hq i).trans (Ga q i (fun z => by omega) (fun z => by omega)))
  · exact (c1 q h3 h4 i).trans ((Fb q h6 i).trans (a1 q h1 h2 i))
theorem vc_ok1 {I : Nat → Nat → Int32} {L : Nat → Nat → Int64} {o : Nat} (ok : vc_ok I L o) (h : I o 6 = 1) : I o 7 = 0 ∧ L o 8 = 0 := by
  unfold vc_ok vc_W at ok
  rw [h] at ok
  rcases ok with z | z | z | z | z
  · exact absurd z.1 (by decide)
  · exact ⟨z.2.1, z.2.2.1⟩
  · exact z.1.elim (fun z => absurd z (by decide)) (fun z => absurd z (by decide))
  · exact z.1.elim (fun z => absurd z (by decide)) (fun z => absurd z (by decide))
  · exact absurd z.1 (by decide)
theorem vx_cmp_le (n : Nat) : vx_cmp n ≤ 11 := by
  unfold vx_cmp
  split <;> decide
theorem vw_num (w : Int64) : (w.toUInt64 >>> ((32 : Int32).toInt64.toUInt64 &&& Int64.toUInt64 63)).toInt64.toBitVec = BitVec.ofInt 64 ((vc_F w).i % 4294967296) := by
  rw [vw_imm, vl_ushr w (s := 32) (k := 32) rfl]
  refine BitVec.eq_of_toNat_eq ?_
  have f : vc_N w = w.toBitVec.toNat := rfl
  have la := w.toBitVec.isLt
  rw [BitVec.toNat_ushiftRight, BitVec.toNat_ofInt, Nat.shiftRight_eq_div_pow, f]
  omega
theorem jv_i42 : jv_I 42 12 none 3 96 jv_c42 := ⟨rfl, rfl, rfl, rfl, rfl⟩
theorem vc_ctail {K : Nat → Option (Nat × Nat)} {I : Nat → Nat → Int32} {L : Nat → Nat → Int64} {R : Nat → Nat → Value} (w num : Int64) (wd : Bool) (c : Nat) {x u d y : Nat} (hC : vc_C K R) (hc : c ≤ 11) (hst : K (1000000 + 1) = some (110, 12)) (hv : ∀ j, j < 12 → I (1000000 + 1) j = vl_I (vb_opp j)) (hx : K x = some (8, 10)) (hu8 : K u = some (8, 10)) (hd : K d = some (8, 10)) (hy : K y = some (8, 10)) (hxu : x ≠ u) (hdy : d ≠ y) (hxd : x ≠ d) (hxy : x ≠ y) (hud : u ≠ d) (x166 : x ≠ 166) (d166 : d ≠ 166) (hu : (u = 166 ∧ y = 166) ∨ (u ≠ 166 ∧ y ≠ 166 ∧ u ≠ y)) (hn : u = 166 → vl_S L 166 = vb_just num.toBitVec) {n sl : Nat} {Q : jv_R → Prop} (hQ : Q = fun X => ∃ I1 L1, X = (none, jv_H K I1 L1 R, n, sl) ∧ I1 10 9 = (if (vb_refine (vb_opp c) (vl_S L d) (vl_S L y)).isSome = true then I 10 9 else -1) ∧ I1 10 10 = (if (vb_refine c (vl_S L x) (vl_S L u)).isSome = true then I 10 10 else -1) ∧ (∀ p, (vb_refine c (vl_S L x) (vl_S L u)) = some p → vl_S L1 x = p.1 ∧ (u ≠ 166 → vl_S L1 u = p.2)) ∧ (∀ p, (vb_refine (vb_opp c) (vl_S L d) (vl_S L y)) = some p → vl_S L1 d = p.1 ∧ (y ≠ 166 → vl_S L1 y = p.2)) ∧ (∀ q, q ≠ 166 → ∀ i, 6 ≤ i → L1 q i = L q i) ∧ (∀ q, q ≠ 166 → q ≠ x → q ≠ u → q ≠ d → q ≠ y → ∀ i, L1 q i = L q i) ∧ (∀ q, q ≠ 166 → q ≠ 10 → ∀ f, I1 q f = I q f) ∧ ∀ f, f ≠ 9 → f ≠ 10 → I1 10 f = I 10 f) : jv_Wp 42 117 [(0, .ref 10), (1, .long w), (3, .int (vr_b wd)), (4, .ref d), (5, .ref y), (7, .long num), (9, .int (vl_I c)), (10, .ref x), (11, .ref u)] [] (jv_H K I L R) n sl Q := by
  refine jv_Wp.lift (fun _ Kz => jv_Ev.steps jv_i42 3 (pc' := 123) (l' := [(0, .ref 10), (1, .long w), (3, .int (vr_b wd)), (4, .ref d), (5, .ref y), (7, .long num), (9, .int (vl_I c)), (10, .ref x), (11, .ref u)]) (st' := [.ref u, .ref x, .int (vl_I c)]) rfl Kz) ?_
  obtain ⟨L1, H1, E1, G1⟩ := vl_refine (I := I) (L := L) (R := R) (n := n) (sl := sl) (Or.inr hx) (Or.inr hu8) hxu c hc
  refine jv_Wp.lift (fun _ Kz => jv_Ev.c jv_i42 (pc' := 126) (S' := [.int (vr_b (vb_refine c (vl_S L x) (vl_S L u)).isSome)]) (G1 := (jv_H K I L1 R)) jv_i177 [.int (vl_I c), .ref x, .ref u] rfl rfl rfl rfl rfl rfl H1 rfl rfl Kz) ?_
  refine jv_Wp.cnd jv_i42 (pt := 134) (pe := 129) (p := (¬ (vr_b (vb_refine c (vl_S L x) (vl_S L u)).isSome) = 0)) (q := (¬ (vr_b (vb_refine c (vl_S L x) (vl_S L u)).isSome) = 0)) rfl jv_bi_ne rfl rfl Iff.rfl (fun h1 => ?_) (fun h1 => ?_)
  · refine jv_Wp.lift (fun _ Kz => jv_Ev.steps jv_i42 1 (pc' := 135) (l' := [(0, .ref 10), (1, .long w), (3, .int (vr_b wd)), (4, .ref d), (5, .ref y), (7, .long num), (9, .int (vl_I c)), (10, .ref x), (11, .ref u)]) (st' := [.ref 10]) rfl Kz) ?_
    refine jv_Wp.lift (fun _ Kz => jv_Ev.m jv_i42 (pc' := 138) (st' := [.ref 166]) (G' := (jv_H K I L1 R)) rfl rfl (jv_m_getR hC.k rfl rfl hC.rconst) Kz) ?_
    refine jv_Wp.lift (fun _ Kz => jv_Ev.steps jv_i42 1 (pc' := 140) (l' := [(0, .ref 10), (1, .long w), (3, .int (vr_b wd)), (4, .ref d), (5, .ref y), (7, .long num), (9, .int (vl_I c)), (10, .ref x), (11, .ref u)]) (st' := [.long num, .ref 166]) rfl Kz) ?_
    obtain ⟨I2, L2, H2, T2, O2, F2⟩ := vc_just (I := I) (L := L1) (R := R) (n := n) (sl := sl) num hC.k166
    refine jv_Wp.lift (fun _ Kz => jv_Ev.c jv_i42 (pc' := 143) (S' := []) (G1 := (jv_H K I2 L2 R)) jv_i143 [.ref 166, .long num] rfl rfl rfl rfl (jv_cal rfl (jv_H_at hC.k166) rfl rfl) rfl H2 rfl rfl Kz) ?_
    refine jv_Wp.lift (fun _ Kz => jv_Ev.steps jv_i42 1 (pc' := 145) (l' := [(0, .ref 10), (1, .long w), (3, .int (vr_b wd)), (4, .ref d), (5, .ref y), (7, .long num), (9, .int (vl_I c)), (10, .ref x), (11, .ref u)]) (st' := [.int (vl_I c)]) rfl Kz) ?_
    obtain ⟨I3, L3, H3, ei3, el3⟩ := vl_opposite (I := I2) (L := L2) (R := R) (n := n) (sl := sl) c (by omega) hst (fun j hj => ((F2 (1000000 + 1) (by decide)).1 j).trans (hv j hj))
    rw [ei3, el3] at H3
    refine jv_Wp.lift (fun _ Kz => jv_Ev.c jv_i42 (pc' := 148) (S' := [.int (vl_I (vb_opp c))]) jv_i176 [.int (vl_I c)] rfl rfl rfl rfl rfl rfl H3 rfl rfl Kz) ?_
    refine jv_Wp.lift (fun _ Kz => jv_Ev.steps jv_i42 2 (pc' := 152) (l' := [(0, .ref 10), (1, .long w), (3, .int (vr_b wd)), (4, .ref d), (5, .ref y), (7, .long num), (9, .int (vl_I c)), (10, .ref x), (11, .ref u)]) (st' := [.ref y, .ref d, .int (vl_I (vb_opp c))]) rfl Kz) ?_
    obtain ⟨L4, H4, E4, G4⟩ := vl_refine (I := I2) (L := L2) (R := R) (n := n) (sl := sl) (Or.inr hd) (Or.inr hy) hdy (vb_opp c) (vb_opp_le hc)
    refine jv_Wp.lift (fun _ Kz => jv_Ev.c jv_i42 (pc' := 155) (S' := [.int (vr_b (vb_refine (vb_opp c) (vl_S L2 d) (vl_S L2 y)).isSome)]) (G1 := (jv_H K I2 L4 R)) jv_i177 [.int (vl_I (vb_opp c)), .ref d, .ref y] rfl rfl rfl rfl rfl rfl H4 rfl rfl Kz) ?_
    refine jv_Wp.cnd jv_i42 (pt := 163) (pe := 158) (p := (¬ (vr_b (vb_refine (vb_opp c) (vl_S L2 d) (vl_S L2 y)).isSome) = 0)) (q := (¬ (vr_b (vb_refine (vb_opp c) (vl_S L2 d) (vl_S L2 y)).isSome) = 0)) rfl jv_bi_ne rfl rfl Iff.rfl (fun h2 => ?_) (fun h2 => ?_)
    · refine jv_Wp.of (jv_Ev.ret jv_i42 rfl rfl) ?_
      rw [hQ]
      obtain ⟨⟨b1, b2⟩, b3, b4, b5, b6⟩ := vc_cmpfin (vn := vb_just num.toBitVec) hxu hdy hxd hxy hud x166 d166 hu hn E1 G1 (fun q hq => (F2 q hq).2) ((vc_valv (Or.inl ((vc_is1 O2).mp (by rw [T2]; rfl)))).symm.trans (by rw [T2]; rfl)) E4 G4
      have s2 : (vb_refine c (vl_S L x) (vl_S L u)).isSome = true := vr_b_t h1
      have s1 : (vb_refine (vb_opp c) (vl_S L d) (vl_S L y)).isSome = true := by rw [← b1, ← b2]; exact vr_b_t h2
      refine ⟨_, _, rfl, ?_, ?_, b3, b4, b5, b6, ?_, ?_⟩
      · rw [s1]; exact ((F2 10 (by decide)).1 9)
      · rw [s2]; exact ((F2 10 (by decide)).1 10)
      · intro q h6 h10 f; exact (((F2 q h6).1 f))
      · intro f h9 h10; exact (((F2 10 (by decide)).1 f))
    · refine jv_Wp.lift (fun _ Kz => jv_Ev.steps jv_i42 2 (pc' := 160) (l' := [(0, .ref 10), (1, .long w), (3, .int (vr_b wd)), (4, .ref d), (5, .ref y), (7, .long num), (9, .int (vl_I c)), (10, .ref x), (11, .ref u)]) (st' := [.int (-1 : Int32), .ref 10]) rfl Kz) ?_
      refine jv_Wp.lift (fun _ Kz => jv_Ev.m jv_i42 (pc' := 163) (st' := []) (G' := (jv_H K (jv_u I2 10 9 (-1 : Int32)) L4 R)) rfl rfl (jv_m_putI hC.k rfl rfl rfl rfl) Kz) ?_
      refine jv_Wp.of (jv_Ev.ret jv_i42 rfl rfl) ?_
      rw [hQ]
      obtain ⟨⟨b1, b2⟩, b3, b4, b5, b6⟩ := vc_cmpfin (vn := vb_just num.toBitVec) hxu hdy hxd hxy hud x166 d166 hu hn E1 G1 (fun q hq => (F2 q hq).2) ((vc_valv (Or.inl ((vc_is1 O2).mp (by rw [T2]; rfl)))).symm.trans (by rw [T2]; rfl)) E4 G4
      have s2 : (vb_refine c (vl_S L x) (vl_S L u)).isSome = true := vr_b_t h1
      have s1 : (vb_refine (vb_opp c) (vl_S L d) (vl_S L y)).isSome = false := by rw [← b1, ← b2]; exact vr_b_f (Classical.not_not.mp h2)
      refine ⟨_, _, rfl, ?_, ?_, b3, b4, b5, b6, ?_, ?_⟩
      · rw [s1]; exact jv_u_self _ _ _ _
      · rw [s2]; exact (jv_u_j _ _ _ _ (by decide)).trans ((F2 10 (by decide)).1 10)
      · intro q h6 h10 f; exact (jv_u_o _ _ _ _ h10).trans (((F2 q h6).1 f))
      · intro f h9 h10; exact (jv_u_j _ _ _ _ h9).trans (((F2 10 (by decide)).1 f))
  · refine jv_Wp.lift (fun _ Kz => jv_Ev.steps jv_i42 2 (pc' := 131) (l' := [(0, .ref 10), (1, .long w), (3, .int (vr_b wd)), (4, .ref d), (5, .ref y), (7, .long num), (9, .int (vl_I c)), (10, .ref x), (11, .ref u)]) (st' := [.int (-1 : Int32), .ref 10]) rfl Kz) ?_
    refine jv_Wp.lift (fun _ Kz => jv_Ev.m jv_i42 (pc' := 134) (st' := []) (G' := (jv_H K (jv_u I 10 10 (-1 : Int32)) L1 R)) rfl rfl (jv_m_putI hC.k rfl rfl rfl rfl) Kz) ?_
    refine jv_Wp.lift (fun _ Kz => jv_Ev.steps jv_i42 1 (pc' := 135) (l' := [(0, .ref 10), (1, .long w), (3, .int (vr_b wd)), (4, .ref d), (5, .ref y), (7, .long num), (9, .int (vl_I c)), (10, .ref x), (11, .ref u)]) (st' := [.ref 10]) rfl Kz) ?_
    refine jv_Wp.lift (fun _ Kz => jv_Ev.m jv_i42 (pc' := 138) (st' := [.ref 166]) (G' := (jv_H K (jv_u I 10 10 (-1 : Int32)) L1 R)) rfl rfl (jv_m_getR hC.k rfl rfl hC.rconst) Kz) ?_
    refine jv_Wp.lift (fun _ Kz => jv_Ev.steps jv_i42 1 (pc' := 140) (l' := [(0, .ref 10), (1, .long w), (3, .int (vr_b wd)), (4, .ref d), (5, .ref y), (7, .long num), (9, .int (vl_I c)), (10, .ref x), (11, .ref u)]) (st' := [.long num, .ref 166]) rfl Kz) ?_
    obtain ⟨I5, L5, H5, T5, O5, F5⟩ := vc_just (I := (jv_u I 10 10 (-1 : Int32))) (L := L1) (R := R) (n := n) (sl := sl) num hC.k166
    refine jv_Wp.lift (fun _ Kz => jv_Ev.c jv_i42 (pc' := 143) (S' := []) (G1 := (jv_H K I5 L5 R)) jv_i143 [.ref 166, .long num] rfl rfl rfl rfl (jv_cal rfl (jv_H_at hC.k166) rfl rfl) rfl H5 rfl rfl Kz) ?_
    refine jv_Wp.lift (fun _ Kz => jv_Ev.steps jv_i42 1 (pc' := 145) (l' := [(0, .ref 10), (1, .long w), (3, .int (vr_b wd)), (4, .ref d), (5, .ref y), (7, .long num), (9, .int (vl_I c)), (10, .ref x), (11, .ref u)]) (st' := [.int (vl_I c)]) rfl Kz) ?_
    obtain ⟨I6, L6, H6, ei6, el6⟩ := vl_opposite (I := I5) (L := L5) (R := R) (n := n) (sl := sl) c (by omega) hst (fun j hj => ((F5 (1000000 + 1) (by decide)).1 j).trans ((jv_u_o _ _ _ _ (by decide)).trans (hv j hj)))
    rw [ei6, el6] at H6
    refine jv_Wp.lift (fun _ Kz => jv_Ev.c jv_i42 (pc' := 148) (S' := [.int (vl_I (vb_opp c))]) jv_i176 [.int (vl_I c)] rfl rfl rfl rfl rfl rfl H6 rfl rfl Kz) ?_
    refine jv_Wp.lift (fun _ Kz => jv_Ev.steps jv_i42 2 (pc' := 152) (l' := [(0, .ref 10), (1, .long w), (3, .int (vr_b wd)), (4, .ref d), (5, .ref y), (7, .long num), (9, .int (vl_I c)), (10, .ref x), (11, .ref u)]) (st' := [.ref y, .ref d, .int (vl_I (vb_opp c))]) rfl Kz) ?_
    obtain ⟨L7, H7, E7, G7⟩ := vl_refine (I := I5) (L := L5) (R := R) (n := n) (sl := sl) (Or.inr hd) (Or.inr hy) hdy (vb_opp c) (vb_opp_le hc)
    refine jv_Wp.lift (fun _ Kz => jv_Ev.c jv_i42 (pc' := 155) (S' := [.int (vr_b (vb_refine (vb_opp c) (vl_S L5 d) (vl_S L5 y)).isSome)]) (G1 := (jv_H K I5 L7 R)) jv_i177 [.int (vl_I (vb_opp c)), .ref d, .ref y] rfl rfl rfl rfl rfl rfl H7 rfl rfl Kz) ?_
    refine jv_Wp.cnd jv_i42 (pt := 163) (pe := 158) (p := (¬ (vr_b (vb_refine (vb_opp c) (vl_S L5 d) (vl_S L5 y)).isSome) = 0)) (q := (¬ (vr_b (vb_refine (vb_opp c) (vl_S L5 d) (vl_S L5 y)).isSome) = 0)) rfl jv_bi_ne rfl rfl Iff.rfl (fun h3 => ?_) (fun h3 => ?_)
    · refine jv_Wp.of (jv_Ev.ret jv_i42 rfl rfl) ?_
      rw [hQ]
      obtain ⟨⟨b1, b2⟩, b3, b4, b5, b6⟩ := vc_cmpfin (vn := vb_just num.toBitVec) hxu hdy hxd hxy hud x166 d166 hu hn E1 G1 (fun q hq => (F5 q hq).2) ((vc_valv (Or.inl ((vc_is1 O5).mp (by rw [T5]; rfl)))).symm.trans (by rw [T5]; rfl)) E7 G7
      have s2 : (vb_refine c (vl_S L x) (vl_S L u)).isSome = false := vr_b_f (Classical.not_not.mp h1)
      have s1 : (vb_refine (vb_opp c) (vl_S L d) (vl_S L y)).isSome = true := by rw [← b1, ← b2]; exact vr_b_t h3
      refine ⟨_, _, rfl, ?_, ?_, b3, b4, b5, b6, ?_, ?_⟩
      · rw [s1]; exact ((F5 10 (by decide)).1 9).trans (jv_u_j _ _ _ _ (by decide))
      · rw [s2]; exact (((F5 10 (by decide)).1 10).trans (jv_u_self _ _ _ _))
      · intro q h6 h10 f; exact (((F5 q h6).1 f).trans (jv_u_o _ _ _ _ h10))
      · intro f h9 h10; exact (((F5 10 (by decide)).1 f).trans (jv_u_j _ _ _ _ h10))
    · refine jv_Wp.lift (fun _ Kz => jv_Ev.steps jv_i42 2 (pc' := 160) (l' := [(0, .ref 10), (1, .long w), (3, .int (vr_b wd)), (4, .ref d), (5, .ref y), (7, .long num), (9, .int (vl_I c)), (10, .ref x), (11, .ref u)]) (st' := [.int (-1 : Int32), .ref 10]) rfl Kz) ?_
      refine jv_Wp.lift (fun _ Kz => jv_Ev.m jv_i42 (pc' := 163) (st' := []) (G' := (jv_H K (jv_u I5 10 9 (-1 : Int32)) L7 R)) rfl rfl (jv_m_putI hC.k rfl rfl rfl rfl) Kz) ?_
      refine jv_Wp.of (jv_Ev.ret jv_i42 rfl rfl) ?_
      rw [hQ]
      obtain ⟨⟨b1, b2⟩, b3, b4, b5, b6⟩ := vc_cmpfin (vn := vb_just num.toBitVec) hxu hdy hxd hxy hud x166 d166 hu hn E1 G1 (fun q hq => (F5 q hq).2) ((vc_valv (Or.inl ((vc_is1 O5).mp (by rw [T5]; rfl)))).symm.trans (by rw [T5]; rfl)) E7 G7
      have s2 : (vb_refine c (vl_S L x) (vl_S L u)).isSome = false := vr_b_f (Classical.not_not.mp h1)
      have s1 : (vb_refine (vb_opp c) (vl_S L d) (vl_S L y)).isSome = false := by rw [← b1, ← b2]; exact vr_b_f (Classical.not_not.mp h3)
      refine ⟨_, _, rfl, ?_, ?_, b3, b4, b5, b6, ?_, ?_⟩
      · rw [s1]; exact jv_u_self _ _ _ _
      · rw [s2]; exact (jv_u_j _ _ _ _ (by decide)).trans (((F5 10 (by decide)).1 10).trans (jv_u_self _ _ _ _))
      · intro q h6 h10 f; exact (jv_u_o _ _ _ _ h10).trans (((F5 q h6).1 f).trans (jv_u_o _ _ _ _ h10))
      · intro f h9 h10; exact (jv_u_j _ _ _ _ h9).trans (((F5 10 (by decide)).1 f).trans (jv_u_j _ _ _ _ h10))
theorem vc_cmpR {w : Int64} {I I1 I9 : Nat → Nat → Int32} {L L1 L9 : Nat → Nat → Int64} {P1 P2 : Option (vb_S × vb_S)} (hb : (vc_F w).bit3 = true) (hd75 : (vc_F w).d < 75) (hs75 : (vc_F w).s < 75) (ds : (vc_F w).d ≠ (vc_F w).s) (G : ∀ p, p ≠ 166 → (∀ f, I1 p f = I p f) ∧ ∀ f, L1 p f = L p f) (i1 : I (12 + 2 + (vc_F w).d) 6 = 1) (i2 : I (12 + 2 + (vc_F w).s) 6 = 1) (oa : vc_okA I L 12) (oj : vc_okA I L 89) (e89 : vc_A I L 89 = vc_A I L 12) (c3 : ∀ p, P2 = some p → vl_S L9 (89 + 2 + (vc_F w).d) = p.1 ∧ ((89 + 2 + (vc_F w).s) ≠ 166 → vl_S L9 (89 + 2 + (vc_F w).s) = p.2)) (c4 : ∀ p, P1 = some p → vl_S L9 (12 + 2 + (vc_F w).d) = p.1 ∧ ((12 + 2 + (vc_F w).s) ≠ 166 → vl_S L9 (12 + 2 + (vc_F w).s) = p.2)) (c5 : ∀ q, q ≠ 166 → ∀ i, 6 ≤ i → L9 q i = L1 q i) (c6 : (∀ q, q ≠ 166 → q ≠ (89 + 2 + (vc_F w).d) → q ≠ (89 + 2 + (vc_F w).s) → q ≠ (12 + 2 + (vc_F w).d) → q ≠ (12 + 2 + (vc_F w).s) → ∀ i, L9 q i = L1 q i)) (c7 : ∀ q, q ≠ 166 → q ≠ 10 → ∀ f, I9 q f = I1 q f) :
    ((∀ p, P2 = some p → vc_A I9 L9 89 = vx_refd (vc_F w) (vc_A I L 12) p) ∧ ∀ p, P1 = some p → vc_A I9 L9 12 = vx_refd (vc_F w) (vc_A I L 12) p) ∧ (vc_okA I9 L9 12 ∧ vc_okA I9 L9 89) ∧ vc_fr (fun p => vc_in 12 p ∨ vc_in 89 p ∨ p = 166 ∨ p = 10) I L I9 L9 := by
  have J : ∀ q, q ≠ 166 ∧ q ≠ 10 → ∀ f, I9 q f = I q f := fun q h f => (c7 q h.1 h.2 f).trans ((G q h.1).1 f)
  have M8 : ∀ q, q ≠ 166 → L9 q 8 = L q 8 := fun q h => (c5 q h 8 (by decide)).trans ((G q h).2 8)
  have t1 : ∀ (a o : Nat) (v v' : vb_S), I o 6 = 1 → vc_ok I L o → vc_D (I o 6) (I o 7) (L o 8) (I o 9) v = vt_num v := fun a o v v' h ok => by
    have t := vc_ok1 ok h
    rw [h, t.1]; rfl
  have r1 : I (12 + 2 + (vc_F w).d) 6 = 1 := i1
  have q3 : vc_T I L (89 + 2 + (vc_F w).d) = vc_T I L (12 + 2 + (vc_F w).d) := by rw [← vc_A1 (a := 89) hd75, ← vc_A1 (a := 12) hd75, e89]
  have r3 : I (89 + 2 + (vc_F w).d) 6 = 1 := (vc_is1 (oj _ hd75)).mp (by rw [q3]; exact (vc_is1 (oa _ hd75)).mpr i1)
  have r2 : I (12 + 2 + (vc_F w).s) 6 = 1 := i2
  have q4 : vc_T I L (89 + 2 + (vc_F w).s) = vc_T I L (12 + 2 + (vc_F w).s) := by rw [← vc_A1 (a := 89) hs75, ← vc_A1 (a := 12) hs75, e89]
  have r4 : I (89 + 2 + (vc_F w).s) 6 = 1 := (vc_is1 (oj _ hs75)).mp (by rw [q4]; exact (vc_is1 (oa _ hs75)).mpr i2)
  refine ⟨⟨?_, ?_⟩, ⟨fun n hn => ?_, fun n hn => ?_⟩, fun p hp => ⟨fun f => J p (by unfold vc_in at hp; omega) f, fun f => ?_⟩⟩
  · intro p hp
    obtain ⟨v1, v2⟩ := c3 p hp
    have tx : vc_T I9 L9 (89 + 2 + (vc_F w).d) = vt_num p.1 := by
      unfold vc_T; rw [J (89 + 2 + (vc_F w).d) (by omega) 6, J (89 + 2 + (vc_F w).d) (by omega) 7, J (89 + 2 + (vc_F w).d) (by omega) 9, M8 (89 + 2 + (vc_F w).d) (by omega), v1]; exact t1 89 (89 + 2 + (vc_F w).d) _ vb_any (by exact r3) (by exact oj _ hd75)
    have tu : vc_T I9 L9 (89 + 2 + (vc_F w).s) = vt_num p.2 := by
      unfold vc_T; rw [J (89 + 2 + (vc_F w).s) (by omega) 6, J (89 + 2 + (vc_F w).s) (by omega) 7, J (89 + 2 + (vc_F w).s) (by omega) 9, M8 (89 + 2 + (vc_F w).s) (by omega), v2 (by omega)]; exact t1 89 (89 + 2 + (vc_F w).s) _ vb_any (by exact r4) (by exact oj _ hs75)
    have eo : ∀ n, n < 75 → n ≠ (vc_F w).d → n ≠ (vc_F w).s → vc_T I9 L9 (89 + 2 + n) = vc_T I L (89 + 2 + n) := fun n hn h1 h2 => by
      unfold vc_T; rw [J _ (by omega) 6, J _ (by omega) 7, J _ (by omega) 9, M8 _ (by omega), vl_S_ext (fun f => (c6 (89 + 2 + n) (by omega) (by omega) (by omega) (by omega) (by omega) f).trans ((G (89 + 2 + n) (by omega)).2 f))]
    have ek : L9 89 1 = L 89 1 := (c6 89 (by omega) (by omega) (by omega) (by omega) (by omega) 1).trans ((G 89 (by omega)).2 1)
    rw [← e89]
    unfold vx_refd; rw [if_pos hb]
    refine Prod.ext (funext (fun n => ?_)) (congrArg Int64.toInt ek)
    show (if n < 75 then vc_T I9 L9 (89 + 2 + n) else vt_none 0) = if n = (vc_F w).s then vt_num p.2 else if n = (vc_F w).d then vt_num p.1 else (vc_A I L 89).1 n
    by_cases e2 : n = (vc_F w).s
    · rw [if_pos e2, if_pos (by omega), e2]; exact tu
    rw [if_neg e2]
    by_cases e1 : n = (vc_F w).d
    · rw [if_pos e1, if_pos (by omega), e1]; exact tx
    rw [if_neg e1]
    by_cases hn : n < 75
    · rw [if_pos hn, eo n hn e1 e2]; exact (if_pos hn).symm
    · rw [if_neg hn]; exact (if_neg hn).symm
  · intro p hp
    obtain ⟨v1, v2⟩ := c4 p hp
    have tx : vc_T I9 L9 (12 + 2 + (vc_F w).d) = vt_num p.1 := by
      unfold vc_T; rw [J (12 + 2 + (vc_F w).d) (by omega) 6, J (12 + 2 + (vc_F w).d) (by omega) 7, J (12 + 2 + (vc_F w).d) (by omega) 9, M8 (12 + 2 + (vc_F w).d) (by omega), v1]; exact t1 12 (12 + 2 + (vc_F w).d) _ vb_any (by exact r1) (by exact oa _ hd75)
    have tu : vc_T I9 L9 (12 + 2 + (vc_F w).s) = vt_num p.2 := by
      unfold vc_T; rw [J (12 + 2 + (vc_F w).s) (by omega) 6, J (12 + 2 + (vc_F w).s) (by omega) 7, J (12 + 2 + (vc_F w).s) (by omega) 9, M8 (12 + 2 + (vc_F w).s) (by omega), v2 (by omega)]; exact t1 12 (12 + 2 + (vc_F w).s) _ vb_any (by exact r2) (by exact oa _ hs75)
    have eo : ∀ n, n < 75 → n ≠ (vc_F w).d → n ≠ (vc_F w).s → vc_T I9 L9 (12 + 2 + n) = vc_T I L (12 + 2 + n) := fun n hn h1 h2 => by
      unfold vc_T; rw [J _ (by omega) 6, J _ (by omega) 7, J _ (by omega) 9, M8 _ (by omega), vl_S_ext (fun f => (c6 (12 + 2 + n) (by omega) (by omega) (by omega) (by omega) (by omega) f).trans ((G (12 + 2 + n) (by omega)).2 f))]
    have ek : L9 12 1 = L 12 1 := (c6 12 (by omega) (by omega) (by omega) (by omega) (by omega) 1).trans ((G 12 (by omega)).2 1)
    unfold vx_refd; rw [if_pos hb]
    refine Prod.ext (funext (fun n => ?_)) (congrArg Int64.toInt ek)
    show (if n < 75 then vc_T I9 L9 (12 + 2 + n) else vt_none 0) = if n = (vc_F w).s then vt_num p.2 else if n = (vc_F w).d then vt_num p.1 else (vc_A I L 12).1 n
    by_cases e2 : n = (vc_F w).s
    · rw [if_pos e2, if_pos (by omega), e2]; exact tu
    rw [if_neg e2]
    by_cases e1 : n = (vc_F w).d
    · rw [if_pos e1, if_pos (by omega), e1]; exact tx
    rw [if_neg e1]
    by_cases hn : n < 75
    · rw [if_pos hn, eo n hn e1 e2]; exact (if_pos hn).symm
    · rw [if_neg hn]; exact (if_neg hn).symm
  · unfold vc_ok; rw [J _ (by omega) 6, J _ (by omega) 7, J _ (by omega) 9, M8 _ (by omega)]; exact oa n hn
  · unfold vc_ok; rw [J _ (by omega) 6, J _ (by omega) 7, J _ (by omega) 9, M8 _ (by omega)]; exact oj n hn
  · refine (c6 p ?_ ?_ ?_ ?_ ?_ f).trans ((G p ?_).2 f) <;> (unfold vc_in at hp; omega)
theorem vc_cmpI {w : Int64} {I I1 I9 : Nat → Nat → Int32} {L L1 L9 : Nat → Nat → Int64} {P1 P2 : Option (vb_S × vb_S)} (hb : (vc_F w).bit3 = false) (hd75 : (vc_F w).d < 75) (G : ∀ p, p ≠ 166 → (∀ f, I1 p f = I p f) ∧ ∀ f, L1 p f = L p f) (i1 : I (12 + 2 + (vc_F w).d) 6 = 1) (oa : vc_okA I L 12) (oj : vc_okA I L 89) (e89 : vc_A I L 89 = vc_A I L 12) (c3 : ∀ p, P2 = some p → vl_S L9 (89 + 2 + (vc_F w).d) = p.1 ∧ (166 ≠ 166 → vl_S L9 166 = p.2)) (c4 : ∀ p, P1 = some p → vl_S L9 (12 + 2 + (vc_F w).d) = p.1 ∧ (166 ≠ 166 → vl_S L9 166 = p.2)) (c5 : ∀ q, q ≠ 166 → ∀ i, 6 ≤ i → L9 q i = L1 q i) (c6 : (∀ q, q ≠ 166 → q ≠ (89 + 2 + (vc_F w).d) → q ≠ 166 → q ≠ (12 + 2 + (vc_F w).d) → q ≠ 166 → ∀ i, L9 q i = L1 q i)) (c7 : ∀ q, q ≠ 166 → q ≠ 10 → ∀ f, I9 q f = I1 q f) :
    ((∀ p, P2 = some p → vc_A I9 L9 89 = vx_refd (vc_F w) (vc_A I L 12) p) ∧ ∀ p, P1 = some p → vc_A I9 L9 12 = vx_refd (vc_F w) (vc_A I L 12) p) ∧ (vc_okA I9 L9 12 ∧ vc_okA I9 L9 89) ∧ vc_fr (fun p => vc_in 12 p ∨ vc_in 89 p ∨ p = 166 ∨ p = 10) I L I9 L9 := by
  have J : ∀ q, q ≠ 166 ∧ q ≠ 10 → ∀ f, I9 q f = I q f := fun q h f => (c7 q h.1 h.2 f).trans ((G q h.1).1 f)
  have M8 : ∀ q, q ≠ 166 → L9 q 8 = L q 8 := fun q h => (c5 q h 8 (by decide)).trans ((G q h).2 8)
  have t1 : ∀ (a o : Nat) (v v' : vb_S), I o 6 = 1 → vc_ok I L o → vc_D (I o 6) (I o 7) (L o 8) (I o 9) v = vt_num v := fun a o v v' h ok => by
    have t := vc_ok1 ok h
    rw [h, t.1]; rfl
  have r1 : I (12 + 2 + (vc_F w).d) 6 = 1 := i1
  have q3 : vc_T I L (89 + 2 + (vc_F w).d) = vc_T I L (12 + 2 + (vc_F w).d) := by rw [← vc_A1 (a := 89) hd75, ← vc_A1 (a := 12) hd75, e89]
  have r3 : I (89 + 2 + (vc_F w).d) 6 = 1 := (vc_is1 (oj _ hd75)).mp (by rw [q3]; exact (vc_is1 (oa _ hd75)).mpr i1)
  refine ⟨⟨?_, ?_⟩, ⟨fun n hn => ?_, fun n hn => ?_⟩, fun p hp => ⟨fun f => J p (by unfold vc_in at hp; omega) f, fun f => ?_⟩⟩
  · intro p hp
    obtain ⟨v1, v2⟩ := c3 p hp
    have tx : vc_T I9 L9 (89 + 2 + (vc_F w).d) = vt_num p.1 := by
      unfold vc_T; rw [J (89 + 2 + (vc_F w).d) (by omega) 6, J (89 + 2 + (vc_F w).d) (by omega) 7, J (89 + 2 + (vc_F w).d) (by omega) 9, M8 (89 + 2 + (vc_F w).d) (by omega), v1]; exact t1 89 (89 + 2 + (vc_F w).d) _ vb_any (by exact r3) (by exact oj _ hd75)
    have eo : ∀ n, n < 75 → n ≠ (vc_F w).d → vc_T I9 L9 (89 + 2 + n) = vc_T I L (89 + 2 + n) := fun n hn h1 => by
      unfold vc_T; rw [J _ (by omega) 6, J _ (by omega) 7, J _ (by omega) 9, M8 _ (by omega), vl_S_ext (fun f => (c6 (89 + 2 + n) (by omega) (by omega) (by omega) (by omega) (by omega) f).trans ((G (89 + 2 + n) (by omega)).2 f))]
    have ek : L9 89 1 = L 89 1 := (c6 89 (by omega) (by omega) (by omega) (by omega) (by omega) 1).trans ((G 89 (by omega)).2 1)
    rw [← e89]
    unfold vx_refd; rw [if_neg (by rw [hb]; decide)]
    refine Prod.ext (funext (fun n => ?_)) (congrArg Int64.toInt ek)
    show (if n < 75 then vc_T I9 L9 (89 + 2 + n) else vt_none 0) = if n = (vc_F w).d then vt_num p.1 else (vc_A I L 89).1 n
    by_cases e1 : n = (vc_F w).d
    · rw [if_pos e1, if_pos (by omega), e1]; exact tx
    rw [if_neg e1]
    by_cases hn : n < 75
    · rw [if_pos hn, eo n hn e1]; exact (if_pos hn).symm
    · rw [if_neg hn]; exact (if_neg hn).symm
  · intro p hp
    obtain ⟨v1, v2⟩ := c4 p hp
    have tx : vc_T I9 L9 (12 + 2 + (vc_F w).d) = vt_num p.1 := by
      unfold vc_T; rw [J (12 + 2 + (vc_F w).d) (by omega) 6, J (12 + 2 + (vc_F w).d) (by omega) 7, J (12 + 2 + (vc_F w).d) (by omega) 9, M8 (12 + 2 + (vc_F w).d) (by omega), v1]; exact t1 12 (12 + 2 + (vc_F w).d) _ vb_any (by exact r1) (by exact oa _ hd75)
    have eo : ∀ n, n < 75 → n ≠ (vc_F w).d → vc_T I9 L9 (12 + 2 + n) = vc_T I L (12 + 2 + n) := fun n hn h1 => by
      unfold vc_T; rw [J _ (by omega) 6, J _ (by omega) 7, J _ (by omega) 9, M8 _ (by omega), vl_S_ext (fun f => (c6 (12 + 2 + n) (by omega) (by omega) (by omega) (by omega) (by omega) f).trans ((G (12 + 2 + n) (by omega)).2 f))]
    have ek : L9 12 1 = L 12 1 := (c6 12 (by omega) (by omega) (by omega) (by omega) (by omega) 1).trans ((G 12 (by omega)).2 1)
    unfold vx_refd; rw [if_neg (by rw [hb]; decide)]
    refine Prod.ext (funext (fun n => ?_)) (congrArg Int64.toInt ek)
    show (if n < 75 then vc_T I9 L9 (12 + 2 + n) else vt_none 0) = if n = (vc_F w).d then vt_num p.1 else (vc_A I L 12).1 n
    by_cases e1 : n = (vc_F w).d
    · rw [if_pos e1, if_pos (by omega), e1]; exact tx
    rw [if_neg e1]
    by_cases hn : n < 75
    · rw [if_pos hn, eo n hn e1]; exact (if_pos hn).symm
    · rw [if_neg hn]; exact (if_neg hn).symm
  · unfold vc_ok; rw [J _ (by omega) 6, J _ (by omega) 7, J _ (by omega) 9, M8 _ (by omega)]; exact oa n hn
  · unfold vc_ok; rw [J _ (by omega) 6, J _ (by omega) 7, J _ (by omega) 9, M8 _ (by omega)]; exact oj n hn
  · refine (c6 p ?_ ?_ ?_ ?_ ?_ f).trans ((G p ?_).2 f) <;> (unfold vc_in at hp; omega)
theorem vc_compareR {K : Nat → Option (Nat × Nat)} {I : Nat → Nat → Int32} {L : Nat → Nat → Int64} {R : Nat → Nat → Value} (w : Int64) (wd : Bool) (hC : vc_C K R) (hct : K (1000000 + 0) = some (110, 16)) (hcv : ∀ j, j < 16 → I (1000000 + 0) j = vl_I (vx_cmp j)) (hst : K (1000000 + 1) = some (110, 12)) (hov : ∀ j, j < 12 → I (1000000 + 1) j = vl_I (vb_opp j)) (hb : (vc_F w).bit3 = true) (oa : vc_okA I L 12) (oj : vc_okA I L 89) (e89 : vc_A I L 89 = vc_A I L 12) (i1 : I (12 + 2 + (vc_F w).d) 6 = 1) (i2 : I (12 + 2 + (vc_F w).s) 6 = 1) {n sl : Nat} : ∃ I1 L1, jv_Ms 42 [.ref 10, .long w, .int (vr_b wd), .ref (12 + 2 + (vc_F w).d), .ref (12 + 2 + (vc_F w).s)] (jv_H K I L R) n sl (none, jv_H K I1 L1 R, n, sl) ∧ (((vc_F w).d = (vc_F w).s ∨ (wd = false ∧ ¬ (vx_small ((vc_A I L 12).1 (vc_F w).d).val = true ∧ vx_small ((vc_A I L 12).1 (vc_F w).s).val = true))) → vc_A I1 L1 12 = vc_A I L 12 ∧ vc_A I1 L1 89 = vc_A I L 12 ∧ ∀ f, I1 10 f = I 10 f) ∧ (¬ ((vc_F w).d = (vc_F w).s ∨ (wd = false ∧ ¬ (vx_small ((vc_A I L 12).1 (vc_F w).d).val = true ∧ vx_small ((vc_A I L 12).1 (vc_F w).s).val = true))) → I1 10 9 = (if (vb_refine (vb_opp (vx_cmp (vc_F w).n)) ((vc_A I L 12).1 (vc_F w).d).val ((vc_A I L 12).1 (vc_F w).s).val).isSome = true then I 10 9 else -1) ∧ I1 10 10 = (if (vb_refine (vx_cmp (vc_F w).n) ((vc_A I L 12).1 (vc_F w).d).val ((vc_A I L 12).1 (vc_F w).s).val).isSome = true then I 10 10 else -1) ∧ (∀ p, (vb_refine (vx_cmp (vc_F w).n) ((vc_A I L 12).1 (vc_F w).d).val ((vc_A I L 12).1 (vc_F w).s).val) = some p → vc_A I1 L1 89 = vx_refd (vc_F w) (vc_A I L 12) p) ∧ ∀ p, (vb_refine (vb_opp (vx_cmp (vc_F w).n)) ((vc_A I L 12).1 (vc_F w).d).val ((vc_A I L 12).1 (vc_F w).s).val) = some p → vc_A I1 L1 12 = vx_refd (vc_F w) (vc_A I L 12) p) ∧ vc_okA I1 L1 12 ∧ vc_okA I1 L1 89 ∧ vc_fr (fun p => vc_in 12 p ∨ vc_in 89 p ∨ p = 166 ∨ p = 10) I L I1 L1 ∧ ∀ f, I1 12 f = I 12 f ∧ I1 89 f = I 89 f ∧ (f ≠ 9 → f ≠ 10 → I1 10 f = I 10 f) := by
  obtain ⟨Q, hQ⟩ : ∃ Q : jv_R → Prop, Q = fun X => ∃ I1 L1, X = (none, jv_H K I1 L1 R, n, sl) ∧ (((vc_F w).d = (vc_F w).s ∨ (wd = false ∧ ¬ (vx_small ((vc_A I L 12).1 (vc_F w).d).val = true ∧ vx_small ((vc_A I L 12).1 (vc_F w).s).val = true))) → vc_A I1 L1 12 = vc_A I L 12 ∧ vc_A I1 L1 89 = vc_A I L 12 ∧ ∀ f, I1 10 f = I 10 f) ∧ (¬ ((vc_F w).d = (vc_F w).s ∨ (wd = false ∧ ¬ (vx_small ((vc_A I L 12).1 (vc_F w).d).val = true ∧ vx_small ((vc_A I L 12).1 (vc_F w).s).val = true))) → I1 10 9 = (if (vb_refine (vb_opp (vx_cmp (vc_F w).n)) ((vc_A I L 12).1 (vc_F w).d).val ((vc_A I L 12).1 (vc_F w).s).val).isSome = true then I 10 9 else -1) ∧ I1 10 10 = (if (vb_refine (vx_cmp (vc_F w).n) ((vc_A I L 12).1 (vc_F w).d).val ((vc_A I L 12).1 (vc_F w).s).val).isSome = true then I 10 10 else -1) ∧ (∀ p, (vb_refine (vx_cmp (vc_F w).n) ((vc_A I L 12).1 (vc_F w).d).val ((vc_A I L 12).1 (vc_F w).s).val) = some p → vc_A I1 L1 89 = vx_refd (vc_F w) (vc_A I L 12) p) ∧ ∀ p, (vb_refine (vb_opp (vx_cmp (vc_F w).n)) ((vc_A I L 12).1 (vc_F w).d).val ((vc_A I L 12).1 (vc_F w).s).val) = some p → vc_A I1 L1 12 = vx_refd (vc_F w) (vc_A I L 12) p) ∧ vc_okA I1 L1 12 ∧ vc_okA I1 L1 89 ∧ vc_fr (fun p => vc_in 12 p ∨ vc_in 89 p ∨ p = 166 ∨ p = 10) I L I1 L1 ∧ ∀ f, I1 12 f = I 12 f ∧ I1 89 f = I 89 f ∧ (f ≠ 9 → f ≠ 10 → I1 10 f = I 10 f) := ⟨_, rfl⟩
  suffices h : jv_Wp 42 0 [(0, .ref 10), (1, .long w), (3, .int (vr_b wd)), (4, .ref (12 + 2 + (vc_F w).d)), (5, .ref (12 + 2 + (vc_F w).s))] [] (jv_H K I L R) n sl Q by
    rw [hQ] at h
    obtain ⟨X, h, I1, L1, e, h'⟩ := h
    subst e
    exact ⟨I1, L1, h, h'⟩
  have hd75 := vw_d75 w
  have hs75 := vw_s75 w
  have hn16 := vw_n16 w
  refine jv_Wp.lift (fun _ Kz => jv_Ev.steps jv_i42 1 (pc' := 1) (l' := [(0, .ref 10), (1, .long w), (3, .int (vr_b wd)), (4, .ref (12 + 2 + (vc_F w).d)), (5, .ref (12 + 2 + (vc_F w).s))]) (st' := [.long w]) rfl Kz) ?_
  refine jv_Wp.lift (fun _ Kz => jv_Ev.c jv_i42 (pc' := 4) (S' := [.int (vr_b (vc_F w).bit3)]) jv_i83 [.long w] rfl rfl rfl rfl rfl rfl (vw_m83 w) rfl rfl Kz) ?_
  refine jv_Wp.lift (fun _ Kz => jv_Ev.steps jv_i42 2 (pc' := 8) (l' := [(6, .int (vr_b (vc_F w).bit3)), (0, .ref 10), (1, .long w), (3, .int (vr_b wd)), (4, .ref (12 + 2 + (vc_F w).d)), (5, .ref (12 + 2 + (vc_F w).s))]) (st' := [.int (vr_b (vc_F w).bit3)]) rfl Kz) ?_
  refine jv_Wp.cnd jv_i42 (pt := 19) (pe := 11) (p := ((vr_b (vc_F w).bit3) = 0)) (q := ((vr_b (vc_F w).bit3) = 0)) rfl jv_bi_eq rfl rfl Iff.rfl (fun hz => absurd hz (by rw [hb]; decide)) (fun _ => ?_)
  refine jv_Wp.lift (fun _ Kz => jv_Ev.steps jv_i42 2 (pc' := 15) (l' := [(6, .int (vr_b (vc_F w).bit3)), (0, .ref 10), (1, .long w), (3, .int (vr_b wd)), (4, .ref (12 + 2 + (vc_F w).d)), (5, .ref (12 + 2 + (vc_F w).s))]) (st' := [.ref (12 + 2 + (vc_F w).s), .ref (12 + 2 + (vc_F w).d)]) rfl Kz) ?_
  refine jv_Wp.cnd jv_i42 (pt := 19) (pe := 18) (p := (¬ (12 + 2 + (vc_F w).d) = (12 + 2 + (vc_F w).s))) (q := (¬ (12 + 2 + (vc_F w).d) = (12 + 2 + (vc_F w).s))) rfl (jv_ba_ne (by omega) (by omega)) rfl rfl Iff.rfl (fun h1 => ?_) (fun h1 => ?_)
  · refine jv_Wp.lift (fun _ Kz => jv_Ev.steps jv_i42 1 (pc' := 20) (l' := [(6, .int (vr_b (vc_F w).bit3)), (0, .ref 10), (1, .long w), (3, .int (vr_b wd)), (4, .ref (12 + 2 + (vc_F w).d)), (5, .ref (12 + 2 + (vc_F w).s))]) (st' := [.int (vr_b wd)]) rfl Kz) ?_
    refine jv_Wp.cnd jv_i42 (pt := 31) (pe := 23) (p := ((vr_b wd) = 0)) (q := ((vr_b wd) = 0)) rfl jv_bi_eq rfl rfl Iff.rfl (fun h2 => ?_) (fun h2 => ?_)
    · refine jv_Wp.lift (fun _ Kz => jv_Ev.steps jv_i42 5 (pc' := 38) (l' := [(7, .long ((w.toUInt64 >>> ((32 : Int32).toInt64.toUInt64 &&& Int64.toUInt64 63)).toInt64)), (6, .int (vr_b (vc_F w).bit3)), (0, .ref 10), (1, .long w), (3, .int (vr_b wd)), (4, .ref (12 + 2 + (vc_F w).d)), (5, .ref (12 + 2 + (vc_F w).s))]) (st' := [.ref 10]) rfl Kz) ?_
      refine jv_Wp.lift (fun _ Kz => jv_Ev.m jv_i42 (pc' := 41) (st' := [.ref 166]) (G' := (jv_H K I L R)) rfl rfl (jv_m_getR hC.k rfl rfl hC.rconst) Kz) ?_
      refine jv_Wp.lift (fun _ Kz => jv_Ev.steps jv_i42 1 (pc' := 43) (l' := [(7, .long ((w.toUInt64 >>> ((32 : Int32).toInt64.toUInt64 &&& Int64.toUInt64 63)).toInt64)), (6, .int (vr_b (vc_F w).bit3)), (0, .ref 10), (1, .long w), (3, .int (vr_b wd)), (4, .ref (12 + 2 + (vc_F w).d)), (5, .ref (12 + 2 + (vc_F w).s))]) (st' := [.long ((w.toUInt64 >>> ((32 : Int32).toInt64.toUInt64 &&& Int64.toUInt64 63)).toInt64), .ref 166]) rfl Kz) ?_
      obtain ⟨I8, L8, H8, T8, O8, F8⟩ := vc_just (I := I) (L := L) (R := R) (n := n) (sl := sl) ((w.toUInt64 >>> ((32 : Int32).toInt64.toUInt64 &&& Int64.toUInt64 63)).toInt64) hC.k166
      refine jv_Wp.lift (fun _ Kz => jv_Ev.c jv_i42 (pc' := 46) (S' := []) (G1 := (jv_H K I8 L8 R)) jv_i143 [.ref 166, .long ((w.toUInt64 >>> ((32 : Int32).toInt64.toUInt64 &&& Int64.toUInt64 63)).toInt64)] rfl rfl rfl rfl (jv_cal rfl (jv_H_at hC.k166) rfl rfl) rfl H8 rfl rfl Kz) ?_
      refine jv_Wp.lift (fun _ Kz => jv_Ev.steps jv_i42 1 (pc' := 47) (l' := [(7, .long ((w.toUInt64 >>> ((32 : Int32).toInt64.toUInt64 &&& Int64.toUInt64 63)).toInt64)), (6, .int (vr_b (vc_F w).bit3)), (0, .ref 10), (1, .long w), (3, .int (vr_b wd)), (4, .ref (12 + 2 + (vc_F w).d)), (5, .ref (12 + 2 + (vc_F w).s))]) (st' := [.int (vr_b wd)]) rfl Kz) ?_
      refine jv_Wp.cnd jv_i42 (pt := 67) (pe := 50) (p := (¬ (vr_b wd) = 0)) (q := (¬ (vr_b wd) = 0)) rfl jv_bi_ne rfl rfl Iff.rfl (fun hz => absurd hz (fun z => z h2)) (fun _ => ?_)
      refine jv_Wp.lift (fun _ Kz => jv_Ev.steps jv_i42 1 (pc' := 52) (l' := [(7, .long ((w.toUInt64 >>> ((32 : Int32).toInt64.toUInt64 &&& Int64.toUInt64 63)).toInt64)), (6, .int (vr_b (vc_F w).bit3)), (0, .ref 10), (1, .long w), (3, .int (vr_b wd)), (4, .ref (12 + 2 + (vc_F w).d)), (5, .ref (12 + 2 + (vc_F w).s))]) (st' := [.ref (12 + 2 + (vc_F w).d)]) rfl Kz) ?_
      obtain ⟨I9, L9, H9, ei9, el9⟩ := vc_isSmall (I := I8) (L := L8) (R := R) (n := n) (sl := sl) (Or.inr (hC.now.kk _ (vw_d75 w)))
      rw [ei9, el9] at H9
      refine jv_Wp.lift (fun _ Kz => jv_Ev.c jv_i42 (pc' := 55) (S' := [.int (vr_b (vx_small (vl_S L8 (12 + 2 + (vc_F w).d))))]) jv_i43 [.ref (12 + 2 + (vc_F w).d)] rfl rfl rfl rfl rfl rfl H9 rfl rfl Kz) ?_
      refine jv_Wp.cnd jv_i42 (pt := 66) (pe := 58) (p := ((vr_b (vx_small (vl_S L8 (12 + 2 + (vc_F w).d)))) = 0)) (q := ((vr_b (vx_small (vl_S L8 (12 + 2 + (vc_F w).d)))) = 0)) rfl jv_bi_eq rfl rfl Iff.rfl (fun h3 => ?_) (fun h3 => ?_)
      · refine jv_Wp.loc (l := [(0, .ref 10), (1, .long w), (3, .int (vr_b wd)), (4, .ref (12 + 2 + (vc_F w).d)), (5, .ref (12 + 2 + (vc_F w).s)), (7, .long ((w.toUInt64 >>> ((32 : Int32).toInt64.toUInt64 &&& Int64.toUInt64 63)).toInt64))]) ⟨List.forall_mem_cons.mpr ⟨.tail _ (.tail _ (.head _)), List.forall_mem_cons.mpr ⟨.tail _ (.tail _ (.tail _ (.head _))), List.forall_mem_cons.mpr ⟨.tail _ (.tail _ (.tail _ (.tail _ (.head _)))), List.forall_mem_cons.mpr ⟨.tail _ (.tail _ (.tail _ (.tail _ (.tail _ (.head _))))), List.forall_mem_cons.mpr ⟨.tail _ (.tail _ (.tail _ (.tail _ (.tail _ (.tail _ (.head _)))))), List.forall_mem_cons.mpr ⟨.head _, fun _ h => absurd h List.not_mem_nil⟩⟩⟩⟩⟩⟩, by show List.Nodup [7, 6, 0, 1, 3, 4, 5]; decide⟩ ?_
        refine jv_Wp.of (jv_Ev.ret jv_i42 rfl rfl) ?_
        rw [hQ]
        have ew : wd = false := by cases wd <;> first | rfl | exact absurd h2 (by decide)
        have eD : ((vc_A I L 12).1 (vc_F w).d).val = vl_S L (12 + 2 + (vc_F w).d) := by rw [vc_A1 hd75]; exact vc_valv (Or.inl i1)
        have gD : vl_S L8 (12 + 2 + (vc_F w).d) = vl_S L (12 + 2 + (vc_F w).d) := vl_S_ext (fun f => (F8 (12 + 2 + (vc_F w).d) (by omega)).2 f)
        have eY : ((vc_A I L 12).1 (vc_F w).s).val = vl_S L (12 + 2 + (vc_F w).s) := by rw [vc_A1 hs75]; exact vc_valv (Or.inl i2)
        have gY : vl_S L8 (12 + 2 + (vc_F w).s) = vl_S L (12 + 2 + (vc_F w).s) := vl_S_ext (fun f => (F8 (12 + 2 + (vc_F w).s) (by omega)).2 f)
        have sm : ¬ (vx_small ((vc_A I L 12).1 (vc_F w).d).val = true ∧ vx_small ((vc_A I L 12).1 (vc_F w).s).val = true) := fun z => by
          have q := vr_b_f h3
          rw [gD, ← eD] at q; rw [z.1] at q; exact absurd q (by decide)
        exact ⟨_, _, rfl, fun _ => ⟨vc_fr_A F8 (fun p z => by unfold vc_in at z; omega), (vc_fr_A F8 (fun p z => by unfold vc_in at z; omega)).trans e89, fun f => (F8 10 (by decide)).1 f⟩, fun z => absurd (Or.inr ⟨ew, sm⟩) z, vc_fr_okA F8 (fun p z => by unfold vc_in at z; omega) oa, vc_fr_okA F8 (fun p z => by unfold vc_in at z; omega) oj, vc_fr_mono F8 (fun p z => Or.inr (Or.inr (Or.inl z))), fun f => ⟨(F8 12 (by decide)).1 f, (F8 89 (by decide)).1 f, fun _ _ => (F8 10 (by decide)).1 f⟩⟩
      · refine jv_Wp.lift (fun _ Kz => jv_Ev.steps jv_i42 1 (pc' := 60) (l' := [(7, .long ((w.toUInt64 >>> ((32 : Int32).toInt64.toUInt64 &&& Int64.toUInt64 63)).toInt64)), (6, .int (vr_b (vc_F w).bit3)), (0, .ref 10), (1, .long w), (3, .int (vr_b wd)), (4, .ref (12 + 2 + (vc_F w).d)), (5, .ref (12 + 2 + (vc_F w).s))]) (st' := [.ref (12 + 2 + (vc_F w).s)]) rfl Kz) ?_
        obtain ⟨I10, L10, H10, ei10, el10⟩ := vc_isSmall (I := I8) (L := L8) (R := R) (n := n) (sl := sl) (Or.inr (hC.now.kk _ (vw_s75 w)))
        rw [ei10, el10] at H10
        refine jv_Wp.lift (fun _ Kz => jv_Ev.c jv_i42 (pc' := 63) (S' := [.int (vr_b (vx_small (vl_S L8 (12 + 2 + (vc_F w).s))))]) jv_i43 [.ref (12 + 2 + (vc_F w).s)] rfl rfl rfl rfl rfl rfl H10 rfl rfl Kz) ?_
        refine jv_Wp.cnd jv_i42 (pt := 67) (pe := 66) (p := (¬ (vr_b (vx_small (vl_S L8 (12 + 2 + (vc_F w).s)))) = 0)) (q := (¬ (vr_b (vx_small (vl_S L8 (12 + 2 + (vc_F w).s)))) = 0)) rfl jv_bi_ne rfl rfl Iff.rfl (fun h4 => ?_) (fun h4 => ?_)
        · refine jv_Wp.lift (fun _ Kz => jv_Ev.steps jv_i42 2 (pc' := 71) (l' := [(7, .long ((w.toUInt64 >>> ((32 : Int32).toInt64.toUInt64 &&& Int64.toUInt64 63)).toInt64)), (6, .int (vr_b (vc_F w).bit3)), (0, .ref 10), (1, .long w), (3, .int (vr_b wd)), (4, .ref (12 + 2 + (vc_F w).d)), (5, .ref (12 + 2 + (vc_F w).s))]) (st' := [.long w, .ref (1000000 + 0)]) rfl Kz) ?_
          refine jv_Wp.lift (fun _ Kz => jv_Ev.c jv_i42 (pc' := 74) (S' := [.int (vl_I (vc_F w).n), .ref (1000000 + 0)]) jv_i82 [.long w] rfl rfl rfl rfl rfl rfl (vw_m82 w) rfl rfl Kz) ?_
          refine jv_Wp.lift (fun _ Kz => jv_Ev.m jv_i42 (pc' := 75) (st' := [.int (I8 (1000000 + 0) (vl_I (vc_F w).n).toNatClampNeg)]) (G' := (jv_H K I8 L8 R)) rfl rfl (jv_m_ialdv hct rfl (vl_I_ix hn16 (by decide)) rfl rfl) Kz) ?_
          refine jv_Wp.lift (fun _ Kz => jv_Ev.steps jv_i42 2 (pc' := 78) (l' := [(9, .int (I8 (1000000 + 0) (vl_I (vc_F w).n).toNatClampNeg)), (7, .long ((w.toUInt64 >>> ((32 : Int32).toInt64.toUInt64 &&& Int64.toUInt64 63)).toInt64)), (6, .int (vr_b (vc_F w).bit3)), (0, .ref 10), (1, .long w), (3, .int (vr_b wd)), (4, .ref (12 + 2 + (vc_F w).d)), (5, .ref (12 + 2 + (vc_F w).s))]) (st' := [.ref 10]) rfl Kz) ?_
          refine jv_Wp.lift (fun _ Kz => jv_Ev.m jv_i42 (pc' := 81) (st' := [.ref 89]) (G' := (jv_H K I8 L8 R)) rfl rfl (jv_m_getR hC.k rfl rfl hC.rjumped) Kz) ?_
          refine jv_Wp.lift (fun _ Kz => jv_Ev.m jv_i42 (pc' := 84) (st' := [.ref (89 + 1)]) (G' := (jv_H K I8 L8 R)) rfl rfl (jv_m_getR hC.jumped.k rfl rfl hC.jumped.r) Kz) ?_
          refine jv_Wp.lift (fun _ Kz => jv_Ev.steps jv_i42 1 (pc' := 85) (l' := [(9, .int (I8 (1000000 + 0) (vl_I (vc_F w).n).toNatClampNeg)), (7, .long ((w.toUInt64 >>> ((32 : Int32).toInt64.toUInt64 &&& Int64.toUInt64 63)).toInt64)), (6, .int (vr_b (vc_F w).bit3)), (0, .ref 10), (1, .long w), (3, .int (vr_b wd)), (4, .ref (12 + 2 + (vc_F w).d)), (5, .ref (12 + 2 + (vc_F w).s))]) (st' := [.long w, .ref (89 + 1)]) rfl Kz) ?_
          refine jv_Wp.lift (fun _ Kz => jv_Ev.c jv_i42 (pc' := 88) (S' := [.int (vl_I (vc_F w).d), .ref (89 + 1)]) jv_i86 [.long w] rfl rfl rfl rfl rfl rfl (vw_m86 w) rfl rfl Kz) ?_
          refine jv_Wp.lift (fun _ Kz => jv_Ev.m jv_i42 (pc' := 89) (st' := [.ref (89 + 2 + (vc_F w).d)]) (G' := (jv_H K I8 L8 R)) rfl rfl (jv_m_aaldR hC.jumped.kt rfl (vl_I_ix (vw_d75 w) (by decide)) rfl (vc_St_rt hC.jumped hd75)) Kz) ?_
          refine jv_Wp.lift (fun _ Kz => jv_Ev.steps jv_i42 2 (pc' := 93) (l' := [(10, .ref (89 + 2 + (vc_F w).d)), (9, .int (I8 (1000000 + 0) (vl_I (vc_F w).n).toNatClampNeg)), (7, .long ((w.toUInt64 >>> ((32 : Int32).toInt64.toUInt64 &&& Int64.toUInt64 63)).toInt64)), (6, .int (vr_b (vc_F w).bit3)), (0, .ref 10), (1, .long w), (3, .int (vr_b wd)), (4, .ref (12 + 2 + (vc_F w).d)), (5, .ref (12 + 2 + (vc_F w).s))]) (st' := [.int (vr_b (vc_F w).bit3)]) rfl Kz) ?_
          refine jv_Wp.cnd jv_i42 (pt := 111) (pe := 96) (p := ((vr_b (vc_F w).bit3) = 0)) (q := ((vr_b (vc_F w).bit3) = 0)) rfl jv_bi_eq rfl rfl Iff.rfl (fun hz => absurd hz (by rw [hb]; decide)) (fun _ => ?_)
          refine jv_Wp.lift (fun _ Kz => jv_Ev.steps jv_i42 1 (pc' := 97) (l' := [(10, .ref (89 + 2 + (vc_F w).d)), (9, .int (I8 (1000000 + 0) (vl_I (vc_F w).n).toNatClampNeg)), (7, .long ((w.toUInt64 >>> ((32 : Int32).toInt64.toUInt64 &&& Int64.toUInt64 63)).toInt64)), (6, .int (vr_b (vc_F w).bit3)), (0, .ref 10), (1, .long w), (3, .int (vr_b wd)), (4, .ref (12 + 2 + (vc_F w).d)), (5, .ref (12 + 2 + (vc_F w).s))]) (st' := [.ref 10]) rfl Kz) ?_
          refine jv_Wp.lift (fun _ Kz => jv_Ev.m jv_i42 (pc' := 100) (st' := [.ref 89]) (G' := (jv_H K I8 L8 R)) rfl rfl (jv_m_getR hC.k rfl rfl hC.rjumped) Kz) ?_
          refine jv_Wp.lift (fun _ Kz => jv_Ev.m jv_i42 (pc' := 103) (st' := [.ref (89 + 1)]) (G' := (jv_H K I8 L8 R)) rfl rfl (jv_m_getR hC.jumped.k rfl rfl hC.jumped.r) Kz) ?_
          refine jv_Wp.lift (fun _ Kz => jv_Ev.steps jv_i42 1 (pc' := 104) (l' := [(10, .ref (89 + 2 + (vc_F w).d)), (9, .int (I8 (1000000 + 0) (vl_I (vc_F w).n).toNatClampNeg)), (7, .long ((w.toUInt64 >>> ((32 : Int32).toInt64.toUInt64 &&& Int64.toUInt64 63)).toInt64)), (6, .int (vr_b (vc_F w).bit3)), (0, .ref 10), (1, .long w), (3, .int (vr_b wd)), (4, .ref (12 + 2 + (vc_F w).d)), (5, .ref (12 + 2 + (vc_F w).s))]) (st' := [.long w, .ref (89 + 1)]) rfl Kz) ?_
          refine jv_Wp.lift (fun _ Kz => jv_Ev.c jv_i42 (pc' := 107) (S' := [.int (vl_I (vc_F w).s), .ref (89 + 1)]) jv_i87 [.long w] rfl rfl rfl rfl rfl rfl (vw_m87 w) rfl rfl Kz) ?_
          refine jv_Wp.lift (fun _ Kz => jv_Ev.m jv_i42 (pc' := 108) (st' := [.ref (89 + 2 + (vc_F w).s)]) (G' := (jv_H K I8 L8 R)) rfl rfl (jv_m_aaldR hC.jumped.kt rfl (vl_I_ix (vw_s75 w) (by decide)) rfl (vc_St_rt hC.jumped hs75)) Kz) ?_
          refine jv_Wp.lift (fun _ Kz => jv_Ev.steps jv_i42 2 (pc' := 117) (l' := [(11, .ref (89 + 2 + (vc_F w).s)), (10, .ref (89 + 2 + (vc_F w).d)), (9, .int (I8 (1000000 + 0) (vl_I (vc_F w).n).toNatClampNeg)), (7, .long ((w.toUInt64 >>> ((32 : Int32).toInt64.toUInt64 &&& Int64.toUInt64 63)).toInt64)), (6, .int (vr_b (vc_F w).bit3)), (0, .ref 10), (1, .long w), (3, .int (vr_b wd)), (4, .ref (12 + 2 + (vc_F w).d)), (5, .ref (12 + 2 + (vc_F w).s))]) (st' := []) rfl Kz) ?_
          refine jv_Wp.loc (l := [(0, .ref 10), (1, .long w), (3, .int (vr_b wd)), (4, .ref (12 + 2 + (vc_F w).d)), (5, .ref (12 + 2 + (vc_F w).s)), (7, .long ((w.toUInt64 >>> ((32 : Int32).toInt64.toUInt64 &&& Int64.toUInt64 63)).toInt64)), (9, .int (I8 (1000000 + 0) (vl_I (vc_F w).n).toNatClampNeg)), (10, .ref (89 + 2 + (vc_F w).d)), (11, .ref (89 + 2 + (vc_F w).s))]) ⟨List.forall_mem_cons.mpr ⟨.tail _ (.tail _ (.tail _ (.tail _ (.tail _ (.head _))))), List.forall_mem_cons.mpr ⟨.tail _ (.tail _ (.tail _ (.tail _ (.tail _ (.tail _ (.head _)))))), List.forall_mem_cons.mpr ⟨.tail _ (.tail _ (.tail _ (.tail _ (.tail _ (.tail _ (.tail _ (.head _))))))), List.forall_mem_cons.mpr ⟨.tail _ (.tail _ (.tail _ (.tail _ (.tail _ (.tail _ (.tail _ (.tail _ (.head _)))))))), List.forall_mem_cons.mpr ⟨.tail _ (.tail _ (.tail _ (.tail _ (.tail _ (.tail _ (.tail _ (.tail _ (.tail _ (.head _))))))))), List.forall_mem_cons.mpr ⟨.tail _ (.tail _ (.tail _ (.head _))), List.forall_mem_cons.mpr ⟨.tail _ (.tail _ (.head _)), List.forall_mem_cons.mpr ⟨.tail _ (.head _), List.forall_mem_cons.mpr ⟨.head _, fun _ h => absurd h List.not_mem_nil⟩⟩⟩⟩⟩⟩⟩⟩⟩, by show List.Nodup [11, 10, 9, 7, 6, 0, 1, 3, 4, 5]; decide⟩ ?_
          have ew : wd = false := by cases wd <;> first | rfl | exact absurd h2 (by decide)
          have eD : ((vc_A I L 12).1 (vc_F w).d).val = vl_S L (12 + 2 + (vc_F w).d) := by rw [vc_A1 hd75]; exact vc_valv (Or.inl i1)
          have gD : vl_S L8 (12 + 2 + (vc_F w).d) = vl_S L (12 + 2 + (vc_F w).d) := vl_S_ext (fun f => (F8 (12 + 2 + (vc_F w).d) (by omega)).2 f)
          have eY : ((vc_A I L 12).1 (vc_F w).s).val = vl_S L (12 + 2 + (vc_F w).s) := by rw [vc_A1 hs75]; exact vc_valv (Or.inl i2)
          have gY : vl_S L8 (12 + 2 + (vc_F w).s) = vl_S L (12 + 2 + (vc_F w).s) := vl_S_ext (fun f => (F8 (12 + 2 + (vc_F w).s) (by omega)).2 f)
          have sd : vx_small ((vc_A I L 12).1 (vc_F w).d).val = true := by have q := vr_b_t h3; rw [gD, ← eD] at q; exact q
          have sy : vx_small ((vc_A I L 12).1 (vc_F w).s).val = true := by have q := vr_b_t h4; rw [gY, ← eY] at q; exact q
          have ds : (vc_F w).d ≠ (vc_F w).s := fun z => h1 (by rw [z])
          have nsk : ¬ ((vc_F w).d = (vc_F w).s ∨ (wd = false ∧ ¬ (vx_small ((vc_A I L 12).1 (vc_F w).d).val = true ∧ vx_small ((vc_A I L 12).1 (vc_F w).s).val = true))) := by
            exact fun z => z.elim ds (fun z => z.2 ⟨sd, sy⟩)
          have ec : (I8 (1000000 + 0) (vl_I (vc_F w).n).toNatClampNeg) = vl_I (vx_cmp (vc_F w).n) := by rw [vl_I_nat (by omega)]; exact ((F8 1000000 (by decide)).1 _).trans (hcv _ hn16)
          rw [ec]
          have G : ∀ p, p ≠ 166 → (∀ f, I8 p f = I p f) ∧ ∀ f, L8 p f = L p f := F8
          have ex : vl_S L8 (89 + 2 + (vc_F w).d) = ((vc_A I L 12).1 (vc_F w).d).val := by
            have q : vc_T I L (89 + 2 + (vc_F w).d) = vc_T I L (12 + 2 + (vc_F w).d) := by rw [← vc_A1 (a := 89) hd75, ← vc_A1 (a := 12) hd75, e89]
            have q1 : I (89 + 2 + (vc_F w).d) 6 = 1 := (vc_is1 (oj _ hd75)).mp (by rw [q]; exact (vc_is1 (oa _ hd75)).mpr i1)
            rw [vl_S_ext (fun f => (F8 (89 + 2 + (vc_F w).d) (by omega)).2 f), ← vc_valv (Or.inl q1), q, vc_A1 hd75]
          have eu : vl_S L8 (89 + 2 + (vc_F w).s) = ((vc_A I L 12).1 (vc_F w).s).val := by
            have q : vc_T I L (89 + 2 + (vc_F w).s) = vc_T I L (12 + 2 + (vc_F w).s) := by rw [← vc_A1 (a := 89) hs75, ← vc_A1 (a := 12) hs75, e89]
            have q1 : I (89 + 2 + (vc_F w).s) 6 = 1 := (vc_is1 (oj _ hs75)).mp (by rw [q]; exact (vc_is1 (oa _ hs75)).mpr i2)
            rw [vl_S_ext (fun f => (F8 (89 + 2 + (vc_F w).s) (by omega)).2 f), ← vc_valv (Or.inl q1), q, vc_A1 hs75]
          refine jv_Wp.mono (vc_ctail (I := I8) (L := L8) w ((w.toUInt64 >>> ((32 : Int32).toInt64.toUInt64 &&& Int64.toUInt64 63)).toInt64) wd (vx_cmp (vc_F w).n) hC (vx_cmp_le _) hst (fun k hk => (G _ (by omega)).1 k |>.trans (hov k hk)) (hC.jumped.kk _ hd75) (hC.jumped.kk _ hs75) (hC.now.kk _ hd75) (hC.now.kk _ hs75) (by omega) (by omega) (by omega) (by omega) (by omega) (by omega) (by omega) (Or.inr (by omega)) (fun z => by omega) rfl) ?_
          rintro X ⟨I9, L9, eX, c1, c2, c3, c4, c5, c6, c7, c8⟩
          rw [gD, ← eD, gY, ← eY] at c1 c4
          rw [ex, eu] at c2 c3
          rw [hQ]
          obtain ⟨q1, q2, q3⟩ := vc_cmpR (w := w) (I := I) (L := L) (I1 := I8) (L1 := L8) hb hd75 hs75 ds G i1 i2 oa oj e89 c3 c4 c5 c6 c7
          refine ⟨I9, L9, eX, fun z => absurd z nsk, fun _ => ⟨by rw [c1, (G 10 (by decide)).1], by rw [c2, (G 10 (by decide)).1], q1⟩, q2.1, q2.2, q3, fun f => ⟨(c7 12 (by decide) (by decide) f).trans ((G 12 (by decide)).1 f), (c7 89 (by decide) (by decide) f).trans ((G 89 (by decide)).1 f), fun h9 h10 => (c8 f h9 h10).trans ((G 10 (by decide)).1 f)⟩⟩
        · refine jv_Wp.loc (l := [(0, .ref 10), (1, .long w), (3, .int (vr_b wd)), (4, .ref (12 + 2 + (vc_F w).d)), (5, .ref (12 + 2 + (vc_F w).s)), (7, .long ((w.toUInt64 >>> ((32 : Int32).toInt64.toUInt64 &&& Int64.toUInt64 63)).toInt64))]) ⟨List.forall_mem_cons.mpr ⟨.tail _ (.tail _ (.head _)), List.forall_mem_cons.mpr ⟨.tail _ (.tail _ (.tail _ (.head _))), List.forall_mem_cons.mpr ⟨.tail _ (.tail _ (.tail _ (.tail _ (.head _)))), List.forall_mem_cons.mpr ⟨.tail _ (.tail _ (.tail _ (.tail _ (.tail _ (.head _))))), List.forall_mem_cons.mpr ⟨.tail _ (.tail _ (.tail _ (.tail _ (.tail _ (.tail _ (.head _)))))), List.forall_mem_cons.mpr ⟨.head _, fun _ h => absurd h List.not_mem_nil⟩⟩⟩⟩⟩⟩, by show List.Nodup [7, 6, 0, 1, 3, 4, 5]; decide⟩ ?_
          refine jv_Wp.of (jv_Ev.ret jv_i42 rfl rfl) ?_
          rw [hQ]
          have ew : wd = false := by cases wd <;> first | rfl | exact absurd h2 (by decide)
          have eD : ((vc_A I L 12).1 (vc_F w).d).val = vl_S L (12 + 2 + (vc_F w).d) := by rw [vc_A1 hd75]; exact vc_valv (Or.inl i1)
          have gD : vl_S L8 (12 + 2 + (vc_F w).d) = vl_S L (12 + 2 + (vc_F w).d) := vl_S_ext (fun f => (F8 (12 + 2 + (vc_F w).d) (by omega)).2 f)
          have eY : ((vc_A I L 12).1 (vc_F w).s).val = vl_S L (12 + 2 + (vc_F w).s) := by rw [vc_A1 hs75]; exact vc_valv (Or.inl i2)
          have gY : vl_S L8 (12 + 2 + (vc_F w).s) = vl_S L (12 + 2 + (vc_F w).s) := vl_S_ext (fun f => (F8 (12 + 2 + (vc_F w).s) (by omega)).2 f)
          have sm : ¬ (vx_small ((vc_A I L 12).1 (vc_F w).d).val = true ∧ vx_small ((vc_A I L 12).1 (vc_F w).s).val = true) := fun z => by
            have q := vr_b_f (Classical.not_not.mp h4)
            rw [gY, ← eY] at q; rw [z.2] at q; exact absurd q (by decide)
          exact ⟨_, _, rfl, fun _ => ⟨vc_fr_A F8 (fun p z => by unfold vc_in at z; omega), (vc_fr_A F8 (fun p z => by unfold vc_in at z; omega)).trans e89, fun f => (F8 10 (by decide)).1 f⟩, fun z => absurd (Or.inr ⟨ew, sm⟩) z, vc_fr_okA F8 (fun p z => by unfold vc_in at z; omega) oa, vc_fr_okA F8 (fun p z => by unfold vc_in at z; omega) oj, vc_fr_mono F8 (fun p z => Or.inr (Or.inr (Or.inl z))), fun f => ⟨(F8 12 (by decide)).1 f, (F8 89 (by decide)).1 f, fun _ _ => (F8 10 (by decide)).1 f⟩⟩
    · refine jv_Wp.lift (fun _ Kz => jv_Ev.steps jv_i42 1 (pc' := 24) (l' := [(6, .int (vr_b (vc_F w).bit3)), (0, .ref 10), (1, .long w), (3, .int (vr_b wd)), (4, .ref (12 + 2 + (vc_F w).d)), (5, .ref (12 + 2 + (vc_F w).s))]) (st' := [.long w]) rfl Kz) ?_
      refine jv_Wp.lift (fun _ Kz => jv_Ev.c jv_i42 (pc' := 27) (S' := [.int (jv_wfimmediate w)]) jv_i89 [.long w] rfl rfl rfl rfl rfl rfl (jv_s89 w) rfl rfl Kz) ?_
      refine jv_Wp.lift (fun _ Kz => jv_Ev.steps jv_i42 4 (pc' := 38) (l' := [(7, .long (jv_wfimmediate w).toInt64), (6, .int (vr_b (vc_F w).bit3)), (0, .ref 10), (1, .long w), (3, .int (vr_b wd)), (4, .ref (12 + 2 + (vc_F w).d)), (5, .ref (12 + 2 + (vc_F w).s))]) (st' := [.ref 10]) rfl Kz) ?_
      refine jv_Wp.lift (fun _ Kz => jv_Ev.m jv_i42 (pc' := 41) (st' := [.ref 166]) (G' := (jv_H K I L R)) rfl rfl (jv_m_getR hC.k rfl rfl hC.rconst) Kz) ?_
      refine jv_Wp.lift (fun _ Kz => jv_Ev.steps jv_i42 1 (pc' := 43) (l' := [(7, .long (jv_wfimmediate w).toInt64), (6, .int (vr_b (vc_F w).bit3)), (0, .ref 10), (1, .long w), (3, .int (vr_b wd)), (4, .ref (12 + 2 + (vc_F w).d)), (5, .ref (12 + 2 + (vc_F w).s))]) (st' := [.long (jv_wfimmediate w).toInt64, .ref 166]) rfl Kz) ?_
      obtain ⟨I11, L11, H11, T11, O11, F11⟩ := vc_just (I := I) (L := L) (R := R) (n := n) (sl := sl) (jv_wfimmediate w).toInt64 hC.k166
      refine jv_Wp.lift (fun _ Kz => jv_Ev.c jv_i42 (pc' := 46) (S' := []) (G1 := (jv_H K I11 L11 R)) jv_i143 [.ref 166, .long (jv_wfimmediate w).toInt64] rfl rfl rfl rfl (jv_cal rfl (jv_H_at hC.k166) rfl rfl) rfl H11 rfl rfl Kz) ?_
      refine jv_Wp.lift (fun _ Kz => jv_Ev.steps jv_i42 1 (pc' := 47) (l' := [(7, .long (jv_wfimmediate w).toInt64), (6, .int (vr_b (vc_F w).bit3)), (0, .ref 10), (1, .long w), (3, .int (vr_b wd)), (4, .ref (12 + 2 + (vc_F w).d)), (5, .ref (12 + 2 + (vc_F w).s))]) (st' := [.int (vr_b wd)]) rfl Kz) ?_
      refine jv_Wp.cnd jv_i42 (pt := 67) (pe := 50) (p := (¬ (vr_b wd) = 0)) (q := (¬ (vr_b wd) = 0)) rfl jv_bi_ne rfl rfl Iff.rfl (fun _ => ?_) (fun hz => absurd h2 hz)
      refine jv_Wp.lift (fun _ Kz => jv_Ev.steps jv_i42 2 (pc' := 71) (l' := [(7, .long (jv_wfimmediate w).toInt64), (6, .int (vr_b (vc_F w).bit3)), (0, .ref 10), (1, .long w), (3, .int (vr_b wd)), (4, .ref (12 + 2 + (vc_F w).d)), (5, .ref (12 + 2 + (vc_F w).s))]) (st' := [.long w, .ref (1000000 + 0)]) rfl Kz) ?_
      refine jv_Wp.lift (fun _ Kz => jv_Ev.c jv_i42 (pc' := 74) (S' := [.int (vl_I (vc_F w).n), .ref (1000000 + 0)]) jv_i82 [.long w] rfl rfl rfl rfl rfl rfl (vw_m82 w) rfl rfl Kz) ?_
      refine jv_Wp.lift (fun _ Kz => jv_Ev.m jv_i42 (pc' := 75) (st' := [.int (I11 (1000000 + 0) (vl_I (vc_F w).n).toNatClampNeg)]) (G' := (jv_H K I11 L11 R)) rfl rfl (jv_m_ialdv hct rfl (vl_I_ix hn16 (by decide)) rfl rfl) Kz) ?_
      refine jv_Wp.lift (fun _ Kz => jv_Ev.steps jv_i42 2 (pc' := 78) (l' := [(9, .int (I11 (1000000 + 0) (vl_I (vc_F w).n).toNatClampNeg)), (7, .long (jv_wfimmediate w).toInt64), (6, .int (vr_b (vc_F w).bit3)), (0, .ref 10), (1, .long w), (3, .int (vr_b wd)), (4, .ref (12 + 2 + (vc_F w).d)), (5, .ref (12 + 2 + (vc_F w).s))]) (st' := [.ref 10]) rfl Kz) ?_
      refine jv_Wp.lift (fun _ Kz => jv_Ev.m jv_i42 (pc' := 81) (st' := [.ref 89]) (G' := (jv_H K I11 L11 R)) rfl rfl (jv_m_getR hC.k rfl rfl hC.rjumped) Kz) ?_
      refine jv_Wp.lift (fun _ Kz => jv_Ev.m jv_i42 (pc' := 84) (st' := [.ref (89 + 1)]) (G' := (jv_H K I11 L11 R)) rfl rfl (jv_m_getR hC.jumped.k rfl rfl hC.jumped.r) Kz) ?_
      refine jv_Wp.lift (fun _ Kz => jv_Ev.steps jv_i42 1 (pc' := 85) (l' := [(9, .int (I11 (1000000 + 0) (vl_I (vc_F w).n).toNatClampNeg)), (7, .long (jv_wfimmediate w).toInt64), (6, .int (vr_b (vc_F w).bit3)), (0, .ref 10), (1, .long w), (3, .int (vr_b wd)), (4, .ref (12 + 2 + (vc_F w).d)), (5, .ref (12 + 2 + (vc_F w).s))]) (st' := [.long w, .ref (89 + 1)]) rfl Kz) ?_
      refine jv_Wp.lift (fun _ Kz => jv_Ev.c jv_i42 (pc' := 88) (S' := [.int (vl_I (vc_F w).d), .ref (89 + 1)]) jv_i86 [.long w] rfl rfl rfl rfl rfl rfl (vw_m86 w) rfl rfl Kz) ?_
      refine jv_Wp.lift (fun _ Kz => jv_Ev.m jv_i42 (pc' := 89) (st' := [.ref (89 + 2 + (vc_F w).d)]) (G' := (jv_H K I11 L11 R)) rfl rfl (jv_m_aaldR hC.jumped.kt rfl (vl_I_ix (vw_d75 w) (by decide)) rfl (vc_St_rt hC.jumped hd75)) Kz) ?_
      refine jv_Wp.lift (fun _ Kz => jv_Ev.steps jv_i42 2 (pc' := 93) (l' := [(10, .ref (89 + 2 + (vc_F w).d)), (9, .int (I11 (1000000 + 0) (vl_I (vc_F w).n).toNatClampNeg)), (7, .long (jv_wfimmediate w).toInt64), (6, .int (vr_b (vc_F w).bit3)), (0, .ref 10), (1, .long w), (3, .int (vr_b wd)), (4, .ref (12 + 2 + (vc_F w).d)), (5, .ref (12 + 2 + (vc_F w).s))]) (st' := [.int (vr_b (vc_F w).bit3)]) rfl Kz) ?_
      refine jv_Wp.cnd jv_i42 (pt := 111) (pe := 96) (p := ((vr_b (vc_F w).bit3) = 0)) (q := ((vr_b (vc_F w).bit3) = 0)) rfl jv_bi_eq rfl rfl Iff.rfl (fun hz => absurd hz (by rw [hb]; decide)) (fun _ => ?_)
      refine jv_Wp.lift (fun _ Kz => jv_Ev.steps jv_i42 1 (pc' := 97) (l' := [(10, .ref (89 + 2 + (vc_F w).d)), (9, .int (I11 (1000000 + 0) (vl_I (vc_F w).n).toNatClampNeg)), (7, .long (jv_wfimmediate w).toInt64), (6, .int (vr_b (vc_F w).bit3)), (0, .ref 10), (1, .long w), (3, .int (vr_b wd)), (4, .ref (12 + 2 + (vc_F w).d)), (5, .ref (12 + 2 + (vc_F w).s))]) (st' := [.ref 10]) rfl Kz) ?_
      refine jv_Wp.lift (fun _ Kz => jv_Ev.m jv_i42 (pc' := 100) (st' := [.ref 89]) (G' := (jv_H K I11 L11 R)) rfl rfl (jv_m_getR hC.k rfl rfl hC.rjumped) Kz) ?_
      refine jv_Wp.lift (fun _ Kz => jv_Ev.m jv_i42 (pc' := 103) (st' := [.ref (89 + 1)]) (G' := (jv_H K I11 L11 R)) rfl rfl (jv_m_getR hC.jumped.k rfl rfl hC.jumped.r) Kz) ?_
      refine jv_Wp.lift (fun _ Kz => jv_Ev.steps jv_i42 1 (pc' := 104) (l' := [(10, .ref (89 + 2 + (vc_F w).d)), (9, .int (I11 (1000000 + 0) (vl_I (vc_F w).n).toNatClampNeg)), (7, .long (jv_wfimmediate w).toInt64), (6, .int (vr_b (vc_F w).bit3)), (0, .ref 10), (1, .long w), (3, .int (vr_b wd)), (4, .ref (12 + 2 + (vc_F w).d)), (5, .ref (12 + 2 + (vc_F w).s))]) (st' := [.long w, .ref (89 + 1)]) rfl Kz) ?_
      refine jv_Wp.lift (fun _ Kz => jv_Ev.c jv_i42 (pc' := 107) (S' := [.int (vl_I (vc_F w).s), .ref (89 + 1)]) jv_i87 [.long w] rfl rfl rfl rfl rfl rfl (vw_m87 w) rfl rfl Kz) ?_
      refine jv_Wp.lift (fun _ Kz => jv_Ev.m jv_i42 (pc' := 108) (st' := [.ref (89 + 2 + (vc_F w).s)]) (G' := (jv_H K I11 L11 R)) rfl rfl (jv_m_aaldR hC.jumped.kt rfl (vl_I_ix (vw_s75 w) (by decide)) rfl (vc_St_rt hC.jumped hs75)) Kz) ?_
      refine jv_Wp.lift (fun _ Kz => jv_Ev.steps jv_i42 2 (pc' := 117) (l' := [(11, .ref (89 + 2 + (vc_F w).s)), (10, .ref (89 + 2 + (vc_F w).d)), (9, .int (I11 (1000000 + 0) (vl_I (vc_F w).n).toNatClampNeg)), (7, .long (jv_wfimmediate w).toInt64), (6, .int (vr_b (vc_F w).bit3)), (0, .ref 10), (1, .long w), (3, .int (vr_b wd)), (4, .ref (12 + 2 + (vc_F w).d)), (5, .ref (12 + 2 + (vc_F w).s))]) (st' := []) rfl Kz) ?_
      refine jv_Wp.loc (l := [(0, .ref 10), (1, .long w), (3, .int (vr_b wd)), (4, .ref (12 + 2 + (vc_F w).d)), (5, .ref (12 + 2 + (vc_F w).s)), (7, .long (jv_wfimmediate w).toInt64), (9, .int (I11 (1000000 + 0) (vl_I (vc_F w).n).toNatClampNeg)), (10, .ref (89 + 2 + (vc_F w).d)), (11, .ref (89 + 2 + (vc_F w).s))]) ⟨List.forall_mem_cons.mpr ⟨.tail _ (.tail _ (.tail _ (.tail _ (.tail _ (.head _))))), List.forall_mem_cons.mpr ⟨.tail _ (.tail _ (.tail _ (.tail _ (.tail _ (.tail _ (.head _)))))), List.forall_mem_cons.mpr ⟨.tail _ (.tail _ (.tail _ (.tail _ (.tail _ (.tail _ (.tail _ (.head _))))))), List.forall_mem_cons.mpr ⟨.tail _ (.tail _ (.tail _ (.tail _ (.tail _ (.tail _ (.tail _ (.tail _ (.head _)))))))), List.forall_mem_cons.mpr ⟨.tail _ (.tail _ (.tail _ (.tail _ (.tail _ (.tail _ (.tail _ (.tail _ (.tail _ (.head _))))))))), List.forall_mem_cons.mpr ⟨.tail _ (.tail _ (.tail _ (.head _))), List.forall_mem_cons.mpr ⟨.tail _ (.tail _ (.head _)), List.forall_mem_cons.mpr ⟨.tail _ (.head _), List.forall_mem_cons.mpr ⟨.head _, fun _ h => absurd h List.not_mem_nil⟩⟩⟩⟩⟩⟩⟩⟩⟩, by show List.Nodup [11, 10, 9, 7, 6, 0, 1, 3, 4, 5]; decide⟩ ?_
      have ew : wd = true := by cases wd <;> first | rfl | exact absurd rfl h2
      have eD : ((vc_A I L 12).1 (vc_F w).d).val = vl_S L (12 + 2 + (vc_F w).d) := by rw [vc_A1 hd75]; exact vc_valv (Or.inl i1)
      have gD : vl_S L11 (12 + 2 + (vc_F w).d) = vl_S L (12 + 2 + (vc_F w).d) := vl_S_ext (fun f => (F11 (12 + 2 + (vc_F w).d) (by omega)).2 f)
      have eY : ((vc_A I L 12).1 (vc_F w).s).val = vl_S L (12 + 2 + (vc_F w).s) := by rw [vc_A1 hs75]; exact vc_valv (Or.inl i2)
      have gY : vl_S L11 (12 + 2 + (vc_F w).s) = vl_S L (12 + 2 + (vc_F w).s) := vl_S_ext (fun f => (F11 (12 + 2 + (vc_F w).s) (by omega)).2 f)
      have ds : (vc_F w).d ≠ (vc_F w).s := fun z => h1 (by rw [z])
      have nsk : ¬ ((vc_F w).d = (vc_F w).s ∨ (wd = false ∧ ¬ (vx_small ((vc_A I L 12).1 (vc_F w).d).val = true ∧ vx_small ((vc_A I L 12).1 (vc_F w).s).val = true))) := by
        exact fun z => z.elim ds (fun z => by rw [ew] at z; exact absurd z.1 (by decide))
      have ec : (I11 (1000000 + 0) (vl_I (vc_F w).n).toNatClampNeg) = vl_I (vx_cmp (vc_F w).n) := by rw [vl_I_nat (by omega)]; exact ((F11 1000000 (by decide)).1 _).trans (hcv _ hn16)
      rw [ec]
      have G : ∀ p, p ≠ 166 → (∀ f, I11 p f = I p f) ∧ ∀ f, L11 p f = L p f := F11
      have ex : vl_S L11 (89 + 2 + (vc_F w).d) = ((vc_A I L 12).1 (vc_F w).d).val := by
        have q : vc_T I L (89 + 2 + (vc_F w).d) = vc_T I L (12 + 2 + (vc_F w).d) := by rw [← vc_A1 (a := 89) hd75, ← vc_A1 (a := 12) hd75, e89]
        have q1 : I (89 + 2 + (vc_F w).d) 6 = 1 := (vc_is1 (oj _ hd75)).mp (by rw [q]; exact (vc_is1 (oa _ hd75)).mpr i1)
        rw [vl_S_ext (fun f => (F11 (89 + 2 + (vc_F w).d) (by omega)).2 f), ← vc_valv (Or.inl q1), q, vc_A1 hd75]
      have eu : vl_S L11 (89 + 2 + (vc_F w).s) = ((vc_A I L 12).1 (vc_F w).s).val := by
        have q : vc_T I L (89 + 2 + (vc_F w).s) = vc_T I L (12 + 2 + (vc_F w).s) := by rw [← vc_A1 (a := 89) hs75, ← vc_A1 (a := 12) hs75, e89]
        have q1 : I (89 + 2 + (vc_F w).s) 6 = 1 := (vc_is1 (oj _ hs75)).mp (by rw [q]; exact (vc_is1 (oa _ hs75)).mpr i2)
        rw [vl_S_ext (fun f => (F11 (89 + 2 + (vc_F w).s) (by omega)).2 f), ← vc_valv (Or.inl q1), q, vc_A1 hs75]
      refine jv_Wp.mono (vc_ctail (I := I11) (L := L11) w (jv_wfimmediate w).toInt64 wd (vx_cmp (vc_F w).n) hC (vx_cmp_le _) hst (fun k hk => (G _ (by omega)).1 k |>.trans (hov k hk)) (hC.jumped.kk _ hd75) (hC.jumped.kk _ hs75) (hC.now.kk _ hd75) (hC.now.kk _ hs75) (by omega) (by omega) (by omega) (by omega) (by omega) (by omega) (by omega) (Or.inr (by omega)) (fun z => by omega) rfl) ?_
      rintro X ⟨I9, L9, eX, c1, c2, c3, c4, c5, c6, c7, c8⟩
      rw [gD, ← eD, gY, ← eY] at c1 c4
      rw [ex, eu] at c2 c3
      rw [hQ]
      obtain ⟨q1, q2, q3⟩ := vc_cmpR (w := w) (I := I) (L := L) (I1 := I11) (L1 := L11) hb hd75 hs75 ds G i1 i2 oa oj e89 c3 c4 c5 c6 c7
      refine ⟨I9, L9, eX, fun z => absurd z nsk, fun _ => ⟨by rw [c1, (G 10 (by decide)).1], by rw [c2, (G 10 (by decide)).1], q1⟩, q2.1, q2.2, q3, fun f => ⟨(c7 12 (by decide) (by decide) f).trans ((G 12 (by decide)).1 f), (c7 89 (by decide) (by decide) f).trans ((G 89 (by decide)).1 f), fun h9 h10 => (c8 f h9 h10).trans ((G 10 (by decide)).1 f)⟩⟩
  · refine jv_Wp.loc (l := [(0, .ref 10), (1, .long w), (3, .int (vr_b wd)), (4, .ref (12 + 2 + (vc_F w).d)), (5, .ref (12 + 2 + (vc_F w).s))]) ⟨List.forall_mem_cons.mpr ⟨.tail _ (.head _), List.forall_mem_cons.mpr ⟨.tail _ (.tail _ (.head _)), List.forall_mem_cons.mpr ⟨.tail _ (.tail _ (.tail _ (.head _))), List.forall_mem_cons.mpr ⟨.tail _ (.tail _ (.tail _ (.tail _ (.head _)))), List.forall_mem_cons.mpr ⟨.tail _ (.tail _ (.tail _ (.tail _ (.tail _ (.head _))))), fun _ h => absurd h List.not_mem_nil⟩⟩⟩⟩⟩, by show List.Nodup [6, 0, 1, 3, 4, 5]; decide⟩ ?_
    refine jv_Wp.of (jv_Ev.ret jv_i42 rfl rfl) ?_
    rw [hQ]
    have ds : (vc_F w).d = (vc_F w).s := by have := (Classical.not_not.mp h1); omega
    exact ⟨_, _, rfl, fun _ => ⟨rfl, e89, fun _ => rfl⟩, fun z => absurd (Or.inl ds) z, oa, oj, vc_fr_refl _ _, fun _ => ⟨rfl, rfl, fun _ _ => rfl⟩⟩
theorem vc_compareI {K : Nat → Option (Nat × Nat)} {I : Nat → Nat → Int32} {L : Nat → Nat → Int64} {R : Nat → Nat → Value} (w : Int64) (wd : Bool) (hC : vc_C K R) (hct : K (1000000 + 0) = some (110, 16)) (hcv : ∀ j, j < 16 → I (1000000 + 0) j = vl_I (vx_cmp j)) (hst : K (1000000 + 1) = some (110, 12)) (hov : ∀ j, j < 12 → I (1000000 + 1) j = vl_I (vb_opp j)) (hb : (vc_F w).bit3 = false) (oa : vc_okA I L 12) (oj : vc_okA I L 89) (e89 : vc_A I L 89 = vc_A I L 12) (i1 : I (12 + 2 + (vc_F w).d) 6 = 1) {n sl : Nat} : ∃ I1 L1, jv_Ms 42 [.ref 10, .long w, .int (vr_b wd), .ref (12 + 2 + (vc_F w).d), .ref 166] (jv_H K I L R) n sl (none, jv_H K I1 L1 R, n, sl) ∧ (((wd = false ∧ ¬ (vx_small ((vc_A I L 12).1 (vc_F w).d).val = true ∧ vx_small (if wd = true then vx_just (vc_F w).i else vb_just (BitVec.ofInt 64 ((vc_F w).i % 4294967296))) = true))) → vc_A I1 L1 12 = vc_A I L 12 ∧ vc_A I1 L1 89 = vc_A I L 12 ∧ ∀ f, I1 10 f = I 10 f) ∧ (¬ ((wd = false ∧ ¬ (vx_small ((vc_A I L 12).1 (vc_F w).d).val = true ∧ vx_small (if wd = true then vx_just (vc_F w).i else vb_just (BitVec.ofInt 64 ((vc_F w).i % 4294967296))) = true))) → I1 10 9 = (if (vb_refine (vb_opp (vx_cmp (vc_F w).n)) ((vc_A I L 12).1 (vc_F w).d).val (if wd = true then vx_just (vc_F w).i else vb_just (BitVec.ofInt 64 ((vc_F w).i % 4294967296)))).isSome = true then I 10 9 else -1) ∧ I1 10 10 = (if (vb_refine (vx_cmp (vc_F w).n) ((vc_A I L 12).1 (vc_F w).d).val (if wd = true then vx_just (vc_F w).i else vb_just (BitVec.ofInt 64 ((vc_F w).i % 4294967296)))).isSome = true then I 10 10 else -1) ∧ (∀ p, (vb_refine (vx_cmp (vc_F w).n) ((vc_A I L 12).1 (vc_F w).d).val (if wd = true then vx_just (vc_F w).i else vb_just (BitVec.ofInt 64 ((vc_F w).i % 4294967296)))) = some p → vc_A I1 L1 89 = vx_refd (vc_F w) (vc_A I L 12) p) ∧ ∀ p, (vb_refine (vb_opp (vx_cmp (vc_F w).n)) ((vc_A I L 12).1 (vc_F w).d).val (if wd = true then vx_just (vc_F w).i else vb_just (BitVec.ofInt 64 ((vc_F w).i % 4294967296)))) = some p → vc_A I1 L1 12 = vx_refd (vc_F w) (vc_A I L 12) p) ∧ vc_okA I1 L1 12 ∧ vc_okA I1 L1 89 ∧ vc_fr (fun p => vc_in 12 p ∨ vc_in 89 p ∨ p = 166 ∨ p = 10) I L I1 L1 ∧ ∀ f, I1 12 f = I 12 f ∧ I1 89 f = I 89 f ∧ (f ≠ 9 → f ≠ 10 → I1 10 f = I 10 f) := by
  obtain ⟨Q, hQ⟩ : ∃ Q : jv_R → Prop, Q = fun X => ∃ I1 L1, X = (none, jv_H K I1 L1 R, n, sl) ∧ (((wd = false ∧ ¬ (vx_small ((vc_A I L 12).1 (vc_F w).d).val = true ∧ vx_small (if wd = true then vx_just (vc_F w).i else vb_just (BitVec.ofInt 64 ((vc_F w).i % 4294967296))) = true))) → vc_A I1 L1 12 = vc_A I L 12 ∧ vc_A I1 L1 89 = vc_A I L 12 ∧ ∀ f, I1 10 f = I 10 f) ∧ (¬ ((wd = false ∧ ¬ (vx_small ((vc_A I L 12).1 (vc_F w).d).val = true ∧ vx_small (if wd = true then vx_just (vc_F w).i else vb_just (BitVec.ofInt 64 ((vc_F w).i % 4294967296))) = true))) → I1 10 9 = (if (vb_refine (vb_opp (vx_cmp (vc_F w).n)) ((vc_A I L 12).1 (vc_F w).d).val (if wd = true then vx_just (vc_F w).i else vb_just (BitVec.ofInt 64 ((vc_F w).i % 4294967296)))).isSome = true then I 10 9 else -1) ∧ I1 10 10 = (if (vb_refine (vx_cmp (vc_F w).n) ((vc_A I L 12).1 (vc_F w).d).val (if wd = true then vx_just (vc_F w).i else vb_just (BitVec.ofInt 64 ((vc_F w).i % 4294967296)))).isSome = true then I 10 10 else -1) ∧ (∀ p, (vb_refine (vx_cmp (vc_F w).n) ((vc_A I L 12).1 (vc_F w).d).val (if wd = true then vx_just (vc_F w).i else vb_just (BitVec.ofInt 64 ((vc_F w).i % 4294967296)))) = some p → vc_A I1 L1 89 = vx_refd (vc_F w) (vc_A I L 12) p) ∧ ∀ p, (vb_refine (vb_opp (vx_cmp (vc_F w).n)) ((vc_A I L 12).1 (vc_F w).d).val (if wd = true then vx_just (vc_F w).i else vb_just (BitVec.ofInt 64 ((vc_F w).i % 4294967296)))) = some p → vc_A I1 L1 12 = vx_refd (vc_F w) (vc_A I L 12) p) ∧ vc_okA I1 L1 12 ∧ vc_okA I1 L1 89 ∧ vc_fr (fun p => vc_in 12 p ∨ vc_in 89 p ∨ p = 166 ∨ p = 10) I L I1 L1 ∧ ∀ f, I1 12 f = I 12 f ∧ I1 89 f = I 89 f ∧ (f ≠ 9 → f ≠ 10 → I1 10 f = I 10 f) := ⟨_, rfl⟩
  suffices h : jv_Wp 42 0 [(0, .ref 10), (1, .long w), (3, .int (vr_b wd)), (4, .ref (12 + 2 + (vc_F w).d)), (5, .ref 166)] [] (jv_H K I L R) n sl Q by
    rw [hQ] at h
    obtain ⟨X, h, I1, L1, e, h'⟩ := h
    subst e
    exact ⟨I1, L1, h, h'⟩
  have hd75 := vw_d75 w
  have hs75 := vw_s75 w
  have hn16 := vw_n16 w
  refine jv_Wp.lift (fun _ Kz => jv_Ev.steps jv_i42 1 (pc' := 1) (l' := [(0, .ref 10), (1, .long w), (3, .int (vr_b wd)), (4, .ref (12 + 2 + (vc_F w).d)), (5, .ref 166)]) (st' := [.long w]) rfl Kz) ?_
  refine jv_Wp.lift (fun _ Kz => jv_Ev.c jv_i42 (pc' := 4) (S' := [.int (vr_b (vc_F w).bit3)]) jv_i83 [.long w] rfl rfl rfl rfl rfl rfl (vw_m83 w) rfl rfl Kz) ?_
  refine jv_Wp.lift (fun _ Kz => jv_Ev.steps jv_i42 2 (pc' := 8) (l' := [(6, .int (vr_b (vc_F w).bit3)), (0, .ref 10), (1, .long w), (3, .int (vr_b wd)), (4, .ref (12 + 2 + (vc_F w).d)), (5, .ref 166)]) (st' := [.int (vr_b (vc_F w).bit3)]) rfl Kz) ?_
  refine jv_Wp.cnd jv_i42 (pt := 19) (pe := 11) (p := ((vr_b (vc_F w).bit3) = 0)) (q := ((vr_b (vc_F w).bit3) = 0)) rfl jv_bi_eq rfl rfl Iff.rfl (fun _ => ?_) (fun hz => absurd (by rw [hb]; rfl) hz)
  refine jv_Wp.lift (fun _ Kz => jv_Ev.steps jv_i42 1 (pc' := 20) (l' := [(6, .int (vr_b (vc_F w).bit3)), (0, .ref 10), (1, .long w), (3, .int (vr_b wd)), (4, .ref (12 + 2 + (vc_F w).d)), (5, .ref 166)]) (st' := [.int (vr_b wd)]) rfl Kz) ?_
  refine jv_Wp.cnd jv_i42 (pt := 31) (pe := 23) (p := ((vr_b wd) = 0)) (q := ((vr_b wd) = 0)) rfl jv_bi_eq rfl rfl Iff.rfl (fun h1 => ?_) (fun h1 => ?_)
  · refine jv_Wp.lift (fun _ Kz => jv_Ev.steps jv_i42 5 (pc' := 38) (l' := [(7, .long ((w.toUInt64 >>> ((32 : Int32).toInt64.toUInt64 &&& Int64.toUInt64 63)).toInt64)), (6, .int (vr_b (vc_F w).bit3)), (0, .ref 10), (1, .long w), (3, .int (vr_b wd)), (4, .ref (12 + 2 + (vc_F w).d)), (5, .ref 166)]) (st' := [.ref 10]) rfl Kz) ?_
    refine jv_Wp.lift (fun _ Kz => jv_Ev.m jv_i42 (pc' := 41) (st' := [.ref 166]) (G' := (jv_H K I L R)) rfl rfl (jv_m_getR hC.k rfl rfl hC.rconst) Kz) ?_
    refine jv_Wp.lift (fun _ Kz => jv_Ev.steps jv_i42 1 (pc' := 43) (l' := [(7, .long ((w.toUInt64 >>> ((32 : Int32).toInt64.toUInt64 &&& Int64.toUInt64 63)).toInt64)), (6, .int (vr_b (vc_F w).bit3)), (0, .ref 10), (1, .long w), (3, .int (vr_b wd)), (4, .ref (12 + 2 + (vc_F w).d)), (5, .ref 166)]) (st' := [.long ((w.toUInt64 >>> ((32 : Int32).toInt64.toUInt64 &&& Int64.toUInt64 63)).toInt64), .ref 166]) rfl Kz) ?_
    obtain ⟨I12, L12, H12, T12, O12, F12⟩ := vc_just (I := I) (L := L) (R := R) (n := n) (sl := sl) ((w.toUInt64 >>> ((32 : Int32).toInt64.toUInt64 &&& Int64.toUInt64 63)).toInt64) hC.k166
    refine jv_Wp.lift (fun _ Kz => jv_Ev.c jv_i42 (pc' := 46) (S' := []) (G1 := (jv_H K I12 L12 R)) jv_i143 [.ref 166, .long ((w.toUInt64 >>> ((32 : Int32).toInt64.toUInt64 &&& Int64.toUInt64 63)).toInt64)] rfl rfl rfl rfl (jv_cal rfl (jv_H_at hC.k166) rfl rfl) rfl H12 rfl rfl Kz) ?_
    refine jv_Wp.lift (fun _ Kz => jv_Ev.steps jv_i42 1 (pc' := 47) (l' := [(7, .long ((w.toUInt64 >>> ((32 : Int32).toInt64.toUInt64 &&& Int64.toUInt64 63)).toInt64)), (6, .int (vr_b (vc_F w).bit3)), (0, .ref 10), (1, .long w), (3, .int (vr_b wd)), (4, .ref (12 + 2 + (vc_F w).d)), (5, .ref 166)]) (st' := [.int (vr_b wd)]) rfl Kz) ?_
    refine jv_Wp.cnd jv_i42 (pt := 67) (pe := 50) (p := (¬ (vr_b wd) = 0)) (q := (¬ (vr_b wd) = 0)) rfl jv_bi_ne rfl rfl Iff.rfl (fun hz => absurd hz (fun z => z h1)) (fun _ => ?_)
    refine jv_Wp.lift (fun _ Kz => jv_Ev.steps jv_i42 1 (pc' := 52) (l' := [(7, .long ((w.toUInt64 >>> ((32 : Int32).toInt64.toUInt64 &&& Int64.toUInt64 63)).toInt64)), (6, .int (vr_b (vc_F w).bit3)), (0, .ref 10), (1, .long w), (3, .int (vr_b wd)), (4, .ref (12 + 2 + (vc_F w).d)), (5, .ref 166)]) (st' := [.ref (12 + 2 + (vc_F w).d)]) rfl Kz) ?_
    obtain ⟨I13, L13, H13, ei13, el13⟩ := vc_isSmall (I := I12) (L := L12) (R := R) (n := n) (sl := sl) (Or.inr (hC.now.kk _ (vw_d75 w)))
    rw [ei13, el13] at H13
    refine jv_Wp.lift (fun _ Kz => jv_Ev.c jv_i42 (pc' := 55) (S' := [.int (vr_b (vx_small (vl_S L12 (12 + 2 + (vc_F w).d))))]) jv_i43 [.ref (12 + 2 + (vc_F w).d)] rfl rfl rfl rfl rfl rfl H13 rfl rfl Kz) ?_
    refine jv_Wp.cnd jv_i42 (pt := 66) (pe := 58) (p := ((vr_b (vx_small (vl_S L12 (12 + 2 + (vc_F w).d)))) = 0)) (q := ((vr_b (vx_small (vl_S L12 (12 + 2 + (vc_F w).d)))) = 0)) rfl jv_bi_eq rfl rfl Iff.rfl (fun h2 => ?_) (fun h2 => ?_)
    · refine jv_Wp.loc (l := [(0, .ref 10), (1, .long w), (3, .int (vr_b wd)), (4, .ref (12 + 2 + (vc_F w).d)), (5, .ref 166), (7, .long ((w.toUInt64 >>> ((32 : Int32).toInt64.toUInt64 &&& Int64.toUInt64 63)).toInt64))]) ⟨List.forall_mem_cons.mpr ⟨.tail _ (.tail _ (.head _)), List.forall_mem_cons.mpr ⟨.tail _ (.tail _ (.tail _ (.head _))), List.forall_mem_cons.mpr ⟨.tail _ (.tail _ (.tail _ (.tail _ (.head _)))), List.forall_mem_cons.mpr ⟨.tail _ (.tail _ (.tail _ (.tail _ (.tail _ (.head _))))), List.forall_mem_cons.mpr ⟨.tail _ (.tail _ (.tail _ (.tail _ (.tail _ (.tail _ (.head _)))))), List.forall_mem_cons.mpr ⟨.head _, fun _ h => absurd h List.not_mem_nil⟩⟩⟩⟩⟩⟩, by show List.Nodup [7, 6, 0, 1, 3, 4, 5]; decide⟩ ?_
      refine jv_Wp.of (jv_Ev.ret jv_i42 rfl rfl) ?_
      rw [hQ]
      have ew : wd = false := by cases wd <;> first | rfl | exact absurd h1 (by decide)
      have eD : ((vc_A I L 12).1 (vc_F w).d).val = vl_S L (12 + 2 + (vc_F w).d) := by rw [vc_A1 hd75]; exact vc_valv (Or.inl i1)
      have gD : vl_S L12 (12 + 2 + (vc_F w).d) = vl_S L (12 + 2 + (vc_F w).d) := vl_S_ext (fun f => (F12 (12 + 2 + (vc_F w).d) (by omega)).2 f)
      have gY : vl_S L12 166 = (if wd = true then vx_just (vc_F w).i else vb_just (BitVec.ofInt 64 ((vc_F w).i % 4294967296))) := (vc_valv (Or.inl ((vc_is1 O12).mp (by rw [T12]; rfl)))).symm.trans (by rw [T12, ew, if_neg (by decide), vw_num] <;> rfl)
      have sm : ¬ (vx_small ((vc_A I L 12).1 (vc_F w).d).val = true ∧ vx_small (if wd = true then vx_just (vc_F w).i else vb_just (BitVec.ofInt 64 ((vc_F w).i % 4294967296))) = true) := fun z => by
        have q := vr_b_f h2
        rw [gD, ← eD] at q; rw [z.1] at q; exact absurd q (by decide)
      exact ⟨_, _, rfl, fun _ => ⟨vc_fr_A F12 (fun p z => by unfold vc_in at z; omega), (vc_fr_A F12 (fun p z => by unfold vc_in at z; omega)).trans e89, fun f => (F12 10 (by decide)).1 f⟩, fun z => absurd (⟨ew, sm⟩) z, vc_fr_okA F12 (fun p z => by unfold vc_in at z; omega) oa, vc_fr_okA F12 (fun p z => by unfold vc_in at z; omega) oj, vc_fr_mono F12 (fun p z => Or.inr (Or.inr (Or.inl z))), fun f => ⟨(F12 12 (by decide)).1 f, (F12 89 (by decide)).1 f, fun _ _ => (F12 10 (by decide)).1 f⟩⟩
    · refine jv_Wp.lift (fun _ Kz => jv_Ev.steps jv_i42 1 (pc' := 60) (l' := [(7, .long ((w.toUInt64 >>> ((32 : Int32).toInt64.toUInt64 &&& Int64.toUInt64 63)).toInt64)), (6, .int (vr_b (vc_F w).bit3)), (0, .ref 10), (1, .long w), (3, .int (vr_b wd)), (4, .ref (12 + 2 + (vc_F w).d)), (5, .ref 166)]) (st' := [.ref 166]) rfl Kz) ?_
      obtain ⟨I14, L14, H14, ei14, el14⟩ := vc_isSmall (I := I12) (L := L12) (R := R) (n := n) (sl := sl) (Or.inr hC.k166)
      rw [ei14, el14] at H14
      refine jv_Wp.lift (fun _ Kz => jv_Ev.c jv_i42 (pc' := 63) (S' := [.int (vr_b (vx_small (vl_S L12 166)))]) jv_i43 [.ref 166] rfl rfl rfl rfl rfl rfl H14 rfl rfl Kz) ?_
      refine jv_Wp.cnd jv_i42 (pt := 67) (pe := 66) (p := (¬ (vr_b (vx_small (vl_S L12 166))) = 0)) (q := (¬ (vr_b (vx_small (vl_S L12 166))) = 0)) rfl jv_bi_ne rfl rfl Iff.rfl (fun h3 => ?_) (fun h3 => ?_)
      · refine jv_Wp.lift (fun _ Kz => jv_Ev.steps jv_i42 2 (pc' := 71) (l' := [(7, .long ((w.toUInt64 >>> ((32 : Int32).toInt64.toUInt64 &&& Int64.toUInt64 63)).toInt64)), (6, .int (vr_b (vc_F w).bit3)), (0, .ref 10), (1, .long w), (3, .int (vr_b wd)), (4, .ref (12 + 2 + (vc_F w).d)), (5, .ref 166)]) (st' := [.long w, .ref (1000000 + 0)]) rfl Kz) ?_
        refine jv_Wp.lift (fun _ Kz => jv_Ev.c jv_i42 (pc' := 74) (S' := [.int (vl_I (vc_F w).n), .ref (1000000 + 0)]) jv_i82 [.long w] rfl rfl rfl rfl rfl rfl (vw_m82 w) rfl rfl Kz) ?_
        refine jv_Wp.lift (fun _ Kz => jv_Ev.m jv_i42 (pc' := 75) (st' := [.int (I12 (1000000 + 0) (vl_I (vc_F w).n).toNatClampNeg)]) (G' := (jv_H K I12 L12 R)) rfl rfl (jv_m_ialdv hct rfl (vl_I_ix hn16 (by decide)) rfl rfl) Kz) ?_
        refine jv_Wp.lift (fun _ Kz => jv_Ev.steps jv_i42 2 (pc' := 78) (l' := [(9, .int (I12 (1000000 + 0) (vl_I (vc_F w).n).toNatClampNeg)), (7, .long ((w.toUInt64 >>> ((32 : Int32).toInt64.toUInt64 &&& Int64.toUInt64 63)).toInt64)), (6, .int (vr_b (vc_F w).bit3)), (0, .ref 10), (1, .long w), (3, .int (vr_b wd)), (4, .ref (12 + 2 + (vc_F w).d)), (5, .ref 166)]) (st' := [.ref 10]) rfl Kz) ?_
        refine jv_Wp.lift (fun _ Kz => jv_Ev.m jv_i42 (pc' := 81) (st' := [.ref 89]) (G' := (jv_H K I12 L12 R)) rfl rfl (jv_m_getR hC.k rfl rfl hC.rjumped) Kz) ?_
        refine jv_Wp.lift (fun _ Kz => jv_Ev.m jv_i42 (pc' := 84) (st' := [.ref (89 + 1)]) (G' := (jv_H K I12 L12 R)) rfl rfl (jv_m_getR hC.jumped.k rfl rfl hC.jumped.r) Kz) ?_
        refine jv_Wp.lift (fun _ Kz => jv_Ev.steps jv_i42 1 (pc' := 85) (l' := [(9, .int (I12 (1000000 + 0) (vl_I (vc_F w).n).toNatClampNeg)), (7, .long ((w.toUInt64 >>> ((32 : Int32).toInt64.toUInt64 &&& Int64.toUInt64 63)).toInt64)), (6, .int (vr_b (vc_F w).bit3)), (0, .ref 10), (1, .long w), (3, .int (vr_b wd)), (4, .ref (12 + 2 + (vc_F w).d)), (5, .ref 166)]) (st' := [.long w, .ref (89 + 1)]) rfl Kz) ?_
        refine jv_Wp.lift (fun _ Kz => jv_Ev.c jv_i42 (pc' := 88) (S' := [.int (vl_I (vc_F w).d), .ref (89 + 1)]) jv_i86 [.long w] rfl rfl rfl rfl rfl rfl (vw_m86 w) rfl rfl Kz) ?_
        refine jv_Wp.lift (fun _ Kz => jv_Ev.m jv_i42 (pc' := 89) (st' := [.ref (89 + 2 + (vc_F w).d)]) (G' := (jv_H K I12 L12 R)) rfl rfl (jv_m_aaldR hC.jumped.kt rfl (vl_I_ix (vw_d75 w) (by decide)) rfl (vc_St_rt hC.jumped hd75)) Kz) ?_
        refine jv_Wp.lift (fun _ Kz => jv_Ev.steps jv_i42 2 (pc' := 93) (l' := [(10, .ref (89 + 2 + (vc_F w).d)), (9, .int (I12 (1000000 + 0) (vl_I (vc_F w).n).toNatClampNeg)), (7, .long ((w.toUInt64 >>> ((32 : Int32).toInt64.toUInt64 &&& Int64.toUInt64 63)).toInt64)), (6, .int (vr_b (vc_F w).bit3)), (0, .ref 10), (1, .long w), (3, .int (vr_b wd)), (4, .ref (12 + 2 + (vc_F w).d)), (5, .ref 166)]) (st' := [.int (vr_b (vc_F w).bit3)]) rfl Kz) ?_
        refine jv_Wp.cnd jv_i42 (pt := 111) (pe := 96) (p := ((vr_b (vc_F w).bit3) = 0)) (q := ((vr_b (vc_F w).bit3) = 0)) rfl jv_bi_eq rfl rfl Iff.rfl (fun _ => ?_) (fun hz => absurd (by rw [hb]; rfl) hz)
        refine jv_Wp.lift (fun _ Kz => jv_Ev.steps jv_i42 1 (pc' := 112) (l' := [(10, .ref (89 + 2 + (vc_F w).d)), (9, .int (I12 (1000000 + 0) (vl_I (vc_F w).n).toNatClampNeg)), (7, .long ((w.toUInt64 >>> ((32 : Int32).toInt64.toUInt64 &&& Int64.toUInt64 63)).toInt64)), (6, .int (vr_b (vc_F w).bit3)), (0, .ref 10), (1, .long w), (3, .int (vr_b wd)), (4, .ref (12 + 2 + (vc_F w).d)), (5, .ref 166)]) (st' := [.ref 10]) rfl Kz) ?_
        refine jv_Wp.lift (fun _ Kz => jv_Ev.m jv_i42 (pc' := 115) (st' := [.ref 166]) (G' := (jv_H K I12 L12 R)) rfl rfl (jv_m_getR hC.k rfl rfl hC.rconst) Kz) ?_
        refine jv_Wp.lift (fun _ Kz => jv_Ev.steps jv_i42 1 (pc' := 117) (l' := [(11, .ref 166), (10, .ref (89 + 2 + (vc_F w).d)), (9, .int (I12 (1000000 + 0) (vl_I (vc_F w).n).toNatClampNeg)), (7, .long ((w.toUInt64 >>> ((32 : Int32).toInt64.toUInt64 &&& Int64.toUInt64 63)).toInt64)), (6, .int (vr_b (vc_F w).bit3)), (0, .ref 10), (1, .long w), (3, .int (vr_b wd)), (4, .ref (12 + 2 + (vc_F w).d)), (5, .ref 166)]) (st' := []) rfl Kz) ?_
        refine jv_Wp.loc (l := [(0, .ref 10), (1, .long w), (3, .int (vr_b wd)), (4, .ref (12 + 2 + (vc_F w).d)), (5, .ref 166), (7, .long ((w.toUInt64 >>> ((32 : Int32).toInt64.toUInt64 &&& Int64.toUInt64 63)).toInt64)), (9, .int (I12 (1000000 + 0) (vl_I (vc_F w).n).toNatClampNeg)), (10, .ref (89 + 2 + (vc_F w).d)), (11, .ref 166)]) ⟨List.forall_mem_cons.mpr ⟨.tail _ (.tail _ (.tail _ (.tail _ (.tail _ (.head _))))), List.forall_mem_cons.mpr ⟨.tail _ (.tail _ (.tail _ (.tail _ (.tail _ (.tail _ (.head _)))))), List.forall_mem_cons.mpr ⟨.tail _ (.tail _ (.tail _ (.tail _ (.tail _ (.tail _ (.tail _ (.head _))))))), List.forall_mem_cons.mpr ⟨.tail _ (.tail _ (.tail _ (.tail _ (.tail _ (.tail _ (.tail _ (.tail _ (.head _)))))))), List.forall_mem_cons.mpr ⟨.tail _ (.tail _ (.tail _ (.tail _ (.tail _ (.tail _ (.tail _ (.tail _ (.tail _ (.head _))))))))), List.forall_mem_cons.mpr ⟨.tail _ (.tail _ (.tail _ (.head _))), List.forall_mem_cons.mpr ⟨.tail _ (.tail _ (.head _)), List.forall_mem_cons.mpr ⟨.tail _ (.head _), List.forall_mem_cons.mpr ⟨.head _, fun _ h => absurd h List.not_mem_nil⟩⟩⟩⟩⟩⟩⟩⟩⟩, by show List.Nodup [11, 10, 9, 7, 6, 0, 1, 3, 4, 5]; decide⟩ ?_
        have ew : wd = false := by cases wd <;> first | rfl | exact absurd h1 (by decide)
        have eD : ((vc_A I L 12).1 (vc_F w).d).val = vl_S L (12 + 2 + (vc_F w).d) := by rw [vc_A1 hd75]; exact vc_valv (Or.inl i1)
        have gD : vl_S L12 (12 + 2 + (vc_F w).d) = vl_S L (12 + 2 + (vc_F w).d) := vl_S_ext (fun f => (F12 (12 + 2 + (vc_F w).d) (by omega)).2 f)
        have gY : vl_S L12 166 = (if wd = true then vx_just (vc_F w).i else vb_just (BitVec.ofInt 64 ((vc_F w).i % 4294967296))) := (vc_valv (Or.inl ((vc_is1 O12).mp (by rw [T12]; rfl)))).symm.trans (by rw [T12, ew, if_neg (by decide), vw_num] <;> rfl)
        have sd : vx_small ((vc_A I L 12).1 (vc_F w).d).val = true := by have q := vr_b_t h2; rw [gD, ← eD] at q; exact q
        have sy : vx_small (if wd = true then vx_just (vc_F w).i else vb_just (BitVec.ofInt 64 ((vc_F w).i % 4294967296))) = true := by have q := vr_b_t h3; rw [gY] at q; exact q
        have nsk : ¬ ((wd = false ∧ ¬ (vx_small ((vc_A I L 12).1 (vc_F w).d).val = true ∧ vx_small (if wd = true then vx_just (vc_F w).i else vb_just (BitVec.ofInt 64 ((vc_F w).i % 4294967296))) = true))) := by
          exact fun z => z.2 ⟨sd, sy⟩
        have ec : (I12 (1000000 + 0) (vl_I (vc_F w).n).toNatClampNeg) = vl_I (vx_cmp (vc_F w).n) := by rw [vl_I_nat (by omega)]; exact ((F12 1000000 (by decide)).1 _).trans (hcv _ hn16)
        rw [ec]
        have G : ∀ p, p ≠ 166 → (∀ f, I12 p f = I p f) ∧ ∀ f, L12 p f = L p f := F12
        have ex : vl_S L12 (89 + 2 + (vc_F w).d) = ((vc_A I L 12).1 (vc_F w).d).val := by
          have q : vc_T I L (89 + 2 + (vc_F w).d) = vc_T I L (12 + 2 + (vc_F w).d) := by rw [← vc_A1 (a := 89) hd75, ← vc_A1 (a := 12) hd75, e89]
          have q1 : I (89 + 2 + (vc_F w).d) 6 = 1 := (vc_is1 (oj _ hd75)).mp (by rw [q]; exact (vc_is1 (oa _ hd75)).mpr i1)
          rw [vl_S_ext (fun f => (F12 (89 + 2 + (vc_F w).d) (by omega)).2 f), ← vc_valv (Or.inl q1), q, vc_A1 hd75]
        refine jv_Wp.mono (vc_ctail (I := I12) (L := L12) w ((w.toUInt64 >>> ((32 : Int32).toInt64.toUInt64 &&& Int64.toUInt64 63)).toInt64) wd (vx_cmp (vc_F w).n) hC (vx_cmp_le _) hst (fun k hk => (G _ (by omega)).1 k |>.trans (hov k hk)) (hC.jumped.kk _ hd75) hC.k166 (hC.now.kk _ hd75) hC.k166 (by omega) (by omega) (by omega) (by omega) (by omega) (by omega) (by omega) (Or.inl ⟨rfl, rfl⟩) (fun _ => (vc_valv (Or.inl ((vc_is1 O12).mp (by rw [T12]; rfl)))).symm.trans (by rw [T12]; rfl)) rfl) ?_
        rintro X ⟨I9, L9, eX, c1, c2, c3, c4, c5, c6, c7, c8⟩
        rw [gD, ← eD, gY] at c1 c4
        rw [ex, gY] at c2 c3
        rw [hQ]
        obtain ⟨q1, q2, q3⟩ := vc_cmpI (w := w) (I := I) (L := L) (I1 := I12) (L1 := L12) hb hd75 G i1 oa oj e89 c3 c4 c5 c6 c7
        refine ⟨I9, L9, eX, fun z => absurd z nsk, fun _ => ⟨by rw [c1, (G 10 (by decide)).1], by rw [c2, (G 10 (by decide)).1], q1⟩, q2.1, q2.2, q3, fun f => ⟨(c7 12 (by decide) (by decide) f).trans ((G 12 (by decide)).1 f), (c7 89 (by decide) (by decide) f).trans ((G 89 (by decide)).1 f), fun h9 h10 => (c8 f h9 h10).trans ((G 10 (by decide)).1 f)⟩⟩
      · refine jv_Wp.loc (l := [(0, .ref 10), (1, .long w), (3, .int (vr_b wd)), (4, .ref (12 + 2 + (vc_F w).d)), (5, .ref 166), (7, .long ((w.toUInt64 >>> ((32 : Int32).toInt64.toUInt64 &&& Int64.toUInt64 63)).toInt64))]) ⟨List.forall_mem_cons.mpr ⟨.tail _ (.tail _ (.head _)), List.forall_mem_cons.mpr ⟨.tail _ (.tail _ (.tail _ (.head _))), List.forall_mem_cons.mpr ⟨.tail _ (.tail _ (.tail _ (.tail _ (.head _)))), List.forall_mem_cons.mpr ⟨.tail _ (.tail _ (.tail _ (.tail _ (.tail _ (.head _))))), List.forall_mem_cons.mpr ⟨.tail _ (.tail _ (.tail _ (.tail _ (.tail _ (.tail _ (.head _)))))), List.forall_mem_cons.mpr ⟨.head _, fun _ h => absurd h List.not_mem_nil⟩⟩⟩⟩⟩⟩, by show List.Nodup [7, 6, 0, 1, 3, 4, 5]; decide⟩ ?_
        refine jv_Wp.of (jv_Ev.ret jv_i42 rfl rfl) ?_
        rw [hQ]
        have ew : wd = false := by cases wd <;> first | rfl | exact absurd h1 (by decide)
        have eD : ((vc_A I L 12).1 (vc_F w).d).val = vl_S L (12 + 2 + (vc_F w).d) := by rw [vc_A1 hd75]; exact vc_valv (Or.inl i1)
        have gD : vl_S L12 (12 + 2 + (vc_F w).d) = vl_S L (12 + 2 + (vc_F w).d) := vl_S_ext (fun f => (F12 (12 + 2 + (vc_F w).d) (by omega)).2 f)
        have gY : vl_S L12 166 = (if wd = true then vx_just (vc_F w).i else vb_just (BitVec.ofInt 64 ((vc_F w).i % 4294967296))) := (vc_valv (Or.inl ((vc_is1 O12).mp (by rw [T12]; rfl)))).symm.trans (by rw [T12, ew, if_neg (by decide), vw_num] <;> rfl)
        have sm : ¬ (vx_small ((vc_A I L 12).1 (vc_F w).d).val = true ∧ vx_small (if wd = true then vx_just (vc_F w).i else vb_just (BitVec.ofInt 64 ((vc_F w).i % 4294967296))) = true) := fun z => by
          have q := vr_b_f (Classical.not_not.mp h3)
          rw [gY] at q; rw [z.2] at q; exact absurd q (by decide)
        exact ⟨_, _, rfl, fun _ => ⟨vc_fr_A F12 (fun p z => by unfold vc_in at z; omega), (vc_fr_A F12 (fun p z => by unfold vc_in at z; omega)).trans e89, fun f => (F12 10 (by decide)).1 f⟩, fun z => absurd (⟨ew, sm⟩) z, vc_fr_okA F12 (fun p z => by unfold vc_in at z; omega) oa, vc_fr_okA F12 (fun p z => by unfold vc_in at z; omega) oj, vc_fr_mono F12 (fun p z => Or.inr (Or.inr (Or.inl z))), fun f => ⟨(F12 12 (by decide)).1 f, (F12 89 (by decide)).1 f, fun _ _ => (F12 10 (by decide)).1 f⟩⟩
  · refine jv_Wp.lift (fun _ Kz => jv_Ev.steps jv_i42 1 (pc' := 24) (l' := [(6, .int (vr_b (vc_F w).bit3)), (0, .ref 10), (1, .long w), (3, .int (vr_b wd)), (4, .ref (12 + 2 + (vc_F w).d)), (5, .ref 166)]) (st' := [.long w]) rfl Kz) ?_
    refine jv_Wp.lift (fun _ Kz => jv_Ev.c jv_i42 (pc' := 27) (S' := [.int (jv_wfimmediate w)]) jv_i89 [.long w] rfl rfl rfl rfl rfl rfl (jv_s89 w) rfl rfl Kz) ?_
    refine jv_Wp.lift (fun _ Kz => jv_Ev.steps jv_i42 4 (pc' := 38) (l' := [(7, .long (jv_wfimmediate w).toInt64), (6, .int (vr_b (vc_F w).bit3)), (0, .ref 10), (1, .long w), (3, .int (vr_b wd)), (4, .ref (12 + 2 + (vc_F w).d)), (5, .ref 166)]) (st' := [.ref 10]) rfl Kz) ?_
    refine jv_Wp.lift (fun _ Kz => jv_Ev.m jv_i42 (pc' := 41) (st' := [.ref 166]) (G' := (jv_H K I L R)) rfl rfl (jv_m_getR hC.k rfl rfl hC.rconst) Kz) ?_
    refine jv_Wp.lift (fun _ Kz => jv_Ev.steps jv_i42 1 (pc' := 43) (l' := [(7, .long (jv_wfimmediate w).toInt64), (6, .int (vr_b (vc_F w).bit3)), (0, .ref 10), (1, .long w), (3, .int (vr_b wd)), (4, .ref (12 + 2 + (vc_F w).d)), (5, .ref 166)]) (st' := [.long (jv_wfimmediate w).toInt64, .ref 166]) rfl Kz) ?_
    obtain ⟨I15, L15, H15, T15, O15, F15⟩ := vc_just (I := I) (L := L) (R := R) (n := n) (sl := sl) (jv_wfimmediate w).toInt64 hC.k166
    refine jv_Wp.lift (fun _ Kz => jv_Ev.c jv_i42 (pc' := 46) (S' := []) (G1 := (jv_H K I15 L15 R)) jv_i143 [.ref 166, .long (jv_wfimmediate w).toInt64] rfl rfl rfl rfl (jv_cal rfl (jv_H_at hC.k166) rfl rfl) rfl H15 rfl rfl Kz) ?_
    refine jv_Wp.lift (fun _ Kz => jv_Ev.steps jv_i42 1 (pc' := 47) (l' := [(7, .long (jv_wfimmediate w).toInt64), (6, .int (vr_b (vc_F w).bit3)), (0, .ref 10), (1, .long w), (3, .int (vr_b wd)), (4, .ref (12 + 2 + (vc_F w).d)), (5, .ref 166)]) (st' := [.int (vr_b wd)]) rfl Kz) ?_
    refine jv_Wp.cnd jv_i42 (pt := 67) (pe := 50) (p := (¬ (vr_b wd) = 0)) (q := (¬ (vr_b wd) = 0)) rfl jv_bi_ne rfl rfl Iff.rfl (fun _ => ?_) (fun hz => absurd h1 hz)
    refine jv_Wp.lift (fun _ Kz => jv_Ev.steps jv_i42 2 (pc' := 71) (l' := [(7, .long (jv_wfimmediate w).toInt64), (6, .int (vr_b (vc_F w).bit3)), (0, .ref 10), (1, .long w), (3, .int (vr_b wd)), (4, .ref (12 + 2 + (vc_F w).d)), (5, .ref 166)]) (st' := [.long w, .ref (1000000 + 0)]) rfl Kz) ?_
    refine jv_Wp.lift (fun _ Kz => jv_Ev.c jv_i42 (pc' := 74) (S' := [.int (vl_I (vc_F w).n), .ref (1000000 + 0)]) jv_i82 [.long w] rfl rfl rfl rfl rfl rfl (vw_m82 w) rfl rfl Kz) ?_
    refine jv_Wp.lift (fun _ Kz => jv_Ev.m jv_i42 (pc' := 75) (st' := [.int (I15 (1000000 + 0) (vl_I (vc_F w).n).toNatClampNeg)]) (G' := (jv_H K I15 L15 R)) rfl rfl (jv_m_ialdv hct rfl (vl_I_ix hn16 (by decide)) rfl rfl) Kz) ?_
    refine jv_Wp.lift (fun _ Kz => jv_Ev.steps jv_i42 2 (pc' := 78) (l' := [(9, .int (I15 (1000000 + 0) (vl_I (vc_F w).n).toNatClampNeg)), (7, .long (jv_wfimmediate w).toInt64), (6, .int (vr_b (vc_F w).bit3)), (0, .ref 10), (1, .long w), (3, .int (vr_b wd)), (4, .ref (12 + 2 + (vc_F w).d)), (5, .ref 166)]) (st' := [.ref 10]) rfl Kz) ?_
    refine jv_Wp.lift (fun _ Kz => jv_Ev.m jv_i42 (pc' := 81) (st' := [.ref 89]) (G' := (jv_H K I15 L15 R)) rfl rfl (jv_m_getR hC.k rfl rfl hC.rjumped) Kz) ?_
    refine jv_Wp.lift (fun _ Kz => jv_Ev.m jv_i42 (pc' := 84) (st' := [.ref (89 + 1)]) (G' := (jv_H K I15 L15 R)) rfl rfl (jv_m_getR hC.jumped.k rfl rfl hC.jumped.r) Kz) ?_
    refine jv_Wp.lift (fun _ Kz => jv_Ev.steps jv_i42 1 (pc' := 85) (l' := [(9, .int (I15 (1000000 + 0) (vl_I (vc_F w).n).toNatClampNeg)), (7, .long (jv_wfimmediate w).toInt64), (6, .int (vr_b (vc_F w).bit3)), (0, .ref 10), (1, .long w), (3, .int (vr_b wd)), (4, .ref (12 + 2 + (vc_F w).d)), (5, .ref 166)]) (st' := [.long w, .ref (89 + 1)]) rfl Kz) ?_
    refine jv_Wp.lift (fun _ Kz => jv_Ev.c jv_i42 (pc' := 88) (S' := [.int (vl_I (vc_F w).d), .ref (89 + 1)]) jv_i86 [.long w] rfl rfl rfl rfl rfl rfl (vw_m86 w) rfl rfl Kz) ?_
    refine jv_Wp.lift (fun _ Kz => jv_Ev.m jv_i42 (pc' := 89) (st' := [.ref (89 + 2 + (vc_F w).d)]) (G' := (jv_H K I15 L15 R)) rfl rfl (jv_m_aaldR hC.jumped.kt rfl (vl_I_ix (vw_d75 w) (by decide)) rfl (vc_St_rt hC.jumped hd75)) Kz) ?_
    refine jv_Wp.lift (fun _ Kz => jv_Ev.steps jv_i42 2 (pc' := 93) (l' := [(10, .ref (89 + 2 + (vc_F w).d)), (9, .int (I15 (1000000 + 0) (vl_I (vc_F w).n).toNatClampNeg)), (7, .long (jv_wfimmediate w).toInt64), (6, .int (vr_b (vc_F w).bit3)), (0, .ref 10), (1, .long w), (3, .int (vr_b wd)), (4, .ref (12 + 2 + (vc_F w).d)), (5, .ref 166)]) (st' := [.int (vr_b (vc_F w).bit3)]) rfl Kz) ?_
    refine jv_Wp.cnd jv_i42 (pt := 111) (pe := 96) (p := ((vr_b (vc_F w).bit3) = 0)) (q := ((vr_b (vc_F w).bit3) = 0)) rfl jv_bi_eq rfl rfl Iff.rfl (fun _ => ?_) (fun hz => absurd (by rw [hb]; rfl) hz)
    refine jv_Wp.lift (fun _ Kz => jv_Ev.steps jv_i42 1 (pc' := 112) (l' := [(10, .ref (89 + 2 + (vc_F w).d)), (9, .int (I15 (1000000 + 0) (vl_I (vc_F w).n).toNatClampNeg)), (7, .long (jv_wfimmediate w).toInt64), (6, .int (vr_b (vc_F w).bit3)), (0, .ref 10), (1, .long w), (3, .int (vr_b wd)), (4, .ref (12 + 2 + (vc_F w).d)), (5, .ref 166)]) (st' := [.ref 10]) rfl Kz) ?_
    refine jv_Wp.lift (fun _ Kz => jv_Ev.m jv_i42 (pc' := 115) (st' := [.ref 166]) (G' := (jv_H K I15 L15 R)) rfl rfl (jv_m_getR hC.k rfl rfl hC.rconst) Kz) ?_
    refine jv_Wp.lift (fun _ Kz => jv_Ev.steps jv_i42 1 (pc' := 117) (l' := [(11, .ref 166), (10, .ref (89 + 2 + (vc_F w).d)), (9, .int (I15 (1000000 + 0) (vl_I (vc_F w).n).toNatClampNeg)), (7, .long (jv_wfimmediate w).toInt64), (6, .int (vr_b (vc_F w).bit3)), (0, .ref 10), (1, .long w), (3, .int (vr_b wd)), (4, .ref (12 + 2 + (vc_F w).d)), (5, .ref 166)]) (st' := []) rfl Kz) ?_
    refine jv_Wp.loc (l := [(0, .ref 10), (1, .long w), (3, .int (vr_b wd)), (4, .ref (12 + 2 + (vc_F w).d)), (5, .ref 166), (7, .long (jv_wfimmediate w).toInt64), (9, .int (I15 (1000000 + 0) (vl_I (vc_F w).n).toNatClampNeg)), (10, .ref (89 + 2 + (vc_F w).d)), (11, .ref 166)]) ⟨List.forall_mem_cons.mpr ⟨.tail _ (.tail _ (.tail _ (.tail _ (.tail _ (.head _))))), List.forall_mem_cons.mpr ⟨.tail _ (.tail _ (.tail _ (.tail _ (.tail _ (.tail _ (.head _)))))), List.forall_mem_cons.mpr ⟨.tail _ (.tail _ (.tail _ (.tail _ (.tail _ (.tail _ (.tail _ (.head _))))))), List.forall_mem_cons.mpr ⟨.tail _ (.tail _ (.tail _ (.tail _ (.tail _ (.tail _ (.tail _ (.tail _ (.head _)))))))), List.forall_mem_cons.mpr ⟨.tail _ (.tail _ (.tail _ (.tail _ (.tail _ (.tail _ (.tail _ (.tail _ (.tail _ (.head _))))))))), List.forall_mem_cons.mpr ⟨.tail _ (.tail _ (.tail _ (.head _))), List.forall_mem_cons.mpr ⟨.tail _ (.tail _ (.head _)), List.forall_mem_cons.mpr ⟨.tail _ (.head _), List.forall_mem_cons.mpr ⟨.head _, fun _ h => absurd h List.not_mem_nil⟩⟩⟩⟩⟩⟩⟩⟩⟩, by show List.Nodup [11, 10, 9, 7, 6, 0, 1, 3, 4, 5]; decide⟩ ?_
    have ew : wd = true := by cases wd <;> first | rfl | exact absurd rfl h1
    have eD : ((vc_A I L 12).1 (vc_F w).d).val = vl_S L (12 + 2 + (vc_F w).d) := by rw [vc_A1 hd75]; exact vc_valv (Or.inl i1)
    have gD : vl_S L15 (12 + 2 + (vc_F w).d) = vl_S L (12 + 2 + (vc_F w).d) := vl_S_ext (fun f => (F15 (12 + 2 + (vc_F w).d) (by omega)).2 f)
    have gY : vl_S L15 166 = (if wd = true then vx_just (vc_F w).i else vb_just (BitVec.ofInt 64 ((vc_F w).i % 4294967296))) := (vc_valv (Or.inl ((vc_is1 O15).mp (by rw [T15]; rfl)))).symm.trans (by rw [T15, ew, if_pos rfl] <;> rfl)
    have nsk : ¬ ((wd = false ∧ ¬ (vx_small ((vc_A I L 12).1 (vc_F w).d).val = true ∧ vx_small (if wd = true then vx_just (vc_F w).i else vb_just (BitVec.ofInt 64 ((vc_F w).i % 4294967296))) = true))) := by
      exact fun z => by rw [ew] at z; exact absurd z.1 (by decide)
    have ec : (I15 (1000000 + 0) (vl_I (vc_F w).n).toNatClampNeg) = vl_I (vx_cmp (vc_F w).n) := by rw [vl_I_nat (by omega)]; exact ((F15 1000000 (by decide)).1 _).trans (hcv _ hn16)
    rw [ec]
    have G : ∀ p, p ≠ 166 → (∀ f, I15 p f = I p f) ∧ ∀ f, L15 p f = L p f := F15
    have ex : vl_S L15 (89 + 2 + (vc_F w).d) = ((vc_A I L 12).1 (vc_F w).d).val := by
      have q : vc_T I L (89 + 2 + (vc_F w).d) = vc_T I L (12 + 2 + (vc_F w).d) := by rw [← vc_A1 (a := 89) hd75, ← vc_A1 (a := 12) hd75, e89]
      have q1 : I (89 + 2 + (vc_F w).d) 6 = 1 := (vc_is1 (oj _ hd75)).mp (by rw [q]; exact (vc_is1 (oa _ hd75)).mpr i1)
      rw [vl_S_ext (fun f => (F15 (89 + 2 + (vc_F w).d) (by omega)).2 f), ← vc_valv (Or.inl q1), q, vc_A1 hd75]
    refine jv_Wp.mono (vc_ctail (I := I15) (L := L15) w (jv_wfimmediate w).toInt64 wd (vx_cmp (vc_F w).n) hC (vx_cmp_le _) hst (fun k hk => (G _ (by omega)).1 k |>.trans (hov k hk)) (hC.jumped.kk _ hd75) hC.k166 (hC.now.kk _ hd75) hC.k166 (by omega) (by omega) (by omega) (by omega) (by omega) (by omega) (by omega) (Or.inl ⟨rfl, rfl⟩) (fun _ => (vc_valv (Or.inl ((vc_is1 O15).mp (by rw [T15]; rfl)))).symm.trans (by rw [T15]; rfl)) rfl) ?_
    rintro X ⟨I9, L9, eX, c1, c2, c3, c4, c5, c6, c7, c8⟩
    rw [gD, ← eD, gY] at c1 c4
    rw [ex, gY] at c2 c3
    rw [hQ]
    obtain ⟨q1, q2, q3⟩ := vc_cmpI (w := w) (I := I) (L := L) (I1 := I15) (L1 := L15) hb hd75 G i1 oa oj e89 c3 c4 c5 c6 c7
    refine ⟨I9, L9, eX, fun z => absurd z nsk, fun _ => ⟨by rw [c1, (G 10 (by decide)).1], by rw [c2, (G 10 (by decide)).1], q1⟩, q2.1, q2.2, q3, fun f => ⟨(c7 12 (by decide) (by decide) f).trans ((G 12 (by decide)).1 f), (c7 89 (by decide) (by decide) f).trans ((G 89 (by decide)).1 f), fun h9 h10 => (c8 f h9 h10).trans ((G 10 (by decide)).1 f)⟩⟩