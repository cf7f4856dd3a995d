/-! part c13: what the reference asks of things; numbers that are cut (gen/tc13.py) -/
theorem vx_cut_just {a : BitVec 64} {m : Nat} (hm : m < 64) : vx_cut (vb_just a) m = vb_just (a &&& vb_lowest m) := by
  have ht := (vx_cut_in (x := vb_just a) (a := a) (m := m) (vb_just_mem a))
  have hp : ∀ k, vb_mem (vx_cut (vb_just a) m) k → k = a &&& vb_lowest m := fun k hk => by
    have e : vb_mem (vb_cCut (vb_just a) m) k := by
      have o : (vb_cCut (vb_just a) m).ones &&& (vb_cCut (vb_just a) m).mask = (vb_cCut (vb_just a) m).ones := vr_pat_ones (vb_cut_sound (vb_just_mem a)).1
      exact ((vb_tt_tight o (vb_cut_sound (vb_just_mem a))).2 k).mp hk
    have p : k &&& (vb_cCut (vb_just a) m).mask = (vb_cCut (vb_just a) m).ones := e.1
    have c : vb_cCut (vb_just a) m = ⟨vb_m1 ||| ~~~vb_lowest m, a &&& vb_lowest m, (vb_cCut (vb_just a) m).low, (vb_cCut (vb_just a) m).high, (vb_cCut (vb_just a) m).least, (vb_cCut (vb_just a) m).greatest⟩ := by
      unfold vb_cCut; rw [if_neg (by omega)]; rfl
    rw [c] at p
    have p : k &&& (vb_m1 ||| ~~~vb_lowest m) = a &&& vb_lowest m := p
    rw [← p]
    refine BitVec.eq_of_getLsbD_eq (fun i hi => ?_)
    rw [BitVec.getLsbD_and, BitVec.getLsbD_or]
    have : vb_m1 = BitVec.allOnes 64 := by decide
    rw [this, BitVec.getLsbD_allOnes, decide_eq_true hi]; simp
  have l := hp _ ht.1.low
  have h := hp _ ht.1.high
  rw [vb_tight_single ht.1 (l.trans h.symm), l]
theorem vb_low_low (a : BitVec 64) {m k : Nat} (hmk : m ≤ k) (hk : k < 64) : (a &&& vb_lowest k) &&& vb_lowest m = a &&& vb_lowest m := by
  refine BitVec.eq_of_getLsbD_eq (fun i hi => ?_)
  rw [BitVec.getLsbD_and, BitVec.getLsbD_and, BitVec.getLsbD_and, vb_lowest_bit k hi, vb_lowest_bit m hi]
  by_cases c : i < m
  · rw [decide_eq_true c, decide_eq_true (show i < k by omega)]; simp
  · rw [decide_eq_false c]; simp
theorem vx_cut_cut {a : BitVec 64} {m k : Nat} (hmk : m ≤ k) (hk : k < 64) : vx_cut (vx_cut (vb_just a) k) m = vx_cut (vb_just a) m := by
  rw [vx_cut_just hk, vx_cut_just (show m < 64 by omega), vx_cut_just (show m < 64 by omega), vb_low_low a hmk hk]
/-- of a number that is the instruction's own, 32 bits are enough -/
theorem vx_reckon_cut {f : vf_F} (hfa : vf_ar f) (h4 : f.kind = 4) (X : vb_S) (i : Int) : vx_reckon f X (vx_cut (vx_just i) 32) = vx_reckon f X (vx_just i) := by
  have e : ∀ n (z : vb_S), vx_op32 n z (vx_cut (vx_just i) 32) = vx_op32 n z (vx_just i) := fun n z => by
    unfold vx_op32 vx_just; rw [vx_cut_cut (Nat.le_refl _) (by decide)]
  have k7 : ¬ f.kind = 7 := by omega
  by_cases c13 : f.n = 13
  · rw [vx_rk13 c13, vx_rk13 c13]
  by_cases co : f.o ≠ 0
  · rw [vx_rko c13 co, vx_rko c13 co]
    by_cases c11 : f.n = 11
    · rw [if_pos c11, if_pos c11]
      have := hfa.2.2.2.1 c11 co
      have hm : f.o.toNat ≤ 32 := by omega
      show vx_cut (vb_tt (vb_cExt (vx_cut (vx_cut (vb_just (BitVec.ofInt 64 i)) 32) f.o.toNat) f.o.toNat)) _ = vx_cut (vb_tt (vb_cExt (vx_cut (vb_just (BitVec.ofInt 64 i)) f.o.toNat) f.o.toNat)) _
      rw [vx_cut_cut hm (by decide)]
    · rw [if_neg c11, if_neg c11]
  by_cases c8 : f.n = 8
  · rw [vx_rk8 c13 co c8, vx_rk8 c13 co c8]
  rw [vx_rkr c13 co c8, vx_rkr c13 co c8, decide_eq_false k7]
  exact e f.n X
theorem vx_reckon11 {f : vf_F} (h : f.n = 11) (x x' y : vb_S) : vx_reckon f x y = vx_reckon f x' y := by
  by_cases co : f.o ≠ 0
  · rw [vx_rko (by omega) co, vx_rko (by omega) co, if_pos h]
  · rw [vx_rkr (by omega) co (by omega), vx_rkr (by omega) co (by omega), h]; exact vx_rn11 _ _ _ _
theorem vx_reckon13 {f : vf_F} (h : f.n = 13) (x y y' : vb_S) : vx_reckon f x y = vx_reckon f x y' := by rw [vx_rk13 h, vx_rk13 h]
def vr_rd (s : Int32) : Nat := if s = 0 then 1 else 0
def vx_fst (a b : Nat) : Nat := if a = 0 then b else if b = 0 then a else if b ≤ a then b else a
def vr_mv (s : Int32) : Bool := decide (s = 2 ∨ s = 3 ∨ s = 4 ∨ s = 7)
theorem vr_mv_i (s : Int32) : vr_mv s = true ↔ (¬ s < 2 ∧ s ≤ 4) ∨ s = 7 := by
  unfold vr_mv
  rw [decide_eq_true_eq, Int32.lt_iff_toInt_lt, Int32.le_iff_toInt_le]
  have e2 : (2 : Int32).toInt = 2 := rfl
  have e4 : (4 : Int32).toInt = 4 := rfl
  rw [e2, e4]
  constructor
  · rintro (h | h | h | h)
    · left; rw [h]; decide
    · left; rw [h]; decide
    · left; rw [h]; decide
    · exact Or.inr h
  · rintro (h | h)
    · have c : s.toInt = 2 ∨ s.toInt = 3 ∨ s.toInt = 4 := by omega
      rcases c with c | c | c
      · exact Or.inl (Int32.toInt_inj.mp c)
      · exact Or.inr (Or.inl (Int32.toInt_inj.mp c))
      · exact Or.inr (Or.inr (Or.inl (Int32.toInt_inj.mp c)))
    · exact Or.inr (Or.inr (Or.inr h))
theorem jv_i283 : jv_I 283 2 (some .int) 2 42 jv_c283 := ⟨rfl, rfl, rfl, rfl, rfl⟩
theorem vq_reads_ {K : Nat → Option (Nat × Nat)} {I : Nat → Nat → Int32} {L : Nat → Nat → Int64} {R : Nat → Nat → Value} (k : Nat) (hW : jv_rW K R) (hk : k < 75) {n sl : Nat} : ∃ I1 L1, jv_Ms 283 [.ref 196, .int (vl_I k)] (jv_H K I L R) n sl (some (.int (vl_I (vr_rd (I 205 (76800 + k))))), jv_H K I1 L1 R, n, sl) ∧ I1 = I ∧ L1 = L := by
  obtain ⟨Q, hQ⟩ : ∃ Q : jv_R → Prop, Q = fun X => ∃ I1 L1, X = (some (.int (vl_I (vr_rd (I 205 (76800 + k))))), jv_H K I1 L1 R, n, sl) ∧ I1 = I ∧ L1 = L := ⟨_, rfl⟩
  suffices h : jv_Wp 283 0 [(0, .ref 196), (1, .int (vl_I k))] [] (jv_H K I L R) n sl Q by
    rw [hQ] at h
    obtain ⟨X, h, I1, L1, e, h'⟩ := h
    subst e
    exact ⟨I1, L1, h, h'⟩
  refine jv_Wp.lift (fun _ Kz => jv_Ev.steps jv_i283 2 (pc' := 2) (l' := [(0, .ref 196), (1, .int (vl_I k))]) (st' := [.int (vl_I k), .ref 196]) rfl Kz) ?_
  refine jv_Wp.lift (fun _ Kz => jv_Ev.c jv_i283 (pc' := 5) (S' := [.int (I 205 (76800 + k))]) jv_i271 [.ref 196, .int (vl_I k)] rfl rfl rfl rfl (jv_cal rfl (jv_H_at (jv_rwK hW 196 12 24 (by decide))) rfl rfl) rfl (vq_sortOf k hW (by omega)) rfl rfl Kz) ?_
  refine jv_Wp.cnd jv_i283 (pt := 12) (pe := 8) (p := (¬ (I 205 (76800 + k)) = 0)) (q := (¬ (I 205 (76800 + k)) = 0)) rfl jv_bi_ne rfl rfl Iff.rfl (fun h1 => ?_) (fun h1 => ?_)
  · refine jv_Wp.lift (fun _ Kz => jv_Ev.steps jv_i283 1 (pc' := 13) (l' := [(0, .ref 196), (1, .int (vl_I k))]) (st' := [.int (0 : Int32)]) rfl Kz) ?_
    refine jv_Wp.of (jv_Ev.ret jv_i283 rfl rfl) ?_
    rw [hQ]
    have ev : (0 : Int32) = (vl_I (vr_rd (I 205 (76800 + k)))) := by unfold vr_rd; rw [if_neg h1]; rfl
    exact ⟨_, _, by rw [ev], rfl, rfl⟩
  · refine jv_Wp.lift (fun _ Kz => jv_Ev.steps jv_i283 2 (pc' := 13) (l' := [(0, .ref 196), (1, .int (vl_I k))]) (st' := [.int (1 : Int32)]) rfl Kz) ?_
    refine jv_Wp.of (jv_Ev.ret jv_i283 rfl rfl) ?_
    rw [hQ]
    have ev : (1 : Int32) = (vl_I (vr_rd (I 205 (76800 + k)))) := by unfold vr_rd; rw [if_pos (Classical.not_not.mp h1)]; rfl
    exact ⟨_, _, by rw [ev], rfl, rfl⟩
theorem vq_reads {K : Nat → Option (Nat × Nat)} {I : Nat → Nat → Int32} {L : Nat → Nat → Int64} {R : Nat → Nat → Value} (k : Nat) (hW : jv_rW K R) (hk : k < 75) {n sl : Nat} : jv_Ms 283 [.ref 196, .int (vl_I k)] (jv_H K I L R) n sl (some (.int (vl_I (vr_rd (I 205 (76800 + k))))), jv_H K I L R, n, sl) := by
  obtain ⟨I1, L1, H, ei, el⟩ := vq_reads_ (n := n) (sl := sl) k hW hk
  rw [ei, el] at H
  exact H
theorem jv_i282 : jv_I 282 2 (some .int) 0 0 jv_c282 := ⟨rfl, rfl, rfl, rfl, rfl⟩
theorem vq_first_ {K : Nat → Option (Nat × Nat)} {I : Nat → Nat → Int32} {L : Nat → Nat → Int64} {R : Nat → Nat → Value} (a b : Nat) (ha : a < 2147483648) (hb : b < 2147483648) {n sl : Nat} : ∃ I1 L1, jv_Ms 282 [.int (vl_I a), .int (vl_I b)] (jv_H K I L R) n sl (some (.int (vl_I (vx_fst a b))), jv_H K I1 L1 R, n, sl) ∧ I1 = I ∧ L1 = L := by
  obtain ⟨Q, hQ⟩ : ∃ Q : jv_R → Prop, Q = fun X => ∃ I1 L1, X = (some (.int (vl_I (vx_fst a b))), jv_H K I1 L1 R, n, sl) ∧ I1 = I ∧ L1 = L := ⟨_, rfl⟩
  suffices h : jv_Wp 282 0 [(0, .int (vl_I a)), (1, .int (vl_I b))] [] (jv_H K I L R) n sl Q by
    rw [hQ] at h
    obtain ⟨X, h, I1, L1, e, h'⟩ := h
    subst e
    exact ⟨I1, L1, h, h'⟩
  refine jv_Wp.lift (fun _ Kz => jv_Ev.steps jv_i282 1 (pc' := 1) (l' := [(0, .int (vl_I a)), (1, .int (vl_I b))]) (st' := [.int (vl_I a)]) rfl Kz) ?_
  refine jv_Wp.cnd jv_i282 (pt := 8) (pe := 4) (p := (¬ (vl_I a) = 0)) (q := (¬ (vl_I a) = 0)) rfl jv_bi_ne rfl rfl Iff.rfl (fun h1 => ?_) (fun h1 => ?_)
  · refine jv_Wp.lift (fun _ Kz => jv_Ev.steps jv_i282 1 (pc' := 9) (l' := [(0, .int (vl_I a)), (1, .int (vl_I b))]) (st' := [.int (vl_I b)]) rfl Kz) ?_
    refine jv_Wp.cnd jv_i282 (pt := 16) (pe := 12) (p := (¬ (vl_I b) = 0)) (q := (¬ (vl_I b) = 0)) rfl jv_bi_ne rfl rfl Iff.rfl (fun h2 => ?_) (fun h2 => ?_)
    · refine jv_Wp.lift (fun _ Kz => jv_Ev.steps jv_i282 2 (pc' := 18) (l' := [(0, .int (vl_I a)), (1, .int (vl_I b))]) (st' := [.int (vl_I b), .int (vl_I a)]) rfl Kz) ?_
      refine jv_Wp.cnd jv_i282 (pt := 25) (pe := 21) (p := ((vl_I b) ≤ (vl_I a))) (q := ((vl_I b) ≤ (vl_I a))) rfl jv_bc_ge rfl rfl Iff.rfl (fun h3 => ?_) (fun h3 => ?_)
      · refine jv_Wp.lift (fun _ Kz => jv_Ev.steps jv_i282 1 (pc' := 26) (l' := [(0, .int (vl_I a)), (1, .int (vl_I b))]) (st' := [.int (vl_I b)]) rfl Kz) ?_
        refine jv_Wp.of (jv_Ev.ret jv_i282 rfl rfl) ?_
        rw [hQ]
        have ev : (vl_I b) = (vl_I (vx_fst a b)) := by unfold vx_fst; rw [if_neg (fun z => h1 ((vr_sm (v := 0) (by omega) (by decide) rfl).mpr z)), if_neg (fun z => h2 ((vr_sm (v := 0) (by omega) (by decide) rfl).mpr z)), if_pos ((vl_I_le (by omega) (by omega)).mp h3)]
        exact ⟨_, _, by rw [ev], rfl, rfl⟩
      · refine jv_Wp.lift (fun _ Kz => jv_Ev.steps jv_i282 2 (pc' := 26) (l' := [(0, .int (vl_I a)), (1, .int (vl_I b))]) (st' := [.int (vl_I a)]) rfl Kz) ?_
        refine jv_Wp.of (jv_Ev.ret jv_i282 rfl rfl) ?_
        rw [hQ]
        have ev : (vl_I a) = (vl_I (vx_fst a b)) := by unfold vx_fst; rw [if_neg (fun z => h1 ((vr_sm (v := 0) (by omega) (by decide) rfl).mpr z)), if_neg (fun z => h2 ((vr_sm (v := 0) (by omega) (by decide) rfl).mpr z)), if_neg (fun z => h3 ((vl_I_le (by omega) (by omega)).mpr z))]
        exact ⟨_, _, by rw [ev], rfl, rfl⟩
    · refine jv_Wp.lift (fun _ Kz => jv_Ev.steps jv_i282 2 (pc' := 26) (l' := [(0, .int (vl_I a)), (1, .int (vl_I b))]) (st' := [.int (vl_I a)]) rfl Kz) ?_
      refine jv_Wp.of (jv_Ev.ret jv_i282 rfl rfl) ?_
      rw [hQ]
      have ev : (vl_I a) = (vl_I (vx_fst a b)) := by unfold vx_fst; rw [if_neg (fun z => h1 ((vr_sm (v := 0) (by omega) (by decide) rfl).mpr z)), if_pos ((vr_sm (v := 0) (by omega) (by decide) rfl).mp (Classical.not_not.mp h2))]
      exact ⟨_, _, by rw [ev], rfl, rfl⟩
  · refine jv_Wp.lift (fun _ Kz => jv_Ev.steps jv_i282 2 (pc' := 26) (l' := [(0, .int (vl_I a)), (1, .int (vl_I b))]) (st' := [.int (vl_I b)]) rfl Kz) ?_
    refine jv_Wp.of (jv_Ev.ret jv_i282 rfl rfl) ?_
    rw [hQ]
    have ev : (vl_I b) = (vl_I (vx_fst a b)) := by unfold vx_fst; rw [if_pos ((vr_sm (v := 0) (by omega) (by decide) rfl).mp (Classical.not_not.mp h1))]
    exact ⟨_, _, by rw [ev], rfl, rfl⟩
theorem vq_first {K : Nat → Option (Nat × Nat)} {I : Nat → Nat → Int32} {L : Nat → Nat → Int64} {R : Nat → Nat → Value} (a b : Nat) (ha : a < 2147483648) (hb : b < 2147483648) {n sl : Nat} : jv_Ms 282 [.int (vl_I a), .int (vl_I b)] (jv_H K I L R) n sl (some (.int (vl_I (vx_fst a b))), jv_H K I L R, n, sl) := by
  obtain ⟨I1, L1, H, ei, el⟩ := vq_first_ (n := n) (sl := sl) a b ha hb
  rw [ei, el] at H
  exact H
theorem jv_i288 : jv_I 288 3 (some .boolean) 2 42 jv_c288 := ⟨rfl, rfl, rfl, rfl, rfl⟩
theorem vq_isMovable_ {K : Nat → Option (Nat × Nat)} {I : Nat → Nat → Int32} {L : Nat → Nat → Int64} {R : Nat → Nat → Value} (k : Nat) (hW : jv_rW K R) (hk : k < 75) {n sl : Nat} : ∃ I1 L1, jv_Ms 288 [.ref 196, .int (vl_I k)] (jv_H K I L R) n sl (some (.int (vr_b (vr_mv (I 205 (76800 + k))))), jv_H K I1 L1 R, n, sl) ∧ I1 = I ∧ L1 = L := by
  obtain ⟨Q, hQ⟩ : ∃ Q : jv_R → Prop, Q = fun X => ∃ I1 L1, X = (some (.int (vr_b (vr_mv (I 205 (76800 + k))))), jv_H K I1 L1 R, n, sl) ∧ I1 = I ∧ L1 = L := ⟨_, rfl⟩
  suffices h : jv_Wp 288 0 [(0, .ref 196), (1, .int (vl_I k))] [] (jv_H K I L R) n sl Q by
    rw [hQ] at h
    obtain ⟨X, h, I1, L1, e, h'⟩ := h
    subst e
    exact ⟨I1, L1, h, h'⟩
  refine jv_Wp.lift (fun _ Kz => jv_Ev.steps jv_i288 2 (pc' := 2) (l' := [(0, .ref 196), (1, .int (vl_I k))]) (st' := [.int (vl_I k), .ref 196]) rfl Kz) ?_
  refine jv_Wp.lift (fun _ Kz => jv_Ev.c jv_i288 (pc' := 5) (S' := [.int (I 205 (76800 + k))]) jv_i271 [.ref 196, .int (vl_I k)] rfl rfl rfl rfl (jv_cal rfl (jv_H_at (jv_rwK hW 196 12 24 (by decide))) rfl rfl) rfl (vq_sortOf k hW (by omega)) rfl rfl Kz) ?_
  refine jv_Wp.lift (fun _ Kz => jv_Ev.steps jv_i288 3 (pc' := 8) (l' := [(2, .int (I 205 (76800 + k))), (0, .ref 196), (1, .int (vl_I k))]) (st' := [.int (2 : Int32), .int (I 205 (76800 + k))]) rfl Kz) ?_
  refine jv_Wp.cnd jv_i288 (pt := 16) (pe := 11) (p := ((I 205 (76800 + k)) < (2 : Int32))) (q := ((I 205 (76800 + k)) < (2 : Int32))) rfl jv_bc_lt rfl rfl Iff.rfl (fun h1 => ?_) (fun h1 => ?_)
  · refine jv_Wp.lift (fun _ Kz => jv_Ev.steps jv_i288 2 (pc' := 19) (l' := [(2, .int (I 205 (76800 + k))), (0, .ref 196), (1, .int (vl_I k))]) (st' := [.int (7 : Int32), .int (I 205 (76800 + k))]) rfl Kz) ?_
    refine jv_Wp.cnd jv_i288 (pt := 26) (pe := 22) (p := (¬ (I 205 (76800 + k)) = (7 : Int32))) (q := (¬ (I 205 (76800 + k)) = (7 : Int32))) rfl jv_bc_ne rfl rfl Iff.rfl (fun h2 => ?_) (fun h2 => ?_)
    · refine jv_Wp.lift (fun _ Kz => jv_Ev.steps jv_i288 1 (pc' := 27) (l' := [(2, .int (I 205 (76800 + k))), (0, .ref 196), (1, .int (vl_I k))]) (st' := [.int (0 : Int32)]) rfl Kz) ?_
      refine jv_Wp.of (jv_Ev.ret jv_i288 rfl (jv_ret_b (Or.inl rfl))) ?_
      rw [hQ]
      have ev : (0 : Int32) = (vr_b (vr_mv (I 205 (76800 + k)))) := by rw [Bool.eq_false_iff.mpr (fun z => ((vr_mv_i _).mp z).elim (fun z => z.1 h1) h2)]; rfl
      exact ⟨_, _, by rw [ev], rfl, rfl⟩
    · refine jv_Wp.lift (fun _ Kz => jv_Ev.steps jv_i288 2 (pc' := 27) (l' := [(2, .int (I 205 (76800 + k))), (0, .ref 196), (1, .int (vl_I k))]) (st' := [.int (1 : Int32)]) rfl Kz) ?_
      refine jv_Wp.of (jv_Ev.ret jv_i288 rfl (jv_ret_b (Or.inr rfl))) ?_
      rw [hQ]
      have ev : (1 : Int32) = (vr_b (vr_mv (I 205 (76800 + k)))) := by rw [(vr_mv_i _).mpr (Or.inr (Classical.not_not.mp h2))]; rfl
      exact ⟨_, _, by rw [ev], rfl, rfl⟩
  · refine jv_Wp.lift (fun _ Kz => jv_Ev.steps jv_i288 2 (pc' := 13) (l' := [(2, .int (I 205 (76800 + k))), (0, .ref 196), (1, .int (vl_I k))]) (st' := [.int (4 : Int32), .int (I 205 (76800 + k))]) rfl Kz) ?_
    refine jv_Wp.cnd jv_i288 (pt := 22) (pe := 16) (p := ((I 205 (76800 + k)) ≤ (4 : Int32))) (q := ((I 205 (76800 + k)) ≤ (4 : Int32))) rfl jv_bc_le rfl rfl Iff.rfl (fun h3 => ?_) (fun h3 => ?_)
    · refine jv_Wp.lift (fun _ Kz => jv_Ev.steps jv_i288 2 (pc' := 27) (l' := [(2, .int (I 205 (76800 + k))), (0, .ref 196), (1, .int (vl_I k))]) (st' := [.int (1 : Int32)]) rfl Kz) ?_
      refine jv_Wp.of (jv_Ev.ret jv_i288 rfl (jv_ret_b (Or.inr rfl))) ?_
      rw [hQ]
      have ev : (1 : Int32) = (vr_b (vr_mv (I 205 (76800 + k)))) := by rw [(vr_mv_i _).mpr (Or.inl ⟨h1, h3⟩)]; rfl
      exact ⟨_, _, by rw [ev], rfl, rfl⟩
    · refine jv_Wp.lift (fun _ Kz => jv_Ev.steps jv_i288 2 (pc' := 19) (l' := [(2, .int (I 205 (76800 + k))), (0, .ref 196), (1, .int (vl_I k))]) (st' := [.int (7 : Int32), .int (I 205 (76800 + k))]) rfl Kz) ?_
      refine jv_Wp.cnd jv_i288 (pt := 26) (pe := 22) (p := (¬ (I 205 (76800 + k)) = (7 : Int32))) (q := (¬ (I 205 (76800 + k)) = (7 : Int32))) rfl jv_bc_ne rfl rfl Iff.rfl (fun h4 => ?_) (fun h4 => ?_)
      · refine jv_Wp.lift (fun _ Kz => jv_Ev.steps jv_i288 1 (pc' := 27) (l' := [(2, .int (I 205 (76800 + k))), (0, .ref 196), (1, .int (vl_I k))]) (st' := [.int (0 : Int32)]) rfl Kz) ?_
        refine jv_Wp.of (jv_Ev.ret jv_i288 rfl (jv_ret_b (Or.inl rfl))) ?_
        rw [hQ]
        have ev : (0 : Int32) = (vr_b (vr_mv (I 205 (76800 + k)))) := by rw [Bool.eq_false_iff.mpr (fun z => ((vr_mv_i _).mp z).elim (fun z => h3 z.2) h4)]; rfl
        exact ⟨_, _, by rw [ev], rfl, rfl⟩
      · refine jv_Wp.lift (fun _ Kz => jv_Ev.steps jv_i288 2 (pc' := 27) (l' := [(2, .int (I 205 (76800 + k))), (0, .ref 196), (1, .int (vl_I k))]) (st' := [.int (1 : Int32)]) rfl Kz) ?_
        refine jv_Wp.of (jv_Ev.ret jv_i288 rfl (jv_ret_b (Or.inr rfl))) ?_
        rw [hQ]
        have ev : (1 : Int32) = (vr_b (vr_mv (I 205 (76800 + k)))) := by rw [(vr_mv_i _).mpr (Or.inr (Classical.not_not.mp h4))]; rfl
        exact ⟨_, _, by rw [ev], rfl, rfl⟩
theorem vq_isMovable {K : Nat → Option (Nat × Nat)} {I : Nat → Nat → Int32} {L : Nat → Nat → Int64} {R : Nat → Nat → Value} (k : Nat) (hW : jv_rW K R) (hk : k < 75) {n sl : Nat} : jv_Ms 288 [.ref 196, .int (vl_I k)] (jv_H K I L R) n sl (some (.int (vr_b (vr_mv (I 205 (76800 + k))))), jv_H K I L R, n, sl) := by
  obtain ⟨I1, L1, H, ei, el⟩ := vq_isMovable_ (n := n) (sl := sl) k hW hk
  rw [ei, el] at H
  exact H