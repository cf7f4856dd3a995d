/-! part a09: what is said by a comparison: both sides the same (gen/ga09.py) -/
theorem vb_tight_single {v : vb_S} (h : vb_tight v) (hs : v.low = v.high) : v = vb_just v.low := by
  have hm : ∀ n, vb_mem v n → n = v.low := fun n hn => vb_single_mem hn hs
  have hl := h.low
  refine (vb_hull_unique (v := v) h ⟨hl, hl, hl, hl, fun n hn => ?_, fun k hk => ?_, ?_⟩)
  · have := hm n hn
    subst this
    exact ⟨BitVec.le_refl _, BitVec.le_refl _, Int.le_refl _, Int.le_refl _⟩
  · refine ⟨fun _ n n' hn hn' => by rw [hm n hn, hm n' hn'], fun _ => vb_m1_bit hk⟩
  · show v.low = v.low &&& vb_m1
    exact (vr_andm1 _).symm
theorem vr_toR_same2 (r s : vb_R) : vb_toR (vb_same2 (vb_toS r) (vb_toS s)) = vb_rboth r s := by
  refine vb_R_ext rfl ?_ rfl rfl rfl rfl
  show ~~~(~~~r.opn ||| ~~~s.opn) = r.opn &&& s.opn
  rw [BitVec.not_or, BitVec.not_not, BitVec.not_not]
theorem vr_rboth_comm (r s : vb_R) : vb_rboth r s = vb_rboth s r := by
  unfold vb_rboth
  refine vb_R_ext (BitVec.or_comm _ _) (BitVec.and_comm _ _) ?_ ?_ (vb_smax_comm _ _) (vb_smin_comm _ _)
  · show vb_larger r.low s.low = vb_larger s.low r.low
    refine BitVec.eq_of_toNat_eq ?_
    rw [vb_larger_nat, vb_larger_nat]; omega
  · show vb_lesser r.high s.high = vb_lesser s.high r.high
    refine BitVec.eq_of_toNat_eq ?_
    rw [vb_lesser_nat, vb_lesser_nat]; omega
theorem vr_rclash_comm (r s : vb_R) : vb_rclash r s = vb_rclash s r := by
  unfold vb_rclash
  rw [BitVec.xor_comm, BitVec.and_comm (~~~r.opn)]
theorem vr_toR_setHigh (r : vb_R) (h : BitVec 64) : vb_toR (vb_setHigh (vb_toS r) h) = vb_rdown r h := vb_R_ext rfl BitVec.not_not rfl rfl rfl rfl
theorem vr_toR_setLow (r : vb_R) (h : BitVec 64) : vb_toR (vb_setLow (vb_toS r) h) = vb_rup r h := vb_R_ext rfl BitVec.not_not rfl rfl rfl rfl
theorem vr_toR_setGreatest (r : vb_R) (h : BitVec 64) : vb_toR (vb_setGreatest (vb_toS r) h) = vb_rdownS r h := vb_R_ext rfl BitVec.not_not rfl rfl rfl rfl
theorem vr_toR_setLeast (r : vb_R) (h : BitVec 64) : vb_toR (vb_setLeast (vb_toS r) h) = vb_rupS r h := vb_R_ext rfl BitVec.not_not rfl rfl rfl rfl
theorem vr_toR_without (r : vb_R) (n : BitVec 64) : vb_toR (vb_without (vb_toS r) n) = vb_rwithout r n := by
  refine vb_R_ext rfl BitVec.not_not ?_ ?_ ?_ ?_
  · show (if r.low = n then r.low + 1 else r.low) = if r.low = n then n + 1 else r.low
    split <;> simp_all
  · show (if r.high = n then r.high - 1 else r.high) = if r.high = n then n - 1 else r.high
    split <;> simp_all
  · show (if r.least = n then r.least + 1 else r.least) = if r.least = n then n + 1 else r.least
    split <;> simp_all
  · show (if r.greatest = n then r.greatest - 1 else r.greatest) = if r.greatest = n then n - 1 else r.greatest
    split <;> simp_all
theorem vr_toR_sure (r : vb_R) (v : BitVec 64) : vb_toR (vb_sure (vb_toS r) v) = vb_rforce r v 0 := by
  refine vb_R_ext rfl ?_ rfl rfl rfl rfl
  show ~~~(~~~r.opn ||| v) = r.opn &&& ~~~(v ||| 0)
  rw [BitVec.not_or, BitVec.not_not, vb_or_0]
theorem vr_toR_never (r : vb_R) (v : BitVec 64) : vb_toR (vb_never (vb_toS r) v) = vb_rforce r 0 v := by
  refine vb_R_ext (BitVec.or_zero).symm ?_ rfl rfl rfl rfl
  show ~~~(~~~r.opn ||| v) = r.opn &&& ~~~(0#64 ||| v)
  rw [BitVec.not_or, BitVec.not_not, BitVec.zero_or]
/-- all else as it was: flags of rows from 2 on are 0, rows from 5 on, other cells -/
def vr_scr (I I1 : Nat → Nat → Int32) (L L1 : Nat → Nat → Int64) : Prop := (∀ q, 2 ≤ q → I1 215 q = 0) ∧ (∀ o j, o ≠ 215 → I1 o j = I o j) ∧ (∀ o j, ¬ (209 ≤ o ∧ o ≤ 214 ∧ j < 5) → L1 o j = L o j)
def vr_said (c : Nat) (x y : vb_S) (I1 : Nat → Nat → Int32) (L1 : Nat → Nat → Int64) : Prop := ∃ f g : Bool, I1 215 0 = vr_b f ∧ I1 215 1 = vr_b g ∧ (vb_say c x y = none → (f || g) = true) ∧ ∀ p, vb_say c x y = some p → f = false ∧ g = false ∧ vr_S L1 0 = vb_toR p.1 ∧ vr_S L1 1 = vb_toR p.2
theorem vr_said_of {c : Nat} {x y : vb_S} {I1 : Nat → Nat → Int32} {L1 : Nat → Nat → Int64} {f g : Bool} (h0 : I1 215 0 = vr_b f) (h1 : I1 215 1 = vr_b g) (h2 : vb_say c x y = none → (f || g) = true) (h3 : ∀ p, vb_say c x y = some p → f = false ∧ g = false ∧ vr_S L1 0 = vb_toR p.1 ∧ vr_S L1 1 = vb_toR p.2) : vr_said c x y I1 L1 := ⟨f, g, h0, h1, h2, h3⟩
theorem vr_scr_refl {I : Nat → Nat → Int32} {L : Nat → Nat → Int64} (hE : ∀ q, 2 ≤ q → I 215 q = 0) : vr_scr I I L L := ⟨hE, fun _ _ _ => rfl, fun _ _ _ => rfl⟩
theorem vr_scr_f {I I1 : Nat → Nat → Int32} {L L1 : Nat → Nat → Int64} {q : Nat} {x : Int32} (h : vr_scr I I1 L L1) (hq : q < 2 ∨ x = 0) : vr_scr I (jv_u I1 215 q x) L L1 := by
  refine ⟨fun p hp => ?_, fun o j ho => ?_, h.2.2⟩
  · by_cases e : p = q
    · subst e
      rw [jv_u_self]
      rcases hq with hq | hq
      · omega
      · exact hq
    · rw [jv_u_j _ _ _ _ e]; exact h.1 p hp
  · rw [jv_u_o _ _ _ _ ho]; exact h.2.1 o j ho
theorem vr_scr_r {I I1 : Nat → Nat → Int32} {L L1 : Nat → Nat → Int64} {q : Nat} {r : vb_R} (h : vr_scr I I1 L L1) (hq : q < 5) : vr_scr I I1 L (vr_set L1 q r) := by
  refine ⟨h.1, h.2.1, fun o j ho => ?_⟩
  rw [vr_set_out (fun z => ho ⟨z.2.1, z.2.2, by omega⟩)]
  exact h.2.2 o j ho
theorem vr_scr_row {I I1 : Nat → Nat → Int32} {L L1 : Nat → Nat → Int64} (h : vr_scr I I1 L L1) {q : Nat} (hq : 5 ≤ q) : vr_S L1 q = vr_S L q := by
  have e : ∀ k, L1 k q = L k q := fun k => h.2.2 k q (by omega)
  unfold vr_S
  rw [e, e, e, e, e, e]
theorem vr_ee (a : BitVec 64) : (Int64.ofBitVec a).toBitVec = a := rfl
theorem vb_no_lost {r : vb_R} (h : vb_tight (vb_toS r)) {n : BitVec 64} (hs : r.low = r.high) (hn : r.low ≠ n) : vb_rwithout r n = r := by
  have h1 := vb_tight_single h hs
  have h2 : (vb_toS r).least = r.low := congrArg vb_S.least h1
  have h3 : (vb_toS r).greatest = r.low := congrArg vb_S.greatest h1
  have h2 : r.least = r.low := h2
  have h3 : r.greatest = r.low := h3
  unfold vb_rwithout
  rw [h2, h3, ← hs, if_neg hn, if_neg hn]
  exact vb_R_ext rfl rfl rfl hs h2.symm h3.symm
theorem vb_tight_known {r : vb_R} (h : vb_tight (vb_toS r)) (hs : r.low = r.high) : r.opn = 0 ∧ r.bits = r.low := by
  have h1 := vb_tight_single h hs
  have h2 : (vb_toS r).mask = vb_m1 := congrArg vb_S.mask h1
  have h3 : (vb_toS r).ones = r.low := congrArg vb_S.ones h1
  have h2 : ~~~r.opn = vb_m1 := h2
  refine ⟨?_, h3⟩
  have := congrArg (fun z => ~~~z) h2
  simp only [BitVec.not_not] at this
  rw [this]; decide
theorem vr_pick (v a b : BitVec 64) : (if vr_b (decide (a = b)) = 0 then (0 : Int64) else if vr_b (vb_oneBit v) = 0 then (0 : Int64) else Int64.ofBitVec v).toBitVec = if a = b ∧ vb_oneBit v = true then v else 0 := by
  by_cases h : a = b
  · rw [decide_eq_true h, if_neg (by decide)]
    cases hv : vb_oneBit v
    · rw [if_pos (show vr_b false = 0 from rfl), if_neg (fun z => absurd z.2 (by decide))]; rfl
    · rw [if_neg (by decide), if_pos ⟨h, rfl⟩]; rfl
  · rw [decide_eq_false h, if_pos (show vr_b false = 0 from rfl), if_neg (fun z => h z.1)]; rfl
theorem vr_pick2 (v a b : BitVec 64) : (if vr_b (decide (a = b)) = 0 then (0 : Int64) else Int64.ofBitVec v).toBitVec = if a = b then v else 0 := by
  by_cases h : a = b
  · rw [decide_eq_true h, if_neg (by decide), if_pos h]; rfl
  · rw [decide_eq_false h, if_pos (show vr_b false = 0 from rfl), if_neg h]; rfl
theorem vb_not_forced {r s : vb_R} (hs : vb_tight (vb_toS s)) (c : ¬ (r.bits ||| r.opn) &&& (s.bits ||| s.opn) = 0) : vb_rforced r (if s.low = s.high ∧ vb_oneBit s.low = true then s.low else 0) 0 = false := by
  have z1 : ∀ a : BitVec 64, a &&& 0 = 0 := fun a => BitVec.and_zero
  unfold vb_rforced
  rw [z1, decide_eq_true rfl]
  by_cases h : s.low = s.high ∧ vb_oneBit s.low = true
  · rw [if_pos h]
    obtain ⟨k1, k2⟩ := vb_tight_known hs h.1
    rw [k1, k2, vb_or_0] at c
    obtain ⟨p, hp, e⟩ := vb_oneBit_bit h.2
    rw [e] at c ⊢
    have c2 : ~~~(r.bits ||| r.opn) &&& BitVec.twoPow 64 p = 0 := (vr_bit_known _ hp).mpr c
    rw [decide_eq_true c2]; rfl
  · rw [if_neg h, z1, decide_eq_true rfl]; rfl
theorem vb_not_forced2 {r s : vb_R} (hs : vb_tight (vb_toS s)) (c : r.bits &&& s.bits = 0) : vb_rforced r 0 (if s.low = s.high then s.low else 0) = false := by
  have z1 : ∀ a : BitVec 64, a &&& 0 = 0 := fun a => BitVec.and_zero
  unfold vb_rforced
  rw [z1 (~~~(r.bits ||| r.opn)), decide_eq_true (rfl : (0 : BitVec 64) = 0)]
  by_cases h : s.low = s.high
  · rw [if_pos h]
    obtain ⟨k1, k2⟩ := vb_tight_known hs h
    rw [← k2, decide_eq_true c]; rfl
  · rw [if_neg h, z1, decide_eq_true (rfl : (0 : BitVec 64) = 0)]; rfl
theorem vr_s01 (L : Nat → Nat → Int64) (r : vb_R) : vr_S (vr_set L 0 r) 1 = vr_S L 1 := vr_set_o (by decide)
theorem vr_s03 (L : Nat → Nat → Int64) (r : vb_R) : vr_S (vr_set L 0 r) 3 = vr_S L 3 := vr_set_o (by decide)
theorem vr_s04 (L : Nat → Nat → Int64) (r : vb_R) : vr_S (vr_set L 0 r) 4 = vr_S L 4 := vr_set_o (by decide)
theorem vr_s10 (L : Nat → Nat → Int64) (r : vb_R) : vr_S (vr_set L 1 r) 0 = vr_S L 0 := vr_set_o (by decide)
theorem vr_s13 (L : Nat → Nat → Int64) (r : vb_R) : vr_S (vr_set L 1 r) 3 = vr_S L 3 := vr_set_o (by decide)
theorem vr_s14 (L : Nat → Nat → Int64) (r : vb_R) : vr_S (vr_set L 1 r) 4 = vr_S L 4 := vr_set_o (by decide)
theorem vr_s30 (L : Nat → Nat → Int64) (r : vb_R) : vr_S (vr_set L 3 r) 0 = vr_S L 0 := vr_set_o (by decide)
theorem vr_s31 (L : Nat → Nat → Int64) (r : vb_R) : vr_S (vr_set L 3 r) 1 = vr_S L 1 := vr_set_o (by decide)
theorem vr_s34 (L : Nat → Nat → Int64) (r : vb_R) : vr_S (vr_set L 3 r) 4 = vr_S L 4 := vr_set_o (by decide)
theorem vr_s40 (L : Nat → Nat → Int64) (r : vb_R) : vr_S (vr_set L 4 r) 0 = vr_S L 0 := vr_set_o (by decide)
theorem vr_s41 (L : Nat → Nat → Int64) (r : vb_R) : vr_S (vr_set L 4 r) 1 = vr_S L 1 := vr_set_o (by decide)
theorem vr_s43 (L : Nat → Nat → Int64) (r : vb_R) : vr_S (vr_set L 4 r) 3 = vr_S L 3 := vr_set_o (by decide)
theorem vr_g01 (I : Nat → Nat → Int32) (x : Int32) : jv_u I 215 0 x 215 1 = I 215 1 := jv_u_j _ _ _ _ (by decide)
theorem vr_g10 (I : Nat → Nat → Int32) (x : Int32) : jv_u I 215 1 x 215 0 = I 215 0 := jv_u_j _ _ _ _ (by decide)
theorem vr_g30 (I : Nat → Nat → Int32) (x : Int32) : jv_u I 215 3 x 215 0 = I 215 0 := jv_u_j _ _ _ _ (by decide)
theorem vr_g31 (I : Nat → Nat → Int32) (x : Int32) : jv_u I 215 3 x 215 1 = I 215 1 := jv_u_j _ _ _ _ (by decide)
theorem vr_g40 (I : Nat → Nat → Int32) (x : Int32) : jv_u I 215 4 x 215 0 = I 215 0 := jv_u_j _ _ _ _ (by decide)
theorem vr_g41 (I : Nat → Nat → Int32) (x : Int32) : jv_u I 215 4 x 215 1 = I 215 1 := jv_u_j _ _ _ _ (by decide)
theorem vr_say0 {K : Nat → Option (Nat × Nat)} {I : Nat → Nat → Int32} {L : Nat → Nat → Int64} {R : Nat → Nat → Value} (hW : jv_rW K R) (hE : ∀ q, 2 ≤ q → I 215 q = 0) (h0 : I 215 0 = 0) (h1 : I 215 1 = 0) (hx : vb_tight (vb_toS (vr_S L 0))) (hy : vb_tight (vb_toS (vr_S L 1))) : ∃ I1 L1, vr_scr I I1 L L1 ∧ vr_said 0 (vb_toS (vr_S L 0)) (vb_toS (vr_S L 1)) I1 L1 ∧ ∀ (n sl : Nat) (Z : jv_R), jv_Ev 247 511 [(0, .ref 208), (1, .int (vl_I 0))] [] (jv_H K I1 L1 R) n sl Z → jv_Ev 247 0 [(0, .ref 208), (1, .int (vl_I 0))] [] (jv_H K I L R) n sl Z := by
  refine ⟨_, _, ?_, ?_, fun n sl Z HK => jv_b247_c0 hW h0 h1 HK⟩
  · exact vr_scr_r (vr_scr_r (vr_scr_r (vr_scr_r (vr_scr_f (vr_scr_f (vr_scr_f (vr_scr_f (vr_scr_refl hE) (by first | exact Or.inl (by decide) | exact Or.inr rfl)) (by first | exact Or.inl (by decide) | exact Or.inr rfl)) (by first | exact Or.inl (by decide) | exact Or.inr rfl)) (by first | exact Or.inl (by decide) | exact Or.inr rfl)) (by decide)) (by decide)) (by decide)) (by decide)
  · refine vr_said_of ((jv_u_j _ _ _ _ (by decide)).trans (jv_u_self _ _ _ _)) (jv_u_self _ _ _ _) ?_ ?_
    all_goals simp only [vr_set_S, jv_u_self, vr_s01, vr_s03, vr_s04, vr_s10, vr_s13, vr_s14, vr_s30, vr_s31, vr_s34, vr_s40, vr_s41, vr_s43, vr_g01, vr_g10, vr_g30, vr_g31, vr_g40, vr_g41]
    all_goals clear hE h0 h1
    all_goals generalize vr_S L 0 = r at hx ⊢
    all_goals generalize vr_S L 1 = s at hy ⊢
    · have e : vb_say 0 (vb_toS r) (vb_toS s) = if (r.bits ^^^ s.bits) &&& (~~~r.opn) &&& (~~~s.opn) ≠ 0 then none else some (vb_same2 (vb_toS r) (vb_toS s), vb_same2 (vb_toS r) (vb_toS s)) := rfl
      rw [e, BitVec.and_assoc]
      unfold vb_rclash
      intro h
      by_cases c : (r.bits ^^^ s.bits) &&& (~~~r.opn &&& ~~~s.opn) = 0
      · rw [if_neg (fun z => z c)] at h; cases h
      · rw [decide_eq_false c]; rfl
    · have e : vb_say 0 (vb_toS r) (vb_toS s) = if (r.bits ^^^ s.bits) &&& (~~~r.opn) &&& (~~~s.opn) ≠ 0 then none else some (vb_same2 (vb_toS r) (vb_toS s), vb_same2 (vb_toS r) (vb_toS s)) := rfl
      rw [e, BitVec.and_assoc]
      intro p h
      by_cases c : (r.bits ^^^ s.bits) &&& (~~~r.opn &&& ~~~s.opn) = 0
      · rw [if_neg (fun z => z c)] at h
        cases h
        have c2 : (s.bits ^^^ r.bits) &&& (~~~s.opn &&& ~~~r.opn) = 0 := by rw [BitVec.xor_comm, BitVec.and_comm (~~~s.opn)]; exact c
        refine ⟨?_, ?_, ?_, ?_⟩
        · unfold vb_rclash; rw [decide_eq_true c]; rfl
        · unfold vb_rclash; rw [decide_eq_true c2]; rfl
        · exact (vr_toR_same2 r s).symm
        · rw [vr_rboth_comm]; exact (vr_toR_same2 r s).symm
      · rw [if_pos c] at h; cases h
theorem vr_say1 {K : Nat → Option (Nat × Nat)} {I : Nat → Nat → Int32} {L : Nat → Nat → Int64} {R : Nat → Nat → Value} (hW : jv_rW K R) (hE : ∀ q, 2 ≤ q → I 215 q = 0) (h0 : I 215 0 = 0) (h1 : I 215 1 = 0) (hx : vb_tight (vb_toS (vr_S L 0))) (hy : vb_tight (vb_toS (vr_S L 1))) : ∃ I1 L1, vr_scr I I1 L L1 ∧ vr_said 1 (vb_toS (vr_S L 0)) (vb_toS (vr_S L 1)) I1 L1 ∧ ∀ (n sl : Nat) (Z : jv_R), jv_Ev 247 511 [(0, .ref 208), (1, .int (vl_I 1))] [] (jv_H K I1 L1 R) n sl Z → jv_Ev 247 0 [(0, .ref 208), (1, .int (vl_I 1))] [] (jv_H K I L R) n sl Z := by
  refine ⟨_, _, ?_, ?_, fun n sl Z HK => jv_b247_c1 hW h0 h1 HK⟩
  · exact vr_scr_r (vr_scr_r (vr_scr_r (vr_scr_r (vr_scr_f (vr_scr_f (vr_scr_f (vr_scr_f (vr_scr_refl hE) (by first | exact Or.inl (by decide) | exact Or.inr rfl)) (by first | exact Or.inl (by decide) | exact Or.inr rfl)) (by first | exact Or.inl (by decide) | exact Or.inr rfl)) (by first | exact Or.inl (by decide) | exact Or.inr rfl)) (by decide)) (by decide)) (by decide)) (by decide)
  · refine vr_said_of ((jv_u_j _ _ _ _ (by decide)).trans (jv_u_self _ _ _ _)) (jv_u_self _ _ _ _) ?_ ?_
    all_goals simp only [vr_set_S, jv_u_self, vr_s01, vr_s03, vr_s04, vr_s10, vr_s13, vr_s14, vr_s30, vr_s31, vr_s34, vr_s40, vr_s41, vr_s43, vr_g01, vr_g10, vr_g30, vr_g31, vr_g40, vr_g41]
    all_goals clear hE h0 h1
    all_goals generalize vr_S L 0 = r at hx ⊢
    all_goals generalize vr_S L 1 = s at hy ⊢
    all_goals
      have e : vb_say 1 (vb_toS r) (vb_toS s) = if r.low ≠ r.high ∧ s.low ≠ s.high then some (vb_toS r, vb_toS s) else if r.low = r.high ∧ s.low = s.high then (if r.low = s.low then none else some (vb_toS r, vb_toS s)) else if s.low = s.high then some (vb_without (vb_toS r) s.low, vb_toS s) else some (vb_toS r, vb_without (vb_toS s) r.low) := rfl
      rw [e]
      unfold vb_rlost
    · intro h
      by_cases c1 : r.low = r.high <;> by_cases c2 : s.low = s.high <;> simp only [c1, c2, ne_eq, not_true, not_false_eq_true, and_self, and_true, and_false, false_and, true_and, if_true, if_false] at h <;> first | cases h | skip
      by_cases c3 : r.high = s.high
      · simp [c1, c2, c3]
      · rw [if_neg c3] at h; cases h
    · intro p h
      by_cases c1 : r.low = r.high
      · by_cases c2 : s.low = s.high
        · rw [if_neg (fun z => z.1 c1), if_pos ⟨c1, c2⟩] at h
          by_cases c3 : r.low = s.low
          · rw [if_pos c3] at h; cases h
          · rw [if_neg c3] at h
            cases h
            have w1 := vb_no_lost hx c1 c3
            have w2 := vb_no_lost hy c2 (fun z => c3 z.symm)
            have c4 : ¬ s.low = r.low := fun z => c3 z.symm
            rw [vr_toR_toS, vr_toR_toS, decide_eq_true c1, decide_eq_true c2, decide_eq_false c3, decide_eq_false c4]
            simp only [Bool.and_false, Bool.not_false, Bool.and_true, Bool.or_false, if_true]
            exact ⟨trivial, trivial, w1, w2⟩
        · rw [if_neg (fun z => z.1 c1), if_neg (fun z => c2 z.2), if_neg c2] at h
          cases h
          rw [vr_toR_toS, vr_toR_without, decide_eq_true c1, decide_eq_false c2]
          simp
      · by_cases c2 : s.low = s.high
        · rw [if_neg (fun z => z.2 c2), if_neg (fun z => c1 z.1), if_pos c2] at h
          cases h
          rw [vr_toR_toS, vr_toR_without, decide_eq_false c1, decide_eq_true c2]
          simp
        · rw [if_pos ⟨c1, c2⟩] at h
          cases h
          rw [vr_toR_toS, vr_toR_toS, decide_eq_false c1, decide_eq_false c2]
          simp
theorem vr_say2 {K : Nat → Option (Nat × Nat)} {I : Nat → Nat → Int32} {L : Nat → Nat → Int64} {R : Nat → Nat → Value} (hW : jv_rW K R) (hE : ∀ q, 2 ≤ q → I 215 q = 0) (h0 : I 215 0 = 0) (h1 : I 215 1 = 0) (hx : vb_tight (vb_toS (vr_S L 0))) (hy : vb_tight (vb_toS (vr_S L 1))) : ∃ I1 L1, vr_scr I I1 L L1 ∧ vr_said 2 (vb_toS (vr_S L 0)) (vb_toS (vr_S L 1)) I1 L1 ∧ ∀ (n sl : Nat) (Z : jv_R), jv_Ev 247 511 [(0, .ref 208), (1, .int (vl_I 2))] [] (jv_H K I1 L1 R) n sl Z → jv_Ev 247 0 [(0, .ref 208), (1, .int (vl_I 2))] [] (jv_H K I L R) n sl Z := by
  refine ⟨_, _, ?_, ?_, fun n sl Z HK => jv_b247_c2 hW h0 h1 HK⟩
  · exact vr_scr_r (vr_scr_r (vr_scr_r (vr_scr_r (vr_scr_f (vr_scr_f (vr_scr_f (vr_scr_f (vr_scr_refl hE) (by first | exact Or.inl (by decide) | exact Or.inr rfl)) (by first | exact Or.inl (by decide) | exact Or.inr rfl)) (by first | exact Or.inl (by decide) | exact Or.inr rfl)) (by first | exact Or.inl (by decide) | exact Or.inr rfl)) (by decide)) (by decide)) (by decide)) (by decide)
  · refine vr_said_of ((jv_u_j _ _ _ _ (by decide)).trans (jv_u_self _ _ _ _)) (jv_u_self _ _ _ _) ?_ ?_
    all_goals simp only [vr_set_S, jv_u_self, vr_s01, vr_s03, vr_s04, vr_s10, vr_s13, vr_s14, vr_s30, vr_s31, vr_s34, vr_s40, vr_s41, vr_s43, vr_g01, vr_g10, vr_g30, vr_g31, vr_g40, vr_g41]
    all_goals clear hE h0 h1
    all_goals generalize vr_S L 0 = r at hx ⊢
    all_goals generalize vr_S L 1 = s at hy ⊢
    all_goals
      have e : vb_say 2 (vb_toS r) (vb_toS s) = if s.high = 0 ∨ r.low = vb_m1 then none else some (vb_setHigh (vb_toS r) (s.high - 1), vb_setLow (vb_toS s) (r.low + 1)) := rfl
      rw [e]
    · intro h
      by_cases c : s.high = 0 ∨ r.low = vb_m1
      · rcases c with c | c <;> simp [c]
      · rw [if_neg c] at h; cases h
    · intro p h
      by_cases c : s.high = 0 ∨ r.low = vb_m1
      · rw [if_pos c] at h; cases h
      · rw [if_neg c] at h
        cases h
        have c1 : ¬ s.high = 0 := fun z => c (Or.inl z)
        have c2 : ¬ r.low = vb_m1 := fun z => c (Or.inr z)
        rw [vr_toR_setHigh, vr_toR_setLow]
        refine ⟨?_, ?_, ?_, ?_⟩ <;> first | (simp [c1, c2]; done) | (rw [Bool.false_or, Bool.true_and]; first | exact decide_eq_false c1 | exact decide_eq_false c2) | exact congrArg _ (if_pos ⟨trivial, c1⟩) | exact congrArg _ (if_pos ⟨trivial, c2⟩)
theorem vr_say3 {K : Nat → Option (Nat × Nat)} {I : Nat → Nat → Int32} {L : Nat → Nat → Int64} {R : Nat → Nat → Value} (hW : jv_rW K R) (hE : ∀ q, 2 ≤ q → I 215 q = 0) (h0 : I 215 0 = 0) (h1 : I 215 1 = 0) (hx : vb_tight (vb_toS (vr_S L 0))) (hy : vb_tight (vb_toS (vr_S L 1))) : ∃ I1 L1, vr_scr I I1 L L1 ∧ vr_said 3 (vb_toS (vr_S L 0)) (vb_toS (vr_S L 1)) I1 L1 ∧ ∀ (n sl : Nat) (Z : jv_R), jv_Ev 247 511 [(0, .ref 208), (1, .int (vl_I 3))] [] (jv_H K I1 L1 R) n sl Z → jv_Ev 247 0 [(0, .ref 208), (1, .int (vl_I 3))] [] (jv_H K I L R) n sl Z := by
  refine ⟨_, _, ?_, ?_, fun n sl Z HK => jv_b247_c3 hW h0 h1 HK⟩
  · exact vr_scr_r (vr_scr_r (vr_scr_r (vr_scr_r (vr_scr_f (vr_scr_f (vr_scr_f (vr_scr_f (vr_scr_refl hE) (by first | exact Or.inl (by decide) | exact Or.inr rfl)) (by first | exact Or.inl (by decide) | exact Or.inr rfl)) (by first | exact Or.inl (by decide) | exact Or.inr rfl)) (by first | exact Or.inl (by decide) | exact Or.inr rfl)) (by decide)) (by decide)) (by decide)) (by decide)
  · refine vr_said_of ((jv_u_j _ _ _ _ (by decide)).trans (jv_u_self _ _ _ _)) (jv_u_self _ _ _ _) ?_ ?_
    all_goals simp only [vr_set_S, jv_u_self, vr_s01, vr_s03, vr_s04, vr_s10, vr_s13, vr_s14, vr_s30, vr_s31, vr_s34, vr_s40, vr_s41, vr_s43, vr_g01, vr_g10, vr_g30, vr_g31, vr_g40, vr_g41]
    all_goals clear hE h0 h1
    all_goals generalize vr_S L 0 = r at hx ⊢
    all_goals generalize vr_S L 1 = s at hy ⊢
    all_goals
      have e : vb_say 3 (vb_toS r) (vb_toS s) = some (vb_setHigh (vb_toS r) s.high, vb_setLow (vb_toS s) r.low) := rfl
      rw [e]
    · intro h; cases h
    · intro p h
      cases h
      rw [vr_toR_setHigh, vr_toR_setLow]
      refine ⟨?_, ?_, ?_, ?_⟩ <;> simp
theorem vr_say4 {K : Nat → Option (Nat × Nat)} {I : Nat → Nat → Int32} {L : Nat → Nat → Int64} {R : Nat → Nat → Value} (hW : jv_rW K R) (hE : ∀ q, 2 ≤ q → I 215 q = 0) (h0 : I 215 0 = 0) (h1 : I 215 1 = 0) (hx : vb_tight (vb_toS (vr_S L 0))) (hy : vb_tight (vb_toS (vr_S L 1))) : ∃ I1 L1, vr_scr I I1 L L1 ∧ vr_said 4 (vb_toS (vr_S L 0)) (vb_toS (vr_S L 1)) I1 L1 ∧ ∀ (n sl : Nat) (Z : jv_R), jv_Ev 247 511 [(0, .ref 208), (1, .int (vl_I 4))] [] (jv_H K I1 L1 R) n sl Z → jv_Ev 247 0 [(0, .ref 208), (1, .int (vl_I 4))] [] (jv_H K I L R) n sl Z := by
  refine ⟨_, _, ?_, ?_, fun n sl Z HK => jv_b247_c4 hW h0 h1 HK⟩
  · exact vr_scr_r (vr_scr_r (vr_scr_r (vr_scr_r (vr_scr_f (vr_scr_f (vr_scr_f (vr_scr_f (vr_scr_refl hE) (by first | exact Or.inl (by decide) | exact Or.inr rfl)) (by first | exact Or.inl (by decide) | exact Or.inr rfl)) (by first | exact Or.inl (by decide) | exact Or.inr rfl)) (by first | exact Or.inl (by decide) | exact Or.inr rfl)) (by decide)) (by decide)) (by decide)) (by decide)
  · refine vr_said_of (jv_u_self _ _ _ _) ((jv_u_j _ _ _ _ (by decide)).trans (jv_u_self _ _ _ _)) ?_ ?_
    all_goals simp only [vr_set_S, jv_u_self, vr_s01, vr_s03, vr_s04, vr_s10, vr_s13, vr_s14, vr_s30, vr_s31, vr_s34, vr_s40, vr_s41, vr_s43, vr_g01, vr_g10, vr_g30, vr_g31, vr_g40, vr_g41]
    all_goals clear hE h0 h1
    all_goals generalize vr_S L 0 = r at hx ⊢
    all_goals generalize vr_S L 1 = s at hy ⊢
    all_goals
      have e : vb_say 4 (vb_toS r) (vb_toS s) = if r.high = 0 ∨ s.low = vb_m1 then none else some (vb_setLow (vb_toS r) (s.low + 1), vb_setHigh (vb_toS s) (r.high - 1)) := by
        show vb_swp (if r.high = 0 ∨ s.low = vb_m1 then none else some (vb_setHigh (vb_toS s) (r.high - 1), vb_setLow (vb_toS r) (s.low + 1))) = _
        by_cases c : r.high = 0 ∨ s.low = vb_m1
        · rw [if_pos c, if_pos c]; rfl
        · rw [if_neg c, if_neg c]; rfl
      rw [e]
    · intro h
      by_cases c : r.high = 0 ∨ s.low = vb_m1
      · rcases c with c | c <;> simp [c]
      · rw [if_neg c] at h; cases h
    · intro p h
      by_cases c : r.high = 0 ∨ s.low = vb_m1
      · rw [if_pos c] at h; cases h
      · rw [if_neg c] at h
        cases h
        have c1 : ¬ r.high = 0 := fun z => c (Or.inl z)
        have c2 : ¬ s.low = vb_m1 := fun z => c (Or.inr z)
        rw [vr_toR_setHigh, vr_toR_setLow]
        refine ⟨?_, ?_, ?_, ?_⟩ <;> first | (simp [c1, c2]; done) | (rw [Bool.false_or, Bool.true_and]; first | exact decide_eq_false c1 | exact decide_eq_false c2) | exact congrArg _ (if_pos ⟨trivial, c1⟩) | exact congrArg _ (if_pos ⟨trivial, c2⟩)
theorem vr_say5 {K : Nat → Option (Nat × Nat)} {I : Nat → Nat → Int32} {L : Nat → Nat → Int64} {R : Nat → Nat → Value} (hW : jv_rW K R) (hE : ∀ q, 2 ≤ q → I 215 q = 0) (h0 : I 215 0 = 0) (h1 : I 215 1 = 0) (hx : vb_tight (vb_toS (vr_S L 0))) (hy : vb_tight (vb_toS (vr_S L 1))) : ∃ I1 L1, vr_scr I I1 L L1 ∧ vr_said 5 (vb_toS (vr_S L 0)) (vb_toS (vr_S L 1)) I1 L1 ∧ ∀ (n sl : Nat) (Z : jv_R), jv_Ev 247 511 [(0, .ref 208), (1, .int (vl_I 5))] [] (jv_H K I1 L1 R) n sl Z → jv_Ev 247 0 [(0, .ref 208), (1, .int (vl_I 5))] [] (jv_H K I L R) n sl Z := by
  refine ⟨_, _, ?_, ?_, fun n sl Z HK => jv_b247_c5 hW h0 h1 HK⟩
  · exact vr_scr_r (vr_scr_r (vr_scr_r (vr_scr_r (vr_scr_f (vr_scr_f (vr_scr_f (vr_scr_f (vr_scr_refl hE) (by first | exact Or.inl (by decide) | exact Or.inr rfl)) (by first | exact Or.inl (by decide) | exact Or.inr rfl)) (by first | exact Or.inl (by decide) | exact Or.inr rfl)) (by first | exact Or.inl (by decide) | exact Or.inr rfl)) (by decide)) (by decide)) (by decide)) (by decide)
  · refine vr_said_of (jv_u_self _ _ _ _) ((jv_u_j _ _ _ _ (by decide)).trans (jv_u_self _ _ _ _)) ?_ ?_
    all_goals simp only [vr_set_S, jv_u_self, vr_s01, vr_s03, vr_s04, vr_s10, vr_s13, vr_s14, vr_s30, vr_s31, vr_s34, vr_s40, vr_s41, vr_s43, vr_g01, vr_g10, vr_g30, vr_g31, vr_g40, vr_g41]
    all_goals clear hE h0 h1
    all_goals generalize vr_S L 0 = r at hx ⊢
    all_goals generalize vr_S L 1 = s at hy ⊢
    all_goals
      have e : vb_say 5 (vb_toS r) (vb_toS s) = some (vb_setLow (vb_toS r) s.low, vb_setHigh (vb_toS s) r.high) := rfl
      rw [e]
    · intro h; cases h
    · intro p h
      cases h
      rw [vr_toR_setHigh, vr_toR_setLow]
      refine ⟨?_, ?_, ?_, ?_⟩ <;> simp
theorem vr_say6 {K : Nat → Option (Nat × Nat)} {I : Nat → Nat → Int32} {L : Nat → Nat → Int64} {R : Nat → Nat → Value} (hW : jv_rW K R) (hE : ∀ q, 2 ≤ q → I 215 q = 0) (h0 : I 215 0 = 0) (h1 : I 215 1 = 0) (hx : vb_tight (vb_toS (vr_S L 0))) (hy : vb_tight (vb_toS (vr_S L 1))) : ∃ I1 L1, vr_scr I I1 L L1 ∧ vr_said 6 (vb_toS (vr_S L 0)) (vb_toS (vr_S L 1)) I1 L1 ∧ ∀ (n sl : Nat) (Z : jv_R), jv_Ev 247 511 [(0, .ref 208), (1, .int (vl_I 6))] [] (jv_H K I1 L1 R) n sl Z → jv_Ev 247 0 [(0, .ref 208), (1, .int (vl_I 6))] [] (jv_H K I L R) n sl Z := by
  refine ⟨_, _, ?_, ?_, fun n sl Z HK => jv_b247_c6 hW h0 h1 HK⟩
  · exact vr_scr_r (vr_scr_r (vr_scr_r (vr_scr_r (vr_scr_f (vr_scr_f (vr_scr_f (vr_scr_f (vr_scr_refl hE) (by first | exact Or.inl (by decide) | exact Or.inr rfl)) (by first | exact Or.inl (by decide) | exact Or.inr rfl)) (by first | exact Or.inl (by decide) | exact Or.inr rfl)) (by first | exact Or.inl (by decide) | exact Or.inr rfl)) (by decide)) (by decide)) (by decide)) (by decide)
  · refine vr_said_of ((jv_u_j _ _ _ _ (by decide)).trans (jv_u_self _ _ _ _)) (jv_u_self _ _ _ _) ?_ ?_
    all_goals simp only [vr_set_S, jv_u_self, vr_s01, vr_s03, vr_s04, vr_s10, vr_s13, vr_s14, vr_s30, vr_s31, vr_s34, vr_s40, vr_s41, vr_s43, vr_g01, vr_g10, vr_g30, vr_g31, vr_g40, vr_g41]
    all_goals clear hE h0 h1
    all_goals generalize vr_S L 0 = r at hx ⊢
    all_goals generalize vr_S L 1 = s at hy ⊢
    all_goals
      have e : vb_say 6 (vb_toS r) (vb_toS s) = if s.greatest = vb_top_ ∨ r.least = vb_most then none else some (vb_setGreatest (vb_toS r) (s.greatest - 1), vb_setLeast (vb_toS s) (r.least + 1)) := rfl
      rw [e]
    · intro h
      by_cases c : s.greatest = vb_top_ ∨ r.least = vb_most
      · rcases c with c | c <;> simp [c]
      · rw [if_neg c] at h; cases h
    · intro p h
      by_cases c : s.greatest = vb_top_ ∨ r.least = vb_most
      · rw [if_pos c] at h; cases h
      · rw [if_neg c] at h
        cases h
        have c1 : ¬ s.greatest = vb_top_ := fun z => c (Or.inl z)
        have c2 : ¬ r.least = vb_most := fun z => c (Or.inr z)
        rw [vr_toR_setGreatest, vr_toR_setLeast]
        refine ⟨?_, ?_, ?_, ?_⟩ <;> first | (simp [c1, c2]; done) | (rw [Bool.false_or, Bool.true_and]; first | exact decide_eq_false c1 | exact decide_eq_false c2) | exact congrArg _ (if_pos ⟨trivial, c1⟩) | exact congrArg _ (if_pos ⟨trivial, c2⟩)
theorem vr_say7 {K : Nat → Option (Nat × Nat)} {I : Nat → Nat → Int32} {L : Nat → Nat → Int64} {R : Nat → Nat → Value} (hW : jv_rW K R) (hE : ∀ q, 2 ≤ q → I 215 q = 0) (h0 : I 215 0 = 0) (h1 : I 215 1 = 0) (hx : vb_tight (vb_toS (vr_S L 0))) (hy : vb_tight (vb_toS (vr_S L 1))) : ∃ I1 L1, vr_scr I I1 L L1 ∧ vr_said 7 (vb_toS (vr_S L 0)) (vb_toS (vr_S L 1)) I1 L1 ∧ ∀ (n sl : Nat) (Z : jv_R), jv_Ev 247 511 [(0, .ref 208), (1, .int (vl_I 7))] [] (jv_H K I1 L1 R) n sl Z → jv_Ev 247 0 [(0, .ref 208), (1, .int (vl_I 7))] [] (jv_H K I L R) n sl Z := by
  refine ⟨_, _, ?_, ?_, fun n sl Z HK => jv_b247_c7 hW h0 h1 HK⟩
  · exact vr_scr_r (vr_scr_r (vr_scr_r (vr_scr_r (vr_scr_f (vr_scr_f (vr_scr_f (vr_scr_f (vr_scr_refl hE) (by first | exact Or.inl (by decide) | exact Or.inr rfl)) (by first | exact Or.inl (by decide) | exact Or.inr rfl)) (by first | exact Or.inl (by decide) | exact Or.inr rfl)) (by first | exact Or.inl (by decide) | exact Or.inr rfl)) (by decide)) (by decide)) (by decide)) (by decide)
  · refine vr_said_of ((jv_u_j _ _ _ _ (by decide)).trans (jv_u_self _ _ _ _)) (jv_u_self _ _ _ _) ?_ ?_
    all_goals simp only [vr_set_S, jv_u_self, vr_s01, vr_s03, vr_s04, vr_s10, vr_s13, vr_s14, vr_s30, vr_s31, vr_s34, vr_s40, vr_s41, vr_s43, vr_g01, vr_g10, vr_g30, vr_g31, vr_g40, vr_g41]
    all_goals clear hE h0 h1
    all_goals generalize vr_S L 0 = r at hx ⊢
    all_goals generalize vr_S L 1 = s at hy ⊢
    all_goals
      have e : vb_say 7 (vb_toS r) (vb_toS s) = some (vb_setGreatest (vb_toS r) s.greatest, vb_setLeast (vb_toS s) r.least) := rfl
      rw [e]
    · intro h; cases h
    · intro p h
      cases h
      rw [vr_toR_setGreatest, vr_toR_setLeast]
      refine ⟨?_, ?_, ?_, ?_⟩ <;> simp
theorem vr_say8 {K : Nat → Option (Nat × Nat)} {I : Nat → Nat → Int32} {L : Nat → Nat → Int64} {R : Nat → Nat → Value} (hW : jv_rW K R) (hE : ∀ q, 2 ≤ q → I 215 q = 0) (h0 : I 215 0 = 0) (h1 : I 215 1 = 0) (hx : vb_tight (vb_toS (vr_S L 0))) (hy : vb_tight (vb_toS (vr_S L 1))) : ∃ I1 L1, vr_scr I I1 L L1 ∧ vr_said 8 (vb_toS (vr_S L 0)) (vb_toS (vr_S L 1)) I1 L1 ∧ ∀ (n sl : Nat) (Z : jv_R), jv_Ev 247 511 [(0, .ref 208), (1, .int (vl_I 8))] [] (jv_H K I1 L1 R) n sl Z → jv_Ev 247 0 [(0, .ref 208), (1, .int (vl_I 8))] [] (jv_H K I L R) n sl Z := by
  refine ⟨_, _, ?_, ?_, fun n sl Z HK => jv_b247_c8 hW h0 h1 HK⟩
  · exact vr_scr_r (vr_scr_r (vr_scr_r (vr_scr_r (vr_scr_f (vr_scr_f (vr_scr_f (vr_scr_f (vr_scr_refl hE) (by first | exact Or.inl (by decide) | exact Or.inr rfl)) (by first | exact Or.inl (by decide) | exact Or.inr rfl)) (by first | exact Or.inl (by decide) | exact Or.inr rfl)) (by first | exact Or.inl (by decide) | exact Or.inr rfl)) (by decide)) (by decide)) (by decide)) (by decide)
  · refine vr_said_of (jv_u_self _ _ _ _) ((jv_u_j _ _ _ _ (by decide)).trans (jv_u_self _ _ _ _)) ?_ ?_
    all_goals simp only [vr_set_S, jv_u_self, vr_s01, vr_s03, vr_s04, vr_s10, vr_s13, vr_s14, vr_s30, vr_s31, vr_s34, vr_s40, vr_s41, vr_s43, vr_g01, vr_g10, vr_g30, vr_g31, vr_g40, vr_g41]
    all_goals clear hE h0 h1
    all_goals generalize vr_S L 0 = r at hx ⊢
    all_goals generalize vr_S L 1 = s at hy ⊢
    all_goals
      have e : vb_say 8 (vb_toS r) (vb_toS s) = if r.greatest = vb_top_ ∨ s.least = vb_most then none else some (vb_setLeast (vb_toS r) (s.least + 1), vb_setGreatest (vb_toS s) (r.greatest - 1)) := by
        show vb_swp (if r.greatest = vb_top_ ∨ s.least = vb_most then none else some (vb_setGreatest (vb_toS s) (r.greatest - 1), vb_setLeast (vb_toS r) (s.least + 1))) = _
        by_cases c : r.greatest = vb_top_ ∨ s.least = vb_most
        · rw [if_pos c, if_pos c]; rfl
        · rw [if_neg c, if_neg c]; rfl
      rw [e]
    · intro h
      by_cases c : r.greatest = vb_top_ ∨ s.least = vb_most
      · rcases c with c | c <;> simp [c]
      · rw [if_neg c] at h; cases h
    · intro p h
      by_cases c : r.greatest = vb_top_ ∨ s.least = vb_most
      · rw [if_pos c] at h; cases h
      · rw [if_neg c] at h
        cases h
        have c1 : ¬ r.greatest = vb_top_ := fun z => c (Or.inl z)
        have c2 : ¬ s.least = vb_most := fun z => c (Or.inr z)
        rw [vr_toR_setGreatest, vr_toR_setLeast]
        refine ⟨?_, ?_, ?_, ?_⟩ <;> first | (simp [c1, c2]; done) | (rw [Bool.false_or, Bool.true_and]; first | exact decide_eq_false c1 | exact decide_eq_false c2) | exact congrArg _ (if_pos ⟨trivial, c1⟩) | exact congrArg _ (if_pos ⟨trivial, c2⟩)
theorem vr_say9 {K : Nat → Option (Nat × Nat)} {I : Nat → Nat → Int32} {L : Nat → Nat → Int64} {R : Nat → Nat → Value} (hW : jv_rW K R) (hE : ∀ q, 2 ≤ q → I 215 q = 0) (h0 : I 215 0 = 0) (h1 : I 215 1 = 0) (hx : vb_tight (vb_toS (vr_S L 0))) (hy : vb_tight (vb_toS (vr_S L 1))) : ∃ I1 L1, vr_scr I I1 L L1 ∧ vr_said 9 (vb_toS (vr_S L 0)) (vb_toS (vr_S L 1)) I1 L1 ∧ ∀ (n sl : Nat) (Z : jv_R), jv_Ev 247 511 [(0, .ref 208), (1, .int (vl_I 9))] [] (jv_H K I1 L1 R) n sl Z → jv_Ev 247 0 [(0, .ref 208), (1, .int (vl_I 9))] [] (jv_H K I L R) n sl Z := by
  refine ⟨_, _, ?_, ?_, fun n sl Z HK => jv_b247_c9 hW h0 h1 HK⟩
  · exact vr_scr_r (vr_scr_r (vr_scr_r (vr_scr_r (vr_scr_f (vr_scr_f (vr_scr_f (vr_scr_f (vr_scr_refl hE) (by first | exact Or.inl (by decide) | exact Or.inr rfl)) (by first | exact Or.inl (by decide) | exact Or.inr rfl)) (by first | exact Or.inl (by decide) | exact Or.inr rfl)) (by first | exact Or.inl (by decide) | exact Or.inr rfl)) (by decide)) (by decide)) (by decide)) (by decide)
  · refine vr_said_of (jv_u_self _ _ _ _) ((jv_u_j _ _ _ _ (by decide)).trans (jv_u_self _ _ _ _)) ?_ ?_
    all_goals simp only [vr_set_S, jv_u_self, vr_s01, vr_s03, vr_s04, vr_s10, vr_s13, vr_s14, vr_s30, vr_s31, vr_s34, vr_s40, vr_s41, vr_s43, vr_g01, vr_g10, vr_g30, vr_g31, vr_g40, vr_g41]
    all_goals clear hE h0 h1
    all_goals generalize vr_S L 0 = r at hx ⊢
    all_goals generalize vr_S L 1 = s at hy ⊢
    all_goals
      have e : vb_say 9 (vb_toS r) (vb_toS s) = some (vb_setLeast (vb_toS r) s.least, vb_setGreatest (vb_toS s) r.greatest) := rfl
      rw [e]
    · intro h; cases h
    · intro p h
      cases h
      rw [vr_toR_setGreatest, vr_toR_setLeast]
      refine ⟨?_, ?_, ?_, ?_⟩ <;> simp
theorem vr_say10 {K : Nat → Option (Nat × Nat)} {I : Nat → Nat → Int32} {L : Nat → Nat → Int64} {R : Nat → Nat → Value} (hW : jv_rW K R) (hE : ∀ q, 2 ≤ q → I 215 q = 0) (h0 : I 215 0 = 0) (h1 : I 215 1 = 0) (hx : vb_tight (vb_toS (vr_S L 0))) (hy : vb_tight (vb_toS (vr_S L 1))) : ∃ I1 L1, vr_scr I I1 L L1 ∧ vr_said 10 (vb_toS (vr_S L 0)) (vb_toS (vr_S L 1)) I1 L1 ∧ ∀ (n sl : Nat) (Z : jv_R), jv_Ev 247 511 [(0, .ref 208), (1, .int (vl_I 10))] [] (jv_H K I1 L1 R) n sl Z → jv_Ev 247 0 [(0, .ref 208), (1, .int (vl_I 10))] [] (jv_H K I L R) n sl Z := by
  refine ⟨_, _, ?_, ?_, fun n sl Z HK => jv_b247_c10 hW h0 h1 HK⟩
  · exact vr_scr_r (vr_scr_r (vr_scr_r (vr_scr_r (vr_scr_f (vr_scr_f (vr_scr_f (vr_scr_f (vr_scr_f (vr_scr_refl hE) (by first | exact Or.inl (by decide) | exact Or.inr rfl)) (by first | exact Or.inl (by decide) | exact Or.inr rfl)) (by first | exact Or.inl (by decide) | exact Or.inr rfl)) (by first | exact Or.inl (by decide) | exact Or.inr rfl)) (by first | exact Or.inl (by decide) | exact Or.inr rfl)) (by decide)) (by decide)) (by decide)) (by decide)
  · refine vr_said_of ((jv_u_j _ _ _ _ (by decide)).trans (jv_u_self _ _ _ _)) (jv_u_self _ _ _ _) ?_ ?_
    all_goals simp only [vr_set_S, jv_u_self, vr_s01, vr_s03, vr_s04, vr_s10, vr_s13, vr_s14, vr_s30, vr_s31, vr_s34, vr_s40, vr_s41, vr_s43, vr_g01, vr_g10, vr_g30, vr_g31, vr_g40, vr_g41]
    all_goals clear hE h0 h1
    all_goals generalize vr_S L 0 = r at hx ⊢
    all_goals generalize vr_S L 1 = s at hy ⊢
    all_goals
      have e : vb_say 10 (vb_toS r) (vb_toS s) = if (~~~(~~~r.opn) ||| r.bits) &&& (~~~(~~~s.opn) ||| s.bits) = 0 then none else some (vb_sure (vb_toS r) (if s.low = s.high ∧ vb_oneBit s.low = true then s.low else 0), vb_sure (vb_toS s) (if r.low = r.high ∧ vb_oneBit r.low = true then r.low else 0)) := rfl
      rw [BitVec.not_not, BitVec.not_not, BitVec.or_comm r.opn, BitVec.or_comm s.opn] at e
      rw [e]
      have q : ∀ a b : BitVec 64, ((Int64.ofBitVec a ||| Int64.ofBitVec b) = (0 : Int64)) ↔ a ||| b = 0 := fun a b => ⟨fun z => congrArg Int64.toBitVec z, fun z => Int64.toBitVec_inj.mp z⟩
      have q2 : (((Int64.ofBitVec r.bits ||| Int64.ofBitVec r.opn) &&& (Int64.ofBitVec s.bits ||| Int64.ofBitVec s.opn)) = (0 : Int64)) ↔ (r.bits ||| r.opn) &&& (s.bits ||| s.opn) = 0 := ⟨fun z => congrArg Int64.toBitVec z, fun z => Int64.toBitVec_inj.mp z⟩
      have v1 : (if vr_b (decide (s.low = s.high)) = 0 then (0 : Int64) else if vr_b (vb_oneBit s.low) = 0 then (0 : Int64) else Int64.ofBitVec s.low).toBitVec = if s.low = s.high ∧ vb_oneBit s.low = true then s.low else 0 := vr_pick s.low s.low s.high
      have v2 : (if vr_b (decide (r.low = r.high)) = 0 then (0 : Int64) else if vr_b (vb_oneBit r.low) = 0 then (0 : Int64) else Int64.ofBitVec r.low).toBitVec = if r.low = r.high ∧ vb_oneBit r.low = true then r.low else 0 := vr_pick r.low r.low r.high
      have z0 : (0 : Int64).toBitVec = 0 := rfl
      rw [v1, v2, z0]
    · intro h
      by_cases c : (r.bits ||| r.opn) &&& (s.bits ||| s.opn) = 0
      · rw [decide_eq_true (q2.mpr c)]; rfl
      · rw [if_neg c] at h; cases h
    · intro p h
      by_cases c : (r.bits ||| r.opn) &&& (s.bits ||| s.opn) = 0
      · rw [if_pos c] at h; cases h
      · rw [if_neg c] at h
        cases h
        rw [decide_eq_false (fun z => c (q2.mp z)), vr_toR_sure, vr_toR_sure]
        refine ⟨?_, ?_, rfl, rfl⟩
        · rw [Bool.false_or]; exact vb_not_forced hy c
        · rw [Bool.false_or]; exact vb_not_forced hx (by rw [BitVec.and_comm]; exact c)
theorem vr_say11 {K : Nat → Option (Nat × Nat)} {I : Nat → Nat → Int32} {L : Nat → Nat → Int64} {R : Nat → Nat → Value} (hW : jv_rW K R) (hE : ∀ q, 2 ≤ q → I 215 q = 0) (h0 : I 215 0 = 0) (h1 : I 215 1 = 0) (hx : vb_tight (vb_toS (vr_S L 0))) (hy : vb_tight (vb_toS (vr_S L 1))) : ∃ I1 L1, vr_scr I I1 L L1 ∧ vr_said 11 (vb_toS (vr_S L 0)) (vb_toS (vr_S L 1)) I1 L1 ∧ ∀ (n sl : Nat) (Z : jv_R), jv_Ev 247 511 [(0, .ref 208), (1, .int (vl_I 11))] [] (jv_H K I1 L1 R) n sl Z → jv_Ev 247 0 [(0, .ref 208), (1, .int (vl_I 11))] [] (jv_H K I L R) n sl Z := by
  refine ⟨_, _, ?_, ?_, fun n sl Z HK => jv_b247_c11 hW h0 h1 HK⟩
  · exact vr_scr_r (vr_scr_r (vr_scr_r (vr_scr_r (vr_scr_f (vr_scr_f (vr_scr_f (vr_scr_f (vr_scr_f (vr_scr_refl hE) (by first | exact Or.inl (by decide) | exact Or.inr rfl)) (by first | exact Or.inl (by decide) | exact Or.inr rfl)) (by first | exact Or.inl (by decide) | exact Or.inr rfl)) (by first | exact Or.inl (by decide) | exact Or.inr rfl)) (by first | exact Or.inl (by decide) | exact Or.inr rfl)) (by decide)) (by decide)) (by decide)) (by decide)
  · refine vr_said_of ((jv_u_j _ _ _ _ (by decide)).trans (jv_u_self _ _ _ _)) (jv_u_self _ _ _ _) ?_ ?_
    all_goals simp only [vr_set_S, jv_u_self, vr_s01, vr_s03, vr_s04, vr_s10, vr_s13, vr_s14, vr_s30, vr_s31, vr_s34, vr_s40, vr_s41, vr_s43, vr_g01, vr_g10, vr_g30, vr_g31, vr_g40, vr_g41]
    all_goals clear hE h0 h1
    all_goals generalize vr_S L 0 = r at hx ⊢
    all_goals generalize vr_S L 1 = s at hy ⊢
    all_goals
      have e : vb_say 11 (vb_toS r) (vb_toS s) = if r.bits &&& s.bits ≠ 0 then none else some (vb_never (vb_toS r) (if s.low = s.high then s.low else 0), vb_never (vb_toS s) (if r.low = r.high then r.low else 0)) := rfl
      rw [e]
      have q2 : ((Int64.ofBitVec r.bits &&& Int64.ofBitVec s.bits) = (0 : Int64)) ↔ r.bits &&& s.bits = 0 := ⟨fun z => congrArg Int64.toBitVec z, fun z => Int64.toBitVec_inj.mp z⟩
      have v1 : (if vr_b (decide (s.low = s.high)) = 0 then (0 : Int64) else Int64.ofBitVec s.low).toBitVec = if s.low = s.high then s.low else 0 := vr_pick2 s.low s.low s.high
      have v2 : (if vr_b (decide (r.low = r.high)) = 0 then (0 : Int64) else Int64.ofBitVec r.low).toBitVec = if r.low = r.high then r.low else 0 := vr_pick2 r.low r.low r.high
      have z0 : (0 : Int64).toBitVec = 0 := rfl
      rw [v1, v2, z0]
    · intro h
      by_cases c : r.bits &&& s.bits = 0
      · rw [if_neg (fun z => z c)] at h; cases h
      · rw [decide_eq_false (fun z => c (q2.mp z))]; rfl
    · intro p h
      by_cases c : r.bits &&& s.bits = 0
      · rw [if_neg (fun z => z c)] at h
        cases h
        rw [decide_eq_true (q2.mpr c), vr_toR_never, vr_toR_never]
        refine ⟨?_, ?_, rfl, rfl⟩
        · rw [Bool.not_true, Bool.false_or]; exact vb_not_forced2 hy c
        · rw [Bool.false_or]; exact vb_not_forced2 hx (by rw [BitVec.and_comm]; exact c)
      · rw [if_pos c] at h; cases h