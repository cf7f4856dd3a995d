/-! part a10: refine, joins and widenings of the other side (gen/ta10.py) -/
theorem vr_tight_empty {K : Nat → Option (Nat × Nat)} {I : Nat → Nat → Int32} {L : Nat → Nat → Int64} {R : Nat → Nat → Value} (p : Int32) (hW : jv_rW K R) (hx_p : jv_ix p 77200) (hne : ¬ I 215 p.toNatClampNeg = 0) {n sl : Nat} : jv_Ms 216 [.ref 208, .int p] (jv_H K I L R) n sl (none, jv_H K (jv_u I 215 p.toNatClampNeg ((1 : Int32) &&& 1)) L R, n, sl) := by
  show jv_Ev 216 0 [(0, .ref 208), (1, .int p)] [] (jv_H K I L R) n sl _
  refine jv_Ev.steps jv_i216 1 (pc' := 1) (l' := [(0, .ref 208), (1, .int p)]) (st' := [.ref 208]) rfl ?_
  refine jv_Ev.m jv_i216 (pc' := 4) (st' := [.ref 215]) (G' := (jv_H K I L R)) rfl rfl (jv_m_getR (jv_rwK hW 208 11 7 (by decide)) rfl rfl (jv_rwR hW 208 6 215 (by decide))) ?_
  refine jv_Ev.steps jv_i216 1 (pc' := 5) (l' := [(0, .ref 208), (1, .int p)]) (st' := [.int p, .ref 215]) rfl ?_
  refine jv_Ev.m jv_i216 (pc' := 6) (st' := [.int (I 215 p.toNatClampNeg)]) (G' := (jv_H K I L R)) rfl rfl (jv_m_baldv (jv_rwK hW 215 100 77200 (by decide)) rfl hx_p rfl rfl) ?_
  refine jv_Ev.cnd jv_i216 (pt := 18) (pe := 9) (p := (¬ (I 215 p.toNatClampNeg) = 0)) (q := (¬ (I 215 p.toNatClampNeg) = 0)) rfl jv_bi_ne rfl rfl Iff.rfl (fun _ => ?_) (fun hz => absurd hne hz)
  refine jv_Ev.steps jv_i216 1 (pc' := 19) (l' := [(0, .ref 208), (1, .int p)]) (st' := [.ref 208]) rfl ?_
  refine jv_Ev.m jv_i216 (pc' := 22) (st' := [.ref 215]) (G' := (jv_H K I L R)) rfl rfl (jv_m_getR (jv_rwK hW 208 11 7 (by decide)) rfl rfl (jv_rwR hW 208 6 215 (by decide))) ?_
  refine jv_Ev.steps jv_i216 2 (pc' := 24) (l' := [(0, .ref 208), (1, .int p)]) (st' := [.ref 208, .int p, .ref 215]) rfl ?_
  refine jv_Ev.m jv_i216 (pc' := 27) (st' := [.ref 215, .int p, .ref 215]) (G' := (jv_H K I L R)) rfl rfl (jv_m_getR (jv_rwK hW 208 11 7 (by decide)) rfl rfl (jv_rwR hW 208 6 215 (by decide))) ?_
  refine jv_Ev.steps jv_i216 1 (pc' := 28) (l' := [(0, .ref 208), (1, .int p)]) (st' := [.int p, .ref 215, .int p, .ref 215]) rfl ?_
  refine jv_Ev.m jv_i216 (pc' := 29) (st' := [.int (I 215 p.toNatClampNeg), .int p, .ref 215]) (G' := (jv_H K I L R)) rfl rfl (jv_m_baldv (jv_rwK hW 215 100 77200 (by decide)) rfl hx_p rfl rfl) ?_
  refine jv_Ev.cnd jv_i216 (pt := 52) (pe := 32) (p := (¬ (I 215 p.toNatClampNeg) = 0)) (q := (¬ (I 215 p.toNatClampNeg) = 0)) rfl jv_bi_ne rfl rfl Iff.rfl (fun _ => ?_) (fun hz => absurd hne hz)
  refine jv_Ev.steps jv_i216 2 (pc' := 57) (l' := [(0, .ref 208), (1, .int p)]) (st' := [.int (1 : Int32), .int p, .ref 215]) rfl ?_
  refine jv_Ev.m jv_i216 (pc' := 58) (st' := []) (G' := (jv_H K (jv_u I 215 p.toNatClampNeg ((1 : Int32) &&& 1)) L R)) rfl rfl (jv_m_zast (jv_rwK hW 215 100 77200 (by decide)) hx_p) ?_
  refine jv_Ev.steps jv_i216 1 (pc' := 59) (l' := [(0, .ref 208), (1, .int p)]) (st' := [.ref 208]) rfl ?_
  refine jv_Ev.m jv_i216 (pc' := 62) (st' := [.ref 215]) (G' := (jv_H K (jv_u I 215 p.toNatClampNeg ((1 : Int32) &&& 1)) L R)) rfl rfl (jv_m_getR (jv_rwK hW 208 11 7 (by decide)) rfl rfl (jv_rwR hW 208 6 215 (by decide))) ?_
  refine jv_Ev.steps jv_i216 1 (pc' := 63) (l' := [(0, .ref 208), (1, .int p)]) (st' := [.int p, .ref 215]) rfl ?_
  refine jv_Ev.m jv_i216 (pc' := 64) (st' := [.int ((1 : Int32) &&& 1)]) (G' := (jv_H K (jv_u I 215 p.toNatClampNeg ((1 : Int32) &&& 1)) L R)) rfl rfl (jv_m_baldv (jv_rwK hW 215 100 77200 (by decide)) rfl hx_p rfl (jv_u_self _ _ _ _)) ?_
  refine jv_Ev.cnd jv_i216 (pt := 68) (pe := 67) (p := (((1 : Int32) &&& 1) = 0)) (q := (((1 : Int32) &&& 1) = 0)) rfl jv_bi_eq rfl rfl Iff.rfl (fun hz => absurd hz (by decide)) (fun _ => ?_)
  exact jv_Ev.ret jv_i216 rfl rfl
/-- tighten, whether the row is empty or not -/
def vb_rT (f : Bool) (r : vb_R) : Bool × vb_R := if f = true then (true, r) else vb_rtight r
theorem vr_tightF {K : Nat → Option (Nat × Nat)} {I : Nat → Nat → Int32} {L : Nat → Nat → Int64} {R : Nat → Nat → Value} (p : Int32) (f : Bool) (hW : jv_rW K R) (hp : jv_ix p 77200) (hf : I 215 p.toNatClampNeg = vr_b f) {n sl : Nat} :
    jv_Ms 216 [.ref 208, .int p] (jv_H K I L R) n sl (none, jv_H K (jv_u I 215 p.toNatClampNeg (vr_b (vb_rT f (vr_S L p.toNatClampNeg)).1)) (vr_set L p.toNatClampNeg (vb_rT f (vr_S L p.toNatClampNeg)).2) R, n, sl) := by
  cases f
  · exact vr_tighten p hW hp hf
  · have H := vr_tight_empty (I := I) (L := L) (n := n) (sl := sl) p hW hp (by rw [hf]; decide)
    show jv_Ms 216 [.ref 208, .int p] (jv_H K I L R) n sl (none, jv_H K (jv_u I 215 p.toNatClampNeg (vr_b true)) (vr_set L p.toNatClampNeg (vr_S L p.toNatClampNeg)) R, n, sl)
    rw [vr_set_same]
    exact H
set_option maxRecDepth 65536 in
theorem vr_reftail {K : Nat → Option (Nat × Nat)} {I : Nat → Nat → Int32} {L : Nat → Nat → Int64} {R : Nat → Nat → Value} (c : Int32) (f g : Bool) (hW : jv_rW K R) (hf : I 215 0 = vr_b f) (hg : I 215 1 = vr_b g) {n sl : Nat} : jv_Ev 247 511 [(0, .ref 208), (1, .int c)] [] (jv_H K I L R) n sl (none, jv_H K (jv_u (jv_u I 215 0 (vr_b (vb_rT f (vr_S L 0)).1)) 215 1 (vr_b (vb_rT g (vr_S (vr_set L 0 (vb_rT f (vr_S L 0)).2) 1)).1)) (vr_set (vr_set L 0 (vb_rT f (vr_S L 0)).2) 1 (vb_rT g (vr_S (vr_set L 0 (vb_rT f (vr_S L 0)).2) 1)).2) R, n, sl) := by
  refine jv_Ev.steps jv_i247 2 (pc' := 513) (l' := [(0, .ref 208), (1, .int c)]) (st' := [.int (0 : Int32), .ref 208]) rfl ?_
  refine jv_Ev.c jv_i247 (pc' := 516) (S' := []) (G1 := (jv_H K (jv_u I 215 0 (vr_b (vb_rT f (vr_S L 0)).1)) (vr_set L 0 (vb_rT f (vr_S L 0)).2) R)) jv_i216 [.ref 208, .int (0 : Int32)] rfl rfl rfl rfl (jv_cal rfl (jv_H_at (jv_rwK hW 208 11 7 (by decide))) rfl rfl) rfl (vr_tightF (0 : Int32) f hW (by decide) (hf)) rfl rfl ?_
  refine jv_Ev.steps jv_i247 2 (pc' := 518) (l' := [(0, .ref 208), (1, .int c)]) (st' := [.int (1 : Int32), .ref 208]) rfl ?_
  refine jv_Ev.c jv_i247 (pc' := 521) (S' := []) (G1 := (jv_H K (jv_u (jv_u I 215 0 (vr_b (vb_rT f (vr_S L 0)).1)) 215 1 (vr_b (vb_rT g (vr_S (vr_set L 0 (vb_rT f (vr_S L 0)).2) 1)).1)) (vr_set (vr_set L 0 (vb_rT f (vr_S L 0)).2) 1 (vb_rT g (vr_S (vr_set L 0 (vb_rT f (vr_S L 0)).2) 1)).2) R)) jv_i216 [.ref 208, .int (1 : Int32)] rfl rfl rfl rfl (jv_cal rfl (jv_H_at (jv_rwK hW 208 11 7 (by decide))) rfl rfl) rfl (vr_tightF (1 : Int32) g hW (by decide) ((jv_u_j _ _ _ _ (by decide)).trans (hg))) rfl rfl ?_
  exact jv_Ev.ret jv_i247 rfl rfl
theorem vb_or_ones {a b m k : BitVec 64} (h1 : a &&& m = a) (h2 : b &&& k = b) : (a ||| b) &&& (m ||| k) = a ||| b := BitVec.eq_of_getLsbD_eq (fun i hi => by
  have e1 := congrArg (fun z => BitVec.getLsbD z i) h1
  have e2 := congrArg (fun z => BitVec.getLsbD z i) h2
  simp only [BitVec.getLsbD_and, BitVec.getLsbD_or] at e1 e2 ⊢
  revert e1 e2
  cases a.getLsbD i <;> cases b.getLsbD i <;> cases m.getLsbD i <;> cases k.getLsbD i <;> decide)
theorem vb_or_mask {a m v : BitVec 64} (h1 : a &&& m = a) : a &&& (m ||| v) = a := BitVec.eq_of_getLsbD_eq (fun i hi => by
  have e1 := congrArg (fun z => BitVec.getLsbD z i) h1
  simp only [BitVec.getLsbD_and, BitVec.getLsbD_or] at e1 ⊢
  revert e1
  cases a.getLsbD i <;> cases m.getLsbD i <;> cases v.getLsbD i <;> decide)
theorem vb_say_ones {c : Nat} {x y a b : vb_S} (h : vb_say c x y = some (a, b)) (hx : x.ones &&& x.mask = x.ones) (hy : y.ones &&& y.mask = y.ones) : a.ones &&& a.mask = a.ones ∧ b.ones &&& b.mask = b.ones := by
  have sw : ∀ o : Option (vb_S × vb_S), vb_swp o = some (a, b) → o = some (b, a) := by
    intro o ho
    cases o with
    | none => cases ho
    | some p => obtain ⟨u, w⟩ := p; cases ho; rfl
  have below : ∀ x y a b : vb_S, x.ones &&& x.mask = x.ones → y.ones &&& y.mask = y.ones → vb_rBelow x y = some (a, b) → a.ones &&& a.mask = a.ones ∧ b.ones &&& b.mask = b.ones := by
    intro x y a b hx hy h
    unfold vb_rBelow at h
    split at h
    · cases h
    · cases h; exact ⟨hx, hy⟩
  have less : ∀ x y a b : vb_S, x.ones &&& x.mask = x.ones → y.ones &&& y.mask = y.ones → vb_rLess x y = some (a, b) → a.ones &&& a.mask = a.ones ∧ b.ones &&& b.mask = b.ones := by
    intro x y a b hx hy h
    unfold vb_rLess at h
    split at h
    · cases h
    · cases h; exact ⟨hx, hy⟩
  unfold vb_say at h
  by_cases c0 : c = 0
  · rw [if_pos c0] at h
    split at h
    · cases h
    · cases h
      exact ⟨vb_or_ones hx hy, vb_or_ones hx hy⟩
  rw [if_neg c0] at h
  by_cases c1 : c = 1
  · rw [if_pos c1] at h
    split at h
    · cases h; exact ⟨hx, hy⟩
    split at h
    · split at h
      · cases h
      · cases h; exact ⟨hx, hy⟩
    split at h
    · cases h; exact ⟨hx, hy⟩
    · cases h; exact ⟨hx, hy⟩
  rw [if_neg c1] at h
  by_cases c2 : c = 2
  · rw [if_pos c2] at h
    exact below _ _ _ _ hx hy h
  rw [if_neg c2] at h
  by_cases c3 : c = 3
  · rw [if_pos c3] at h
    cases h; exact ⟨hx, hy⟩
  rw [if_neg c3] at h
  by_cases c4 : c = 4
  · rw [if_pos c4] at h
    exact (below _ _ _ _ hy hx (sw _ h)).symm
  rw [if_neg c4] at h
  by_cases c5 : c = 5
  · rw [if_pos c5] at h
    have h := sw _ h
    cases h; exact ⟨hx, hy⟩
  rw [if_neg c5] at h
  by_cases c6 : c = 6
  · rw [if_pos c6] at h
    exact less _ _ _ _ hx hy h
  rw [if_neg c6] at h
  by_cases c7 : c = 7
  · rw [if_pos c7] at h
    cases h; exact ⟨hx, hy⟩
  rw [if_neg c7] at h
  by_cases c8 : c = 8
  · rw [if_pos c8] at h
    exact (less _ _ _ _ hy hx (sw _ h)).symm
  rw [if_neg c8] at h
  by_cases c9 : c = 9
  · rw [if_pos c9] at h
    have h := sw _ h
    cases h; exact ⟨hx, hy⟩
  rw [if_neg c9] at h
  by_cases c10 : c = 10
  · rw [if_pos c10] at h
    split at h
    · cases h
    · cases h
      exact ⟨vb_or_ones hx (BitVec.and_self), vb_or_ones hy (BitVec.and_self)⟩
  rw [if_neg c10] at h
  split at h
  · cases h
  · cases h
    exact ⟨vb_or_mask hx, vb_or_mask hy⟩
def vr_refd (c : Nat) (x y : vb_S) (I1 : Nat → Nat → Int32) (L1 : Nat → Nat → Int64) : Prop := ∃ f g : Bool, I1 215 0 = vr_b f ∧ I1 215 1 = vr_b g ∧ (vb_refine c x y = none → (f || g) = true) ∧ ∀ p, vb_refine c x y = some p → f = false ∧ g = false ∧ vr_S L1 0 = vb_toR p.1 ∧ vr_S L1 1 = vb_toR p.2
theorem vr_rT_true (r : vb_R) : (vb_rT true r).1 = true := rfl
theorem vr_rT_toR {a : vb_S} (h : a.ones &&& a.mask = a.ones) : (vb_rT false (vb_toR a)).1 = !vb_can a ∧ (vb_can a = true → (vb_rT false (vb_toR a)).2 = vb_toR (vb_ctight a)) := by
  have t := vb_tight_both (v := a) (r := vb_toR a) (fun n => by rw [vb_toS_toR]) h (vb_dis_of h)
  refine ⟨?_, fun hc => (t.2 hc).symm⟩
  show (vb_rtight (vb_toR a)).1 = _
  rw [t.1, Bool.not_not]
theorem vr_refine {K : Nat → Option (Nat × Nat)} {I : Nat → Nat → Int32} {L : Nat → Nat → Int64} {R : Nat → Nat → Value} (c : Nat) (hc : c ≤ 11) (hW : jv_rW K R) (hE : ∀ q, 2 ≤ q → I 215 q = 0) (h0 : I 215 0 = 0) (h1 : I 215 1 = 0) (hx : vb_tight (vb_toS (vr_S L 0))) (hy : vb_tight (vb_toS (vr_S L 1))) : ∃ I1 L1, vr_scr I I1 L L1 ∧ vr_refd c (vb_toS (vr_S L 0)) (vb_toS (vr_S L 1)) I1 L1 ∧ ∀ n sl, jv_Ms 247 [.ref 208, .int (vl_I c)] (jv_H K I L R) n sl (none, jv_H K I1 L1 R, n, sl) := by
  have key : ∃ I1 L1, vr_scr I I1 L L1 ∧ vr_said c (vb_toS (vr_S L 0)) (vb_toS (vr_S L 1)) I1 L1 ∧ ∀ (n sl : Nat) (Z : jv_R), jv_Ev 247 511 [(0, .ref 208), (1, .int (vl_I c))] [] (jv_H K I1 L1 R) n sl Z → jv_Ev 247 0 [(0, .ref 208), (1, .int (vl_I c))] [] (jv_H K I L R) n sl Z := by
    match c, hc with
    | 0, _ => exact vr_say0 hW hE h0 h1 hx hy
    | 1, _ => exact vr_say1 hW hE h0 h1 hx hy
    | 2, _ => exact vr_say2 hW hE h0 h1 hx hy
    | 3, _ => exact vr_say3 hW hE h0 h1 hx hy
    | 4, _ => exact vr_say4 hW hE h0 h1 hx hy
    | 5, _ => exact vr_say5 hW hE h0 h1 hx hy
    | 6, _ => exact vr_say6 hW hE h0 h1 hx hy
    | 7, _ => exact vr_say7 hW hE h0 h1 hx hy
    | 8, _ => exact vr_say8 hW hE h0 h1 hx hy
    | 9, _ => exact vr_say9 hW hE h0 h1 hx hy
    | 10, _ => exact vr_say10 hW hE h0 h1 hx hy
    | 11, _ => exact vr_say11 hW hE h0 h1 hx hy
    | k + 12, hc => omega
  obtain ⟨I1, L1, hs, ⟨f, g, hf, hg, hn, hp⟩, HK⟩ := key
  refine ⟨_, _, ?_, ?_, fun n sl => HK n sl _ (vr_reftail (vl_I c) f g hW hf hg)⟩
  · exact vr_scr_r (vr_scr_r (vr_scr_f (vr_scr_f hs (Or.inl (by decide))) (Or.inl (by decide))) (by decide)) (by decide)
  · refine ⟨_, _, (jv_u_j _ _ _ _ (by decide)).trans (jv_u_self _ _ _ _), jv_u_self _ _ _ _, ?_, ?_⟩
    · rw [vr_s01]
      unfold vb_refine
      cases hsay : vb_say c (vb_toS (vr_S L 0)) (vb_toS (vr_S L 1)) with
      | none =>
        intro _
        have := hn hsay
        cases f
        · cases g
          · cases this
          · rw [vr_rT_true, Bool.or_true]
        · rw [vr_rT_true, Bool.true_or]
      | some p =>
        obtain ⟨a, b⟩ := p
        obtain ⟨rfl, rfl, e0, e1⟩ := hp _ hsay
        obtain ⟨o0, o1⟩ := vb_say_ones hsay (vb_tight_ones hx) (vb_tight_ones hy)
        intro h
        rw [e0, e1, (vr_rT_toR o0).1, (vr_rT_toR o1).1]
        dsimp only at h
        by_cases c1 : vb_can a = true ∧ vb_can b = true
        · rw [if_pos c1] at h; cases h
        · cases ha : vb_can a <;> cases hb : vb_can b <;> first | rfl | exact absurd ⟨ha, hb⟩ c1
    · rw [vr_s01]
      unfold vb_refine
      cases hsay : vb_say c (vb_toS (vr_S L 0)) (vb_toS (vr_S L 1)) with
      | none => intro p h; cases h
      | some p =>
        obtain ⟨a, b⟩ := p
        obtain ⟨rfl, rfl, e0, e1⟩ := hp _ hsay
        obtain ⟨o0, o1⟩ := vb_say_ones hsay (vb_tight_ones hx) (vb_tight_ones hy)
        intro p h
        dsimp only at h
        by_cases c1 : vb_can a = true ∧ vb_can b = true
        · rw [if_pos c1] at h
          cases h
          rw [e0, e1, (vr_rT_toR o0).1, (vr_rT_toR o1).1, c1.1, c1.2, vr_s10, vr_set_S, vr_set_S, (vr_rT_toR o0).2 c1.1, (vr_rT_toR o1).2 c1.2]
          exact ⟨rfl, rfl, rfl, rfl⟩
        · rw [if_neg c1] at h; cases h