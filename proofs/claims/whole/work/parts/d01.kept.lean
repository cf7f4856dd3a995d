/-! part b35: what is known of things, kept by instructions and meetings -/
theorem vt_g_no {t : vt_T} (h2 : t.sort ≠ 2) (h3 : t.sort ≠ 3) (h6 : t.sort ≠ 6) (h7 : t.sort ≠ 7) (h8 : t.sort ≠ 8) (h4 : t.sort ≠ 4) : vt_g t :=
  ⟨fun z => (z.elim h2 h3).elim, fun z => by rcases z with z | z | z <;> contradiction, fun z => absurd z h4⟩
theorem vt_g_lit {s : Nat} {k t : Int} {v : vb_S} (hs : s = 0 ∨ s = 1 ∨ s = 5) : vt_g (s, k, t, v) :=
  vt_g_no (show s ≠ 2 by omega) (show s ≠ 3 by omega) (show s ≠ 6 by omega) (show s ≠ 7 by omega) (show s ≠ 8 by omega) (show s ≠ 4 by omega)
theorem vt_g_none (w : Nat) : vt_g (vt_none w) := vt_g_lit (Or.inl rfl)
theorem vt_g_num (v : vb_S) : vt_g (vt_num v) := vt_g_lit (Or.inr (Or.inl rfl))
theorem vt_g_end : vt_g vt_end := vt_g_lit (Or.inr (Or.inr rfl))
theorem vt_g_map {k : Int} {s : Nat} {t : Int} {v : vb_S} (hs : s = 6 ∨ s = 7 ∨ s = 8) (h : 0 ≤ k ∧ k < 8) : vt_g (s, k, t, v) := by
  refine ⟨fun z => ?_, fun _ => h, fun z => ?_⟩
  · have z : s = 2 ∨ s = 3 := z; omega
  · have z : s = 4 := z; omega
theorem vt_g_far {s : Nat} {c t : Int} {v : vb_S} (hs : s = 2 ∨ s = 3) (h : -536870912 ≤ c ∧ c ≤ 536870912) : vt_g (s, c, t, v) := by
  refine ⟨fun _ => h, fun z => ?_, fun z => ?_⟩
  · have z : s = 6 ∨ s = 7 ∨ s = 8 := z; omega
  · have z : s = 4 := z; omega
theorem vt_g_pkt {k t : Int} {v : vb_S} (h : v.low = v.high → v.low.toInt ≤ 536870912) : vt_g (4, k, t, v) :=
  ⟨fun z => by have z : 4 = 2 ∨ 4 = 3 := z; omega, fun z => by have z : 4 = 6 ∨ 4 = 7 ∨ 4 = 8 := z; omega, fun _ => h⟩
theorem vt_gA_up {A : vt_A} {r : Nat} {t : vt_T} (hA : vt_gA A) (ht : vt_g t) : vt_gA (vt_up A r t) := ⟨fun n hn => by
  show vt_g (if n = r then t else A.1 n)
  by_cases h : n = r
  · rw [if_pos h]; exact ht
  · rw [if_neg h]; exact hA.1 n hn, hA.2⟩
/-- a value that is met: one number, then that of both -/
theorem vt_g_meet {w : Bool} {t u : vt_T} (ht : vt_ok t) (hu : vt_ok u) (gt : vt_g t) : vt_g (vt_meet w t u) := by
  have le := (vt_le_meet (w := w) ht hu).1
  have okm := vt_meet_ok (w := w) ht hu
  by_cases c : t.sort ≠ 0 ∧ t.sort = u.sort ∧ t.det = u.det ∧ t.org = u.org
  · have e : vt_meet w t u = if vt_has t.sort = true then (t.sort, t.det, t.org, vb_meet w t.val u.val) else t := if_pos c
    by_cases hh : vt_has t.sort = true
    · rw [if_pos hh] at e
      rw [e] at le okm ⊢
      obtain ⟨g1, g2, g3⟩ := gt
      refine ⟨g1, g2, fun z hs => ?_⟩
      have z4 : t.sort = 4 := z
      have tt := ht.2.1 hh
      rcases le with l | l
      · exact absurd l.1 c.1
      · have m := l.2.2.2.2 hh
        have m1 : t.val.low = (vb_meet w t.val u.val).low := vb_single_mem (m _ tt.low) hs
        have m2 : t.val.high = (vb_meet w t.val u.val).low := vb_single_mem (m _ tt.high) hs
        have q := g3 z4 (m1.trans m2.symm)
        rw [m1] at q; exact q
    · rw [if_neg hh] at e
      rw [e]; exact gt
  · have e : vt_meet w t u = vt_none (vt_wr t &&& vt_wr u) := if_neg c
    rw [e]; exact vt_g_none _
theorem vt_gA_meet {w : Bool} {A B : vt_A} (hA : vt_okA A) (hB : vt_okA B) (gA : vt_gA A) : vt_gA (vt_meetA w A B) := by
  refine ⟨fun n hn => ?_, ?_⟩
  · show vt_g (if n < 75 then vt_meet w (A.1 n) (B.1 n) else A.1 n)
    rw [if_pos hn]; exact vt_g_meet (hA n hn) (hB n hn) (gA.1 n hn)
  · have g := gA.2
    show (if B.2 < A.2 then B.2 else A.2) ≤ _
    split <;> omega
theorem vx_y_g {f : vf_F} {A : vt_A} (hA : vt_gA A) (hs : f.s < 75) : vt_g (vx_y f A) := by
  unfold vx_y
  split
  · exact hA.1 _ hs
  · exact vt_g_num _
theorem vx_move_g {n : Nat} {d y : vt_T} (hd : vt_ok d) (hy : vt_ok y) (gd : vt_g d) (gy : vt_g y) : vt_g (vx_move n d y).2 := by
  have okm := vx_move_ok (n := n) hd hy
  have main : ∀ b x : vt_T, vt_g b → vt_g d → vt_ok (vx_mv n d b x (d.sort = 1)).2 → vt_g (vx_mv n d b x (d.sort = 1)).2 := fun b x gb gd ok => by
    by_cases c1 : x.sort ≠ 1 ∨ (n = 1 ∧ d.sort = 1)
    · rw [vx_mv1 c1]; exact gd
    by_cases c2 : b.sort = 4 ∨ b.sort = 7
    · by_cases c3 : (vx_op n b.val x.val 63).least.toInt < -vx_far ∨ vx_far < (vx_op n b.val x.val 63).greatest.toInt
      · rw [vx_mv2 c1 c2 c3]; exact gd
      · rw [vx_mv3 c1 c2 c3] at ok ⊢
        rcases c2 with z | z
        · rw [z] at ok ⊢
          refine vt_g_pkt (fun hs => ?_)
          have t := ok.2.1 (by show vt_has 4 = true; rfl)
          have a : (vx_op n b.val x.val 63).low.toInt ≤ (vx_op n b.val x.val 63).greatest.toInt := t.low.2.2.2.2
          unfold vx_far at c3
          omega
        · rw [z]; exact vt_g_map (Or.inr (Or.inl rfl)) (gb.2.1 (Or.inr (Or.inl z)))
    by_cases c3 : (b.sort ≠ 2 ∧ b.sort ≠ 3) ∨ x.val.low ≠ x.val.high
    · rw [vx_mv4 c1 c2 c3]; exact gd
    by_cases c4 : vx_mvc n b.det x.val.low.toInt < -vx_far ∨ vx_far < vx_mvc n b.det x.val.low.toInt
    · rw [vx_mv5 c1 c2 c3 c4]; exact gd
    · rw [vx_mv6 c1 c2 c3 c4]
      unfold vx_far at c4
      exact vt_g_far (by omega) (by omega)
  by_cases h : d.sort = 1
  · have e : vx_move n d y = vx_mv n d y d (d.sort = 1) := by
      rw [vx_mvA h]; unfold vx_mv; simp only [h]
    rw [e] at okm ⊢; exact main y d gy gd okm
  · have e : vx_move n d y = vx_mv n d d y (d.sort = 1) := by
      rw [vx_mvB h]; unfold vx_mv; simp only [h]
    rw [e] at okm ⊢; exact main d y gd gd okm
theorem vx_ar_g {f : vf_F} {d y : vt_T} (hd : vt_ok d) (hy : vt_ok y) (gd : vt_g d) (gy : vt_g y) : vt_g (vx_ar f d y).2 := by
  by_cases c1 : vx_a1 f d y
  · rw [vx_ar1 c1]; exact gd
  by_cases c2 : f.n = 11 ∧ f.kind = 7 ∧ f.o = 0
  · rw [vx_ar2 c1 c2]; exact gy
  by_cases c3 : vx_a3 f d y
  · by_cases c4 : f.kind = 7 ∧ (f.n = 0 ∨ f.n = 1)
    · rw [vx_ar3 c1 c2 c3 c4]; exact vx_move_g hd hy gd gy
    · rw [vx_ar4 c1 c2 c3 c4]; exact gd
  · rw [vx_ar5 c1 c2 c3]; exact vt_g_num _
theorem vx_arith_g {f : vf_F} {A : vt_A} (hA : vt_okA A) (gA : vt_gA A) (hd : f.d < 75) (hs : f.s < 75) : vt_gA (vx_arith f A).2 := by
  rw [vx_arith_eq]
  split
  · exact gA
  · exact vt_gA_up gA (vx_ar_g (hA _ hd) (vx_y_ok hA hs) (gA.1 _ hd) (vx_y_g gA hs))
theorem vx_load_g {M : vf_M} {f : vf_F} {A : vt_A} (gA : vt_gA A) : vt_gA (vx_load M f A).2 := by
  by_cases h : (A.1 f.s).sort = 0
  · rw [vx_ld1 h]; exact gA
  by_cases h2 : vx_reach M A (A.1 f.s) f.o f.z false ≠ 0
  · rw [vx_ld2 h h2]; exact gA
  by_cases h3 : (A.1 f.s).sort = 2 ∧ (A.1 f.s).det + f.o = 0
  · rw [vx_ld3 h h2 h3]; exact vt_gA_up gA (vt_g_pkt (fun _ => by decide))
  by_cases h4 : (A.1 f.s).sort = 2 ∧ (A.1 f.s).det + f.o = 8
  · rw [vx_ld4 h h2 h3 h4]; exact vt_gA_up gA vt_g_end
  by_cases h5 : (A.1 f.s).sort = 3
  · by_cases h6 : f.z = 8 ∧ (A.1 (vx_slot ((A.1 f.s).det + f.o))).sort ≠ 0
    · rw [vx_ld5 h h2 h3 h4 h5 h6]
      have r := vx_reach_stk h5 h2
      have z := vf_z_cases f
      exact vt_gA_up gA (gA.1 _ (vx_slot_lt r.1 (by omega)))
    by_cases h7 : vx_nums A ((A.1 f.s).det + f.o) f.z = true
    · rw [vx_ld6 h h2 h3 h4 h5 h6 h7]; exact vt_gA_up gA (vt_g_num _)
    · rw [vx_ld7 h h2 h3 h4 h5 h6 h7]; exact gA
  · rw [vx_ld8 h h2 h3 h4 h5]; exact vt_gA_up gA (vt_g_num _)
theorem vx_put_g {A : vt_A} {a : Int} {z : Nat} {y : vt_T} (gA : vt_gA A) (gy : vt_g y) : vt_gA (vx_put A a z y) := by
  unfold vx_put
  split
  · exact vt_gA_up gA gy
  · exact vt_gA_up gA (vt_g_none _)
theorem vx_store_g {M : vf_M} {f : vf_F} {A : vt_A} (gA : vt_gA A) (hs : f.s < 75) : vt_gA (vx_store M f A).2 := by
  unfold vx_store
  dsimp only
  have gy : vt_g (if f.kind = 3 then A.1 f.s else vt_num (vx_just f.i)) := by
    split
    · exact gA.1 _ hs
    · exact vt_g_num _
  generalize (if f.kind = 3 then A.1 f.s else vt_num (vx_just f.i)) = y at gy ⊢
  split
  · exact gA
  split
  · exact gA
  split
  · exact gA
  split
  · exact vx_put_g gA gy
  · exact gA
theorem vx_atomic_g {M : vf_M} {f : vf_F} {A : vt_A} (gA : vt_gA A) : vt_gA (vx_atomic M f A).2 := by
  unfold vx_atomic
  dsimp only
  repeat' split
  all_goals first | exact gA | exact vt_gA_up gA (vt_g_num _)
theorem vx_wide_g {M : vf_M} {f : vf_F} {i2 : Int} {A : vt_A} (hM8 : ∀ k, 8 ≤ k → M k = none) (gA : vt_gA A) (hi : f.s ≠ 0 → 0 ≤ f.i) : vt_gA (vx_wide M f i2 A).2 := by
  unfold vx_wide
  by_cases h : f.s = 0
  · rw [if_pos h]; exact vt_gA_up gA (vt_g_num _)
  · rw [if_neg h]
    by_cases hs : (M f.i.toNat).isSome = true
    · rw [if_pos hs]
      refine vt_gA_up gA (vt_g_map (Or.inl rfl) ⟨hi h, ?_⟩)
      have c : f.i.toNat < 8 := Classical.byContradiction (fun z => by rw [hM8 _ (by omega)] at hs; cases hs)
      have := hi h; omega
    · rw [if_neg hs]; exact gA
theorem vx_settle_g {A : vt_A} {p : Int} {b : Bool} (gA : vt_gA A) : vt_gA (vx_settle A p b) := ⟨fun n hn => by
  show vt_g (if n < 75 ∧ (A.1 n).sort = 8 ∧ (A.1 n).org = p then _ else _)
  by_cases c : n < 75 ∧ (A.1 n).sort = 8 ∧ (A.1 n).org = p
  · rw [if_pos c]
    split
    · exact vt_g_map (Or.inr (Or.inl rfl)) ((gA.1 n hn).2.1 (Or.inr (Or.inr c.2.1)))
    · exact vt_g_num _
  · rw [if_neg c]; exact gA.1 n hn, gA.2⟩
theorem vx_drop_g {A : vt_A} {q : vt_T → Bool} (gA : vt_gA A) : vt_gA (vx_drop A q) := ⟨fun n hn => by
  show vt_g (if n < 75 ∧ q (A.1 n) = true then vt_none 0 else A.1 n)
  split
  · exact vt_g_none _
  · exact gA.1 n hn, gA.2⟩
theorem vx_clear_g {A : vt_A} (gA : vt_gA A) : vt_gA (vx_clear A) := ⟨fun n hn => by
  show vt_g (if 1 ≤ n ∧ n ≤ 5 then vt_none 0 else A.1 n)
  split
  · exact vt_g_none _
  · exact gA.1 n hn, gA.2⟩
theorem vx_call_g {M : vf_M} {c : Int} {p : Nat} {A : vt_A} (gA : vt_gA A) : vt_gA (vx_call M c p A).2 := by
  by_cases h : vx_allowed M A c ≠ 0
  · rw [vx_cl0 h]; exact gA
  have h := Classical.not_not.mp h
  by_cases c1 : c = 1
  · subst c1
    rw [vx_cl1 h]
    refine vt_gA_up (vx_clear_g (vx_drop_g gA)) (vt_g_map (Or.inr (Or.inr rfl)) ?_)
    exact (gA.1 1 (by decide)).2.1 (Or.inl (vx_im0_sort (vx_then_0 (vx_al1 ▸ h)).1))
  by_cases c6 : c = 6
  · subst c6
    rw [vx_cl6 h]
    exact vt_gA_up (vx_clear_g ⟨(vx_drop_g (q := fun t => decide (t.sort = 4) || decide (t.sort = 5)) gA).1, by show (0 : Int) ≤ _; decide⟩) (vt_g_num _)
  · rw [vx_clp h c1 c6]; exact vt_gA_up (vx_clear_g gA) (vt_g_num _)
theorem vx_know_g {A : vt_A} {k : Int} (gA : vt_gA A) (hk : k ≤ 536870913) : vt_gA (vx_know A k) := ⟨gA.1, by
  show (if A.2 < k then k else A.2) ≤ _
  split
  · exact hk
  · exact gA.2⟩
theorem vx_ms_g {n : Nat} {pf : Bool} {v : vb_S} {A B : vt_A} (gA : vt_gA A) (gB : vt_gA B) (hv : v.low = v.high → v.low.toInt ≤ 536870912) : vt_gA (vx_ms n pf v A B).1 ∧ vt_gA (vx_ms n pf v A B).2 := by
  unfold vx_ms
  by_cases c : v.low ≠ v.high ∨ v.low.toInt < 0
  · rw [if_pos c]; exact ⟨gA, gB⟩
  rw [if_neg c]
  have h := hv (Classical.byContradiction (fun z => c (Or.inl z)))
  have k1 : v.low.toInt ≤ 536870913 := by omega
  have k2 : v.low.toInt + 1 ≤ 536870913 := by omega
  split
  · split
    · exact ⟨vx_know_g gA k1, gB⟩
    · exact ⟨gA, vx_know_g gB k2⟩
  split
  · split
    · exact ⟨vx_know_g gA k2, gB⟩
    · exact ⟨gA, vx_know_g gB k1⟩
  split
  · split
    · exact ⟨gA, vx_know_g gB k2⟩
    · exact ⟨vx_know_g gA k1, gB⟩
  · split
    · exact ⟨gA, vx_know_g gB k1⟩
    · exact ⟨vx_know_g gA k2, gB⟩
theorem vx_refd_g {f : vf_F} {A : vt_A} {p : vb_S × vb_S} (gA : vt_gA A) : vt_gA (vx_refd f A p) := by
  unfold vx_refd
  split
  · exact vt_gA_up (vt_gA_up gA (vt_g_num _)) (vt_g_num _)
  · exact vt_gA_up gA (vt_g_num _)
theorem vx_jump_g {f : vf_F} {A : vt_A} (gA : vt_gA A) (hd : f.d < 75) (hs : f.s < 75) : (∀ B, (vx_jump f A).2.1 = some B → vt_gA B) ∧ ∀ B, (vx_jump f A).2.2 = some B → vt_gA B := by
  have so : ∀ {C B : vt_A}, vt_gA C → some C = some B → vt_gA B := fun h e => by cases e; exact h
  by_cases h1 : vx_j1 f A
  · rw [vx_jp1 h1]; exact ⟨fun B h => (by cases h), fun B h => (by cases h)⟩
  by_cases h2 : vx_j2 f A
  · by_cases h3 : (f.bit3 = true ∧ f.d = f.s) ∨ (f.kind ≠ 5 ∧ ¬ (vx_small (A.1 f.d).val = true ∧ vx_small (vx_yv f A) = true))
    · rw [vx_jp2 h1 h2 h3]; exact ⟨fun B => so gA, fun B => so gA⟩
    · rw [vx_jp2' h1 h2 h3]
      have m : ∀ (o : Option (vb_S × vb_S)) B, o.map (vx_refd f A) = some B → vt_gA B := fun o B h => by
        cases o with
        | none => cases h
        | some p => cases h; exact vx_refd_g gA
      exact ⟨m _, m _⟩
  by_cases h3 : vx_j3 f A
  · rw [vx_jp3 h1 h2 h3]; exact ⟨fun B => so (vx_settle_g gA), fun B => so (vx_settle_g gA)⟩
  by_cases h4 : vx_j4 f A
  · rw [vx_jp4 h1 h2 h3 h4 rfl rfl]
    have g := vx_ms_g (n := f.n) (pf := decide ((A.1 f.d).sort = 4)) (v := if decide ((A.1 f.d).sort = 4) = true then (A.1 f.d).val else (vx_y f A).val) gA gA (by
      by_cases c : (A.1 f.d).sort = 4
      · rw [if_pos (decide_eq_true c)]; exact (gA.1 _ hd).2.2 c
      · rw [if_neg (by rw [decide_eq_false c]; decide)]
        have h4 := h4.2.2
        exact (vx_y_g gA hs).2.2 (h4.resolve_left (fun z => c z.1)).2)
    exact ⟨fun B => so g.1, fun B => so g.2⟩
  · rw [vx_jp5 h1 h2 h3 h4]; exact ⟨fun B h => (by cases h), fun B h => (by cases h)⟩
theorem vx_one_g {r : Nat × vt_A} {q : Int} (h : vt_gA r.2) : ∀ e ∈ (vx_one r q).2, vt_gA e.2 := fun e he => by
  unfold vx_one at he
  by_cases c : r.1 ≠ 0
  · rw [if_pos c] at he; exact absurd he List.not_mem_nil
  · rw [if_neg c] at he; rw [List.mem_singleton.mp he]; exact h
/-- what comes of an instruction -/
theorem vx_does_g {M : vf_M} {f : vf_F} {i2 : Int} {p : Nat} {A : vt_A} (hM8 : ∀ k, 8 ≤ k → M k = none) (hd : f.d < 16) (hs : f.s < 16) (hi : f.kind = 0 → f.s ≠ 0 → 0 ≤ f.i) (hA : vt_okA A) (gA : vt_gA A) : ∀ e ∈ (vx_does M f i2 p A).2, vt_gA e.2 := by
  have k8 : f.kind < 8 := Nat.mod_lt _ (by decide)
  have d75 : f.d < 75 := by omega
  have s75 : f.s < 75 := by omega
  by_cases k0 : f.kind = 0
  · rw [vx_do0 k0]; exact vx_one_g (vx_wide_g hM8 gA (hi k0))
  by_cases k1 : f.kind = 1
  · rw [vx_do1 k1]; exact vx_one_g (vx_load_g gA)
  by_cases k2 : f.kind = 2
  · rw [vx_do2 k2]; exact vx_one_g (vx_store_g gA s75)
  by_cases k3 : f.kind = 3
  · by_cases m : f.mode = 6
    · rw [vx_do3a k3 m]; exact vx_one_g (vx_atomic_g gA)
    · rw [vx_do3s k3 m]; exact vx_one_g (vx_store_g gA s75)
  by_cases k4 : f.kind = 4 ∨ f.kind = 7
  · rw [vx_do4 k4]; exact vx_one_g (vx_arith_g hA gA d75 s75)
  · rw [vx_doj (by omega)]
    have one : ∀ {q : Int}, ∀ e ∈ [(q, A)], vt_gA e.2 := fun e he => by rw [List.mem_singleton.mp he]; exact gA
    split
    · exact one
    split
    · exact one
    split
    · exact vx_one_g (vx_call_g gA)
    split
    · exact fun e he => absurd he List.not_mem_nil
    · dsimp only
      split
      · exact fun e he => absurd he List.not_mem_nil
      · have g := vx_jump_g gA d75 s75
        intro e he
        rcases List.mem_append.mp he with he | he
        · cases c : (vx_jump f A).2.1 with
          | none => rw [c] at he; exact absurd he List.not_mem_nil
          | some B => rw [c] at he; rw [List.mem_singleton.mp he]; exact g.1 B c
        · cases c : (vx_jump f A).2.2 with
          | none => rw [c] at he; exact absurd he List.not_mem_nil
          | some B => rw [c] at he; rw [List.mem_singleton.mp he]; exact g.2 B c
theorem vt_start_g : vt_gA vt_start := ⟨fun n _ => by
  show vt_g (if n = 1 then vt_ctx 0 else if n = 10 then vt_stk 0 else vt_none 0)
  split
  · exact vt_g_far (Or.inl rfl) (by decide)
  · split
    · exact vt_g_far (Or.inr rfl) (by decide)
    · exact vt_g_none _, by show (0 : Int) ≤ _; decide⟩