/-! part c14: arithmetic of the reference (gen/tc14.py) -/
def noP : Nat → Prop := fun _ => False
section
variable {K : Nat → Option (Nat × Nat)} {I0 I : Nat → Nat → Int32} {L0 L : Nat → Nat → Int64} {R : Nat → Nat → Value}
theorem vq_sortOfW (w : vr_fr noP noE I0 L0 I L) (k : Nat) (hW : jv_rW K R) (hk : k < 75) {n sl : Nat} : jv_Ms 271 [.ref 196, .int (vl_I k)] (jv_H K I L R) n sl (some (.int (I0 205 (76800 + k))), jv_H K I L R, n, sl) := by
  rw [← (vr_fr_i w (fun z => z) : I 205 (76800 + k) = I0 205 (76800 + k) ∧ _).1]; exact vq_sortOf k hW hk
theorem vq_readsW (w : vr_fr noP noE I0 L0 I L) (k : Nat) (hW : jv_rW K R) (hk : k < 75) {n sl : Nat} : jv_Ms 283 [.ref 196, .int (vl_I k)] (jv_H K I L R) n sl (some (.int (vl_I (vr_rd (I0 205 (76800 + k))))), jv_H K I L R, n, sl) := by
  rw [← (vr_fr_i w (fun z => z) : I 205 (76800 + k) = I0 205 (76800 + k) ∧ _).1]; exact vq_reads k hW hk
theorem vq_isMovableW (w : vr_fr noP noE I0 L0 I L) (k : Nat) (hW : jv_rW K R) (hk : k < 75) {n sl : Nat} : jv_Ms 288 [.ref 196, .int (vl_I k)] (jv_H K I L R) n sl (some (.int (vr_b (vr_mv (I0 205 (76800 + k))))), jv_H K I L R, n, sl) := by
  rw [← (vr_fr_i w (fun z => z) : I 205 (76800 + k) = I0 205 (76800 + k) ∧ _).1]; exact vq_isMovable k hW hk
end
theorem vx_fst_f (a b : Nat) : (a = 0 → vx_fst a b = b) ∧ (b = 0 → vx_fst a b = a) ∧ (vx_fst a b = a ∨ vx_fst a b = b) := by
  unfold vx_fst
  refine ⟨fun h => if_pos h, fun h => ?_, ?_⟩
  · split
    · omega
    · rfl
  · split
    · exact Or.inr rfl
    · split
      · exact Or.inl rfl
      · split
        · exact Or.inr rfl
        · exact Or.inl rfl
theorem vr_rd_f {I : Nat → Nat → Int32} {L : Nat → Nat → Int64} {x n : Nat} (ok : vr_ok I x n) (hn : n < 11) : ((vr_T I L x).sort = 0 → vr_rd (I 205 x) = 1) ∧ ((vr_T I L x).sort ≠ 0 → vr_rd (I 205 x) = 0) := by
  have e := vr_isN (L := L) ok hn
  exact ⟨fun z => if_pos (e.mp z), fun z => if_neg (fun y => z (e.mpr y))⟩
theorem vx_just_32 (i : Int) (x : Int32) (h : x.toInt = i) : vb_just x.toInt64.toBitVec = vx_just i := by
  unfold vx_just
  rw [← h, ← Int32.toInt_toInt64 x]
  exact congrArg vb_just (BitVec.ofInt_toInt (x := x.toInt64.toBitVec)).symm
theorem vr_ok_mv {I I1 : Nat → Nat → Int32} {x y n m : Nat} (h5 : I1 205 y = I 205 x) (h6 : I1 206 y = I 206 x) (h7 : I1 207 y = I 207 x) (ok : vr_ok I x n) (n0 : I 205 x ≠ 0) (n9 : I 205 x ≠ 9) : vr_ok I1 y m := by
  unfold vr_ok at *
  rw [h5, h6, h7]
  unfold vr_W at *
  rcases ok with z | z | z
  · exact absurd z.1 n9
  · exact absurd z.1 n0
  · exact Or.inr (Or.inr z)
theorem vx_mv_q {n : Nat} {d b x : vt_T} {rev : Prop} [Decidable rev] (hx : x.sort = 1) (hr : ¬ (n = 1 ∧ rev)) (hb : b.sort = 2 ∨ b.sort = 3 ∨ b.sort = 4 ∨ b.sort = 7) : (vx_mv n d b x rev).1 = (vx_mq n b x.val).1 ∧ ((vx_mq n b x.val).1 = 0 → (vx_mv n d b x rev).2 = (vx_mq n b x.val).2) := by
  have h1 : ¬ (x.sort ≠ 1 ∨ (n = 1 ∧ rev)) := fun z => z.elim (fun z => z hx) hr
  have two : ∀ b' : vt_T, (vx_mv n d b x rev) = (2, d) → vx_mq n b x.val = (2, b) → (vx_mv n d b x rev).1 = (vx_mq n b x.val).1 ∧ ((vx_mq n b x.val).1 = 0 → (vx_mv n d b x rev).2 = (vx_mq n b x.val).2) := fun _ e1 e2 => by
    rw [e1, e2]; exact ⟨rfl, fun z => absurd (show (2 : Nat) = 0 from z) (by decide)⟩
  by_cases c : b.sort = 4 ∨ b.sort = 7
  · by_cases e : (vx_op n b.val x.val 63).least.toInt < -vx_far ∨ vx_far < (vx_op n b.val x.val 63).greatest.toInt
    · exact two b (vx_mv2 h1 c e) ((if_pos c).trans (if_pos e))
    · rw [vx_mv3 h1 c e, show vx_mq n b x.val = _ from (if_pos c).trans (if_neg e)]; exact ⟨rfl, fun _ => rfl⟩
  · by_cases e : x.val.low ≠ x.val.high
    · exact two b (vx_mv4 h1 c (Or.inr e)) ((if_neg c).trans (if_pos e))
    · have h3 : ¬ ((b.sort ≠ 2 ∧ b.sort ≠ 3) ∨ x.val.low ≠ x.val.high) := fun z => z.elim (fun z => by omega) e
      by_cases h4 : vx_mvc n b.det x.val.low.toInt < -vx_far ∨ vx_far < vx_mvc n b.det x.val.low.toInt
      · exact two b (vx_mv5 h1 c h3 h4) ((if_neg c).trans ((if_neg e).trans (if_pos h4)))
      · rw [vx_mv6 h1 c h3 h4, show vx_mq n b x.val = _ from (if_neg c).trans ((if_neg e).trans (if_neg h4))]; exact ⟨rfl, fun _ => rfl⟩
theorem vx_move2 {n : Nat} {d y : vt_T} (h1 : ¬ (d.sort = 1 ∧ n ≠ 1 ∧ (y.sort = 2 ∨ y.sort = 3 ∨ y.sort = 4 ∨ y.sort = 7))) (h2 : ¬ (d.sort ≠ 1 ∧ y.sort = 1 ∧ (d.sort = 2 ∨ d.sort = 3 ∨ d.sort = 4 ∨ d.sort = 7))) : vx_move n d y = (2, d) := by
  by_cases c : d.sort = 1
  · rw [vx_mvA c]
    by_cases n1 : n = 1
    · exact vx_mv1 (Or.inr ⟨n1, trivial⟩)
    · have q : ¬ (y.sort = 2 ∨ y.sort = 3 ∨ y.sort = 4 ∨ y.sort = 7) := fun z => h1 ⟨c, n1, z⟩
      exact vx_mv4 (fun z => z.elim (fun z => z c) (fun z => n1 z.1)) (fun z => q (by omega)) (Or.inl ⟨fun z => q (Or.inl z), fun z => q (Or.inr (Or.inl z))⟩)
  · rw [vx_mvB c]
    by_cases y1 : y.sort = 1
    · have q : ¬ (d.sort = 2 ∨ d.sort = 3 ∨ d.sort = 4 ∨ d.sort = 7) := fun z => h2 ⟨c, y1, z⟩
      exact vx_mv4 (fun z => z.elim (fun z => z y1) (fun z => z.2)) (fun z => q (by omega)) (Or.inl ⟨fun z => q (Or.inl z), fun z => q (Or.inr (Or.inl z))⟩)
    · exact vx_mv1 (Or.inl y1)
theorem vx_reckon_id {f : vf_F} (h : f.n = 11) (h7 : f.kind = 7) (h0 : f.o = 0) {x y : vb_S} (hy : vb_tight y) : vx_reckon f x y = y := by
  rw [vx_rkr (by omega) (by omega) (by omega), decide_eq_true h7, h]; unfold vx_rn vx_op; rw [if_pos rfl, vb_cOp11, vb_tt_of hy]
/-- the end of a reckoning -/
theorem vq_arE {I I1 : Nat → Nat → Int32} {L L1 : Nat → Nat → Int64} {f : vf_F} {c : Nat} (hd : f.d < 75) (oa : vr_okA I 1024) (e1 : (vx_ar f ((vr_A I L 1024).1 f.d) (vx_y f (vr_A I L 1024))).1 = c) (e2 : c = 0 → vr_T I1 L1 (76800 + f.d) = (vx_ar f ((vr_A I L 1024).1 f.d) (vx_y f (vr_A I L 1024))).2 ∧ vr_ok I1 (76800 + f.d) f.d) (fr : vr_fr (fun x => x = 76800 + f.d) noE I L I1 L1) : (vx_arith f (vr_A I L 1024)).1 = c ∧ ((vx_arith f (vr_A I L 1024)).1 = 0 → vr_A I1 L1 1024 = (vx_arith f (vr_A I L 1024)).2 ∧ vr_okA I1 1024) := by
  have q : (vx_arith f (vr_A I L 1024)).1 = c := (vx_arith1 _ _).trans e1
  refine ⟨q, fun z => ?_⟩
  have c0 : c = 0 := q.symm.trans z
  obtain ⟨t, o⟩ := e2 c0
  rw [vx_arith2 (e1.trans c0)]
  exact vr_upA hd t o fr (fun n hn e q => e (by omega)) oa
theorem vr_mvT {I : Nat → Nat → Int32} {L : Nat → Nat → Int64} {x n : Nat} (ok : vr_ok I x n) (h : I 205 x = 2 ∨ I 205 x = 3 ∨ I 205 x = 4 ∨ I 205 x = 7) : (vr_T I L x).sort = 2 ∨ (vr_T I L x).sort = 3 ∨ (vr_T I L x).sort = 4 ∨ (vr_T I L x).sort = 7 := h.imp (vr_is 2 (by decide) ok).mpr (fun h => h.imp (vr_is 3 (by decide) ok).mpr (fun h => h.imp (vr_is 4 (by decide) ok).mpr (vr_is 7 (by decide) ok).mpr))
theorem vr_mvF {I : Nat → Nat → Int32} {L : Nat → Nat → Int64} {x n : Nat} (ok : vr_ok I x n) (h : (vr_T I L x).sort = 2 ∨ (vr_T I L x).sort = 3 ∨ (vr_T I L x).sort = 4 ∨ (vr_T I L x).sort = 7) : I 205 x = 2 ∨ I 205 x = 3 ∨ I 205 x = 4 ∨ I 205 x = 7 := h.imp (vr_is 2 (by decide) ok).mp (fun h => h.imp (vr_is 3 (by decide) ok).mp (fun h => h.imp (vr_is 4 (by decide) ok).mp (vr_is 7 (by decide) ok).mp))
theorem jv_i287 : jv_I 287 7 (some .int) 10 298 jv_c287 := ⟨rfl, rfl, rfl, rfl, rfl⟩
set_option maxRecDepth 8000 in
theorem vq_arithR11 {K : Nat → Option (Nat × Nat)} {I : Nat → Nat → Int32} {L : Nat → Nat → Int64} {R : Nat → Nat → Value} (f : vf_F) (hW : jv_rW K R) (hf : vr_fl I) (D : vr_dec I f) (hfa : vf_ar f) (hk47 : f.kind = 4 ∨ f.kind = 7) (hd11 : f.d < 11) (hs11 : f.s < 11) (oa : vr_okA I 1024) (tA : ∀ n, n < 75 → vt_ok (vr_T I L (76800 + n))) (gA : ∀ n, n < 75 → vt_g (vr_T I L (76800 + n))) (hZ6 : vb_toS (vr_S L 6) = vb_just 0) (hb : f.bit3 = true) (hN : f.n = 11) {n sl : Nat} : ∃ I1 L1, jv_Ms 287 [.ref 196] (jv_H K I L R) n sl (some (.int (vl_I (vx_arith f (vr_A I L 1024)).1)), jv_H K I1 L1 R, n, sl) ∧ ((vx_arith f (vr_A I L 1024)).1 = 0 → vr_A I1 L1 1024 = (vx_arith f (vr_A I L 1024)).2 ∧ vr_okA I1 1024) ∧ vr_fr (fun x => x = 76800 + f.d) noE I L I1 L1 := by
  obtain ⟨Q, hQ⟩ : ∃ Q : jv_R → Prop, Q = fun X => ∃ I1 L1, X = (some (.int (vl_I (vx_arith f (vr_A I L 1024)).1)), jv_H K I1 L1 R, n, sl) ∧ ((vx_arith f (vr_A I L 1024)).1 = 0 → vr_A I1 L1 1024 = (vx_arith f (vr_A I L 1024)).2 ∧ vr_okA I1 1024) ∧ vr_fr (fun x => x = 76800 + f.d) noE I L I1 L1 := ⟨_, rfl⟩
  suffices h : jv_Wp 287 0 [(0, .ref 196)] [] (jv_H K I L R) n sl Q by
    rw [hQ] at h
    obtain ⟨X, h, I1, L1, e, h'⟩ := h
    subst e
    exact ⟨I1, L1, h, h'⟩
  have hn16 := vr_dn D
  have hk8 := vr_dk D
  have hd75 : f.d < 75 := by omega
  have hs75 : f.s < 75 := by omega
  have okd : vr_ok I (76800 + f.d) f.d := oa f.d hd75
  have oks : vr_ok I (76800 + f.s) f.s := oa f.s hs75
  obtain ⟨zd, hd⟩ : ∃ x : Nat, ∀ _ : Unit, (vr_T I L (76800 + f.d)).sort = x := ⟨_, fun _ => rfl⟩
  obtain ⟨zs, hs⟩ : ∃ x : Nat, ∀ _ : Unit, (vr_T I L (76800 + f.s)).sort = x := ⟨_, fun _ => rfl⟩
  obtain ⟨rd, hrd⟩ : ∃ x : Nat, ∀ _ : Unit, vr_rd (I 205 (76800 + f.d)) = x := ⟨_, fun _ => rfl⟩
  obtain ⟨rs, hrs⟩ : ∃ x : Nat, ∀ _ : Unit, vr_rd (I 205 (76800 + f.s)) = x := ⟨_, fun _ => rfl⟩
  have rdd : (zd = 0 → rd = 1) ∧ (zd ≠ 0 → rd = 0) := by rw [← hd (), ← hrd ()]; exact vr_rd_f okd hd11
  have rds : (zs = 0 → rs = 1) ∧ (zs ≠ 0 → rs = 0) := by rw [← hs (), ← hrs ()]; exact vr_rd_f oks hs11
  have W : vr_fr noP noE I L I L := vr_fr_refl hf
  have q0 := hfa.1
  have q8 := hfa.2.1
  have q11 := hfa.2.2.2.1
  have eD : (vr_A I L 1024).1 f.d = (vr_T I L (76800 + f.d)) := vr_A1 hd75
  have eY : vx_y f (vr_A I L 1024) = (vr_T I L (76800 + f.s)) := (if_pos hb).trans (vr_A1 hs75)
  have n8 : f.n ≠ 8 := fun z => by have := q8 z; rw [hb] at this; exact absurd this (by decide)
  refine jv_Wp.lift (fun _ Kz => jv_Ev.steps jv_i287 1 (pc' := 1) (l' := [(0, .ref 196)]) (st' := [.ref 196]) rfl Kz) ?_
  refine jv_Wp.lift (fun _ Kz => jv_Ev.c jv_i287 (pc' := 4) (S' := [.int (vl_I f.n)]) jv_i258 [.ref 196] rfl rfl rfl rfl (jv_cal rfl (jv_H_at (jv_rwK hW 196 12 24 (by decide))) rfl rfl) rfl (vq_n f hW D) rfl rfl Kz) ?_
  refine jv_Wp.lift (fun _ Kz => jv_Ev.steps jv_i287 1 (pc' := 6) (l' := [(0, .ref 196)]) (st' := [.int (11 : Int32), .int (vl_I f.n)]) rfl Kz) ?_
  refine jv_Wp.cnd jv_i287 (pt := 13) (pe := 9) (p := (¬ (vl_I f.n) = (11 : Int32))) (q := (¬ (vl_I f.n) = (11 : Int32))) rfl jv_bc_ne rfl rfl Iff.rfl (fun hz => absurd hz (fun z => z ((vr_sm (v := 11) (by omega) (by decide) rfl).mpr hN))) (fun _ => ?_)
  refine jv_Wp.lift (fun _ Kz => jv_Ev.steps jv_i287 4 (pc' := 16) (l' := [(1, .int (1 : Int32)), (0, .ref 196)]) (st' := [.int (1 : Int32)]) rfl Kz) ?_
  refine jv_Wp.lift (fun _ Kz => jv_Ev.br jv_i287 (pc' := 19) (st' := []) rfl (by rfl) Kz) ?_
  refine jv_Wp.lift (fun _ Kz => jv_Ev.steps jv_i287 3 (pc' := 32) (l' := [(1, .int (1 : Int32)), (0, .ref 196)]) (st' := [.ref 196, .int (0 : Int32)]) rfl Kz) ?_
  refine jv_Wp.lift (fun _ Kz => jv_Ev.c jv_i287 (pc' := 35) (S' := [.int (vr_b f.bit3), .int (0 : Int32)]) jv_i259 [.ref 196] rfl rfl rfl rfl (jv_cal rfl (jv_H_at (jv_rwK hW 196 12 24 (by decide))) rfl rfl) rfl (vq_bit3 f hW D) rfl rfl Kz) ?_
  refine jv_Wp.cnd jv_i287 (pt := 58) (pe := 38) (p := ((vr_b f.bit3) = 0)) (q := ((vr_b f.bit3) = 0)) rfl jv_bi_eq rfl rfl Iff.rfl (fun hz => absurd hz (by rw [hb]; decide)) (fun _ => ?_)
  refine jv_Wp.lift (fun _ Kz => jv_Ev.steps jv_i287 1 (pc' := 39) (l' := [(1, .int (1 : Int32)), (0, .ref 196)]) (st' := [.ref 196, .int (0 : Int32)]) rfl Kz) ?_
  refine jv_Wp.lift (fun _ Kz => jv_Ev.c jv_i287 (pc' := 42) (S' := [.int (vl_I f.n), .int (0 : Int32)]) jv_i258 [.ref 196] rfl rfl rfl rfl (jv_cal rfl (jv_H_at (jv_rwK hW 196 12 24 (by decide))) rfl rfl) rfl (vq_n f hW D) rfl rfl Kz) ?_
  refine jv_Wp.lift (fun _ Kz => jv_Ev.steps jv_i287 1 (pc' := 44) (l' := [(1, .int (1 : Int32)), (0, .ref 196)]) (st' := [.int (13 : Int32), .int (vl_I f.n), .int (0 : Int32)]) rfl Kz) ?_
  refine jv_Wp.cnd jv_i287 (pt := 58) (pe := 47) (p := ((vl_I f.n) = (13 : Int32))) (q := ((vl_I f.n) = (13 : Int32))) rfl jv_bc_eq rfl rfl Iff.rfl (fun hz => absurd hz (fun z => by have y := (vr_sm (v := 13) (by omega) (by decide) rfl).mp z; omega)) (fun _ => ?_)
  refine jv_Wp.lift (fun _ Kz => jv_Ev.steps jv_i287 2 (pc' := 49) (l' := [(1, .int (1 : Int32)), (0, .ref 196)]) (st' := [.ref 196, .ref 196, .int (0 : Int32)]) rfl Kz) ?_
  refine jv_Wp.lift (fun _ Kz => jv_Ev.m jv_i287 (pc' := 52) (st' := [.int (vl_I f.s), .ref 196, .int (0 : Int32)]) (G' := (jv_H K I L R)) rfl rfl (jv_m_getI (jv_rwK hW 196 12 24 (by decide)) rfl rfl D.2.2.1) Kz) ?_
  have Hr1 := vq_readsW (n := n) (sl := sl) W f.s hW (by omega)
  rw [hrs ()] at Hr1
  refine jv_Wp.lift (fun _ Kz => jv_Ev.c jv_i287 (pc' := 55) (S' := [.int (vl_I rs), .int (0 : Int32)]) jv_i283 [.ref 196, .int (vl_I f.s)] rfl rfl rfl rfl (jv_cal rfl (jv_H_at (jv_rwK hW 196 12 24 (by decide))) rfl rfl) rfl Hr1 rfl rfl Kz) ?_
  refine jv_Wp.lift (fun _ Kz => jv_Ev.steps jv_i287 1 (pc' := 59) (l' := [(1, .int (1 : Int32)), (0, .ref 196)]) (st' := [.int (vl_I rs), .int (0 : Int32)]) rfl Kz) ?_
  obtain ⟨w2, hq2⟩ : ∃ x : Nat, ∀ _ : Unit, vx_fst 0 rs = x := ⟨_, fun _ => rfl⟩
  have fq : (0 = 0 → w2 = rs) ∧ (rs = 0 → w2 = 0) ∧ (w2 = 0 ∨ w2 = rs) := by rw [← hq2 ()]; exact vx_fst_f 0 rs
  have Hf2 := vq_first (I := I) (L := L) (K := K) (R := R) (n := n) (sl := sl) 0 rs (by omega) (by omega)
  rw [hq2 ()] at Hf2
  refine jv_Wp.lift (fun _ Kz => jv_Ev.c jv_i287 (pc' := 62) (S' := [.int (vl_I w2)]) jv_i282 [.int (0 : Int32), .int (vl_I rs)] rfl rfl rfl rfl rfl rfl Hf2 rfl rfl Kz) ?_
  refine jv_Wp.lift (fun _ Kz => jv_Ev.steps jv_i287 2 (pc' := 64) (l' := [(2, .int (vl_I w2)), (1, .int (1 : Int32)), (0, .ref 196)]) (st' := [.int (vl_I w2)]) rfl Kz) ?_
  refine jv_Wp.cnd jv_i287 (pt := 69) (pe := 67) (p := ((vl_I w2) ≤ 0)) (q := ((vl_I w2) ≤ 0)) rfl jv_bi_le rfl rfl Iff.rfl (fun h1 => ?_) (fun h1 => ?_)
  · refine jv_Wp.lift (fun _ Kz => jv_Ev.steps jv_i287 1 (pc' := 70) (l' := [(2, .int (vl_I w2)), (1, .int (1 : Int32)), (0, .ref 196)]) (st' := [.ref 196]) rfl Kz) ?_
    refine jv_Wp.lift (fun _ Kz => jv_Ev.c jv_i287 (pc' := 73) (S' := [.int (vr_b f.bit3)]) jv_i259 [.ref 196] rfl rfl rfl rfl (jv_cal rfl (jv_H_at (jv_rwK hW 196 12 24 (by decide))) rfl rfl) rfl (vq_bit3 f hW D) rfl rfl Kz) ?_
    refine jv_Wp.cnd jv_i287 (pt := 89) (pe := 76) (p := ((vr_b f.bit3) = 0)) (q := ((vr_b f.bit3) = 0)) rfl jv_bi_eq rfl rfl Iff.rfl (fun hz => absurd hz (by rw [hb]; decide)) (fun _ => ?_)
    refine jv_Wp.lift (fun _ Kz => jv_Ev.steps jv_i287 1 (pc' := 77) (l' := [(2, .int (vl_I w2)), (1, .int (1 : Int32)), (0, .ref 196)]) (st' := [.ref 196]) rfl Kz) ?_
    refine jv_Wp.lift (fun _ Kz => jv_Ev.c jv_i287 (pc' := 80) (S' := [.int (vl_I f.n)]) jv_i258 [.ref 196] rfl rfl rfl rfl (jv_cal rfl (jv_H_at (jv_rwK hW 196 12 24 (by decide))) rfl rfl) rfl (vq_n f hW D) rfl rfl Kz) ?_
    refine jv_Wp.lift (fun _ Kz => jv_Ev.steps jv_i287 1 (pc' := 82) (l' := [(2, .int (vl_I w2)), (1, .int (1 : Int32)), (0, .ref 196)]) (st' := [.int (13 : Int32), .int (vl_I f.n)]) rfl Kz) ?_
    refine jv_Wp.cnd jv_i287 (pt := 89) (pe := 85) (p := ((vl_I f.n) = (13 : Int32))) (q := ((vl_I f.n) = (13 : Int32))) rfl jv_bc_eq rfl rfl Iff.rfl (fun hz => absurd hz (fun z => by have y := (vr_sm (v := 13) (by omega) (by decide) rfl).mp z; omega)) (fun _ => ?_)
    refine jv_Wp.lift (fun _ Kz => jv_Ev.steps jv_i287 4 (pc' := 92) (l' := [(3, .int (1 : Int32)), (2, .int (vl_I w2)), (1, .int (1 : Int32)), (0, .ref 196)]) (st' := [.int (1 : Int32)]) rfl Kz) ?_
    refine jv_Wp.lift (fun _ Kz => jv_Ev.br jv_i287 (pc' := 95) (st' := []) rfl (by rfl) Kz) ?_
    refine jv_Wp.lift (fun _ Kz => jv_Ev.steps jv_i287 1 (pc' := 96) (l' := [(3, .int (1 : Int32)), (2, .int (vl_I w2)), (1, .int (1 : Int32)), (0, .ref 196)]) (st' := [.ref 196]) rfl Kz) ?_
    refine jv_Wp.lift (fun _ Kz => jv_Ev.m jv_i287 (pc' := 99) (st' := [.int (Int32.ofInt f.o)]) (G' := (jv_H K I L R)) rfl rfl (jv_m_getI (jv_rwK hW 196 12 24 (by decide)) rfl rfl (vr_dI D)) Kz) ?_
    refine jv_Wp.cnd jv_i287 (pt := 135) (pe := 102) (p := (¬ (Int32.ofInt f.o) = 0)) (q := (¬ (Int32.ofInt f.o) = 0)) rfl jv_bi_ne rfl rfl Iff.rfl (fun h2 => ?_) (fun h2 => ?_)
    · refine jv_Wp.lift (fun _ Kz => jv_Ev.steps jv_i287 1 (pc' := 136) (l' := [(3, .int (1 : Int32)), (2, .int (vl_I w2)), (1, .int (1 : Int32)), (0, .ref 196)]) (st' := [.ref 196]) rfl Kz) ?_
      refine jv_Wp.lift (fun _ Kz => jv_Ev.m jv_i287 (pc' := 139) (st' := [.ref 208]) (G' := (jv_H K I L R)) rfl rfl (jv_m_getR (jv_rwK hW 196 12 24 (by decide)) rfl rfl (jv_rwR hW 196 16 208 (by decide))) Kz) ?_
      refine jv_Wp.lift (fun _ Kz => jv_Ev.steps jv_i287 2 (pc' := 141) (l' := [(3, .int (1 : Int32)), (2, .int (vl_I w2)), (1, .int (1 : Int32)), (0, .ref 196)]) (st' := [.ref 196, .int (5 : Int32), .ref 208]) rfl Kz) ?_
      refine jv_Wp.lift (fun _ Kz => jv_Ev.m jv_i287 (pc' := 144) (st' := [.int (Int32.ofInt f.i), .int (5 : Int32), .ref 208]) (G' := (jv_H K I L R)) rfl rfl (jv_m_getI (jv_rwK hW 196 12 24 (by decide)) rfl rfl (vr_dJ D)) Kz) ?_
      refine jv_Wp.lift (fun _ Kz => jv_Ev.steps jv_i287 1 (pc' := 145) (l' := [(3, .int (1 : Int32)), (2, .int (vl_I w2)), (1, .int (1 : Int32)), (0, .ref 196)]) (st' := [.long (Int32.ofInt f.i).toInt64, .int (5 : Int32), .ref 208]) rfl Kz) ?_
      obtain ⟨I3, L3, H3, S3, F3⟩ := vq_single (I := I) (L := L) (R := R) (n := n) (sl := sl) (d := 5) (Int32.ofInt f.i).toInt64 hW (by decide) hf
      have Z3 := F3.1
      have D3 := vr_dec_rf F3 D
      have W3 : vr_fr noP noE I L I3 L3 := vr_fr_trans W (vq_rf_fr F3 (by decide))
      have Y3 : vb_toS (vr_S L3 5) = vx_just f.i := by rw [S3, vb_toS_just]; exact vx_just_32 _ _ (vr_dQ D)
      have Yt3 : vb_tight (vb_toS (vr_S L3 5)) := by rw [Y3]; exact vb_just_tight _
      refine jv_Wp.lift (fun _ Kz => jv_Ev.c jv_i287 (pc' := 148) (S' := []) (G1 := (jv_H K I3 L3 R)) jv_i217 [.ref 208, .int (5 : Int32), .long (Int32.ofInt f.i).toInt64] rfl rfl rfl rfl (jv_cal rfl (jv_H_at (jv_rwK hW 208 11 7 (by decide))) rfl rfl) rfl H3 rfl rfl Kz) ?_
      refine jv_Wp.lift (fun _ Kz => jv_Ev.steps jv_i287 1 (pc' := 149) (l' := [(3, .int (1 : Int32)), (2, .int (vl_I w2)), (1, .int (1 : Int32)), (0, .ref 196)]) (st' := [.ref 196]) rfl Kz) ?_
      refine jv_Wp.lift (fun _ Kz => jv_Ev.c jv_i287 (pc' := 152) (S' := [.int (vl_I f.kind)]) jv_i257 [.ref 196] rfl rfl rfl rfl (jv_cal rfl (jv_H_at (jv_rwK hW 196 12 24 (by decide))) rfl rfl) rfl (vq_kind f hW D3) rfl rfl Kz) ?_
      refine jv_Wp.lift (fun _ Kz => jv_Ev.steps jv_i287 1 (pc' := 153) (l' := [(3, .int (1 : Int32)), (2, .int (vl_I w2)), (1, .int (1 : Int32)), (0, .ref 196)]) (st' := [.int (4 : Int32), .int (vl_I f.kind)]) rfl Kz) ?_
      refine jv_Wp.cnd jv_i287 (pt := 167) (pe := 156) (p := (¬ (vl_I f.kind) = (4 : Int32))) (q := (¬ (vl_I f.kind) = (4 : Int32))) rfl jv_bc_ne rfl rfl Iff.rfl (fun h3 => ?_) (fun h3 => ?_)
      · refine jv_Wp.lift (fun _ Kz => jv_Ev.steps jv_i287 1 (pc' := 168) (l' := [(3, .int (1 : Int32)), (2, .int (vl_I w2)), (1, .int (1 : Int32)), (0, .ref 196)]) (st' := [.int (1 : Int32)]) rfl Kz) ?_
        refine jv_Wp.lift (fun _ Kz => jv_Ev.br jv_i287 (pc' := 183) (st' := []) rfl (by rfl) Kz) ?_
        refine jv_Wp.lift (fun _ Kz => jv_Ev.steps jv_i287 1 (pc' := 184) (l' := [(3, .int (1 : Int32)), (2, .int (vl_I w2)), (1, .int (1 : Int32)), (0, .ref 196)]) (st' := [.int (1 : Int32)]) rfl Kz) ?_
        refine jv_Wp.lift (fun _ Kz => jv_Ev.br jv_i287 (pc' := 187) (st' := []) rfl (by rfl) Kz) ?_
        refine jv_Wp.lift (fun _ Kz => jv_Ev.steps jv_i287 2 (pc' := 189) (l' := [(3, .int (1 : Int32)), (2, .int (vl_I w2)), (1, .int (1 : Int32)), (0, .ref 196)]) (st' := [.ref 196, .ref 196]) rfl Kz) ?_
        refine jv_Wp.lift (fun _ Kz => jv_Ev.m jv_i287 (pc' := 192) (st' := [.int (vl_I f.s), .ref 196]) (G' := (jv_H K I3 L3 R)) rfl rfl (jv_m_getI (jv_rwK hW 196 12 24 (by decide)) rfl rfl D3.2.2.1) Kz) ?_
        refine jv_Wp.lift (fun _ Kz => jv_Ev.c jv_i287 (pc' := 195) (S' := [.int (I 205 (76800 + f.s))]) jv_i271 [.ref 196, .int (vl_I f.s)] rfl rfl rfl rfl (jv_cal rfl (jv_H_at (jv_rwK hW 196 12 24 (by decide))) rfl rfl) rfl (vq_sortOfW W3 f.s hW (by omega)) rfl rfl Kz) ?_
        refine jv_Wp.lift (fun _ Kz => jv_Ev.steps jv_i287 1 (pc' := 196) (l' := [(3, .int (1 : Int32)), (2, .int (vl_I w2)), (1, .int (1 : Int32)), (0, .ref 196)]) (st' := [.int (1 : Int32), .int (I 205 (76800 + f.s))]) rfl Kz) ?_
        refine jv_Wp.cnd jv_i287 (pt := 203) (pe := 199) (p := (¬ (I 205 (76800 + f.s)) = (1 : Int32))) (q := (¬ (I 205 (76800 + f.s)) = (1 : Int32))) rfl jv_bc_ne rfl rfl Iff.rfl (fun h4 => ?_) (fun h4 => ?_)
        · refine jv_Wp.lift (fun _ Kz => jv_Ev.steps jv_i287 3 (pc' := 208) (l' := [(4, .int (0 : Int32)), (3, .int (1 : Int32)), (2, .int (vl_I w2)), (1, .int (1 : Int32)), (0, .ref 196)]) (st' := [.int (0 : Int32)]) rfl Kz) ?_
          refine jv_Wp.lift (fun _ Kz => jv_Ev.br jv_i287 (pc' := 245) (st' := []) rfl (by rfl) Kz) ?_
          refine jv_Wp.lift (fun _ Kz => jv_Ev.steps jv_i287 1 (pc' := 246) (l' := [(4, .int (0 : Int32)), (3, .int (1 : Int32)), (2, .int (vl_I w2)), (1, .int (1 : Int32)), (0, .ref 196)]) (st' := [.ref 196]) rfl Kz) ?_
          refine jv_Wp.lift (fun _ Kz => jv_Ev.c jv_i287 (pc' := 249) (S' := [.int (vl_I f.kind)]) jv_i257 [.ref 196] rfl rfl rfl rfl (jv_cal rfl (jv_H_at (jv_rwK hW 196 12 24 (by decide))) rfl rfl) rfl (vq_kind f hW D3) rfl rfl Kz) ?_
          refine jv_Wp.lift (fun _ Kz => jv_Ev.steps jv_i287 1 (pc' := 250) (l' := [(4, .int (0 : Int32)), (3, .int (1 : Int32)), (2, .int (vl_I w2)), (1, .int (1 : Int32)), (0, .ref 196)]) (st' := [.int (4 : Int32), .int (vl_I f.kind)]) rfl Kz) ?_
          refine jv_Wp.cnd jv_i287 (pt := 261) (pe := 253) (p := ((vl_I f.kind) = (4 : Int32))) (q := ((vl_I f.kind) = (4 : Int32))) rfl jv_bc_eq rfl rfl Iff.rfl (fun hz => absurd hz h3) (fun _ => ?_)
          refine jv_Wp.lift (fun _ Kz => jv_Ev.steps jv_i287 1 (pc' := 254) (l' := [(4, .int (0 : Int32)), (3, .int (1 : Int32)), (2, .int (vl_I w2)), (1, .int (1 : Int32)), (0, .ref 196)]) (st' := [.ref 196]) rfl Kz) ?_
          refine jv_Wp.lift (fun _ Kz => jv_Ev.c jv_i287 (pc' := 257) (S' := [.int (vl_I f.n)]) jv_i258 [.ref 196] rfl rfl rfl rfl (jv_cal rfl (jv_H_at (jv_rwK hW 196 12 24 (by decide))) rfl rfl) rfl (vq_n f hW D3) rfl rfl Kz) ?_
          refine jv_Wp.lift (fun _ Kz => jv_Ev.steps jv_i287 1 (pc' := 258) (l' := [(4, .int (0 : Int32)), (3, .int (1 : Int32)), (2, .int (vl_I w2)), (1, .int (1 : Int32)), (0, .ref 196)]) (st' := [.int (1 : Int32), .int (vl_I f.n)]) rfl Kz) ?_
          refine jv_Wp.cnd jv_i287 (pt := 263) (pe := 261) (p := ((vl_I f.n) ≤ (1 : Int32))) (q := ((vl_I f.n) ≤ (1 : Int32))) rfl jv_bc_le rfl rfl Iff.rfl (fun hz => absurd hz (fun z => by have y := (vl_I_le (b := 1) (by omega) (by decide)).mp z; omega)) (fun _ => ?_)
          refine jv_Wp.lift (fun _ Kz => jv_Ev.steps jv_i287 1 (pc' := 262) (l' := [(4, .int (0 : Int32)), (3, .int (1 : Int32)), (2, .int (vl_I w2)), (1, .int (1 : Int32)), (0, .ref 196)]) (st' := [.int (2 : Int32)]) rfl Kz) ?_
          refine jv_Wp.of (jv_Ev.ret jv_i287 rfl rfl) ?_
          rw [hQ]
          have md4 : ¬ f.kind = 4 := (fun z => h3 ((vr_sm (v := 4) (by omega) (by decide) rfl).mpr z))
          have mO0 : ¬ f.o = 0 := fun z => h2 (Int32.toInt_inj.mp ((vr_dO D).trans (z.trans rfl)))
          have ts1 : ¬ zs = 1 := fun z => h4 ((vr_is 1 (by decide) oks).mp ((hs ()).trans z))
          have fe : w2 ≤ 0 := (vl_I_le (b := 0) (by omega) (by decide)).mp h1
          have a1 : ¬ vx_a1 f (vr_T I L (76800 + f.d)) (vr_T I L (76800 + f.s)) := by unfold vx_a1; rw [hd (), hs ()]; omega
          have a2 : ¬ (f.n = 11 ∧ f.kind = 7 ∧ f.o = 0) := by omega
          have a3 : vx_a3 f (vr_T I L (76800 + f.d)) (vr_T I L (76800 + f.s)) := by unfold vx_a3; rw [hd (), hs ()]; omega
          have e : vx_ar f (vr_T I L (76800 + f.d)) (vr_T I L (76800 + f.s)) = (2, (vr_T I L (76800 + f.d))) := by
            by_cases c : f.kind = 7 ∧ (f.n = 0 ∨ f.n = 1)
            · exact (vx_ar3 a1 a2 a3 c).trans (vx_move2 (by rw [hd (), hs ()]; omega) (by rw [hd (), hs ()]; omega))
            · exact vx_ar4 a1 a2 a3 c
          have g := vq_arE (L := L) (f := f) (c := 2) hd75 oa (by rw [eD, eY]; exact congrArg Prod.fst e) (fun z => absurd z (by decide)) (vr_fr_P W3 (fun _ z => z.elim))
          exact ⟨_, _, by rw [g.1]; rfl, g.2, vr_fr_P W3 (fun _ z => z.elim)⟩
        · refine jv_Wp.lift (fun _ Kz => jv_Ev.steps jv_i287 4 (pc' := 208) (l' := [(4, .int (1 : Int32)), (3, .int (1 : Int32)), (2, .int (vl_I w2)), (1, .int (1 : Int32)), (0, .ref 196)]) (st' := [.int (1 : Int32)]) rfl Kz) ?_
          refine jv_Wp.lift (fun _ Kz => jv_Ev.br jv_i287 (pc' := 211) (st' := []) rfl (by rfl) Kz) ?_
          refine jv_Wp.lift (fun _ Kz => jv_Ev.steps jv_i287 3 (pc' := 216) (l' := [(4, .int (1 : Int32)), (3, .int (1 : Int32)), (2, .int (vl_I w2)), (1, .int (1 : Int32)), (0, .ref 196)]) (st' := [.ref 196, .int (1024 : Int32), .ref 196]) rfl Kz) ?_
          refine jv_Wp.lift (fun _ Kz => jv_Ev.m jv_i287 (pc' := 219) (st' := [.int (vl_I f.d), .int (1024 : Int32), .ref 196]) (G' := (jv_H K I3 L3 R)) rfl rfl (jv_m_getI (jv_rwK hW 196 12 24 (by decide)) rfl rfl D3.2.1) Kz) ?_
          refine jv_Wp.lift (fun _ Kz => jv_Ev.c jv_i287 (pc' := 222) (S' := [.int (vl_I (8 + (76800 + f.d))), .ref 196]) jv_i254 [.int (1024 : Int32), .int (vl_I f.d)] rfl rfl rfl rfl rfl rfl (vq_row 1024 f.d) rfl rfl Kz) ?_
          refine jv_Wp.lift (fun _ Kz => jv_Ev.steps jv_i287 1 (pc' := 223) (l' := [(4, .int (1 : Int32)), (3, .int (1 : Int32)), (2, .int (vl_I w2)), (1, .int (1 : Int32)), (0, .ref 196)]) (st' := [.int (1 : Int32), .int (vl_I (8 + (76800 + f.d))), .ref 196]) rfl Kz) ?_
          refine jv_Wp.lift (fun _ Kz => jv_Ev.br jv_i287 (pc' := 226) (st' := [.int (vl_I (8 + (76800 + f.d))), .ref 196]) rfl (by rfl) Kz) ?_
          refine jv_Wp.lift (fun _ Kz => jv_Ev.steps jv_i287 2 (pc' := 230) (l' := [(4, .int (1 : Int32)), (3, .int (1 : Int32)), (2, .int (vl_I w2)), (1, .int (1 : Int32)), (0, .ref 196)]) (st' := [.ref 196, .int (1024 : Int32), .int (vl_I (8 + (76800 + f.d))), .ref 196]) rfl Kz) ?_
          refine jv_Wp.lift (fun _ Kz => jv_Ev.m jv_i287 (pc' := 233) (st' := [.int (vl_I f.s), .int (1024 : Int32), .int (vl_I (8 + (76800 + f.d))), .ref 196]) (G' := (jv_H K I3 L3 R)) rfl rfl (jv_m_getI (jv_rwK hW 196 12 24 (by decide)) rfl rfl D3.2.2.1) Kz) ?_
          refine jv_Wp.lift (fun _ Kz => jv_Ev.c jv_i287 (pc' := 236) (S' := [.int (vl_I (8 + (76800 + f.s))), .int (vl_I (8 + (76800 + f.d))), .ref 196]) jv_i254 [.int (1024 : Int32), .int (vl_I f.s)] rfl rfl rfl rfl rfl rfl (vq_row 1024 f.s) rfl rfl Kz) ?_
          refine jv_Wp.lift (fun _ Kz => jv_Ev.steps jv_i287 1 (pc' := 240) (l' := [(4, .int (1 : Int32)), (3, .int (1 : Int32)), (2, .int (vl_I w2)), (1, .int (1 : Int32)), (0, .ref 196)]) (st' := [.int (vl_I (8 + (76800 + f.s))), .int (vl_I (8 + (76800 + f.d))), .ref 196]) rfl Kz) ?_
          have md4 : ¬ f.kind = 4 := (fun z => h3 ((vr_sm (v := 4) (by omega) (by decide) rfl).mpr z))
          have mO0 : ¬ f.o = 0 := fun z => h2 (Int32.toInt_inj.mp ((vr_dO D).trans (z.trans rfl)))
          have ts1 : zs = 1 := (hs ()).symm.trans ((vr_is 1 (by decide) oks).mpr (Classical.not_not.mp h4))
          have fe : w2 ≤ 0 := (vl_I_le (b := 0) (by omega) (by decide)).mp h1
          obtain ⟨I4, L4, H4, T4, O4, F4⟩ := vq_reckonA7 (I := I3) (L := L3) (R := R) (n := n) (sl := sl) f (8 + (76800 + f.d)) (8 + (76800 + f.s)) hW Z3 D3 hfa (by omega) (by omega) (by omega) (by omega) (by omega) ((congrArg vb_toS (vr_fr_6 W3)).trans hZ6) (by omega) mO0 (by rw [vr_fr_S W3 (fun z => z)]; exact vr_tight oks (tA f.s (by omega)) (by rw [(vr_is 1 (by decide) oks).mp ((hs ()).trans (by omega))]; rfl)) hN
          refine jv_Wp.lift (fun _ Kz => jv_Ev.c jv_i287 (pc' := 243) (S' := []) (G1 := (jv_H K I4 L4 R)) jv_i285 [.ref 196, .int (vl_I (8 + (76800 + f.d))), .int (vl_I (8 + (76800 + f.s)))] rfl rfl rfl rfl (jv_cal rfl (jv_H_at (jv_rwK hW 196 12 24 (by decide))) rfl rfl) rfl H4 rfl rfl Kz) ?_
          refine jv_Wp.lift (fun _ Kz => jv_Ev.steps jv_i287 1 (pc' := 244) (l' := [(4, .int (1 : Int32)), (3, .int (1 : Int32)), (2, .int (vl_I w2)), (1, .int (1 : Int32)), (0, .ref 196)]) (st' := [.int (0 : Int32)]) rfl Kz) ?_
          refine jv_Wp.of (jv_Ev.ret jv_i287 rfl rfl) ?_
          rw [hQ]
          have md4 : ¬ f.kind = 4 := (fun z => h3 ((vr_sm (v := 4) (by omega) (by decide) rfl).mpr z))
          have mO0 : ¬ f.o = 0 := fun z => h2 (Int32.toInt_inj.mp ((vr_dO D).trans (z.trans rfl)))
          have ts1 : zs = 1 := (hs ()).symm.trans ((vr_is 1 (by decide) oks).mpr (Classical.not_not.mp h4))
          have fe : w2 ≤ 0 := (vl_I_le (b := 0) (by omega) (by decide)).mp h1
          have a1 : ¬ vx_a1 f (vr_T I L (76800 + f.d)) (vr_T I L (76800 + f.s)) := by unfold vx_a1; rw [hd (), hs ()]; omega
          have a2 : ¬ (f.n = 11 ∧ f.kind = 7 ∧ f.o = 0) := by omega
          have a3 : ¬ vx_a3 f (vr_T I L (76800 + f.d)) (vr_T I L (76800 + f.s)) := by unfold vx_a3; rw [hd (), hs ()]; omega
          have e := vx_ar5 a1 a2 a3
          have ev : vx_reckon f (vb_toS (vr_S L3 (8 + (76800 + f.d)))) (vb_toS (vr_S L3 (8 + (76800 + f.s)))) = vx_reckon f (vr_T I L (76800 + f.d)).val (vr_T I L (76800 + f.s)).val := by
            rw [vr_fr_S W3 (fun z => z), vr_fr_S W3 (fun z => z), show (vr_T I L (76800 + f.s)).val = (vb_toS (vr_S L (8 + (76800 + f.s)))) from vr_valv (by rw [(vr_is 1 (by decide) oks).mp ((hs ()).trans (by omega))]; rfl)]
            exact vx_reckon11 hN _ _ _
          have g := vq_arE (L := L) (f := f) (c := 0) hd75 oa (by rw [eD, eY]; exact congrArg Prod.fst e) (fun _ => ⟨by rw [eD, eY, e, T4, ev], O4⟩) (vr_fr_trans (vr_fr_P W3 (fun _ z => z.elim)) F4)
          exact ⟨_, _, by rw [g.1]; rfl, g.2, vr_fr_trans (vr_fr_P W3 (fun _ z => z.elim)) F4⟩
      · refine jv_Wp.lift (fun _ Kz => jv_Ev.steps jv_i287 1 (pc' := 157) (l' := [(3, .int (1 : Int32)), (2, .int (vl_I w2)), (1, .int (1 : Int32)), (0, .ref 196)]) (st' := [.ref 196]) rfl Kz) ?_
        refine jv_Wp.lift (fun _ Kz => jv_Ev.m jv_i287 (pc' := 160) (st' := [.ref 208]) (G' := (jv_H K I3 L3 R)) rfl rfl (jv_m_getR (jv_rwK hW 196 12 24 (by decide)) rfl rfl (jv_rwR hW 196 16 208 (by decide))) Kz) ?_
        refine jv_Wp.lift (fun _ Kz => jv_Ev.steps jv_i287 3 (pc' := 164) (l' := [(3, .int (1 : Int32)), (2, .int (vl_I w2)), (1, .int (1 : Int32)), (0, .ref 196)]) (st' := [.int (32 : Int32), .int (5 : Int32), .int (5 : Int32), .ref 208]) rfl Kz) ?_
        obtain ⟨I5, L5, H5, S5, F5⟩ := vq_cut (I := I3) (L := L3) (R := R) (n := n) (sl := sl) (a := 5) (d := 5) (m := 32) (by decide) hW (by decide) (by decide) (by decide) (by decide) Z3 Yt3
        have Z5 := F5.1
        have D5 := vr_dec_rf F5 D3
        have W5 : vr_fr noP noE I L I5 L5 := vr_fr_trans W3 (vq_rf_fr F5 (by decide))
        have Y5 : vb_toS (vr_S L5 5) = vx_cut (vx_just f.i) 32 := by rw [S5, vb_toS_toR, Y3]
        have Yt5 : vb_tight (vb_toS (vr_S L5 5)) := by rw [Y5]; exact (vx_cut_in (vb_just_mem _)).1
        refine jv_Wp.lift (fun _ Kz => jv_Ev.c jv_i287 (pc' := 167) (S' := []) (G1 := (jv_H K I5 L5 R)) jv_i219 [.ref 208, .int (5 : Int32), .int (5 : Int32), .int (32 : Int32)] rfl rfl rfl rfl (jv_cal rfl (jv_H_at (jv_rwK hW 208 11 7 (by decide))) rfl rfl) rfl H5 rfl rfl Kz) ?_
        refine jv_Wp.lift (fun _ Kz => jv_Ev.steps jv_i287 1 (pc' := 168) (l' := [(3, .int (1 : Int32)), (2, .int (vl_I w2)), (1, .int (1 : Int32)), (0, .ref 196)]) (st' := [.int (1 : Int32)]) rfl Kz) ?_
        refine jv_Wp.lift (fun _ Kz => jv_Ev.br jv_i287 (pc' := 183) (st' := []) rfl (by rfl) Kz) ?_
        refine jv_Wp.lift (fun _ Kz => jv_Ev.steps jv_i287 1 (pc' := 184) (l' := [(3, .int (1 : Int32)), (2, .int (vl_I w2)), (1, .int (1 : Int32)), (0, .ref 196)]) (st' := [.int (1 : Int32)]) rfl Kz) ?_
        refine jv_Wp.lift (fun _ Kz => jv_Ev.br jv_i287 (pc' := 187) (st' := []) rfl (by rfl) Kz) ?_
        refine jv_Wp.lift (fun _ Kz => jv_Ev.steps jv_i287 2 (pc' := 189) (l' := [(3, .int (1 : Int32)), (2, .int (vl_I w2)), (1, .int (1 : Int32)), (0, .ref 196)]) (st' := [.ref 196, .ref 196]) rfl Kz) ?_
        refine jv_Wp.lift (fun _ Kz => jv_Ev.m jv_i287 (pc' := 192) (st' := [.int (vl_I f.s), .ref 196]) (G' := (jv_H K I5 L5 R)) rfl rfl (jv_m_getI (jv_rwK hW 196 12 24 (by decide)) rfl rfl D5.2.2.1) Kz) ?_
        refine jv_Wp.lift (fun _ Kz => jv_Ev.c jv_i287 (pc' := 195) (S' := [.int (I 205 (76800 + f.s))]) jv_i271 [.ref 196, .int (vl_I f.s)] rfl rfl rfl rfl (jv_cal rfl (jv_H_at (jv_rwK hW 196 12 24 (by decide))) rfl rfl) rfl (vq_sortOfW W5 f.s hW (by omega)) rfl rfl Kz) ?_
        refine jv_Wp.lift (fun _ Kz => jv_Ev.steps jv_i287 1 (pc' := 196) (l' := [(3, .int (1 : Int32)), (2, .int (vl_I w2)), (1, .int (1 : Int32)), (0, .ref 196)]) (st' := [.int (1 : Int32), .int (I 205 (76800 + f.s))]) rfl Kz) ?_
        refine jv_Wp.cnd jv_i287 (pt := 203) (pe := 199) (p := (¬ (I 205 (76800 + f.s)) = (1 : Int32))) (q := (¬ (I 205 (76800 + f.s)) = (1 : Int32))) rfl jv_bc_ne rfl rfl Iff.rfl (fun h5 => ?_) (fun h5 => ?_)
        · refine jv_Wp.lift (fun _ Kz => jv_Ev.steps jv_i287 3 (pc' := 208) (l' := [(4, .int (0 : Int32)), (3, .int (1 : Int32)), (2, .int (vl_I w2)), (1, .int (1 : Int32)), (0, .ref 196)]) (st' := [.int (0 : Int32)]) rfl Kz) ?_
          refine jv_Wp.lift (fun _ Kz => jv_Ev.br jv_i287 (pc' := 245) (st' := []) rfl (by rfl) Kz) ?_
          refine jv_Wp.lift (fun _ Kz => jv_Ev.steps jv_i287 1 (pc' := 246) (l' := [(4, .int (0 : Int32)), (3, .int (1 : Int32)), (2, .int (vl_I w2)), (1, .int (1 : Int32)), (0, .ref 196)]) (st' := [.ref 196]) rfl Kz) ?_
          refine jv_Wp.lift (fun _ Kz => jv_Ev.c jv_i287 (pc' := 249) (S' := [.int (vl_I f.kind)]) jv_i257 [.ref 196] rfl rfl rfl rfl (jv_cal rfl (jv_H_at (jv_rwK hW 196 12 24 (by decide))) rfl rfl) rfl (vq_kind f hW D5) rfl rfl Kz) ?_
          refine jv_Wp.lift (fun _ Kz => jv_Ev.steps jv_i287 1 (pc' := 250) (l' := [(4, .int (0 : Int32)), (3, .int (1 : Int32)), (2, .int (vl_I w2)), (1, .int (1 : Int32)), (0, .ref 196)]) (st' := [.int (4 : Int32), .int (vl_I f.kind)]) rfl Kz) ?_
          refine jv_Wp.cnd jv_i287 (pt := 261) (pe := 253) (p := ((vl_I f.kind) = (4 : Int32))) (q := ((vl_I f.kind) = (4 : Int32))) rfl jv_bc_eq rfl rfl Iff.rfl (fun _ => ?_) (fun hz => absurd (Classical.not_not.mp h3) hz)
          refine jv_Wp.lift (fun _ Kz => jv_Ev.steps jv_i287 1 (pc' := 262) (l' := [(4, .int (0 : Int32)), (3, .int (1 : Int32)), (2, .int (vl_I w2)), (1, .int (1 : Int32)), (0, .ref 196)]) (st' := [.int (2 : Int32)]) rfl Kz) ?_
          refine jv_Wp.of (jv_Ev.ret jv_i287 rfl rfl) ?_
          rw [hQ]
          have md4 : f.kind = 4 := (vr_sm (v := 4) (by omega) (by decide) rfl).mp (Classical.not_not.mp h3)
          have mO0 : ¬ f.o = 0 := fun z => h2 (Int32.toInt_inj.mp ((vr_dO D).trans (z.trans rfl)))
          have ts1 : ¬ zs = 1 := fun z => h5 ((vr_is 1 (by decide) oks).mp ((hs ()).trans z))
          have fe : w2 ≤ 0 := (vl_I_le (b := 0) (by omega) (by decide)).mp h1
          have a1 : ¬ vx_a1 f (vr_T I L (76800 + f.d)) (vr_T I L (76800 + f.s)) := by unfold vx_a1; rw [hd (), hs ()]; omega
          have a2 : ¬ (f.n = 11 ∧ f.kind = 7 ∧ f.o = 0) := by omega
          have a3 : vx_a3 f (vr_T I L (76800 + f.d)) (vr_T I L (76800 + f.s)) := by unfold vx_a3; rw [hd (), hs ()]; omega
          have e : vx_ar f (vr_T I L (76800 + f.d)) (vr_T I L (76800 + f.s)) = (2, (vr_T I L (76800 + f.d))) := by
            by_cases c : f.kind = 7 ∧ (f.n = 0 ∨ f.n = 1)
            · exact (vx_ar3 a1 a2 a3 c).trans (vx_move2 (by rw [hd (), hs ()]; omega) (by rw [hd (), hs ()]; omega))
            · exact vx_ar4 a1 a2 a3 c
          have g := vq_arE (L := L) (f := f) (c := 2) hd75 oa (by rw [eD, eY]; exact congrArg Prod.fst e) (fun z => absurd z (by decide)) (vr_fr_P W5 (fun _ z => z.elim))
          exact ⟨_, _, by rw [g.1]; rfl, g.2, vr_fr_P W5 (fun _ z => z.elim)⟩
        · refine jv_Wp.lift (fun _ Kz => jv_Ev.steps jv_i287 4 (pc' := 208) (l' := [(4, .int (1 : Int32)), (3, .int (1 : Int32)), (2, .int (vl_I w2)), (1, .int (1 : Int32)), (0, .ref 196)]) (st' := [.int (1 : Int32)]) rfl Kz) ?_
          refine jv_Wp.lift (fun _ Kz => jv_Ev.br jv_i287 (pc' := 211) (st' := []) rfl (by rfl) Kz) ?_
          refine jv_Wp.lift (fun _ Kz => jv_Ev.steps jv_i287 3 (pc' := 216) (l' := [(4, .int (1 : Int32)), (3, .int (1 : Int32)), (2, .int (vl_I w2)), (1, .int (1 : Int32)), (0, .ref 196)]) (st' := [.ref 196, .int (1024 : Int32), .ref 196]) rfl Kz) ?_
          refine jv_Wp.lift (fun _ Kz => jv_Ev.m jv_i287 (pc' := 219) (st' := [.int (vl_I f.d), .int (1024 : Int32), .ref 196]) (G' := (jv_H K I5 L5 R)) rfl rfl (jv_m_getI (jv_rwK hW 196 12 24 (by decide)) rfl rfl D5.2.1) Kz) ?_
          refine jv_Wp.lift (fun _ Kz => jv_Ev.c jv_i287 (pc' := 222) (S' := [.int (vl_I (8 + (76800 + f.d))), .ref 196]) jv_i254 [.int (1024 : Int32), .int (vl_I f.d)] rfl rfl rfl rfl rfl rfl (vq_row 1024 f.d) rfl rfl Kz) ?_
          refine jv_Wp.lift (fun _ Kz => jv_Ev.steps jv_i287 1 (pc' := 223) (l' := [(4, .int (1 : Int32)), (3, .int (1 : Int32)), (2, .int (vl_I w2)), (1, .int (1 : Int32)), (0, .ref 196)]) (st' := [.int (1 : Int32), .int (vl_I (8 + (76800 + f.d))), .ref 196]) rfl Kz) ?_
          refine jv_Wp.lift (fun _ Kz => jv_Ev.br jv_i287 (pc' := 226) (st' := [.int (vl_I (8 + (76800 + f.d))), .ref 196]) rfl (by rfl) Kz) ?_
          refine jv_Wp.lift (fun _ Kz => jv_Ev.steps jv_i287 2 (pc' := 230) (l' := [(4, .int (1 : Int32)), (3, .int (1 : Int32)), (2, .int (vl_I w2)), (1, .int (1 : Int32)), (0, .ref 196)]) (st' := [.ref 196, .int (1024 : Int32), .int (vl_I (8 + (76800 + f.d))), .ref 196]) rfl Kz) ?_
          refine jv_Wp.lift (fun _ Kz => jv_Ev.m jv_i287 (pc' := 233) (st' := [.int (vl_I f.s), .int (1024 : Int32), .int (vl_I (8 + (76800 + f.d))), .ref 196]) (G' := (jv_H K I5 L5 R)) rfl rfl (jv_m_getI (jv_rwK hW 196 12 24 (by decide)) rfl rfl D5.2.2.1) Kz) ?_
          refine jv_Wp.lift (fun _ Kz => jv_Ev.c jv_i287 (pc' := 236) (S' := [.int (vl_I (8 + (76800 + f.s))), .int (vl_I (8 + (76800 + f.d))), .ref 196]) jv_i254 [.int (1024 : Int32), .int (vl_I f.s)] rfl rfl rfl rfl rfl rfl (vq_row 1024 f.s) rfl rfl Kz) ?_
          refine jv_Wp.lift (fun _ Kz => jv_Ev.steps jv_i287 1 (pc' := 240) (l' := [(4, .int (1 : Int32)), (3, .int (1 : Int32)), (2, .int (vl_I w2)), (1, .int (1 : Int32)), (0, .ref 196)]) (st' := [.int (vl_I (8 + (76800 + f.s))), .int (vl_I (8 + (76800 + f.d))), .ref 196]) rfl Kz) ?_
          have md4 : f.kind = 4 := (vr_sm (v := 4) (by omega) (by decide) rfl).mp (Classical.not_not.mp h3)
          have mO0 : ¬ f.o = 0 := fun z => h2 (Int32.toInt_inj.mp ((vr_dO D).trans (z.trans rfl)))
          have ts1 : zs = 1 := (hs ()).symm.trans ((vr_is 1 (by decide) oks).mpr (Classical.not_not.mp h5))
          have fe : w2 ≤ 0 := (vl_I_le (b := 0) (by omega) (by decide)).mp h1
          obtain ⟨I6, L6, H6, T6, O6, F6⟩ := vq_reckonA4 (I := I5) (L := L5) (R := R) (n := n) (sl := sl) f (8 + (76800 + f.d)) (8 + (76800 + f.s)) hW Z5 D5 hfa (by omega) (by omega) (by omega) (by omega) (by omega) ((congrArg vb_toS (vr_fr_6 W5)).trans hZ6) (by omega) (by rw [vr_fr_S W5 (fun z => z)]; exact vr_tight oks (tA f.s (by omega)) (by rw [(vr_is 1 (by decide) oks).mp ((hs ()).trans (by omega))]; rfl)) hN
          refine jv_Wp.lift (fun _ Kz => jv_Ev.c jv_i287 (pc' := 243) (S' := []) (G1 := (jv_H K I6 L6 R)) jv_i285 [.ref 196, .int (vl_I (8 + (76800 + f.d))), .int (vl_I (8 + (76800 + f.s)))] rfl rfl rfl rfl (jv_cal rfl (jv_H_at (jv_rwK hW 196 12 24 (by decide))) rfl rfl) rfl H6 rfl rfl Kz) ?_
          refine jv_Wp.lift (fun _ Kz => jv_Ev.steps jv_i287 1 (pc' := 244) (l' := [(4, .int (1 : Int32)), (3, .int (1 : Int32)), (2, .int (vl_I w2)), (1, .int (1 : Int32)), (0, .ref 196)]) (st' := [.int (0 : Int32)]) rfl Kz) ?_
          refine jv_Wp.of (jv_Ev.ret jv_i287 rfl rfl) ?_
          rw [hQ]
          have md4 : f.kind = 4 := (vr_sm (v := 4) (by omega) (by decide) rfl).mp (Classical.not_not.mp h3)
          have mO0 : ¬ f.o = 0 := fun z => h2 (Int32.toInt_inj.mp ((vr_dO D).trans (z.trans rfl)))
          have ts1 : zs = 1 := (hs ()).symm.trans ((vr_is 1 (by decide) oks).mpr (Classical.not_not.mp h5))
          have fe : w2 ≤ 0 := (vl_I_le (b := 0) (by omega) (by decide)).mp h1
          have a1 : ¬ vx_a1 f (vr_T I L (76800 + f.d)) (vr_T I L (76800 + f.s)) := by unfold vx_a1; rw [hd (), hs ()]; omega
          have a2 : ¬ (f.n = 11 ∧ f.kind = 7 ∧ f.o = 0) := by omega
          have a3 : ¬ vx_a3 f (vr_T I L (76800 + f.d)) (vr_T I L (76800 + f.s)) := by unfold vx_a3; rw [hd (), hs ()]; omega
          have e := vx_ar5 a1 a2 a3
          have ev : vx_reckon f (vb_toS (vr_S L5 (8 + (76800 + f.d)))) (vb_toS (vr_S L5 (8 + (76800 + f.s)))) = vx_reckon f (vr_T I L (76800 + f.d)).val (vr_T I L (76800 + f.s)).val := by
            rw [vr_fr_S W5 (fun z => z), vr_fr_S W5 (fun z => z), show (vr_T I L (76800 + f.s)).val = (vb_toS (vr_S L (8 + (76800 + f.s)))) from vr_valv (by rw [(vr_is 1 (by decide) oks).mp ((hs ()).trans (by omega))]; rfl)]
            exact vx_reckon11 hN _ _ _
          have g := vq_arE (L := L) (f := f) (c := 0) hd75 oa (by rw [eD, eY]; exact congrArg Prod.fst e) (fun _ => ⟨by rw [eD, eY, e, T6, ev], O6⟩) (vr_fr_trans (vr_fr_P W5 (fun _ z => z.elim)) F6)
          exact ⟨_, _, by rw [g.1]; rfl, g.2, vr_fr_trans (vr_fr_P W5 (fun _ z => z.elim)) F6⟩
    · refine jv_Wp.lift (fun _ Kz => jv_Ev.steps jv_i287 1 (pc' := 103) (l' := [(3, .int (1 : Int32)), (2, .int (vl_I w2)), (1, .int (1 : Int32)), (0, .ref 196)]) (st' := [.ref 196]) rfl Kz) ?_
      refine jv_Wp.lift (fun _ Kz => jv_Ev.c jv_i287 (pc' := 106) (S' := [.int (vl_I f.kind)]) jv_i257 [.ref 196] rfl rfl rfl rfl (jv_cal rfl (jv_H_at (jv_rwK hW 196 12 24 (by decide))) rfl rfl) rfl (vq_kind f hW D) rfl rfl Kz) ?_
      refine jv_Wp.lift (fun _ Kz => jv_Ev.steps jv_i287 1 (pc' := 108) (l' := [(3, .int (1 : Int32)), (2, .int (vl_I w2)), (1, .int (1 : Int32)), (0, .ref 196)]) (st' := [.int (7 : Int32), .int (vl_I f.kind)]) rfl Kz) ?_
      refine jv_Wp.cnd jv_i287 (pt := 135) (pe := 111) (p := (¬ (vl_I f.kind) = (7 : Int32))) (q := (¬ (vl_I f.kind) = (7 : Int32))) rfl jv_bc_ne rfl rfl Iff.rfl (fun h6 => ?_) (fun h6 => ?_)
      · refine jv_Wp.lift (fun _ Kz => jv_Ev.steps jv_i287 1 (pc' := 136) (l' := [(3, .int (1 : Int32)), (2, .int (vl_I w2)), (1, .int (1 : Int32)), (0, .ref 196)]) (st' := [.ref 196]) rfl Kz) ?_
        refine jv_Wp.lift (fun _ Kz => jv_Ev.m jv_i287 (pc' := 139) (st' := [.ref 208]) (G' := (jv_H K I L R)) rfl rfl (jv_m_getR (jv_rwK hW 196 12 24 (by decide)) rfl rfl (jv_rwR hW 196 16 208 (by decide))) Kz) ?_
        refine jv_Wp.lift (fun _ Kz => jv_Ev.steps jv_i287 2 (pc' := 141) (l' := [(3, .int (1 : Int32)), (2, .int (vl_I w2)), (1, .int (1 : Int32)), (0, .ref 196)]) (st' := [.ref 196, .int (5 : Int32), .ref 208]) rfl Kz) ?_
        refine jv_Wp.lift (fun _ Kz => jv_Ev.m jv_i287 (pc' := 144) (st' := [.int (Int32.ofInt f.i), .int (5 : Int32), .ref 208]) (G' := (jv_H K I L R)) rfl rfl (jv_m_getI (jv_rwK hW 196 12 24 (by decide)) rfl rfl (vr_dJ D)) Kz) ?_
        refine jv_Wp.lift (fun _ Kz => jv_Ev.steps jv_i287 1 (pc' := 145) (l' := [(3, .int (1 : Int32)), (2, .int (vl_I w2)), (1, .int (1 : Int32)), (0, .ref 196)]) (st' := [.long (Int32.ofInt f.i).toInt64, .int (5 : Int32), .ref 208]) rfl Kz) ?_
        obtain ⟨I7, L7, H7, S7, F7⟩ := vq_single (I := I) (L := L) (R := R) (n := n) (sl := sl) (d := 5) (Int32.ofInt f.i).toInt64 hW (by decide) hf
        have Z7 := F7.1
        have D7 := vr_dec_rf F7 D
        have W7 : vr_fr noP noE I L I7 L7 := vr_fr_trans W (vq_rf_fr F7 (by decide))
        have Y7 : vb_toS (vr_S L7 5) = vx_just f.i := by rw [S7, vb_toS_just]; exact vx_just_32 _ _ (vr_dQ D)
        have Yt7 : vb_tight (vb_toS (vr_S L7 5)) := by rw [Y7]; exact vb_just_tight _
        refine jv_Wp.lift (fun _ Kz => jv_Ev.c jv_i287 (pc' := 148) (S' := []) (G1 := (jv_H K I7 L7 R)) jv_i217 [.ref 208, .int (5 : Int32), .long (Int32.ofInt f.i).toInt64] rfl rfl rfl rfl (jv_cal rfl (jv_H_at (jv_rwK hW 208 11 7 (by decide))) rfl rfl) rfl H7 rfl rfl Kz) ?_
        refine jv_Wp.lift (fun _ Kz => jv_Ev.steps jv_i287 1 (pc' := 149) (l' := [(3, .int (1 : Int32)), (2, .int (vl_I w2)), (1, .int (1 : Int32)), (0, .ref 196)]) (st' := [.ref 196]) rfl Kz) ?_
        refine jv_Wp.lift (fun _ Kz => jv_Ev.c jv_i287 (pc' := 152) (S' := [.int (vl_I f.kind)]) jv_i257 [.ref 196] rfl rfl rfl rfl (jv_cal rfl (jv_H_at (jv_rwK hW 196 12 24 (by decide))) rfl rfl) rfl (vq_kind f hW D7) rfl rfl Kz) ?_
        refine jv_Wp.lift (fun _ Kz => jv_Ev.steps jv_i287 1 (pc' := 153) (l' := [(3, .int (1 : Int32)), (2, .int (vl_I w2)), (1, .int (1 : Int32)), (0, .ref 196)]) (st' := [.int (4 : Int32), .int (vl_I f.kind)]) rfl Kz) ?_
        refine jv_Wp.cnd jv_i287 (pt := 167) (pe := 156) (p := (¬ (vl_I f.kind) = (4 : Int32))) (q := (¬ (vl_I f.kind) = (4 : Int32))) rfl jv_bc_ne rfl rfl Iff.rfl (fun h7 => ?_) (fun h7 => ?_)
        · refine jv_Wp.lift (fun _ Kz => jv_Ev.steps jv_i287 1 (pc' := 168) (l' := [(3, .int (1 : Int32)), (2, .int (vl_I w2)), (1, .int (1 : Int32)), (0, .ref 196)]) (st' := [.int (1 : Int32)]) rfl Kz) ?_
          refine jv_Wp.lift (fun _ Kz => jv_Ev.br jv_i287 (pc' := 183) (st' := []) rfl (by rfl) Kz) ?_
          refine jv_Wp.lift (fun _ Kz => jv_Ev.steps jv_i287 1 (pc' := 184) (l' := [(3, .int (1 : Int32)), (2, .int (vl_I w2)), (1, .int (1 : Int32)), (0, .ref 196)]) (st' := [.int (1 : Int32)]) rfl Kz) ?_
          refine jv_Wp.lift (fun _ Kz => jv_Ev.br jv_i287 (pc' := 187) (st' := []) rfl (by rfl) Kz) ?_
          refine jv_Wp.lift (fun _ Kz => jv_Ev.steps jv_i287 2 (pc' := 189) (l' := [(3, .int (1 : Int32)), (2, .int (vl_I w2)), (1, .int (1 : Int32)), (0, .ref 196)]) (st' := [.ref 196, .ref 196]) rfl Kz) ?_
          refine jv_Wp.lift (fun _ Kz => jv_Ev.m jv_i287 (pc' := 192) (st' := [.int (vl_I f.s), .ref 196]) (G' := (jv_H K I7 L7 R)) rfl rfl (jv_m_getI (jv_rwK hW 196 12 24 (by decide)) rfl rfl D7.2.2.1) Kz) ?_
          refine jv_Wp.lift (fun _ Kz => jv_Ev.c jv_i287 (pc' := 195) (S' := [.int (I 205 (76800 + f.s))]) jv_i271 [.ref 196, .int (vl_I f.s)] rfl rfl rfl rfl (jv_cal rfl (jv_H_at (jv_rwK hW 196 12 24 (by decide))) rfl rfl) rfl (vq_sortOfW W7 f.s hW (by omega)) rfl rfl Kz) ?_
          refine jv_Wp.lift (fun _ Kz => jv_Ev.steps jv_i287 1 (pc' := 196) (l' := [(3, .int (1 : Int32)), (2, .int (vl_I w2)), (1, .int (1 : Int32)), (0, .ref 196)]) (st' := [.int (1 : Int32), .int (I 205 (76800 + f.s))]) rfl Kz) ?_
          refine jv_Wp.cnd jv_i287 (pt := 203) (pe := 199) (p := (¬ (I 205 (76800 + f.s)) = (1 : Int32))) (q := (¬ (I 205 (76800 + f.s)) = (1 : Int32))) rfl jv_bc_ne rfl rfl Iff.rfl (fun h8 => ?_) (fun h8 => ?_)
          · refine jv_Wp.lift (fun _ Kz => jv_Ev.steps jv_i287 3 (pc' := 208) (l' := [(4, .int (0 : Int32)), (3, .int (1 : Int32)), (2, .int (vl_I w2)), (1, .int (1 : Int32)), (0, .ref 196)]) (st' := [.int (0 : Int32)]) rfl Kz) ?_
            refine jv_Wp.lift (fun _ Kz => jv_Ev.br jv_i287 (pc' := 245) (st' := []) rfl (by rfl) Kz) ?_
            refine jv_Wp.lift (fun _ Kz => jv_Ev.steps jv_i287 1 (pc' := 246) (l' := [(4, .int (0 : Int32)), (3, .int (1 : Int32)), (2, .int (vl_I w2)), (1, .int (1 : Int32)), (0, .ref 196)]) (st' := [.ref 196]) rfl Kz) ?_
            refine jv_Wp.lift (fun _ Kz => jv_Ev.c jv_i287 (pc' := 249) (S' := [.int (vl_I f.kind)]) jv_i257 [.ref 196] rfl rfl rfl rfl (jv_cal rfl (jv_H_at (jv_rwK hW 196 12 24 (by decide))) rfl rfl) rfl (vq_kind f hW D7) rfl rfl Kz) ?_
            refine jv_Wp.lift (fun _ Kz => jv_Ev.steps jv_i287 1 (pc' := 250) (l' := [(4, .int (0 : Int32)), (3, .int (1 : Int32)), (2, .int (vl_I w2)), (1, .int (1 : Int32)), (0, .ref 196)]) (st' := [.int (4 : Int32), .int (vl_I f.kind)]) rfl Kz) ?_
            refine jv_Wp.cnd jv_i287 (pt := 261) (pe := 253) (p := ((vl_I f.kind) = (4 : Int32))) (q := ((vl_I f.kind) = (4 : Int32))) rfl jv_bc_eq rfl rfl Iff.rfl (fun hz => absurd hz h7) (fun _ => ?_)
            refine jv_Wp.lift (fun _ Kz => jv_Ev.steps jv_i287 1 (pc' := 254) (l' := [(4, .int (0 : Int32)), (3, .int (1 : Int32)), (2, .int (vl_I w2)), (1, .int (1 : Int32)), (0, .ref 196)]) (st' := [.ref 196]) rfl Kz) ?_
            refine jv_Wp.lift (fun _ Kz => jv_Ev.c jv_i287 (pc' := 257) (S' := [.int (vl_I f.n)]) jv_i258 [.ref 196] rfl rfl rfl rfl (jv_cal rfl (jv_H_at (jv_rwK hW 196 12 24 (by decide))) rfl rfl) rfl (vq_n f hW D7) rfl rfl Kz) ?_
            refine jv_Wp.lift (fun _ Kz => jv_Ev.steps jv_i287 1 (pc' := 258) (l' := [(4, .int (0 : Int32)), (3, .int (1 : Int32)), (2, .int (vl_I w2)), (1, .int (1 : Int32)), (0, .ref 196)]) (st' := [.int (1 : Int32), .int (vl_I f.n)]) rfl Kz) ?_
            refine jv_Wp.cnd jv_i287 (pt := 263) (pe := 261) (p := ((vl_I f.n) ≤ (1 : Int32))) (q := ((vl_I f.n) ≤ (1 : Int32))) rfl jv_bc_le rfl rfl Iff.rfl (fun hz => absurd hz (fun z => by have y := (vl_I_le (b := 1) (by omega) (by decide)).mp z; omega)) (fun _ => ?_)
            refine jv_Wp.lift (fun _ Kz => jv_Ev.steps jv_i287 1 (pc' := 262) (l' := [(4, .int (0 : Int32)), (3, .int (1 : Int32)), (2, .int (vl_I w2)), (1, .int (1 : Int32)), (0, .ref 196)]) (st' := [.int (2 : Int32)]) rfl Kz) ?_
            refine jv_Wp.of (jv_Ev.ret jv_i287 rfl rfl) ?_
            rw [hQ]
            have md7 : ¬ f.kind = 7 := (fun z => h6 ((vr_sm (v := 7) (by omega) (by decide) rfl).mpr z))
            have md4 : ¬ f.kind = 4 := (fun z => h7 ((vr_sm (v := 4) (by omega) (by decide) rfl).mpr z))
            have mO0 : f.o = 0 := (vr_dO D).symm.trans (congrArg Int32.toInt (Classical.not_not.mp h2))
            have ts1 : ¬ zs = 1 := fun z => h8 ((vr_is 1 (by decide) oks).mp ((hs ()).trans z))
            have fe : w2 ≤ 0 := (vl_I_le (b := 0) (by omega) (by decide)).mp h1
            have a1 : ¬ vx_a1 f (vr_T I L (76800 + f.d)) (vr_T I L (76800 + f.s)) := by unfold vx_a1; rw [hd (), hs ()]; omega
            have a2 : ¬ (f.n = 11 ∧ f.kind = 7 ∧ f.o = 0) := by omega
            have a3 : vx_a3 f (vr_T I L (76800 + f.d)) (vr_T I L (76800 + f.s)) := by unfold vx_a3; rw [hd (), hs ()]; omega
            have e : vx_ar f (vr_T I L (76800 + f.d)) (vr_T I L (76800 + f.s)) = (2, (vr_T I L (76800 + f.d))) := by
              by_cases c : f.kind = 7 ∧ (f.n = 0 ∨ f.n = 1)
              · exact (vx_ar3 a1 a2 a3 c).trans (vx_move2 (by rw [hd (), hs ()]; omega) (by rw [hd (), hs ()]; omega))
              · exact vx_ar4 a1 a2 a3 c
            have g := vq_arE (L := L) (f := f) (c := 2) hd75 oa (by rw [eD, eY]; exact congrArg Prod.fst e) (fun z => absurd z (by decide)) (vr_fr_P W7 (fun _ z => z.elim))
            exact ⟨_, _, by rw [g.1]; rfl, g.2, vr_fr_P W7 (fun _ z => z.elim)⟩
          · refine jv_Wp.lift (fun _ Kz => jv_Ev.steps jv_i287 4 (pc' := 208) (l' := [(4, .int (1 : Int32)), (3, .int (1 : Int32)), (2, .int (vl_I w2)), (1, .int (1 : Int32)), (0, .ref 196)]) (st' := [.int (1 : Int32)]) rfl Kz) ?_
            refine jv_Wp.lift (fun _ Kz => jv_Ev.br jv_i287 (pc' := 211) (st' := []) rfl (by rfl) Kz) ?_
            refine jv_Wp.lift (fun _ Kz => jv_Ev.steps jv_i287 3 (pc' := 216) (l' := [(4, .int (1 : Int32)), (3, .int (1 : Int32)), (2, .int (vl_I w2)), (1, .int (1 : Int32)), (0, .ref 196)]) (st' := [.ref 196, .int (1024 : Int32), .ref 196]) rfl Kz) ?_
            refine jv_Wp.lift (fun _ Kz => jv_Ev.m jv_i287 (pc' := 219) (st' := [.int (vl_I f.d), .int (1024 : Int32), .ref 196]) (G' := (jv_H K I7 L7 R)) rfl rfl (jv_m_getI (jv_rwK hW 196 12 24 (by decide)) rfl rfl D7.2.1) Kz) ?_
            refine jv_Wp.lift (fun _ Kz => jv_Ev.c jv_i287 (pc' := 222) (S' := [.int (vl_I (8 + (76800 + f.d))), .ref 196]) jv_i254 [.int (1024 : Int32), .int (vl_I f.d)] rfl rfl rfl rfl rfl rfl (vq_row 1024 f.d) rfl rfl Kz) ?_
            refine jv_Wp.lift (fun _ Kz => jv_Ev.steps jv_i287 1 (pc' := 223) (l' := [(4, .int (1 : Int32)), (3, .int (1 : Int32)), (2, .int (vl_I w2)), (1, .int (1 : Int32)), (0, .ref 196)]) (st' := [.int (1 : Int32), .int (vl_I (8 + (76800 + f.d))), .ref 196]) rfl Kz) ?_
            refine jv_Wp.lift (fun _ Kz => jv_Ev.br jv_i287 (pc' := 226) (st' := [.int (vl_I (8 + (76800 + f.d))), .ref 196]) rfl (by rfl) Kz) ?_
            refine jv_Wp.lift (fun _ Kz => jv_Ev.steps jv_i287 2 (pc' := 230) (l' := [(4, .int (1 : Int32)), (3, .int (1 : Int32)), (2, .int (vl_I w2)), (1, .int (1 : Int32)), (0, .ref 196)]) (st' := [.ref 196, .int (1024 : Int32), .int (vl_I (8 + (76800 + f.d))), .ref 196]) rfl Kz) ?_
            refine jv_Wp.lift (fun _ Kz => jv_Ev.m jv_i287 (pc' := 233) (st' := [.int (vl_I f.s), .int (1024 : Int32), .int (vl_I (8 + (76800 + f.d))), .ref 196]) (G' := (jv_H K I7 L7 R)) rfl rfl (jv_m_getI (jv_rwK hW 196 12 24 (by decide)) rfl rfl D7.2.2.1) Kz) ?_
            refine jv_Wp.lift (fun _ Kz => jv_Ev.c jv_i287 (pc' := 236) (S' := [.int (vl_I (8 + (76800 + f.s))), .int (vl_I (8 + (76800 + f.d))), .ref 196]) jv_i254 [.int (1024 : Int32), .int (vl_I f.s)] rfl rfl rfl rfl rfl rfl (vq_row 1024 f.s) rfl rfl Kz) ?_
            refine jv_Wp.lift (fun _ Kz => jv_Ev.steps jv_i287 1 (pc' := 240) (l' := [(4, .int (1 : Int32)), (3, .int (1 : Int32)), (2, .int (vl_I w2)), (1, .int (1 : Int32)), (0, .ref 196)]) (st' := [.int (vl_I (8 + (76800 + f.s))), .int (vl_I (8 + (76800 + f.d))), .ref 196]) rfl Kz) ?_
            have md7 : ¬ f.kind = 7 := (fun z => h6 ((vr_sm (v := 7) (by omega) (by decide) rfl).mpr z))
            have md4 : ¬ f.kind = 4 := (fun z => h7 ((vr_sm (v := 4) (by omega) (by decide) rfl).mpr z))
            have mO0 : f.o = 0 := (vr_dO D).symm.trans (congrArg Int32.toInt (Classical.not_not.mp h2))
            have ts1 : zs = 1 := (hs ()).symm.trans ((vr_is 1 (by decide) oks).mpr (Classical.not_not.mp h8))
            have fe : w2 ≤ 0 := (vl_I_le (b := 0) (by omega) (by decide)).mp h1
            obtain ⟨I8, L8, H8, T8, O8, F8⟩ := vq_reckonA70 (I := I7) (L := L7) (R := R) (n := n) (sl := sl) f (8 + (76800 + f.d)) (8 + (76800 + f.s)) hW Z7 D7 hfa (by omega) (by omega) (by omega) (by omega) (by omega) ((congrArg vb_toS (vr_fr_6 W7)).trans hZ6) (by omega) mO0 (by rw [vr_fr_S W7 (fun z => z)]; exact vr_tight oks (tA f.s (by omega)) (by rw [(vr_is 1 (by decide) oks).mp ((hs ()).trans (by omega))]; rfl)) hN
            refine jv_Wp.lift (fun _ Kz => jv_Ev.c jv_i287 (pc' := 243) (S' := []) (G1 := (jv_H K I8 L8 R)) jv_i285 [.ref 196, .int (vl_I (8 + (76800 + f.d))), .int (vl_I (8 + (76800 + f.s)))] rfl rfl rfl rfl (jv_cal rfl (jv_H_at (jv_rwK hW 196 12 24 (by decide))) rfl rfl) rfl H8 rfl rfl Kz) ?_
            refine jv_Wp.lift (fun _ Kz => jv_Ev.steps jv_i287 1 (pc' := 244) (l' := [(4, .int (1 : Int32)), (3, .int (1 : Int32)), (2, .int (vl_I w2)), (1, .int (1 : Int32)), (0, .ref 196)]) (st' := [.int (0 : Int32)]) rfl Kz) ?_
            refine jv_Wp.of (jv_Ev.ret jv_i287 rfl rfl) ?_
            rw [hQ]
            have md7 : ¬ f.kind = 7 := (fun z => h6 ((vr_sm (v := 7) (by omega) (by decide) rfl).mpr z))
            have md4 : ¬ f.kind = 4 := (fun z => h7 ((vr_sm (v := 4) (by omega) (by decide) rfl).mpr z))
            have mO0 : f.o = 0 := (vr_dO D).symm.trans (congrArg Int32.toInt (Classical.not_not.mp h2))
            have ts1 : zs = 1 := (hs ()).symm.trans ((vr_is 1 (by decide) oks).mpr (Classical.not_not.mp h8))
            have fe : w2 ≤ 0 := (vl_I_le (b := 0) (by omega) (by decide)).mp h1
            have a1 : ¬ vx_a1 f (vr_T I L (76800 + f.d)) (vr_T I L (76800 + f.s)) := by unfold vx_a1; rw [hd (), hs ()]; omega
            have a2 : ¬ (f.n = 11 ∧ f.kind = 7 ∧ f.o = 0) := by omega
            have a3 : ¬ vx_a3 f (vr_T I L (76800 + f.d)) (vr_T I L (76800 + f.s)) := by unfold vx_a3; rw [hd (), hs ()]; omega
            have e := vx_ar5 a1 a2 a3
            have ev : vx_reckon f (vb_toS (vr_S L7 (8 + (76800 + f.d)))) (vb_toS (vr_S L7 (8 + (76800 + f.s)))) = vx_reckon f (vr_T I L (76800 + f.d)).val (vr_T I L (76800 + f.s)).val := by
              rw [vr_fr_S W7 (fun z => z), vr_fr_S W7 (fun z => z), show (vr_T I L (76800 + f.s)).val = (vb_toS (vr_S L (8 + (76800 + f.s)))) from vr_valv (by rw [(vr_is 1 (by decide) oks).mp ((hs ()).trans (by omega))]; rfl)]
              exact vx_reckon11 hN _ _ _
            have g := vq_arE (L := L) (f := f) (c := 0) hd75 oa (by rw [eD, eY]; exact congrArg Prod.fst e) (fun _ => ⟨by rw [eD, eY, e, T8, ev], O8⟩) (vr_fr_trans (vr_fr_P W7 (fun _ z => z.elim)) F8)
            exact ⟨_, _, by rw [g.1]; rfl, g.2, vr_fr_trans (vr_fr_P W7 (fun _ z => z.elim)) F8⟩
        · refine jv_Wp.lift (fun _ Kz => jv_Ev.steps jv_i287 1 (pc' := 157) (l' := [(3, .int (1 : Int32)), (2, .int (vl_I w2)), (1, .int (1 : Int32)), (0, .ref 196)]) (st' := [.ref 196]) rfl Kz) ?_
          refine jv_Wp.lift (fun _ Kz => jv_Ev.m jv_i287 (pc' := 160) (st' := [.ref 208]) (G' := (jv_H K I7 L7 R)) rfl rfl (jv_m_getR (jv_rwK hW 196 12 24 (by decide)) rfl rfl (jv_rwR hW 196 16 208 (by decide))) Kz) ?_
          refine jv_Wp.lift (fun _ Kz => jv_Ev.steps jv_i287 3 (pc' := 164) (l' := [(3, .int (1 : Int32)), (2, .int (vl_I w2)), (1, .int (1 : Int32)), (0, .ref 196)]) (st' := [.int (32 : Int32), .int (5 : Int32), .int (5 : Int32), .ref 208]) rfl Kz) ?_
          obtain ⟨I9, L9, H9, S9, F9⟩ := vq_cut (I := I7) (L := L7) (R := R) (n := n) (sl := sl) (a := 5) (d := 5) (m := 32) (by decide) hW (by decide) (by decide) (by decide) (by decide) Z7 Yt7
          have Z9 := F9.1
          have D9 := vr_dec_rf F9 D7
          have W9 : vr_fr noP noE I L I9 L9 := vr_fr_trans W7 (vq_rf_fr F9 (by decide))
          have Y9 : vb_toS (vr_S L9 5) = vx_cut (vx_just f.i) 32 := by rw [S9, vb_toS_toR, Y7]
          have Yt9 : vb_tight (vb_toS (vr_S L9 5)) := by rw [Y9]; exact (vx_cut_in (vb_just_mem _)).1
          refine jv_Wp.lift (fun _ Kz => jv_Ev.c jv_i287 (pc' := 167) (S' := []) (G1 := (jv_H K I9 L9 R)) jv_i219 [.ref 208, .int (5 : Int32), .int (5 : Int32), .int (32 : Int32)] rfl rfl rfl rfl (jv_cal rfl (jv_H_at (jv_rwK hW 208 11 7 (by decide))) rfl rfl) rfl H9 rfl rfl Kz) ?_
          refine jv_Wp.lift (fun _ Kz => jv_Ev.steps jv_i287 1 (pc' := 168) (l' := [(3, .int (1 : Int32)), (2, .int (vl_I w2)), (1, .int (1 : Int32)), (0, .ref 196)]) (st' := [.int (1 : Int32)]) rfl Kz) ?_
          refine jv_Wp.lift (fun _ Kz => jv_Ev.br jv_i287 (pc' := 183) (st' := []) rfl (by rfl) Kz) ?_
          refine jv_Wp.lift (fun _ Kz => jv_Ev.steps jv_i287 1 (pc' := 184) (l' := [(3, .int (1 : Int32)), (2, .int (vl_I w2)), (1, .int (1 : Int32)), (0, .ref 196)]) (st' := [.int (1 : Int32)]) rfl Kz) ?_
          refine jv_Wp.lift (fun _ Kz => jv_Ev.br jv_i287 (pc' := 187) (st' := []) rfl (by rfl) Kz) ?_
          refine jv_Wp.lift (fun _ Kz => jv_Ev.steps jv_i287 2 (pc' := 189) (l' := [(3, .int (1 : Int32)), (2, .int (vl_I w2)), (1, .int (1 : Int32)), (0, .ref 196)]) (st' := [.ref 196, .ref 196]) rfl Kz) ?_
          refine jv_Wp.lift (fun _ Kz => jv_Ev.m jv_i287 (pc' := 192) (st' := [.int (vl_I f.s), .ref 196]) (G' := (jv_H K I9 L9 R)) rfl rfl (jv_m_getI (jv_rwK hW 196 12 24 (by decide)) rfl rfl D9.2.2.1) Kz) ?_
          refine jv_Wp.lift (fun _ Kz => jv_Ev.c jv_i287 (pc' := 195) (S' := [.int (I 205 (76800 + f.s))]) jv_i271 [.ref 196, .int (vl_I f.s)] rfl rfl rfl rfl (jv_cal rfl (jv_H_at (jv_rwK hW 196 12 24 (by decide))) rfl rfl) rfl (vq_sortOfW W9 f.s hW (by omega)) rfl rfl Kz) ?_
          refine jv_Wp.lift (fun _ Kz => jv_Ev.steps jv_i287 1 (pc' := 196) (l' := [(3, .int (1 : Int32)), (2, .int (vl_I w2)), (1, .int (1 : Int32)), (0, .ref 196)]) (st' := [.int (1 : Int32), .int (I 205 (76800 + f.s))]) rfl Kz) ?_
          refine jv_Wp.cnd jv_i287 (pt := 203) (pe := 199) (p := (¬ (I 205 (76800 + f.s)) = (1 : Int32))) (q := (¬ (I 205 (76800 + f.s)) = (1 : Int32))) rfl jv_bc_ne rfl rfl Iff.rfl (fun h9 => ?_) (fun h9 => ?_)
          · refine jv_Wp.lift (fun _ Kz => jv_Ev.steps jv_i287 3 (pc' := 208) (l' := [(4, .int (0 : Int32)), (3, .int (1 : Int32)), (2, .int (vl_I w2)), (1, .int (1 : Int32)), (0, .ref 196)]) (st' := [.int (0 : Int32)]) rfl Kz) ?_
            refine jv_Wp.lift (fun _ Kz => jv_Ev.br jv_i287 (pc' := 245) (st' := []) rfl (by rfl) Kz) ?_
            refine jv_Wp.lift (fun _ Kz => jv_Ev.steps jv_i287 1 (pc' := 246) (l' := [(4, .int (0 : Int32)), (3, .int (1 : Int32)), (2, .int (vl_I w2)), (1, .int (1 : Int32)), (0, .ref 196)]) (st' := [.ref 196]) rfl Kz) ?_
            refine jv_Wp.lift (fun _ Kz => jv_Ev.c jv_i287 (pc' := 249) (S' := [.int (vl_I f.kind)]) jv_i257 [.ref 196] rfl rfl rfl rfl (jv_cal rfl (jv_H_at (jv_rwK hW 196 12 24 (by decide))) rfl rfl) rfl (vq_kind f hW D9) rfl rfl Kz) ?_
            refine jv_Wp.lift (fun _ Kz => jv_Ev.steps jv_i287 1 (pc' := 250) (l' := [(4, .int (0 : Int32)), (3, .int (1 : Int32)), (2, .int (vl_I w2)), (1, .int (1 : Int32)), (0, .ref 196)]) (st' := [.int (4 : Int32), .int (vl_I f.kind)]) rfl Kz) ?_
            refine jv_Wp.cnd jv_i287 (pt := 261) (pe := 253) (p := ((vl_I f.kind) = (4 : Int32))) (q := ((vl_I f.kind) = (4 : Int32))) rfl jv_bc_eq rfl rfl Iff.rfl (fun _ => ?_) (fun hz => absurd (Classical.not_not.mp h7) hz)
            refine jv_Wp.lift (fun _ Kz => jv_Ev.steps jv_i287 1 (pc' := 262) (l' := [(4, .int (0 : Int32)), (3, .int (1 : Int32)), (2, .int (vl_I w2)), (1, .int (1 : Int32)), (0, .ref 196)]) (st' := [.int (2 : Int32)]) rfl Kz) ?_
            refine jv_Wp.of (jv_Ev.ret jv_i287 rfl rfl) ?_
            rw [hQ]
            have md7 : ¬ f.kind = 7 := (fun z => h6 ((vr_sm (v := 7) (by omega) (by decide) rfl).mpr z))
            have md4 : f.kind = 4 := (vr_sm (v := 4) (by omega) (by decide) rfl).mp (Classical.not_not.mp h7)
            have mO0 : f.o = 0 := (vr_dO D).symm.trans (congrArg Int32.toInt (Classical.not_not.mp h2))
            have ts1 : ¬ zs = 1 := fun z => h9 ((vr_is 1 (by decide) oks).mp ((hs ()).trans z))
            have fe : w2 ≤ 0 := (vl_I_le (b := 0) (by omega) (by decide)).mp h1
            have a1 : ¬ vx_a1 f (vr_T I L (76800 + f.d)) (vr_T I L (76800 + f.s)) := by unfold vx_a1; rw [hd (), hs ()]; omega
            have a2 : ¬ (f.n = 11 ∧ f.kind = 7 ∧ f.o = 0) := by omega
            have a3 : vx_a3 f (vr_T I L (76800 + f.d)) (vr_T I L (76800 + f.s)) := by unfold vx_a3; rw [hd (), hs ()]; omega
            have e : vx_ar f (vr_T I L (76800 + f.d)) (vr_T I L (76800 + f.s)) = (2, (vr_T I L (76800 + f.d))) := by
              by_cases c : f.kind = 7 ∧ (f.n = 0 ∨ f.n = 1)
              · exact (vx_ar3 a1 a2 a3 c).trans (vx_move2 (by rw [hd (), hs ()]; omega) (by rw [hd (), hs ()]; omega))
              · exact vx_ar4 a1 a2 a3 c
            have g := vq_arE (L := L) (f := f) (c := 2) hd75 oa (by rw [eD, eY]; exact congrArg Prod.fst e) (fun z => absurd z (by decide)) (vr_fr_P W9 (fun _ z => z.elim))
            exact ⟨_, _, by rw [g.1]; rfl, g.2, vr_fr_P W9 (fun _ z => z.elim)⟩
          · refine jv_Wp.lift (fun _ Kz => jv_Ev.steps jv_i287 4 (pc' := 208) (l' := [(4, .int (1 : Int32)), (3, .int (1 : Int32)), (2, .int (vl_I w2)), (1, .int (1 : Int32)), (0, .ref 196)]) (st' := [.int (1 : Int32)]) rfl Kz) ?_
            refine jv_Wp.lift (fun _ Kz => jv_Ev.br jv_i287 (pc' := 211) (st' := []) rfl (by rfl) Kz) ?_
            refine jv_Wp.lift (fun _ Kz => jv_Ev.steps jv_i287 3 (pc' := 216) (l' := [(4, .int (1 : Int32)), (3, .int (1 : Int32)), (2, .int (vl_I w2)), (1, .int (1 : Int32)), (0, .ref 196)]) (st' := [.ref 196, .int (1024 : Int32), .ref 196]) rfl Kz) ?_
            refine jv_Wp.lift (fun _ Kz => jv_Ev.m jv_i287 (pc' := 219) (st' := [.int (vl_I f.d), .int (1024 : Int32), .ref 196]) (G' := (jv_H K I9 L9 R)) rfl rfl (jv_m_getI (jv_rwK hW 196 12 24 (by decide)) rfl rfl D9.2.1) Kz) ?_
            refine jv_Wp.lift (fun _ Kz => jv_Ev.c jv_i287 (pc' := 222) (S' := [.int (vl_I (8 + (76800 + f.d))), .ref 196]) jv_i254 [.int (1024 : Int32), .int (vl_I f.d)] rfl rfl rfl rfl rfl rfl (vq_row 1024 f.d) rfl rfl Kz) ?_
            refine jv_Wp.lift (fun _ Kz => jv_Ev.steps jv_i287 1 (pc' := 223) (l' := [(4, .int (1 : Int32)), (3, .int (1 : Int32)), (2, .int (vl_I w2)), (1, .int (1 : Int32)), (0, .ref 196)]) (st' := [.int (1 : Int32), .int (vl_I (8 + (76800 + f.d))), .ref 196]) rfl Kz) ?_
            refine jv_Wp.lift (fun _ Kz => jv_Ev.br jv_i287 (pc' := 226) (st' := [.int (vl_I (8 + (76800 + f.d))), .ref 196]) rfl (by rfl) Kz) ?_
            refine jv_Wp.lift (fun _ Kz => jv_Ev.steps jv_i287 2 (pc' := 230) (l' := [(4, .int (1 : Int32)), (3, .int (1 : Int32)), (2, .int (vl_I w2)), (1, .int (1 : Int32)), (0, .ref 196)]) (st' := [.ref 196, .int (1024 : Int32), .int (vl_I (8 + (76800 + f.d))), .ref 196]) rfl Kz) ?_
            refine jv_Wp.lift (fun _ Kz => jv_Ev.m jv_i287 (pc' := 233) (st' := [.int (vl_I f.s), .int (1024 : Int32), .int (vl_I (8 + (76800 + f.d))), .ref 196]) (G' := (jv_H K I9 L9 R)) rfl rfl (jv_m_getI (jv_rwK hW 196 12 24 (by decide)) rfl rfl D9.2.2.1) Kz) ?_
            refine jv_Wp.lift (fun _ Kz => jv_Ev.c jv_i287 (pc' := 236) (S' := [.int (vl_I (8 + (76800 + f.s))), .int (vl_I (8 + (76800 + f.d))), .ref 196]) jv_i254 [.int (1024 : Int32), .int (vl_I f.s)] rfl rfl rfl rfl rfl rfl (vq_row 1024 f.s) rfl rfl Kz) ?_
            refine jv_Wp.lift (fun _ Kz => jv_Ev.steps jv_i287 1 (pc' := 240) (l' := [(4, .int (1 : Int32)), (3, .int (1 : Int32)), (2, .int (vl_I w2)), (1, .int (1 : Int32)), (0, .ref 196)]) (st' := [.int (vl_I (8 + (76800 + f.s))), .int (vl_I (8 + (76800 + f.d))), .ref 196]) rfl Kz) ?_
            have md7 : ¬ f.kind = 7 := (fun z => h6 ((vr_sm (v := 7) (by omega) (by decide) rfl).mpr z))
            have md4 : f.kind = 4 := (vr_sm (v := 4) (by omega) (by decide) rfl).mp (Classical.not_not.mp h7)
            have mO0 : f.o = 0 := (vr_dO D).symm.trans (congrArg Int32.toInt (Classical.not_not.mp h2))
            have ts1 : zs = 1 := (hs ()).symm.trans ((vr_is 1 (by decide) oks).mpr (Classical.not_not.mp h9))
            have fe : w2 ≤ 0 := (vl_I_le (b := 0) (by omega) (by decide)).mp h1
            obtain ⟨I10, L10, H10, T10, O10, F10⟩ := vq_reckonA4 (I := I9) (L := L9) (R := R) (n := n) (sl := sl) f (8 + (76800 + f.d)) (8 + (76800 + f.s)) hW Z9 D9 hfa (by omega) (by omega) (by omega) (by omega) (by omega) ((congrArg vb_toS (vr_fr_6 W9)).trans hZ6) (by omega) (by rw [vr_fr_S W9 (fun z => z)]; exact vr_tight oks (tA f.s (by omega)) (by rw [(vr_is 1 (by decide) oks).mp ((hs ()).trans (by omega))]; rfl)) hN
            refine jv_Wp.lift (fun _ Kz => jv_Ev.c jv_i287 (pc' := 243) (S' := []) (G1 := (jv_H K I10 L10 R)) jv_i285 [.ref 196, .int (vl_I (8 + (76800 + f.d))), .int (vl_I (8 + (76800 + f.s)))] rfl rfl rfl rfl (jv_cal rfl (jv_H_at (jv_rwK hW 196 12 24 (by decide))) rfl rfl) rfl H10 rfl rfl Kz) ?_
            refine jv_Wp.lift (fun _ Kz => jv_Ev.steps jv_i287 1 (pc' := 244) (l' := [(4, .int (1 : Int32)), (3, .int (1 : Int32)), (2, .int (vl_I w2)), (1, .int (1 : Int32)), (0, .ref 196)]) (st' := [.int (0 : Int32)]) rfl Kz) ?_
            refine jv_Wp.of (jv_Ev.ret jv_i287 rfl rfl) ?_
            rw [hQ]
            have md7 : ¬ f.kind = 7 := (fun z => h6 ((vr_sm (v := 7) (by omega) (by decide) rfl).mpr z))
            have md4 : f.kind = 4 := (vr_sm (v := 4) (by omega) (by decide) rfl).mp (Classical.not_not.mp h7)
            have mO0 : f.o = 0 := (vr_dO D).symm.trans (congrArg Int32.toInt (Classical.not_not.mp h2))
            have ts1 : zs = 1 := (hs ()).symm.trans ((vr_is 1 (by decide) oks).mpr (Classical.not_not.mp h9))
            have fe : w2 ≤ 0 := (vl_I_le (b := 0) (by omega) (by decide)).mp h1
            have a1 : ¬ vx_a1 f (vr_T I L (76800 + f.d)) (vr_T I L (76800 + f.s)) := by unfold vx_a1; rw [hd (), hs ()]; omega
            have a2 : ¬ (f.n = 11 ∧ f.kind = 7 ∧ f.o = 0) := by omega
            have a3 : ¬ vx_a3 f (vr_T I L (76800 + f.d)) (vr_T I L (76800 + f.s)) := by unfold vx_a3; rw [hd (), hs ()]; omega
            have e := vx_ar5 a1 a2 a3
            have ev : vx_reckon f (vb_toS (vr_S L9 (8 + (76800 + f.d)))) (vb_toS (vr_S L9 (8 + (76800 + f.s)))) = vx_reckon f (vr_T I L (76800 + f.d)).val (vr_T I L (76800 + f.s)).val := by
              rw [vr_fr_S W9 (fun z => z), vr_fr_S W9 (fun z => z), show (vr_T I L (76800 + f.s)).val = (vb_toS (vr_S L (8 + (76800 + f.s)))) from vr_valv (by rw [(vr_is 1 (by decide) oks).mp ((hs ()).trans (by omega))]; rfl)]
              exact vx_reckon11 hN _ _ _
            have g := vq_arE (L := L) (f := f) (c := 0) hd75 oa (by rw [eD, eY]; exact congrArg Prod.fst e) (fun _ => ⟨by rw [eD, eY, e, T10, ev], O10⟩) (vr_fr_trans (vr_fr_P W9 (fun _ z => z.elim)) F10)
            exact ⟨_, _, by rw [g.1]; rfl, g.2, vr_fr_trans (vr_fr_P W9 (fun _ z => z.elim)) F10⟩
      · refine jv_Wp.lift (fun _ Kz => jv_Ev.steps jv_i287 1 (pc' := 112) (l' := [(3, .int (1 : Int32)), (2, .int (vl_I w2)), (1, .int (1 : Int32)), (0, .ref 196)]) (st' := [.int (1 : Int32)]) rfl Kz) ?_
        refine jv_Wp.lift (fun _ Kz => jv_Ev.br jv_i287 (pc' := 115) (st' := []) rfl (by rfl) Kz) ?_
        refine jv_Wp.lift (fun _ Kz => jv_Ev.steps jv_i287 3 (pc' := 120) (l' := [(3, .int (1 : Int32)), (2, .int (vl_I w2)), (1, .int (1 : Int32)), (0, .ref 196)]) (st' := [.ref 196, .int (1024 : Int32), .ref 196]) rfl Kz) ?_
        refine jv_Wp.lift (fun _ Kz => jv_Ev.m jv_i287 (pc' := 123) (st' := [.int (vl_I f.s), .int (1024 : Int32), .ref 196]) (G' := (jv_H K I L R)) rfl rfl (jv_m_getI (jv_rwK hW 196 12 24 (by decide)) rfl rfl D.2.2.1) Kz) ?_
        refine jv_Wp.lift (fun _ Kz => jv_Ev.steps jv_i287 2 (pc' := 127) (l' := [(3, .int (1 : Int32)), (2, .int (vl_I w2)), (1, .int (1 : Int32)), (0, .ref 196)]) (st' := [.ref 196, .int (1024 : Int32), .int (vl_I f.s), .int (1024 : Int32), .ref 196]) rfl Kz) ?_
        refine jv_Wp.lift (fun _ Kz => jv_Ev.m jv_i287 (pc' := 130) (st' := [.int (vl_I f.d), .int (1024 : Int32), .int (vl_I f.s), .int (1024 : Int32), .ref 196]) (G' := (jv_H K I L R)) rfl rfl (jv_m_getI (jv_rwK hW 196 12 24 (by decide)) rfl rfl D.2.1) Kz) ?_
        obtain ⟨I11, L11, H11, A11, B11, C11, S11, F11⟩ := vq_copyThing (I := I) (L := L) (R := R) (n := n) (sl := sl) 1024 f.s 1024 f.d hW hf (by omega) (by omega)
        refine jv_Wp.lift (fun _ Kz => jv_Ev.c jv_i287 (pc' := 133) (S' := []) (G1 := (jv_H K I11 L11 R)) jv_i275 [.ref 196, .int (1024 : Int32), .int (vl_I f.s), .int (1024 : Int32), .int (vl_I f.d)] rfl rfl rfl rfl (jv_cal rfl (jv_H_at (jv_rwK hW 196 12 24 (by decide))) rfl rfl) rfl H11 rfl rfl Kz) ?_
        refine jv_Wp.lift (fun _ Kz => jv_Ev.steps jv_i287 1 (pc' := 134) (l' := [(3, .int (1 : Int32)), (2, .int (vl_I w2)), (1, .int (1 : Int32)), (0, .ref 196)]) (st' := [.int (0 : Int32)]) rfl Kz) ?_
        refine jv_Wp.of (jv_Ev.ret jv_i287 rfl rfl) ?_
        rw [hQ]
        have md7 : f.kind = 7 := (vr_sm (v := 7) (by omega) (by decide) rfl).mp (Classical.not_not.mp h6)
        have mO0 : f.o = 0 := (vr_dO D).symm.trans (congrArg Int32.toInt (Classical.not_not.mp h2))
        have fe : w2 ≤ 0 := (vl_I_le (b := 0) (by omega) (by decide)).mp h1
        have a1 : ¬ vx_a1 f (vr_T I L (76800 + f.d)) (vr_T I L (76800 + f.s)) := by unfold vx_a1; rw [hd (), hs ()]; omega
        have e := vx_ar2 a1 (show f.n = 11 ∧ f.kind = 7 ∧ f.o = 0 by omega)
        have s0 : (vr_T I L (76800 + f.s)).sort ≠ 0 := by rw [hs ()]; omega
        have g := vq_arE (L := L) (f := f) (c := 0) hd75 oa (by rw [eD, eY]; exact congrArg Prod.fst e) (fun _ => ⟨by rw [eD, eY, e]; exact vr_T_eq A11 B11 C11 S11, vr_ok_mv A11 B11 C11 oks (fun z => s0 ((vr_isN oks hs11).mpr z)) (vr_reg oks hs11)⟩) (F11)
        exact ⟨_, _, by rw [g.1]; rfl, g.2, F11⟩
  · refine jv_Wp.lift (fun _ Kz => jv_Ev.steps jv_i287 1 (pc' := 68) (l' := [(2, .int (vl_I w2)), (1, .int (1 : Int32)), (0, .ref 196)]) (st' := [.int (vl_I w2)]) rfl Kz) ?_
    refine jv_Wp.of (jv_Ev.ret jv_i287 rfl rfl) ?_
    rw [hQ]
    have fe : ¬ w2 ≤ 0 := fun z => h1 ((vl_I_le (b := 0) (by omega) (by decide)).mpr z)
    have a1 : vx_a1 f (vr_T I L (76800 + f.d)) (vr_T I L (76800 + f.s)) := by unfold vx_a1; rw [hd (), hs ()]; omega
    have c1 : w2 = 1 := by omega
    have e := vx_ar1 a1
    have g := vq_arE (L := L) (f := f) (c := 1) hd75 oa (by rw [eD, eY]; exact congrArg Prod.fst e) (fun z => absurd z (by decide)) (vr_fr_refl hf)
    exact ⟨_, _, by rw [g.1]; rw [c1], g.2, vr_fr_refl hf⟩
set_option maxRecDepth 8000 in
theorem vq_arithI11 {K : Nat → Option (Nat × Nat)} {I : Nat → Nat → Int32} {L : Nat → Nat → Int64} {R : Nat → Nat → Value} (f : vf_F) (hW : jv_rW K R) (hf : vr_fl I) (D : vr_dec I f) (hfa : vf_ar f) (hk47 : f.kind = 4 ∨ f.kind = 7) (hd11 : f.d < 11) (hs11 : f.s < 11) (oa : vr_okA I 1024) (tA : ∀ n, n < 75 → vt_ok (vr_T I L (76800 + n))) (gA : ∀ n, n < 75 → vt_g (vr_T I L (76800 + n))) (hZ6 : vb_toS (vr_S L 6) = vb_just 0) (hb : f.bit3 = false) (hN : f.n = 11) {n sl : Nat} : ∃ I1 L1, jv_Ms 287 [.ref 196] (jv_H K I L R) n sl (some (.int (vl_I (vx_arith f (vr_A I L 1024)).1)), jv_H K I1 L1 R, n, sl) ∧ ((vx_arith f (vr_A I L 1024)).1 = 0 → vr_A I1 L1 1024 = (vx_arith f (vr_A I L 1024)).2 ∧ vr_okA I1 1024) ∧ vr_fr (fun x => x = 76800 + f.d) noE I L I1 L1 := by
  obtain ⟨Q, hQ⟩ : ∃ Q : jv_R → Prop, Q = fun X => ∃ I1 L1, X = (some (.int (vl_I (vx_arith f (vr_A I L 1024)).1)), jv_H K I1 L1 R, n, sl) ∧ ((vx_arith f (vr_A I L 1024)).1 = 0 → vr_A I1 L1 1024 = (vx_arith f (vr_A I L 1024)).2 ∧ vr_okA I1 1024) ∧ vr_fr (fun x => x = 76800 + f.d) noE I L I1 L1 := ⟨_, rfl⟩
  suffices h : jv_Wp 287 0 [(0, .ref 196)] [] (jv_H K I L R) n sl Q by
    rw [hQ] at h
    obtain ⟨X, h, I1, L1, e, h'⟩ := h
    subst e
    exact ⟨I1, L1, h, h'⟩
  have hn16 := vr_dn D
  have hk8 := vr_dk D
  have hd75 : f.d < 75 := by omega
  have hs75 : f.s < 75 := by omega
  have okd : vr_ok I (76800 + f.d) f.d := oa f.d hd75
  have oks : vr_ok I (76800 + f.s) f.s := oa f.s hs75
  obtain ⟨zd, hd⟩ : ∃ x : Nat, ∀ _ : Unit, (vr_T I L (76800 + f.d)).sort = x := ⟨_, fun _ => rfl⟩
  obtain ⟨zs, hs⟩ : ∃ x : Nat, ∀ _ : Unit, (vt_num (vx_just f.i)).sort = x := ⟨_, fun _ => rfl⟩
  obtain ⟨rd, hrd⟩ : ∃ x : Nat, ∀ _ : Unit, vr_rd (I 205 (76800 + f.d)) = x := ⟨_, fun _ => rfl⟩
  obtain ⟨rs, hrs⟩ : ∃ x : Nat, ∀ _ : Unit, vr_rd (I 205 (76800 + f.s)) = x := ⟨_, fun _ => rfl⟩
  have rdd : (zd = 0 → rd = 1) ∧ (zd ≠ 0 → rd = 0) := by rw [← hd (), ← hrd ()]; exact vr_rd_f okd hd11
  have W : vr_fr noP noE I L I L := vr_fr_refl hf
  have q0 := hfa.1
  have q8 := hfa.2.1
  have q11 := hfa.2.2.2.1
  have eD : (vr_A I L 1024).1 f.d = (vr_T I L (76800 + f.d)) := vr_A1 hd75
  have eY : vx_y f (vr_A I L 1024) = (vt_num (vx_just f.i)) := (if_neg (by rw [hb]; decide))
  have ys : zs = 1 := (hs ()).symm
  refine jv_Wp.lift (fun _ Kz => jv_Ev.steps jv_i287 1 (pc' := 1) (l' := [(0, .ref 196)]) (st' := [.ref 196]) rfl Kz) ?_
  refine jv_Wp.lift (fun _ Kz => jv_Ev.c jv_i287 (pc' := 4) (S' := [.int (vl_I f.n)]) jv_i258 [.ref 196] rfl rfl rfl rfl (jv_cal rfl (jv_H_at (jv_rwK hW 196 12 24 (by decide))) rfl rfl) rfl (vq_n f hW D) rfl rfl Kz) ?_
  refine jv_Wp.lift (fun _ Kz => jv_Ev.steps jv_i287 1 (pc' := 6) (l' := [(0, .ref 196)]) (st' := [.int (11 : Int32), .int (vl_I f.n)]) rfl Kz) ?_
  refine jv_Wp.cnd jv_i287 (pt := 13) (pe := 9) (p := (¬ (vl_I f.n) = (11 : Int32))) (q := (¬ (vl_I f.n) = (11 : Int32))) rfl jv_bc_ne rfl rfl Iff.rfl (fun hz => absurd hz (fun z => z ((vr_sm (v := 11) (by omega) (by decide) rfl).mpr hN))) (fun _ => ?_)
  refine jv_Wp.lift (fun _ Kz => jv_Ev.steps jv_i287 4 (pc' := 16) (l' := [(1, .int (1 : Int32)), (0, .ref 196)]) (st' := [.int (1 : Int32)]) rfl Kz) ?_
  refine jv_Wp.lift (fun _ Kz => jv_Ev.br jv_i287 (pc' := 19) (st' := []) rfl (by rfl) Kz) ?_
  refine jv_Wp.lift (fun _ Kz => jv_Ev.steps jv_i287 3 (pc' := 32) (l' := [(1, .int (1 : Int32)), (0, .ref 196)]) (st' := [.ref 196, .int (0 : Int32)]) rfl Kz) ?_
  refine jv_Wp.lift (fun _ Kz => jv_Ev.c jv_i287 (pc' := 35) (S' := [.int (vr_b f.bit3), .int (0 : Int32)]) jv_i259 [.ref 196] rfl rfl rfl rfl (jv_cal rfl (jv_H_at (jv_rwK hW 196 12 24 (by decide))) rfl rfl) rfl (vq_bit3 f hW D) rfl rfl Kz) ?_
  refine jv_Wp.cnd jv_i287 (pt := 58) (pe := 38) (p := ((vr_b f.bit3) = 0)) (q := ((vr_b f.bit3) = 0)) rfl jv_bi_eq rfl rfl Iff.rfl (fun _ => ?_) (fun hz => absurd (by rw [hb]; rfl) hz)
  refine jv_Wp.lift (fun _ Kz => jv_Ev.steps jv_i287 1 (pc' := 59) (l' := [(1, .int (1 : Int32)), (0, .ref 196)]) (st' := [.int (0 : Int32), .int (0 : Int32)]) rfl Kz) ?_
  obtain ⟨w12, hq12⟩ : ∃ x : Nat, ∀ _ : Unit, vx_fst 0 0 = x := ⟨_, fun _ => rfl⟩
  have fq : (0 = 0 → w12 = 0) ∧ (0 = 0 → w12 = 0) ∧ (w12 = 0 ∨ w12 = 0) := by rw [← hq12 ()]; exact vx_fst_f 0 0
  have Hf12 := vq_first (I := I) (L := L) (K := K) (R := R) (n := n) (sl := sl) 0 0 (by omega) (by omega)
  rw [hq12 ()] at Hf12
  refine jv_Wp.lift (fun _ Kz => jv_Ev.c jv_i287 (pc' := 62) (S' := [.int (vl_I w12)]) jv_i282 [.int (0 : Int32), .int (0 : Int32)] rfl rfl rfl rfl rfl rfl Hf12 rfl rfl Kz) ?_
  refine jv_Wp.lift (fun _ Kz => jv_Ev.steps jv_i287 2 (pc' := 64) (l' := [(2, .int (vl_I w12)), (1, .int (1 : Int32)), (0, .ref 196)]) (st' := [.int (vl_I w12)]) rfl Kz) ?_
  refine jv_Wp.cnd jv_i287 (pt := 69) (pe := 67) (p := ((vl_I w12) ≤ 0)) (q := ((vl_I w12) ≤ 0)) rfl jv_bi_le rfl rfl Iff.rfl (fun h1 => ?_) (fun h1 => ?_)
  · refine jv_Wp.lift (fun _ Kz => jv_Ev.steps jv_i287 1 (pc' := 70) (l' := [(2, .int (vl_I w12)), (1, .int (1 : Int32)), (0, .ref 196)]) (st' := [.ref 196]) rfl Kz) ?_
    refine jv_Wp.lift (fun _ Kz => jv_Ev.c jv_i287 (pc' := 73) (S' := [.int (vr_b f.bit3)]) jv_i259 [.ref 196] rfl rfl rfl rfl (jv_cal rfl (jv_H_at (jv_rwK hW 196 12 24 (by decide))) rfl rfl) rfl (vq_bit3 f hW D) rfl rfl Kz) ?_
    refine jv_Wp.cnd jv_i287 (pt := 89) (pe := 76) (p := ((vr_b f.bit3) = 0)) (q := ((vr_b f.bit3) = 0)) rfl jv_bi_eq rfl rfl Iff.rfl (fun _ => ?_) (fun hz => absurd (by rw [hb]; rfl) hz)
    refine jv_Wp.lift (fun _ Kz => jv_Ev.steps jv_i287 3 (pc' := 92) (l' := [(3, .int (0 : Int32)), (2, .int (vl_I w12)), (1, .int (1 : Int32)), (0, .ref 196)]) (st' := [.int (1 : Int32)]) rfl Kz) ?_
    refine jv_Wp.lift (fun _ Kz => jv_Ev.br jv_i287 (pc' := 95) (st' := []) rfl (by rfl) Kz) ?_
    refine jv_Wp.lift (fun _ Kz => jv_Ev.steps jv_i287 1 (pc' := 96) (l' := [(3, .int (0 : Int32)), (2, .int (vl_I w12)), (1, .int (1 : Int32)), (0, .ref 196)]) (st' := [.ref 196]) rfl Kz) ?_
    refine jv_Wp.lift (fun _ Kz => jv_Ev.m jv_i287 (pc' := 99) (st' := [.int (Int32.ofInt f.o)]) (G' := (jv_H K I L R)) rfl rfl (jv_m_getI (jv_rwK hW 196 12 24 (by decide)) rfl rfl (vr_dI D)) Kz) ?_
    refine jv_Wp.cnd jv_i287 (pt := 135) (pe := 102) (p := (¬ (Int32.ofInt f.o) = 0)) (q := (¬ (Int32.ofInt f.o) = 0)) rfl jv_bi_ne rfl rfl Iff.rfl (fun h2 => ?_) (fun h2 => ?_)
    · refine jv_Wp.lift (fun _ Kz => jv_Ev.steps jv_i287 1 (pc' := 136) (l' := [(3, .int (0 : Int32)), (2, .int (vl_I w12)), (1, .int (1 : Int32)), (0, .ref 196)]) (st' := [.ref 196]) rfl Kz) ?_
      refine jv_Wp.lift (fun _ Kz => jv_Ev.m jv_i287 (pc' := 139) (st' := [.ref 208]) (G' := (jv_H K I L R)) rfl rfl (jv_m_getR (jv_rwK hW 196 12 24 (by decide)) rfl rfl (jv_rwR hW 196 16 208 (by decide))) Kz) ?_
      refine jv_Wp.lift (fun _ Kz => jv_Ev.steps jv_i287 2 (pc' := 141) (l' := [(3, .int (0 : Int32)), (2, .int (vl_I w12)), (1, .int (1 : Int32)), (0, .ref 196)]) (st' := [.ref 196, .int (5 : Int32), .ref 208]) rfl Kz) ?_
      refine jv_Wp.lift (fun _ Kz => jv_Ev.m jv_i287 (pc' := 144) (st' := [.int (Int32.ofInt f.i), .int (5 : Int32), .ref 208]) (G' := (jv_H K I L R)) rfl rfl (jv_m_getI (jv_rwK hW 196 12 24 (by decide)) rfl rfl (vr_dJ D)) Kz) ?_
      refine jv_Wp.lift (fun _ Kz => jv_Ev.steps jv_i287 1 (pc' := 145) (l' := [(3, .int (0 : Int32)), (2, .int (vl_I w12)), (1, .int (1 : Int32)), (0, .ref 196)]) (st' := [.long (Int32.ofInt f.i).toInt64, .int (5 : Int32), .ref 208]) rfl Kz) ?_
      obtain ⟨I13, L13, H13, S13, F13⟩ := vq_single (I := I) (L := L) (R := R) (n := n) (sl := sl) (d := 5) (Int32.ofInt f.i).toInt64 hW (by decide) hf
      have Z13 := F13.1
      have D13 := vr_dec_rf F13 D
      have W13 : vr_fr noP noE I L I13 L13 := vr_fr_trans W (vq_rf_fr F13 (by decide))
      have Y13 : vb_toS (vr_S L13 5) = vx_just f.i := by rw [S13, vb_toS_just]; exact vx_just_32 _ _ (vr_dQ D)
      have Yt13 : vb_tight (vb_toS (vr_S L13 5)) := by rw [Y13]; exact vb_just_tight _
      refine jv_Wp.lift (fun _ Kz => jv_Ev.c jv_i287 (pc' := 148) (S' := []) (G1 := (jv_H K I13 L13 R)) jv_i217 [.ref 208, .int (5 : Int32), .long (Int32.ofInt f.i).toInt64] rfl rfl rfl rfl (jv_cal rfl (jv_H_at (jv_rwK hW 208 11 7 (by decide))) rfl rfl) rfl H13 rfl rfl Kz) ?_
      refine jv_Wp.lift (fun _ Kz => jv_Ev.steps jv_i287 1 (pc' := 149) (l' := [(3, .int (0 : Int32)), (2, .int (vl_I w12)), (1, .int (1 : Int32)), (0, .ref 196)]) (st' := [.ref 196]) rfl Kz) ?_
      refine jv_Wp.lift (fun _ Kz => jv_Ev.c jv_i287 (pc' := 152) (S' := [.int (vl_I f.kind)]) jv_i257 [.ref 196] rfl rfl rfl rfl (jv_cal rfl (jv_H_at (jv_rwK hW 196 12 24 (by decide))) rfl rfl) rfl (vq_kind f hW D13) rfl rfl Kz) ?_
      refine jv_Wp.lift (fun _ Kz => jv_Ev.steps jv_i287 1 (pc' := 153) (l' := [(3, .int (0 : Int32)), (2, .int (vl_I w12)), (1, .int (1 : Int32)), (0, .ref 196)]) (st' := [.int (4 : Int32), .int (vl_I f.kind)]) rfl Kz) ?_
      refine jv_Wp.cnd jv_i287 (pt := 167) (pe := 156) (p := (¬ (vl_I f.kind) = (4 : Int32))) (q := (¬ (vl_I f.kind) = (4 : Int32))) rfl jv_bc_ne rfl rfl Iff.rfl (fun h3 => ?_) (fun h3 => ?_)
      · refine jv_Wp.lift (fun _ Kz => jv_Ev.steps jv_i287 1 (pc' := 168) (l' := [(3, .int (0 : Int32)), (2, .int (vl_I w12)), (1, .int (1 : Int32)), (0, .ref 196)]) (st' := [.int (1 : Int32)]) rfl Kz) ?_
        refine jv_Wp.lift (fun _ Kz => jv_Ev.br jv_i287 (pc' := 183) (st' := []) rfl (by rfl) Kz) ?_
        refine jv_Wp.lift (fun _ Kz => jv_Ev.steps jv_i287 1 (pc' := 184) (l' := [(3, .int (0 : Int32)), (2, .int (vl_I w12)), (1, .int (1 : Int32)), (0, .ref 196)]) (st' := [.int (0 : Int32)]) rfl Kz) ?_
        refine jv_Wp.lift (fun _ Kz => jv_Ev.br jv_i287 (pc' := 199) (st' := []) rfl (by rfl) Kz) ?_
        refine jv_Wp.lift (fun _ Kz => jv_Ev.steps jv_i287 4 (pc' := 208) (l' := [(4, .int (1 : Int32)), (3, .int (0 : Int32)), (2, .int (vl_I w12)), (1, .int (1 : Int32)), (0, .ref 196)]) (st' := [.int (1 : Int32)]) rfl Kz) ?_
        refine jv_Wp.lift (fun _ Kz => jv_Ev.br jv_i287 (pc' := 211) (st' := []) rfl (by rfl) Kz) ?_
        refine jv_Wp.lift (fun _ Kz => jv_Ev.steps jv_i287 3 (pc' := 216) (l' := [(4, .int (1 : Int32)), (3, .int (0 : Int32)), (2, .int (vl_I w12)), (1, .int (1 : Int32)), (0, .ref 196)]) (st' := [.ref 196, .int (1024 : Int32), .ref 196]) rfl Kz) ?_
        refine jv_Wp.lift (fun _ Kz => jv_Ev.m jv_i287 (pc' := 219) (st' := [.int (vl_I f.d), .int (1024 : Int32), .ref 196]) (G' := (jv_H K I13 L13 R)) rfl rfl (jv_m_getI (jv_rwK hW 196 12 24 (by decide)) rfl rfl D13.2.1) Kz) ?_
        refine jv_Wp.lift (fun _ Kz => jv_Ev.c jv_i287 (pc' := 222) (S' := [.int (vl_I (8 + (76800 + f.d))), .ref 196]) jv_i254 [.int (1024 : Int32), .int (vl_I f.d)] rfl rfl rfl rfl rfl rfl (vq_row 1024 f.d) rfl rfl Kz) ?_
        refine jv_Wp.lift (fun _ Kz => jv_Ev.steps jv_i287 1 (pc' := 223) (l' := [(4, .int (1 : Int32)), (3, .int (0 : Int32)), (2, .int (vl_I w12)), (1, .int (1 : Int32)), (0, .ref 196)]) (st' := [.int (0 : Int32), .int (vl_I (8 + (76800 + f.d))), .ref 196]) rfl Kz) ?_
        refine jv_Wp.lift (fun _ Kz => jv_Ev.br jv_i287 (pc' := 239) (st' := [.int (vl_I (8 + (76800 + f.d))), .ref 196]) rfl (by rfl) Kz) ?_
        refine jv_Wp.lift (fun _ Kz => jv_Ev.steps jv_i287 1 (pc' := 240) (l' := [(4, .int (1 : Int32)), (3, .int (0 : Int32)), (2, .int (vl_I w12)), (1, .int (1 : Int32)), (0, .ref 196)]) (st' := [.int (5 : Int32), .int (vl_I (8 + (76800 + f.d))), .ref 196]) rfl Kz) ?_
        have md4 : ¬ f.kind = 4 := (fun z => h3 ((vr_sm (v := 4) (by omega) (by decide) rfl).mpr z))
        have mO0 : ¬ f.o = 0 := fun z => h2 (Int32.toInt_inj.mp ((vr_dO D).trans (z.trans rfl)))
        have fe : w12 ≤ 0 := (vl_I_le (b := 0) (by omega) (by decide)).mp h1
        obtain ⟨I14, L14, H14, T14, O14, F14⟩ := vq_reckonA7 (I := I13) (L := L13) (R := R) (n := n) (sl := sl) f (8 + (76800 + f.d)) 5 hW Z13 D13 hfa (by omega) (by omega) (by omega) (by omega) (by omega) ((congrArg vb_toS (vr_fr_6 W13)).trans hZ6) (by omega) mO0 Yt13 hN
        refine jv_Wp.lift (fun _ Kz => jv_Ev.c jv_i287 (pc' := 243) (S' := []) (G1 := (jv_H K I14 L14 R)) jv_i285 [.ref 196, .int (vl_I (8 + (76800 + f.d))), .int (5 : Int32)] rfl rfl rfl rfl (jv_cal rfl (jv_H_at (jv_rwK hW 196 12 24 (by decide))) rfl rfl) rfl H14 rfl rfl Kz) ?_
        refine jv_Wp.lift (fun _ Kz => jv_Ev.steps jv_i287 1 (pc' := 244) (l' := [(4, .int (1 : Int32)), (3, .int (0 : Int32)), (2, .int (vl_I w12)), (1, .int (1 : Int32)), (0, .ref 196)]) (st' := [.int (0 : Int32)]) rfl Kz) ?_
        refine jv_Wp.of (jv_Ev.ret jv_i287 rfl rfl) ?_
        rw [hQ]
        have md4 : ¬ f.kind = 4 := (fun z => h3 ((vr_sm (v := 4) (by omega) (by decide) rfl).mpr z))
        have mO0 : ¬ f.o = 0 := fun z => h2 (Int32.toInt_inj.mp ((vr_dO D).trans (z.trans rfl)))
        have fe : w12 ≤ 0 := (vl_I_le (b := 0) (by omega) (by decide)).mp h1
        have a1 : ¬ vx_a1 f (vr_T I L (76800 + f.d)) (vt_num (vx_just f.i)) := by unfold vx_a1; rw [hd (), hs ()]; omega
        have a2 : ¬ (f.n = 11 ∧ f.kind = 7 ∧ f.o = 0) := by omega
        have a3 : ¬ vx_a3 f (vr_T I L (76800 + f.d)) (vt_num (vx_just f.i)) := by unfold vx_a3; rw [hd (), hs ()]; omega
        have e := vx_ar5 a1 a2 a3
        have ev : vx_reckon f (vb_toS (vr_S L13 (8 + (76800 + f.d)))) (vb_toS (vr_S L13 5)) = vx_reckon f (vr_T I L (76800 + f.d)).val (vt_num (vx_just f.i)).val := by
          rw [Y13, vr_fr_S W13 (fun z => z)]
          show _ = vx_reckon f (vr_T I L (76800 + f.d)).val (vx_just f.i)
          exact vx_reckon11 hN _ _ _
        have g := vq_arE (L := L) (f := f) (c := 0) hd75 oa (by rw [eD, eY]; exact congrArg Prod.fst e) (fun _ => ⟨by rw [eD, eY, e, T14, ev], O14⟩) (vr_fr_trans (vr_fr_P W13 (fun _ z => z.elim)) F14)
        exact ⟨_, _, by rw [g.1]; rfl, g.2, vr_fr_trans (vr_fr_P W13 (fun _ z => z.elim)) F14⟩
      · refine jv_Wp.lift (fun _ Kz => jv_Ev.steps jv_i287 1 (pc' := 157) (l' := [(3, .int (0 : Int32)), (2, .int (vl_I w12)), (1, .int (1 : Int32)), (0, .ref 196)]) (st' := [.ref 196]) rfl Kz) ?_
        refine jv_Wp.lift (fun _ Kz => jv_Ev.m jv_i287 (pc' := 160) (st' := [.ref 208]) (G' := (jv_H K I13 L13 R)) rfl rfl (jv_m_getR (jv_rwK hW 196 12 24 (by decide)) rfl rfl (jv_rwR hW 196 16 208 (by decide))) Kz) ?_
        refine jv_Wp.lift (fun _ Kz => jv_Ev.steps jv_i287 3 (pc' := 164) (l' := [(3, .int (0 : Int32)), (2, .int (vl_I w12)), (1, .int (1 : Int32)), (0, .ref 196)]) (st' := [.int (32 : Int32), .int (5 : Int32), .int (5 : Int32), .ref 208]) rfl Kz) ?_
        obtain ⟨I15, L15, H15, S15, F15⟩ := vq_cut (I := I13) (L := L13) (R := R) (n := n) (sl := sl) (a := 5) (d := 5) (m := 32) (by decide) hW (by decide) (by decide) (by decide) (by decide) Z13 Yt13
        have Z15 := F15.1
        have D15 := vr_dec_rf F15 D13
        have W15 : vr_fr noP noE I L I15 L15 := vr_fr_trans W13 (vq_rf_fr F15 (by decide))
        have Y15 : vb_toS (vr_S L15 5) = vx_cut (vx_just f.i) 32 := by rw [S15, vb_toS_toR, Y13]
        have Yt15 : vb_tight (vb_toS (vr_S L15 5)) := by rw [Y15]; exact (vx_cut_in (vb_just_mem _)).1
        refine jv_Wp.lift (fun _ Kz => jv_Ev.c jv_i287 (pc' := 167) (S' := []) (G1 := (jv_H K I15 L15 R)) jv_i219 [.ref 208, .int (5 : Int32), .int (5 : Int32), .int (32 : Int32)] rfl rfl rfl rfl (jv_cal rfl (jv_H_at (jv_rwK hW 208 11 7 (by decide))) rfl rfl) rfl H15 rfl rfl Kz) ?_
        refine jv_Wp.lift (fun _ Kz => jv_Ev.steps jv_i287 1 (pc' := 168) (l' := [(3, .int (0 : Int32)), (2, .int (vl_I w12)), (1, .int (1 : Int32)), (0, .ref 196)]) (st' := [.int (1 : Int32)]) rfl Kz) ?_
        refine jv_Wp.lift (fun _ Kz => jv_Ev.br jv_i287 (pc' := 183) (st' := []) rfl (by rfl) Kz) ?_
        refine jv_Wp.lift (fun _ Kz => jv_Ev.steps jv_i287 1 (pc' := 184) (l' := [(3, .int (0 : Int32)), (2, .int (vl_I w12)), (1, .int (1 : Int32)), (0, .ref 196)]) (st' := [.int (0 : Int32)]) rfl Kz) ?_
        refine jv_Wp.lift (fun _ Kz => jv_Ev.br jv_i287 (pc' := 199) (st' := []) rfl (by rfl) Kz) ?_
        refine jv_Wp.lift (fun _ Kz => jv_Ev.steps jv_i287 4 (pc' := 208) (l' := [(4, .int (1 : Int32)), (3, .int (0 : Int32)), (2, .int (vl_I w12)), (1, .int (1 : Int32)), (0, .ref 196)]) (st' := [.int (1 : Int32)]) rfl Kz) ?_
        refine jv_Wp.lift (fun _ Kz => jv_Ev.br jv_i287 (pc' := 211) (st' := []) rfl (by rfl) Kz) ?_
        refine jv_Wp.lift (fun _ Kz => jv_Ev.steps jv_i287 3 (pc' := 216) (l' := [(4, .int (1 : Int32)), (3, .int (0 : Int32)), (2, .int (vl_I w12)), (1, .int (1 : Int32)), (0, .ref 196)]) (st' := [.ref 196, .int (1024 : Int32), .ref 196]) rfl Kz) ?_
        refine jv_Wp.lift (fun _ Kz => jv_Ev.m jv_i287 (pc' := 219) (st' := [.int (vl_I f.d), .int (1024 : Int32), .ref 196]) (G' := (jv_H K I15 L15 R)) rfl rfl (jv_m_getI (jv_rwK hW 196 12 24 (by decide)) rfl rfl D15.2.1) Kz) ?_
        refine jv_Wp.lift (fun _ Kz => jv_Ev.c jv_i287 (pc' := 222) (S' := [.int (vl_I (8 + (76800 + f.d))), .ref 196]) jv_i254 [.int (1024 : Int32), .int (vl_I f.d)] rfl rfl rfl rfl rfl rfl (vq_row 1024 f.d) rfl rfl Kz) ?_
        refine jv_Wp.lift (fun _ Kz => jv_Ev.steps jv_i287 1 (pc' := 223) (l' := [(4, .int (1 : Int32)), (3, .int (0 : Int32)), (2, .int (vl_I w12)), (1, .int (1 : Int32)), (0, .ref 196)]) (st' := [.int (0 : Int32), .int (vl_I (8 + (76800 + f.d))), .ref 196]) rfl Kz) ?_
        refine jv_Wp.lift (fun _ Kz => jv_Ev.br jv_i287 (pc' := 239) (st' := [.int (vl_I (8 + (76800 + f.d))), .ref 196]) rfl (by rfl) Kz) ?_
        refine jv_Wp.lift (fun _ Kz => jv_Ev.steps jv_i287 1 (pc' := 240) (l' := [(4, .int (1 : Int32)), (3, .int (0 : Int32)), (2, .int (vl_I w12)), (1, .int (1 : Int32)), (0, .ref 196)]) (st' := [.int (5 : Int32), .int (vl_I (8 + (76800 + f.d))), .ref 196]) rfl Kz) ?_
        have md4 : f.kind = 4 := (vr_sm (v := 4) (by omega) (by decide) rfl).mp (Classical.not_not.mp h3)
        have mO0 : ¬ f.o = 0 := fun z => h2 (Int32.toInt_inj.mp ((vr_dO D).trans (z.trans rfl)))
        have fe : w12 ≤ 0 := (vl_I_le (b := 0) (by omega) (by decide)).mp h1
        obtain ⟨I16, L16, H16, T16, O16, F16⟩ := vq_reckonA4 (I := I15) (L := L15) (R := R) (n := n) (sl := sl) f (8 + (76800 + f.d)) 5 hW Z15 D15 hfa (by omega) (by omega) (by omega) (by omega) (by omega) ((congrArg vb_toS (vr_fr_6 W15)).trans hZ6) (by omega) Yt15 hN
        refine jv_Wp.lift (fun _ Kz => jv_Ev.c jv_i287 (pc' := 243) (S' := []) (G1 := (jv_H K I16 L16 R)) jv_i285 [.ref 196, .int (vl_I (8 + (76800 + f.d))), .int (5 : Int32)] rfl rfl rfl rfl (jv_cal rfl (jv_H_at (jv_rwK hW 196 12 24 (by decide))) rfl rfl) rfl H16 rfl rfl Kz) ?_
        refine jv_Wp.lift (fun _ Kz => jv_Ev.steps jv_i287 1 (pc' := 244) (l' := [(4, .int (1 : Int32)), (3, .int (0 : Int32)), (2, .int (vl_I w12)), (1, .int (1 : Int32)), (0, .ref 196)]) (st' := [.int (0 : Int32)]) rfl Kz) ?_
        refine jv_Wp.of (jv_Ev.ret jv_i287 rfl rfl) ?_
        rw [hQ]
        have md4 : f.kind = 4 := (vr_sm (v := 4) (by omega) (by decide) rfl).mp (Classical.not_not.mp h3)
        have mO0 : ¬ f.o = 0 := fun z => h2 (Int32.toInt_inj.mp ((vr_dO D).trans (z.trans rfl)))
        have fe : w12 ≤ 0 := (vl_I_le (b := 0) (by omega) (by decide)).mp h1
        have a1 : ¬ vx_a1 f (vr_T I L (76800 + f.d)) (vt_num (vx_just f.i)) := by unfold vx_a1; rw [hd (), hs ()]; omega
        have a2 : ¬ (f.n = 11 ∧ f.kind = 7 ∧ f.o = 0) := by omega
        have a3 : ¬ vx_a3 f (vr_T I L (76800 + f.d)) (vt_num (vx_just f.i)) := by unfold vx_a3; rw [hd (), hs ()]; omega
        have e := vx_ar5 a1 a2 a3
        have ev : vx_reckon f (vb_toS (vr_S L15 (8 + (76800 + f.d)))) (vb_toS (vr_S L15 5)) = vx_reckon f (vr_T I L (76800 + f.d)).val (vt_num (vx_just f.i)).val := by
          rw [Y15, vr_fr_S W15 (fun z => z)]
          rw [vx_reckon_cut hfa md4]
          show _ = vx_reckon f (vr_T I L (76800 + f.d)).val (vx_just f.i)
          exact vx_reckon11 hN _ _ _
        have g := vq_arE (L := L) (f := f) (c := 0) hd75 oa (by rw [eD, eY]; exact congrArg Prod.fst e) (fun _ => ⟨by rw [eD, eY, e, T16, ev], O16⟩) (vr_fr_trans (vr_fr_P W15 (fun _ z => z.elim)) F16)
        exact ⟨_, _, by rw [g.1]; rfl, g.2, vr_fr_trans (vr_fr_P W15 (fun _ z => z.elim)) F16⟩
    · refine jv_Wp.lift (fun _ Kz => jv_Ev.steps jv_i287 1 (pc' := 103) (l' := [(3, .int (0 : Int32)), (2, .int (vl_I w12)), (1, .int (1 : Int32)), (0, .ref 196)]) (st' := [.ref 196]) rfl Kz) ?_
      refine jv_Wp.lift (fun _ Kz => jv_Ev.c jv_i287 (pc' := 106) (S' := [.int (vl_I f.kind)]) jv_i257 [.ref 196] rfl rfl rfl rfl (jv_cal rfl (jv_H_at (jv_rwK hW 196 12 24 (by decide))) rfl rfl) rfl (vq_kind f hW D) rfl rfl Kz) ?_
      refine jv_Wp.lift (fun _ Kz => jv_Ev.steps jv_i287 1 (pc' := 108) (l' := [(3, .int (0 : Int32)), (2, .int (vl_I w12)), (1, .int (1 : Int32)), (0, .ref 196)]) (st' := [.int (7 : Int32), .int (vl_I f.kind)]) rfl Kz) ?_
      refine jv_Wp.cnd jv_i287 (pt := 135) (pe := 111) (p := (¬ (vl_I f.kind) = (7 : Int32))) (q := (¬ (vl_I f.kind) = (7 : Int32))) rfl jv_bc_ne rfl rfl Iff.rfl (fun h4 => ?_) (fun h4 => ?_)
      · refine jv_Wp.lift (fun _ Kz => jv_Ev.steps jv_i287 1 (pc' := 136) (l' := [(3, .int (0 : Int32)), (2, .int (vl_I w12)), (1, .int (1 : Int32)), (0, .ref 196)]) (st' := [.ref 196]) rfl Kz) ?_
        refine jv_Wp.lift (fun _ Kz => jv_Ev.m jv_i287 (pc' := 139) (st' := [.ref 208]) (G' := (jv_H K I L R)) rfl rfl (jv_m_getR (jv_rwK hW 196 12 24 (by decide)) rfl rfl (jv_rwR hW 196 16 208 (by decide))) Kz) ?_
        refine jv_Wp.lift (fun _ Kz => jv_Ev.steps jv_i287 2 (pc' := 141) (l' := [(3, .int (0 : Int32)), (2, .int (vl_I w12)), (1, .int (1 : Int32)), (0, .ref 196)]) (st' := [.ref 196, .int (5 : Int32), .ref 208]) rfl Kz) ?_
        refine jv_Wp.lift (fun _ Kz => jv_Ev.m jv_i287 (pc' := 144) (st' := [.int (Int32.ofInt f.i), .int (5 : Int32), .ref 208]) (G' := (jv_H K I L R)) rfl rfl (jv_m_getI (jv_rwK hW 196 12 24 (by decide)) rfl rfl (vr_dJ D)) Kz) ?_
        refine jv_Wp.lift (fun _ Kz => jv_Ev.steps jv_i287 1 (pc' := 145) (l' := [(3, .int (0 : Int32)), (2, .int (vl_I w12)), (1, .int (1 : Int32)), (0, .ref 196)]) (st' := [.long (Int32.ofInt f.i).toInt64, .int (5 : Int32), .ref 208]) rfl Kz) ?_
        obtain ⟨I17, L17, H17, S17, F17⟩ := vq_single (I := I) (L := L) (R := R) (n := n) (sl := sl) (d := 5) (Int32.ofInt f.i).toInt64 hW (by decide) hf
        have Z17 := F17.1
        have D17 := vr_dec_rf F17 D
        have W17 : vr_fr noP noE I L I17 L17 := vr_fr_trans W (vq_rf_fr F17 (by decide))
        have Y17 : vb_toS (vr_S L17 5) = vx_just f.i := by rw [S17, vb_toS_just]; exact vx_just_32 _ _ (vr_dQ D)
        have Yt17 : vb_tight (vb_toS (vr_S L17 5)) := by rw [Y17]; exact vb_just_tight _
        refine jv_Wp.lift (fun _ Kz => jv_Ev.c jv_i287 (pc' := 148) (S' := []) (G1 := (jv_H K I17 L17 R)) jv_i217 [.ref 208, .int (5 : Int32), .long (Int32.ofInt f.i).toInt64] rfl rfl rfl rfl (jv_cal rfl (jv_H_at (jv_rwK hW 208 11 7 (by decide))) rfl rfl) rfl H17 rfl rfl Kz) ?_
        refine jv_Wp.lift (fun _ Kz => jv_Ev.steps jv_i287 1 (pc' := 149) (l' := [(3, .int (0 : Int32)), (2, .int (vl_I w12)), (1, .int (1 : Int32)), (0, .ref 196)]) (st' := [.ref 196]) rfl Kz) ?_
        refine jv_Wp.lift (fun _ Kz => jv_Ev.c jv_i287 (pc' := 152) (S' := [.int (vl_I f.kind)]) jv_i257 [.ref 196] rfl rfl rfl rfl (jv_cal rfl (jv_H_at (jv_rwK hW 196 12 24 (by decide))) rfl rfl) rfl (vq_kind f hW D17) rfl rfl Kz) ?_
        refine jv_Wp.lift (fun _ Kz => jv_Ev.steps jv_i287 1 (pc' := 153) (l' := [(3, .int (0 : Int32)), (2, .int (vl_I w12)), (1, .int (1 : Int32)), (0, .ref 196)]) (st' := [.int (4 : Int32), .int (vl_I f.kind)]) rfl Kz) ?_
        refine jv_Wp.cnd jv_i287 (pt := 167) (pe := 156) (p := (¬ (vl_I f.kind) = (4 : Int32))) (q := (¬ (vl_I f.kind) = (4 : Int32))) rfl jv_bc_ne rfl rfl Iff.rfl (fun h5 => ?_) (fun h5 => ?_)
        · refine jv_Wp.lift (fun _ Kz => jv_Ev.steps jv_i287 1 (pc' := 168) (l' := [(3, .int (0 : Int32)), (2, .int (vl_I w12)), (1, .int (1 : Int32)), (0, .ref 196)]) (st' := [.int (1 : Int32)]) rfl Kz) ?_
          refine jv_Wp.lift (fun _ Kz => jv_Ev.br jv_i287 (pc' := 183) (st' := []) rfl (by rfl) Kz) ?_
          refine jv_Wp.lift (fun _ Kz => jv_Ev.steps jv_i287 1 (pc' := 184) (l' := [(3, .int (0 : Int32)), (2, .int (vl_I w12)), (1, .int (1 : Int32)), (0, .ref 196)]) (st' := [.int (0 : Int32)]) rfl Kz) ?_
          refine jv_Wp.lift (fun _ Kz => jv_Ev.br jv_i287 (pc' := 199) (st' := []) rfl (by rfl) Kz) ?_
          refine jv_Wp.lift (fun _ Kz => jv_Ev.steps jv_i287 4 (pc' := 208) (l' := [(4, .int (1 : Int32)), (3, .int (0 : Int32)), (2, .int (vl_I w12)), (1, .int (1 : Int32)), (0, .ref 196)]) (st' := [.int (1 : Int32)]) rfl Kz) ?_
          refine jv_Wp.lift (fun _ Kz => jv_Ev.br jv_i287 (pc' := 211) (st' := []) rfl (by rfl) Kz) ?_
          refine jv_Wp.lift (fun _ Kz => jv_Ev.steps jv_i287 3 (pc' := 216) (l' := [(4, .int (1 : Int32)), (3, .int (0 : Int32)), (2, .int (vl_I w12)), (1, .int (1 : Int32)), (0, .ref 196)]) (st' := [.ref 196, .int (1024 : Int32), .ref 196]) rfl Kz) ?_
          refine jv_Wp.lift (fun _ Kz => jv_Ev.m jv_i287 (pc' := 219) (st' := [.int (vl_I f.d), .int (1024 : Int32), .ref 196]) (G' := (jv_H K I17 L17 R)) rfl rfl (jv_m_getI (jv_rwK hW 196 12 24 (by decide)) rfl rfl D17.2.1) Kz) ?_
          refine jv_Wp.lift (fun _ Kz => jv_Ev.c jv_i287 (pc' := 222) (S' := [.int (vl_I (8 + (76800 + f.d))), .ref 196]) jv_i254 [.int (1024 : Int32), .int (vl_I f.d)] rfl rfl rfl rfl rfl rfl (vq_row 1024 f.d) rfl rfl Kz) ?_
          refine jv_Wp.lift (fun _ Kz => jv_Ev.steps jv_i287 1 (pc' := 223) (l' := [(4, .int (1 : Int32)), (3, .int (0 : Int32)), (2, .int (vl_I w12)), (1, .int (1 : Int32)), (0, .ref 196)]) (st' := [.int (0 : Int32), .int (vl_I (8 + (76800 + f.d))), .ref 196]) rfl Kz) ?_
          refine jv_Wp.lift (fun _ Kz => jv_Ev.br jv_i287 (pc' := 239) (st' := [.int (vl_I (8 + (76800 + f.d))), .ref 196]) rfl (by rfl) Kz) ?_
          refine jv_Wp.lift (fun _ Kz => jv_Ev.steps jv_i287 1 (pc' := 240) (l' := [(4, .int (1 : Int32)), (3, .int (0 : Int32)), (2, .int (vl_I w12)), (1, .int (1 : Int32)), (0, .ref 196)]) (st' := [.int (5 : Int32), .int (vl_I (8 + (76800 + f.d))), .ref 196]) rfl Kz) ?_
          have md7 : ¬ f.kind = 7 := (fun z => h4 ((vr_sm (v := 7) (by omega) (by decide) rfl).mpr z))
          have md4 : ¬ f.kind = 4 := (fun z => h5 ((vr_sm (v := 4) (by omega) (by decide) rfl).mpr z))
          have mO0 : f.o = 0 := (vr_dO D).symm.trans (congrArg Int32.toInt (Classical.not_not.mp h2))
          have fe : w12 ≤ 0 := (vl_I_le (b := 0) (by omega) (by decide)).mp h1
          obtain ⟨I18, L18, H18, T18, O18, F18⟩ := vq_reckonA70 (I := I17) (L := L17) (R := R) (n := n) (sl := sl) f (8 + (76800 + f.d)) 5 hW Z17 D17 hfa (by omega) (by omega) (by omega) (by omega) (by omega) ((congrArg vb_toS (vr_fr_6 W17)).trans hZ6) (by omega) mO0 Yt17 hN
          refine jv_Wp.lift (fun _ Kz => jv_Ev.c jv_i287 (pc' := 243) (S' := []) (G1 := (jv_H K I18 L18 R)) jv_i285 [.ref 196, .int (vl_I (8 + (76800 + f.d))), .int (5 : Int32)] rfl rfl rfl rfl (jv_cal rfl (jv_H_at (jv_rwK hW 196 12 24 (by decide))) rfl rfl) rfl H18 rfl rfl Kz) ?_
          refine jv_Wp.lift (fun _ Kz => jv_Ev.steps jv_i287 1 (pc' := 244) (l' := [(4, .int (1 : Int32)), (3, .int (0 : Int32)), (2, .int (vl_I w12)), (1, .int (1 : Int32)), (0, .ref 196)]) (st' := [.int (0 : Int32)]) rfl Kz) ?_
          refine jv_Wp.of (jv_Ev.ret jv_i287 rfl rfl) ?_
          rw [hQ]
          have md7 : ¬ f.kind = 7 := (fun z => h4 ((vr_sm (v := 7) (by omega) (by decide) rfl).mpr z))
          have md4 : ¬ f.kind = 4 := (fun z => h5 ((vr_sm (v := 4) (by omega) (by decide) rfl).mpr z))
          have mO0 : f.o = 0 := (vr_dO D).symm.trans (congrArg Int32.toInt (Classical.not_not.mp h2))
          have fe : w12 ≤ 0 := (vl_I_le (b := 0) (by omega) (by decide)).mp h1
          have a1 : ¬ vx_a1 f (vr_T I L (76800 + f.d)) (vt_num (vx_just f.i)) := by unfold vx_a1; rw [hd (), hs ()]; omega
          have a2 : ¬ (f.n = 11 ∧ f.kind = 7 ∧ f.o = 0) := by omega
          have a3 : ¬ vx_a3 f (vr_T I L (76800 + f.d)) (vt_num (vx_just f.i)) := by unfold vx_a3; rw [hd (), hs ()]; omega
          have e := vx_ar5 a1 a2 a3
          have ev : vx_reckon f (vb_toS (vr_S L17 (8 + (76800 + f.d)))) (vb_toS (vr_S L17 5)) = vx_reckon f (vr_T I L (76800 + f.d)).val (vt_num (vx_just f.i)).val := by
            rw [Y17, vr_fr_S W17 (fun z => z)]
            show _ = vx_reckon f (vr_T I L (76800 + f.d)).val (vx_just f.i)
            exact vx_reckon11 hN _ _ _
          have g := vq_arE (L := L) (f := f) (c := 0) hd75 oa (by rw [eD, eY]; exact congrArg Prod.fst e) (fun _ => ⟨by rw [eD, eY, e, T18, ev], O18⟩) (vr_fr_trans (vr_fr_P W17 (fun _ z => z.elim)) F18)
          exact ⟨_, _, by rw [g.1]; rfl, g.2, vr_fr_trans (vr_fr_P W17 (fun _ z => z.elim)) F18⟩
        · refine jv_Wp.lift (fun _ Kz => jv_Ev.steps jv_i287 1 (pc' := 157) (l' := [(3, .int (0 : Int32)), (2, .int (vl_I w12)), (1, .int (1 : Int32)), (0, .ref 196)]) (st' := [.ref 196]) rfl Kz) ?_
          refine jv_Wp.lift (fun _ Kz => jv_Ev.m jv_i287 (pc' := 160) (st' := [.ref 208]) (G' := (jv_H K I17 L17 R)) rfl rfl (jv_m_getR (jv_rwK hW 196 12 24 (by decide)) rfl rfl (jv_rwR hW 196 16 208 (by decide))) Kz) ?_
          refine jv_Wp.lift (fun _ Kz => jv_Ev.steps jv_i287 3 (pc' := 164) (l' := [(3, .int (0 : Int32)), (2, .int (vl_I w12)), (1, .int (1 : Int32)), (0, .ref 196)]) (st' := [.int (32 : Int32), .int (5 : Int32), .int (5 : Int32), .ref 208]) rfl Kz) ?_
          obtain ⟨I19, L19, H19, S19, F19⟩ := vq_cut (I := I17) (L := L17) (R := R) (n := n) (sl := sl) (a := 5) (d := 5) (m := 32) (by decide) hW (by decide) (by decide) (by decide) (by decide) Z17 Yt17
          have Z19 := F19.1
          have D19 := vr_dec_rf F19 D17
          have W19 : vr_fr noP noE I L I19 L19 := vr_fr_trans W17 (vq_rf_fr F19 (by decide))
          have Y19 : vb_toS (vr_S L19 5) = vx_cut (vx_just f.i) 32 := by rw [S19, vb_toS_toR, Y17]
          have Yt19 : vb_tight (vb_toS (vr_S L19 5)) := by rw [Y19]; exact (vx_cut_in (vb_just_mem _)).1
          refine jv_Wp.lift (fun _ Kz => jv_Ev.c jv_i287 (pc' := 167) (S' := []) (G1 := (jv_H K I19 L19 R)) jv_i219 [.ref 208, .int (5 : Int32), .int (5 : Int32), .int (32 : Int32)] rfl rfl rfl rfl (jv_cal rfl (jv_H_at (jv_rwK hW 208 11 7 (by decide))) rfl rfl) rfl H19 rfl rfl Kz) ?_
          refine jv_Wp.lift (fun _ Kz => jv_Ev.steps jv_i287 1 (pc' := 168) (l' := [(3, .int (0 : Int32)), (2, .int (vl_I w12)), (1, .int (1 : Int32)), (0, .ref 196)]) (st' := [.int (1 : Int32)]) rfl Kz) ?_
          refine jv_Wp.lift (fun _ Kz => jv_Ev.br jv_i287 (pc' := 183) (st' := []) rfl (by rfl) Kz) ?_
          refine jv_Wp.lift (fun _ Kz => jv_Ev.steps jv_i287 1 (pc' := 184) (l' := [(3, .int (0 : Int32)), (2, .int (vl_I w12)), (1, .int (1 : Int32)), (0, .ref 196)]) (st' := [.int (0 : Int32)]) rfl Kz) ?_
          refine jv_Wp.lift (fun _ Kz => jv_Ev.br jv_i287 (pc' := 199) (st' := []) rfl (by rfl) Kz) ?_
          refine jv_Wp.lift (fun _ Kz => jv_Ev.steps jv_i287 4 (pc' := 208) (l' := [(4, .int (1 : Int32)), (3, .int (0 : Int32)), (2, .int (vl_I w12)), (1, .int (1 : Int32)), (0, .ref 196)]) (st' := [.int (1 : Int32)]) rfl Kz) ?_
          refine jv_Wp.lift (fun _ Kz => jv_Ev.br jv_i287 (pc' := 211) (st' := []) rfl (by rfl) Kz) ?_
          refine jv_Wp.lift (fun _ Kz => jv_Ev.steps jv_i287 3 (pc' := 216) (l' := [(4, .int (1 : Int32)), (3, .int (0 : Int32)), (2, .int (vl_I w12)), (1, .int (1 : Int32)), (0, .ref 196)]) (st' := [.ref 196, .int (1024 : Int32), .ref 196]) rfl Kz) ?_
          refine jv_Wp.lift (fun _ Kz => jv_Ev.m jv_i287 (pc' := 219) (st' := [.int (vl_I f.d), .int (1024 : Int32), .ref 196]) (G' := (jv_H K I19 L19 R)) rfl rfl (jv_m_getI (jv_rwK hW 196 12 24 (by decide)) rfl rfl D19.2.1) Kz) ?_
          refine jv_Wp.lift (fun _ Kz => jv_Ev.c jv_i287 (pc' := 222) (S' := [.int (vl_I (8 + (76800 + f.d))), .ref 196]) jv_i254 [.int (1024 : Int32), .int (vl_I f.d)] rfl rfl rfl rfl rfl rfl (vq_row 1024 f.d) rfl rfl Kz) ?_
          refine jv_Wp.lift (fun _ Kz => jv_Ev.steps jv_i287 1 (pc' := 223) (l' := [(4, .int (1 : Int32)), (3, .int (0 : Int32)), (2, .int (vl_I w12)), (1, .int (1 : Int32)), (0, .ref 196)]) (st' := [.int (0 : Int32), .int (vl_I (8 + (76800 + f.d))), .ref 196]) rfl Kz) ?_
          refine jv_Wp.lift (fun _ Kz => jv_Ev.br jv_i287 (pc' := 239) (st' := [.int (vl_I (8 + (76800 + f.d))), .ref 196]) rfl (by rfl) Kz) ?_
          refine jv_Wp.lift (fun _ Kz => jv_Ev.steps jv_i287 1 (pc' := 240) (l' := [(4, .int (1 : Int32)), (3, .int (0 : Int32)), (2, .int (vl_I w12)), (1, .int (1 : Int32)), (0, .ref 196)]) (st' := [.int (5 : Int32), .int (vl_I (8 + (76800 + f.d))), .ref 196]) rfl Kz) ?_
          have md7 : ¬ f.kind = 7 := (fun z => h4 ((vr_sm (v := 7) (by omega) (by decide) rfl).mpr z))
          have md4 : f.kind = 4 := (vr_sm (v := 4) (by omega) (by decide) rfl).mp (Classical.not_not.mp h5)
          have mO0 : f.o = 0 := (vr_dO D).symm.trans (congrArg Int32.toInt (Classical.not_not.mp h2))
          have fe : w12 ≤ 0 := (vl_I_le (b := 0) (by omega) (by decide)).mp h1
          obtain ⟨I20, L20, H20, T20, O20, F20⟩ := vq_reckonA4 (I := I19) (L := L19) (R := R) (n := n) (sl := sl) f (8 + (76800 + f.d)) 5 hW Z19 D19 hfa (by omega) (by omega) (by omega) (by omega) (by omega) ((congrArg vb_toS (vr_fr_6 W19)).trans hZ6) (by omega) Yt19 hN
          refine jv_Wp.lift (fun _ Kz => jv_Ev.c jv_i287 (pc' := 243) (S' := []) (G1 := (jv_H K I20 L20 R)) jv_i285 [.ref 196, .int (vl_I (8 + (76800 + f.d))), .int (5 : Int32)] rfl rfl rfl rfl (jv_cal rfl (jv_H_at (jv_rwK hW 196 12 24 (by decide))) rfl rfl) rfl H20 rfl rfl Kz) ?_
          refine jv_Wp.lift (fun _ Kz => jv_Ev.steps jv_i287 1 (pc' := 244) (l' := [(4, .int (1 : Int32)), (3, .int (0 : Int32)), (2, .int (vl_I w12)), (1, .int (1 : Int32)), (0, .ref 196)]) (st' := [.int (0 : Int32)]) rfl Kz) ?_
          refine jv_Wp.of (jv_Ev.ret jv_i287 rfl rfl) ?_
          rw [hQ]
          have md7 : ¬ f.kind = 7 := (fun z => h4 ((vr_sm (v := 7) (by omega) (by decide) rfl).mpr z))
          have md4 : f.kind = 4 := (vr_sm (v := 4) (by omega) (by decide) rfl).mp (Classical.not_not.mp h5)
          have mO0 : f.o = 0 := (vr_dO D).symm.trans (congrArg Int32.toInt (Classical.not_not.mp h2))
          have fe : w12 ≤ 0 := (vl_I_le (b := 0) (by omega) (by decide)).mp h1
          have a1 : ¬ vx_a1 f (vr_T I L (76800 + f.d)) (vt_num (vx_just f.i)) := by unfold vx_a1; rw [hd (), hs ()]; omega
          have a2 : ¬ (f.n = 11 ∧ f.kind = 7 ∧ f.o = 0) := by omega
          have a3 : ¬ vx_a3 f (vr_T I L (76800 + f.d)) (vt_num (vx_just f.i)) := by unfold vx_a3; rw [hd (), hs ()]; omega
          have e := vx_ar5 a1 a2 a3
          have ev : vx_reckon f (vb_toS (vr_S L19 (8 + (76800 + f.d)))) (vb_toS (vr_S L19 5)) = vx_reckon f (vr_T I L (76800 + f.d)).val (vt_num (vx_just f.i)).val := by
            rw [Y19, vr_fr_S W19 (fun z => z)]
            rw [vx_reckon_cut hfa md4]
            show _ = vx_reckon f (vr_T I L (76800 + f.d)).val (vx_just f.i)
            exact vx_reckon11 hN _ _ _
          have g := vq_arE (L := L) (f := f) (c := 0) hd75 oa (by rw [eD, eY]; exact congrArg Prod.fst e) (fun _ => ⟨by rw [eD, eY, e, T20, ev], O20⟩) (vr_fr_trans (vr_fr_P W19 (fun _ z => z.elim)) F20)
          exact ⟨_, _, by rw [g.1]; rfl, g.2, vr_fr_trans (vr_fr_P W19 (fun _ z => z.elim)) F20⟩
      · refine jv_Wp.lift (fun _ Kz => jv_Ev.steps jv_i287 1 (pc' := 112) (l' := [(3, .int (0 : Int32)), (2, .int (vl_I w12)), (1, .int (1 : Int32)), (0, .ref 196)]) (st' := [.int (0 : Int32)]) rfl Kz) ?_
        refine jv_Wp.lift (fun _ Kz => jv_Ev.br jv_i287 (pc' := 135) (st' := []) rfl (by rfl) Kz) ?_
        refine jv_Wp.lift (fun _ Kz => jv_Ev.steps jv_i287 1 (pc' := 136) (l' := [(3, .int (0 : Int32)), (2, .int (vl_I w12)), (1, .int (1 : Int32)), (0, .ref 196)]) (st' := [.ref 196]) rfl Kz) ?_
        refine jv_Wp.lift (fun _ Kz => jv_Ev.m jv_i287 (pc' := 139) (st' := [.ref 208]) (G' := (jv_H K I L R)) rfl rfl (jv_m_getR (jv_rwK hW 196 12 24 (by decide)) rfl rfl (jv_rwR hW 196 16 208 (by decide))) Kz) ?_
        refine jv_Wp.lift (fun _ Kz => jv_Ev.steps jv_i287 2 (pc' := 141) (l' := [(3, .int (0 : Int32)), (2, .int (vl_I w12)), (1, .int (1 : Int32)), (0, .ref 196)]) (st' := [.ref 196, .int (5 : Int32), .ref 208]) rfl Kz) ?_
        refine jv_Wp.lift (fun _ Kz => jv_Ev.m jv_i287 (pc' := 144) (st' := [.int (Int32.ofInt f.i), .int (5 : Int32), .ref 208]) (G' := (jv_H K I L R)) rfl rfl (jv_m_getI (jv_rwK hW 196 12 24 (by decide)) rfl rfl (vr_dJ D)) Kz) ?_
        refine jv_Wp.lift (fun _ Kz => jv_Ev.steps jv_i287 1 (pc' := 145) (l' := [(3, .int (0 : Int32)), (2, .int (vl_I w12)), (1, .int (1 : Int32)), (0, .ref 196)]) (st' := [.long (Int32.ofInt f.i).toInt64, .int (5 : Int32), .ref 208]) rfl Kz) ?_
        obtain ⟨I21, L21, H21, S21, F21⟩ := vq_single (I := I) (L := L) (R := R) (n := n) (sl := sl) (d := 5) (Int32.ofInt f.i).toInt64 hW (by decide) hf
        have Z21 := F21.1
        have D21 := vr_dec_rf F21 D
        have W21 : vr_fr noP noE I L I21 L21 := vr_fr_trans W (vq_rf_fr F21 (by decide))
        have Y21 : vb_toS (vr_S L21 5) = vx_just f.i := by rw [S21, vb_toS_just]; exact vx_just_32 _ _ (vr_dQ D)
        have Yt21 : vb_tight (vb_toS (vr_S L21 5)) := by rw [Y21]; exact vb_just_tight _
        refine jv_Wp.lift (fun _ Kz => jv_Ev.c jv_i287 (pc' := 148) (S' := []) (G1 := (jv_H K I21 L21 R)) jv_i217 [.ref 208, .int (5 : Int32), .long (Int32.ofInt f.i).toInt64] rfl rfl rfl rfl (jv_cal rfl (jv_H_at (jv_rwK hW 208 11 7 (by decide))) rfl rfl) rfl H21 rfl rfl Kz) ?_
        refine jv_Wp.lift (fun _ Kz => jv_Ev.steps jv_i287 1 (pc' := 149) (l' := [(3, .int (0 : Int32)), (2, .int (vl_I w12)), (1, .int (1 : Int32)), (0, .ref 196)]) (st' := [.ref 196]) rfl Kz) ?_
        refine jv_Wp.lift (fun _ Kz => jv_Ev.c jv_i287 (pc' := 152) (S' := [.int (vl_I f.kind)]) jv_i257 [.ref 196] rfl rfl rfl rfl (jv_cal rfl (jv_H_at (jv_rwK hW 196 12 24 (by decide))) rfl rfl) rfl (vq_kind f hW D21) rfl rfl Kz) ?_
        refine jv_Wp.lift (fun _ Kz => jv_Ev.steps jv_i287 1 (pc' := 153) (l' := [(3, .int (0 : Int32)), (2, .int (vl_I w12)), (1, .int (1 : Int32)), (0, .ref 196)]) (st' := [.int (4 : Int32), .int (vl_I f.kind)]) rfl Kz) ?_
        refine jv_Wp.cnd jv_i287 (pt := 167) (pe := 156) (p := (¬ (vl_I f.kind) = (4 : Int32))) (q := (¬ (vl_I f.kind) = (4 : Int32))) rfl jv_bc_ne rfl rfl Iff.rfl (fun _ => ?_) (fun hz => absurd (fun z => absurd (z.symm.trans (Classical.not_not.mp h4)) (by decide)) hz)
        refine jv_Wp.lift (fun _ Kz => jv_Ev.steps jv_i287 1 (pc' := 168) (l' := [(3, .int (0 : Int32)), (2, .int (vl_I w12)), (1, .int (1 : Int32)), (0, .ref 196)]) (st' := [.int (1 : Int32)]) rfl Kz) ?_
        refine jv_Wp.lift (fun _ Kz => jv_Ev.br jv_i287 (pc' := 183) (st' := []) rfl (by rfl) Kz) ?_
        refine jv_Wp.lift (fun _ Kz => jv_Ev.steps jv_i287 1 (pc' := 184) (l' := [(3, .int (0 : Int32)), (2, .int (vl_I w12)), (1, .int (1 : Int32)), (0, .ref 196)]) (st' := [.int (0 : Int32)]) rfl Kz) ?_
        refine jv_Wp.lift (fun _ Kz => jv_Ev.br jv_i287 (pc' := 199) (st' := []) rfl (by rfl) Kz) ?_
        refine jv_Wp.lift (fun _ Kz => jv_Ev.steps jv_i287 4 (pc' := 208) (l' := [(4, .int (1 : Int32)), (3, .int (0 : Int32)), (2, .int (vl_I w12)), (1, .int (1 : Int32)), (0, .ref 196)]) (st' := [.int (1 : Int32)]) rfl Kz) ?_
        refine jv_Wp.lift (fun _ Kz => jv_Ev.br jv_i287 (pc' := 211) (st' := []) rfl (by rfl) Kz) ?_
        refine jv_Wp.lift (fun _ Kz => jv_Ev.steps jv_i287 3 (pc' := 216) (l' := [(4, .int (1 : Int32)), (3, .int (0 : Int32)), (2, .int (vl_I w12)), (1, .int (1 : Int32)), (0, .ref 196)]) (st' := [.ref 196, .int (1024 : Int32), .ref 196]) rfl Kz) ?_
        refine jv_Wp.lift (fun _ Kz => jv_Ev.m jv_i287 (pc' := 219) (st' := [.int (vl_I f.d), .int (1024 : Int32), .ref 196]) (G' := (jv_H K I21 L21 R)) rfl rfl (jv_m_getI (jv_rwK hW 196 12 24 (by decide)) rfl rfl D21.2.1) Kz) ?_
        refine jv_Wp.lift (fun _ Kz => jv_Ev.c jv_i287 (pc' := 222) (S' := [.int (vl_I (8 + (76800 + f.d))), .ref 196]) jv_i254 [.int (1024 : Int32), .int (vl_I f.d)] rfl rfl rfl rfl rfl rfl (vq_row 1024 f.d) rfl rfl Kz) ?_
        refine jv_Wp.lift (fun _ Kz => jv_Ev.steps jv_i287 1 (pc' := 223) (l' := [(4, .int (1 : Int32)), (3, .int (0 : Int32)), (2, .int (vl_I w12)), (1, .int (1 : Int32)), (0, .ref 196)]) (st' := [.int (0 : Int32), .int (vl_I (8 + (76800 + f.d))), .ref 196]) rfl Kz) ?_
        refine jv_Wp.lift (fun _ Kz => jv_Ev.br jv_i287 (pc' := 239) (st' := [.int (vl_I (8 + (76800 + f.d))), .ref 196]) rfl (by rfl) Kz) ?_
        refine jv_Wp.lift (fun _ Kz => jv_Ev.steps jv_i287 1 (pc' := 240) (l' := [(4, .int (1 : Int32)), (3, .int (0 : Int32)), (2, .int (vl_I w12)), (1, .int (1 : Int32)), (0, .ref 196)]) (st' := [.int (5 : Int32), .int (vl_I (8 + (76800 + f.d))), .ref 196]) rfl Kz) ?_
        have md7 : f.kind = 7 := (vr_sm (v := 7) (by omega) (by decide) rfl).mp (Classical.not_not.mp h4)
        have mO0 : f.o = 0 := (vr_dO D).symm.trans (congrArg Int32.toInt (Classical.not_not.mp h2))
        have fe : w12 ≤ 0 := (vl_I_le (b := 0) (by omega) (by decide)).mp h1
        obtain ⟨I22, L22, H22, T22, O22, F22⟩ := vq_reckonA70 (I := I21) (L := L21) (R := R) (n := n) (sl := sl) f (8 + (76800 + f.d)) 5 hW Z21 D21 hfa (by omega) (by omega) (by omega) (by omega) (by omega) ((congrArg vb_toS (vr_fr_6 W21)).trans hZ6) (by omega) mO0 Yt21 hN
        refine jv_Wp.lift (fun _ Kz => jv_Ev.c jv_i287 (pc' := 243) (S' := []) (G1 := (jv_H K I22 L22 R)) jv_i285 [.ref 196, .int (vl_I (8 + (76800 + f.d))), .int (5 : Int32)] rfl rfl rfl rfl (jv_cal rfl (jv_H_at (jv_rwK hW 196 12 24 (by decide))) rfl rfl) rfl H22 rfl rfl Kz) ?_
        refine jv_Wp.lift (fun _ Kz => jv_Ev.steps jv_i287 1 (pc' := 244) (l' := [(4, .int (1 : Int32)), (3, .int (0 : Int32)), (2, .int (vl_I w12)), (1, .int (1 : Int32)), (0, .ref 196)]) (st' := [.int (0 : Int32)]) rfl Kz) ?_
        refine jv_Wp.of (jv_Ev.ret jv_i287 rfl rfl) ?_
        rw [hQ]
        have md7 : f.kind = 7 := (vr_sm (v := 7) (by omega) (by decide) rfl).mp (Classical.not_not.mp h4)
        have mO0 : f.o = 0 := (vr_dO D).symm.trans (congrArg Int32.toInt (Classical.not_not.mp h2))
        have fe : w12 ≤ 0 := (vl_I_le (b := 0) (by omega) (by decide)).mp h1
        have a1 : ¬ vx_a1 f (vr_T I L (76800 + f.d)) (vt_num (vx_just f.i)) := by unfold vx_a1; rw [hd (), hs ()]; omega
        have e := vx_ar2 a1 (show f.n = 11 ∧ f.kind = 7 ∧ f.o = 0 by omega)
        have ev : vx_reckon f (vb_toS (vr_S L21 (8 + (76800 + f.d)))) (vb_toS (vr_S L21 5)) = vx_just f.i := by rw [vx_reckon_id hN md7 mO0 Yt21, Y21]
        have g := vq_arE (L := L) (f := f) (c := 0) hd75 oa (by rw [eD, eY]; exact congrArg Prod.fst e) (fun _ => ⟨by rw [eD, eY, e, T22, ev], O22⟩) (vr_fr_trans (vr_fr_P W21 (fun _ z => z.elim)) F22)
        exact ⟨_, _, by rw [g.1]; rfl, g.2, vr_fr_trans (vr_fr_P W21 (fun _ z => z.elim)) F22⟩
  · refine jv_Wp.lift (fun _ Kz => jv_Ev.steps jv_i287 1 (pc' := 68) (l' := [(2, .int (vl_I w12)), (1, .int (1 : Int32)), (0, .ref 196)]) (st' := [.int (vl_I w12)]) rfl Kz) ?_
    refine jv_Wp.of (jv_Ev.ret jv_i287 rfl rfl) ?_
    rw [hQ]
    have fe : ¬ w12 ≤ 0 := fun z => h1 ((vl_I_le (b := 0) (by omega) (by decide)).mpr z)
    have a1 : vx_a1 f (vr_T I L (76800 + f.d)) (vt_num (vx_just f.i)) := by unfold vx_a1; rw [hd (), hs ()]; omega
    have c1 : w12 = 1 := by omega
    have e := vx_ar1 a1
    have g := vq_arE (L := L) (f := f) (c := 1) hd75 oa (by rw [eD, eY]; exact congrArg Prod.fst e) (fun z => absurd z (by decide)) (vr_fr_refl hf)
    exact ⟨_, _, by rw [g.1]; rw [c1], g.2, vr_fr_refl hf⟩
set_option maxRecDepth 8000 in
theorem vq_arithR13 {K : Nat → Option (Nat × Nat)} {I : Nat → Nat → Int32} {L : Nat → Nat → Int64} {R : Nat → Nat → Value} (f : vf_F) (hW : jv_rW K R) (hf : vr_fl I) (D : vr_dec I f) (hfa : vf_ar f) (hk47 : f.kind = 4 ∨ f.kind = 7) (hd11 : f.d < 11) (hs11 : f.s < 11) (oa : vr_okA I 1024) (tA : ∀ n, n < 75 → vt_ok (vr_T I L (76800 + n))) (gA : ∀ n, n < 75 → vt_g (vr_T I L (76800 + n))) (hZ6 : vb_toS (vr_S L 6) = vb_just 0) (hb : f.bit3 = true) (hN : f.n = 13) {n sl : Nat} : ∃ I1 L1, jv_Ms 287 [.ref 196] (jv_H K I L R) n sl (some (.int (vl_I (vx_arith f (vr_A I L 1024)).1)), jv_H K I1 L1 R, n, sl) ∧ ((vx_arith f (vr_A I L 1024)).1 = 0 → vr_A I1 L1 1024 = (vx_arith f (vr_A I L 1024)).2 ∧ vr_okA I1 1024) ∧ vr_fr (fun x => x = 76800 + f.d) noE I L I1 L1 := by
  obtain ⟨Q, hQ⟩ : ∃ Q : jv_R → Prop, Q = fun X => ∃ I1 L1, X = (some (.int (vl_I (vx_arith f (vr_A I L 1024)).1)), jv_H K I1 L1 R, n, sl) ∧ ((vx_arith f (vr_A I L 1024)).1 = 0 → vr_A I1 L1 1024 = (vx_arith f (vr_A I L 1024)).2 ∧ vr_okA I1 1024) ∧ vr_fr (fun x => x = 76800 + f.d) noE I L I1 L1 := ⟨_, rfl⟩
  suffices h : jv_Wp 287 0 [(0, .ref 196)] [] (jv_H K I L R) n sl Q by
    rw [hQ] at h
    obtain ⟨X, h, I1, L1, e, h'⟩ := h
    subst e
    exact ⟨I1, L1, h, h'⟩
  have hn16 := vr_dn D
  have hk8 := vr_dk D
  have hd75 : f.d < 75 := by omega
  have hs75 : f.s < 75 := by omega
  have okd : vr_ok I (76800 + f.d) f.d := oa f.d hd75
  have oks : vr_ok I (76800 + f.s) f.s := oa f.s hs75
  obtain ⟨zd, hd⟩ : ∃ x : Nat, ∀ _ : Unit, (vr_T I L (76800 + f.d)).sort = x := ⟨_, fun _ => rfl⟩
  obtain ⟨zs, hs⟩ : ∃ x : Nat, ∀ _ : Unit, (vr_T I L (76800 + f.s)).sort = x := ⟨_, fun _ => rfl⟩
  obtain ⟨rd, hrd⟩ : ∃ x : Nat, ∀ _ : Unit, vr_rd (I 205 (76800 + f.d)) = x := ⟨_, fun _ => rfl⟩
  obtain ⟨rs, hrs⟩ : ∃ x : Nat, ∀ _ : Unit, vr_rd (I 205 (76800 + f.s)) = x := ⟨_, fun _ => rfl⟩
  have rdd : (zd = 0 → rd = 1) ∧ (zd ≠ 0 → rd = 0) := by rw [← hd (), ← hrd ()]; exact vr_rd_f okd hd11
  have rds : (zs = 0 → rs = 1) ∧ (zs ≠ 0 → rs = 0) := by rw [← hs (), ← hrs ()]; exact vr_rd_f oks hs11
  have W : vr_fr noP noE I L I L := vr_fr_refl hf
  have q0 := hfa.1
  have q8 := hfa.2.1
  have q11 := hfa.2.2.2.1
  have eD : (vr_A I L 1024).1 f.d = (vr_T I L (76800 + f.d)) := vr_A1 hd75
  have eY : vx_y f (vr_A I L 1024) = (vr_T I L (76800 + f.s)) := (if_pos hb).trans (vr_A1 hs75)
  have n8 : f.n ≠ 8 := fun z => by have := q8 z; rw [hb] at this; exact absurd this (by decide)
  refine jv_Wp.lift (fun _ Kz => jv_Ev.steps jv_i287 1 (pc' := 1) (l' := [(0, .ref 196)]) (st' := [.ref 196]) rfl Kz) ?_
  refine jv_Wp.lift (fun _ Kz => jv_Ev.c jv_i287 (pc' := 4) (S' := [.int (vl_I f.n)]) jv_i258 [.ref 196] rfl rfl rfl rfl (jv_cal rfl (jv_H_at (jv_rwK hW 196 12 24 (by decide))) rfl rfl) rfl (vq_n f hW D) rfl rfl Kz) ?_
  refine jv_Wp.lift (fun _ Kz => jv_Ev.steps jv_i287 1 (pc' := 6) (l' := [(0, .ref 196)]) (st' := [.int (11 : Int32), .int (vl_I f.n)]) rfl Kz) ?_
  refine jv_Wp.cnd jv_i287 (pt := 13) (pe := 9) (p := (¬ (vl_I f.n) = (11 : Int32))) (q := (¬ (vl_I f.n) = (11 : Int32))) rfl jv_bc_ne rfl rfl Iff.rfl (fun _ => ?_) (fun hz => absurd (fun z => by have y := (vr_sm (v := 11) (by omega) (by decide) rfl).mp z; omega) hz)
  refine jv_Wp.lift (fun _ Kz => jv_Ev.steps jv_i287 3 (pc' := 16) (l' := [(1, .int (0 : Int32)), (0, .ref 196)]) (st' := [.int (0 : Int32)]) rfl Kz) ?_
  refine jv_Wp.lift (fun _ Kz => jv_Ev.br jv_i287 (pc' := 23) (st' := []) rfl (by rfl) Kz) ?_
  refine jv_Wp.lift (fun _ Kz => jv_Ev.steps jv_i287 2 (pc' := 25) (l' := [(1, .int (0 : Int32)), (0, .ref 196)]) (st' := [.ref 196, .ref 196]) rfl Kz) ?_
  refine jv_Wp.lift (fun _ Kz => jv_Ev.m jv_i287 (pc' := 28) (st' := [.int (vl_I f.d), .ref 196]) (G' := (jv_H K I L R)) rfl rfl (jv_m_getI (jv_rwK hW 196 12 24 (by decide)) rfl rfl D.2.1) Kz) ?_
  have Hr23 := vq_readsW (n := n) (sl := sl) W f.d hW (by omega)
  rw [hrd ()] at Hr23
  refine jv_Wp.lift (fun _ Kz => jv_Ev.c jv_i287 (pc' := 31) (S' := [.int (vl_I rd)]) jv_i283 [.ref 196, .int (vl_I f.d)] rfl rfl rfl rfl (jv_cal rfl (jv_H_at (jv_rwK hW 196 12 24 (by decide))) rfl rfl) rfl Hr23 rfl rfl Kz) ?_
  refine jv_Wp.lift (fun _ Kz => jv_Ev.steps jv_i287 1 (pc' := 32) (l' := [(1, .int (0 : Int32)), (0, .ref 196)]) (st' := [.ref 196, .int (vl_I rd)]) rfl Kz) ?_
  refine jv_Wp.lift (fun _ Kz => jv_Ev.c jv_i287 (pc' := 35) (S' := [.int (vr_b f.bit3), .int (vl_I rd)]) jv_i259 [.ref 196] rfl rfl rfl rfl (jv_cal rfl (jv_H_at (jv_rwK hW 196 12 24 (by decide))) rfl rfl) rfl (vq_bit3 f hW D) rfl rfl Kz) ?_
  refine jv_Wp.cnd jv_i287 (pt := 58) (pe := 38) (p := ((vr_b f.bit3) = 0)) (q := ((vr_b f.bit3) = 0)) rfl jv_bi_eq rfl rfl Iff.rfl (fun hz => absurd hz (by rw [hb]; decide)) (fun _ => ?_)
  refine jv_Wp.lift (fun _ Kz => jv_Ev.steps jv_i287 1 (pc' := 39) (l' := [(1, .int (0 : Int32)), (0, .ref 196)]) (st' := [.ref 196, .int (vl_I rd)]) rfl Kz) ?_
  refine jv_Wp.lift (fun _ Kz => jv_Ev.c jv_i287 (pc' := 42) (S' := [.int (vl_I f.n), .int (vl_I rd)]) jv_i258 [.ref 196] rfl rfl rfl rfl (jv_cal rfl (jv_H_at (jv_rwK hW 196 12 24 (by decide))) rfl rfl) rfl (vq_n f hW D) rfl rfl Kz) ?_
  refine jv_Wp.lift (fun _ Kz => jv_Ev.steps jv_i287 1 (pc' := 44) (l' := [(1, .int (0 : Int32)), (0, .ref 196)]) (st' := [.int (13 : Int32), .int (vl_I f.n), .int (vl_I rd)]) rfl Kz) ?_
  refine jv_Wp.cnd jv_i287 (pt := 58) (pe := 47) (p := ((vl_I f.n) = (13 : Int32))) (q := ((vl_I f.n) = (13 : Int32))) rfl jv_bc_eq rfl rfl Iff.rfl (fun _ => ?_) (fun hz => absurd ((vr_sm (v := 13) (by omega) (by decide) rfl).mpr hN) hz)
  refine jv_Wp.lift (fun _ Kz => jv_Ev.steps jv_i287 1 (pc' := 59) (l' := [(1, .int (0 : Int32)), (0, .ref 196)]) (st' := [.int (0 : Int32), .int (vl_I rd)]) rfl Kz) ?_
  obtain ⟨w24, hq24⟩ : ∃ x : Nat, ∀ _ : Unit, vx_fst rd 0 = x := ⟨_, fun _ => rfl⟩
  have fq : (rd = 0 → w24 = 0) ∧ (0 = 0 → w24 = rd) ∧ (w24 = rd ∨ w24 = 0) := by rw [← hq24 ()]; exact vx_fst_f rd 0
  have Hf24 := vq_first (I := I) (L := L) (K := K) (R := R) (n := n) (sl := sl) rd 0 (by omega) (by omega)
  rw [hq24 ()] at Hf24
  refine jv_Wp.lift (fun _ Kz => jv_Ev.c jv_i287 (pc' := 62) (S' := [.int (vl_I w24)]) jv_i282 [.int (vl_I rd), .int (0 : Int32)] rfl rfl rfl rfl rfl rfl Hf24 rfl rfl Kz) ?_
  refine jv_Wp.lift (fun _ Kz => jv_Ev.steps jv_i287 2 (pc' := 64) (l' := [(2, .int (vl_I w24)), (1, .int (0 : Int32)), (0, .ref 196)]) (st' := [.int (vl_I w24)]) rfl Kz) ?_
  refine jv_Wp.cnd jv_i287 (pt := 69) (pe := 67) (p := ((vl_I w24) ≤ 0)) (q := ((vl_I w24) ≤ 0)) rfl jv_bi_le rfl rfl Iff.rfl (fun h1 => ?_) (fun h1 => ?_)
  · refine jv_Wp.lift (fun _ Kz => jv_Ev.steps jv_i287 1 (pc' := 70) (l' := [(2, .int (vl_I w24)), (1, .int (0 : Int32)), (0, .ref 196)]) (st' := [.ref 196]) rfl Kz) ?_
    refine jv_Wp.lift (fun _ Kz => jv_Ev.c jv_i287 (pc' := 73) (S' := [.int (vr_b f.bit3)]) jv_i259 [.ref 196] rfl rfl rfl rfl (jv_cal rfl (jv_H_at (jv_rwK hW 196 12 24 (by decide))) rfl rfl) rfl (vq_bit3 f hW D) rfl rfl Kz) ?_
    refine jv_Wp.cnd jv_i287 (pt := 89) (pe := 76) (p := ((vr_b f.bit3) = 0)) (q := ((vr_b f.bit3) = 0)) rfl jv_bi_eq rfl rfl Iff.rfl (fun hz => absurd hz (by rw [hb]; decide)) (fun _ => ?_)
    refine jv_Wp.lift (fun _ Kz => jv_Ev.steps jv_i287 1 (pc' := 77) (l' := [(2, .int (vl_I w24)), (1, .int (0 : Int32)), (0, .ref 196)]) (st' := [.ref 196]) rfl Kz) ?_
    refine jv_Wp.lift (fun _ Kz => jv_Ev.c jv_i287 (pc' := 80) (S' := [.int (vl_I f.n)]) jv_i258 [.ref 196] rfl rfl rfl rfl (jv_cal rfl (jv_H_at (jv_rwK hW 196 12 24 (by decide))) rfl rfl) rfl (vq_n f hW D) rfl rfl Kz) ?_
    refine jv_Wp.lift (fun _ Kz => jv_Ev.steps jv_i287 1 (pc' := 82) (l' := [(2, .int (vl_I w24)), (1, .int (0 : Int32)), (0, .ref 196)]) (st' := [.int (13 : Int32), .int (vl_I f.n)]) rfl Kz) ?_
    refine jv_Wp.cnd jv_i287 (pt := 89) (pe := 85) (p := ((vl_I f.n) = (13 : Int32))) (q := ((vl_I f.n) = (13 : Int32))) rfl jv_bc_eq rfl rfl Iff.rfl (fun _ => ?_) (fun hz => absurd ((vr_sm (v := 13) (by omega) (by decide) rfl).mpr hN) hz)
    refine jv_Wp.lift (fun _ Kz => jv_Ev.steps jv_i287 3 (pc' := 92) (l' := [(3, .int (0 : Int32)), (2, .int (vl_I w24)), (1, .int (0 : Int32)), (0, .ref 196)]) (st' := [.int (0 : Int32)]) rfl Kz) ?_
    refine jv_Wp.lift (fun _ Kz => jv_Ev.br jv_i287 (pc' := 135) (st' := []) rfl (by rfl) Kz) ?_
    refine jv_Wp.lift (fun _ Kz => jv_Ev.steps jv_i287 1 (pc' := 136) (l' := [(3, .int (0 : Int32)), (2, .int (vl_I w24)), (1, .int (0 : Int32)), (0, .ref 196)]) (st' := [.ref 196]) rfl Kz) ?_
    refine jv_Wp.lift (fun _ Kz => jv_Ev.m jv_i287 (pc' := 139) (st' := [.ref 208]) (G' := (jv_H K I L R)) rfl rfl (jv_m_getR (jv_rwK hW 196 12 24 (by decide)) rfl rfl (jv_rwR hW 196 16 208 (by decide))) Kz) ?_
    refine jv_Wp.lift (fun _ Kz => jv_Ev.steps jv_i287 2 (pc' := 141) (l' := [(3, .int (0 : Int32)), (2, .int (vl_I w24)), (1, .int (0 : Int32)), (0, .ref 196)]) (st' := [.ref 196, .int (5 : Int32), .ref 208]) rfl Kz) ?_
    refine jv_Wp.lift (fun _ Kz => jv_Ev.m jv_i287 (pc' := 144) (st' := [.int (Int32.ofInt f.i), .int (5 : Int32), .ref 208]) (G' := (jv_H K I L R)) rfl rfl (jv_m_getI (jv_rwK hW 196 12 24 (by decide)) rfl rfl (vr_dJ D)) Kz) ?_
    refine jv_Wp.lift (fun _ Kz => jv_Ev.steps jv_i287 1 (pc' := 145) (l' := [(3, .int (0 : Int32)), (2, .int (vl_I w24)), (1, .int (0 : Int32)), (0, .ref 196)]) (st' := [.long (Int32.ofInt f.i).toInt64, .int (5 : Int32), .ref 208]) rfl Kz) ?_
    obtain ⟨I25, L25, H25, S25, F25⟩ := vq_single (I := I) (L := L) (R := R) (n := n) (sl := sl) (d := 5) (Int32.ofInt f.i).toInt64 hW (by decide) hf
    have Z25 := F25.1
    have D25 := vr_dec_rf F25 D
    have W25 : vr_fr noP noE I L I25 L25 := vr_fr_trans W (vq_rf_fr F25 (by decide))
    have Y25 : vb_toS (vr_S L25 5) = vx_just f.i := by rw [S25, vb_toS_just]; exact vx_just_32 _ _ (vr_dQ D)
    have Yt25 : vb_tight (vb_toS (vr_S L25 5)) := by rw [Y25]; exact vb_just_tight _
    refine jv_Wp.lift (fun _ Kz => jv_Ev.c jv_i287 (pc' := 148) (S' := []) (G1 := (jv_H K I25 L25 R)) jv_i217 [.ref 208, .int (5 : Int32), .long (Int32.ofInt f.i).toInt64] rfl rfl rfl rfl (jv_cal rfl (jv_H_at (jv_rwK hW 208 11 7 (by decide))) rfl rfl) rfl H25 rfl rfl Kz) ?_
    refine jv_Wp.lift (fun _ Kz => jv_Ev.steps jv_i287 1 (pc' := 149) (l' := [(3, .int (0 : Int32)), (2, .int (vl_I w24)), (1, .int (0 : Int32)), (0, .ref 196)]) (st' := [.ref 196]) rfl Kz) ?_
    refine jv_Wp.lift (fun _ Kz => jv_Ev.c jv_i287 (pc' := 152) (S' := [.int (vl_I f.kind)]) jv_i257 [.ref 196] rfl rfl rfl rfl (jv_cal rfl (jv_H_at (jv_rwK hW 196 12 24 (by decide))) rfl rfl) rfl (vq_kind f hW D25) rfl rfl Kz) ?_
    refine jv_Wp.lift (fun _ Kz => jv_Ev.steps jv_i287 1 (pc' := 153) (l' := [(3, .int (0 : Int32)), (2, .int (vl_I w24)), (1, .int (0 : Int32)), (0, .ref 196)]) (st' := [.int (4 : Int32), .int (vl_I f.kind)]) rfl Kz) ?_
    refine jv_Wp.cnd jv_i287 (pt := 167) (pe := 156) (p := (¬ (vl_I f.kind) = (4 : Int32))) (q := (¬ (vl_I f.kind) = (4 : Int32))) rfl jv_bc_ne rfl rfl Iff.rfl (fun h2 => ?_) (fun h2 => ?_)
    · refine jv_Wp.lift (fun _ Kz => jv_Ev.steps jv_i287 1 (pc' := 168) (l' := [(3, .int (0 : Int32)), (2, .int (vl_I w24)), (1, .int (0 : Int32)), (0, .ref 196)]) (st' := [.int (0 : Int32)]) rfl Kz) ?_
      refine jv_Wp.lift (fun _ Kz => jv_Ev.br jv_i287 (pc' := 171) (st' := []) rfl (by rfl) Kz) ?_
      refine jv_Wp.lift (fun _ Kz => jv_Ev.steps jv_i287 2 (pc' := 173) (l' := [(3, .int (0 : Int32)), (2, .int (vl_I w24)), (1, .int (0 : Int32)), (0, .ref 196)]) (st' := [.ref 196, .ref 196]) rfl Kz) ?_
      refine jv_Wp.lift (fun _ Kz => jv_Ev.m jv_i287 (pc' := 176) (st' := [.int (vl_I f.d), .ref 196]) (G' := (jv_H K I25 L25 R)) rfl rfl (jv_m_getI (jv_rwK hW 196 12 24 (by decide)) rfl rfl D25.2.1) Kz) ?_
      refine jv_Wp.lift (fun _ Kz => jv_Ev.c jv_i287 (pc' := 179) (S' := [.int (I 205 (76800 + f.d))]) jv_i271 [.ref 196, .int (vl_I f.d)] rfl rfl rfl rfl (jv_cal rfl (jv_H_at (jv_rwK hW 196 12 24 (by decide))) rfl rfl) rfl (vq_sortOfW W25 f.d hW (by omega)) rfl rfl Kz) ?_
      refine jv_Wp.lift (fun _ Kz => jv_Ev.steps jv_i287 1 (pc' := 180) (l' := [(3, .int (0 : Int32)), (2, .int (vl_I w24)), (1, .int (0 : Int32)), (0, .ref 196)]) (st' := [.int (1 : Int32), .int (I 205 (76800 + f.d))]) rfl Kz) ?_
      refine jv_Wp.cnd jv_i287 (pt := 203) (pe := 183) (p := (¬ (I 205 (76800 + f.d)) = (1 : Int32))) (q := (¬ (I 205 (76800 + f.d)) = (1 : Int32))) rfl jv_bc_ne rfl rfl Iff.rfl (fun h3 => ?_) (fun h3 => ?_)
      · refine jv_Wp.lift (fun _ Kz => jv_Ev.steps jv_i287 3 (pc' := 208) (l' := [(4, .int (0 : Int32)), (3, .int (0 : Int32)), (2, .int (vl_I w24)), (1, .int (0 : Int32)), (0, .ref 196)]) (st' := [.int (0 : Int32)]) rfl Kz) ?_
        refine jv_Wp.lift (fun _ Kz => jv_Ev.br jv_i287 (pc' := 245) (st' := []) rfl (by rfl) Kz) ?_
        refine jv_Wp.lift (fun _ Kz => jv_Ev.steps jv_i287 1 (pc' := 246) (l' := [(4, .int (0 : Int32)), (3, .int (0 : Int32)), (2, .int (vl_I w24)), (1, .int (0 : Int32)), (0, .ref 196)]) (st' := [.ref 196]) rfl Kz) ?_
        refine jv_Wp.lift (fun _ Kz => jv_Ev.c jv_i287 (pc' := 249) (S' := [.int (vl_I f.kind)]) jv_i257 [.ref 196] rfl rfl rfl rfl (jv_cal rfl (jv_H_at (jv_rwK hW 196 12 24 (by decide))) rfl rfl) rfl (vq_kind f hW D25) rfl rfl Kz) ?_
        refine jv_Wp.lift (fun _ Kz => jv_Ev.steps jv_i287 1 (pc' := 250) (l' := [(4, .int (0 : Int32)), (3, .int (0 : Int32)), (2, .int (vl_I w24)), (1, .int (0 : Int32)), (0, .ref 196)]) (st' := [.int (4 : Int32), .int (vl_I f.kind)]) rfl Kz) ?_
        refine jv_Wp.cnd jv_i287 (pt := 261) (pe := 253) (p := ((vl_I f.kind) = (4 : Int32))) (q := ((vl_I f.kind) = (4 : Int32))) rfl jv_bc_eq rfl rfl Iff.rfl (fun hz => absurd hz h2) (fun _ => ?_)
        refine jv_Wp.lift (fun _ Kz => jv_Ev.steps jv_i287 1 (pc' := 254) (l' := [(4, .int (0 : Int32)), (3, .int (0 : Int32)), (2, .int (vl_I w24)), (1, .int (0 : Int32)), (0, .ref 196)]) (st' := [.ref 196]) rfl Kz) ?_
        refine jv_Wp.lift (fun _ Kz => jv_Ev.c jv_i287 (pc' := 257) (S' := [.int (vl_I f.n)]) jv_i258 [.ref 196] rfl rfl rfl rfl (jv_cal rfl (jv_H_at (jv_rwK hW 196 12 24 (by decide))) rfl rfl) rfl (vq_n f hW D25) rfl rfl Kz) ?_
        refine jv_Wp.lift (fun _ Kz => jv_Ev.steps jv_i287 1 (pc' := 258) (l' := [(4, .int (0 : Int32)), (3, .int (0 : Int32)), (2, .int (vl_I w24)), (1, .int (0 : Int32)), (0, .ref 196)]) (st' := [.int (1 : Int32), .int (vl_I f.n)]) rfl Kz) ?_
        refine jv_Wp.cnd jv_i287 (pt := 263) (pe := 261) (p := ((vl_I f.n) ≤ (1 : Int32))) (q := ((vl_I f.n) ≤ (1 : Int32))) rfl jv_bc_le rfl rfl Iff.rfl (fun hz => absurd hz (fun z => by have y := (vl_I_le (b := 1) (by omega) (by decide)).mp z; omega)) (fun _ => ?_)
        refine jv_Wp.lift (fun _ Kz => jv_Ev.steps jv_i287 1 (pc' := 262) (l' := [(4, .int (0 : Int32)), (3, .int (0 : Int32)), (2, .int (vl_I w24)), (1, .int (0 : Int32)), (0, .ref 196)]) (st' := [.int (2 : Int32)]) rfl Kz) ?_
        refine jv_Wp.of (jv_Ev.ret jv_i287 rfl rfl) ?_
        rw [hQ]
        have md4 : ¬ f.kind = 4 := (fun z => h2 ((vr_sm (v := 4) (by omega) (by decide) rfl).mpr z))
        have td1 : ¬ zd = 1 := fun z => h3 ((vr_is 1 (by decide) okd).mp ((hd ()).trans z))
        have fe : w24 ≤ 0 := (vl_I_le (b := 0) (by omega) (by decide)).mp h1
        have a1 : ¬ vx_a1 f (vr_T I L (76800 + f.d)) (vr_T I L (76800 + f.s)) := by unfold vx_a1; rw [hd (), hs ()]; omega
        have a2 : ¬ (f.n = 11 ∧ f.kind = 7 ∧ f.o = 0) := by omega
        have a3 : vx_a3 f (vr_T I L (76800 + f.d)) (vr_T I L (76800 + f.s)) := by unfold vx_a3; rw [hd (), hs ()]; omega
        have e : vx_ar f (vr_T I L (76800 + f.d)) (vr_T I L (76800 + f.s)) = (2, (vr_T I L (76800 + f.d))) := by
          by_cases c : f.kind = 7 ∧ (f.n = 0 ∨ f.n = 1)
          · exact (vx_ar3 a1 a2 a3 c).trans (vx_move2 (by rw [hd (), hs ()]; omega) (by rw [hd (), hs ()]; omega))
          · exact vx_ar4 a1 a2 a3 c
        have g := vq_arE (L := L) (f := f) (c := 2) hd75 oa (by rw [eD, eY]; exact congrArg Prod.fst e) (fun z => absurd z (by decide)) (vr_fr_P W25 (fun _ z => z.elim))
        exact ⟨_, _, by rw [g.1]; rfl, g.2, vr_fr_P W25 (fun _ z => z.elim)⟩
      · refine jv_Wp.lift (fun _ Kz => jv_Ev.steps jv_i287 1 (pc' := 184) (l' := [(3, .int (0 : Int32)), (2, .int (vl_I w24)), (1, .int (0 : Int32)), (0, .ref 196)]) (st' := [.int (0 : Int32)]) rfl Kz) ?_
        refine jv_Wp.lift (fun _ Kz => jv_Ev.br jv_i287 (pc' := 199) (st' := []) rfl (by rfl) Kz) ?_
        refine jv_Wp.lift (fun _ Kz => jv_Ev.steps jv_i287 4 (pc' := 208) (l' := [(4, .int (1 : Int32)), (3, .int (0 : Int32)), (2, .int (vl_I w24)), (1, .int (0 : Int32)), (0, .ref 196)]) (st' := [.int (1 : Int32)]) rfl Kz) ?_
        refine jv_Wp.lift (fun _ Kz => jv_Ev.br jv_i287 (pc' := 211) (st' := []) rfl (by rfl) Kz) ?_
        refine jv_Wp.lift (fun _ Kz => jv_Ev.steps jv_i287 3 (pc' := 216) (l' := [(4, .int (1 : Int32)), (3, .int (0 : Int32)), (2, .int (vl_I w24)), (1, .int (0 : Int32)), (0, .ref 196)]) (st' := [.ref 196, .int (1024 : Int32), .ref 196]) rfl Kz) ?_
        refine jv_Wp.lift (fun _ Kz => jv_Ev.m jv_i287 (pc' := 219) (st' := [.int (vl_I f.d), .int (1024 : Int32), .ref 196]) (G' := (jv_H K I25 L25 R)) rfl rfl (jv_m_getI (jv_rwK hW 196 12 24 (by decide)) rfl rfl D25.2.1) Kz) ?_
        refine jv_Wp.lift (fun _ Kz => jv_Ev.c jv_i287 (pc' := 222) (S' := [.int (vl_I (8 + (76800 + f.d))), .ref 196]) jv_i254 [.int (1024 : Int32), .int (vl_I f.d)] rfl rfl rfl rfl rfl rfl (vq_row 1024 f.d) rfl rfl Kz) ?_
        refine jv_Wp.lift (fun _ Kz => jv_Ev.steps jv_i287 1 (pc' := 223) (l' := [(4, .int (1 : Int32)), (3, .int (0 : Int32)), (2, .int (vl_I w24)), (1, .int (0 : Int32)), (0, .ref 196)]) (st' := [.int (0 : Int32), .int (vl_I (8 + (76800 + f.d))), .ref 196]) rfl Kz) ?_
        refine jv_Wp.lift (fun _ Kz => jv_Ev.br jv_i287 (pc' := 239) (st' := [.int (vl_I (8 + (76800 + f.d))), .ref 196]) rfl (by rfl) Kz) ?_
        refine jv_Wp.lift (fun _ Kz => jv_Ev.steps jv_i287 1 (pc' := 240) (l' := [(4, .int (1 : Int32)), (3, .int (0 : Int32)), (2, .int (vl_I w24)), (1, .int (0 : Int32)), (0, .ref 196)]) (st' := [.int (5 : Int32), .int (vl_I (8 + (76800 + f.d))), .ref 196]) rfl Kz) ?_
        have md4 : ¬ f.kind = 4 := (fun z => h2 ((vr_sm (v := 4) (by omega) (by decide) rfl).mpr z))
        have td1 : zd = 1 := (hd ()).symm.trans ((vr_is 1 (by decide) okd).mpr (Classical.not_not.mp h3))
        have fe : w24 ≤ 0 := (vl_I_le (b := 0) (by omega) (by decide)).mp h1
        obtain ⟨I26, L26, H26, T26, O26, F26⟩ := vq_reckonB (I := I25) (L := L25) (R := R) (n := n) (sl := sl) f (8 + (76800 + f.d)) 5 hW Z25 D25 hfa (by omega) (by omega) (by omega) (by omega) (by omega) ((congrArg vb_toS (vr_fr_6 W25)).trans hZ6) (fun _ => by rw [vr_fr_S W25 (fun z => z)]; exact vr_tight okd (tA f.d (by omega)) (by rw [(vr_is 1 (by decide) okd).mp ((hd ()).trans (by omega))]; rfl)) (fun _ _ => Yt25) (by omega)
        refine jv_Wp.lift (fun _ Kz => jv_Ev.c jv_i287 (pc' := 243) (S' := []) (G1 := (jv_H K I26 L26 R)) jv_i285 [.ref 196, .int (vl_I (8 + (76800 + f.d))), .int (5 : Int32)] rfl rfl rfl rfl (jv_cal rfl (jv_H_at (jv_rwK hW 196 12 24 (by decide))) rfl rfl) rfl H26 rfl rfl Kz) ?_
        refine jv_Wp.lift (fun _ Kz => jv_Ev.steps jv_i287 1 (pc' := 244) (l' := [(4, .int (1 : Int32)), (3, .int (0 : Int32)), (2, .int (vl_I w24)), (1, .int (0 : Int32)), (0, .ref 196)]) (st' := [.int (0 : Int32)]) rfl Kz) ?_
        refine jv_Wp.of (jv_Ev.ret jv_i287 rfl rfl) ?_
        rw [hQ]
        have md4 : ¬ f.kind = 4 := (fun z => h2 ((vr_sm (v := 4) (by omega) (by decide) rfl).mpr z))
        have td1 : zd = 1 := (hd ()).symm.trans ((vr_is 1 (by decide) okd).mpr (Classical.not_not.mp h3))
        have fe : w24 ≤ 0 := (vl_I_le (b := 0) (by omega) (by decide)).mp h1
        have a1 : ¬ vx_a1 f (vr_T I L (76800 + f.d)) (vr_T I L (76800 + f.s)) := by unfold vx_a1; rw [hd (), hs ()]; omega
        have a2 : ¬ (f.n = 11 ∧ f.kind = 7 ∧ f.o = 0) := by omega
        have a3 : ¬ vx_a3 f (vr_T I L (76800 + f.d)) (vr_T I L (76800 + f.s)) := by unfold vx_a3; rw [hd (), hs ()]; omega
        have e := vx_ar5 a1 a2 a3
        have ev : vx_reckon f (vb_toS (vr_S L25 (8 + (76800 + f.d)))) (vb_toS (vr_S L25 5)) = vx_reckon f (vr_T I L (76800 + f.d)).val (vr_T I L (76800 + f.s)).val := by
          rw [vx_reckon13 hN _ _ (vr_T I L (76800 + f.s)).val, vr_fr_S W25 (fun z => z)]
          rw [show (vr_T I L (76800 + f.d)).val = (vb_toS (vr_S L (8 + (76800 + f.d)))) from vr_valv (by rw [(vr_is 1 (by decide) okd).mp ((hd ()).trans (by omega))]; rfl)]
        have g := vq_arE (L := L) (f := f) (c := 0) hd75 oa (by rw [eD, eY]; exact congrArg Prod.fst e) (fun _ => ⟨by rw [eD, eY, e, T26, ev], O26⟩) (vr_fr_trans (vr_fr_P W25 (fun _ z => z.elim)) F26)
        exact ⟨_, _, by rw [g.1]; rfl, g.2, vr_fr_trans (vr_fr_P W25 (fun _ z => z.elim)) F26⟩
    · refine jv_Wp.lift (fun _ Kz => jv_Ev.steps jv_i287 1 (pc' := 157) (l' := [(3, .int (0 : Int32)), (2, .int (vl_I w24)), (1, .int (0 : Int32)), (0, .ref 196)]) (st' := [.ref 196]) rfl Kz) ?_
      refine jv_Wp.lift (fun _ Kz => jv_Ev.m jv_i287 (pc' := 160) (st' := [.ref 208]) (G' := (jv_H K I25 L25 R)) rfl rfl (jv_m_getR (jv_rwK hW 196 12 24 (by decide)) rfl rfl (jv_rwR hW 196 16 208 (by decide))) Kz) ?_
      refine jv_Wp.lift (fun _ Kz => jv_Ev.steps jv_i287 3 (pc' := 164) (l' := [(3, .int (0 : Int32)), (2, .int (vl_I w24)), (1, .int (0 : Int32)), (0, .ref 196)]) (st' := [.int (32 : Int32), .int (5 : Int32), .int (5 : Int32), .ref 208]) rfl Kz) ?_
      obtain ⟨I27, L27, H27, S27, F27⟩ := vq_cut (I := I25) (L := L25) (R := R) (n := n) (sl := sl) (a := 5) (d := 5) (m := 32) (by decide) hW (by decide) (by decide) (by decide) (by decide) Z25 Yt25
      have Z27 := F27.1
      have D27 := vr_dec_rf F27 D25
      have W27 : vr_fr noP noE I L I27 L27 := vr_fr_trans W25 (vq_rf_fr F27 (by decide))
      have Y27 : vb_toS (vr_S L27 5) = vx_cut (vx_just f.i) 32 := by rw [S27, vb_toS_toR, Y25]
      have Yt27 : vb_tight (vb_toS (vr_S L27 5)) := by rw [Y27]; exact (vx_cut_in (vb_just_mem _)).1
      refine jv_Wp.lift (fun _ Kz => jv_Ev.c jv_i287 (pc' := 167) (S' := []) (G1 := (jv_H K I27 L27 R)) jv_i219 [.ref 208, .int (5 : Int32), .int (5 : Int32), .int (32 : Int32)] rfl rfl rfl rfl (jv_cal rfl (jv_H_at (jv_rwK hW 208 11 7 (by decide))) rfl rfl) rfl H27 rfl rfl Kz) ?_
      refine jv_Wp.lift (fun _ Kz => jv_Ev.steps jv_i287 1 (pc' := 168) (l' := [(3, .int (0 : Int32)), (2, .int (vl_I w24)), (1, .int (0 : Int32)), (0, .ref 196)]) (st' := [.int (0 : Int32)]) rfl Kz) ?_
      refine jv_Wp.lift (fun _ Kz => jv_Ev.br jv_i287 (pc' := 171) (st' := []) rfl (by rfl) Kz) ?_
      refine jv_Wp.lift (fun _ Kz => jv_Ev.steps jv_i287 2 (pc' := 173) (l' := [(3, .int (0 : Int32)), (2, .int (vl_I w24)), (1, .int (0 : Int32)), (0, .ref 196)]) (st' := [.ref 196, .ref 196]) rfl Kz) ?_
      refine jv_Wp.lift (fun _ Kz => jv_Ev.m jv_i287 (pc' := 176) (st' := [.int (vl_I f.d), .ref 196]) (G' := (jv_H K I27 L27 R)) rfl rfl (jv_m_getI (jv_rwK hW 196 12 24 (by decide)) rfl rfl D27.2.1) Kz) ?_
      refine jv_Wp.lift (fun _ Kz => jv_Ev.c jv_i287 (pc' := 179) (S' := [.int (I 205 (76800 + f.d))]) jv_i271 [.ref 196, .int (vl_I f.d)] rfl rfl rfl rfl (jv_cal rfl (jv_H_at (jv_rwK hW 196 12 24 (by decide))) rfl rfl) rfl (vq_sortOfW W27 f.d hW (by omega)) rfl rfl Kz) ?_
      refine jv_Wp.lift (fun _ Kz => jv_Ev.steps jv_i287 1 (pc' := 180) (l' := [(3, .int (0 : Int32)), (2, .int (vl_I w24)), (1, .int (0 : Int32)), (0, .ref 196)]) (st' := [.int (1 : Int32), .int (I 205 (76800 + f.d))]) rfl Kz) ?_
      refine jv_Wp.cnd jv_i287 (pt := 203) (pe := 183) (p := (¬ (I 205 (76800 + f.d)) = (1 : Int32))) (q := (¬ (I 205 (76800 + f.d)) = (1 : Int32))) rfl jv_bc_ne rfl rfl Iff.rfl (fun h4 => ?_) (fun h4 => ?_)
      · refine jv_Wp.lift (fun _ Kz => jv_Ev.steps jv_i287 3 (pc' := 208) (l' := [(4, .int (0 : Int32)), (3, .int (0 : Int32)), (2, .int (vl_I w24)), (1, .int (0 : Int32)), (0, .ref 196)]) (st' := [.int (0 : Int32)]) rfl Kz) ?_
        refine jv_Wp.lift (fun _ Kz => jv_Ev.br jv_i287 (pc' := 245) (st' := []) rfl (by rfl) Kz) ?_
        refine jv_Wp.lift (fun _ Kz => jv_Ev.steps jv_i287 1 (pc' := 246) (l' := [(4, .int (0 : Int32)), (3, .int (0 : Int32)), (2, .int (vl_I w24)), (1, .int (0 : Int32)), (0, .ref 196)]) (st' := [.ref 196]) rfl Kz) ?_
        refine jv_Wp.lift (fun _ Kz => jv_Ev.c jv_i287 (pc' := 249) (S' := [.int (vl_I f.kind)]) jv_i257 [.ref 196] rfl rfl rfl rfl (jv_cal rfl (jv_H_at (jv_rwK hW 196 12 24 (by decide))) rfl rfl) rfl (vq_kind f hW D27) rfl rfl Kz) ?_
        refine jv_Wp.lift (fun _ Kz => jv_Ev.steps jv_i287 1 (pc' := 250) (l' := [(4, .int (0 : Int32)), (3, .int (0 : Int32)), (2, .int (vl_I w24)), (1, .int (0 : Int32)), (0, .ref 196)]) (st' := [.int (4 : Int32), .int (vl_I f.kind)]) rfl Kz) ?_
        refine jv_Wp.cnd jv_i287 (pt := 261) (pe := 253) (p := ((vl_I f.kind) = (4 : Int32))) (q := ((vl_I f.kind) = (4 : Int32))) rfl jv_bc_eq rfl rfl Iff.rfl (fun _ => ?_) (fun hz => absurd (Classical.not_not.mp h2) hz)
        refine jv_Wp.lift (fun _ Kz => jv_Ev.steps jv_i287 1 (pc' := 262) (l' := [(4, .int (0 : Int32)), (3, .int (0 : Int32)), (2, .int (vl_I w24)), (1, .int (0 : Int32)), (0, .ref 196)]) (st' := [.int (2 : Int32)]) rfl Kz) ?_
        refine jv_Wp.of (jv_Ev.ret jv_i287 rfl rfl) ?_
        rw [hQ]
        have md4 : f.kind = 4 := (vr_sm (v := 4) (by omega) (by decide) rfl).mp (Classical.not_not.mp h2)
        have td1 : ¬ zd = 1 := fun z => h4 ((vr_is 1 (by decide) okd).mp ((hd ()).trans z))
        have fe : w24 ≤ 0 := (vl_I_le (b := 0) (by omega) (by decide)).mp h1
        have a1 : ¬ vx_a1 f (vr_T I L (76800 + f.d)) (vr_T I L (76800 + f.s)) := by unfold vx_a1; rw [hd (), hs ()]; omega
        have a2 : ¬ (f.n = 11 ∧ f.kind = 7 ∧ f.o = 0) := by omega
        have a3 : vx_a3 f (vr_T I L (76800 + f.d)) (vr_T I L (76800 + f.s)) := by unfold vx_a3; rw [hd (), hs ()]; omega
        have e : vx_ar f (vr_T I L (76800 + f.d)) (vr_T I L (76800 + f.s)) = (2, (vr_T I L (76800 + f.d))) := by
          by_cases c : f.kind = 7 ∧ (f.n = 0 ∨ f.n = 1)
          · exact (vx_ar3 a1 a2 a3 c).trans (vx_move2 (by rw [hd (), hs ()]; omega) (by rw [hd (), hs ()]; omega))
          · exact vx_ar4 a1 a2 a3 c
        have g := vq_arE (L := L) (f := f) (c := 2) hd75 oa (by rw [eD, eY]; exact congrArg Prod.fst e) (fun z => absurd z (by decide)) (vr_fr_P W27 (fun _ z => z.elim))
        exact ⟨_, _, by rw [g.1]; rfl, g.2, vr_fr_P W27 (fun _ z => z.elim)⟩
      · refine jv_Wp.lift (fun _ Kz => jv_Ev.steps jv_i287 1 (pc' := 184) (l' := [(3, .int (0 : Int32)), (2, .int (vl_I w24)), (1, .int (0 : Int32)), (0, .ref 196)]) (st' := [.int (0 : Int32)]) rfl Kz) ?_
        refine jv_Wp.lift (fun _ Kz => jv_Ev.br jv_i287 (pc' := 199) (st' := []) rfl (by rfl) Kz) ?_
        refine jv_Wp.lift (fun _ Kz => jv_Ev.steps jv_i287 4 (pc' := 208) (l' := [(4, .int (1 : Int32)), (3, .int (0 : Int32)), (2, .int (vl_I w24)), (1, .int (0 : Int32)), (0, .ref 196)]) (st' := [.int (1 : Int32)]) rfl Kz) ?_
        refine jv_Wp.lift (fun _ Kz => jv_Ev.br jv_i287 (pc' := 211) (st' := []) rfl (by rfl) Kz) ?_
        refine jv_Wp.lift (fun _ Kz => jv_Ev.steps jv_i287 3 (pc' := 216) (l' := [(4, .int (1 : Int32)), (3, .int (0 : Int32)), (2, .int (vl_I w24)), (1, .int (0 : Int32)), (0, .ref 196)]) (st' := [.ref 196, .int (1024 : Int32), .ref 196]) rfl Kz) ?_
        refine jv_Wp.lift (fun _ Kz => jv_Ev.m jv_i287 (pc' := 219) (st' := [.int (vl_I f.d), .int (1024 : Int32), .ref 196]) (G' := (jv_H K I27 L27 R)) rfl rfl (jv_m_getI (jv_rwK hW 196 12 24 (by decide)) rfl rfl D27.2.1) Kz) ?_
        refine jv_Wp.lift (fun _ Kz => jv_Ev.c jv_i287 (pc' := 222) (S' := [.int (vl_I (8 + (76800 + f.d))), .ref 196]) jv_i254 [.int (1024 : Int32), .int (vl_I f.d)] rfl rfl rfl rfl rfl rfl (vq_row 1024 f.d) rfl rfl Kz) ?_
        refine jv_Wp.lift (fun _ Kz => jv_Ev.steps jv_i287 1 (pc' := 223) (l' := [(4, .int (1 : Int32)), (3, .int (0 : Int32)), (2, .int (vl_I w24)), (1, .int (0 : Int32)), (0, .ref 196)]) (st' := [.int (0 : Int32), .int (vl_I (8 + (76800 + f.d))), .ref 196]) rfl Kz) ?_
        refine jv_Wp.lift (fun _ Kz => jv_Ev.br jv_i287 (pc' := 239) (st' := [.int (vl_I (8 + (76800 + f.d))), .ref 196]) rfl (by rfl) Kz) ?_
        refine jv_Wp.lift (fun _ Kz => jv_Ev.steps jv_i287 1 (pc' := 240) (l' := [(4, .int (1 : Int32)), (3, .int (0 : Int32)), (2, .int (vl_I w24)), (1, .int (0 : Int32)), (0, .ref 196)]) (st' := [.int (5 : Int32), .int (vl_I (8 + (76800 + f.d))), .ref 196]) rfl Kz) ?_
        have md4 : f.kind = 4 := (vr_sm (v := 4) (by omega) (by decide) rfl).mp (Classical.not_not.mp h2)
        have td1 : zd = 1 := (hd ()).symm.trans ((vr_is 1 (by decide) okd).mpr (Classical.not_not.mp h4))
        have fe : w24 ≤ 0 := (vl_I_le (b := 0) (by omega) (by decide)).mp h1
        obtain ⟨I28, L28, H28, T28, O28, F28⟩ := vq_reckonB (I := I27) (L := L27) (R := R) (n := n) (sl := sl) f (8 + (76800 + f.d)) 5 hW Z27 D27 hfa (by omega) (by omega) (by omega) (by omega) (by omega) ((congrArg vb_toS (vr_fr_6 W27)).trans hZ6) (fun _ => by rw [vr_fr_S W27 (fun z => z)]; exact vr_tight okd (tA f.d (by omega)) (by rw [(vr_is 1 (by decide) okd).mp ((hd ()).trans (by omega))]; rfl)) (fun _ _ => Yt27) (by omega)
        refine jv_Wp.lift (fun _ Kz => jv_Ev.c jv_i287 (pc' := 243) (S' := []) (G1 := (jv_H K I28 L28 R)) jv_i285 [.ref 196, .int (vl_I (8 + (76800 + f.d))), .int (5 : Int32)] rfl rfl rfl rfl (jv_cal rfl (jv_H_at (jv_rwK hW 196 12 24 (by decide))) rfl rfl) rfl H28 rfl rfl Kz) ?_
        refine jv_Wp.lift (fun _ Kz => jv_Ev.steps jv_i287 1 (pc' := 244) (l' := [(4, .int (1 : Int32)), (3, .int (0 : Int32)), (2, .int (vl_I w24)), (1, .int (0 : Int32)), (0, .ref 196)]) (st' := [.int (0 : Int32)]) rfl Kz) ?_
        refine jv_Wp.of (jv_Ev.ret jv_i287 rfl rfl) ?_
        rw [hQ]
        have md4 : f.kind = 4 := (vr_sm (v := 4) (by omega) (by decide) rfl).mp (Classical.not_not.mp h2)
        have td1 : zd = 1 := (hd ()).symm.trans ((vr_is 1 (by decide) okd).mpr (Classical.not_not.mp h4))
        have fe : w24 ≤ 0 := (vl_I_le (b := 0) (by omega) (by decide)).mp h1
        have a1 : ¬ vx_a1 f (vr_T I L (76800 + f.d)) (vr_T I L (76800 + f.s)) := by unfold vx_a1; rw [hd (), hs ()]; omega
        have a2 : ¬ (f.n = 11 ∧ f.kind = 7 ∧ f.o = 0) := by omega
        have a3 : ¬ vx_a3 f (vr_T I L (76800 + f.d)) (vr_T I L (76800 + f.s)) := by unfold vx_a3; rw [hd (), hs ()]; omega
        have e := vx_ar5 a1 a2 a3
        have ev : vx_reckon f (vb_toS (vr_S L27 (8 + (76800 + f.d)))) (vb_toS (vr_S L27 5)) = vx_reckon f (vr_T I L (76800 + f.d)).val (vr_T I L (76800 + f.s)).val := by
          rw [vx_reckon13 hN _ _ (vr_T I L (76800 + f.s)).val, vr_fr_S W27 (fun z => z)]
          rw [show (vr_T I L (76800 + f.d)).val = (vb_toS (vr_S L (8 + (76800 + f.d)))) from vr_valv (by rw [(vr_is 1 (by decide) okd).mp ((hd ()).trans (by omega))]; rfl)]
        have g := vq_arE (L := L) (f := f) (c := 0) hd75 oa (by rw [eD, eY]; exact congrArg Prod.fst e) (fun _ => ⟨by rw [eD, eY, e, T28, ev], O28⟩) (vr_fr_trans (vr_fr_P W27 (fun _ z => z.elim)) F28)
        exact ⟨_, _, by rw [g.1]; rfl, g.2, vr_fr_trans (vr_fr_P W27 (fun _ z => z.elim)) F28⟩
  · refine jv_Wp.lift (fun _ Kz => jv_Ev.steps jv_i287 1 (pc' := 68) (l' := [(2, .int (vl_I w24)), (1, .int (0 : Int32)), (0, .ref 196)]) (st' := [.int (vl_I w24)]) rfl Kz) ?_
    refine jv_Wp.of (jv_Ev.ret jv_i287 rfl rfl) ?_
    rw [hQ]
    have fe : ¬ w24 ≤ 0 := fun z => h1 ((vl_I_le (b := 0) (by omega) (by decide)).mpr z)
    have a1 : vx_a1 f (vr_T I L (76800 + f.d)) (vr_T I L (76800 + f.s)) := by unfold vx_a1; rw [hd (), hs ()]; omega
    have c1 : w24 = 1 := by omega
    have e := vx_ar1 a1
    have g := vq_arE (L := L) (f := f) (c := 1) hd75 oa (by rw [eD, eY]; exact congrArg Prod.fst e) (fun z => absurd z (by decide)) (vr_fr_refl hf)
    exact ⟨_, _, by rw [g.1]; rw [c1], g.2, vr_fr_refl hf⟩
set_option maxRecDepth 8000 in
theorem vq_arithI13 {K : Nat → Option (Nat × Nat)} {I : Nat → Nat → Int32} {L : Nat → Nat → Int64} {R : Nat → Nat → Value} (f : vf_F) (hW : jv_rW K R) (hf : vr_fl I) (D : vr_dec I f) (hfa : vf_ar f) (hk47 : f.kind = 4 ∨ f.kind = 7) (hd11 : f.d < 11) (hs11 : f.s < 11) (oa : vr_okA I 1024) (tA : ∀ n, n < 75 → vt_ok (vr_T I L (76800 + n))) (gA : ∀ n, n < 75 → vt_g (vr_T I L (76800 + n))) (hZ6 : vb_toS (vr_S L 6) = vb_just 0) (hb : f.bit3 = false) (hN : f.n = 13) {n sl : Nat} : ∃ I1 L1, jv_Ms 287 [.ref 196] (jv_H K I L R) n sl (some (.int (vl_I (vx_arith f (vr_A I L 1024)).1)), jv_H K I1 L1 R, n, sl) ∧ ((vx_arith f (vr_A I L 1024)).1 = 0 → vr_A I1 L1 1024 = (vx_arith f (vr_A I L 1024)).2 ∧ vr_okA I1 1024) ∧ vr_fr (fun x => x = 76800 + f.d) noE I L I1 L1 := by
  obtain ⟨Q, hQ⟩ : ∃ Q : jv_R → Prop, Q = fun X => ∃ I1 L1, X = (some (.int (vl_I (vx_arith f (vr_A I L 1024)).1)), jv_H K I1 L1 R, n, sl) ∧ ((vx_arith f (vr_A I L 1024)).1 = 0 → vr_A I1 L1 1024 = (vx_arith f (vr_A I L 1024)).2 ∧ vr_okA I1 1024) ∧ vr_fr (fun x => x = 76800 + f.d) noE I L I1 L1 := ⟨_, rfl⟩
  suffices h : jv_Wp 287 0 [(0, .ref 196)] [] (jv_H K I L R) n sl Q by
    rw [hQ] at h
    obtain ⟨X, h, I1, L1, e, h'⟩ := h
    subst e
    exact ⟨I1, L1, h, h'⟩
  have hn16 := vr_dn D
  have hk8 := vr_dk D
  have hd75 : f.d < 75 := by omega
  have hs75 : f.s < 75 := by omega
  have okd : vr_ok I (76800 + f.d) f.d := oa f.d hd75
  have oks : vr_ok I (76800 + f.s) f.s := oa f.s hs75
  obtain ⟨zd, hd⟩ : ∃ x : Nat, ∀ _ : Unit, (vr_T I L (76800 + f.d)).sort = x := ⟨_, fun _ => rfl⟩
  obtain ⟨zs, hs⟩ : ∃ x : Nat, ∀ _ : Unit, (vt_num (vx_just f.i)).sort = x := ⟨_, fun _ => rfl⟩
  obtain ⟨rd, hrd⟩ : ∃ x : Nat, ∀ _ : Unit, vr_rd (I 205 (76800 + f.d)) = x := ⟨_, fun _ => rfl⟩
  obtain ⟨rs, hrs⟩ : ∃ x : Nat, ∀ _ : Unit, vr_rd (I 205 (76800 + f.s)) = x := ⟨_, fun _ => rfl⟩
  have rdd : (zd = 0 → rd = 1) ∧ (zd ≠ 0 → rd = 0) := by rw [← hd (), ← hrd ()]; exact vr_rd_f okd hd11
  have W : vr_fr noP noE I L I L := vr_fr_refl hf
  have q0 := hfa.1
  have q8 := hfa.2.1
  have q11 := hfa.2.2.2.1
  have eD : (vr_A I L 1024).1 f.d = (vr_T I L (76800 + f.d)) := vr_A1 hd75
  have eY : vx_y f (vr_A I L 1024) = (vt_num (vx_just f.i)) := (if_neg (by rw [hb]; decide))
  have ys : zs = 1 := (hs ()).symm
  refine jv_Wp.lift (fun _ Kz => jv_Ev.steps jv_i287 1 (pc' := 1) (l' := [(0, .ref 196)]) (st' := [.ref 196]) rfl Kz) ?_
  refine jv_Wp.lift (fun _ Kz => jv_Ev.c jv_i287 (pc' := 4) (S' := [.int (vl_I f.n)]) jv_i258 [.ref 196] rfl rfl rfl rfl (jv_cal rfl (jv_H_at (jv_rwK hW 196 12 24 (by decide))) rfl rfl) rfl (vq_n f hW D) rfl rfl Kz) ?_
  refine jv_Wp.lift (fun _ Kz => jv_Ev.steps jv_i287 1 (pc' := 6) (l' := [(0, .ref 196)]) (st' := [.int (11 : Int32), .int (vl_I f.n)]) rfl Kz) ?_
  refine jv_Wp.cnd jv_i287 (pt := 13) (pe := 9) (p := (¬ (vl_I f.n) = (11 : Int32))) (q := (¬ (vl_I f.n) = (11 : Int32))) rfl jv_bc_ne rfl rfl Iff.rfl (fun _ => ?_) (fun hz => absurd (fun z => by have y := (vr_sm (v := 11) (by omega) (by decide) rfl).mp z; omega) hz)
  refine jv_Wp.lift (fun _ Kz => jv_Ev.steps jv_i287 3 (pc' := 16) (l' := [(1, .int (0 : Int32)), (0, .ref 196)]) (st' := [.int (0 : Int32)]) rfl Kz) ?_
  refine jv_Wp.lift (fun _ Kz => jv_Ev.br jv_i287 (pc' := 23) (st' := []) rfl (by rfl) Kz) ?_
  refine jv_Wp.lift (fun _ Kz => jv_Ev.steps jv_i287 2 (pc' := 25) (l' := [(1, .int (0 : Int32)), (0, .ref 196)]) (st' := [.ref 196, .ref 196]) rfl Kz) ?_
  refine jv_Wp.lift (fun _ Kz => jv_Ev.m jv_i287 (pc' := 28) (st' := [.int (vl_I f.d), .ref 196]) (G' := (jv_H K I L R)) rfl rfl (jv_m_getI (jv_rwK hW 196 12 24 (by decide)) rfl rfl D.2.1) Kz) ?_
  have Hr29 := vq_readsW (n := n) (sl := sl) W f.d hW (by omega)
  rw [hrd ()] at Hr29
  refine jv_Wp.lift (fun _ Kz => jv_Ev.c jv_i287 (pc' := 31) (S' := [.int (vl_I rd)]) jv_i283 [.ref 196, .int (vl_I f.d)] rfl rfl rfl rfl (jv_cal rfl (jv_H_at (jv_rwK hW 196 12 24 (by decide))) rfl rfl) rfl Hr29 rfl rfl Kz) ?_
  refine jv_Wp.lift (fun _ Kz => jv_Ev.steps jv_i287 1 (pc' := 32) (l' := [(1, .int (0 : Int32)), (0, .ref 196)]) (st' := [.ref 196, .int (vl_I rd)]) rfl Kz) ?_
  refine jv_Wp.lift (fun _ Kz => jv_Ev.c jv_i287 (pc' := 35) (S' := [.int (vr_b f.bit3), .int (vl_I rd)]) jv_i259 [.ref 196] rfl rfl rfl rfl (jv_cal rfl (jv_H_at (jv_rwK hW 196 12 24 (by decide))) rfl rfl) rfl (vq_bit3 f hW D) rfl rfl Kz) ?_
  refine jv_Wp.cnd jv_i287 (pt := 58) (pe := 38) (p := ((vr_b f.bit3) = 0)) (q := ((vr_b f.bit3) = 0)) rfl jv_bi_eq rfl rfl Iff.rfl (fun _ => ?_) (fun hz => absurd (by rw [hb]; rfl) hz)
  refine jv_Wp.lift (fun _ Kz => jv_Ev.steps jv_i287 1 (pc' := 59) (l' := [(1, .int (0 : Int32)), (0, .ref 196)]) (st' := [.int (0 : Int32), .int (vl_I rd)]) rfl Kz) ?_
  obtain ⟨w30, hq30⟩ : ∃ x : Nat, ∀ _ : Unit, vx_fst rd 0 = x := ⟨_, fun _ => rfl⟩
  have fq : (rd = 0 → w30 = 0) ∧ (0 = 0 → w30 = rd) ∧ (w30 = rd ∨ w30 = 0) := by rw [← hq30 ()]; exact vx_fst_f rd 0
  have Hf30 := vq_first (I := I) (L := L) (K := K) (R := R) (n := n) (sl := sl) rd 0 (by omega) (by omega)
  rw [hq30 ()] at Hf30
  refine jv_Wp.lift (fun _ Kz => jv_Ev.c jv_i287 (pc' := 62) (S' := [.int (vl_I w30)]) jv_i282 [.int (vl_I rd), .int (0 : Int32)] rfl rfl rfl rfl rfl rfl Hf30 rfl rfl Kz) ?_
  refine jv_Wp.lift (fun _ Kz => jv_Ev.steps jv_i287 2 (pc' := 64) (l' := [(2, .int (vl_I w30)), (1, .int (0 : Int32)), (0, .ref 196)]) (st' := [.int (vl_I w30)]) rfl Kz) ?_
  refine jv_Wp.cnd jv_i287 (pt := 69) (pe := 67) (p := ((vl_I w30) ≤ 0)) (q := ((vl_I w30) ≤ 0)) rfl jv_bi_le rfl rfl Iff.rfl (fun h1 => ?_) (fun h1 => ?_)
  · refine jv_Wp.lift (fun _ Kz => jv_Ev.steps jv_i287 1 (pc' := 70) (l' := [(2, .int (vl_I w30)), (1, .int (0 : Int32)), (0, .ref 196)]) (st' := [.ref 196]) rfl Kz) ?_
    refine jv_Wp.lift (fun _ Kz => jv_Ev.c jv_i287 (pc' := 73) (S' := [.int (vr_b f.bit3)]) jv_i259 [.ref 196] rfl rfl rfl rfl (jv_cal rfl (jv_H_at (jv_rwK hW 196 12 24 (by decide))) rfl rfl) rfl (vq_bit3 f hW D) rfl rfl Kz) ?_
    refine jv_Wp.cnd jv_i287 (pt := 89) (pe := 76) (p := ((vr_b f.bit3) = 0)) (q := ((vr_b f.bit3) = 0)) rfl jv_bi_eq rfl rfl Iff.rfl (fun _ => ?_) (fun hz => absurd (by rw [hb]; rfl) hz)
    refine jv_Wp.lift (fun _ Kz => jv_Ev.steps jv_i287 3 (pc' := 92) (l' := [(3, .int (0 : Int32)), (2, .int (vl_I w30)), (1, .int (0 : Int32)), (0, .ref 196)]) (st' := [.int (0 : Int32)]) rfl Kz) ?_
    refine jv_Wp.lift (fun _ Kz => jv_Ev.br jv_i287 (pc' := 135) (st' := []) rfl (by rfl) Kz) ?_
    refine jv_Wp.lift (fun _ Kz => jv_Ev.steps jv_i287 1 (pc' := 136) (l' := [(3, .int (0 : Int32)), (2, .int (vl_I w30)), (1, .int (0 : Int32)), (0, .ref 196)]) (st' := [.ref 196]) rfl Kz) ?_
    refine jv_Wp.lift (fun _ Kz => jv_Ev.m jv_i287 (pc' := 139) (st' := [.ref 208]) (G' := (jv_H K I L R)) rfl rfl (jv_m_getR (jv_rwK hW 196 12 24 (by decide)) rfl rfl (jv_rwR hW 196 16 208 (by decide))) Kz) ?_
    refine jv_Wp.lift (fun _ Kz => jv_Ev.steps jv_i287 2 (pc' := 141) (l' := [(3, .int (0 : Int32)), (2, .int (vl_I w30)), (1, .int (0 : Int32)), (0, .ref 196)]) (st' := [.ref 196, .int (5 : Int32), .ref 208]) rfl Kz) ?_
    refine jv_Wp.lift (fun _ Kz => jv_Ev.m jv_i287 (pc' := 144) (st' := [.int (Int32.ofInt f.i), .int (5 : Int32), .ref 208]) (G' := (jv_H K I L R)) rfl rfl (jv_m_getI (jv_rwK hW 196 12 24 (by decide)) rfl rfl (vr_dJ D)) Kz) ?_
    refine jv_Wp.lift (fun _ Kz => jv_Ev.steps jv_i287 1 (pc' := 145) (l' := [(3, .int (0 : Int32)), (2, .int (vl_I w30)), (1, .int (0 : Int32)), (0, .ref 196)]) (st' := [.long (Int32.ofInt f.i).toInt64, .int (5 : Int32), .ref 208]) rfl Kz) ?_
    obtain ⟨I31, L31, H31, S31, F31⟩ := vq_single (I := I) (L := L) (R := R) (n := n) (sl := sl) (d := 5) (Int32.ofInt f.i).toInt64 hW (by decide) hf
    have Z31 := F31.1
    have D31 := vr_dec_rf F31 D
    have W31 : vr_fr noP noE I L I31 L31 := vr_fr_trans W (vq_rf_fr F31 (by decide))
    have Y31 : vb_toS (vr_S L31 5) = vx_just f.i := by rw [S31, vb_toS_just]; exact vx_just_32 _ _ (vr_dQ D)
    have Yt31 : vb_tight (vb_toS (vr_S L31 5)) := by rw [Y31]; exact vb_just_tight _
    refine jv_Wp.lift (fun _ Kz => jv_Ev.c jv_i287 (pc' := 148) (S' := []) (G1 := (jv_H K I31 L31 R)) jv_i217 [.ref 208, .int (5 : Int32), .long (Int32.ofInt f.i).toInt64] rfl rfl rfl rfl (jv_cal rfl (jv_H_at (jv_rwK hW 208 11 7 (by decide))) rfl rfl) rfl H31 rfl rfl Kz) ?_
    refine jv_Wp.lift (fun _ Kz => jv_Ev.steps jv_i287 1 (pc' := 149) (l' := [(3, .int (0 : Int32)), (2, .int (vl_I w30)), (1, .int (0 : Int32)), (0, .ref 196)]) (st' := [.ref 196]) rfl Kz) ?_
    refine jv_Wp.lift (fun _ Kz => jv_Ev.c jv_i287 (pc' := 152) (S' := [.int (vl_I f.kind)]) jv_i257 [.ref 196] rfl rfl rfl rfl (jv_cal rfl (jv_H_at (jv_rwK hW 196 12 24 (by decide))) rfl rfl) rfl (vq_kind f hW D31) rfl rfl Kz) ?_
    refine jv_Wp.lift (fun _ Kz => jv_Ev.steps jv_i287 1 (pc' := 153) (l' := [(3, .int (0 : Int32)), (2, .int (vl_I w30)), (1, .int (0 : Int32)), (0, .ref 196)]) (st' := [.int (4 : Int32), .int (vl_I f.kind)]) rfl Kz) ?_
    refine jv_Wp.cnd jv_i287 (pt := 167) (pe := 156) (p := (¬ (vl_I f.kind) = (4 : Int32))) (q := (¬ (vl_I f.kind) = (4 : Int32))) rfl jv_bc_ne rfl rfl Iff.rfl (fun h2 => ?_) (fun h2 => ?_)
    · refine jv_Wp.lift (fun _ Kz => jv_Ev.steps jv_i287 1 (pc' := 168) (l' := [(3, .int (0 : Int32)), (2, .int (vl_I w30)), (1, .int (0 : Int32)), (0, .ref 196)]) (st' := [.int (0 : Int32)]) rfl Kz) ?_
      refine jv_Wp.lift (fun _ Kz => jv_Ev.br jv_i287 (pc' := 171) (st' := []) rfl (by rfl) Kz) ?_
      refine jv_Wp.lift (fun _ Kz => jv_Ev.steps jv_i287 2 (pc' := 173) (l' := [(3, .int (0 : Int32)), (2, .int (vl_I w30)), (1, .int (0 : Int32)), (0, .ref 196)]) (st' := [.ref 196, .ref 196]) rfl Kz) ?_
      refine jv_Wp.lift (fun _ Kz => jv_Ev.m jv_i287 (pc' := 176) (st' := [.int (vl_I f.d), .ref 196]) (G' := (jv_H K I31 L31 R)) rfl rfl (jv_m_getI (jv_rwK hW 196 12 24 (by decide)) rfl rfl D31.2.1) Kz) ?_
      refine jv_Wp.lift (fun _ Kz => jv_Ev.c jv_i287 (pc' := 179) (S' := [.int (I 205 (76800 + f.d))]) jv_i271 [.ref 196, .int (vl_I f.d)] rfl rfl rfl rfl (jv_cal rfl (jv_H_at (jv_rwK hW 196 12 24 (by decide))) rfl rfl) rfl (vq_sortOfW W31 f.d hW (by omega)) rfl rfl Kz) ?_
      refine jv_Wp.lift (fun _ Kz => jv_Ev.steps jv_i287 1 (pc' := 180) (l' := [(3, .int (0 : Int32)), (2, .int (vl_I w30)), (1, .int (0 : Int32)), (0, .ref 196)]) (st' := [.int (1 : Int32), .int (I 205 (76800 + f.d))]) rfl Kz) ?_
      refine jv_Wp.cnd jv_i287 (pt := 203) (pe := 183) (p := (¬ (I 205 (76800 + f.d)) = (1 : Int32))) (q := (¬ (I 205 (76800 + f.d)) = (1 : Int32))) rfl jv_bc_ne rfl rfl Iff.rfl (fun h3 => ?_) (fun h3 => ?_)
      · refine jv_Wp.lift (fun _ Kz => jv_Ev.steps jv_i287 3 (pc' := 208) (l' := [(4, .int (0 : Int32)), (3, .int (0 : Int32)), (2, .int (vl_I w30)), (1, .int (0 : Int32)), (0, .ref 196)]) (st' := [.int (0 : Int32)]) rfl Kz) ?_
        refine jv_Wp.lift (fun _ Kz => jv_Ev.br jv_i287 (pc' := 245) (st' := []) rfl (by rfl) Kz) ?_
        refine jv_Wp.lift (fun _ Kz => jv_Ev.steps jv_i287 1 (pc' := 246) (l' := [(4, .int (0 : Int32)), (3, .int (0 : Int32)), (2, .int (vl_I w30)), (1, .int (0 : Int32)), (0, .ref 196)]) (st' := [.ref 196]) rfl Kz) ?_
        refine jv_Wp.lift (fun _ Kz => jv_Ev.c jv_i287 (pc' := 249) (S' := [.int (vl_I f.kind)]) jv_i257 [.ref 196] rfl rfl rfl rfl (jv_cal rfl (jv_H_at (jv_rwK hW 196 12 24 (by decide))) rfl rfl) rfl (vq_kind f hW D31) rfl rfl Kz) ?_
        refine jv_Wp.lift (fun _ Kz => jv_Ev.steps jv_i287 1 (pc' := 250) (l' := [(4, .int (0 : Int32)), (3, .int (0 : Int32)), (2, .int (vl_I w30)), (1, .int (0 : Int32)), (0, .ref 196)]) (st' := [.int (4 : Int32), .int (vl_I f.kind)]) rfl Kz) ?_
        refine jv_Wp.cnd jv_i287 (pt := 261) (pe := 253) (p := ((vl_I f.kind) = (4 : Int32))) (q := ((vl_I f.kind) = (4 : Int32))) rfl jv_bc_eq rfl rfl Iff.rfl (fun hz => absurd hz h2) (fun _ => ?_)
        refine jv_Wp.lift (fun _ Kz => jv_Ev.steps jv_i287 1 (pc' := 254) (l' := [(4, .int (0 : Int32)), (3, .int (0 : Int32)), (2, .int (vl_I w30)), (1, .int (0 : Int32)), (0, .ref 196)]) (st' := [.ref 196]) rfl Kz) ?_
        refine jv_Wp.lift (fun _ Kz => jv_Ev.c jv_i287 (pc' := 257) (S' := [.int (vl_I f.n)]) jv_i258 [.ref 196] rfl rfl rfl rfl (jv_cal rfl (jv_H_at (jv_rwK hW 196 12 24 (by decide))) rfl rfl) rfl (vq_n f hW D31) rfl rfl Kz) ?_
        refine jv_Wp.lift (fun _ Kz => jv_Ev.steps jv_i287 1 (pc' := 258) (l' := [(4, .int (0 : Int32)), (3, .int (0 : Int32)), (2, .int (vl_I w30)), (1, .int (0 : Int32)), (0, .ref 196)]) (st' := [.int (1 : Int32), .int (vl_I f.n)]) rfl Kz) ?_
        refine jv_Wp.cnd jv_i287 (pt := 263) (pe := 261) (p := ((vl_I f.n) ≤ (1 : Int32))) (q := ((vl_I f.n) ≤ (1 : Int32))) rfl jv_bc_le rfl rfl Iff.rfl (fun hz => absurd hz (fun z => by have y := (vl_I_le (b := 1) (by omega) (by decide)).mp z; omega)) (fun _ => ?_)
        refine jv_Wp.lift (fun _ Kz => jv_Ev.steps jv_i287 1 (pc' := 262) (l' := [(4, .int (0 : Int32)), (3, .int (0 : Int32)), (2, .int (vl_I w30)), (1, .int (0 : Int32)), (0, .ref 196)]) (st' := [.int (2 : Int32)]) rfl Kz) ?_
        refine jv_Wp.of (jv_Ev.ret jv_i287 rfl rfl) ?_
        rw [hQ]
        have md4 : ¬ f.kind = 4 := (fun z => h2 ((vr_sm (v := 4) (by omega) (by decide) rfl).mpr z))
        have td1 : ¬ zd = 1 := fun z => h3 ((vr_is 1 (by decide) okd).mp ((hd ()).trans z))
        have fe : w30 ≤ 0 := (vl_I_le (b := 0) (by omega) (by decide)).mp h1
        have a1 : ¬ vx_a1 f (vr_T I L (76800 + f.d)) (vt_num (vx_just f.i)) := by unfold vx_a1; rw [hd (), hs ()]; omega
        have a2 : ¬ (f.n = 11 ∧ f.kind = 7 ∧ f.o = 0) := by omega
        have a3 : vx_a3 f (vr_T I L (76800 + f.d)) (vt_num (vx_just f.i)) := by unfold vx_a3; rw [hd (), hs ()]; omega
        have e : vx_ar f (vr_T I L (76800 + f.d)) (vt_num (vx_just f.i)) = (2, (vr_T I L (76800 + f.d))) := by
          by_cases c : f.kind = 7 ∧ (f.n = 0 ∨ f.n = 1)
          · exact (vx_ar3 a1 a2 a3 c).trans (vx_move2 (by rw [hd (), hs ()]; omega) (by rw [hd (), hs ()]; omega))
          · exact vx_ar4 a1 a2 a3 c
        have g := vq_arE (L := L) (f := f) (c := 2) hd75 oa (by rw [eD, eY]; exact congrArg Prod.fst e) (fun z => absurd z (by decide)) (vr_fr_P W31 (fun _ z => z.elim))
        exact ⟨_, _, by rw [g.1]; rfl, g.2, vr_fr_P W31 (fun _ z => z.elim)⟩
      · refine jv_Wp.lift (fun _ Kz => jv_Ev.steps jv_i287 1 (pc' := 184) (l' := [(3, .int (0 : Int32)), (2, .int (vl_I w30)), (1, .int (0 : Int32)), (0, .ref 196)]) (st' := [.int (0 : Int32)]) rfl Kz) ?_
        refine jv_Wp.lift (fun _ Kz => jv_Ev.br jv_i287 (pc' := 199) (st' := []) rfl (by rfl) Kz) ?_
        refine jv_Wp.lift (fun _ Kz => jv_Ev.steps jv_i287 4 (pc' := 208) (l' := [(4, .int (1 : Int32)), (3, .int (0 : Int32)), (2, .int (vl_I w30)), (1, .int (0 : Int32)), (0, .ref 196)]) (st' := [.int (1 : Int32)]) rfl Kz) ?_
        refine jv_Wp.lift (fun _ Kz => jv_Ev.br jv_i287 (pc' := 211) (st' := []) rfl (by rfl) Kz) ?_
        refine jv_Wp.lift (fun _ Kz => jv_Ev.steps jv_i287 3 (pc' := 216) (l' := [(4, .int (1 : Int32)), (3, .int (0 : Int32)), (2, .int (vl_I w30)), (1, .int (0 : Int32)), (0, .ref 196)]) (st' := [.ref 196, .int (1024 : Int32), .ref 196]) rfl Kz) ?_
        refine jv_Wp.lift (fun _ Kz => jv_Ev.m jv_i287 (pc' := 219) (st' := [.int (vl_I f.d), .int (1024 : Int32), .ref 196]) (G' := (jv_H K I31 L31 R)) rfl rfl (jv_m_getI (jv_rwK hW 196 12 24 (by decide)) rfl rfl D31.2.1) Kz) ?_
        refine jv_Wp.lift (fun _ Kz => jv_Ev.c jv_i287 (pc' := 222) (S' := [.int (vl_I (8 + (76800 + f.d))), .ref 196]) jv_i254 [.int (1024 : Int32), .int (vl_I f.d)] rfl rfl rfl rfl rfl rfl (vq_row 1024 f.d) rfl rfl Kz) ?_
        refine jv_Wp.lift (fun _ Kz => jv_Ev.steps jv_i287 1 (pc' := 223) (l' := [(4, .int (1 : Int32)), (3, .int (0 : Int32)), (2, .int (vl_I w30)), (1, .int (0 : Int32)), (0, .ref 196)]) (st' := [.int (0 : Int32), .int (vl_I (8 + (76800 + f.d))), .ref 196]) rfl Kz) ?_
        refine jv_Wp.lift (fun _ Kz => jv_Ev.br jv_i287 (pc' := 239) (st' := [.int (vl_I (8 + (76800 + f.d))), .ref 196]) rfl (by rfl) Kz) ?_
        refine jv_Wp.lift (fun _ Kz => jv_Ev.steps jv_i287 1 (pc' := 240) (l' := [(4, .int (1 : Int32)), (3, .int (0 : Int32)), (2, .int (vl_I w30)), (1, .int (0 : Int32)), (0, .ref 196)]) (st' := [.int (5 : Int32), .int (vl_I (8 + (76800 + f.d))), .ref 196]) rfl Kz) ?_
        have md4 : ¬ f.kind = 4 := (fun z => h2 ((vr_sm (v := 4) (by omega) (by decide) rfl).mpr z))
        have td1 : zd = 1 := (hd ()).symm.trans ((vr_is 1 (by decide) okd).mpr (Classical.not_not.mp h3))
        have fe : w30 ≤ 0 := (vl_I_le (b := 0) (by omega) (by decide)).mp h1
        obtain ⟨I32, L32, H32, T32, O32, F32⟩ := vq_reckonB (I := I31) (L := L31) (R := R) (n := n) (sl := sl) f (8 + (76800 + f.d)) 5 hW Z31 D31 hfa (by omega) (by omega) (by omega) (by omega) (by omega) ((congrArg vb_toS (vr_fr_6 W31)).trans hZ6) (fun _ => by rw [vr_fr_S W31 (fun z => z)]; exact vr_tight okd (tA f.d (by omega)) (by rw [(vr_is 1 (by decide) okd).mp ((hd ()).trans (by omega))]; rfl)) (fun _ _ => Yt31) (by omega)
        refine jv_Wp.lift (fun _ Kz => jv_Ev.c jv_i287 (pc' := 243) (S' := []) (G1 := (jv_H K I32 L32 R)) jv_i285 [.ref 196, .int (vl_I (8 + (76800 + f.d))), .int (5 : Int32)] rfl rfl rfl rfl (jv_cal rfl (jv_H_at (jv_rwK hW 196 12 24 (by decide))) rfl rfl) rfl H32 rfl rfl Kz) ?_
        refine jv_Wp.lift (fun _ Kz => jv_Ev.steps jv_i287 1 (pc' := 244) (l' := [(4, .int (1 : Int32)), (3, .int (0 : Int32)), (2, .int (vl_I w30)), (1, .int (0 : Int32)), (0, .ref 196)]) (st' := [.int (0 : Int32)]) rfl Kz) ?_
        refine jv_Wp.of (jv_Ev.ret jv_i287 rfl rfl) ?_
        rw [hQ]
        have md4 : ¬ f.kind = 4 := (fun z => h2 ((vr_sm (v := 4) (by omega) (by decide) rfl).mpr z))
        have td1 : zd = 1 := (hd ()).symm.trans ((vr_is 1 (by decide) okd).mpr (Classical.not_not.mp h3))
        have fe : w30 ≤ 0 := (vl_I_le (b := 0) (by omega) (by decide)).mp h1
        have a1 : ¬ vx_a1 f (vr_T I L (76800 + f.d)) (vt_num (vx_just f.i)) := by unfold vx_a1; rw [hd (), hs ()]; omega
        have a2 : ¬ (f.n = 11 ∧ f.kind = 7 ∧ f.o = 0) := by omega
        have a3 : ¬ vx_a3 f (vr_T I L (76800 + f.d)) (vt_num (vx_just f.i)) := by unfold vx_a3; rw [hd (), hs ()]; omega
        have e := vx_ar5 a1 a2 a3
        have ev : vx_reckon f (vb_toS (vr_S L31 (8 + (76800 + f.d)))) (vb_toS (vr_S L31 5)) = vx_reckon f (vr_T I L (76800 + f.d)).val (vt_num (vx_just f.i)).val := by
          rw [Y31, vr_fr_S W31 (fun z => z)]
          show _ = vx_reckon f (vr_T I L (76800 + f.d)).val (vx_just f.i)
          rw [show (vr_T I L (76800 + f.d)).val = (vb_toS (vr_S L (8 + (76800 + f.d)))) from vr_valv (by rw [(vr_is 1 (by decide) okd).mp ((hd ()).trans (by omega))]; rfl)]
        have g := vq_arE (L := L) (f := f) (c := 0) hd75 oa (by rw [eD, eY]; exact congrArg Prod.fst e) (fun _ => ⟨by rw [eD, eY, e, T32, ev], O32⟩) (vr_fr_trans (vr_fr_P W31 (fun _ z => z.elim)) F32)
        exact ⟨_, _, by rw [g.1]; rfl, g.2, vr_fr_trans (vr_fr_P W31 (fun _ z => z.elim)) F32⟩
    · refine jv_Wp.lift (fun _ Kz => jv_Ev.steps jv_i287 1 (pc' := 157) (l' := [(3, .int (0 : Int32)), (2, .int (vl_I w30)), (1, .int (0 : Int32)), (0, .ref 196)]) (st' := [.ref 196]) rfl Kz) ?_
      refine jv_Wp.lift (fun _ Kz => jv_Ev.m jv_i287 (pc' := 160) (st' := [.ref 208]) (G' := (jv_H K I31 L31 R)) rfl rfl (jv_m_getR (jv_rwK hW 196 12 24 (by decide)) rfl rfl (jv_rwR hW 196 16 208 (by decide))) Kz) ?_
      refine jv_Wp.lift (fun _ Kz => jv_Ev.steps jv_i287 3 (pc' := 164) (l' := [(3, .int (0 : Int32)), (2, .int (vl_I w30)), (1, .int (0 : Int32)), (0, .ref 196)]) (st' := [.int (32 : Int32), .int (5 : Int32), .int (5 : Int32), .ref 208]) rfl Kz) ?_
      obtain ⟨I33, L33, H33, S33, F33⟩ := vq_cut (I := I31) (L := L31) (R := R) (n := n) (sl := sl) (a := 5) (d := 5) (m := 32) (by decide) hW (by decide) (by decide) (by decide) (by decide) Z31 Yt31
      have Z33 := F33.1
      have D33 := vr_dec_rf F33 D31
      have W33 : vr_fr noP noE I L I33 L33 := vr_fr_trans W31 (vq_rf_fr F33 (by decide))
      have Y33 : vb_toS (vr_S L33 5) = vx_cut (vx_just f.i) 32 := by rw [S33, vb_toS_toR, Y31]
      have Yt33 : vb_tight (vb_toS (vr_S L33 5)) := by rw [Y33]; exact (vx_cut_in (vb_just_mem _)).1
      refine jv_Wp.lift (fun _ Kz => jv_Ev.c jv_i287 (pc' := 167) (S' := []) (G1 := (jv_H K I33 L33 R)) jv_i219 [.ref 208, .int (5 : Int32), .int (5 : Int32), .int (32 : Int32)] rfl rfl rfl rfl (jv_cal rfl (jv_H_at (jv_rwK hW 208 11 7 (by decide))) rfl rfl) rfl H33 rfl rfl Kz) ?_
      refine jv_Wp.lift (fun _ Kz => jv_Ev.steps jv_i287 1 (pc' := 168) (l' := [(3, .int (0 : Int32)), (2, .int (vl_I w30)), (1, .int (0 : Int32)), (0, .ref 196)]) (st' := [.int (0 : Int32)]) rfl Kz) ?_
      refine jv_Wp.lift (fun _ Kz => jv_Ev.br jv_i287 (pc' := 171) (st' := []) rfl (by rfl) Kz) ?_
      refine jv_Wp.lift (fun _ Kz => jv_Ev.steps jv_i287 2 (pc' := 173) (l' := [(3, .int (0 : Int32)), (2, .int (vl_I w30)), (1, .int (0 : Int32)), (0, .ref 196)]) (st' := [.ref 196, .ref 196]) rfl Kz) ?_
      refine jv_Wp.lift (fun _ Kz => jv_Ev.m jv_i287 (pc' := 176) (st' := [.int (vl_I f.d), .ref 196]) (G' := (jv_H K I33 L33 R)) rfl rfl (jv_m_getI (jv_rwK hW 196 12 24 (by decide)) rfl rfl D33.2.1) Kz) ?_
      refine jv_Wp.lift (fun _ Kz => jv_Ev.c jv_i287 (pc' := 179) (S' := [.int (I 205 (76800 + f.d))]) jv_i271 [.ref 196, .int (vl_I f.d)] rfl rfl rfl rfl (jv_cal rfl (jv_H_at (jv_rwK hW 196 12 24 (by decide))) rfl rfl) rfl (vq_sortOfW W33 f.d hW (by omega)) rfl rfl Kz) ?_
      refine jv_Wp.lift (fun _ Kz => jv_Ev.steps jv_i287 1 (pc' := 180) (l' := [(3, .int (0 : Int32)), (2, .int (vl_I w30)), (1, .int (0 : Int32)), (0, .ref 196)]) (st' := [.int (1 : Int32), .int (I 205 (76800 + f.d))]) rfl Kz) ?_
      refine jv_Wp.cnd jv_i287 (pt := 203) (pe := 183) (p := (¬ (I 205 (76800 + f.d)) = (1 : Int32))) (q := (¬ (I 205 (76800 + f.d)) = (1 : Int32))) rfl jv_bc_ne rfl rfl Iff.rfl (fun h4 => ?_) (fun h4 => ?_)
      · refine jv_Wp.lift (fun _ Kz => jv_Ev.steps jv_i287 3 (pc' := 208) (l' := [(4, .int (0 : Int32)), (3, .int (0 : Int32)), (2, .int (vl_I w30)), (1, .int (0 : Int32)), (0, .ref 196)]) (st' := [.int (0 : Int32)]) rfl Kz) ?_
        refine jv_Wp.lift (fun _ Kz => jv_Ev.br jv_i287 (pc' := 245) (st' := []) rfl (by rfl) Kz) ?_
        refine jv_Wp.lift (fun _ Kz => jv_Ev.steps jv_i287 1 (pc' := 246) (l' := [(4, .int (0 : Int32)), (3, .int (0 : Int32)), (2, .int (vl_I w30)), (1, .int (0 : Int32)), (0, .ref 196)]) (st' := [.ref 196]) rfl Kz) ?_
        refine jv_Wp.lift (fun _ Kz => jv_Ev.c jv_i287 (pc' := 249) (S' := [.int (vl_I f.kind)]) jv_i257 [.ref 196] rfl rfl rfl rfl (jv_cal rfl (jv_H_at (jv_rwK hW 196 12 24 (by decide))) rfl rfl) rfl (vq_kind f hW D33) rfl rfl Kz) ?_
        refine jv_Wp.lift (fun _ Kz => jv_Ev.steps jv_i287 1 (pc' := 250) (l' := [(4, .int (0 : Int32)), (3, .int (0 : Int32)), (2, .int (vl_I w30)), (1, .int (0 : Int32)), (0, .ref 196)]) (st' := [.int (4 : Int32), .int (vl_I f.kind)]) rfl Kz) ?_
        refine jv_Wp.cnd jv_i287 (pt := 261) (pe := 253) (p := ((vl_I f.kind) = (4 : Int32))) (q := ((vl_I f.kind) = (4 : Int32))) rfl jv_bc_eq rfl rfl Iff.rfl (fun _ => ?_) (fun hz => absurd (Classical.not_not.mp h2) hz)
        refine jv_Wp.lift (fun _ Kz => jv_Ev.steps jv_i287 1 (pc' := 262) (l' := [(4, .int (0 : Int32)), (3, .int (0 : Int32)), (2, .int (vl_I w30)), (1, .int (0 : Int32)), (0, .ref 196)]) (st' := [.int (2 : Int32)]) rfl Kz) ?_
        refine jv_Wp.of (jv_Ev.ret jv_i287 rfl rfl) ?_
        rw [hQ]
        have md4 : f.kind = 4 := (vr_sm (v := 4) (by omega) (by decide) rfl).mp (Classical.not_not.mp h2)
        have td1 : ¬ zd = 1 := fun z => h4 ((vr_is 1 (by decide) okd).mp ((hd ()).trans z))
        have fe : w30 ≤ 0 := (vl_I_le (b := 0) (by omega) (by decide)).mp h1
        have a1 : ¬ vx_a1 f (vr_T I L (76800 + f.d)) (vt_num (vx_just f.i)) := by unfold vx_a1; rw [hd (), hs ()]; omega
        have a2 : ¬ (f.n = 11 ∧ f.kind = 7 ∧ f.o = 0) := by omega
        have a3 : vx_a3 f (vr_T I L (76800 + f.d)) (vt_num (vx_just f.i)) := by unfold vx_a3; rw [hd (), hs ()]; omega
        have e : vx_ar f (vr_T I L (76800 + f.d)) (vt_num (vx_just f.i)) = (2, (vr_T I L (76800 + f.d))) := by
          by_cases c : f.kind = 7 ∧ (f.n = 0 ∨ f.n = 1)
          · exact (vx_ar3 a1 a2 a3 c).trans (vx_move2 (by rw [hd (), hs ()]; omega) (by rw [hd (), hs ()]; omega))
          · exact vx_ar4 a1 a2 a3 c
        have g := vq_arE (L := L) (f := f) (c := 2) hd75 oa (by rw [eD, eY]; exact congrArg Prod.fst e) (fun z => absurd z (by decide)) (vr_fr_P W33 (fun _ z => z.elim))
        exact ⟨_, _, by rw [g.1]; rfl, g.2, vr_fr_P W33 (fun _ z => z.elim)⟩
      · refine jv_Wp.lift (fun _ Kz => jv_Ev.steps jv_i287 1 (pc' := 184) (l' := [(3, .int (0 : Int32)), (2, .int (vl_I w30)), (1, .int (0 : Int32)), (0, .ref 196)]) (st' := [.int (0 : Int32)]) rfl Kz) ?_
        refine jv_Wp.lift (fun _ Kz => jv_Ev.br jv_i287 (pc' := 199) (st' := []) rfl (by rfl) Kz) ?_
        refine jv_Wp.lift (fun _ Kz => jv_Ev.steps jv_i287 4 (pc' := 208) (l' := [(4, .int (1 : Int32)), (3, .int (0 : Int32)), (2, .int (vl_I w30)), (1, .int (0 : Int32)), (0, .ref 196)]) (st' := [.int (1 : Int32)]) rfl Kz) ?_
        refine jv_Wp.lift (fun _ Kz => jv_Ev.br jv_i287 (pc' := 211) (st' := []) rfl (by rfl) Kz) ?_
        refine jv_Wp.lift (fun _ Kz => jv_Ev.steps jv_i287 3 (pc' := 216) (l' := [(4, .int (1 : Int32)), (3, .int (0 : Int32)), (2, .int (vl_I w30)), (1, .int (0 : Int32)), (0, .ref 196)]) (st' := [.ref 196, .int (1024 : Int32), .ref 196]) rfl Kz) ?_
        refine jv_Wp.lift (fun _ Kz => jv_Ev.m jv_i287 (pc' := 219) (st' := [.int (vl_I f.d), .int (1024 : Int32), .ref 196]) (G' := (jv_H K I33 L33 R)) rfl rfl (jv_m_getI (jv_rwK hW 196 12 24 (by decide)) rfl rfl D33.2.1) Kz) ?_
        refine jv_Wp.lift (fun _ Kz => jv_Ev.c jv_i287 (pc' := 222) (S' := [.int (vl_I (8 + (76800 + f.d))), .ref 196]) jv_i254 [.int (1024 : Int32), .int (vl_I f.d)] rfl rfl rfl rfl rfl rfl (vq_row 1024 f.d) rfl rfl Kz) ?_
        refine jv_Wp.lift (fun _ Kz => jv_Ev.steps jv_i287 1 (pc' := 223) (l' := [(4, .int (1 : Int32)), (3, .int (0 : Int32)), (2, .int (vl_I w30)), (1, .int (0 : Int32)), (0, .ref 196)]) (st' := [.int (0 : Int32), .int (vl_I (8 + (76800 + f.d))), .ref 196]) rfl Kz) ?_
        refine jv_Wp.lift (fun _ Kz => jv_Ev.br jv_i287 (pc' := 239) (st' := [.int (vl_I (8 + (76800 + f.d))), .ref 196]) rfl (by rfl) Kz) ?_
        refine jv_Wp.lift (fun _ Kz => jv_Ev.steps jv_i287 1 (pc' := 240) (l' := [(4, .int (1 : Int32)), (3, .int (0 : Int32)), (2, .int (vl_I w30)), (1, .int (0 : Int32)), (0, .ref 196)]) (st' := [.int (5 : Int32), .int (vl_I (8 + (76800 + f.d))), .ref 196]) rfl Kz) ?_
        have md4 : f.kind = 4 := (vr_sm (v := 4) (by omega) (by decide) rfl).mp (Classical.not_not.mp h2)
        have td1 : zd = 1 := (hd ()).symm.trans ((vr_is 1 (by decide) okd).mpr (Classical.not_not.mp h4))
        have fe : w30 ≤ 0 := (vl_I_le (b := 0) (by omega) (by decide)).mp h1
        obtain ⟨I34, L34, H34, T34, O34, F34⟩ := vq_reckonB (I := I33) (L := L33) (R := R) (n := n) (sl := sl) f (8 + (76800 + f.d)) 5 hW Z33 D33 hfa (by omega) (by omega) (by omega) (by omega) (by omega) ((congrArg vb_toS (vr_fr_6 W33)).trans hZ6) (fun _ => by rw [vr_fr_S W33 (fun z => z)]; exact vr_tight okd (tA f.d (by omega)) (by rw [(vr_is 1 (by decide) okd).mp ((hd ()).trans (by omega))]; rfl)) (fun _ _ => Yt33) (by omega)
        refine jv_Wp.lift (fun _ Kz => jv_Ev.c jv_i287 (pc' := 243) (S' := []) (G1 := (jv_H K I34 L34 R)) jv_i285 [.ref 196, .int (vl_I (8 + (76800 + f.d))), .int (5 : Int32)] rfl rfl rfl rfl (jv_cal rfl (jv_H_at (jv_rwK hW 196 12 24 (by decide))) rfl rfl) rfl H34 rfl rfl Kz) ?_
        refine jv_Wp.lift (fun _ Kz => jv_Ev.steps jv_i287 1 (pc' := 244) (l' := [(4, .int (1 : Int32)), (3, .int (0 : Int32)), (2, .int (vl_I w30)), (1, .int (0 : Int32)), (0, .ref 196)]) (st' := [.int (0 : Int32)]) rfl Kz) ?_
        refine jv_Wp.of (jv_Ev.ret jv_i287 rfl rfl) ?_
        rw [hQ]
        have md4 : f.kind = 4 := (vr_sm (v := 4) (by omega) (by decide) rfl).mp (Classical.not_not.mp h2)
        have td1 : zd = 1 := (hd ()).symm.trans ((vr_is 1 (by decide) okd).mpr (Classical.not_not.mp h4))
        have fe : w30 ≤ 0 := (vl_I_le (b := 0) (by omega) (by decide)).mp h1
        have a1 : ¬ vx_a1 f (vr_T I L (76800 + f.d)) (vt_num (vx_just f.i)) := by unfold vx_a1; rw [hd (), hs ()]; omega
        have a2 : ¬ (f.n = 11 ∧ f.kind = 7 ∧ f.o = 0) := by omega
        have a3 : ¬ vx_a3 f (vr_T I L (76800 + f.d)) (vt_num (vx_just f.i)) := by unfold vx_a3; rw [hd (), hs ()]; omega
        have e := vx_ar5 a1 a2 a3
        have ev : vx_reckon f (vb_toS (vr_S L33 (8 + (76800 + f.d)))) (vb_toS (vr_S L33 5)) = vx_reckon f (vr_T I L (76800 + f.d)).val (vt_num (vx_just f.i)).val := by
          rw [Y33, vr_fr_S W33 (fun z => z)]
          rw [vx_reckon_cut hfa md4]
          show _ = vx_reckon f (vr_T I L (76800 + f.d)).val (vx_just f.i)
          rw [show (vr_T I L (76800 + f.d)).val = (vb_toS (vr_S L (8 + (76800 + f.d)))) from vr_valv (by rw [(vr_is 1 (by decide) okd).mp ((hd ()).trans (by omega))]; rfl)]
        have g := vq_arE (L := L) (f := f) (c := 0) hd75 oa (by rw [eD, eY]; exact congrArg Prod.fst e) (fun _ => ⟨by rw [eD, eY, e, T34, ev], O34⟩) (vr_fr_trans (vr_fr_P W33 (fun _ z => z.elim)) F34)
        exact ⟨_, _, by rw [g.1]; rfl, g.2, vr_fr_trans (vr_fr_P W33 (fun _ z => z.elim)) F34⟩
  · refine jv_Wp.lift (fun _ Kz => jv_Ev.steps jv_i287 1 (pc' := 68) (l' := [(2, .int (vl_I w30)), (1, .int (0 : Int32)), (0, .ref 196)]) (st' := [.int (vl_I w30)]) rfl Kz) ?_
    refine jv_Wp.of (jv_Ev.ret jv_i287 rfl rfl) ?_
    rw [hQ]
    have fe : ¬ w30 ≤ 0 := fun z => h1 ((vl_I_le (b := 0) (by omega) (by decide)).mpr z)
    have a1 : vx_a1 f (vr_T I L (76800 + f.d)) (vt_num (vx_just f.i)) := by unfold vx_a1; rw [hd (), hs ()]; omega
    have c1 : w30 = 1 := by omega
    have e := vx_ar1 a1
    have g := vq_arE (L := L) (f := f) (c := 1) hd75 oa (by rw [eD, eY]; exact congrArg Prod.fst e) (fun z => absurd z (by decide)) (vr_fr_refl hf)
    exact ⟨_, _, by rw [g.1]; rw [c1], g.2, vr_fr_refl hf⟩