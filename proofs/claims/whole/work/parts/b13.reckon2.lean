/-! part b13: reckoning (gen/tb13.py) -/
theorem vc_move {K : Nat → Option (Nat × Nat)} {I : Nat → Nat → Int32} {L : Nat → Nat → Int64} {R : Nat → Nat → Value} (k : Nat) {d y : Nat} (hC : vc_C K R) (hk : k = 0 ∨ k = 1) (hd : K d = some (8, 10)) (hy : K y = some (8, 10)) (hdl : d < 1000000) (hyl : y < 1000000) (hxd : ∀ q, 167 ≤ q → q ≤ 170 → q ≠ d) (hxy : ∀ q, 167 ≤ q → q ≤ 170 → q ≠ y) (od : vc_ok I L d) (oy : vc_ok I L y) (hn : ¬ (I d 6 = 1 ∧ I y 6 = 1)) (td : I d 6 = 1 → vb_tight (vl_S L d)) (ty : I y 6 = 1 → vb_tight (vl_S L y)) (fd : I d 6 = 2 ∨ I d 6 = 3 → -536870912 ≤ (L d 8).toInt ∧ (L d 8).toInt ≤ 536870912) (fy : I y 6 = 2 ∨ I y 6 = 3 → -536870912 ≤ (L y 8).toInt ∧ (L y 8).toInt ≤ 536870912) {n sl : Nat} : ∃ I1 L1, jv_Ms 32 [.ref 10, .int (vl_I k), .ref d, .ref y] (jv_H K I L R) n sl (some (.int (vl_I (vx_move k (vc_T I L d) (vc_T I L y)).1)), jv_H K I1 L1 R, n, sl) ∧ ((vx_move k (vc_T I L d) (vc_T I L y)).1 = 0 → vc_T I1 L1 d = (vx_move k (vc_T I L d) (vc_T I L y)).2 ∧ vc_ok I1 L1 d) ∧ vc_fr (fun p => p = d ∨ vc_sc p) I L I1 L1 := by
  by_cases hA : I d 6 = 1
  · exact vc_moveA k hC hk hd hy hdl hyl hxd hxy od oy hA (fun z => hn ⟨hA, by rw [z]; exact hA⟩) td fy
  · exact vc_moveB k hC hk hd hy hdl hyl hxd hxy od oy hA ty fd
/-- a reckoning, of the two things: a reason, or what the first becomes -/
abbrev vx_a1 (f : vf_F) (d y : vt_T) : Prop := (f.n ≠ 11 ∧ d.sort = 0) ∨ (f.n ≠ 8 ∧ f.n ≠ 13 ∧ y.sort = 0)
abbrev vx_a3 (f : vf_F) (d y : vt_T) : Prop := (f.n ≠ 11 ∧ d.sort ≠ 1) ∨ (f.n ≠ 8 ∧ f.n ≠ 13 ∧ y.sort ≠ 1)
def vx_ar (f : vf_F) (d y : vt_T) : Nat × vt_T :=
  if vx_a1 f d y then (1, d)
  else if f.n = 11 ∧ f.kind = 7 ∧ f.o = 0 then (0, y)
  else if vx_a3 f d y then (if f.kind = 7 ∧ (f.n = 0 ∨ f.n = 1) then vx_move f.n d y else (2, d))
  else (0, vt_num (vx_reckon f d.val y.val))
theorem vx_ar1 {f : vf_F} {d y : vt_T} (h : vx_a1 f d y) : vx_ar f d y = (1, d) := if_pos h
theorem vx_ar2 {f : vf_F} {d y : vt_T} (h : ¬ vx_a1 f d y) (h2 : f.n = 11 ∧ f.kind = 7 ∧ f.o = 0) : vx_ar f d y = (0, y) := (if_neg h).trans (if_pos h2)
theorem vx_ar3 {f : vf_F} {d y : vt_T} (h : ¬ vx_a1 f d y) (h2 : ¬ (f.n = 11 ∧ f.kind = 7 ∧ f.o = 0)) (h3 : vx_a3 f d y) (h4 : f.kind = 7 ∧ (f.n = 0 ∨ f.n = 1)) : vx_ar f d y = vx_move f.n d y := (if_neg h).trans ((if_neg h2).trans ((if_pos h3).trans (if_pos h4)))
theorem vx_ar4 {f : vf_F} {d y : vt_T} (h : ¬ vx_a1 f d y) (h2 : ¬ (f.n = 11 ∧ f.kind = 7 ∧ f.o = 0)) (h3 : vx_a3 f d y) (h4 : ¬ (f.kind = 7 ∧ (f.n = 0 ∨ f.n = 1))) : vx_ar f d y = (2, d) := (if_neg h).trans ((if_neg h2).trans ((if_pos h3).trans (if_neg h4)))
theorem vx_ar5 {f : vf_F} {d y : vt_T} (h : ¬ vx_a1 f d y) (h2 : ¬ (f.n = 11 ∧ f.kind = 7 ∧ f.o = 0)) (h3 : ¬ vx_a3 f d y) : vx_ar f d y = (0, vt_num (vx_reckon f d.val y.val)) := (if_neg h).trans ((if_neg h2).trans (if_neg h3))
theorem vx_arith_eq (f : vf_F) (A : vt_A) : vx_arith f A = if (vx_ar f (A.1 f.d) (vx_y f A)).1 ≠ 0 then ((vx_ar f (A.1 f.d) (vx_y f A)).1, A) else (0, vt_up A f.d (vx_ar f (A.1 f.d) (vx_y f A)).2) := by
  unfold vx_arith
  dsimp only
  generalize vx_y f A = y
  generalize A.1 f.d = d
  have e1 : ((decide (f.n ≠ 11) = true ∧ d.sort = 0) ∨ ((decide (f.n ≠ 8) && decide (f.n ≠ 13)) = true ∧ y.sort = 0)) ↔ vx_a1 f d y := by
    unfold vx_a1; rw [Bool.and_eq_true, decide_eq_true_eq, decide_eq_true_eq, decide_eq_true_eq, and_assoc]
  have e3 : ((decide (f.n ≠ 11) = true ∧ d.sort ≠ 1) ∨ ((decide (f.n ≠ 8) && decide (f.n ≠ 13)) = true ∧ y.sort ≠ 1)) ↔ vx_a3 f d y := by
    unfold vx_a3; rw [Bool.and_eq_true, decide_eq_true_eq, decide_eq_true_eq, decide_eq_true_eq, and_assoc]
  by_cases c1 : vx_a1 f d y
  · rw [if_pos (e1.mpr c1), vx_ar1 c1]; rfl
  rw [if_neg (fun z => c1 (e1.mp z))]
  by_cases c2 : f.n = 11 ∧ f.kind = 7 ∧ f.o = 0
  · rw [if_pos c2, vx_ar2 c1 c2]; rfl
  rw [if_neg c2]
  by_cases c3 : vx_a3 f d y
  · rw [if_pos (e3.mpr c3)]
    by_cases c4 : f.kind = 7 ∧ (f.n = 0 ∨ f.n = 1)
    · rw [if_pos c4, vx_ar3 c1 c2 c3 c4]
    · rw [if_neg c4, vx_ar4 c1 c2 c3 c4]; rfl
  · rw [if_neg (fun z => c3 (e3.mp z)), vx_ar5 c1 c2 c3]; rfl
theorem vx_rk13 {f : vf_F} {x y : vb_S} (h : f.n = 13) : vx_reckon f x y = if f.kind = 7 ∨ f.bit3 = true then vx_swap x f.i.toNat else vx_cut x f.i.toNat := if_pos h
theorem vx_rko {f : vf_F} {x y : vb_S} (h : ¬ f.n = 13) (ho : f.o ≠ 0) : vx_reckon f x y = vx_cut (if f.n = 11 then vx_ext y f.o.toNat else vb_any) (if f.kind = 7 then 64 else 32) := (if_neg h).trans (if_pos ho)
theorem vx_rn_eq (n : Nat) (p : Prop) [Decidable p] (x y : vb_S) : vx_rn n (decide p) x y = if p then vx_op n x y 63 else vx_op32 n x y := by
  unfold vx_rn
  by_cases h : p
  · rw [decide_eq_true h, if_pos rfl, if_pos h]
  · rw [decide_eq_false h, if_neg (by decide), if_neg h]
theorem vx_rk8 {f : vf_F} {x y : vb_S} (h : ¬ f.n = 13) (ho : ¬ f.o ≠ 0) (h8 : f.n = 8) : vx_reckon f x y = vx_rn 1 (decide (f.kind = 7)) (vb_just 0) x := ((if_neg h).trans ((if_neg ho).trans (if_pos h8))).trans (vx_rn_eq _ _ _ _).symm
theorem vx_rkr {f : vf_F} {x y : vb_S} (h : ¬ f.n = 13) (ho : ¬ f.o ≠ 0) (h8 : ¬ f.n = 8) : vx_reckon f x y = vx_rn f.n (decide (f.kind = 7)) x y := ((if_neg h).trans ((if_neg ho).trans (if_neg h8))).trans (vx_rn_eq _ _ _ _).symm
theorem vx_rn11 (wd : Bool) (x x' y : vb_S) : vx_rn 11 wd x y = vx_rn 11 wd x' y := by
  unfold vx_rn vx_op32 vx_op
  rw [vb_cOp11, vb_cOp11, vb_cOp11, vb_cOp11]
theorem vx_ite_dec (p : Prop) [Decidable p] : (if decide p = true then (64 : Nat) else 32) = if p then 64 else 32 := by
  by_cases h : p
  · rw [decide_eq_true h, if_pos rfl, if_pos h]
  · rw [decide_eq_false h, if_neg (by decide), if_neg h]
theorem vw_n16 (w : Int64) : (vc_F w).n < 16 := by
  have h : (vc_F w).code < 256 := Nat.mod_lt _ (by decide)
  unfold vf_F.n; omega
theorem vw_i {w : Int64} {m : Nat} (hm : m < 2147483648) (h : (vc_F w).i = (m : Int)) : jv_wfimmediate w = vl_I m := Int32.toInt_inj.mp (h.trans (vl_I_int hm).symm)
theorem vw_o {w : Int64} {m : Nat} (hm : m < 2147483648) (h : (vc_F w).o = (m : Int)) : jv_wfoffset w = vl_I m := Int32.toInt_inj.mp (h.trans (vl_I_int hm).symm)
theorem vw_turn {w : Int64} (hf : vf_ok (vc_F w)) (hk : (vc_F w).kind = 4 ∨ (vc_F w).kind = 7) (hn : (vc_F w).n = 13) : ∃ mi, jv_wfimmediate w = vl_I mi ∧ (mi = 16 ∨ mi = 32 ∨ mi = 64) ∧ (vc_F w).i = (mi : Int) := by
  rcases hf.1 hk hn with h | h | h
  · exact ⟨16, vw_i (by decide) h, Or.inl rfl, h⟩
  · exact ⟨32, vw_i (by decide) h, Or.inr (Or.inl rfl), h⟩
  · exact ⟨64, vw_i (by decide) h, Or.inr (Or.inr rfl), h⟩
theorem vw_rwo {w : Int64} (hf : vf_ok (vc_F w)) (hk : (vc_F w).kind = 4 ∨ (vc_F w).kind = 7) (hn : (vc_F w).n = 11) (ho : (vc_F w).o ≠ 0) : ∃ mo, jv_wfoffset w = vl_I mo ∧ (mo = 8 ∨ mo = 16 ∨ mo = 32) ∧ (vc_F w).o = (mo : Int) := by
  rcases hf.2.1 hk (by omega) ho hn with h | h | h
  · exact ⟨8, vw_o (by decide) h, Or.inl rfl, h⟩
  · exact ⟨16, vw_o (by decide) h, Or.inr (Or.inl rfl), h⟩
  · exact ⟨32, vw_o (by decide) h, Or.inr (Or.inr rfl), h⟩
theorem jv_i28 : jv_I 28 9 (some .int) 5 131 jv_c28 := ⟨rfl, rfl, rfl, rfl, rfl⟩
theorem vc_rtail {K : Nat → Option (Nat × Nat)} {I : Nat → Nat → Int32} {L : Nat → Nat → Int64} {R : Nat → Nat → Value} (w : Int64) (wd : Bool) {d y : Nat} (hC : vc_C K R) (hf : vf_ok (vc_F w)) (hk : (vc_F w).kind = 4 ∨ (vc_F w).kind = 7) (hwd : wd = decide ((vc_F w).kind = 7)) (hd : K d = some (8, 10)) (hy : K y = some (8, 10)) (hdl : d < 1000000) (hyl : y < 1000000) (hxd : ∀ q, 167 ≤ q → q ≤ 170 → q ≠ d) (hxy : ∀ q, 167 ≤ q → q ≤ 170 → q ≠ y) (hd166 : ¬ d = 166) (od : vc_ok I L d) (oy : vc_ok I L y) (td : I d 6 = 1 → vb_tight (vl_S L d)) (ty : I y 6 = 1 → vb_tight (vl_S L y)) (fd : I d 6 = 2 ∨ I d 6 = 3 → -536870912 ≤ (L d 8).toInt ∧ (L d 8).toInt ≤ 536870912) (fy : I y 6 = 2 ∨ I y 6 = 3 → -536870912 ≤ (L y 8).toInt ∧ (L y 8).toInt ≤ 536870912) {n sl : Nat} {Q : jv_R → Prop} (hQ : Q = fun X => ∃ I1 L1, X = (some (.int (vl_I (vx_ar (vc_F w) (vc_T I L d) (vc_T I L y)).1)), jv_H K I1 L1 R, n, sl) ∧ ((vx_ar (vc_F w) (vc_T I L d) (vc_T I L y)).1 = 0 → vc_T I1 L1 d = (vx_ar (vc_F w) (vc_T I L d) (vc_T I L y)).2 ∧ vc_ok I1 L1 d) ∧ vc_fr (fun p => p = d ∨ p = 166 ∨ vc_sc p) I L I1 L1) : jv_Wp 28 40 [(0, .ref 10), (1, .long w), (3, .int (vl_I (vc_F w).n)), (4, .int (vr_b wd)), (5, .ref d)] [.ref y] (jv_H K I L R) n sl Q := by
  have hn16 := vw_n16 w
  refine jv_Wp.lift (fun _ Kz => jv_Ev.steps jv_i28 3 (pc' := 45) (l' := [(6, .ref y), (0, .ref 10), (1, .long w), (3, .int (vl_I (vc_F w).n)), (4, .int (vr_b wd)), (5, .ref d)]) (st' := [.int (11 : Int32), .int (vl_I (vc_F w).n)]) rfl Kz) ?_
  refine jv_Wp.cnd jv_i28 (pt := 52) (pe := 48) (p := ((vl_I (vc_F w).n) = (11 : Int32))) (q := ((vl_I (vc_F w).n) = (11 : Int32))) rfl jv_bc_eq rfl rfl Iff.rfl (fun h1 => ?_) (fun h1 => ?_)
  · refine jv_Wp.lift (fun _ Kz => jv_Ev.steps jv_i28 4 (pc' := 58) (l' := [(7, .int (0 : Int32)), (6, .ref y), (0, .ref 10), (1, .long w), (3, .int (vl_I (vc_F w).n)), (4, .int (vr_b wd)), (5, .ref d)]) (st' := [.int (8 : Int32), .int (vl_I (vc_F w).n)]) rfl Kz) ?_
    refine jv_Wp.cnd jv_i28 (pt := 71) (pe := 61) (p := ((vl_I (vc_F w).n) = (8 : Int32))) (q := ((vl_I (vc_F w).n) = (8 : Int32))) rfl jv_bc_eq rfl rfl Iff.rfl (fun hz => absurd hz (fun z => absurd (z.symm.trans h1) (by decide))) (fun _ => ?_)
    refine jv_Wp.lift (fun _ Kz => jv_Ev.steps jv_i28 2 (pc' := 64) (l' := [(7, .int (0 : Int32)), (6, .ref y), (0, .ref 10), (1, .long w), (3, .int (vl_I (vc_F w).n)), (4, .int (vr_b wd)), (5, .ref d)]) (st' := [.int (13 : Int32), .int (vl_I (vc_F w).n)]) rfl Kz) ?_
    refine jv_Wp.cnd jv_i28 (pt := 71) (pe := 67) (p := ((vl_I (vc_F w).n) = (13 : Int32))) (q := ((vl_I (vc_F w).n) = (13 : Int32))) rfl jv_bc_eq rfl rfl Iff.rfl (fun hz => absurd hz (fun z => absurd (z.symm.trans h1) (by decide))) (fun _ => ?_)
    refine jv_Wp.lift (fun _ Kz => jv_Ev.steps jv_i28 4 (pc' := 76) (l' := [(8, .int (1 : Int32)), (7, .int (0 : Int32)), (6, .ref y), (0, .ref 10), (1, .long w), (3, .int (vl_I (vc_F w).n)), (4, .int (vr_b wd)), (5, .ref d)]) (st' := [.int (0 : Int32)]) rfl Kz) ?_
    refine jv_Wp.lift (fun _ Kz => jv_Ev.br jv_i28 (pc' := 87) (st' := []) rfl (by rfl) Kz) ?_
    refine jv_Wp.lift (fun _ Kz => jv_Ev.steps jv_i28 1 (pc' := 89) (l' := [(8, .int (1 : Int32)), (7, .int (0 : Int32)), (6, .ref y), (0, .ref 10), (1, .long w), (3, .int (vl_I (vc_F w).n)), (4, .int (vr_b wd)), (5, .ref d)]) (st' := [.int (1 : Int32)]) rfl Kz) ?_
    refine jv_Wp.lift (fun _ Kz => jv_Ev.br jv_i28 (pc' := 92) (st' := []) rfl (by rfl) Kz) ?_
    refine jv_Wp.lift (fun _ Kz => jv_Ev.steps jv_i28 1 (pc' := 94) (l' := [(8, .int (1 : Int32)), (7, .int (0 : Int32)), (6, .ref y), (0, .ref 10), (1, .long w), (3, .int (vl_I (vc_F w).n)), (4, .int (vr_b wd)), (5, .ref d)]) (st' := [.ref y]) rfl Kz) ?_
    refine jv_Wp.lift (fun _ Kz => jv_Ev.m jv_i28 (pc' := 97) (st' := [.int (I y 6)]) (G' := (jv_H K I L R)) rfl rfl (jv_m_getI hy rfl rfl rfl) Kz) ?_
    refine jv_Wp.cnd jv_i28 (pt := 102) (pe := 100) (p := (¬ (I y 6) = 0)) (q := (¬ (I y 6) = 0)) rfl jv_bi_ne rfl rfl Iff.rfl (fun h2 => ?_) (fun h2 => ?_)
    · refine jv_Wp.lift (fun _ Kz => jv_Ev.steps jv_i28 2 (pc' := 105) (l' := [(8, .int (1 : Int32)), (7, .int (0 : Int32)), (6, .ref y), (0, .ref 10), (1, .long w), (3, .int (vl_I (vc_F w).n)), (4, .int (vr_b wd)), (5, .ref d)]) (st' := [.int (11 : Int32), .int (vl_I (vc_F w).n)]) rfl Kz) ?_
      refine jv_Wp.cnd jv_i28 (pt := 129) (pe := 108) (p := (¬ (vl_I (vc_F w).n) = (11 : Int32))) (q := (¬ (vl_I (vc_F w).n) = (11 : Int32))) rfl jv_bc_ne rfl rfl Iff.rfl (fun hz => absurd hz (fun z => z h1)) (fun _ => ?_)
      refine jv_Wp.lift (fun _ Kz => jv_Ev.steps jv_i28 1 (pc' := 110) (l' := [(8, .int (1 : Int32)), (7, .int (0 : Int32)), (6, .ref y), (0, .ref 10), (1, .long w), (3, .int (vl_I (vc_F w).n)), (4, .int (vr_b wd)), (5, .ref d)]) (st' := [.int (vr_b wd)]) rfl Kz) ?_
      refine jv_Wp.cnd jv_i28 (pt := 129) (pe := 113) (p := ((vr_b wd) = 0)) (q := ((vr_b wd) = 0)) rfl jv_bi_eq rfl rfl Iff.rfl (fun h3 => ?_) (fun h3 => ?_)
      · refine jv_Wp.lift (fun _ Kz => jv_Ev.steps jv_i28 1 (pc' := 131) (l' := [(8, .int (1 : Int32)), (7, .int (0 : Int32)), (6, .ref y), (0, .ref 10), (1, .long w), (3, .int (vl_I (vc_F w).n)), (4, .int (vr_b wd)), (5, .ref d)]) (st' := [.int (0 : Int32)]) rfl Kz) ?_
        refine jv_Wp.lift (fun _ Kz => jv_Ev.br jv_i28 (pc' := 143) (st' := []) rfl (by rfl) Kz) ?_
        refine jv_Wp.lift (fun _ Kz => jv_Ev.steps jv_i28 1 (pc' := 145) (l' := [(8, .int (1 : Int32)), (7, .int (0 : Int32)), (6, .ref y), (0, .ref 10), (1, .long w), (3, .int (vl_I (vc_F w).n)), (4, .int (vr_b wd)), (5, .ref d)]) (st' := [.int (1 : Int32)]) rfl Kz) ?_
        refine jv_Wp.lift (fun _ Kz => jv_Ev.br jv_i28 (pc' := 148) (st' := []) rfl (by rfl) Kz) ?_
        refine jv_Wp.lift (fun _ Kz => jv_Ev.steps jv_i28 1 (pc' := 150) (l' := [(8, .int (1 : Int32)), (7, .int (0 : Int32)), (6, .ref y), (0, .ref 10), (1, .long w), (3, .int (vl_I (vc_F w).n)), (4, .int (vr_b wd)), (5, .ref d)]) (st' := [.ref y]) rfl Kz) ?_
        refine jv_Wp.lift (fun _ Kz => jv_Ev.m jv_i28 (pc' := 153) (st' := [.int (I y 6)]) (G' := (jv_H K I L R)) rfl rfl (jv_m_getI hy rfl rfl rfl) Kz) ?_
        refine jv_Wp.lift (fun _ Kz => jv_Ev.steps jv_i28 1 (pc' := 154) (l' := [(8, .int (1 : Int32)), (7, .int (0 : Int32)), (6, .ref y), (0, .ref 10), (1, .long w), (3, .int (vl_I (vc_F w).n)), (4, .int (vr_b wd)), (5, .ref d)]) (st' := [.int (1 : Int32), .int (I y 6)]) rfl Kz) ?_
        refine jv_Wp.cnd jv_i28 (pt := 185) (pe := 157) (p := ((I y 6) = (1 : Int32))) (q := ((I y 6) = (1 : Int32))) rfl jv_bc_eq rfl rfl Iff.rfl (fun h4 => ?_) (fun h4 => ?_)
        · refine jv_Wp.lift (fun _ Kz => jv_Ev.steps jv_i28 2 (pc' := 188) (l' := [(8, .int (1 : Int32)), (7, .int (0 : Int32)), (6, .ref y), (0, .ref 10), (1, .long w), (3, .int (vl_I (vc_F w).n)), (4, .int (vr_b wd)), (5, .ref d)]) (st' := [.int (13 : Int32), .int (vl_I (vc_F w).n)]) rfl Kz) ?_
          refine jv_Wp.cnd jv_i28 (pt := 201) (pe := 191) (p := (¬ (vl_I (vc_F w).n) = (13 : Int32))) (q := (¬ (vl_I (vc_F w).n) = (13 : Int32))) rfl jv_bc_ne rfl rfl Iff.rfl (fun _ => ?_) (fun hz => absurd (fun z => absurd (z.symm.trans h1) (by decide)) hz)
          refine jv_Wp.lift (fun _ Kz => jv_Ev.steps jv_i28 1 (pc' := 202) (l' := [(8, .int (1 : Int32)), (7, .int (0 : Int32)), (6, .ref y), (0, .ref 10), (1, .long w), (3, .int (vl_I (vc_F w).n)), (4, .int (vr_b wd)), (5, .ref d)]) (st' := [.long w]) rfl Kz) ?_
          refine jv_Wp.lift (fun _ Kz => jv_Ev.c jv_i28 (pc' := 205) (S' := [.int (jv_wfoffset w)]) jv_i88 [.long w] rfl rfl rfl rfl rfl rfl (jv_s88 w) rfl rfl Kz) ?_
          refine jv_Wp.cnd jv_i28 (pt := 224) (pe := 208) (p := ((jv_wfoffset w) = 0)) (q := ((jv_wfoffset w) = 0)) rfl jv_bi_eq rfl rfl Iff.rfl (fun h5 => ?_) (fun h5 => ?_)
          · refine jv_Wp.lift (fun _ Kz => jv_Ev.steps jv_i28 2 (pc' := 227) (l' := [(8, .int (1 : Int32)), (7, .int (0 : Int32)), (6, .ref y), (0, .ref 10), (1, .long w), (3, .int (vl_I (vc_F w).n)), (4, .int (vr_b wd)), (5, .ref d)]) (st' := [.int (8 : Int32), .int (vl_I (vc_F w).n)]) rfl Kz) ?_
            refine jv_Wp.cnd jv_i28 (pt := 254) (pe := 230) (p := (¬ (vl_I (vc_F w).n) = (8 : Int32))) (q := (¬ (vl_I (vc_F w).n) = (8 : Int32))) rfl jv_bc_ne rfl rfl Iff.rfl (fun _ => ?_) (fun hz => absurd (fun z => absurd (z.symm.trans h1) (by decide)) hz)
            refine jv_Wp.lift (fun _ Kz => jv_Ev.steps jv_i28 5 (pc' := 262) (l' := [(8, .int (1 : Int32)), (7, .int (0 : Int32)), (6, .ref y), (0, .ref 10), (1, .long w), (3, .int (vl_I (vc_F w).n)), (4, .int (vr_b wd)), (5, .ref d)]) (st' := [.ref y, .ref d, .int (vr_b wd), .int (vl_I (vc_F w).n), .ref 10]) rfl Kz) ?_
            have f1 : (vc_F w).n = 11 := (vl_I_inj (by omega) (by decide)).mp h1
            have f2 : ¬ (vc_T I L y).sort = 0 := fun z => h2 ((vc_is0 oy).mp z)
            have f3 : ¬ (vc_F w).kind = 7 := of_decide_eq_false (hwd.symm.trans (by cases wd <;> first | rfl | exact absurd h3 (by decide)))
            have f4 : (vc_T I L y).sort = 1 := (vc_is1 oy).mpr h4
            have f5 : (vc_F w).o = 0 := congrArg Int32.toInt h5
            obtain ⟨I1, L1, H1, S1, F1⟩ := vc_rn (I := I) (L := L) (R := R) (n := n) (sl := sl) (vc_F w).n wd hC (vw_n16 w) (vc_Th_V hd) (vc_Th_V hy) hxd hxy (ty ((vc_is1 oy).mp (by omega)))
            refine jv_Wp.lift (fun _ Kz => jv_Ev.c jv_i28 (pc' := 265) (S' := []) (G1 := (jv_H K I1 L1 R)) jv_i31 [.ref 10, .int (vl_I (vc_F w).n), .int (vr_b wd), .ref d, .ref y] rfl rfl rfl rfl (jv_cal rfl (jv_H_at hC.k) rfl rfl) rfl H1 rfl rfl Kz) ?_
            refine jv_Wp.lift (fun _ Kz => jv_Ev.steps jv_i28 2 (pc' := 268) (l' := [(8, .int (1 : Int32)), (7, .int (0 : Int32)), (6, .ref y), (0, .ref 10), (1, .long w), (3, .int (vl_I (vc_F w).n)), (4, .int (vr_b wd)), (5, .ref d)]) (st' := [.ref 10, .ref d]) rfl Kz) ?_
            refine jv_Wp.lift (fun _ Kz => jv_Ev.m jv_i28 (pc' := 271) (st' := [.ref 169, .ref d]) (G' := (jv_H K I1 L1 R)) rfl rfl (jv_m_getR hC.k rfl rfl hC.rout) Kz) ?_
            have f1 : (vc_F w).n = 11 := (vl_I_inj (by omega) (by decide)).mp h1
            have f2 : ¬ (vc_T I L y).sort = 0 := fun z => h2 ((vc_is0 oy).mp z)
            have f3 : ¬ (vc_F w).kind = 7 := of_decide_eq_false (hwd.symm.trans (by cases wd <;> first | rfl | exact absurd h3 (by decide)))
            have f4 : (vc_T I L y).sort = 1 := (vc_is1 oy).mpr h4
            have f5 : (vc_F w).o = 0 := congrArg Int32.toInt h5
            obtain ⟨I2, L2, H2, T2, O2, F2⟩ := vc_num (I := I1) (L := L1) (R := R) (n := n) (sl := sl) hd (Or.inl hC.k169)
            refine jv_Wp.lift (fun _ Kz => jv_Ev.c jv_i28 (pc' := 274) (S' := []) (G1 := (jv_H K I2 L2 R)) jv_i142 [.ref d, .ref 169] rfl rfl rfl rfl (jv_cal rfl (jv_H_at hd) rfl rfl) rfl H2 rfl rfl Kz) ?_
            refine jv_Wp.lift (fun _ Kz => jv_Ev.steps jv_i28 1 (pc' := 275) (l' := [(8, .int (1 : Int32)), (7, .int (0 : Int32)), (6, .ref y), (0, .ref 10), (1, .long w), (3, .int (vl_I (vc_F w).n)), (4, .int (vr_b wd)), (5, .ref d)]) (st' := [.int (0 : Int32)]) rfl Kz) ?_
            refine jv_Wp.of (jv_Ev.ret jv_i28 rfl rfl) ?_
            have f1 : (vc_F w).n = 11 := (vl_I_inj (by omega) (by decide)).mp h1
            have f2 : ¬ (vc_T I L y).sort = 0 := fun z => h2 ((vc_is0 oy).mp z)
            have f3 : ¬ (vc_F w).kind = 7 := of_decide_eq_false (hwd.symm.trans (by cases wd <;> first | rfl | exact absurd h3 (by decide)))
            have f4 : (vc_T I L y).sort = 1 := (vc_is1 oy).mpr h4
            have f5 : (vc_F w).o = 0 := congrArg Int32.toInt h5
            rw [hQ]
            have a1 : ¬ vx_a1 (vc_F w) (vc_T I L d) (vc_T I L y) := by unfold vx_a1; omega
            have a2 : ¬ ((vc_F w).n = 11 ∧ (vc_F w).kind = 7 ∧ (vc_F w).o = 0) := by omega
            have a3 : ¬ vx_a3 (vc_F w) (vc_T I L d) (vc_T I L y) := by unfold vx_a3; omega
            have e := vx_ar5 a1 a2 a3
            have xy : (vc_T I L y).val = vl_S L y := vc_valv (Or.inl ((vc_is1 oy).mp (by omega)))
            have ev : vl_S L1 169 = vx_reckon (vc_F w) (vc_T I L d).val (vc_T I L y).val := by
              rw [vx_rkr (show ¬ (vc_F w).n = 13 by omega) (show ¬ (vc_F w).o ≠ 0 by omega) (show ¬ (vc_F w).n = 8 by omega), xy, S1, hwd, show (vc_F w).n = 11 by omega]
              exact vx_rn11 _ _ _ _
            exact ⟨_, _, by rw [e]; rfl, fun _ => ⟨by rw [e, T2, ev], O2⟩, vc_fr_trans (vc_fr_mono F1 (fun p z => Or.inr (Or.inr z))) (vc_fr_mono F2 (fun p z => Or.inl z))⟩
          · refine jv_Wp.lift (fun _ Kz => jv_Ev.steps jv_i28 5 (pc' := 215) (l' := [(8, .int (1 : Int32)), (7, .int (0 : Int32)), (6, .ref y), (0, .ref 10), (1, .long w), (3, .int (vl_I (vc_F w).n)), (4, .int (vr_b wd)), (5, .ref d)]) (st' := [.long w, .ref y, .int (vr_b wd), .int (vl_I (vc_F w).n), .ref 10]) rfl Kz) ?_
            refine jv_Wp.lift (fun _ Kz => jv_Ev.c jv_i28 (pc' := 218) (S' := [.int (jv_wfoffset w), .ref y, .int (vr_b wd), .int (vl_I (vc_F w).n), .ref 10]) jv_i88 [.long w] rfl rfl rfl rfl rfl rfl (jv_s88 w) rfl rfl Kz) ?_
            have f1 : (vc_F w).n = 11 := (vl_I_inj (by omega) (by decide)).mp h1
            have f2 : ¬ (vc_T I L y).sort = 0 := fun z => h2 ((vc_is0 oy).mp z)
            have f3 : ¬ (vc_F w).kind = 7 := of_decide_eq_false (hwd.symm.trans (by cases wd <;> first | rfl | exact absurd h3 (by decide)))
            have f4 : (vc_T I L y).sort = 1 := (vc_is1 oy).mpr h4
            have f5 : ¬ (vc_F w).o = 0 := fun z => h5 (Int32.toInt_inj.mp z)
            obtain ⟨mo, hom, hmo, ho⟩ := vw_rwo hf hk (show (vc_F w).n = 11 by omega) (show (vc_F w).o ≠ 0 by omega)
            obtain ⟨I3, L3, H3, S3, F3⟩ := vc_rwo11 (I := I) (L := L) (R := R) (n := n) (sl := sl) mo wd hC (vc_Th_V hy) hxy hmo
            rw [← hom, ← show (vc_F w).n = 11 by omega] at H3
            refine jv_Wp.lift (fun _ Kz => jv_Ev.c jv_i28 (pc' := 221) (S' := []) (G1 := (jv_H K I3 L3 R)) jv_i30 [.ref 10, .int (vl_I (vc_F w).n), .int (vr_b wd), .ref y, .int (jv_wfoffset w)] rfl rfl rfl rfl (jv_cal rfl (jv_H_at hC.k) rfl rfl) rfl H3 rfl rfl Kz) ?_
            refine jv_Wp.lift (fun _ Kz => jv_Ev.steps jv_i28 3 (pc' := 268) (l' := [(8, .int (1 : Int32)), (7, .int (0 : Int32)), (6, .ref y), (0, .ref 10), (1, .long w), (3, .int (vl_I (vc_F w).n)), (4, .int (vr_b wd)), (5, .ref d)]) (st' := [.ref 10, .ref d]) rfl Kz) ?_
            refine jv_Wp.lift (fun _ Kz => jv_Ev.m jv_i28 (pc' := 271) (st' := [.ref 169, .ref d]) (G' := (jv_H K I3 L3 R)) rfl rfl (jv_m_getR hC.k rfl rfl hC.rout) Kz) ?_
            have f1 : (vc_F w).n = 11 := (vl_I_inj (by omega) (by decide)).mp h1
            have f2 : ¬ (vc_T I L y).sort = 0 := fun z => h2 ((vc_is0 oy).mp z)
            have f3 : ¬ (vc_F w).kind = 7 := of_decide_eq_false (hwd.symm.trans (by cases wd <;> first | rfl | exact absurd h3 (by decide)))
            have f4 : (vc_T I L y).sort = 1 := (vc_is1 oy).mpr h4
            have f5 : ¬ (vc_F w).o = 0 := fun z => h5 (Int32.toInt_inj.mp z)
            obtain ⟨I4, L4, H4, T4, O4, F4⟩ := vc_num (I := I3) (L := L3) (R := R) (n := n) (sl := sl) hd (Or.inl hC.k169)
            refine jv_Wp.lift (fun _ Kz => jv_Ev.c jv_i28 (pc' := 274) (S' := []) (G1 := (jv_H K I4 L4 R)) jv_i142 [.ref d, .ref 169] rfl rfl rfl rfl (jv_cal rfl (jv_H_at hd) rfl rfl) rfl H4 rfl rfl Kz) ?_
            refine jv_Wp.lift (fun _ Kz => jv_Ev.steps jv_i28 1 (pc' := 275) (l' := [(8, .int (1 : Int32)), (7, .int (0 : Int32)), (6, .ref y), (0, .ref 10), (1, .long w), (3, .int (vl_I (vc_F w).n)), (4, .int (vr_b wd)), (5, .ref d)]) (st' := [.int (0 : Int32)]) rfl Kz) ?_
            refine jv_Wp.of (jv_Ev.ret jv_i28 rfl rfl) ?_
            have f1 : (vc_F w).n = 11 := (vl_I_inj (by omega) (by decide)).mp h1
            have f2 : ¬ (vc_T I L y).sort = 0 := fun z => h2 ((vc_is0 oy).mp z)
            have f3 : ¬ (vc_F w).kind = 7 := of_decide_eq_false (hwd.symm.trans (by cases wd <;> first | rfl | exact absurd h3 (by decide)))
            have f4 : (vc_T I L y).sort = 1 := (vc_is1 oy).mpr h4
            have f5 : ¬ (vc_F w).o = 0 := fun z => h5 (Int32.toInt_inj.mp z)
            rw [hQ]
            have a1 : ¬ vx_a1 (vc_F w) (vc_T I L d) (vc_T I L y) := by unfold vx_a1; omega
            have a2 : ¬ ((vc_F w).n = 11 ∧ (vc_F w).kind = 7 ∧ (vc_F w).o = 0) := by omega
            have a3 : ¬ vx_a3 (vc_F w) (vc_T I L d) (vc_T I L y) := by unfold vx_a3; omega
            have e := vx_ar5 a1 a2 a3
            have xy : (vc_T I L y).val = vl_S L y := vc_valv (Or.inl ((vc_is1 oy).mp (by omega)))
            have ev : vl_S L3 169 = vx_reckon (vc_F w) (vc_T I L d).val (vc_T I L y).val := by rw [vx_rko (show ¬ (vc_F w).n = 13 by omega) (show (vc_F w).o ≠ 0 by omega), if_pos (show (vc_F w).n = 11 by omega), xy, show (vc_F w).o.toNat = mo by omega, S3, hwd, vx_ite_dec]
            exact ⟨_, _, by rw [e]; rfl, fun _ => ⟨by rw [e, T4, ev], O4⟩, vc_fr_trans (vc_fr_mono F3 (fun p z => Or.inr (Or.inr z))) (vc_fr_mono F4 (fun p z => Or.inl z))⟩
        · refine jv_Wp.lift (fun _ Kz => jv_Ev.steps jv_i28 1 (pc' := 159) (l' := [(8, .int (1 : Int32)), (7, .int (0 : Int32)), (6, .ref y), (0, .ref 10), (1, .long w), (3, .int (vl_I (vc_F w).n)), (4, .int (vr_b wd)), (5, .ref d)]) (st' := [.int (vr_b wd)]) rfl Kz) ?_
          refine jv_Wp.cnd jv_i28 (pt := 183) (pe := 162) (p := ((vr_b wd) = 0)) (q := ((vr_b wd) = 0)) rfl jv_bi_eq rfl rfl Iff.rfl (fun _ => ?_) (fun hz => absurd h3 hz)
          refine jv_Wp.lift (fun _ Kz => jv_Ev.steps jv_i28 1 (pc' := 184) (l' := [(8, .int (1 : Int32)), (7, .int (0 : Int32)), (6, .ref y), (0, .ref 10), (1, .long w), (3, .int (vl_I (vc_F w).n)), (4, .int (vr_b wd)), (5, .ref d)]) (st' := [.int (2 : Int32)]) rfl Kz) ?_
          refine jv_Wp.of (jv_Ev.ret jv_i28 rfl rfl) ?_
          have f1 : (vc_F w).n = 11 := (vl_I_inj (by omega) (by decide)).mp h1
          have f2 : ¬ (vc_T I L y).sort = 0 := fun z => h2 ((vc_is0 oy).mp z)
          have f3 : ¬ (vc_F w).kind = 7 := of_decide_eq_false (hwd.symm.trans (by cases wd <;> first | rfl | exact absurd h3 (by decide)))
          have f4 : ¬ (vc_T I L y).sort = 1 := fun z => h4 ((vc_is1 oy).mp z)
          rw [hQ]
          have a1 : ¬ vx_a1 (vc_F w) (vc_T I L d) (vc_T I L y) := by unfold vx_a1; omega
          have a2 : ¬ ((vc_F w).n = 11 ∧ (vc_F w).kind = 7 ∧ (vc_F w).o = 0) := by omega
          have a3 : vx_a3 (vc_F w) (vc_T I L d) (vc_T I L y) := by unfold vx_a3; omega
          have a4 : ¬ ((vc_F w).kind = 7 ∧ ((vc_F w).n = 0 ∨ (vc_F w).n = 1)) := by omega
          have e : vx_ar (vc_F w) (vc_T I L d) (vc_T I L y) = (2, (vc_T I L d)) := vx_ar4 a1 a2 a3 a4
          exact ⟨I, L, by rw [e]; rfl, fun z => by rw [e] at z; exact absurd (show (2 : Nat) = 0 from z) (by decide), vc_fr_refl _ _⟩
      · refine jv_Wp.lift (fun _ Kz => jv_Ev.steps jv_i28 1 (pc' := 114) (l' := [(8, .int (1 : Int32)), (7, .int (0 : Int32)), (6, .ref y), (0, .ref 10), (1, .long w), (3, .int (vl_I (vc_F w).n)), (4, .int (vr_b wd)), (5, .ref d)]) (st' := [.long w]) rfl Kz) ?_
        refine jv_Wp.lift (fun _ Kz => jv_Ev.c jv_i28 (pc' := 117) (S' := [.int (jv_wfoffset w)]) jv_i88 [.long w] rfl rfl rfl rfl rfl rfl (jv_s88 w) rfl rfl Kz) ?_
        refine jv_Wp.cnd jv_i28 (pt := 129) (pe := 120) (p := (¬ (jv_wfoffset w) = 0)) (q := (¬ (jv_wfoffset w) = 0)) rfl jv_bi_ne rfl rfl Iff.rfl (fun h6 => ?_) (fun h6 => ?_)
        · refine jv_Wp.lift (fun _ Kz => jv_Ev.steps jv_i28 1 (pc' := 131) (l' := [(8, .int (1 : Int32)), (7, .int (0 : Int32)), (6, .ref y), (0, .ref 10), (1, .long w), (3, .int (vl_I (vc_F w).n)), (4, .int (vr_b wd)), (5, .ref d)]) (st' := [.int (0 : Int32)]) rfl Kz) ?_
          refine jv_Wp.lift (fun _ Kz => jv_Ev.br jv_i28 (pc' := 143) (st' := []) rfl (by rfl) Kz) ?_
          refine jv_Wp.lift (fun _ Kz => jv_Ev.steps jv_i28 1 (pc' := 145) (l' := [(8, .int (1 : Int32)), (7, .int (0 : Int32)), (6, .ref y), (0, .ref 10), (1, .long w), (3, .int (vl_I (vc_F w).n)), (4, .int (vr_b wd)), (5, .ref d)]) (st' := [.int (1 : Int32)]) rfl Kz) ?_
          refine jv_Wp.lift (fun _ Kz => jv_Ev.br jv_i28 (pc' := 148) (st' := []) rfl (by rfl) Kz) ?_
          refine jv_Wp.lift (fun _ Kz => jv_Ev.steps jv_i28 1 (pc' := 150) (l' := [(8, .int (1 : Int32)), (7, .int (0 : Int32)), (6, .ref y), (0, .ref 10), (1, .long w), (3, .int (vl_I (vc_F w).n)), (4, .int (vr_b wd)), (5, .ref d)]) (st' := [.ref y]) rfl Kz) ?_
          refine jv_Wp.lift (fun _ Kz => jv_Ev.m jv_i28 (pc' := 153) (st' := [.int (I y 6)]) (G' := (jv_H K I L R)) rfl rfl (jv_m_getI hy rfl rfl rfl) Kz) ?_
          refine jv_Wp.lift (fun _ Kz => jv_Ev.steps jv_i28 1 (pc' := 154) (l' := [(8, .int (1 : Int32)), (7, .int (0 : Int32)), (6, .ref y), (0, .ref 10), (1, .long w), (3, .int (vl_I (vc_F w).n)), (4, .int (vr_b wd)), (5, .ref d)]) (st' := [.int (1 : Int32), .int (I y 6)]) rfl Kz) ?_
          refine jv_Wp.cnd jv_i28 (pt := 185) (pe := 157) (p := ((I y 6) = (1 : Int32))) (q := ((I y 6) = (1 : Int32))) rfl jv_bc_eq rfl rfl Iff.rfl (fun h7 => ?_) (fun h7 => ?_)
          · refine jv_Wp.lift (fun _ Kz => jv_Ev.steps jv_i28 2 (pc' := 188) (l' := [(8, .int (1 : Int32)), (7, .int (0 : Int32)), (6, .ref y), (0, .ref 10), (1, .long w), (3, .int (vl_I (vc_F w).n)), (4, .int (vr_b wd)), (5, .ref d)]) (st' := [.int (13 : Int32), .int (vl_I (vc_F w).n)]) rfl Kz) ?_
            refine jv_Wp.cnd jv_i28 (pt := 201) (pe := 191) (p := (¬ (vl_I (vc_F w).n) = (13 : Int32))) (q := (¬ (vl_I (vc_F w).n) = (13 : Int32))) rfl jv_bc_ne rfl rfl Iff.rfl (fun _ => ?_) (fun hz => absurd (fun z => absurd (z.symm.trans h1) (by decide)) hz)
            refine jv_Wp.lift (fun _ Kz => jv_Ev.steps jv_i28 1 (pc' := 202) (l' := [(8, .int (1 : Int32)), (7, .int (0 : Int32)), (6, .ref y), (0, .ref 10), (1, .long w), (3, .int (vl_I (vc_F w).n)), (4, .int (vr_b wd)), (5, .ref d)]) (st' := [.long w]) rfl Kz) ?_
            refine jv_Wp.lift (fun _ Kz => jv_Ev.c jv_i28 (pc' := 205) (S' := [.int (jv_wfoffset w)]) jv_i88 [.long w] rfl rfl rfl rfl rfl rfl (jv_s88 w) rfl rfl Kz) ?_
            refine jv_Wp.cnd jv_i28 (pt := 224) (pe := 208) (p := ((jv_wfoffset w) = 0)) (q := ((jv_wfoffset w) = 0)) rfl jv_bi_eq rfl rfl Iff.rfl (fun hz => absurd hz h6) (fun _ => ?_)
            refine jv_Wp.lift (fun _ Kz => jv_Ev.steps jv_i28 5 (pc' := 215) (l' := [(8, .int (1 : Int32)), (7, .int (0 : Int32)), (6, .ref y), (0, .ref 10), (1, .long w), (3, .int (vl_I (vc_F w).n)), (4, .int (vr_b wd)), (5, .ref d)]) (st' := [.long w, .ref y, .int (vr_b wd), .int (vl_I (vc_F w).n), .ref 10]) rfl Kz) ?_
            refine jv_Wp.lift (fun _ Kz => jv_Ev.c jv_i28 (pc' := 218) (S' := [.int (jv_wfoffset w), .ref y, .int (vr_b wd), .int (vl_I (vc_F w).n), .ref 10]) jv_i88 [.long w] rfl rfl rfl rfl rfl rfl (jv_s88 w) rfl rfl Kz) ?_
            have f1 : (vc_F w).n = 11 := (vl_I_inj (by omega) (by decide)).mp h1
            have f2 : ¬ (vc_T I L y).sort = 0 := fun z => h2 ((vc_is0 oy).mp z)
            have f3 : (vc_F w).kind = 7 := of_decide_eq_true (hwd.symm.trans (by cases wd <;> first | rfl | exact absurd rfl h3))
            have f4 : ¬ (vc_F w).o = 0 := fun z => h6 (Int32.toInt_inj.mp z)
            have f5 : (vc_T I L y).sort = 1 := (vc_is1 oy).mpr h7
            obtain ⟨mo, hom, hmo, ho⟩ := vw_rwo hf hk (show (vc_F w).n = 11 by omega) (show (vc_F w).o ≠ 0 by omega)
            obtain ⟨I5, L5, H5, S5, F5⟩ := vc_rwo11 (I := I) (L := L) (R := R) (n := n) (sl := sl) mo wd hC (vc_Th_V hy) hxy hmo
            rw [← hom, ← show (vc_F w).n = 11 by omega] at H5
            refine jv_Wp.lift (fun _ Kz => jv_Ev.c jv_i28 (pc' := 221) (S' := []) (G1 := (jv_H K I5 L5 R)) jv_i30 [.ref 10, .int (vl_I (vc_F w).n), .int (vr_b wd), .ref y, .int (jv_wfoffset w)] rfl rfl rfl rfl (jv_cal rfl (jv_H_at hC.k) rfl rfl) rfl H5 rfl rfl Kz) ?_
            refine jv_Wp.lift (fun _ Kz => jv_Ev.steps jv_i28 3 (pc' := 268) (l' := [(8, .int (1 : Int32)), (7, .int (0 : Int32)), (6, .ref y), (0, .ref 10), (1, .long w), (3, .int (vl_I (vc_F w).n)), (4, .int (vr_b wd)), (5, .ref d)]) (st' := [.ref 10, .ref d]) rfl Kz) ?_
            refine jv_Wp.lift (fun _ Kz => jv_Ev.m jv_i28 (pc' := 271) (st' := [.ref 169, .ref d]) (G' := (jv_H K I5 L5 R)) rfl rfl (jv_m_getR hC.k rfl rfl hC.rout) Kz) ?_
            have f1 : (vc_F w).n = 11 := (vl_I_inj (by omega) (by decide)).mp h1
            have f2 : ¬ (vc_T I L y).sort = 0 := fun z => h2 ((vc_is0 oy).mp z)
            have f3 : (vc_F w).kind = 7 := of_decide_eq_true (hwd.symm.trans (by cases wd <;> first | rfl | exact absurd rfl h3))
            have f4 : ¬ (vc_F w).o = 0 := fun z => h6 (Int32.toInt_inj.mp z)
            have f5 : (vc_T I L y).sort = 1 := (vc_is1 oy).mpr h7
            obtain ⟨I6, L6, H6, T6, O6, F6⟩ := vc_num (I := I5) (L := L5) (R := R) (n := n) (sl := sl) hd (Or.inl hC.k169)
            refine jv_Wp.lift (fun _ Kz => jv_Ev.c jv_i28 (pc' := 274) (S' := []) (G1 := (jv_H K I6 L6 R)) jv_i142 [.ref d, .ref 169] rfl rfl rfl rfl (jv_cal rfl (jv_H_at hd) rfl rfl) rfl H6 rfl rfl Kz) ?_
            refine jv_Wp.lift (fun _ Kz => jv_Ev.steps jv_i28 1 (pc' := 275) (l' := [(8, .int (1 : Int32)), (7, .int (0 : Int32)), (6, .ref y), (0, .ref 10), (1, .long w), (3, .int (vl_I (vc_F w).n)), (4, .int (vr_b wd)), (5, .ref d)]) (st' := [.int (0 : Int32)]) rfl Kz) ?_
            refine jv_Wp.of (jv_Ev.ret jv_i28 rfl rfl) ?_
            have f1 : (vc_F w).n = 11 := (vl_I_inj (by omega) (by decide)).mp h1
            have f2 : ¬ (vc_T I L y).sort = 0 := fun z => h2 ((vc_is0 oy).mp z)
            have f3 : (vc_F w).kind = 7 := of_decide_eq_true (hwd.symm.trans (by cases wd <;> first | rfl | exact absurd rfl h3))
            have f4 : ¬ (vc_F w).o = 0 := fun z => h6 (Int32.toInt_inj.mp z)
            have f5 : (vc_T I L y).sort = 1 := (vc_is1 oy).mpr h7
            rw [hQ]
            have a1 : ¬ vx_a1 (vc_F w) (vc_T I L d) (vc_T I L y) := by unfold vx_a1; omega
            have a2 : ¬ ((vc_F w).n = 11 ∧ (vc_F w).kind = 7 ∧ (vc_F w).o = 0) := by omega
            have a3 : ¬ vx_a3 (vc_F w) (vc_T I L d) (vc_T I L y) := by unfold vx_a3; omega
            have e := vx_ar5 a1 a2 a3
            have xy : (vc_T I L y).val = vl_S L y := vc_valv (Or.inl ((vc_is1 oy).mp (by omega)))
            have ev : vl_S L5 169 = vx_reckon (vc_F w) (vc_T I L d).val (vc_T I L y).val := by rw [vx_rko (show ¬ (vc_F w).n = 13 by omega) (show (vc_F w).o ≠ 0 by omega), if_pos (show (vc_F w).n = 11 by omega), xy, show (vc_F w).o.toNat = mo by omega, S5, hwd, vx_ite_dec]
            exact ⟨_, _, by rw [e]; rfl, fun _ => ⟨by rw [e, T6, ev], O6⟩, vc_fr_trans (vc_fr_mono F5 (fun p z => Or.inr (Or.inr z))) (vc_fr_mono F6 (fun p z => Or.inl z))⟩
          · refine jv_Wp.lift (fun _ Kz => jv_Ev.steps jv_i28 1 (pc' := 159) (l' := [(8, .int (1 : Int32)), (7, .int (0 : Int32)), (6, .ref y), (0, .ref 10), (1, .long w), (3, .int (vl_I (vc_F w).n)), (4, .int (vr_b wd)), (5, .ref d)]) (st' := [.int (vr_b wd)]) rfl Kz) ?_
            refine jv_Wp.cnd jv_i28 (pt := 183) (pe := 162) (p := ((vr_b wd) = 0)) (q := ((vr_b wd) = 0)) rfl jv_bi_eq rfl rfl Iff.rfl (fun hz => absurd hz h3) (fun _ => ?_)
            refine jv_Wp.lift (fun _ Kz => jv_Ev.steps jv_i28 1 (pc' := 163) (l' := [(8, .int (1 : Int32)), (7, .int (0 : Int32)), (6, .ref y), (0, .ref 10), (1, .long w), (3, .int (vl_I (vc_F w).n)), (4, .int (vr_b wd)), (5, .ref d)]) (st' := [.int (vl_I (vc_F w).n)]) rfl Kz) ?_
            refine jv_Wp.cnd jv_i28 (pt := 171) (pe := 166) (p := ((vl_I (vc_F w).n) = 0)) (q := ((vl_I (vc_F w).n) = 0)) rfl jv_bi_eq rfl rfl Iff.rfl (fun hz => absurd hz (fun z => absurd (z.symm.trans h1) (by decide))) (fun _ => ?_)
            refine jv_Wp.lift (fun _ Kz => jv_Ev.steps jv_i28 2 (pc' := 168) (l' := [(8, .int (1 : Int32)), (7, .int (0 : Int32)), (6, .ref y), (0, .ref 10), (1, .long w), (3, .int (vl_I (vc_F w).n)), (4, .int (vr_b wd)), (5, .ref d)]) (st' := [.int (1 : Int32), .int (vl_I (vc_F w).n)]) rfl Kz) ?_
            refine jv_Wp.cnd jv_i28 (pt := 183) (pe := 171) (p := (¬ (vl_I (vc_F w).n) = (1 : Int32))) (q := (¬ (vl_I (vc_F w).n) = (1 : Int32))) rfl jv_bc_ne rfl rfl Iff.rfl (fun _ => ?_) (fun hz => absurd (fun z => absurd (z.symm.trans h1) (by decide)) hz)
            refine jv_Wp.lift (fun _ Kz => jv_Ev.steps jv_i28 1 (pc' := 184) (l' := [(8, .int (1 : Int32)), (7, .int (0 : Int32)), (6, .ref y), (0, .ref 10), (1, .long w), (3, .int (vl_I (vc_F w).n)), (4, .int (vr_b wd)), (5, .ref d)]) (st' := [.int (2 : Int32)]) rfl Kz) ?_
            refine jv_Wp.of (jv_Ev.ret jv_i28 rfl rfl) ?_
            have f1 : (vc_F w).n = 11 := (vl_I_inj (by omega) (by decide)).mp h1
            have f2 : ¬ (vc_T I L y).sort = 0 := fun z => h2 ((vc_is0 oy).mp z)
            have f3 : (vc_F w).kind = 7 := of_decide_eq_true (hwd.symm.trans (by cases wd <;> first | rfl | exact absurd rfl h3))
            have f4 : ¬ (vc_F w).o = 0 := fun z => h6 (Int32.toInt_inj.mp z)
            have f5 : ¬ (vc_T I L y).sort = 1 := fun z => h7 ((vc_is1 oy).mp z)
            rw [hQ]
            have a1 : ¬ vx_a1 (vc_F w) (vc_T I L d) (vc_T I L y) := by unfold vx_a1; omega
            have a2 : ¬ ((vc_F w).n = 11 ∧ (vc_F w).kind = 7 ∧ (vc_F w).o = 0) := by omega
            have a3 : vx_a3 (vc_F w) (vc_T I L d) (vc_T I L y) := by unfold vx_a3; omega
            have a4 : ¬ ((vc_F w).kind = 7 ∧ ((vc_F w).n = 0 ∨ (vc_F w).n = 1)) := by omega
            have e : vx_ar (vc_F w) (vc_T I L d) (vc_T I L y) = (2, (vc_T I L d)) := vx_ar4 a1 a2 a3 a4
            exact ⟨I, L, by rw [e]; rfl, fun z => by rw [e] at z; exact absurd (show (2 : Nat) = 0 from z) (by decide), vc_fr_refl _ _⟩
        · refine jv_Wp.lift (fun _ Kz => jv_Ev.steps jv_i28 2 (pc' := 124) (l' := [(8, .int (1 : Int32)), (7, .int (0 : Int32)), (6, .ref y), (0, .ref 10), (1, .long w), (3, .int (vl_I (vc_F w).n)), (4, .int (vr_b wd)), (5, .ref d)]) (st' := [.ref y, .ref d]) rfl Kz) ?_
          obtain ⟨I7, L7, H7, T7, O7, F7⟩ := vc_becT (I := I) (L := L) (R := R) (n := n) (sl := sl) hd hy oy
          refine jv_Wp.lift (fun _ Kz => jv_Ev.c jv_i28 (pc' := 127) (S' := []) (G1 := (jv_H K I7 L7 R)) jv_i144 [.ref d, .ref y] rfl rfl rfl rfl (jv_cal rfl (jv_H_at hd) rfl rfl) rfl H7 rfl rfl Kz) ?_
          refine jv_Wp.lift (fun _ Kz => jv_Ev.steps jv_i28 1 (pc' := 128) (l' := [(8, .int (1 : Int32)), (7, .int (0 : Int32)), (6, .ref y), (0, .ref 10), (1, .long w), (3, .int (vl_I (vc_F w).n)), (4, .int (vr_b wd)), (5, .ref d)]) (st' := [.int (0 : Int32)]) rfl Kz) ?_
          refine jv_Wp.of (jv_Ev.ret jv_i28 rfl rfl) ?_
          have f1 : (vc_F w).n = 11 := (vl_I_inj (by omega) (by decide)).mp h1
          have f2 : ¬ (vc_T I L y).sort = 0 := fun z => h2 ((vc_is0 oy).mp z)
          have f3 : (vc_F w).kind = 7 := of_decide_eq_true (hwd.symm.trans (by cases wd <;> first | rfl | exact absurd rfl h3))
          have f4 : (vc_F w).o = 0 := congrArg Int32.toInt (Classical.not_not.mp h6)
          rw [hQ]
          have a1 : ¬ vx_a1 (vc_F w) (vc_T I L d) (vc_T I L y) := by unfold vx_a1; omega
          have e := vx_ar2 a1 (show (vc_F w).n = 11 ∧ (vc_F w).kind = 7 ∧ (vc_F w).o = 0 by omega)
          exact ⟨_, _, by rw [e]; rfl, fun _ => ⟨by rw [e]; exact T7, O7⟩, vc_fr_mono F7 (fun p z => Or.inl z)⟩
    · refine jv_Wp.lift (fun _ Kz => jv_Ev.steps jv_i28 1 (pc' := 101) (l' := [(8, .int (1 : Int32)), (7, .int (0 : Int32)), (6, .ref y), (0, .ref 10), (1, .long w), (3, .int (vl_I (vc_F w).n)), (4, .int (vr_b wd)), (5, .ref d)]) (st' := [.int (1 : Int32)]) rfl Kz) ?_
      refine jv_Wp.of (jv_Ev.ret jv_i28 rfl rfl) ?_
      have f1 : (vc_F w).n = 11 := (vl_I_inj (by omega) (by decide)).mp h1
      have f2 : (vc_T I L y).sort = 0 := (vc_is0 oy).mpr (Classical.not_not.mp h2)
      rw [hQ]
      have a1 : vx_a1 (vc_F w) (vc_T I L d) (vc_T I L y) := by unfold vx_a1; omega
      have e : vx_ar (vc_F w) (vc_T I L d) (vc_T I L y) = (1, (vc_T I L d)) := vx_ar1 a1
      exact ⟨I, L, by rw [e]; rfl, fun z => by rw [e] at z; exact absurd (show (1 : Nat) = 0 from z) (by decide), vc_fr_refl _ _⟩
  · refine jv_Wp.lift (fun _ Kz => jv_Ev.steps jv_i28 5 (pc' := 58) (l' := [(7, .int (1 : Int32)), (6, .ref y), (0, .ref 10), (1, .long w), (3, .int (vl_I (vc_F w).n)), (4, .int (vr_b wd)), (5, .ref d)]) (st' := [.int (8 : Int32), .int (vl_I (vc_F w).n)]) rfl Kz) ?_
    refine jv_Wp.cnd jv_i28 (pt := 71) (pe := 61) (p := ((vl_I (vc_F w).n) = (8 : Int32))) (q := ((vl_I (vc_F w).n) = (8 : Int32))) rfl jv_bc_eq rfl rfl Iff.rfl (fun h8 => ?_) (fun h8 => ?_)
    · refine jv_Wp.lift (fun _ Kz => jv_Ev.steps jv_i28 3 (pc' := 76) (l' := [(8, .int (0 : Int32)), (7, .int (1 : Int32)), (6, .ref y), (0, .ref 10), (1, .long w), (3, .int (vl_I (vc_F w).n)), (4, .int (vr_b wd)), (5, .ref d)]) (st' := [.int (1 : Int32)]) rfl Kz) ?_
      refine jv_Wp.lift (fun _ Kz => jv_Ev.br jv_i28 (pc' := 79) (st' := []) rfl (by rfl) Kz) ?_
      refine jv_Wp.lift (fun _ Kz => jv_Ev.steps jv_i28 1 (pc' := 81) (l' := [(8, .int (0 : Int32)), (7, .int (1 : Int32)), (6, .ref y), (0, .ref 10), (1, .long w), (3, .int (vl_I (vc_F w).n)), (4, .int (vr_b wd)), (5, .ref d)]) (st' := [.ref d]) rfl Kz) ?_
      refine jv_Wp.lift (fun _ Kz => jv_Ev.m jv_i28 (pc' := 84) (st' := [.int (I d 6)]) (G' := (jv_H K I L R)) rfl rfl (jv_m_getI hd rfl rfl rfl) Kz) ?_
      refine jv_Wp.cnd jv_i28 (pt := 100) (pe := 87) (p := ((I d 6) = 0)) (q := ((I d 6) = 0)) rfl jv_bi_eq rfl rfl Iff.rfl (fun h9 => ?_) (fun h9 => ?_)
      · refine jv_Wp.lift (fun _ Kz => jv_Ev.steps jv_i28 1 (pc' := 101) (l' := [(8, .int (0 : Int32)), (7, .int (1 : Int32)), (6, .ref y), (0, .ref 10), (1, .long w), (3, .int (vl_I (vc_F w).n)), (4, .int (vr_b wd)), (5, .ref d)]) (st' := [.int (1 : Int32)]) rfl Kz) ?_
        refine jv_Wp.of (jv_Ev.ret jv_i28 rfl rfl) ?_
        have f1 : ¬ (vc_F w).n = 11 := fun z => h1 (by rw [z]; rfl)
        have f2 : (vc_F w).n = 8 := (vl_I_inj (by omega) (by decide)).mp h8
        have f3 : (vc_T I L d).sort = 0 := (vc_is0 od).mpr h9
        rw [hQ]
        have a1 : vx_a1 (vc_F w) (vc_T I L d) (vc_T I L y) := by unfold vx_a1; omega
        have e : vx_ar (vc_F w) (vc_T I L d) (vc_T I L y) = (1, (vc_T I L d)) := vx_ar1 a1
        exact ⟨I, L, by rw [e]; rfl, fun z => by rw [e] at z; exact absurd (show (1 : Nat) = 0 from z) (by decide), vc_fr_refl _ _⟩
      · refine jv_Wp.lift (fun _ Kz => jv_Ev.steps jv_i28 1 (pc' := 89) (l' := [(8, .int (0 : Int32)), (7, .int (1 : Int32)), (6, .ref y), (0, .ref 10), (1, .long w), (3, .int (vl_I (vc_F w).n)), (4, .int (vr_b wd)), (5, .ref d)]) (st' := [.int (0 : Int32)]) rfl Kz) ?_
        refine jv_Wp.lift (fun _ Kz => jv_Ev.br jv_i28 (pc' := 102) (st' := []) rfl (by rfl) Kz) ?_
        refine jv_Wp.lift (fun _ Kz => jv_Ev.steps jv_i28 2 (pc' := 105) (l' := [(8, .int (0 : Int32)), (7, .int (1 : Int32)), (6, .ref y), (0, .ref 10), (1, .long w), (3, .int (vl_I (vc_F w).n)), (4, .int (vr_b wd)), (5, .ref d)]) (st' := [.int (11 : Int32), .int (vl_I (vc_F w).n)]) rfl Kz) ?_
        refine jv_Wp.cnd jv_i28 (pt := 129) (pe := 108) (p := (¬ (vl_I (vc_F w).n) = (11 : Int32))) (q := (¬ (vl_I (vc_F w).n) = (11 : Int32))) rfl jv_bc_ne rfl rfl Iff.rfl (fun _ => ?_) (fun hz => absurd h1 hz)
        refine jv_Wp.lift (fun _ Kz => jv_Ev.steps jv_i28 1 (pc' := 131) (l' := [(8, .int (0 : Int32)), (7, .int (1 : Int32)), (6, .ref y), (0, .ref 10), (1, .long w), (3, .int (vl_I (vc_F w).n)), (4, .int (vr_b wd)), (5, .ref d)]) (st' := [.int (1 : Int32)]) rfl Kz) ?_
        refine jv_Wp.lift (fun _ Kz => jv_Ev.br jv_i28 (pc' := 134) (st' := []) rfl (by rfl) Kz) ?_
        refine jv_Wp.lift (fun _ Kz => jv_Ev.steps jv_i28 1 (pc' := 136) (l' := [(8, .int (0 : Int32)), (7, .int (1 : Int32)), (6, .ref y), (0, .ref 10), (1, .long w), (3, .int (vl_I (vc_F w).n)), (4, .int (vr_b wd)), (5, .ref d)]) (st' := [.ref d]) rfl Kz) ?_
        refine jv_Wp.lift (fun _ Kz => jv_Ev.m jv_i28 (pc' := 139) (st' := [.int (I d 6)]) (G' := (jv_H K I L R)) rfl rfl (jv_m_getI hd rfl rfl rfl) Kz) ?_
        refine jv_Wp.lift (fun _ Kz => jv_Ev.steps jv_i28 1 (pc' := 140) (l' := [(8, .int (0 : Int32)), (7, .int (1 : Int32)), (6, .ref y), (0, .ref 10), (1, .long w), (3, .int (vl_I (vc_F w).n)), (4, .int (vr_b wd)), (5, .ref d)]) (st' := [.int (1 : Int32), .int (I d 6)]) rfl Kz) ?_
        refine jv_Wp.cnd jv_i28 (pt := 157) (pe := 143) (p := (¬ (I d 6) = (1 : Int32))) (q := (¬ (I d 6) = (1 : Int32))) rfl jv_bc_ne rfl rfl Iff.rfl (fun h10 => ?_) (fun h10 => ?_)
        · refine jv_Wp.lift (fun _ Kz => jv_Ev.steps jv_i28 1 (pc' := 159) (l' := [(8, .int (0 : Int32)), (7, .int (1 : Int32)), (6, .ref y), (0, .ref 10), (1, .long w), (3, .int (vl_I (vc_F w).n)), (4, .int (vr_b wd)), (5, .ref d)]) (st' := [.int (vr_b wd)]) rfl Kz) ?_
          refine jv_Wp.cnd jv_i28 (pt := 183) (pe := 162) (p := ((vr_b wd) = 0)) (q := ((vr_b wd) = 0)) rfl jv_bi_eq rfl rfl Iff.rfl (fun h11 => ?_) (fun h11 => ?_)
          · refine jv_Wp.lift (fun _ Kz => jv_Ev.steps jv_i28 1 (pc' := 184) (l' := [(8, .int (0 : Int32)), (7, .int (1 : Int32)), (6, .ref y), (0, .ref 10), (1, .long w), (3, .int (vl_I (vc_F w).n)), (4, .int (vr_b wd)), (5, .ref d)]) (st' := [.int (2 : Int32)]) rfl Kz) ?_
            refine jv_Wp.of (jv_Ev.ret jv_i28 rfl rfl) ?_
            have f1 : ¬ (vc_F w).n = 11 := fun z => h1 (by rw [z]; rfl)
            have f2 : (vc_F w).n = 8 := (vl_I_inj (by omega) (by decide)).mp h8
            have f3 : ¬ (vc_T I L d).sort = 0 := fun z => h9 ((vc_is0 od).mp z)
            have f4 : ¬ (vc_T I L d).sort = 1 := fun z => h10 ((vc_is1 od).mp z)
            have f5 : ¬ (vc_F w).kind = 7 := of_decide_eq_false (hwd.symm.trans (by cases wd <;> first | rfl | exact absurd h11 (by decide)))
            rw [hQ]
            have a1 : ¬ vx_a1 (vc_F w) (vc_T I L d) (vc_T I L y) := by unfold vx_a1; omega
            have a2 : ¬ ((vc_F w).n = 11 ∧ (vc_F w).kind = 7 ∧ (vc_F w).o = 0) := by omega
            have a3 : vx_a3 (vc_F w) (vc_T I L d) (vc_T I L y) := by unfold vx_a3; omega
            have a4 : ¬ ((vc_F w).kind = 7 ∧ ((vc_F w).n = 0 ∨ (vc_F w).n = 1)) := by omega
            have e : vx_ar (vc_F w) (vc_T I L d) (vc_T I L y) = (2, (vc_T I L d)) := vx_ar4 a1 a2 a3 a4
            exact ⟨I, L, by rw [e]; rfl, fun z => by rw [e] at z; exact absurd (show (2 : Nat) = 0 from z) (by decide), vc_fr_refl _ _⟩
          · refine jv_Wp.lift (fun _ Kz => jv_Ev.steps jv_i28 1 (pc' := 163) (l' := [(8, .int (0 : Int32)), (7, .int (1 : Int32)), (6, .ref y), (0, .ref 10), (1, .long w), (3, .int (vl_I (vc_F w).n)), (4, .int (vr_b wd)), (5, .ref d)]) (st' := [.int (vl_I (vc_F w).n)]) rfl Kz) ?_
            refine jv_Wp.cnd jv_i28 (pt := 171) (pe := 166) (p := ((vl_I (vc_F w).n) = 0)) (q := ((vl_I (vc_F w).n) = 0)) rfl jv_bi_eq rfl rfl Iff.rfl (fun hz => absurd hz (fun z => absurd (z.symm.trans h8) (by decide))) (fun _ => ?_)
            refine jv_Wp.lift (fun _ Kz => jv_Ev.steps jv_i28 2 (pc' := 168) (l' := [(8, .int (0 : Int32)), (7, .int (1 : Int32)), (6, .ref y), (0, .ref 10), (1, .long w), (3, .int (vl_I (vc_F w).n)), (4, .int (vr_b wd)), (5, .ref d)]) (st' := [.int (1 : Int32), .int (vl_I (vc_F w).n)]) rfl Kz) ?_
            refine jv_Wp.cnd jv_i28 (pt := 183) (pe := 171) (p := (¬ (vl_I (vc_F w).n) = (1 : Int32))) (q := (¬ (vl_I (vc_F w).n) = (1 : Int32))) rfl jv_bc_ne rfl rfl Iff.rfl (fun _ => ?_) (fun hz => absurd (fun z => absurd (z.symm.trans h8) (by decide)) hz)
            refine jv_Wp.lift (fun _ Kz => jv_Ev.steps jv_i28 1 (pc' := 184) (l' := [(8, .int (0 : Int32)), (7, .int (1 : Int32)), (6, .ref y), (0, .ref 10), (1, .long w), (3, .int (vl_I (vc_F w).n)), (4, .int (vr_b wd)), (5, .ref d)]) (st' := [.int (2 : Int32)]) rfl Kz) ?_
            refine jv_Wp.of (jv_Ev.ret jv_i28 rfl rfl) ?_
            have f1 : ¬ (vc_F w).n = 11 := fun z => h1 (by rw [z]; rfl)
            have f2 : (vc_F w).n = 8 := (vl_I_inj (by omega) (by decide)).mp h8
            have f3 : ¬ (vc_T I L d).sort = 0 := fun z => h9 ((vc_is0 od).mp z)
            have f4 : ¬ (vc_T I L d).sort = 1 := fun z => h10 ((vc_is1 od).mp z)
            have f5 : (vc_F w).kind = 7 := of_decide_eq_true (hwd.symm.trans (by cases wd <;> first | rfl | exact absurd rfl h11))
            rw [hQ]
            have a1 : ¬ vx_a1 (vc_F w) (vc_T I L d) (vc_T I L y) := by unfold vx_a1; omega
            have a2 : ¬ ((vc_F w).n = 11 ∧ (vc_F w).kind = 7 ∧ (vc_F w).o = 0) := by omega
            have a3 : vx_a3 (vc_F w) (vc_T I L d) (vc_T I L y) := by unfold vx_a3; omega
            have a4 : ¬ ((vc_F w).kind = 7 ∧ ((vc_F w).n = 0 ∨ (vc_F w).n = 1)) := by omega
            have e : vx_ar (vc_F w) (vc_T I L d) (vc_T I L y) = (2, (vc_T I L d)) := vx_ar4 a1 a2 a3 a4
            exact ⟨I, L, by rw [e]; rfl, fun z => by rw [e] at z; exact absurd (show (2 : Nat) = 0 from z) (by decide), vc_fr_refl _ _⟩
        · refine jv_Wp.lift (fun _ Kz => jv_Ev.steps jv_i28 1 (pc' := 145) (l' := [(8, .int (0 : Int32)), (7, .int (1 : Int32)), (6, .ref y), (0, .ref 10), (1, .long w), (3, .int (vl_I (vc_F w).n)), (4, .int (vr_b wd)), (5, .ref d)]) (st' := [.int (0 : Int32)]) rfl Kz) ?_
          refine jv_Wp.lift (fun _ Kz => jv_Ev.br jv_i28 (pc' := 185) (st' := []) rfl (by rfl) Kz) ?_
          refine jv_Wp.lift (fun _ Kz => jv_Ev.steps jv_i28 2 (pc' := 188) (l' := [(8, .int (0 : Int32)), (7, .int (1 : Int32)), (6, .ref y), (0, .ref 10), (1, .long w), (3, .int (vl_I (vc_F w).n)), (4, .int (vr_b wd)), (5, .ref d)]) (st' := [.int (13 : Int32), .int (vl_I (vc_F w).n)]) rfl Kz) ?_
          refine jv_Wp.cnd jv_i28 (pt := 201) (pe := 191) (p := (¬ (vl_I (vc_F w).n) = (13 : Int32))) (q := (¬ (vl_I (vc_F w).n) = (13 : Int32))) rfl jv_bc_ne rfl rfl Iff.rfl (fun _ => ?_) (fun hz => absurd (fun z => absurd (z.symm.trans h8) (by decide)) hz)
          refine jv_Wp.lift (fun _ Kz => jv_Ev.steps jv_i28 1 (pc' := 202) (l' := [(8, .int (0 : Int32)), (7, .int (1 : Int32)), (6, .ref y), (0, .ref 10), (1, .long w), (3, .int (vl_I (vc_F w).n)), (4, .int (vr_b wd)), (5, .ref d)]) (st' := [.long w]) rfl Kz) ?_
          refine jv_Wp.lift (fun _ Kz => jv_Ev.c jv_i28 (pc' := 205) (S' := [.int (jv_wfoffset w)]) jv_i88 [.long w] rfl rfl rfl rfl rfl rfl (jv_s88 w) rfl rfl Kz) ?_
          refine jv_Wp.cnd jv_i28 (pt := 224) (pe := 208) (p := ((jv_wfoffset w) = 0)) (q := ((jv_wfoffset w) = 0)) rfl jv_bi_eq rfl rfl Iff.rfl (fun h12 => ?_) (fun h12 => ?_)
          · refine jv_Wp.lift (fun _ Kz => jv_Ev.steps jv_i28 2 (pc' := 227) (l' := [(8, .int (0 : Int32)), (7, .int (1 : Int32)), (6, .ref y), (0, .ref 10), (1, .long w), (3, .int (vl_I (vc_F w).n)), (4, .int (vr_b wd)), (5, .ref d)]) (st' := [.int (8 : Int32), .int (vl_I (vc_F w).n)]) rfl Kz) ?_
            refine jv_Wp.cnd jv_i28 (pt := 254) (pe := 230) (p := (¬ (vl_I (vc_F w).n) = (8 : Int32))) (q := (¬ (vl_I (vc_F w).n) = (8 : Int32))) rfl jv_bc_ne rfl rfl Iff.rfl (fun hz => absurd hz (fun z => z h8)) (fun _ => ?_)
            refine jv_Wp.lift (fun _ Kz => jv_Ev.steps jv_i28 1 (pc' := 231) (l' := [(8, .int (0 : Int32)), (7, .int (1 : Int32)), (6, .ref y), (0, .ref 10), (1, .long w), (3, .int (vl_I (vc_F w).n)), (4, .int (vr_b wd)), (5, .ref d)]) (st' := [.ref 10]) rfl Kz) ?_
            refine jv_Wp.lift (fun _ Kz => jv_Ev.m jv_i28 (pc' := 234) (st' := [.ref 166]) (G' := (jv_H K I L R)) rfl rfl (jv_m_getR hC.k rfl rfl hC.rconst) Kz) ?_
            refine jv_Wp.lift (fun _ Kz => jv_Ev.steps jv_i28 1 (pc' := 235) (l' := [(8, .int (0 : Int32)), (7, .int (1 : Int32)), (6, .ref y), (0, .ref 10), (1, .long w), (3, .int (vl_I (vc_F w).n)), (4, .int (vr_b wd)), (5, .ref d)]) (st' := [.long (0 : Int64), .ref 166]) rfl Kz) ?_
            have f1 : ¬ (vc_F w).n = 11 := fun z => h1 (by rw [z]; rfl)
            have f2 : (vc_F w).n = 8 := (vl_I_inj (by omega) (by decide)).mp h8
            have f3 : ¬ (vc_T I L d).sort = 0 := fun z => h9 ((vc_is0 od).mp z)
            have f4 : (vc_T I L d).sort = 1 := (vc_is1 od).mpr (Classical.not_not.mp h10)
            have f5 : (vc_F w).o = 0 := congrArg Int32.toInt h12
            obtain ⟨I8, L8, H8, T8, O8, F8⟩ := vc_just (I := I) (L := L) (R := R) (n := n) (sl := sl) (0 : Int64) hC.k166
            refine jv_Wp.lift (fun _ Kz => jv_Ev.c jv_i28 (pc' := 238) (S' := []) (G1 := (jv_H K I8 L8 R)) jv_i143 [.ref 166, .long (0 : Int64)] rfl rfl rfl rfl (jv_cal rfl (jv_H_at hC.k166) rfl rfl) rfl H8 rfl rfl Kz) ?_
            refine jv_Wp.lift (fun _ Kz => jv_Ev.steps jv_i28 4 (pc' := 243) (l' := [(8, .int (0 : Int32)), (7, .int (1 : Int32)), (6, .ref y), (0, .ref 10), (1, .long w), (3, .int (vl_I (vc_F w).n)), (4, .int (vr_b wd)), (5, .ref d)]) (st' := [.ref 10, .int (vr_b wd), .int (1 : Int32), .ref 10]) rfl Kz) ?_
            refine jv_Wp.lift (fun _ Kz => jv_Ev.m jv_i28 (pc' := 246) (st' := [.ref 166, .int (vr_b wd), .int (1 : Int32), .ref 10]) (G' := (jv_H K I8 L8 R)) rfl rfl (jv_m_getR hC.k rfl rfl hC.rconst) Kz) ?_
            refine jv_Wp.lift (fun _ Kz => jv_Ev.steps jv_i28 1 (pc' := 248) (l' := [(8, .int (0 : Int32)), (7, .int (1 : Int32)), (6, .ref y), (0, .ref 10), (1, .long w), (3, .int (vl_I (vc_F w).n)), (4, .int (vr_b wd)), (5, .ref d)]) (st' := [.ref d, .ref 166, .int (vr_b wd), .int (1 : Int32), .ref 10]) rfl Kz) ?_
            have f1 : ¬ (vc_F w).n = 11 := fun z => h1 (by rw [z]; rfl)
            have f2 : (vc_F w).n = 8 := (vl_I_inj (by omega) (by decide)).mp h8
            have f3 : ¬ (vc_T I L d).sort = 0 := fun z => h9 ((vc_is0 od).mp z)
            have f4 : (vc_T I L d).sort = 1 := (vc_is1 od).mpr (Classical.not_not.mp h10)
            have f5 : (vc_F w).o = 0 := congrArg Int32.toInt h12
            obtain ⟨I9, L9, H9, S9, F9⟩ := vc_rn (I := I8) (L := L8) (R := R) (n := n) (sl := sl) 1 wd hC (by decide) (vc_Th_V hC.k166) (vc_Th_V hd) (fun q _ _ => by omega) hxd (by rw [vl_S_ext (fun f => (F8 d hd166).2 f)]; exact td ((vc_is1 od).mp (by omega)))
            refine jv_Wp.lift (fun _ Kz => jv_Ev.c jv_i28 (pc' := 251) (S' := []) (G1 := (jv_H K I9 L9 R)) jv_i31 [.ref 10, .int (1 : Int32), .int (vr_b wd), .ref 166, .ref d] rfl rfl rfl rfl (jv_cal rfl (jv_H_at hC.k) rfl rfl) rfl H9 rfl rfl Kz) ?_
            refine jv_Wp.lift (fun _ Kz => jv_Ev.steps jv_i28 3 (pc' := 268) (l' := [(8, .int (0 : Int32)), (7, .int (1 : Int32)), (6, .ref y), (0, .ref 10), (1, .long w), (3, .int (vl_I (vc_F w).n)), (4, .int (vr_b wd)), (5, .ref d)]) (st' := [.ref 10, .ref d]) rfl Kz) ?_
            refine jv_Wp.lift (fun _ Kz => jv_Ev.m jv_i28 (pc' := 271) (st' := [.ref 169, .ref d]) (G' := (jv_H K I9 L9 R)) rfl rfl (jv_m_getR hC.k rfl rfl hC.rout) Kz) ?_
            have f1 : ¬ (vc_F w).n = 11 := fun z => h1 (by rw [z]; rfl)
            have f2 : (vc_F w).n = 8 := (vl_I_inj (by omega) (by decide)).mp h8
            have f3 : ¬ (vc_T I L d).sort = 0 := fun z => h9 ((vc_is0 od).mp z)
            have f4 : (vc_T I L d).sort = 1 := (vc_is1 od).mpr (Classical.not_not.mp h10)
            have f5 : (vc_F w).o = 0 := congrArg Int32.toInt h12
            obtain ⟨I10, L10, H10, T10, O10, F10⟩ := vc_num (I := I9) (L := L9) (R := R) (n := n) (sl := sl) hd (Or.inl hC.k169)
            refine jv_Wp.lift (fun _ Kz => jv_Ev.c jv_i28 (pc' := 274) (S' := []) (G1 := (jv_H K I10 L10 R)) jv_i142 [.ref d, .ref 169] rfl rfl rfl rfl (jv_cal rfl (jv_H_at hd) rfl rfl) rfl H10 rfl rfl Kz) ?_
            refine jv_Wp.lift (fun _ Kz => jv_Ev.steps jv_i28 1 (pc' := 275) (l' := [(8, .int (0 : Int32)), (7, .int (1 : Int32)), (6, .ref y), (0, .ref 10), (1, .long w), (3, .int (vl_I (vc_F w).n)), (4, .int (vr_b wd)), (5, .ref d)]) (st' := [.int (0 : Int32)]) rfl Kz) ?_
            refine jv_Wp.of (jv_Ev.ret jv_i28 rfl rfl) ?_
            have f1 : ¬ (vc_F w).n = 11 := fun z => h1 (by rw [z]; rfl)
            have f2 : (vc_F w).n = 8 := (vl_I_inj (by omega) (by decide)).mp h8
            have f3 : ¬ (vc_T I L d).sort = 0 := fun z => h9 ((vc_is0 od).mp z)
            have f4 : (vc_T I L d).sort = 1 := (vc_is1 od).mpr (Classical.not_not.mp h10)
            have f5 : (vc_F w).o = 0 := congrArg Int32.toInt h12
            rw [hQ]
            have a1 : ¬ vx_a1 (vc_F w) (vc_T I L d) (vc_T I L y) := by unfold vx_a1; omega
            have a2 : ¬ ((vc_F w).n = 11 ∧ (vc_F w).kind = 7 ∧ (vc_F w).o = 0) := by omega
            have a3 : ¬ vx_a3 (vc_F w) (vc_T I L d) (vc_T I L y) := by unfold vx_a3; omega
            have e := vx_ar5 a1 a2 a3
            have xd : (vc_T I L d).val = vl_S L d := vc_valv (Or.inl ((vc_is1 od).mp (by omega)))
            have e0 : vl_S L8 166 = vb_just 0 := (vc_valv (Or.inl ((vc_is1 O8).mp (by rw [T8]; rfl)))).symm.trans (by rw [T8]; rfl)
            have ev : vl_S L9 169 = vx_reckon (vc_F w) (vc_T I L d).val (vc_T I L y).val := by rw [vx_rk8 (show ¬ (vc_F w).n = 13 by omega) (show ¬ (vc_F w).o ≠ 0 by omega) (show (vc_F w).n = 8 by omega), xd, S9, hwd, e0, vl_S_ext (fun f => (F8 d hd166).2 f)]
            exact ⟨_, _, by rw [e]; rfl, fun _ => ⟨by rw [e, T10, ev], O10⟩, vc_fr_trans (vc_fr_trans (vc_fr_mono F8 (fun p z => Or.inr (Or.inl z))) (vc_fr_mono F9 (fun p z => Or.inr (Or.inr z)))) (vc_fr_mono F10 (fun p z => Or.inl z))⟩
          · refine jv_Wp.lift (fun _ Kz => jv_Ev.steps jv_i28 5 (pc' := 215) (l' := [(8, .int (0 : Int32)), (7, .int (1 : Int32)), (6, .ref y), (0, .ref 10), (1, .long w), (3, .int (vl_I (vc_F w).n)), (4, .int (vr_b wd)), (5, .ref d)]) (st' := [.long w, .ref y, .int (vr_b wd), .int (vl_I (vc_F w).n), .ref 10]) rfl Kz) ?_
            refine jv_Wp.lift (fun _ Kz => jv_Ev.c jv_i28 (pc' := 218) (S' := [.int (jv_wfoffset w), .ref y, .int (vr_b wd), .int (vl_I (vc_F w).n), .ref 10]) jv_i88 [.long w] rfl rfl rfl rfl rfl rfl (jv_s88 w) rfl rfl Kz) ?_
            have f1 : ¬ (vc_F w).n = 11 := fun z => h1 (by rw [z]; rfl)
            have f2 : (vc_F w).n = 8 := (vl_I_inj (by omega) (by decide)).mp h8
            have f3 : ¬ (vc_T I L d).sort = 0 := fun z => h9 ((vc_is0 od).mp z)
            have f4 : (vc_T I L d).sort = 1 := (vc_is1 od).mpr (Classical.not_not.mp h10)
            have f5 : ¬ (vc_F w).o = 0 := fun z => h12 (Int32.toInt_inj.mp z)
            obtain ⟨I11, L11, H11, S11, F11⟩ := vc_rwo (I := I) (L := L) (R := R) (n := n) (sl := sl) (vc_F w).n (jv_wfoffset w) wd hC (vc_Th_V hy) hxy (vw_n16 w) (by omega)
            refine jv_Wp.lift (fun _ Kz => jv_Ev.c jv_i28 (pc' := 221) (S' := []) (G1 := (jv_H K I11 L11 R)) jv_i30 [.ref 10, .int (vl_I (vc_F w).n), .int (vr_b wd), .ref y, .int (jv_wfoffset w)] rfl rfl rfl rfl (jv_cal rfl (jv_H_at hC.k) rfl rfl) rfl H11 rfl rfl Kz) ?_
            refine jv_Wp.lift (fun _ Kz => jv_Ev.steps jv_i28 3 (pc' := 268) (l' := [(8, .int (0 : Int32)), (7, .int (1 : Int32)), (6, .ref y), (0, .ref 10), (1, .long w), (3, .int (vl_I (vc_F w).n)), (4, .int (vr_b wd)), (5, .ref d)]) (st' := [.ref 10, .ref d]) rfl Kz) ?_
            refine jv_Wp.lift (fun _ Kz => jv_Ev.m jv_i28 (pc' := 271) (st' := [.ref 169, .ref d]) (G' := (jv_H K I11 L11 R)) rfl rfl (jv_m_getR hC.k rfl rfl hC.rout) Kz) ?_
            have f1 : ¬ (vc_F w).n = 11 := fun z => h1 (by rw [z]; rfl)
            have f2 : (vc_F w).n = 8 := (vl_I_inj (by omega) (by decide)).mp h8
            have f3 : ¬ (vc_T I L d).sort = 0 := fun z => h9 ((vc_is0 od).mp z)
            have f4 : (vc_T I L d).sort = 1 := (vc_is1 od).mpr (Classical.not_not.mp h10)
            have f5 : ¬ (vc_F w).o = 0 := fun z => h12 (Int32.toInt_inj.mp z)
            obtain ⟨I12, L12, H12, T12, O12, F12⟩ := vc_num (I := I11) (L := L11) (R := R) (n := n) (sl := sl) hd (Or.inl hC.k169)
            refine jv_Wp.lift (fun _ Kz => jv_Ev.c jv_i28 (pc' := 274) (S' := []) (G1 := (jv_H K I12 L12 R)) jv_i142 [.ref d, .ref 169] rfl rfl rfl rfl (jv_cal rfl (jv_H_at hd) rfl rfl) rfl H12 rfl rfl Kz) ?_
            refine jv_Wp.lift (fun _ Kz => jv_Ev.steps jv_i28 1 (pc' := 275) (l' := [(8, .int (0 : Int32)), (7, .int (1 : Int32)), (6, .ref y), (0, .ref 10), (1, .long w), (3, .int (vl_I (vc_F w).n)), (4, .int (vr_b wd)), (5, .ref d)]) (st' := [.int (0 : Int32)]) rfl Kz) ?_
            refine jv_Wp.of (jv_Ev.ret jv_i28 rfl rfl) ?_
            have f1 : ¬ (vc_F w).n = 11 := fun z => h1 (by rw [z]; rfl)
            have f2 : (vc_F w).n = 8 := (vl_I_inj (by omega) (by decide)).mp h8
            have f3 : ¬ (vc_T I L d).sort = 0 := fun z => h9 ((vc_is0 od).mp z)
            have f4 : (vc_T I L d).sort = 1 := (vc_is1 od).mpr (Classical.not_not.mp h10)
            have f5 : ¬ (vc_F w).o = 0 := fun z => h12 (Int32.toInt_inj.mp z)
            rw [hQ]
            have a1 : ¬ vx_a1 (vc_F w) (vc_T I L d) (vc_T I L y) := by unfold vx_a1; omega
            have a2 : ¬ ((vc_F w).n = 11 ∧ (vc_F w).kind = 7 ∧ (vc_F w).o = 0) := by omega
            have a3 : ¬ vx_a3 (vc_F w) (vc_T I L d) (vc_T I L y) := by unfold vx_a3; omega
            have e := vx_ar5 a1 a2 a3
            have ev : vl_S L11 169 = vx_reckon (vc_F w) (vc_T I L d).val (vc_T I L y).val := by rw [vx_rko (show ¬ (vc_F w).n = 13 by omega) (show (vc_F w).o ≠ 0 by omega), if_neg (show ¬ (vc_F w).n = 11 by omega), S11, hwd, vx_ite_dec]
            exact ⟨_, _, by rw [e]; rfl, fun _ => ⟨by rw [e, T12, ev], O12⟩, vc_fr_trans (vc_fr_mono F11 (fun p z => Or.inr (Or.inr z))) (vc_fr_mono F12 (fun p z => Or.inl z))⟩
    · refine jv_Wp.lift (fun _ Kz => jv_Ev.steps jv_i28 2 (pc' := 64) (l' := [(7, .int (1 : Int32)), (6, .ref y), (0, .ref 10), (1, .long w), (3, .int (vl_I (vc_F w).n)), (4, .int (vr_b wd)), (5, .ref d)]) (st' := [.int (13 : Int32), .int (vl_I (vc_F w).n)]) rfl Kz) ?_
      refine jv_Wp.cnd jv_i28 (pt := 71) (pe := 67) (p := ((vl_I (vc_F w).n) = (13 : Int32))) (q := ((vl_I (vc_F w).n) = (13 : Int32))) rfl jv_bc_eq rfl rfl Iff.rfl (fun h13 => ?_) (fun h13 => ?_)
      · refine jv_Wp.lift (fun _ Kz => jv_Ev.steps jv_i28 3 (pc' := 76) (l' := [(8, .int (0 : Int32)), (7, .int (1 : Int32)), (6, .ref y), (0, .ref 10), (1, .long w), (3, .int (vl_I (vc_F w).n)), (4, .int (vr_b wd)), (5, .ref d)]) (st' := [.int (1 : Int32)]) rfl Kz) ?_
        refine jv_Wp.lift (fun _ Kz => jv_Ev.br jv_i28 (pc' := 79) (st' := []) rfl (by rfl) Kz) ?_
        refine jv_Wp.lift (fun _ Kz => jv_Ev.steps jv_i28 1 (pc' := 81) (l' := [(8, .int (0 : Int32)), (7, .int (1 : Int32)), (6, .ref y), (0, .ref 10), (1, .long w), (3, .int (vl_I (vc_F w).n)), (4, .int (vr_b wd)), (5, .ref d)]) (st' := [.ref d]) rfl Kz) ?_
        refine jv_Wp.lift (fun _ Kz => jv_Ev.m jv_i28 (pc' := 84) (st' := [.int (I d 6)]) (G' := (jv_H K I L R)) rfl rfl (jv_m_getI hd rfl rfl rfl) Kz) ?_
        refine jv_Wp.cnd jv_i28 (pt := 100) (pe := 87) (p := ((I d 6) = 0)) (q := ((I d 6) = 0)) rfl jv_bi_eq rfl rfl Iff.rfl (fun h14 => ?_) (fun h14 => ?_)
        · refine jv_Wp.lift (fun _ Kz => jv_Ev.steps jv_i28 1 (pc' := 101) (l' := [(8, .int (0 : Int32)), (7, .int (1 : Int32)), (6, .ref y), (0, .ref 10), (1, .long w), (3, .int (vl_I (vc_F w).n)), (4, .int (vr_b wd)), (5, .ref d)]) (st' := [.int (1 : Int32)]) rfl Kz) ?_
          refine jv_Wp.of (jv_Ev.ret jv_i28 rfl rfl) ?_
          have f1 : ¬ (vc_F w).n = 11 := fun z => h1 (by rw [z]; rfl)
          have f2 : ¬ (vc_F w).n = 8 := fun z => h8 (by rw [z]; rfl)
          have f3 : (vc_F w).n = 13 := (vl_I_inj (by omega) (by decide)).mp h13
          have f4 : (vc_T I L d).sort = 0 := (vc_is0 od).mpr h14
          rw [hQ]
          have a1 : vx_a1 (vc_F w) (vc_T I L d) (vc_T I L y) := by unfold vx_a1; omega
          have e : vx_ar (vc_F w) (vc_T I L d) (vc_T I L y) = (1, (vc_T I L d)) := vx_ar1 a1
          exact ⟨I, L, by rw [e]; rfl, fun z => by rw [e] at z; exact absurd (show (1 : Nat) = 0 from z) (by decide), vc_fr_refl _ _⟩
        · refine jv_Wp.lift (fun _ Kz => jv_Ev.steps jv_i28 1 (pc' := 89) (l' := [(8, .int (0 : Int32)), (7, .int (1 : Int32)), (6, .ref y), (0, .ref 10), (1, .long w), (3, .int (vl_I (vc_F w).n)), (4, .int (vr_b wd)), (5, .ref d)]) (st' := [.int (0 : Int32)]) rfl Kz) ?_
          refine jv_Wp.lift (fun _ Kz => jv_Ev.br jv_i28 (pc' := 102) (st' := []) rfl (by rfl) Kz) ?_
          refine jv_Wp.lift (fun _ Kz => jv_Ev.steps jv_i28 2 (pc' := 105) (l' := [(8, .int (0 : Int32)), (7, .int (1 : Int32)), (6, .ref y), (0, .ref 10), (1, .long w), (3, .int (vl_I (vc_F w).n)), (4, .int (vr_b wd)), (5, .ref d)]) (st' := [.int (11 : Int32), .int (vl_I (vc_F w).n)]) rfl Kz) ?_
          refine jv_Wp.cnd jv_i28 (pt := 129) (pe := 108) (p := (¬ (vl_I (vc_F w).n) = (11 : Int32))) (q := (¬ (vl_I (vc_F w).n) = (11 : Int32))) rfl jv_bc_ne rfl rfl Iff.rfl (fun _ => ?_) (fun hz => absurd h1 hz)
          refine jv_Wp.lift (fun _ Kz => jv_Ev.steps jv_i28 1 (pc' := 131) (l' := [(8, .int (0 : Int32)), (7, .int (1 : Int32)), (6, .ref y), (0, .ref 10), (1, .long w), (3, .int (vl_I (vc_F w).n)), (4, .int (vr_b wd)), (5, .ref d)]) (st' := [.int (1 : Int32)]) rfl Kz) ?_
          refine jv_Wp.lift (fun _ Kz => jv_Ev.br jv_i28 (pc' := 134) (st' := []) rfl (by rfl) Kz) ?_
          refine jv_Wp.lift (fun _ Kz => jv_Ev.steps jv_i28 1 (pc' := 136) (l' := [(8, .int (0 : Int32)), (7, .int (1 : Int32)), (6, .ref y), (0, .ref 10), (1, .long w), (3, .int (vl_I (vc_F w).n)), (4, .int (vr_b wd)), (5, .ref d)]) (st' := [.ref d]) rfl Kz) ?_
          refine jv_Wp.lift (fun _ Kz => jv_Ev.m jv_i28 (pc' := 139) (st' := [.int (I d 6)]) (G' := (jv_H K I L R)) rfl rfl (jv_m_getI hd rfl rfl rfl) Kz) ?_
          refine jv_Wp.lift (fun _ Kz => jv_Ev.steps jv_i28 1 (pc' := 140) (l' := [(8, .int (0 : Int32)), (7, .int (1 : Int32)), (6, .ref y), (0, .ref 10), (1, .long w), (3, .int (vl_I (vc_F w).n)), (4, .int (vr_b wd)), (5, .ref d)]) (st' := [.int (1 : Int32), .int (I d 6)]) rfl Kz) ?_
          refine jv_Wp.cnd jv_i28 (pt := 157) (pe := 143) (p := (¬ (I d 6) = (1 : Int32))) (q := (¬ (I d 6) = (1 : Int32))) rfl jv_bc_ne rfl rfl Iff.rfl (fun h15 => ?_) (fun h15 => ?_)
          · refine jv_Wp.lift (fun _ Kz => jv_Ev.steps jv_i28 1 (pc' := 159) (l' := [(8, .int (0 : Int32)), (7, .int (1 : Int32)), (6, .ref y), (0, .ref 10), (1, .long w), (3, .int (vl_I (vc_F w).n)), (4, .int (vr_b wd)), (5, .ref d)]) (st' := [.int (vr_b wd)]) rfl Kz) ?_
            refine jv_Wp.cnd jv_i28 (pt := 183) (pe := 162) (p := ((vr_b wd) = 0)) (q := ((vr_b wd) = 0)) rfl jv_bi_eq rfl rfl Iff.rfl (fun h16 => ?_) (fun h16 => ?_)
            · refine jv_Wp.lift (fun _ Kz => jv_Ev.steps jv_i28 1 (pc' := 184) (l' := [(8, .int (0 : Int32)), (7, .int (1 : Int32)), (6, .ref y), (0, .ref 10), (1, .long w), (3, .int (vl_I (vc_F w).n)), (4, .int (vr_b wd)), (5, .ref d)]) (st' := [.int (2 : Int32)]) rfl Kz) ?_
              refine jv_Wp.of (jv_Ev.ret jv_i28 rfl rfl) ?_
              have f1 : ¬ (vc_F w).n = 11 := fun z => h1 (by rw [z]; rfl)
              have f2 : ¬ (vc_F w).n = 8 := fun z => h8 (by rw [z]; rfl)
              have f3 : (vc_F w).n = 13 := (vl_I_inj (by omega) (by decide)).mp h13
              have f4 : ¬ (vc_T I L d).sort = 0 := fun z => h14 ((vc_is0 od).mp z)
              have f5 : ¬ (vc_T I L d).sort = 1 := fun z => h15 ((vc_is1 od).mp z)
              have f6 : ¬ (vc_F w).kind = 7 := of_decide_eq_false (hwd.symm.trans (by cases wd <;> first | rfl | exact absurd h16 (by decide)))
              rw [hQ]
              have a1 : ¬ vx_a1 (vc_F w) (vc_T I L d) (vc_T I L y) := by unfold vx_a1; omega
              have a2 : ¬ ((vc_F w).n = 11 ∧ (vc_F w).kind = 7 ∧ (vc_F w).o = 0) := by omega
              have a3 : vx_a3 (vc_F w) (vc_T I L d) (vc_T I L y) := by unfold vx_a3; omega
              have a4 : ¬ ((vc_F w).kind = 7 ∧ ((vc_F w).n = 0 ∨ (vc_F w).n = 1)) := by omega
              have e : vx_ar (vc_F w) (vc_T I L d) (vc_T I L y) = (2, (vc_T I L d)) := vx_ar4 a1 a2 a3 a4
              exact ⟨I, L, by rw [e]; rfl, fun z => by rw [e] at z; exact absurd (show (2 : Nat) = 0 from z) (by decide), vc_fr_refl _ _⟩
            · refine jv_Wp.lift (fun _ Kz => jv_Ev.steps jv_i28 1 (pc' := 163) (l' := [(8, .int (0 : Int32)), (7, .int (1 : Int32)), (6, .ref y), (0, .ref 10), (1, .long w), (3, .int (vl_I (vc_F w).n)), (4, .int (vr_b wd)), (5, .ref d)]) (st' := [.int (vl_I (vc_F w).n)]) rfl Kz) ?_
              refine jv_Wp.cnd jv_i28 (pt := 171) (pe := 166) (p := ((vl_I (vc_F w).n) = 0)) (q := ((vl_I (vc_F w).n) = 0)) rfl jv_bi_eq rfl rfl Iff.rfl (fun hz => absurd hz (fun z => absurd (z.symm.trans h13) (by decide))) (fun _ => ?_)
              refine jv_Wp.lift (fun _ Kz => jv_Ev.steps jv_i28 2 (pc' := 168) (l' := [(8, .int (0 : Int32)), (7, .int (1 : Int32)), (6, .ref y), (0, .ref 10), (1, .long w), (3, .int (vl_I (vc_F w).n)), (4, .int (vr_b wd)), (5, .ref d)]) (st' := [.int (1 : Int32), .int (vl_I (vc_F w).n)]) rfl Kz) ?_
              refine jv_Wp.cnd jv_i28 (pt := 183) (pe := 171) (p := (¬ (vl_I (vc_F w).n) = (1 : Int32))) (q := (¬ (vl_I (vc_F w).n) = (1 : Int32))) rfl jv_bc_ne rfl rfl Iff.rfl (fun _ => ?_) (fun hz => absurd (fun z => absurd (z.symm.trans h13) (by decide)) hz)
              refine jv_Wp.lift (fun _ Kz => jv_Ev.steps jv_i28 1 (pc' := 184) (l' := [(8, .int (0 : Int32)), (7, .int (1 : Int32)), (6, .ref y), (0, .ref 10), (1, .long w), (3, .int (vl_I (vc_F w).n)), (4, .int (vr_b wd)), (5, .ref d)]) (st' := [.int (2 : Int32)]) rfl Kz) ?_
              refine jv_Wp.of (jv_Ev.ret jv_i28 rfl rfl) ?_
              have f1 : ¬ (vc_F w).n = 11 := fun z => h1 (by rw [z]; rfl)
              have f2 : ¬ (vc_F w).n = 8 := fun z => h8 (by rw [z]; rfl)
              have f3 : (vc_F w).n = 13 := (vl_I_inj (by omega) (by decide)).mp h13
              have f4 : ¬ (vc_T I L d).sort = 0 := fun z => h14 ((vc_is0 od).mp z)
              have f5 : ¬ (vc_T I L d).sort = 1 := fun z => h15 ((vc_is1 od).mp z)
              have f6 : (vc_F w).kind = 7 := of_decide_eq_true (hwd.symm.trans (by cases wd <;> first | rfl | exact absurd rfl h16))
              rw [hQ]
              have a1 : ¬ vx_a1 (vc_F w) (vc_T I L d) (vc_T I L y) := by unfold vx_a1; omega
              have a2 : ¬ ((vc_F w).n = 11 ∧ (vc_F w).kind = 7 ∧ (vc_F w).o = 0) := by omega
              have a3 : vx_a3 (vc_F w) (vc_T I L d) (vc_T I L y) := by unfold vx_a3; omega
              have a4 : ¬ ((vc_F w).kind = 7 ∧ ((vc_F w).n = 0 ∨ (vc_F w).n = 1)) := by omega
              have e : vx_ar (vc_F w) (vc_T I L d) (vc_T I L y) = (2, (vc_T I L d)) := vx_ar4 a1 a2 a3 a4
              exact ⟨I, L, by rw [e]; rfl, fun z => by rw [e] at z; exact absurd (show (2 : Nat) = 0 from z) (by decide), vc_fr_refl _ _⟩
          · refine jv_Wp.lift (fun _ Kz => jv_Ev.steps jv_i28 1 (pc' := 145) (l' := [(8, .int (0 : Int32)), (7, .int (1 : Int32)), (6, .ref y), (0, .ref 10), (1, .long w), (3, .int (vl_I (vc_F w).n)), (4, .int (vr_b wd)), (5, .ref d)]) (st' := [.int (0 : Int32)]) rfl Kz) ?_
            refine jv_Wp.lift (fun _ Kz => jv_Ev.br jv_i28 (pc' := 185) (st' := []) rfl (by rfl) Kz) ?_
            refine jv_Wp.lift (fun _ Kz => jv_Ev.steps jv_i28 2 (pc' := 188) (l' := [(8, .int (0 : Int32)), (7, .int (1 : Int32)), (6, .ref y), (0, .ref 10), (1, .long w), (3, .int (vl_I (vc_F w).n)), (4, .int (vr_b wd)), (5, .ref d)]) (st' := [.int (13 : Int32), .int (vl_I (vc_F w).n)]) rfl Kz) ?_
            refine jv_Wp.cnd jv_i28 (pt := 201) (pe := 191) (p := (¬ (vl_I (vc_F w).n) = (13 : Int32))) (q := (¬ (vl_I (vc_F w).n) = (13 : Int32))) rfl jv_bc_ne rfl rfl Iff.rfl (fun hz => absurd hz (fun z => z h13)) (fun _ => ?_)
            refine jv_Wp.lift (fun _ Kz => jv_Ev.steps jv_i28 3 (pc' := 195) (l' := [(8, .int (0 : Int32)), (7, .int (1 : Int32)), (6, .ref y), (0, .ref 10), (1, .long w), (3, .int (vl_I (vc_F w).n)), (4, .int (vr_b wd)), (5, .ref d)]) (st' := [.ref d, .long w, .ref 10]) rfl Kz) ?_
            have f1 : ¬ (vc_F w).n = 11 := fun z => h1 (by rw [z]; rfl)
            have f2 : ¬ (vc_F w).n = 8 := fun z => h8 (by rw [z]; rfl)
            have f3 : (vc_F w).n = 13 := (vl_I_inj (by omega) (by decide)).mp h13
            have f4 : ¬ (vc_T I L d).sort = 0 := fun z => h14 ((vc_is0 od).mp z)
            have f5 : (vc_T I L d).sort = 1 := (vc_is1 od).mpr (Classical.not_not.mp h15)
            obtain ⟨mi, him, hmi, hi⟩ := vw_turn hf hk (show (vc_F w).n = 13 by omega)
            obtain ⟨I13, L13, H13, S13, F13⟩ := vc_turn (I := I) (L := L) (R := R) (n := n) (sl := sl) w mi hC (vc_Th_V hd) hxd him hmi
            refine jv_Wp.lift (fun _ Kz => jv_Ev.c jv_i28 (pc' := 198) (S' := []) (G1 := (jv_H K I13 L13 R)) jv_i29 [.ref 10, .long w, .ref d] rfl rfl rfl rfl (jv_cal rfl (jv_H_at hC.k) rfl rfl) rfl H13 rfl rfl Kz) ?_
            refine jv_Wp.lift (fun _ Kz => jv_Ev.steps jv_i28 3 (pc' := 268) (l' := [(8, .int (0 : Int32)), (7, .int (1 : Int32)), (6, .ref y), (0, .ref 10), (1, .long w), (3, .int (vl_I (vc_F w).n)), (4, .int (vr_b wd)), (5, .ref d)]) (st' := [.ref 10, .ref d]) rfl Kz) ?_
            refine jv_Wp.lift (fun _ Kz => jv_Ev.m jv_i28 (pc' := 271) (st' := [.ref 169, .ref d]) (G' := (jv_H K I13 L13 R)) rfl rfl (jv_m_getR hC.k rfl rfl hC.rout) Kz) ?_
            have f1 : ¬ (vc_F w).n = 11 := fun z => h1 (by rw [z]; rfl)
            have f2 : ¬ (vc_F w).n = 8 := fun z => h8 (by rw [z]; rfl)
            have f3 : (vc_F w).n = 13 := (vl_I_inj (by omega) (by decide)).mp h13
            have f4 : ¬ (vc_T I L d).sort = 0 := fun z => h14 ((vc_is0 od).mp z)
            have f5 : (vc_T I L d).sort = 1 := (vc_is1 od).mpr (Classical.not_not.mp h15)
            obtain ⟨I14, L14, H14, T14, O14, F14⟩ := vc_num (I := I13) (L := L13) (R := R) (n := n) (sl := sl) hd (Or.inl hC.k169)
            refine jv_Wp.lift (fun _ Kz => jv_Ev.c jv_i28 (pc' := 274) (S' := []) (G1 := (jv_H K I14 L14 R)) jv_i142 [.ref d, .ref 169] rfl rfl rfl rfl (jv_cal rfl (jv_H_at hd) rfl rfl) rfl H14 rfl rfl Kz) ?_
            refine jv_Wp.lift (fun _ Kz => jv_Ev.steps jv_i28 1 (pc' := 275) (l' := [(8, .int (0 : Int32)), (7, .int (1 : Int32)), (6, .ref y), (0, .ref 10), (1, .long w), (3, .int (vl_I (vc_F w).n)), (4, .int (vr_b wd)), (5, .ref d)]) (st' := [.int (0 : Int32)]) rfl Kz) ?_
            refine jv_Wp.of (jv_Ev.ret jv_i28 rfl rfl) ?_
            have f1 : ¬ (vc_F w).n = 11 := fun z => h1 (by rw [z]; rfl)
            have f2 : ¬ (vc_F w).n = 8 := fun z => h8 (by rw [z]; rfl)
            have f3 : (vc_F w).n = 13 := (vl_I_inj (by omega) (by decide)).mp h13
            have f4 : ¬ (vc_T I L d).sort = 0 := fun z => h14 ((vc_is0 od).mp z)
            have f5 : (vc_T I L d).sort = 1 := (vc_is1 od).mpr (Classical.not_not.mp h15)
            rw [hQ]
            have a1 : ¬ vx_a1 (vc_F w) (vc_T I L d) (vc_T I L y) := by unfold vx_a1; omega
            have a2 : ¬ ((vc_F w).n = 11 ∧ (vc_F w).kind = 7 ∧ (vc_F w).o = 0) := by omega
            have a3 : ¬ vx_a3 (vc_F w) (vc_T I L d) (vc_T I L y) := by unfold vx_a3; omega
            have e := vx_ar5 a1 a2 a3
            have xd : (vc_T I L d).val = vl_S L d := vc_valv (Or.inl ((vc_is1 od).mp (by omega)))
            have ev : vl_S L13 169 = vx_reckon (vc_F w) (vc_T I L d).val (vc_T I L y).val := by rw [vx_rk13 (show (vc_F w).n = 13 by omega), xd, show (vc_F w).i.toNat = mi by omega]; exact S13
            exact ⟨_, _, by rw [e]; rfl, fun _ => ⟨by rw [e, T14, ev], O14⟩, vc_fr_trans (vc_fr_mono F13 (fun p z => Or.inr (Or.inr z))) (vc_fr_mono F14 (fun p z => Or.inl z))⟩
      · refine jv_Wp.lift (fun _ Kz => jv_Ev.steps jv_i28 4 (pc' := 76) (l' := [(8, .int (1 : Int32)), (7, .int (1 : Int32)), (6, .ref y), (0, .ref 10), (1, .long w), (3, .int (vl_I (vc_F w).n)), (4, .int (vr_b wd)), (5, .ref d)]) (st' := [.int (1 : Int32)]) rfl Kz) ?_
        refine jv_Wp.lift (fun _ Kz => jv_Ev.br jv_i28 (pc' := 79) (st' := []) rfl (by rfl) Kz) ?_
        refine jv_Wp.lift (fun _ Kz => jv_Ev.steps jv_i28 1 (pc' := 81) (l' := [(8, .int (1 : Int32)), (7, .int (1 : Int32)), (6, .ref y), (0, .ref 10), (1, .long w), (3, .int (vl_I (vc_F w).n)), (4, .int (vr_b wd)), (5, .ref d)]) (st' := [.ref d]) rfl Kz) ?_
        refine jv_Wp.lift (fun _ Kz => jv_Ev.m jv_i28 (pc' := 84) (st' := [.int (I d 6)]) (G' := (jv_H K I L R)) rfl rfl (jv_m_getI hd rfl rfl rfl) Kz) ?_
        refine jv_Wp.cnd jv_i28 (pt := 100) (pe := 87) (p := ((I d 6) = 0)) (q := ((I d 6) = 0)) rfl jv_bi_eq rfl rfl Iff.rfl (fun h17 => ?_) (fun h17 => ?_)
        · refine jv_Wp.lift (fun _ Kz => jv_Ev.steps jv_i28 1 (pc' := 101) (l' := [(8, .int (1 : Int32)), (7, .int (1 : Int32)), (6, .ref y), (0, .ref 10), (1, .long w), (3, .int (vl_I (vc_F w).n)), (4, .int (vr_b wd)), (5, .ref d)]) (st' := [.int (1 : Int32)]) rfl Kz) ?_
          refine jv_Wp.of (jv_Ev.ret jv_i28 rfl rfl) ?_
          have f1 : ¬ (vc_F w).n = 11 := fun z => h1 (by rw [z]; rfl)
          have f2 : ¬ (vc_F w).n = 8 := fun z => h8 (by rw [z]; rfl)
          have f3 : ¬ (vc_F w).n = 13 := fun z => h13 (by rw [z]; rfl)
          have f4 : (vc_T I L d).sort = 0 := (vc_is0 od).mpr h17
          rw [hQ]
          have a1 : vx_a1 (vc_F w) (vc_T I L d) (vc_T I L y) := by unfold vx_a1; omega
          have e : vx_ar (vc_F w) (vc_T I L d) (vc_T I L y) = (1, (vc_T I L d)) := vx_ar1 a1
          exact ⟨I, L, by rw [e]; rfl, fun z => by rw [e] at z; exact absurd (show (1 : Nat) = 0 from z) (by decide), vc_fr_refl _ _⟩
        · refine jv_Wp.lift (fun _ Kz => jv_Ev.steps jv_i28 1 (pc' := 89) (l' := [(8, .int (1 : Int32)), (7, .int (1 : Int32)), (6, .ref y), (0, .ref 10), (1, .long w), (3, .int (vl_I (vc_F w).n)), (4, .int (vr_b wd)), (5, .ref d)]) (st' := [.int (1 : Int32)]) rfl Kz) ?_
          refine jv_Wp.lift (fun _ Kz => jv_Ev.br jv_i28 (pc' := 92) (st' := []) rfl (by rfl) Kz) ?_
          refine jv_Wp.lift (fun _ Kz => jv_Ev.steps jv_i28 1 (pc' := 94) (l' := [(8, .int (1 : Int32)), (7, .int (1 : Int32)), (6, .ref y), (0, .ref 10), (1, .long w), (3, .int (vl_I (vc_F w).n)), (4, .int (vr_b wd)), (5, .ref d)]) (st' := [.ref y]) rfl Kz) ?_
          refine jv_Wp.lift (fun _ Kz => jv_Ev.m jv_i28 (pc' := 97) (st' := [.int (I y 6)]) (G' := (jv_H K I L R)) rfl rfl (jv_m_getI hy rfl rfl rfl) Kz) ?_
          refine jv_Wp.cnd jv_i28 (pt := 102) (pe := 100) (p := (¬ (I y 6) = 0)) (q := (¬ (I y 6) = 0)) rfl jv_bi_ne rfl rfl Iff.rfl (fun h18 => ?_) (fun h18 => ?_)
          · refine jv_Wp.lift (fun _ Kz => jv_Ev.steps jv_i28 2 (pc' := 105) (l' := [(8, .int (1 : Int32)), (7, .int (1 : Int32)), (6, .ref y), (0, .ref 10), (1, .long w), (3, .int (vl_I (vc_F w).n)), (4, .int (vr_b wd)), (5, .ref d)]) (st' := [.int (11 : Int32), .int (vl_I (vc_F w).n)]) rfl Kz) ?_
            refine jv_Wp.cnd jv_i28 (pt := 129) (pe := 108) (p := (¬ (vl_I (vc_F w).n) = (11 : Int32))) (q := (¬ (vl_I (vc_F w).n) = (11 : Int32))) rfl jv_bc_ne rfl rfl Iff.rfl (fun _ => ?_) (fun hz => absurd h1 hz)
            refine jv_Wp.lift (fun _ Kz => jv_Ev.steps jv_i28 1 (pc' := 131) (l' := [(8, .int (1 : Int32)), (7, .int (1 : Int32)), (6, .ref y), (0, .ref 10), (1, .long w), (3, .int (vl_I (vc_F w).n)), (4, .int (vr_b wd)), (5, .ref d)]) (st' := [.int (1 : Int32)]) rfl Kz) ?_
            refine jv_Wp.lift (fun _ Kz => jv_Ev.br jv_i28 (pc' := 134) (st' := []) rfl (by rfl) Kz) ?_
            refine jv_Wp.lift (fun _ Kz => jv_Ev.steps jv_i28 1 (pc' := 136) (l' := [(8, .int (1 : Int32)), (7, .int (1 : Int32)), (6, .ref y), (0, .ref 10), (1, .long w), (3, .int (vl_I (vc_F w).n)), (4, .int (vr_b wd)), (5, .ref d)]) (st' := [.ref d]) rfl Kz) ?_
            refine jv_Wp.lift (fun _ Kz => jv_Ev.m jv_i28 (pc' := 139) (st' := [.int (I d 6)]) (G' := (jv_H K I L R)) rfl rfl (jv_m_getI hd rfl rfl rfl) Kz) ?_
            refine jv_Wp.lift (fun _ Kz => jv_Ev.steps jv_i28 1 (pc' := 140) (l' := [(8, .int (1 : Int32)), (7, .int (1 : Int32)), (6, .ref y), (0, .ref 10), (1, .long w), (3, .int (vl_I (vc_F w).n)), (4, .int (vr_b wd)), (5, .ref d)]) (st' := [.int (1 : Int32), .int (I d 6)]) rfl Kz) ?_
            refine jv_Wp.cnd jv_i28 (pt := 157) (pe := 143) (p := (¬ (I d 6) = (1 : Int32))) (q := (¬ (I d 6) = (1 : Int32))) rfl jv_bc_ne rfl rfl Iff.rfl (fun h19 => ?_) (fun h19 => ?_)
            · refine jv_Wp.lift (fun _ Kz => jv_Ev.steps jv_i28 1 (pc' := 159) (l' := [(8, .int (1 : Int32)), (7, .int (1 : Int32)), (6, .ref y), (0, .ref 10), (1, .long w), (3, .int (vl_I (vc_F w).n)), (4, .int (vr_b wd)), (5, .ref d)]) (st' := [.int (vr_b wd)]) rfl Kz) ?_
              refine jv_Wp.cnd jv_i28 (pt := 183) (pe := 162) (p := ((vr_b wd) = 0)) (q := ((vr_b wd) = 0)) rfl jv_bi_eq rfl rfl Iff.rfl (fun h20 => ?_) (fun h20 => ?_)
              · refine jv_Wp.lift (fun _ Kz => jv_Ev.steps jv_i28 1 (pc' := 184) (l' := [(8, .int (1 : Int32)), (7, .int (1 : Int32)), (6, .ref y), (0, .ref 10), (1, .long w), (3, .int (vl_I (vc_F w).n)), (4, .int (vr_b wd)), (5, .ref d)]) (st' := [.int (2 : Int32)]) rfl Kz) ?_
                refine jv_Wp.of (jv_Ev.ret jv_i28 rfl rfl) ?_
                have f1 : ¬ (vc_F w).n = 11 := fun z => h1 (by rw [z]; rfl)
                have f2 : ¬ (vc_F w).n = 8 := fun z => h8 (by rw [z]; rfl)
                have f3 : ¬ (vc_F w).n = 13 := fun z => h13 (by rw [z]; rfl)
                have f4 : ¬ (vc_T I L d).sort = 0 := fun z => h17 ((vc_is0 od).mp z)
                have f5 : ¬ (vc_T I L y).sort = 0 := fun z => h18 ((vc_is0 oy).mp z)
                have f6 : ¬ (vc_T I L d).sort = 1 := fun z => h19 ((vc_is1 od).mp z)
                have f7 : ¬ (vc_F w).kind = 7 := of_decide_eq_false (hwd.symm.trans (by cases wd <;> first | rfl | exact absurd h20 (by decide)))
                rw [hQ]
                have a1 : ¬ vx_a1 (vc_F w) (vc_T I L d) (vc_T I L y) := by unfold vx_a1; omega
                have a2 : ¬ ((vc_F w).n = 11 ∧ (vc_F w).kind = 7 ∧ (vc_F w).o = 0) := by omega
                have a3 : vx_a3 (vc_F w) (vc_T I L d) (vc_T I L y) := by unfold vx_a3; omega
                have a4 : ¬ ((vc_F w).kind = 7 ∧ ((vc_F w).n = 0 ∨ (vc_F w).n = 1)) := by omega
                have e : vx_ar (vc_F w) (vc_T I L d) (vc_T I L y) = (2, (vc_T I L d)) := vx_ar4 a1 a2 a3 a4
                exact ⟨I, L, by rw [e]; rfl, fun z => by rw [e] at z; exact absurd (show (2 : Nat) = 0 from z) (by decide), vc_fr_refl _ _⟩
              · refine jv_Wp.lift (fun _ Kz => jv_Ev.steps jv_i28 1 (pc' := 163) (l' := [(8, .int (1 : Int32)), (7, .int (1 : Int32)), (6, .ref y), (0, .ref 10), (1, .long w), (3, .int (vl_I (vc_F w).n)), (4, .int (vr_b wd)), (5, .ref d)]) (st' := [.int (vl_I (vc_F w).n)]) rfl Kz) ?_
                refine jv_Wp.cnd jv_i28 (pt := 171) (pe := 166) (p := ((vl_I (vc_F w).n) = 0)) (q := ((vl_I (vc_F w).n) = 0)) rfl jv_bi_eq rfl rfl Iff.rfl (fun h21 => ?_) (fun h21 => ?_)
                · refine jv_Wp.lift (fun _ Kz => jv_Ev.steps jv_i28 4 (pc' := 177) (l' := [(8, .int (1 : Int32)), (7, .int (1 : Int32)), (6, .ref y), (0, .ref 10), (1, .long w), (3, .int (vl_I (vc_F w).n)), (4, .int (vr_b wd)), (5, .ref d)]) (st' := [.ref y, .ref d, .int (vl_I (vc_F w).n), .ref 10]) rfl Kz) ?_
                  have f1 : ¬ (vc_F w).n = 11 := fun z => h1 (by rw [z]; rfl)
                  have f2 : ¬ (vc_F w).n = 8 := fun z => h8 (by rw [z]; rfl)
                  have f3 : ¬ (vc_F w).n = 13 := fun z => h13 (by rw [z]; rfl)
                  have f4 : ¬ (vc_T I L d).sort = 0 := fun z => h17 ((vc_is0 od).mp z)
                  have f5 : ¬ (vc_T I L y).sort = 0 := fun z => h18 ((vc_is0 oy).mp z)
                  have f6 : ¬ (vc_T I L d).sort = 1 := fun z => h19 ((vc_is1 od).mp z)
                  have f7 : (vc_F w).kind = 7 := of_decide_eq_true (hwd.symm.trans (by cases wd <;> first | rfl | exact absurd rfl h20))
                  have f8 : (vc_F w).n = 0 := (vl_I_inj (by omega) (by decide)).mp h21
                  obtain ⟨I15, L15, H15, T15, F15⟩ := vc_move (I := I) (L := L) (R := R) (n := n) (sl := sl) (vc_F w).n hC (show (vc_F w).n = 0 ∨ (vc_F w).n = 1 by omega) hd hy hdl hyl hxd hxy od oy (by rw [← vc_is1 od, ← vc_is1 oy]; omega) td ty fd fy
                  refine jv_Wp.lift (fun _ Kz => jv_Ev.c jv_i28 (pc' := 180) (S' := [.int (vl_I (vx_move (vc_F w).n (vc_T I L d) (vc_T I L y)).1)]) (G1 := (jv_H K I15 L15 R)) jv_i32 [.ref 10, .int (vl_I (vc_F w).n), .ref d, .ref y] rfl rfl rfl rfl (jv_cal rfl (jv_H_at hC.k) rfl rfl) rfl H15 rfl rfl Kz) ?_
                  refine jv_Wp.lift (fun _ Kz => jv_Ev.steps jv_i28 1 (pc' := 184) (l' := [(8, .int (1 : Int32)), (7, .int (1 : Int32)), (6, .ref y), (0, .ref 10), (1, .long w), (3, .int (vl_I (vc_F w).n)), (4, .int (vr_b wd)), (5, .ref d)]) (st' := [.int (vl_I (vx_move (vc_F w).n (vc_T I L d) (vc_T I L y)).1)]) rfl Kz) ?_
                  refine jv_Wp.of (jv_Ev.ret jv_i28 rfl rfl) ?_
                  have f1 : ¬ (vc_F w).n = 11 := fun z => h1 (by rw [z]; rfl)
                  have f2 : ¬ (vc_F w).n = 8 := fun z => h8 (by rw [z]; rfl)
                  have f3 : ¬ (vc_F w).n = 13 := fun z => h13 (by rw [z]; rfl)
                  have f4 : ¬ (vc_T I L d).sort = 0 := fun z => h17 ((vc_is0 od).mp z)
                  have f5 : ¬ (vc_T I L y).sort = 0 := fun z => h18 ((vc_is0 oy).mp z)
                  have f6 : ¬ (vc_T I L d).sort = 1 := fun z => h19 ((vc_is1 od).mp z)
                  have f7 : (vc_F w).kind = 7 := of_decide_eq_true (hwd.symm.trans (by cases wd <;> first | rfl | exact absurd rfl h20))
                  have f8 : (vc_F w).n = 0 := (vl_I_inj (by omega) (by decide)).mp h21
                  rw [hQ]
                  have a1 : ¬ vx_a1 (vc_F w) (vc_T I L d) (vc_T I L y) := by unfold vx_a1; omega
                  have a2 : ¬ ((vc_F w).n = 11 ∧ (vc_F w).kind = 7 ∧ (vc_F w).o = 0) := by omega
                  have a3 : vx_a3 (vc_F w) (vc_T I L d) (vc_T I L y) := by unfold vx_a3; omega
                  have a4 : (vc_F w).kind = 7 ∧ ((vc_F w).n = 0 ∨ (vc_F w).n = 1) := by omega
                  have e := vx_ar3 a1 a2 a3 a4
                  rw [e]
                  exact ⟨_, _, rfl, T15, vc_fr_mono F15 (fun p z => z.imp id Or.inr)⟩
                · refine jv_Wp.lift (fun _ Kz => jv_Ev.steps jv_i28 2 (pc' := 168) (l' := [(8, .int (1 : Int32)), (7, .int (1 : Int32)), (6, .ref y), (0, .ref 10), (1, .long w), (3, .int (vl_I (vc_F w).n)), (4, .int (vr_b wd)), (5, .ref d)]) (st' := [.int (1 : Int32), .int (vl_I (vc_F w).n)]) rfl Kz) ?_
                  refine jv_Wp.cnd jv_i28 (pt := 183) (pe := 171) (p := (¬ (vl_I (vc_F w).n) = (1 : Int32))) (q := (¬ (vl_I (vc_F w).n) = (1 : Int32))) rfl jv_bc_ne rfl rfl Iff.rfl (fun h22 => ?_) (fun h22 => ?_)
                  · refine jv_Wp.lift (fun _ Kz => jv_Ev.steps jv_i28 1 (pc' := 184) (l' := [(8, .int (1 : Int32)), (7, .int (1 : Int32)), (6, .ref y), (0, .ref 10), (1, .long w), (3, .int (vl_I (vc_F w).n)), (4, .int (vr_b wd)), (5, .ref d)]) (st' := [.int (2 : Int32)]) rfl Kz) ?_
                    refine jv_Wp.of (jv_Ev.ret jv_i28 rfl rfl) ?_
                    have f1 : ¬ (vc_F w).n = 11 := fun z => h1 (by rw [z]; rfl)
                    have f2 : ¬ (vc_F w).n = 8 := fun z => h8 (by rw [z]; rfl)
                    have f3 : ¬ (vc_F w).n = 13 := fun z => h13 (by rw [z]; rfl)
                    have f4 : ¬ (vc_T I L d).sort = 0 := fun z => h17 ((vc_is0 od).mp z)
                    have f5 : ¬ (vc_T I L y).sort = 0 := fun z => h18 ((vc_is0 oy).mp z)
                    have f6 : ¬ (vc_T I L d).sort = 1 := fun z => h19 ((vc_is1 od).mp z)
                    have f7 : (vc_F w).kind = 7 := of_decide_eq_true (hwd.symm.trans (by cases wd <;> first | rfl | exact absurd rfl h20))
                    have f8 : ¬ (vc_F w).n = 0 := fun z => h21 (by rw [z]; rfl)
                    have f9 : ¬ (vc_F w).n = 1 := fun z => h22 (by rw [z]; rfl)
                    rw [hQ]
                    have a1 : ¬ vx_a1 (vc_F w) (vc_T I L d) (vc_T I L y) := by unfold vx_a1; omega
                    have a2 : ¬ ((vc_F w).n = 11 ∧ (vc_F w).kind = 7 ∧ (vc_F w).o = 0) := by omega
                    have a3 : vx_a3 (vc_F w) (vc_T I L d) (vc_T I L y) := by unfold vx_a3; omega
                    have a4 : ¬ ((vc_F w).kind = 7 ∧ ((vc_F w).n = 0 ∨ (vc_F w).n = 1)) := by omega
                    have e : vx_ar (vc_F w) (vc_T I L d) (vc_T I L y) = (2, (vc_T I L d)) := vx_ar4 a1 a2 a3 a4
                    exact ⟨I, L, by rw [e]; rfl, fun z => by rw [e] at z; exact absurd (show (2 : Nat) = 0 from z) (by decide), vc_fr_refl _ _⟩
                  · refine jv_Wp.lift (fun _ Kz => jv_Ev.steps jv_i28 4 (pc' := 177) (l' := [(8, .int (1 : Int32)), (7, .int (1 : Int32)), (6, .ref y), (0, .ref 10), (1, .long w), (3, .int (vl_I (vc_F w).n)), (4, .int (vr_b wd)), (5, .ref d)]) (st' := [.ref y, .ref d, .int (vl_I (vc_F w).n), .ref 10]) rfl Kz) ?_
                    have f1 : ¬ (vc_F w).n = 11 := fun z => h1 (by rw [z]; rfl)
                    have f2 : ¬ (vc_F w).n = 8 := fun z => h8 (by rw [z]; rfl)
                    have f3 : ¬ (vc_F w).n = 13 := fun z => h13 (by rw [z]; rfl)
                    have f4 : ¬ (vc_T I L d).sort = 0 := fun z => h17 ((vc_is0 od).mp z)
                    have f5 : ¬ (vc_T I L y).sort = 0 := fun z => h18 ((vc_is0 oy).mp z)
                    have f6 : ¬ (vc_T I L d).sort = 1 := fun z => h19 ((vc_is1 od).mp z)
                    have f7 : (vc_F w).kind = 7 := of_decide_eq_true (hwd.symm.trans (by cases wd <;> first | rfl | exact absurd rfl h20))
                    have f8 : ¬ (vc_F w).n = 0 := fun z => h21 (by rw [z]; rfl)
                    have f9 : (vc_F w).n = 1 := (vl_I_inj (by omega) (by decide)).mp (Classical.not_not.mp h22)
                    obtain ⟨I16, L16, H16, T16, F16⟩ := vc_move (I := I) (L := L) (R := R) (n := n) (sl := sl) (vc_F w).n hC (show (vc_F w).n = 0 ∨ (vc_F w).n = 1 by omega) hd hy hdl hyl hxd hxy od oy (by rw [← vc_is1 od, ← vc_is1 oy]; omega) td ty fd fy
                    refine jv_Wp.lift (fun _ Kz => jv_Ev.c jv_i28 (pc' := 180) (S' := [.int (vl_I (vx_move (vc_F w).n (vc_T I L d) (vc_T I L y)).1)]) (G1 := (jv_H K I16 L16 R)) jv_i32 [.ref 10, .int (vl_I (vc_F w).n), .ref d, .ref y] rfl rfl rfl rfl (jv_cal rfl (jv_H_at hC.k) rfl rfl) rfl H16 rfl rfl Kz) ?_
                    refine jv_Wp.lift (fun _ Kz => jv_Ev.steps jv_i28 1 (pc' := 184) (l' := [(8, .int (1 : Int32)), (7, .int (1 : Int32)), (6, .ref y), (0, .ref 10), (1, .long w), (3, .int (vl_I (vc_F w).n)), (4, .int (vr_b wd)), (5, .ref d)]) (st' := [.int (vl_I (vx_move (vc_F w).n (vc_T I L d) (vc_T I L y)).1)]) rfl Kz) ?_
                    refine jv_Wp.of (jv_Ev.ret jv_i28 rfl rfl) ?_
                    have f1 : ¬ (vc_F w).n = 11 := fun z => h1 (by rw [z]; rfl)
                    have f2 : ¬ (vc_F w).n = 8 := fun z => h8 (by rw [z]; rfl)
                    have f3 : ¬ (vc_F w).n = 13 := fun z => h13 (by rw [z]; rfl)
                    have f4 : ¬ (vc_T I L d).sort = 0 := fun z => h17 ((vc_is0 od).mp z)
                    have f5 : ¬ (vc_T I L y).sort = 0 := fun z => h18 ((vc_is0 oy).mp z)
                    have f6 : ¬ (vc_T I L d).sort = 1 := fun z => h19 ((vc_is1 od).mp z)
                    have f7 : (vc_F w).kind = 7 := of_decide_eq_true (hwd.symm.trans (by cases wd <;> first | rfl | exact absurd rfl h20))
                    have f8 : ¬ (vc_F w).n = 0 := fun z => h21 (by rw [z]; rfl)
                    have f9 : (vc_F w).n = 1 := (vl_I_inj (by omega) (by decide)).mp (Classical.not_not.mp h22)
                    rw [hQ]
                    have a1 : ¬ vx_a1 (vc_F w) (vc_T I L d) (vc_T I L y) := by unfold vx_a1; omega
                    have a2 : ¬ ((vc_F w).n = 11 ∧ (vc_F w).kind = 7 ∧ (vc_F w).o = 0) := by omega
                    have a3 : vx_a3 (vc_F w) (vc_T I L d) (vc_T I L y) := by unfold vx_a3; omega
                    have a4 : (vc_F w).kind = 7 ∧ ((vc_F w).n = 0 ∨ (vc_F w).n = 1) := by omega
                    have e := vx_ar3 a1 a2 a3 a4
                    rw [e]
                    exact ⟨_, _, rfl, T16, vc_fr_mono F16 (fun p z => z.imp id Or.inr)⟩
            · refine jv_Wp.lift (fun _ Kz => jv_Ev.steps jv_i28 1 (pc' := 145) (l' := [(8, .int (1 : Int32)), (7, .int (1 : Int32)), (6, .ref y), (0, .ref 10), (1, .long w), (3, .int (vl_I (vc_F w).n)), (4, .int (vr_b wd)), (5, .ref d)]) (st' := [.int (1 : Int32)]) rfl Kz) ?_
              refine jv_Wp.lift (fun _ Kz => jv_Ev.br jv_i28 (pc' := 148) (st' := []) rfl (by rfl) Kz) ?_
              refine jv_Wp.lift (fun _ Kz => jv_Ev.steps jv_i28 1 (pc' := 150) (l' := [(8, .int (1 : Int32)), (7, .int (1 : Int32)), (6, .ref y), (0, .ref 10), (1, .long w), (3, .int (vl_I (vc_F w).n)), (4, .int (vr_b wd)), (5, .ref d)]) (st' := [.ref y]) rfl Kz) ?_
              refine jv_Wp.lift (fun _ Kz => jv_Ev.m jv_i28 (pc' := 153) (st' := [.int (I y 6)]) (G' := (jv_H K I L R)) rfl rfl (jv_m_getI hy rfl rfl rfl) Kz) ?_
              refine jv_Wp.lift (fun _ Kz => jv_Ev.steps jv_i28 1 (pc' := 154) (l' := [(8, .int (1 : Int32)), (7, .int (1 : Int32)), (6, .ref y), (0, .ref 10), (1, .long w), (3, .int (vl_I (vc_F w).n)), (4, .int (vr_b wd)), (5, .ref d)]) (st' := [.int (1 : Int32), .int (I y 6)]) rfl Kz) ?_
              refine jv_Wp.cnd jv_i28 (pt := 185) (pe := 157) (p := ((I y 6) = (1 : Int32))) (q := ((I y 6) = (1 : Int32))) rfl jv_bc_eq rfl rfl Iff.rfl (fun h23 => ?_) (fun h23 => ?_)
              · refine jv_Wp.lift (fun _ Kz => jv_Ev.steps jv_i28 2 (pc' := 188) (l' := [(8, .int (1 : Int32)), (7, .int (1 : Int32)), (6, .ref y), (0, .ref 10), (1, .long w), (3, .int (vl_I (vc_F w).n)), (4, .int (vr_b wd)), (5, .ref d)]) (st' := [.int (13 : Int32), .int (vl_I (vc_F w).n)]) rfl Kz) ?_
                refine jv_Wp.cnd jv_i28 (pt := 201) (pe := 191) (p := (¬ (vl_I (vc_F w).n) = (13 : Int32))) (q := (¬ (vl_I (vc_F w).n) = (13 : Int32))) rfl jv_bc_ne rfl rfl Iff.rfl (fun _ => ?_) (fun hz => absurd h13 hz)
                refine jv_Wp.lift (fun _ Kz => jv_Ev.steps jv_i28 1 (pc' := 202) (l' := [(8, .int (1 : Int32)), (7, .int (1 : Int32)), (6, .ref y), (0, .ref 10), (1, .long w), (3, .int (vl_I (vc_F w).n)), (4, .int (vr_b wd)), (5, .ref d)]) (st' := [.long w]) rfl Kz) ?_
                refine jv_Wp.lift (fun _ Kz => jv_Ev.c jv_i28 (pc' := 205) (S' := [.int (jv_wfoffset w)]) jv_i88 [.long w] rfl rfl rfl rfl rfl rfl (jv_s88 w) rfl rfl Kz) ?_
                refine jv_Wp.cnd jv_i28 (pt := 224) (pe := 208) (p := ((jv_wfoffset w) = 0)) (q := ((jv_wfoffset w) = 0)) rfl jv_bi_eq rfl rfl Iff.rfl (fun h24 => ?_) (fun h24 => ?_)
                · refine jv_Wp.lift (fun _ Kz => jv_Ev.steps jv_i28 2 (pc' := 227) (l' := [(8, .int (1 : Int32)), (7, .int (1 : Int32)), (6, .ref y), (0, .ref 10), (1, .long w), (3, .int (vl_I (vc_F w).n)), (4, .int (vr_b wd)), (5, .ref d)]) (st' := [.int (8 : Int32), .int (vl_I (vc_F w).n)]) rfl Kz) ?_
                  refine jv_Wp.cnd jv_i28 (pt := 254) (pe := 230) (p := (¬ (vl_I (vc_F w).n) = (8 : Int32))) (q := (¬ (vl_I (vc_F w).n) = (8 : Int32))) rfl jv_bc_ne rfl rfl Iff.rfl (fun _ => ?_) (fun hz => absurd h8 hz)
                  refine jv_Wp.lift (fun _ Kz => jv_Ev.steps jv_i28 5 (pc' := 262) (l' := [(8, .int (1 : Int32)), (7, .int (1 : Int32)), (6, .ref y), (0, .ref 10), (1, .long w), (3, .int (vl_I (vc_F w).n)), (4, .int (vr_b wd)), (5, .ref d)]) (st' := [.ref y, .ref d, .int (vr_b wd), .int (vl_I (vc_F w).n), .ref 10]) rfl Kz) ?_
                  have f1 : ¬ (vc_F w).n = 11 := fun z => h1 (by rw [z]; rfl)
                  have f2 : ¬ (vc_F w).n = 8 := fun z => h8 (by rw [z]; rfl)
                  have f3 : ¬ (vc_F w).n = 13 := fun z => h13 (by rw [z]; rfl)
                  have f4 : ¬ (vc_T I L d).sort = 0 := fun z => h17 ((vc_is0 od).mp z)
                  have f5 : ¬ (vc_T I L y).sort = 0 := fun z => h18 ((vc_is0 oy).mp z)
                  have f6 : (vc_T I L d).sort = 1 := (vc_is1 od).mpr (Classical.not_not.mp h19)
                  have f7 : (vc_T I L y).sort = 1 := (vc_is1 oy).mpr h23
                  have f8 : (vc_F w).o = 0 := congrArg Int32.toInt h24
                  obtain ⟨I17, L17, H17, S17, F17⟩ := vc_rn (I := I) (L := L) (R := R) (n := n) (sl := sl) (vc_F w).n wd hC (vw_n16 w) (vc_Th_V hd) (vc_Th_V hy) hxd hxy (ty ((vc_is1 oy).mp (by omega)))
                  refine jv_Wp.lift (fun _ Kz => jv_Ev.c jv_i28 (pc' := 265) (S' := []) (G1 := (jv_H K I17 L17 R)) jv_i31 [.ref 10, .int (vl_I (vc_F w).n), .int (vr_b wd), .ref d, .ref y] rfl rfl rfl rfl (jv_cal rfl (jv_H_at hC.k) rfl rfl) rfl H17 rfl rfl Kz) ?_
                  refine jv_Wp.lift (fun _ Kz => jv_Ev.steps jv_i28 2 (pc' := 268) (l' := [(8, .int (1 : Int32)), (7, .int (1 : Int32)), (6, .ref y), (0, .ref 10), (1, .long w), (3, .int (vl_I (vc_F w).n)), (4, .int (vr_b wd)), (5, .ref d)]) (st' := [.ref 10, .ref d]) rfl Kz) ?_
                  refine jv_Wp.lift (fun _ Kz => jv_Ev.m jv_i28 (pc' := 271) (st' := [.ref 169, .ref d]) (G' := (jv_H K I17 L17 R)) rfl rfl (jv_m_getR hC.k rfl rfl hC.rout) Kz) ?_
                  have f1 : ¬ (vc_F w).n = 11 := fun z => h1 (by rw [z]; rfl)
                  have f2 : ¬ (vc_F w).n = 8 := fun z => h8 (by rw [z]; rfl)
                  have f3 : ¬ (vc_F w).n = 13 := fun z => h13 (by rw [z]; rfl)
                  have f4 : ¬ (vc_T I L d).sort = 0 := fun z => h17 ((vc_is0 od).mp z)
                  have f5 : ¬ (vc_T I L y).sort = 0 := fun z => h18 ((vc_is0 oy).mp z)
                  have f6 : (vc_T I L d).sort = 1 := (vc_is1 od).mpr (Classical.not_not.mp h19)
                  have f7 : (vc_T I L y).sort = 1 := (vc_is1 oy).mpr h23
                  have f8 : (vc_F w).o = 0 := congrArg Int32.toInt h24
                  obtain ⟨I18, L18, H18, T18, O18, F18⟩ := vc_num (I := I17) (L := L17) (R := R) (n := n) (sl := sl) hd (Or.inl hC.k169)
                  refine jv_Wp.lift (fun _ Kz => jv_Ev.c jv_i28 (pc' := 274) (S' := []) (G1 := (jv_H K I18 L18 R)) jv_i142 [.ref d, .ref 169] rfl rfl rfl rfl (jv_cal rfl (jv_H_at hd) rfl rfl) rfl H18 rfl rfl Kz) ?_
                  refine jv_Wp.lift (fun _ Kz => jv_Ev.steps jv_i28 1 (pc' := 275) (l' := [(8, .int (1 : Int32)), (7, .int (1 : Int32)), (6, .ref y), (0, .ref 10), (1, .long w), (3, .int (vl_I (vc_F w).n)), (4, .int (vr_b wd)), (5, .ref d)]) (st' := [.int (0 : Int32)]) rfl Kz) ?_
                  refine jv_Wp.of (jv_Ev.ret jv_i28 rfl rfl) ?_
                  have f1 : ¬ (vc_F w).n = 11 := fun z => h1 (by rw [z]; rfl)
                  have f2 : ¬ (vc_F w).n = 8 := fun z => h8 (by rw [z]; rfl)
                  have f3 : ¬ (vc_F w).n = 13 := fun z => h13 (by rw [z]; rfl)
                  have f4 : ¬ (vc_T I L d).sort = 0 := fun z => h17 ((vc_is0 od).mp z)
                  have f5 : ¬ (vc_T I L y).sort = 0 := fun z => h18 ((vc_is0 oy).mp z)
                  have f6 : (vc_T I L d).sort = 1 := (vc_is1 od).mpr (Classical.not_not.mp h19)
                  have f7 : (vc_T I L y).sort = 1 := (vc_is1 oy).mpr h23
                  have f8 : (vc_F w).o = 0 := congrArg Int32.toInt h24
                  rw [hQ]
                  have a1 : ¬ vx_a1 (vc_F w) (vc_T I L d) (vc_T I L y) := by unfold vx_a1; omega
                  have a2 : ¬ ((vc_F w).n = 11 ∧ (vc_F w).kind = 7 ∧ (vc_F w).o = 0) := by omega
                  have a3 : ¬ vx_a3 (vc_F w) (vc_T I L d) (vc_T I L y) := by unfold vx_a3; omega
                  have e := vx_ar5 a1 a2 a3
                  have xd : (vc_T I L d).val = vl_S L d := vc_valv (Or.inl ((vc_is1 od).mp (by omega)))
                  have xy : (vc_T I L y).val = vl_S L y := vc_valv (Or.inl ((vc_is1 oy).mp (by omega)))
                  have ev : vl_S L17 169 = vx_reckon (vc_F w) (vc_T I L d).val (vc_T I L y).val := by rw [vx_rkr (show ¬ (vc_F w).n = 13 by omega) (show ¬ (vc_F w).o ≠ 0 by omega) (show ¬ (vc_F w).n = 8 by omega), xd, xy, S17, hwd]
                  exact ⟨_, _, by rw [e]; rfl, fun _ => ⟨by rw [e, T18, ev], O18⟩, vc_fr_trans (vc_fr_mono F17 (fun p z => Or.inr (Or.inr z))) (vc_fr_mono F18 (fun p z => Or.inl z))⟩
                · refine jv_Wp.lift (fun _ Kz => jv_Ev.steps jv_i28 5 (pc' := 215) (l' := [(8, .int (1 : Int32)), (7, .int (1 : Int32)), (6, .ref y), (0, .ref 10), (1, .long w), (3, .int (vl_I (vc_F w).n)), (4, .int (vr_b wd)), (5, .ref d)]) (st' := [.long w, .ref y, .int (vr_b wd), .int (vl_I (vc_F w).n), .ref 10]) rfl Kz) ?_
                  refine jv_Wp.lift (fun _ Kz => jv_Ev.c jv_i28 (pc' := 218) (S' := [.int (jv_wfoffset w), .ref y, .int (vr_b wd), .int (vl_I (vc_F w).n), .ref 10]) jv_i88 [.long w] rfl rfl rfl rfl rfl rfl (jv_s88 w) rfl rfl Kz) ?_
                  have f1 : ¬ (vc_F w).n = 11 := fun z => h1 (by rw [z]; rfl)
                  have f2 : ¬ (vc_F w).n = 8 := fun z => h8 (by rw [z]; rfl)
                  have f3 : ¬ (vc_F w).n = 13 := fun z => h13 (by rw [z]; rfl)
                  have f4 : ¬ (vc_T I L d).sort = 0 := fun z => h17 ((vc_is0 od).mp z)
                  have f5 : ¬ (vc_T I L y).sort = 0 := fun z => h18 ((vc_is0 oy).mp z)
                  have f6 : (vc_T I L d).sort = 1 := (vc_is1 od).mpr (Classical.not_not.mp h19)
                  have f7 : (vc_T I L y).sort = 1 := (vc_is1 oy).mpr h23
                  have f8 : ¬ (vc_F w).o = 0 := fun z => h24 (Int32.toInt_inj.mp z)
                  obtain ⟨I19, L19, H19, S19, F19⟩ := vc_rwo (I := I) (L := L) (R := R) (n := n) (sl := sl) (vc_F w).n (jv_wfoffset w) wd hC (vc_Th_V hy) hxy (vw_n16 w) (by omega)
                  refine jv_Wp.lift (fun _ Kz => jv_Ev.c jv_i28 (pc' := 221) (S' := []) (G1 := (jv_H K I19 L19 R)) jv_i30 [.ref 10, .int (vl_I (vc_F w).n), .int (vr_b wd), .ref y, .int (jv_wfoffset w)] rfl rfl rfl rfl (jv_cal rfl (jv_H_at hC.k) rfl rfl) rfl H19 rfl rfl Kz) ?_
                  refine jv_Wp.lift (fun _ Kz => jv_Ev.steps jv_i28 3 (pc' := 268) (l' := [(8, .int (1 : Int32)), (7, .int (1 : Int32)), (6, .ref y), (0, .ref 10), (1, .long w), (3, .int (vl_I (vc_F w).n)), (4, .int (vr_b wd)), (5, .ref d)]) (st' := [.ref 10, .ref d]) rfl Kz) ?_
                  refine jv_Wp.lift (fun _ Kz => jv_Ev.m jv_i28 (pc' := 271) (st' := [.ref 169, .ref d]) (G' := (jv_H K I19 L19 R)) rfl rfl (jv_m_getR hC.k rfl rfl hC.rout) Kz) ?_
                  have f1 : ¬ (vc_F w).n = 11 := fun z => h1 (by rw [z]; rfl)
                  have f2 : ¬ (vc_F w).n = 8 := fun z => h8 (by rw [z]; rfl)
                  have f3 : ¬ (vc_F w).n = 13 := fun z => h13 (by rw [z]; rfl)
                  have f4 : ¬ (vc_T I L d).sort = 0 := fun z => h17 ((vc_is0 od).mp z)
                  have f5 : ¬ (vc_T I L y).sort = 0 := fun z => h18 ((vc_is0 oy).mp z)
                  have f6 : (vc_T I L d).sort = 1 := (vc_is1 od).mpr (Classical.not_not.mp h19)
                  have f7 : (vc_T I L y).sort = 1 := (vc_is1 oy).mpr h23
                  have f8 : ¬ (vc_F w).o = 0 := fun z => h24 (Int32.toInt_inj.mp z)
                  obtain ⟨I20, L20, H20, T20, O20, F20⟩ := vc_num (I := I19) (L := L19) (R := R) (n := n) (sl := sl) hd (Or.inl hC.k169)
                  refine jv_Wp.lift (fun _ Kz => jv_Ev.c jv_i28 (pc' := 274) (S' := []) (G1 := (jv_H K I20 L20 R)) jv_i142 [.ref d, .ref 169] rfl rfl rfl rfl (jv_cal rfl (jv_H_at hd) rfl rfl) rfl H20 rfl rfl Kz) ?_
                  refine jv_Wp.lift (fun _ Kz => jv_Ev.steps jv_i28 1 (pc' := 275) (l' := [(8, .int (1 : Int32)), (7, .int (1 : Int32)), (6, .ref y), (0, .ref 10), (1, .long w), (3, .int (vl_I (vc_F w).n)), (4, .int (vr_b wd)), (5, .ref d)]) (st' := [.int (0 : Int32)]) rfl Kz) ?_
                  refine jv_Wp.of (jv_Ev.ret jv_i28 rfl rfl) ?_
                  have f1 : ¬ (vc_F w).n = 11 := fun z => h1 (by rw [z]; rfl)
                  have f2 : ¬ (vc_F w).n = 8 := fun z => h8 (by rw [z]; rfl)
                  have f3 : ¬ (vc_F w).n = 13 := fun z => h13 (by rw [z]; rfl)
                  have f4 : ¬ (vc_T I L d).sort = 0 := fun z => h17 ((vc_is0 od).mp z)
                  have f5 : ¬ (vc_T I L y).sort = 0 := fun z => h18 ((vc_is0 oy).mp z)
                  have f6 : (vc_T I L d).sort = 1 := (vc_is1 od).mpr (Classical.not_not.mp h19)
                  have f7 : (vc_T I L y).sort = 1 := (vc_is1 oy).mpr h23
                  have f8 : ¬ (vc_F w).o = 0 := fun z => h24 (Int32.toInt_inj.mp z)
                  rw [hQ]
                  have a1 : ¬ vx_a1 (vc_F w) (vc_T I L d) (vc_T I L y) := by unfold vx_a1; omega
                  have a2 : ¬ ((vc_F w).n = 11 ∧ (vc_F w).kind = 7 ∧ (vc_F w).o = 0) := by omega
                  have a3 : ¬ vx_a3 (vc_F w) (vc_T I L d) (vc_T I L y) := by unfold vx_a3; omega
                  have e := vx_ar5 a1 a2 a3
                  have ev : vl_S L19 169 = vx_reckon (vc_F w) (vc_T I L d).val (vc_T I L y).val := by rw [vx_rko (show ¬ (vc_F w).n = 13 by omega) (show (vc_F w).o ≠ 0 by omega), if_neg (show ¬ (vc_F w).n = 11 by omega), S19, hwd, vx_ite_dec]
                  exact ⟨_, _, by rw [e]; rfl, fun _ => ⟨by rw [e, T20, ev], O20⟩, vc_fr_trans (vc_fr_mono F19 (fun p z => Or.inr (Or.inr z))) (vc_fr_mono F20 (fun p z => Or.inl z))⟩
              · refine jv_Wp.lift (fun _ Kz => jv_Ev.steps jv_i28 1 (pc' := 159) (l' := [(8, .int (1 : Int32)), (7, .int (1 : Int32)), (6, .ref y), (0, .ref 10), (1, .long w), (3, .int (vl_I (vc_F w).n)), (4, .int (vr_b wd)), (5, .ref d)]) (st' := [.int (vr_b wd)]) rfl Kz) ?_
                refine jv_Wp.cnd jv_i28 (pt := 183) (pe := 162) (p := ((vr_b wd) = 0)) (q := ((vr_b wd) = 0)) rfl jv_bi_eq rfl rfl Iff.rfl (fun h25 => ?_) (fun h25 => ?_)
                · refine jv_Wp.lift (fun _ Kz => jv_Ev.steps jv_i28 1 (pc' := 184) (l' := [(8, .int (1 : Int32)), (7, .int (1 : Int32)), (6, .ref y), (0, .ref 10), (1, .long w), (3, .int (vl_I (vc_F w).n)), (4, .int (vr_b wd)), (5, .ref d)]) (st' := [.int (2 : Int32)]) rfl Kz) ?_
                  refine jv_Wp.of (jv_Ev.ret jv_i28 rfl rfl) ?_
                  have f1 : ¬ (vc_F w).n = 11 := fun z => h1 (by rw [z]; rfl)
                  have f2 : ¬ (vc_F w).n = 8 := fun z => h8 (by rw [z]; rfl)
                  have f3 : ¬ (vc_F w).n = 13 := fun z => h13 (by rw [z]; rfl)
                  have f4 : ¬ (vc_T I L d).sort = 0 := fun z => h17 ((vc_is0 od).mp z)
                  have f5 : ¬ (vc_T I L y).sort = 0 := fun z => h18 ((vc_is0 oy).mp z)
                  have f6 : (vc_T I L d).sort = 1 := (vc_is1 od).mpr (Classical.not_not.mp h19)
                  have f7 : ¬ (vc_T I L y).sort = 1 := fun z => h23 ((vc_is1 oy).mp z)
                  have f8 : ¬ (vc_F w).kind = 7 := of_decide_eq_false (hwd.symm.trans (by cases wd <;> first | rfl | exact absurd h25 (by decide)))
                  rw [hQ]
                  have a1 : ¬ vx_a1 (vc_F w) (vc_T I L d) (vc_T I L y) := by unfold vx_a1; omega
                  have a2 : ¬ ((vc_F w).n = 11 ∧ (vc_F w).kind = 7 ∧ (vc_F w).o = 0) := by omega
                  have a3 : vx_a3 (vc_F w) (vc_T I L d) (vc_T I L y) := by unfold vx_a3; omega
                  have a4 : ¬ ((vc_F w).kind = 7 ∧ ((vc_F w).n = 0 ∨ (vc_F w).n = 1)) := by omega
                  have e : vx_ar (vc_F w) (vc_T I L d) (vc_T I L y) = (2, (vc_T I L d)) := vx_ar4 a1 a2 a3 a4
                  exact ⟨I, L, by rw [e]; rfl, fun z => by rw [e] at z; exact absurd (show (2 : Nat) = 0 from z) (by decide), vc_fr_refl _ _⟩
                · refine jv_Wp.lift (fun _ Kz => jv_Ev.steps jv_i28 1 (pc' := 163) (l' := [(8, .int (1 : Int32)), (7, .int (1 : Int32)), (6, .ref y), (0, .ref 10), (1, .long w), (3, .int (vl_I (vc_F w).n)), (4, .int (vr_b wd)), (5, .ref d)]) (st' := [.int (vl_I (vc_F w).n)]) rfl Kz) ?_
                  refine jv_Wp.cnd jv_i28 (pt := 171) (pe := 166) (p := ((vl_I (vc_F w).n) = 0)) (q := ((vl_I (vc_F w).n) = 0)) rfl jv_bi_eq rfl rfl Iff.rfl (fun h26 => ?_) (fun h26 => ?_)
                  · refine jv_Wp.lift (fun _ Kz => jv_Ev.steps jv_i28 4 (pc' := 177) (l' := [(8, .int (1 : Int32)), (7, .int (1 : Int32)), (6, .ref y), (0, .ref 10), (1, .long w), (3, .int (vl_I (vc_F w).n)), (4, .int (vr_b wd)), (5, .ref d)]) (st' := [.ref y, .ref d, .int (vl_I (vc_F w).n), .ref 10]) rfl Kz) ?_
                    have f1 : ¬ (vc_F w).n = 11 := fun z => h1 (by rw [z]; rfl)
                    have f2 : ¬ (vc_F w).n = 8 := fun z => h8 (by rw [z]; rfl)
                    have f3 : ¬ (vc_F w).n = 13 := fun z => h13 (by rw [z]; rfl)
                    have f4 : ¬ (vc_T I L d).sort = 0 := fun z => h17 ((vc_is0 od).mp z)
                    have f5 : ¬ (vc_T I L y).sort = 0 := fun z => h18 ((vc_is0 oy).mp z)
                    have f6 : (vc_T I L d).sort = 1 := (vc_is1 od).mpr (Classical.not_not.mp h19)
                    have f7 : ¬ (vc_T I L y).sort = 1 := fun z => h23 ((vc_is1 oy).mp z)
                    have f8 : (vc_F w).kind = 7 := of_decide_eq_true (hwd.symm.trans (by cases wd <;> first | rfl | exact absurd rfl h25))
                    have f9 : (vc_F w).n = 0 := (vl_I_inj (by omega) (by decide)).mp h26
                    obtain ⟨I21, L21, H21, T21, F21⟩ := vc_move (I := I) (L := L) (R := R) (n := n) (sl := sl) (vc_F w).n hC (show (vc_F w).n = 0 ∨ (vc_F w).n = 1 by omega) hd hy hdl hyl hxd hxy od oy (by rw [← vc_is1 od, ← vc_is1 oy]; omega) td ty fd fy
                    refine jv_Wp.lift (fun _ Kz => jv_Ev.c jv_i28 (pc' := 180) (S' := [.int (vl_I (vx_move (vc_F w).n (vc_T I L d) (vc_T I L y)).1)]) (G1 := (jv_H K I21 L21 R)) jv_i32 [.ref 10, .int (vl_I (vc_F w).n), .ref d, .ref y] rfl rfl rfl rfl (jv_cal rfl (jv_H_at hC.k) rfl rfl) rfl H21 rfl rfl Kz) ?_
                    refine jv_Wp.lift (fun _ Kz => jv_Ev.steps jv_i28 1 (pc' := 184) (l' := [(8, .int (1 : Int32)), (7, .int (1 : Int32)), (6, .ref y), (0, .ref 10), (1, .long w), (3, .int (vl_I (vc_F w).n)), (4, .int (vr_b wd)), (5, .ref d)]) (st' := [.int (vl_I (vx_move (vc_F w).n (vc_T I L d) (vc_T I L y)).1)]) rfl Kz) ?_
                    refine jv_Wp.of (jv_Ev.ret jv_i28 rfl rfl) ?_
                    have f1 : ¬ (vc_F w).n = 11 := fun z => h1 (by rw [z]; rfl)
                    have f2 : ¬ (vc_F w).n = 8 := fun z => h8 (by rw [z]; rfl)
                    have f3 : ¬ (vc_F w).n = 13 := fun z => h13 (by rw [z]; rfl)
                    have f4 : ¬ (vc_T I L d).sort = 0 := fun z => h17 ((vc_is0 od).mp z)
                    have f5 : ¬ (vc_T I L y).sort = 0 := fun z => h18 ((vc_is0 oy).mp z)
                    have f6 : (vc_T I L d).sort = 1 := (vc_is1 od).mpr (Classical.not_not.mp h19)
                    have f7 : ¬ (vc_T I L y).sort = 1 := fun z => h23 ((vc_is1 oy).mp z)
                    have f8 : (vc_F w).kind = 7 := of_decide_eq_true (hwd.symm.trans (by cases wd <;> first | rfl | exact absurd rfl h25))
                    have f9 : (vc_F w).n = 0 := (vl_I_inj (by omega) (by decide)).mp h26
                    rw [hQ]
                    have a1 : ¬ vx_a1 (vc_F w) (vc_T I L d) (vc_T I L y) := by unfold vx_a1; omega
                    have a2 : ¬ ((vc_F w).n = 11 ∧ (vc_F w).kind = 7 ∧ (vc_F w).o = 0) := by omega
                    have a3 : vx_a3 (vc_F w) (vc_T I L d) (vc_T I L y) := by unfold vx_a3; omega
                    have a4 : (vc_F w).kind = 7 ∧ ((vc_F w).n = 0 ∨ (vc_F w).n = 1) := by omega
                    have e := vx_ar3 a1 a2 a3 a4
                    rw [e]
                    exact ⟨_, _, rfl, T21, vc_fr_mono F21 (fun p z => z.imp id Or.inr)⟩
                  · refine jv_Wp.lift (fun _ Kz => jv_Ev.steps jv_i28 2 (pc' := 168) (l' := [(8, .int (1 : Int32)), (7, .int (1 : Int32)), (6, .ref y), (0, .ref 10), (1, .long w), (3, .int (vl_I (vc_F w).n)), (4, .int (vr_b wd)), (5, .ref d)]) (st' := [.int (1 : Int32), .int (vl_I (vc_F w).n)]) rfl Kz) ?_
                    refine jv_Wp.cnd jv_i28 (pt := 183) (pe := 171) (p := (¬ (vl_I (vc_F w).n) = (1 : Int32))) (q := (¬ (vl_I (vc_F w).n) = (1 : Int32))) rfl jv_bc_ne rfl rfl Iff.rfl (fun h27 => ?_) (fun h27 => ?_)
                    · refine jv_Wp.lift (fun _ Kz => jv_Ev.steps jv_i28 1 (pc' := 184) (l' := [(8, .int (1 : Int32)), (7, .int (1 : Int32)), (6, .ref y), (0, .ref 10), (1, .long w), (3, .int (vl_I (vc_F w).n)), (4, .int (vr_b wd)), (5, .ref d)]) (st' := [.int (2 : Int32)]) rfl Kz) ?_
                      refine jv_Wp.of (jv_Ev.ret jv_i28 rfl rfl) ?_
                      have f1 : ¬ (vc_F w).n = 11 := fun z => h1 (by rw [z]; rfl)
                      have f2 : ¬ (vc_F w).n = 8 := fun z => h8 (by rw [z]; rfl)
                      have f3 : ¬ (vc_F w).n = 13 := fun z => h13 (by rw [z]; rfl)
                      have f4 : ¬ (vc_T I L d).sort = 0 := fun z => h17 ((vc_is0 od).mp z)
                      have f5 : ¬ (vc_T I L y).sort = 0 := fun z => h18 ((vc_is0 oy).mp z)
                      have f6 : (vc_T I L d).sort = 1 := (vc_is1 od).mpr (Classical.not_not.mp h19)
                      have f7 : ¬ (vc_T I L y).sort = 1 := fun z => h23 ((vc_is1 oy).mp z)
                      have f8 : (vc_F w).kind = 7 := of_decide_eq_true (hwd.symm.trans (by cases wd <;> first | rfl | exact absurd rfl h25))
                      have f9 : ¬ (vc_F w).n = 0 := fun z => h26 (by rw [z]; rfl)
                      have f10 : ¬ (vc_F w).n = 1 := fun z => h27 (by rw [z]; rfl)
                      rw [hQ]
                      have a1 : ¬ vx_a1 (vc_F w) (vc_T I L d) (vc_T I L y) := by unfold vx_a1; omega
                      have a2 : ¬ ((vc_F w).n = 11 ∧ (vc_F w).kind = 7 ∧ (vc_F w).o = 0) := by omega
                      have a3 : vx_a3 (vc_F w) (vc_T I L d) (vc_T I L y) := by unfold vx_a3; omega
                      have a4 : ¬ ((vc_F w).kind = 7 ∧ ((vc_F w).n = 0 ∨ (vc_F w).n = 1)) := by omega
                      have e : vx_ar (vc_F w) (vc_T I L d) (vc_T I L y) = (2, (vc_T I L d)) := vx_ar4 a1 a2 a3 a4
                      exact ⟨I, L, by rw [e]; rfl, fun z => by rw [e] at z; exact absurd (show (2 : Nat) = 0 from z) (by decide), vc_fr_refl _ _⟩
                    · refine jv_Wp.lift (fun _ Kz => jv_Ev.steps jv_i28 4 (pc' := 177) (l' := [(8, .int (1 : Int32)), (7, .int (1 : Int32)), (6, .ref y), (0, .ref 10), (1, .long w), (3, .int (vl_I (vc_F w).n)), (4, .int (vr_b wd)), (5, .ref d)]) (st' := [.ref y, .ref d, .int (vl_I (vc_F w).n), .ref 10]) rfl Kz) ?_
                      have f1 : ¬ (vc_F w).n = 11 := fun z => h1 (by rw [z]; rfl)
                      have f2 : ¬ (vc_F w).n = 8 := fun z => h8 (by rw [z]; rfl)
                      have f3 : ¬ (vc_F w).n = 13 := fun z => h13 (by rw [z]; rfl)
                      have f4 : ¬ (vc_T I L d).sort = 0 := fun z => h17 ((vc_is0 od).mp z)
                      have f5 : ¬ (vc_T I L y).sort = 0 := fun z => h18 ((vc_is0 oy).mp z)
                      have f6 : (vc_T I L d).sort = 1 := (vc_is1 od).mpr (Classical.not_not.mp h19)
                      have f7 : ¬ (vc_T I L y).sort = 1 := fun z => h23 ((vc_is1 oy).mp z)
                      have f8 : (vc_F w).kind = 7 := of_decide_eq_true (hwd.symm.trans (by cases wd <;> first | rfl | exact absurd rfl h25))
                      have f9 : ¬ (vc_F w).n = 0 := fun z => h26 (by rw [z]; rfl)
                      have f10 : (vc_F w).n = 1 := (vl_I_inj (by omega) (by decide)).mp (Classical.not_not.mp h27)
                      obtain ⟨I22, L22, H22, T22, F22⟩ := vc_move (I := I) (L := L) (R := R) (n := n) (sl := sl) (vc_F w).n hC (show (vc_F w).n = 0 ∨ (vc_F w).n = 1 by omega) hd hy hdl hyl hxd hxy od oy (by rw [← vc_is1 od, ← vc_is1 oy]; omega) td ty fd fy
                      refine jv_Wp.lift (fun _ Kz => jv_Ev.c jv_i28 (pc' := 180) (S' := [.int (vl_I (vx_move (vc_F w).n (vc_T I L d) (vc_T I L y)).1)]) (G1 := (jv_H K I22 L22 R)) jv_i32 [.ref 10, .int (vl_I (vc_F w).n), .ref d, .ref y] rfl rfl rfl rfl (jv_cal rfl (jv_H_at hC.k) rfl rfl) rfl H22 rfl rfl Kz) ?_
                      refine jv_Wp.lift (fun _ Kz => jv_Ev.steps jv_i28 1 (pc' := 184) (l' := [(8, .int (1 : Int32)), (7, .int (1 : Int32)), (6, .ref y), (0, .ref 10), (1, .long w), (3, .int (vl_I (vc_F w).n)), (4, .int (vr_b wd)), (5, .ref d)]) (st' := [.int (vl_I (vx_move (vc_F w).n (vc_T I L d) (vc_T I L y)).1)]) rfl Kz) ?_
                      refine jv_Wp.of (jv_Ev.ret jv_i28 rfl rfl) ?_
                      have f1 : ¬ (vc_F w).n = 11 := fun z => h1 (by rw [z]; rfl)
                      have f2 : ¬ (vc_F w).n = 8 := fun z => h8 (by rw [z]; rfl)
                      have f3 : ¬ (vc_F w).n = 13 := fun z => h13 (by rw [z]; rfl)
                      have f4 : ¬ (vc_T I L d).sort = 0 := fun z => h17 ((vc_is0 od).mp z)
                      have f5 : ¬ (vc_T I L y).sort = 0 := fun z => h18 ((vc_is0 oy).mp z)
                      have f6 : (vc_T I L d).sort = 1 := (vc_is1 od).mpr (Classical.not_not.mp h19)
                      have f7 : ¬ (vc_T I L y).sort = 1 := fun z => h23 ((vc_is1 oy).mp z)
                      have f8 : (vc_F w).kind = 7 := of_decide_eq_true (hwd.symm.trans (by cases wd <;> first | rfl | exact absurd rfl h25))
                      have f9 : ¬ (vc_F w).n = 0 := fun z => h26 (by rw [z]; rfl)
                      have f10 : (vc_F w).n = 1 := (vl_I_inj (by omega) (by decide)).mp (Classical.not_not.mp h27)
                      rw [hQ]
                      have a1 : ¬ vx_a1 (vc_F w) (vc_T I L d) (vc_T I L y) := by unfold vx_a1; omega
                      have a2 : ¬ ((vc_F w).n = 11 ∧ (vc_F w).kind = 7 ∧ (vc_F w).o = 0) := by omega
                      have a3 : vx_a3 (vc_F w) (vc_T I L d) (vc_T I L y) := by unfold vx_a3; omega
                      have a4 : (vc_F w).kind = 7 ∧ ((vc_F w).n = 0 ∨ (vc_F w).n = 1) := by omega
                      have e := vx_ar3 a1 a2 a3 a4
                      rw [e]
                      exact ⟨_, _, rfl, T22, vc_fr_mono F22 (fun p z => z.imp id Or.inr)⟩
          · refine jv_Wp.lift (fun _ Kz => jv_Ev.steps jv_i28 1 (pc' := 101) (l' := [(8, .int (1 : Int32)), (7, .int (1 : Int32)), (6, .ref y), (0, .ref 10), (1, .long w), (3, .int (vl_I (vc_F w).n)), (4, .int (vr_b wd)), (5, .ref d)]) (st' := [.int (1 : Int32)]) rfl Kz) ?_
            refine jv_Wp.of (jv_Ev.ret jv_i28 rfl rfl) ?_
            have f1 : ¬ (vc_F w).n = 11 := fun z => h1 (by rw [z]; rfl)
            have f2 : ¬ (vc_F w).n = 8 := fun z => h8 (by rw [z]; rfl)
            have f3 : ¬ (vc_F w).n = 13 := fun z => h13 (by rw [z]; rfl)
            have f4 : ¬ (vc_T I L d).sort = 0 := fun z => h17 ((vc_is0 od).mp z)
            have f5 : (vc_T I L y).sort = 0 := (vc_is0 oy).mpr (Classical.not_not.mp h18)
            rw [hQ]
            have a1 : vx_a1 (vc_F w) (vc_T I L d) (vc_T I L y) := by unfold vx_a1; omega
            have e : vx_ar (vc_F w) (vc_T I L d) (vc_T I L y) = (1, (vc_T I L d)) := vx_ar1 a1
            exact ⟨I, L, by rw [e]; rfl, fun z => by rw [e] at z; exact absurd (show (1 : Nat) = 0 from z) (by decide), vc_fr_refl _ _⟩