/-! part b12: addresses that are moved (gen/tb12.py) -/
theorem jv_ba_eq {x y : Nat} (hx : x < 1000000) (hy : y < 1000000) {off : Int} {pc : Nat} {r : List Value} : jv_br (.if_acmp .eq off) pc (.ref y :: .ref x :: r) = jv_go (x = y) pc off r := if_pos ⟨hx, hy⟩
theorem jv_ba_ne {x y : Nat} (hx : x < 1000000) (hy : y < 1000000) {off : Int} {pc : Nat} {r : List Value} : jv_br (.if_acmp .ne off) pc (.ref y :: .ref x :: r) = jv_go (¬ x = y) pc off r := if_pos ⟨hx, hy⟩
/-- a pointer b and a number x (rev: the pointer is the second operand) -/
def vx_mv (n : Nat) (d b x : vt_T) (rev : Prop) [Decidable rev] : Nat × vt_T :=
  if x.sort ≠ 1 ∨ (n = 1 ∧ rev) then (2, d)
  else if b.sort = 4 ∨ b.sort = 7 then
    (let v := vx_op n b.val x.val 63
     if v.least.toInt < -vx_far ∨ vx_far < v.greatest.toInt then (2, d) else (0, (b.sort, b.det, -1, v)))
  else if (b.sort ≠ 2 ∧ b.sort ≠ 3) ∨ x.val.low ≠ x.val.high then (2, d)
  else
    (let c := if n = 0 then b.det + x.val.low.toInt else b.det - x.val.low.toInt
     if c < -vx_far ∨ vx_far < c then (2, d) else (0, (b.sort, c, -1, vb_any)))
theorem vx_mvA {n : Nat} {d y : vt_T} (h : d.sort = 1) : vx_move n d y = vx_mv n d y d True := by
  unfold vx_move vx_mv
  dsimp only
  rw [if_pos h, if_pos h]
  simp only [h]
theorem vx_mvB {n : Nat} {d y : vt_T} (h : ¬ d.sort = 1) : vx_move n d y = vx_mv n d d y False := by
  unfold vx_move vx_mv
  dsimp only
  rw [if_neg h, if_neg h]
  simp only [h]
theorem vx_mv1 {n : Nat} {d b x : vt_T} {rev : Prop} [Decidable rev] (h : x.sort ≠ 1 ∨ (n = 1 ∧ rev)) : vx_mv n d b x rev = (2, d) := if_pos h
theorem vx_mv2 {n : Nat} {d b x : vt_T} {rev : Prop} [Decidable rev] (h : ¬ (x.sort ≠ 1 ∨ (n = 1 ∧ rev))) (h2 : b.sort = 4 ∨ b.sort = 7) (h3 : (vx_op n b.val x.val 63).least.toInt < -vx_far ∨ vx_far < (vx_op n b.val x.val 63).greatest.toInt) : vx_mv n d b x rev = (2, d) := (if_neg h).trans ((if_pos h2).trans (if_pos h3))
theorem vx_mv3 {n : Nat} {d b x : vt_T} {rev : Prop} [Decidable rev] (h : ¬ (x.sort ≠ 1 ∨ (n = 1 ∧ rev))) (h2 : b.sort = 4 ∨ b.sort = 7) (h3 : ¬ ((vx_op n b.val x.val 63).least.toInt < -vx_far ∨ vx_far < (vx_op n b.val x.val 63).greatest.toInt)) : vx_mv n d b x rev = (0, (b.sort, b.det, -1, vx_op n b.val x.val 63)) := (if_neg h).trans ((if_pos h2).trans (if_neg h3))
theorem vx_mv4 {n : Nat} {d b x : vt_T} {rev : Prop} [Decidable rev] (h : ¬ (x.sort ≠ 1 ∨ (n = 1 ∧ rev))) (h2 : ¬ (b.sort = 4 ∨ b.sort = 7)) (h3 : (b.sort ≠ 2 ∧ b.sort ≠ 3) ∨ x.val.low ≠ x.val.high) : vx_mv n d b x rev = (2, d) := (if_neg h).trans ((if_neg h2).trans (if_pos h3))
def vx_mvc (n : Nat) (a b : Int) : Int := if n = 0 then a + b else a - b
theorem vx_mv5 {n : Nat} {d b x : vt_T} {rev : Prop} [Decidable rev] (h : ¬ (x.sort ≠ 1 ∨ (n = 1 ∧ rev))) (h2 : ¬ (b.sort = 4 ∨ b.sort = 7)) (h3 : ¬ ((b.sort ≠ 2 ∧ b.sort ≠ 3) ∨ x.val.low ≠ x.val.high)) (h4 : vx_mvc n b.det x.val.low.toInt < -vx_far ∨ vx_far < vx_mvc n b.det x.val.low.toInt) : vx_mv n d b x rev = (2, d) := (if_neg h).trans ((if_neg h2).trans ((if_neg h3).trans (if_pos h4)))
theorem vx_mv6 {n : Nat} {d b x : vt_T} {rev : Prop} [Decidable rev] (h : ¬ (x.sort ≠ 1 ∨ (n = 1 ∧ rev))) (h2 : ¬ (b.sort = 4 ∨ b.sort = 7)) (h3 : ¬ ((b.sort ≠ 2 ∧ b.sort ≠ 3) ∨ x.val.low ≠ x.val.high)) (h4 : ¬ (vx_mvc n b.det x.val.low.toInt < -vx_far ∨ vx_far < vx_mvc n b.det x.val.low.toInt)) : vx_mv n d b x rev = (0, (b.sort, vx_mvc n b.det x.val.low.toInt, -1, vb_any)) := (if_neg h).trans ((if_neg h2).trans ((if_neg h3).trans (if_neg h4)))
/-- a constant that is moved: a sum that is no long is far off, and so is what comes of it -/
theorem vx_wrap {n : Nat} (a b : Int64) (ha : -536870912 ≤ a.toInt ∧ a.toInt ≤ 536870912) (c : Int64) (hc : c = if n = 0 then a + b else a - b) : ((c.toInt < -vx_far ∨ vx_far < c.toInt) ↔ (vx_mvc n a.toInt b.toInt < -vx_far ∨ vx_far < vx_mvc n a.toInt b.toInt)) ∧ (¬ (vx_mvc n a.toInt b.toInt < -vx_far ∨ vx_far < vx_mvc n a.toInt b.toInt) → c.toInt = vx_mvc n a.toInt b.toInt) := by
  have h1 := Int64.le_toInt b
  have h2 := Int64.toInt_lt b
  have e : c.toInt = (vx_mvc n a.toInt b.toInt).bmod (2 ^ 64) := by
    rw [hc]; unfold vx_mvc
    by_cases z : n = 0
    · rw [if_pos z, if_pos z, Int64.toInt_add]
    · rw [if_neg z, if_neg z, Int64.toInt_sub]
  have g : -9223372036854775808 - 536870912 ≤ vx_mvc n a.toInt b.toInt ∧ vx_mvc n a.toInt b.toInt ≤ 9223372036854775808 + 536870912 := by
    unfold vx_mvc
    by_cases z : n = 0
    · rw [if_pos z]; omega
    · rw [if_neg z]; omega
  rw [e]
  generalize vx_mvc n a.toInt b.toInt = x at g
  clear e h1 h2 ha hc
  unfold vx_far
  rw [Int.bmod_def]
  split <;> omega
theorem vc_det47 {I : Nat → Nat → Int32} {L : Nat → Nat → Int64} {o : Nat} (z : I o 6 = 4 ∨ I o 6 = 7) : (vc_T I L o).det = (I o 7).toInt ∧ (vc_T I L o).org = -1 := by
  constructor
  · show (if I o 6 = 0 then _ else if I o 6 = 2 ∨ I o 6 = 3 then _ else _ : Int) = _
    rw [if_neg (by rcases z with z | z <;> rw [z] <;> decide), if_neg (by rcases z with z | z <;> rw [z] <;> decide)]
  · exact if_neg (by rcases z with z | z <;> rw [z] <;> decide)
theorem vx_i64 (a : BitVec 64) (k : Int64) : (Int64.ofBitVec a < k) ↔ a.toInt < k.toInt := Int64.lt_iff_toInt_lt
theorem vx_i64l (a : BitVec 64) (k : Int64) : (Int64.ofBitVec a ≤ k) ↔ a.toInt ≤ k.toInt := Int64.le_iff_toInt_le
theorem jv_i32 : jv_I 32 8 (some .int) 4 97 jv_c32 := ⟨rfl, rfl, rfl, rfl, rfl⟩
theorem vc_moveA {K : Nat → Option (Nat × Nat)} {I : Nat → Nat → Int32} {L : Nat → Nat → Int64} {R : Nat → Nat → Value} (k : Nat) {d y : Nat} (hC : vc_C K R) (hk : k = 0 ∨ k = 1) (hd : K d = some (8, 10)) (hy : K y = some (8, 10)) (hdl : d < 1000000) (hyl : y < 1000000) (hxd : ∀ q, 167 ≤ q → q ≤ 170 → q ≠ d) (hxy : ∀ q, 167 ≤ q → q ≤ 170 → q ≠ y) (od : vc_ok I L d) (oy : vc_ok I L y) (hA : I d 6 = 1) (hyd : ¬ y = d) (tx : I d 6 = 1 → vb_tight (vl_S L d)) (hfar : I y 6 = 2 ∨ I y 6 = 3 → -536870912 ≤ (L y 8).toInt ∧ (L y 8).toInt ≤ 536870912) {n sl : Nat} : ∃ I1 L1, jv_Ms 32 [.ref 10, .int (vl_I k), .ref d, .ref y] (jv_H K I L R) n sl (some (.int (vl_I (vx_move k (vc_T I L d) (vc_T I L y)).1)), jv_H K I1 L1 R, n, sl) ∧ ((vx_move k (vc_T I L d) (vc_T I L y)).1 = 0 → vc_T I1 L1 d = (vx_move k (vc_T I L d) (vc_T I L y)).2 ∧ vc_ok I1 L1 d) ∧ vc_fr (fun p => p = d ∨ vc_sc p) I L I1 L1 := by
  obtain ⟨Q, hQ⟩ : ∃ Q : jv_R → Prop, Q = fun X => ∃ I1 L1, X = (some (.int (vl_I (vx_move k (vc_T I L d) (vc_T I L y)).1)), jv_H K I1 L1 R, n, sl) ∧ ((vx_move k (vc_T I L d) (vc_T I L y)).1 = 0 → vc_T I1 L1 d = (vx_move k (vc_T I L d) (vc_T I L y)).2 ∧ vc_ok I1 L1 d) ∧ vc_fr (fun p => p = d ∨ vc_sc p) I L I1 L1 := ⟨_, rfl⟩
  suffices h : jv_Wp 32 0 [(0, .ref 10), (1, .int (vl_I k)), (2, .ref d), (3, .ref y)] [] (jv_H K I L R) n sl Q by
    rw [hQ] at h
    obtain ⟨X, h, I1, L1, e, h'⟩ := h
    subst e
    exact ⟨I1, L1, h, h'⟩
  have mv : vx_move k (vc_T I L d) (vc_T I L y) = vx_mv k (vc_T I L d) (vc_T I L y) (vc_T I L d) True := vx_mvA ((vc_is1 od).mpr hA)
  have n169 : ¬ (169 = d) := hxd 169 (by decide) (by decide)
  refine jv_Wp.lift (fun _ Kz => jv_Ev.steps jv_i32 1 (pc' := 1) (l' := [(0, .ref 10), (1, .int (vl_I k)), (2, .ref d), (3, .ref y)]) (st' := [.ref d]) rfl Kz) ?_
  refine jv_Wp.lift (fun _ Kz => jv_Ev.m jv_i32 (pc' := 4) (st' := [.int (I d 6)]) (G' := (jv_H K I L R)) rfl rfl (jv_m_getI hd rfl rfl rfl) Kz) ?_
  refine jv_Wp.lift (fun _ Kz => jv_Ev.steps jv_i32 1 (pc' := 5) (l' := [(0, .ref 10), (1, .int (vl_I k)), (2, .ref d), (3, .ref y)]) (st' := [.int (1 : Int32), .int (I d 6)]) rfl Kz) ?_
  refine jv_Wp.cnd jv_i32 (pt := 12) (pe := 8) (p := (¬ (I d 6) = (1 : Int32))) (q := (¬ (I d 6) = (1 : Int32))) rfl jv_bc_ne rfl rfl Iff.rfl (fun hz => absurd hz (fun z => z hA)) (fun _ => ?_)
  refine jv_Wp.lift (fun _ Kz => jv_Ev.steps jv_i32 5 (pc' := 18) (l' := [(4, .ref y), (0, .ref 10), (1, .int (vl_I k)), (2, .ref d), (3, .ref y)]) (st' := [.ref d, .ref y]) rfl Kz) ?_
  refine jv_Wp.cnd jv_i32 (pt := 25) (pe := 21) (p := (¬ y = d)) (q := (¬ y = d)) rfl (jv_ba_ne (by omega) (by omega)) rfl rfl Iff.rfl (fun _ => ?_) (fun hz => absurd hyd hz)
  refine jv_Wp.lift (fun _ Kz => jv_Ev.steps jv_i32 3 (pc' := 30) (l' := [(5, .ref d), (4, .ref y), (0, .ref 10), (1, .int (vl_I k)), (2, .ref d), (3, .ref y)]) (st' := [.ref d]) rfl Kz) ?_
  refine jv_Wp.lift (fun _ Kz => jv_Ev.m jv_i32 (pc' := 33) (st' := [.int (I d 6)]) (G' := (jv_H K I L R)) rfl rfl (jv_m_getI hd rfl rfl rfl) Kz) ?_
  refine jv_Wp.lift (fun _ Kz => jv_Ev.steps jv_i32 1 (pc' := 34) (l' := [(5, .ref d), (4, .ref y), (0, .ref 10), (1, .int (vl_I k)), (2, .ref d), (3, .ref y)]) (st' := [.int (1 : Int32), .int (I d 6)]) rfl Kz) ?_
  refine jv_Wp.cnd jv_i32 (pt := 48) (pe := 37) (p := (¬ (I d 6) = (1 : Int32))) (q := (¬ (I d 6) = (1 : Int32))) rfl jv_bc_ne rfl rfl Iff.rfl (fun hz => absurd hz (fun z => z hA)) (fun _ => ?_)
  refine jv_Wp.lift (fun _ Kz => jv_Ev.steps jv_i32 2 (pc' := 39) (l' := [(5, .ref d), (4, .ref y), (0, .ref 10), (1, .int (vl_I k)), (2, .ref d), (3, .ref y)]) (st' := [.int (1 : Int32), .int (vl_I k)]) rfl Kz) ?_
  refine jv_Wp.cnd jv_i32 (pt := 50) (pe := 42) (p := (¬ (vl_I k) = (1 : Int32))) (q := (¬ (vl_I k) = (1 : Int32))) rfl jv_bc_ne rfl rfl Iff.rfl (fun h1 => ?_) (fun h1 => ?_)
  · refine jv_Wp.lift (fun _ Kz => jv_Ev.steps jv_i32 1 (pc' := 52) (l' := [(5, .ref d), (4, .ref y), (0, .ref 10), (1, .int (vl_I k)), (2, .ref d), (3, .ref y)]) (st' := [.ref y]) rfl Kz) ?_
    refine jv_Wp.lift (fun _ Kz => jv_Ev.m jv_i32 (pc' := 55) (st' := [.int (I y 6)]) (G' := (jv_H K I L R)) rfl rfl (jv_m_getI hy rfl rfl rfl) Kz) ?_
    refine jv_Wp.lift (fun _ Kz => jv_Ev.steps jv_i32 1 (pc' := 56) (l' := [(5, .ref d), (4, .ref y), (0, .ref 10), (1, .int (vl_I k)), (2, .ref d), (3, .ref y)]) (st' := [.int (4 : Int32), .int (I y 6)]) rfl Kz) ?_
    refine jv_Wp.cnd jv_i32 (pt := 69) (pe := 59) (p := ((I y 6) = (4 : Int32))) (q := ((I y 6) = (4 : Int32))) rfl jv_bc_eq rfl rfl Iff.rfl (fun h2 => ?_) (fun h2 => ?_)
    · refine jv_Wp.lift (fun _ Kz => jv_Ev.steps jv_i32 1 (pc' := 70) (l' := [(5, .ref d), (4, .ref y), (0, .ref 10), (1, .int (vl_I k)), (2, .ref d), (3, .ref y)]) (st' := [.ref 10]) rfl Kz) ?_
      refine jv_Wp.lift (fun _ Kz => jv_Ev.m jv_i32 (pc' := 73) (st' := [.ref 169]) (G' := (jv_H K I L R)) rfl rfl (jv_m_getR hC.k rfl rfl hC.rout) Kz) ?_
      refine jv_Wp.lift (fun _ Kz => jv_Ev.steps jv_i32 4 (pc' := 80) (l' := [(5, .ref d), (4, .ref y), (0, .ref 10), (1, .int (vl_I k)), (2, .ref d), (3, .ref y)]) (st' := [.int (63 : Int32), .ref d, .ref y, .int (vl_I k), .ref 169]) rfl Kz) ?_
      refine jv_Wp.lift (fun _ Kz => jv_Ev.c jv_i32 (pc' := 83) (S' := []) (G1 := (jv_H K I (vl_set L 169 (vb_tt (vb_cOp (vl_I k) (vl_S L y) (vl_S L d) 63))) R)) jv_i158 [.ref 169, .int (vl_I k), .ref y, .ref d, .int (63 : Int32)] rfl rfl rfl rfl (jv_cal rfl (jv_H_at hC.k169) rfl rfl) rfl (vl_operate (top := 63) hC.k169 (Or.inr hy) (Or.inr hd) (Or.inl ⟨rfl, rfl⟩) (vb_tight_le (tx hA)) (hxy 169 (by decide) (by decide)) (hxd 169 (by decide) (by decide))) rfl rfl Kz) ?_
      refine jv_Wp.lift (fun _ Kz => jv_Ev.steps jv_i32 1 (pc' := 84) (l' := [(5, .ref d), (4, .ref y), (0, .ref 10), (1, .int (vl_I k)), (2, .ref d), (3, .ref y)]) (st' := [.ref 10]) rfl Kz) ?_
      refine jv_Wp.lift (fun _ Kz => jv_Ev.m jv_i32 (pc' := 87) (st' := [.ref 169]) (G' := (jv_H K I (vl_set L 169 (vb_tt (vb_cOp (vl_I k) (vl_S L y) (vl_S L d) 63))) R)) rfl rfl (jv_m_getR hC.k rfl rfl hC.rout) Kz) ?_
      refine jv_Wp.lift (fun _ Kz => jv_Ev.m jv_i32 (pc' := 90) (st' := [.long (Int64.ofBitVec ((vb_tt (vb_cOp (vl_I k) (vl_S L y) (vl_S L d) 63))).least)]) (G' := (jv_H K I (vl_set L 169 (vb_tt (vb_cOp (vl_I k) (vl_S L y) (vl_S L d) 63))) R)) rfl rfl (jv_m_getL hC.k169 rfl rfl (vl_rd4 _ _ _)) Kz) ?_
      refine jv_Wp.lift (fun _ Kz => jv_Ev.steps jv_i32 2 (pc' := 94) (l' := [(5, .ref d), (4, .ref y), (0, .ref 10), (1, .int (vl_I k)), (2, .ref d), (3, .ref y)]) (st' := [.int (lg_cmp (Int64.ofBitVec ((vb_tt (vb_cOp (vl_I k) (vl_S L y) (vl_S L d) 63))).least) (-536870912 : Int64))]) rfl Kz) ?_
      refine jv_Wp.cnd jv_i32 (pt := 111) (pe := 97) (p := ((lg_cmp (Int64.ofBitVec ((vb_tt (vb_cOp (vl_I k) (vl_S L y) (vl_S L d) 63))).least) (-536870912 : Int64)) < 0)) (q := ((Int64.ofBitVec ((vb_tt (vb_cOp (vl_I k) (vl_S L y) (vl_S L d) 63))).least) < (-536870912 : Int64))) rfl jv_bi_lt rfl rfl (lg_cmp_lt (Int64.ofBitVec ((vb_tt (vb_cOp (vl_I k) (vl_S L y) (vl_S L d) 63))).least) (-536870912 : Int64)) (fun h3 => ?_) (fun h3 => ?_)
      · refine jv_Wp.lift (fun _ Kz => jv_Ev.steps jv_i32 1 (pc' := 112) (l' := [(5, .ref d), (4, .ref y), (0, .ref 10), (1, .int (vl_I k)), (2, .ref d), (3, .ref y)]) (st' := [.int (2 : Int32)]) rfl Kz) ?_
        refine jv_Wp.of (jv_Ev.ret jv_i32 rfl rfl) ?_
        rw [hQ]
        have c1 : ¬ ((vc_T I L d).sort ≠ 1 ∨ (k = 1 ∧ True)) := fun z => z.elim (fun z => z ((vc_is1 od).mpr hA)) (fun z => h1 (by rw [z.1]; rfl))
        have xv : (vc_T I L d).val = vl_S L d := vc_valv (Or.inl hA)
        have c2 : (vc_T I L y).sort = 4 ∨ (vc_T I L y).sort = 7 := Or.inl ((vc_is4 oy).mpr h2)
        have bv : (vc_T I L y).val = vl_S L y := vc_valv (Or.inr (Or.inl h2))
        have c3 : (vx_op k (vc_T I L y).val (vc_T I L d).val 63).least.toInt < -vx_far ∨ vx_far < (vx_op k (vc_T I L y).val (vc_T I L d).val 63).greatest.toInt := Or.inl (by rw [xv, bv]; exact (vx_i64 _ _).mp h3)
        have e : vx_move k (vc_T I L d) (vc_T I L y) = (2, (vc_T I L d)) := mv.trans (vx_mv2 c1 c2 c3)
        exact ⟨I, (vl_set L 169 (vb_tt (vb_cOp (vl_I k) (vl_S L y) (vl_S L d) 63))), by rw [e]; rfl, fun z => by rw [e] at z; exact absurd (show (2 : Nat) = 0 from z) (by decide), fun p hp => ⟨fun _ => rfl, fun f => vl_set_out (fun z => hp (Or.inr (by rw [z.1]; exact ⟨by decide, by decide⟩)))⟩⟩
      · refine jv_Wp.lift (fun _ Kz => jv_Ev.steps jv_i32 1 (pc' := 98) (l' := [(5, .ref d), (4, .ref y), (0, .ref 10), (1, .int (vl_I k)), (2, .ref d), (3, .ref y)]) (st' := [.ref 10]) rfl Kz) ?_
        refine jv_Wp.lift (fun _ Kz => jv_Ev.m jv_i32 (pc' := 101) (st' := [.ref 169]) (G' := (jv_H K I (vl_set L 169 (vb_tt (vb_cOp (vl_I k) (vl_S L y) (vl_S L d) 63))) R)) rfl rfl (jv_m_getR hC.k rfl rfl hC.rout) Kz) ?_
        refine jv_Wp.lift (fun _ Kz => jv_Ev.m jv_i32 (pc' := 104) (st' := [.long (Int64.ofBitVec ((vb_tt (vb_cOp (vl_I k) (vl_S L y) (vl_S L d) 63))).greatest)]) (G' := (jv_H K I (vl_set L 169 (vb_tt (vb_cOp (vl_I k) (vl_S L y) (vl_S L d) 63))) R)) rfl rfl (jv_m_getL hC.k169 rfl rfl (vl_rd5 _ _ _)) Kz) ?_
        refine jv_Wp.lift (fun _ Kz => jv_Ev.steps jv_i32 2 (pc' := 108) (l' := [(5, .ref d), (4, .ref y), (0, .ref 10), (1, .int (vl_I k)), (2, .ref d), (3, .ref y)]) (st' := [.int (lg_cmp (Int64.ofBitVec ((vb_tt (vb_cOp (vl_I k) (vl_S L y) (vl_S L d) 63))).greatest) (536870912 : Int64))]) rfl Kz) ?_
        refine jv_Wp.cnd jv_i32 (pt := 113) (pe := 111) (p := ((lg_cmp (Int64.ofBitVec ((vb_tt (vb_cOp (vl_I k) (vl_S L y) (vl_S L d) 63))).greatest) (536870912 : Int64)) ≤ 0)) (q := ((Int64.ofBitVec ((vb_tt (vb_cOp (vl_I k) (vl_S L y) (vl_S L d) 63))).greatest) ≤ (536870912 : Int64))) rfl jv_bi_le rfl rfl (lg_cmp_le (Int64.ofBitVec ((vb_tt (vb_cOp (vl_I k) (vl_S L y) (vl_S L d) 63))).greatest) (536870912 : Int64)) (fun h4 => ?_) (fun h4 => ?_)
        · refine jv_Wp.lift (fun _ Kz => jv_Ev.steps jv_i32 2 (pc' := 116) (l' := [(5, .ref d), (4, .ref y), (0, .ref 10), (1, .int (vl_I k)), (2, .ref d), (3, .ref y)]) (st' := [.ref y, .ref d]) rfl Kz) ?_
          refine jv_Wp.lift (fun _ Kz => jv_Ev.m jv_i32 (pc' := 119) (st' := [.int (I y 6), .ref d]) (G' := (jv_H K I (vl_set L 169 (vb_tt (vb_cOp (vl_I k) (vl_S L y) (vl_S L d) 63))) R)) rfl rfl (jv_m_getI hy rfl rfl rfl) Kz) ?_
          refine jv_Wp.lift (fun _ Kz => jv_Ev.steps jv_i32 1 (pc' := 121) (l' := [(5, .ref d), (4, .ref y), (0, .ref 10), (1, .int (vl_I k)), (2, .ref d), (3, .ref y)]) (st' := [.ref y, .int (I y 6), .ref d]) rfl Kz) ?_
          refine jv_Wp.lift (fun _ Kz => jv_Ev.m jv_i32 (pc' := 124) (st' := [.int (I y 7), .int (I y 6), .ref d]) (G' := (jv_H K I (vl_set L 169 (vb_tt (vb_cOp (vl_I k) (vl_S L y) (vl_S L d) 63))) R)) rfl rfl (jv_m_getI hy rfl rfl rfl) Kz) ?_
          refine jv_Wp.lift (fun _ Kz => jv_Ev.steps jv_i32 1 (pc' := 125) (l' := [(5, .ref d), (4, .ref y), (0, .ref 10), (1, .int (vl_I k)), (2, .ref d), (3, .ref y)]) (st' := [.long (0 : Int64), .int (I y 7), .int (I y 6), .ref d]) rfl Kz) ?_
          obtain ⟨I1, L1, H1, T1, O1, F1⟩ := vc_bec (I := I) (L := (vl_set L 169 (vb_tt (vb_cOp (vl_I k) (vl_S L y) (vl_S L d) 63)))) (R := R) (n := n) (sl := sl) (I y 6) (I y 7) (0 : Int64) hd (by rw [vc_W_m oy (by rw [h2]; decide), h2]; exact Or.inr (Or.inl ⟨Or.inr (Or.inl rfl), rfl, rfl, rfl⟩))
          refine jv_Wp.lift (fun _ Kz => jv_Ev.c jv_i32 (pc' := 128) (S' := []) (G1 := (jv_H K I1 L1 R)) jv_i140 [.ref d, .int (I y 6), .int (I y 7), .long (0 : Int64)] rfl rfl rfl rfl (jv_cal rfl (jv_H_at hd) rfl rfl) rfl H1 rfl rfl Kz) ?_
          refine jv_Wp.lift (fun _ Kz => jv_Ev.steps jv_i32 2 (pc' := 130) (l' := [(5, .ref d), (4, .ref y), (0, .ref 10), (1, .int (vl_I k)), (2, .ref d), (3, .ref y)]) (st' := [.ref 10, .ref d]) rfl Kz) ?_
          refine jv_Wp.lift (fun _ Kz => jv_Ev.m jv_i32 (pc' := 133) (st' := [.ref 169, .ref d]) (G' := (jv_H K I1 L1 R)) rfl rfl (jv_m_getR hC.k rfl rfl hC.rout) Kz) ?_
          refine jv_Wp.lift (fun _ Kz => jv_Ev.c jv_i32 (pc' := 136) (S' := []) (G1 := (jv_H K I1 (vl_set L1 d (vl_S L1 169)) R)) jv_i151 [.ref d, .ref 169] rfl rfl rfl rfl (jv_cal rfl (jv_H_at hd) rfl rfl) rfl (vl_sayings2 (Or.inr hd) (Or.inl hC.k169)) rfl rfl Kz) ?_
          refine jv_Wp.lift (fun _ Kz => jv_Ev.steps jv_i32 1 (pc' := 137) (l' := [(5, .ref d), (4, .ref y), (0, .ref 10), (1, .int (vl_I k)), (2, .ref d), (3, .ref y)]) (st' := [.int (0 : Int32)]) rfl Kz) ?_
          refine jv_Wp.of (jv_Ev.ret jv_i32 rfl rfl) ?_
          rw [hQ]
          have c1 : ¬ ((vc_T I L d).sort ≠ 1 ∨ (k = 1 ∧ True)) := fun z => z.elim (fun z => z ((vc_is1 od).mpr hA)) (fun z => h1 (by rw [z.1]; rfl))
          have xv : (vc_T I L d).val = vl_S L d := vc_valv (Or.inl hA)
          have c2 : (vc_T I L y).sort = 4 ∨ (vc_T I L y).sort = 7 := Or.inl ((vc_is4 oy).mpr h2)
          have bv : (vc_T I L y).val = vl_S L y := vc_valv (Or.inr (Or.inl h2))
          have c3 : ¬ ((vx_op k (vc_T I L y).val (vc_T I L d).val 63).least.toInt < -vx_far ∨ vx_far < (vx_op k (vc_T I L y).val (vc_T I L d).val 63).greatest.toInt) := by
            rw [xv, bv]; exact fun z => z.elim (fun z => h3 ((vx_i64 _ _).mpr z)) (fun z => Int.not_le.mpr z ((vx_i64l _ _).mp h4))
          have e : vx_move k (vc_T I L d) (vc_T I L y) = (0, ((vc_T I L y).sort, (vc_T I L y).det, -1, (vx_op k (vc_T I L y).val (vc_T I L d).val 63))) := mv.trans (vx_mv3 c1 c2 c3)
          have dd := vc_det47 (L := L) (show I y 6 = 4 ∨ I y 6 = 7 from Or.inl h2)
          have ev : vl_S L1 169 = (vx_op k (vc_T I L y).val (vc_T I L d).val 63) := by rw [vl_S_ext (fun f => (F1 169 n169).2 f), vl_set_S, xv, bv]; rfl
          refine ⟨_, _, by rw [e]; rfl, fun _ => ⟨?_, vc_set_ok O1⟩, fun p hp => ⟨fun f => (F1 p (fun z => hp (Or.inl z))).1 f, fun f => (vl_set_out (fun z => hp (Or.inl z.1))).trans (((F1 p (fun z => hp (Or.inl z))).2 f).trans (vl_set_out (fun z => hp (Or.inr (by rw [z.1]; exact ⟨by decide, by decide⟩)))))⟩⟩
          rw [vc_T_v O1 T1 (by rw [h2]; exact Or.inr (Or.inl rfl)), ev, e, dd.1, h2]
          show _ = ((vc_T I L y).sort, _, _, _)
          rw [show (vc_T I L y).sort = 4 from (vc_is4 oy).mpr h2]
          rfl
        · refine jv_Wp.lift (fun _ Kz => jv_Ev.steps jv_i32 1 (pc' := 112) (l' := [(5, .ref d), (4, .ref y), (0, .ref 10), (1, .int (vl_I k)), (2, .ref d), (3, .ref y)]) (st' := [.int (2 : Int32)]) rfl Kz) ?_
          refine jv_Wp.of (jv_Ev.ret jv_i32 rfl rfl) ?_
          rw [hQ]
          have c1 : ¬ ((vc_T I L d).sort ≠ 1 ∨ (k = 1 ∧ True)) := fun z => z.elim (fun z => z ((vc_is1 od).mpr hA)) (fun z => h1 (by rw [z.1]; rfl))
          have xv : (vc_T I L d).val = vl_S L d := vc_valv (Or.inl hA)
          have c2 : (vc_T I L y).sort = 4 ∨ (vc_T I L y).sort = 7 := Or.inl ((vc_is4 oy).mpr h2)
          have bv : (vc_T I L y).val = vl_S L y := vc_valv (Or.inr (Or.inl h2))
          have c3 : (vx_op k (vc_T I L y).val (vc_T I L d).val 63).least.toInt < -vx_far ∨ vx_far < (vx_op k (vc_T I L y).val (vc_T I L d).val 63).greatest.toInt := Or.inr (by rw [xv, bv]; have q := (not_congr (vx_i64l _ _)).mp h4; exact Int.not_le.mp q)
          have e : vx_move k (vc_T I L d) (vc_T I L y) = (2, (vc_T I L d)) := mv.trans (vx_mv2 c1 c2 c3)
          exact ⟨I, (vl_set L 169 (vb_tt (vb_cOp (vl_I k) (vl_S L y) (vl_S L d) 63))), by rw [e]; rfl, fun z => by rw [e] at z; exact absurd (show (2 : Nat) = 0 from z) (by decide), fun p hp => ⟨fun _ => rfl, fun f => vl_set_out (fun z => hp (Or.inr (by rw [z.1]; exact ⟨by decide, by decide⟩)))⟩⟩
    · refine jv_Wp.lift (fun _ Kz => jv_Ev.steps jv_i32 1 (pc' := 61) (l' := [(5, .ref d), (4, .ref y), (0, .ref 10), (1, .int (vl_I k)), (2, .ref d), (3, .ref y)]) (st' := [.ref y]) rfl Kz) ?_
      refine jv_Wp.lift (fun _ Kz => jv_Ev.m jv_i32 (pc' := 64) (st' := [.int (I y 6)]) (G' := (jv_H K I L R)) rfl rfl (jv_m_getI hy rfl rfl rfl) Kz) ?_
      refine jv_Wp.lift (fun _ Kz => jv_Ev.steps jv_i32 1 (pc' := 66) (l' := [(5, .ref d), (4, .ref y), (0, .ref 10), (1, .int (vl_I k)), (2, .ref d), (3, .ref y)]) (st' := [.int (7 : Int32), .int (I y 6)]) rfl Kz) ?_
      refine jv_Wp.cnd jv_i32 (pt := 138) (pe := 69) (p := (¬ (I y 6) = (7 : Int32))) (q := (¬ (I y 6) = (7 : Int32))) rfl jv_bc_ne rfl rfl Iff.rfl (fun h5 => ?_) (fun h5 => ?_)
      · refine jv_Wp.lift (fun _ Kz => jv_Ev.steps jv_i32 1 (pc' := 140) (l' := [(5, .ref d), (4, .ref y), (0, .ref 10), (1, .int (vl_I k)), (2, .ref d), (3, .ref y)]) (st' := [.ref y]) rfl Kz) ?_
        refine jv_Wp.lift (fun _ Kz => jv_Ev.m jv_i32 (pc' := 143) (st' := [.int (I y 6)]) (G' := (jv_H K I L R)) rfl rfl (jv_m_getI hy rfl rfl rfl) Kz) ?_
        refine jv_Wp.lift (fun _ Kz => jv_Ev.steps jv_i32 1 (pc' := 144) (l' := [(5, .ref d), (4, .ref y), (0, .ref 10), (1, .int (vl_I k)), (2, .ref d), (3, .ref y)]) (st' := [.int (2 : Int32), .int (I y 6)]) rfl Kz) ?_
        refine jv_Wp.cnd jv_i32 (pt := 156) (pe := 147) (p := ((I y 6) = (2 : Int32))) (q := ((I y 6) = (2 : Int32))) rfl jv_bc_eq rfl rfl Iff.rfl (fun h6 => ?_) (fun h6 => ?_)
        · refine jv_Wp.lift (fun _ Kz => jv_Ev.steps jv_i32 1 (pc' := 158) (l' := [(5, .ref d), (4, .ref y), (0, .ref 10), (1, .int (vl_I k)), (2, .ref d), (3, .ref y)]) (st' := [.ref d]) rfl Kz) ?_
          refine jv_Wp.lift (fun _ Kz => jv_Ev.c jv_i32 (pc' := 161) (S' := [.int (vr_b (decide ((vl_S L d).low = (vl_S L d).high)))]) jv_i153 [.ref d] rfl rfl rfl rfl (jv_cal rfl (jv_H_at hd) rfl rfl) rfl (vl_single (Or.inr hd)) rfl rfl Kz) ?_
          refine jv_Wp.cnd jv_i32 (pt := 166) (pe := 164) (p := (¬ (vr_b (decide ((vl_S L d).low = (vl_S L d).high))) = 0)) (q := (¬ (vr_b (decide ((vl_S L d).low = (vl_S L d).high))) = 0)) rfl jv_bi_ne rfl rfl Iff.rfl (fun h7 => ?_) (fun h7 => ?_)
          · refine jv_Wp.lift (fun _ Kz => jv_Ev.steps jv_i32 1 (pc' := 167) (l' := [(5, .ref d), (4, .ref y), (0, .ref 10), (1, .int (vl_I k)), (2, .ref d), (3, .ref y)]) (st' := [.int (vl_I k)]) rfl Kz) ?_
            refine jv_Wp.cnd jv_i32 (pt := 184) (pe := 170) (p := (¬ (vl_I k) = 0)) (q := (¬ (vl_I k) = 0)) rfl jv_bi_ne rfl rfl Iff.rfl (fun h8 => ?_) (fun h8 => ?_)
            · refine jv_Wp.lift (fun _ Kz => jv_Ev.steps jv_i32 1 (pc' := 186) (l' := [(5, .ref d), (4, .ref y), (0, .ref 10), (1, .int (vl_I k)), (2, .ref d), (3, .ref y)]) (st' := [.ref y]) rfl Kz) ?_
              refine jv_Wp.lift (fun _ Kz => jv_Ev.m jv_i32 (pc' := 189) (st' := [.long (L y 8)]) (G' := (jv_H K I L R)) rfl rfl (jv_m_getL hy rfl rfl rfl) Kz) ?_
              refine jv_Wp.lift (fun _ Kz => jv_Ev.steps jv_i32 1 (pc' := 191) (l' := [(5, .ref d), (4, .ref y), (0, .ref 10), (1, .int (vl_I k)), (2, .ref d), (3, .ref y)]) (st' := [.ref d, .long (L y 8)]) rfl Kz) ?_
              refine jv_Wp.lift (fun _ Kz => jv_Ev.m jv_i32 (pc' := 194) (st' := [.long (L d 2), .long (L y 8)]) (G' := (jv_H K I L R)) rfl rfl (jv_m_getL hd rfl rfl rfl) Kz) ?_
              refine jv_Wp.lift (fun _ Kz => jv_Ev.steps jv_i32 5 (pc' := 203) (l' := [(6, .long ((L y 8) - (L d 2))), (5, .ref d), (4, .ref y), (0, .ref 10), (1, .int (vl_I k)), (2, .ref d), (3, .ref y)]) (st' := [.int (lg_cmp ((L y 8) - (L d 2)) (-536870912 : Int64))]) rfl Kz) ?_
              refine jv_Wp.cnd jv_i32 (pt := 215) (pe := 206) (p := ((lg_cmp ((L y 8) - (L d 2)) (-536870912 : Int64)) < 0)) (q := (((L y 8) - (L d 2)) < (-536870912 : Int64))) rfl jv_bi_lt rfl rfl (lg_cmp_lt ((L y 8) - (L d 2)) (-536870912 : Int64)) (fun h9 => ?_) (fun h9 => ?_)
              · refine jv_Wp.lift (fun _ Kz => jv_Ev.steps jv_i32 1 (pc' := 216) (l' := [(6, .long ((L y 8) - (L d 2))), (5, .ref d), (4, .ref y), (0, .ref 10), (1, .int (vl_I k)), (2, .ref d), (3, .ref y)]) (st' := [.int (2 : Int32)]) rfl Kz) ?_
                refine jv_Wp.of (jv_Ev.ret jv_i32 rfl rfl) ?_
                rw [hQ]
                have c1 : ¬ ((vc_T I L d).sort ≠ 1 ∨ (k = 1 ∧ True)) := fun z => z.elim (fun z => z ((vc_is1 od).mpr hA)) (fun z => h1 (by rw [z.1]; rfl))
                have xv : (vc_T I L d).val = vl_S L d := vc_valv (Or.inl hA)
                have c2 : ¬ ((vc_T I L y).sort = 4 ∨ (vc_T I L y).sort = 7) := fun z => z.elim (fun z => h2 ((vc_is4 oy).mp z)) (fun z => h5 ((vc_is7 oy).mp z))
                have es : (vl_S L d).low = (vl_S L d).high := Classical.byContradiction (fun z => h7 (by rw [decide_eq_false z]; rfl))
                have bs : (vc_T I L y).sort = 2 := (vc_is2 oy).mpr h6
                have c3 : ¬ (((vc_T I L y).sort ≠ 2 ∧ (vc_T I L y).sort ≠ 3) ∨ (vc_T I L d).val.low ≠ (vc_T I L d).val.high) := by rw [xv, bs]; exact fun z => z.elim (fun z => z.1 rfl) (fun z => z es)
                have bd : (vc_T I L y).det = (L y 8).toInt := vc_detk (Or.inl h6)
                have far := hfar (Or.inl h6)
                have W := vx_wrap (n := k) (L y 8) (L d 2) far ((L y 8) - (L d 2)) (if_neg (show ¬ k = 0 from fun z => h8 (by rw [z]; rfl))).symm
                rw [show (L d 2).toInt = (vc_T I L d).val.low.toInt from by rw [xv]; rfl, ← bd] at W
                have e : vx_move k (vc_T I L d) (vc_T I L y) = (2, (vc_T I L d)) := mv.trans (vx_mv5 c1 c2 c3 (W.1.mp (Or.inl (Int64.lt_iff_toInt_lt.mp h9))))
                exact ⟨I, L, by rw [e]; rfl, fun z => by rw [e] at z; exact absurd (show (2 : Nat) = 0 from z) (by decide), vc_fr_refl _ _⟩
              · refine jv_Wp.lift (fun _ Kz => jv_Ev.steps jv_i32 3 (pc' := 212) (l' := [(6, .long ((L y 8) - (L d 2))), (5, .ref d), (4, .ref y), (0, .ref 10), (1, .int (vl_I k)), (2, .ref d), (3, .ref y)]) (st' := [.int (lg_cmp ((L y 8) - (L d 2)) (536870912 : Int64))]) rfl Kz) ?_
                refine jv_Wp.cnd jv_i32 (pt := 217) (pe := 215) (p := ((lg_cmp ((L y 8) - (L d 2)) (536870912 : Int64)) ≤ 0)) (q := (((L y 8) - (L d 2)) ≤ (536870912 : Int64))) rfl jv_bi_le rfl rfl (lg_cmp_le ((L y 8) - (L d 2)) (536870912 : Int64)) (fun h10 => ?_) (fun h10 => ?_)
                · refine jv_Wp.lift (fun _ Kz => jv_Ev.steps jv_i32 2 (pc' := 220) (l' := [(6, .long ((L y 8) - (L d 2))), (5, .ref d), (4, .ref y), (0, .ref 10), (1, .int (vl_I k)), (2, .ref d), (3, .ref y)]) (st' := [.ref y, .ref d]) rfl Kz) ?_
                  refine jv_Wp.lift (fun _ Kz => jv_Ev.m jv_i32 (pc' := 223) (st' := [.int (I y 6), .ref d]) (G' := (jv_H K I L R)) rfl rfl (jv_m_getI hy rfl rfl rfl) Kz) ?_
                  refine jv_Wp.lift (fun _ Kz => jv_Ev.steps jv_i32 2 (pc' := 226) (l' := [(6, .long ((L y 8) - (L d 2))), (5, .ref d), (4, .ref y), (0, .ref 10), (1, .int (vl_I k)), (2, .ref d), (3, .ref y)]) (st' := [.long ((L y 8) - (L d 2)), .int (0 : Int32), .int (I y 6), .ref d]) rfl Kz) ?_
                  obtain ⟨I2, L2, H2, T2, O2, F2⟩ := vc_bec (I := I) (L := L) (R := R) (n := n) (sl := sl) (I y 6) (0 : Int32) ((L y 8) - (L d 2)) hd (by rw [h6]; exact Or.inr (Or.inr (Or.inl ⟨Or.inl rfl, rfl, rfl⟩)))
                  refine jv_Wp.lift (fun _ Kz => jv_Ev.c jv_i32 (pc' := 229) (S' := []) (G1 := (jv_H K I2 L2 R)) jv_i140 [.ref d, .int (I y 6), .int (0 : Int32), .long ((L y 8) - (L d 2))] rfl rfl rfl rfl (jv_cal rfl (jv_H_at hd) rfl rfl) rfl H2 rfl rfl Kz) ?_
                  refine jv_Wp.lift (fun _ Kz => jv_Ev.steps jv_i32 1 (pc' := 230) (l' := [(6, .long ((L y 8) - (L d 2))), (5, .ref d), (4, .ref y), (0, .ref 10), (1, .int (vl_I k)), (2, .ref d), (3, .ref y)]) (st' := [.int (0 : Int32)]) rfl Kz) ?_
                  refine jv_Wp.of (jv_Ev.ret jv_i32 rfl rfl) ?_
                  rw [hQ]
                  have c1 : ¬ ((vc_T I L d).sort ≠ 1 ∨ (k = 1 ∧ True)) := fun z => z.elim (fun z => z ((vc_is1 od).mpr hA)) (fun z => h1 (by rw [z.1]; rfl))
                  have xv : (vc_T I L d).val = vl_S L d := vc_valv (Or.inl hA)
                  have c2 : ¬ ((vc_T I L y).sort = 4 ∨ (vc_T I L y).sort = 7) := fun z => z.elim (fun z => h2 ((vc_is4 oy).mp z)) (fun z => h5 ((vc_is7 oy).mp z))
                  have es : (vl_S L d).low = (vl_S L d).high := Classical.byContradiction (fun z => h7 (by rw [decide_eq_false z]; rfl))
                  have bs : (vc_T I L y).sort = 2 := (vc_is2 oy).mpr h6
                  have c3 : ¬ (((vc_T I L y).sort ≠ 2 ∧ (vc_T I L y).sort ≠ 3) ∨ (vc_T I L d).val.low ≠ (vc_T I L d).val.high) := by rw [xv, bs]; exact fun z => z.elim (fun z => z.1 rfl) (fun z => z es)
                  have bd : (vc_T I L y).det = (L y 8).toInt := vc_detk (Or.inl h6)
                  have far := hfar (Or.inl h6)
                  have W := vx_wrap (n := k) (L y 8) (L d 2) far ((L y 8) - (L d 2)) (if_neg (show ¬ k = 0 from fun z => h8 (by rw [z]; rfl))).symm
                  rw [show (L d 2).toInt = (vc_T I L d).val.low.toInt from by rw [xv]; rfl, ← bd] at W
                  have c4 : ¬ (vx_mvc k (vc_T I L y).det (vc_T I L d).val.low.toInt < -vx_far ∨ vx_far < vx_mvc k (vc_T I L y).det (vc_T I L d).val.low.toInt) := fun z => (W.1.mpr z).elim (fun z => h9 (Int64.lt_iff_toInt_lt.mpr z)) (fun z => Int.not_le.mpr z (Int64.le_iff_toInt_le.mp h10))
                  have e : vx_move k (vc_T I L d) (vc_T I L y) = (0, ((vc_T I L y).sort, vx_mvc k (vc_T I L y).det (vc_T I L d).val.low.toInt, -1, vb_any)) := mv.trans (vx_mv6 c1 c2 c3 c4)
                  refine ⟨_, _, by rw [e]; rfl, fun _ => ⟨?_, O2⟩, fun p hp => F2 p (fun z => hp (Or.inl z))⟩
                  rw [T2, e, bs, ← W.2 c4, h6]
                  rfl
                · refine jv_Wp.lift (fun _ Kz => jv_Ev.steps jv_i32 1 (pc' := 216) (l' := [(6, .long ((L y 8) - (L d 2))), (5, .ref d), (4, .ref y), (0, .ref 10), (1, .int (vl_I k)), (2, .ref d), (3, .ref y)]) (st' := [.int (2 : Int32)]) rfl Kz) ?_
                  refine jv_Wp.of (jv_Ev.ret jv_i32 rfl rfl) ?_
                  rw [hQ]
                  have c1 : ¬ ((vc_T I L d).sort ≠ 1 ∨ (k = 1 ∧ True)) := fun z => z.elim (fun z => z ((vc_is1 od).mpr hA)) (fun z => h1 (by rw [z.1]; rfl))
                  have xv : (vc_T I L d).val = vl_S L d := vc_valv (Or.inl hA)
                  have c2 : ¬ ((vc_T I L y).sort = 4 ∨ (vc_T I L y).sort = 7) := fun z => z.elim (fun z => h2 ((vc_is4 oy).mp z)) (fun z => h5 ((vc_is7 oy).mp z))
                  have es : (vl_S L d).low = (vl_S L d).high := Classical.byContradiction (fun z => h7 (by rw [decide_eq_false z]; rfl))
                  have bs : (vc_T I L y).sort = 2 := (vc_is2 oy).mpr h6
                  have c3 : ¬ (((vc_T I L y).sort ≠ 2 ∧ (vc_T I L y).sort ≠ 3) ∨ (vc_T I L d).val.low ≠ (vc_T I L d).val.high) := by rw [xv, bs]; exact fun z => z.elim (fun z => z.1 rfl) (fun z => z es)
                  have bd : (vc_T I L y).det = (L y 8).toInt := vc_detk (Or.inl h6)
                  have far := hfar (Or.inl h6)
                  have W := vx_wrap (n := k) (L y 8) (L d 2) far ((L y 8) - (L d 2)) (if_neg (show ¬ k = 0 from fun z => h8 (by rw [z]; rfl))).symm
                  rw [show (L d 2).toInt = (vc_T I L d).val.low.toInt from by rw [xv]; rfl, ← bd] at W
                  have e : vx_move k (vc_T I L d) (vc_T I L y) = (2, (vc_T I L d)) := mv.trans (vx_mv5 c1 c2 c3 (W.1.mp (Or.inr (Int.not_le.mp ((not_congr Int64.le_iff_toInt_le).mp h10)))))
                  exact ⟨I, L, by rw [e]; rfl, fun z => by rw [e] at z; exact absurd (show (2 : Nat) = 0 from z) (by decide), vc_fr_refl _ _⟩
            · refine jv_Wp.lift (fun _ Kz => jv_Ev.steps jv_i32 1 (pc' := 172) (l' := [(5, .ref d), (4, .ref y), (0, .ref 10), (1, .int (vl_I k)), (2, .ref d), (3, .ref y)]) (st' := [.ref y]) rfl Kz) ?_
              refine jv_Wp.lift (fun _ Kz => jv_Ev.m jv_i32 (pc' := 175) (st' := [.long (L y 8)]) (G' := (jv_H K I L R)) rfl rfl (jv_m_getL hy rfl rfl rfl) Kz) ?_
              refine jv_Wp.lift (fun _ Kz => jv_Ev.steps jv_i32 1 (pc' := 177) (l' := [(5, .ref d), (4, .ref y), (0, .ref 10), (1, .int (vl_I k)), (2, .ref d), (3, .ref y)]) (st' := [.ref d, .long (L y 8)]) rfl Kz) ?_
              refine jv_Wp.lift (fun _ Kz => jv_Ev.m jv_i32 (pc' := 180) (st' := [.long (L d 2), .long (L y 8)]) (G' := (jv_H K I L R)) rfl rfl (jv_m_getL hd rfl rfl rfl) Kz) ?_
              refine jv_Wp.lift (fun _ Kz => jv_Ev.steps jv_i32 6 (pc' := 203) (l' := [(6, .long ((L y 8) + (L d 2))), (5, .ref d), (4, .ref y), (0, .ref 10), (1, .int (vl_I k)), (2, .ref d), (3, .ref y)]) (st' := [.int (lg_cmp ((L y 8) + (L d 2)) (-536870912 : Int64))]) rfl Kz) ?_
              refine jv_Wp.cnd jv_i32 (pt := 215) (pe := 206) (p := ((lg_cmp ((L y 8) + (L d 2)) (-536870912 : Int64)) < 0)) (q := (((L y 8) + (L d 2)) < (-536870912 : Int64))) rfl jv_bi_lt rfl rfl (lg_cmp_lt ((L y 8) + (L d 2)) (-536870912 : Int64)) (fun h11 => ?_) (fun h11 => ?_)
              · refine jv_Wp.lift (fun _ Kz => jv_Ev.steps jv_i32 1 (pc' := 216) (l' := [(6, .long ((L y 8) + (L d 2))), (5, .ref d), (4, .ref y), (0, .ref 10), (1, .int (vl_I k)), (2, .ref d), (3, .ref y)]) (st' := [.int (2 : Int32)]) rfl Kz) ?_
                refine jv_Wp.of (jv_Ev.ret jv_i32 rfl rfl) ?_
                rw [hQ]
                have c1 : ¬ ((vc_T I L d).sort ≠ 1 ∨ (k = 1 ∧ True)) := fun z => z.elim (fun z => z ((vc_is1 od).mpr hA)) (fun z => h1 (by rw [z.1]; rfl))
                have xv : (vc_T I L d).val = vl_S L d := vc_valv (Or.inl hA)
                have c2 : ¬ ((vc_T I L y).sort = 4 ∨ (vc_T I L y).sort = 7) := fun z => z.elim (fun z => h2 ((vc_is4 oy).mp z)) (fun z => h5 ((vc_is7 oy).mp z))
                have es : (vl_S L d).low = (vl_S L d).high := Classical.byContradiction (fun z => h7 (by rw [decide_eq_false z]; rfl))
                have bs : (vc_T I L y).sort = 2 := (vc_is2 oy).mpr h6
                have c3 : ¬ (((vc_T I L y).sort ≠ 2 ∧ (vc_T I L y).sort ≠ 3) ∨ (vc_T I L d).val.low ≠ (vc_T I L d).val.high) := by rw [xv, bs]; exact fun z => z.elim (fun z => z.1 rfl) (fun z => z es)
                have bd : (vc_T I L y).det = (L y 8).toInt := vc_detk (Or.inl h6)
                have far := hfar (Or.inl h6)
                have W := vx_wrap (n := k) (L y 8) (L d 2) far ((L y 8) + (L d 2)) (if_pos (show k = 0 from ((vl_I_inj (by omega) (by decide)).mp (Classical.not_not.mp h8)))).symm
                rw [show (L d 2).toInt = (vc_T I L d).val.low.toInt from by rw [xv]; rfl, ← bd] at W
                have e : vx_move k (vc_T I L d) (vc_T I L y) = (2, (vc_T I L d)) := mv.trans (vx_mv5 c1 c2 c3 (W.1.mp (Or.inl (Int64.lt_iff_toInt_lt.mp h11))))
                exact ⟨I, L, by rw [e]; rfl, fun z => by rw [e] at z; exact absurd (show (2 : Nat) = 0 from z) (by decide), vc_fr_refl _ _⟩
              · refine jv_Wp.lift (fun _ Kz => jv_Ev.steps jv_i32 3 (pc' := 212) (l' := [(6, .long ((L y 8) + (L d 2))), (5, .ref d), (4, .ref y), (0, .ref 10), (1, .int (vl_I k)), (2, .ref d), (3, .ref y)]) (st' := [.int (lg_cmp ((L y 8) + (L d 2)) (536870912 : Int64))]) rfl Kz) ?_
                refine jv_Wp.cnd jv_i32 (pt := 217) (pe := 215) (p := ((lg_cmp ((L y 8) + (L d 2)) (536870912 : Int64)) ≤ 0)) (q := (((L y 8) + (L d 2)) ≤ (536870912 : Int64))) rfl jv_bi_le rfl rfl (lg_cmp_le ((L y 8) + (L d 2)) (536870912 : Int64)) (fun h12 => ?_) (fun h12 => ?_)
                · refine jv_Wp.lift (fun _ Kz => jv_Ev.steps jv_i32 2 (pc' := 220) (l' := [(6, .long ((L y 8) + (L d 2))), (5, .ref d), (4, .ref y), (0, .ref 10), (1, .int (vl_I k)), (2, .ref d), (3, .ref y)]) (st' := [.ref y, .ref d]) rfl Kz) ?_
                  refine jv_Wp.lift (fun _ Kz => jv_Ev.m jv_i32 (pc' := 223) (st' := [.int (I y 6), .ref d]) (G' := (jv_H K I L R)) rfl rfl (jv_m_getI hy rfl rfl rfl) Kz) ?_
                  refine jv_Wp.lift (fun _ Kz => jv_Ev.steps jv_i32 2 (pc' := 226) (l' := [(6, .long ((L y 8) + (L d 2))), (5, .ref d), (4, .ref y), (0, .ref 10), (1, .int (vl_I k)), (2, .ref d), (3, .ref y)]) (st' := [.long ((L y 8) + (L d 2)), .int (0 : Int32), .int (I y 6), .ref d]) rfl Kz) ?_
                  obtain ⟨I3, L3, H3, T3, O3, F3⟩ := vc_bec (I := I) (L := L) (R := R) (n := n) (sl := sl) (I y 6) (0 : Int32) ((L y 8) + (L d 2)) hd (by rw [h6]; exact Or.inr (Or.inr (Or.inl ⟨Or.inl rfl, rfl, rfl⟩)))
                  refine jv_Wp.lift (fun _ Kz => jv_Ev.c jv_i32 (pc' := 229) (S' := []) (G1 := (jv_H K I3 L3 R)) jv_i140 [.ref d, .int (I y 6), .int (0 : Int32), .long ((L y 8) + (L d 2))] rfl rfl rfl rfl (jv_cal rfl (jv_H_at hd) rfl rfl) rfl H3 rfl rfl Kz) ?_
                  refine jv_Wp.lift (fun _ Kz => jv_Ev.steps jv_i32 1 (pc' := 230) (l' := [(6, .long ((L y 8) + (L d 2))), (5, .ref d), (4, .ref y), (0, .ref 10), (1, .int (vl_I k)), (2, .ref d), (3, .ref y)]) (st' := [.int (0 : Int32)]) rfl Kz) ?_
                  refine jv_Wp.of (jv_Ev.ret jv_i32 rfl rfl) ?_
                  rw [hQ]
                  have c1 : ¬ ((vc_T I L d).sort ≠ 1 ∨ (k = 1 ∧ True)) := fun z => z.elim (fun z => z ((vc_is1 od).mpr hA)) (fun z => h1 (by rw [z.1]; rfl))
                  have xv : (vc_T I L d).val = vl_S L d := vc_valv (Or.inl hA)
                  have c2 : ¬ ((vc_T I L y).sort = 4 ∨ (vc_T I L y).sort = 7) := fun z => z.elim (fun z => h2 ((vc_is4 oy).mp z)) (fun z => h5 ((vc_is7 oy).mp z))
                  have es : (vl_S L d).low = (vl_S L d).high := Classical.byContradiction (fun z => h7 (by rw [decide_eq_false z]; rfl))
                  have bs : (vc_T I L y).sort = 2 := (vc_is2 oy).mpr h6
                  have c3 : ¬ (((vc_T I L y).sort ≠ 2 ∧ (vc_T I L y).sort ≠ 3) ∨ (vc_T I L d).val.low ≠ (vc_T I L d).val.high) := by rw [xv, bs]; exact fun z => z.elim (fun z => z.1 rfl) (fun z => z es)
                  have bd : (vc_T I L y).det = (L y 8).toInt := vc_detk (Or.inl h6)
                  have far := hfar (Or.inl h6)
                  have W := vx_wrap (n := k) (L y 8) (L d 2) far ((L y 8) + (L d 2)) (if_pos (show k = 0 from ((vl_I_inj (by omega) (by decide)).mp (Classical.not_not.mp h8)))).symm
                  rw [show (L d 2).toInt = (vc_T I L d).val.low.toInt from by rw [xv]; rfl, ← bd] at W
                  have c4 : ¬ (vx_mvc k (vc_T I L y).det (vc_T I L d).val.low.toInt < -vx_far ∨ vx_far < vx_mvc k (vc_T I L y).det (vc_T I L d).val.low.toInt) := fun z => (W.1.mpr z).elim (fun z => h11 (Int64.lt_iff_toInt_lt.mpr z)) (fun z => Int.not_le.mpr z (Int64.le_iff_toInt_le.mp h12))
                  have e : vx_move k (vc_T I L d) (vc_T I L y) = (0, ((vc_T I L y).sort, vx_mvc k (vc_T I L y).det (vc_T I L d).val.low.toInt, -1, vb_any)) := mv.trans (vx_mv6 c1 c2 c3 c4)
                  refine ⟨_, _, by rw [e]; rfl, fun _ => ⟨?_, O3⟩, fun p hp => F3 p (fun z => hp (Or.inl z))⟩
                  rw [T3, e, bs, ← W.2 c4, h6]
                  rfl
                · refine jv_Wp.lift (fun _ Kz => jv_Ev.steps jv_i32 1 (pc' := 216) (l' := [(6, .long ((L y 8) + (L d 2))), (5, .ref d), (4, .ref y), (0, .ref 10), (1, .int (vl_I k)), (2, .ref d), (3, .ref y)]) (st' := [.int (2 : Int32)]) rfl Kz) ?_
                  refine jv_Wp.of (jv_Ev.ret jv_i32 rfl rfl) ?_
                  rw [hQ]
                  have c1 : ¬ ((vc_T I L d).sort ≠ 1 ∨ (k = 1 ∧ True)) := fun z => z.elim (fun z => z ((vc_is1 od).mpr hA)) (fun z => h1 (by rw [z.1]; rfl))
                  have xv : (vc_T I L d).val = vl_S L d := vc_valv (Or.inl hA)
                  have c2 : ¬ ((vc_T I L y).sort = 4 ∨ (vc_T I L y).sort = 7) := fun z => z.elim (fun z => h2 ((vc_is4 oy).mp z)) (fun z => h5 ((vc_is7 oy).mp z))
                  have es : (vl_S L d).low = (vl_S L d).high := Classical.byContradiction (fun z => h7 (by rw [decide_eq_false z]; rfl))
                  have bs : (vc_T I L y).sort = 2 := (vc_is2 oy).mpr h6
                  have c3 : ¬ (((vc_T I L y).sort ≠ 2 ∧ (vc_T I L y).sort ≠ 3) ∨ (vc_T I L d).val.low ≠ (vc_T I L d).val.high) := by rw [xv, bs]; exact fun z => z.elim (fun z => z.1 rfl) (fun z => z es)
                  have bd : (vc_T I L y).det = (L y 8).toInt := vc_detk (Or.inl h6)
                  have far := hfar (Or.inl h6)
                  have W := vx_wrap (n := k) (L y 8) (L d 2) far ((L y 8) + (L d 2)) (if_pos (show k = 0 from ((vl_I_inj (by omega) (by decide)).mp (Classical.not_not.mp h8)))).symm
                  rw [show (L d 2).toInt = (vc_T I L d).val.low.toInt from by rw [xv]; rfl, ← bd] at W
                  have e : vx_move k (vc_T I L d) (vc_T I L y) = (2, (vc_T I L d)) := mv.trans (vx_mv5 c1 c2 c3 (W.1.mp (Or.inr (Int.not_le.mp ((not_congr Int64.le_iff_toInt_le).mp h12)))))
                  exact ⟨I, L, by rw [e]; rfl, fun z => by rw [e] at z; exact absurd (show (2 : Nat) = 0 from z) (by decide), vc_fr_refl _ _⟩
          · refine jv_Wp.lift (fun _ Kz => jv_Ev.steps jv_i32 1 (pc' := 165) (l' := [(5, .ref d), (4, .ref y), (0, .ref 10), (1, .int (vl_I k)), (2, .ref d), (3, .ref y)]) (st' := [.int (2 : Int32)]) rfl Kz) ?_
            refine jv_Wp.of (jv_Ev.ret jv_i32 rfl rfl) ?_
            rw [hQ]
            have c1 : ¬ ((vc_T I L d).sort ≠ 1 ∨ (k = 1 ∧ True)) := fun z => z.elim (fun z => z ((vc_is1 od).mpr hA)) (fun z => h1 (by rw [z.1]; rfl))
            have xv : (vc_T I L d).val = vl_S L d := vc_valv (Or.inl hA)
            have c2 : ¬ ((vc_T I L y).sort = 4 ∨ (vc_T I L y).sort = 7) := fun z => z.elim (fun z => h2 ((vc_is4 oy).mp z)) (fun z => h5 ((vc_is7 oy).mp z))
            have ns : (vl_S L d).low ≠ (vl_S L d).high := fun z => by have q := (Classical.not_not.mp h7); rw [decide_eq_true z] at q; exact absurd q (by decide)
            have e : vx_move k (vc_T I L d) (vc_T I L y) = (2, (vc_T I L d)) := mv.trans (vx_mv4 c1 c2 (Or.inr (by rw [xv]; exact ns)))
            exact ⟨I, L, by rw [e]; rfl, fun z => by rw [e] at z; exact absurd (show (2 : Nat) = 0 from z) (by decide), vc_fr_refl _ _⟩
        · refine jv_Wp.lift (fun _ Kz => jv_Ev.steps jv_i32 1 (pc' := 149) (l' := [(5, .ref d), (4, .ref y), (0, .ref 10), (1, .int (vl_I k)), (2, .ref d), (3, .ref y)]) (st' := [.ref y]) rfl Kz) ?_
          refine jv_Wp.lift (fun _ Kz => jv_Ev.m jv_i32 (pc' := 152) (st' := [.int (I y 6)]) (G' := (jv_H K I L R)) rfl rfl (jv_m_getI hy rfl rfl rfl) Kz) ?_
          refine jv_Wp.lift (fun _ Kz => jv_Ev.steps jv_i32 1 (pc' := 153) (l' := [(5, .ref d), (4, .ref y), (0, .ref 10), (1, .int (vl_I k)), (2, .ref d), (3, .ref y)]) (st' := [.int (3 : Int32), .int (I y 6)]) rfl Kz) ?_
          refine jv_Wp.cnd jv_i32 (pt := 164) (pe := 156) (p := (¬ (I y 6) = (3 : Int32))) (q := (¬ (I y 6) = (3 : Int32))) rfl jv_bc_ne rfl rfl Iff.rfl (fun h13 => ?_) (fun h13 => ?_)
          · refine jv_Wp.lift (fun _ Kz => jv_Ev.steps jv_i32 1 (pc' := 165) (l' := [(5, .ref d), (4, .ref y), (0, .ref 10), (1, .int (vl_I k)), (2, .ref d), (3, .ref y)]) (st' := [.int (2 : Int32)]) rfl Kz) ?_
            refine jv_Wp.of (jv_Ev.ret jv_i32 rfl rfl) ?_
            rw [hQ]
            have c1 : ¬ ((vc_T I L d).sort ≠ 1 ∨ (k = 1 ∧ True)) := fun z => z.elim (fun z => z ((vc_is1 od).mpr hA)) (fun z => h1 (by rw [z.1]; rfl))
            have xv : (vc_T I L d).val = vl_S L d := vc_valv (Or.inl hA)
            have c2 : ¬ ((vc_T I L y).sort = 4 ∨ (vc_T I L y).sort = 7) := fun z => z.elim (fun z => h2 ((vc_is4 oy).mp z)) (fun z => h5 ((vc_is7 oy).mp z))
            have e : vx_move k (vc_T I L d) (vc_T I L y) = (2, (vc_T I L d)) := mv.trans (vx_mv4 c1 c2 (Or.inl ⟨fun z => h6 ((vc_is2 oy).mp z), fun z => h13 ((vc_is3 oy).mp z)⟩))
            exact ⟨I, L, by rw [e]; rfl, fun z => by rw [e] at z; exact absurd (show (2 : Nat) = 0 from z) (by decide), vc_fr_refl _ _⟩
          · refine jv_Wp.lift (fun _ Kz => jv_Ev.steps jv_i32 1 (pc' := 158) (l' := [(5, .ref d), (4, .ref y), (0, .ref 10), (1, .int (vl_I k)), (2, .ref d), (3, .ref y)]) (st' := [.ref d]) rfl Kz) ?_
            refine jv_Wp.lift (fun _ Kz => jv_Ev.c jv_i32 (pc' := 161) (S' := [.int (vr_b (decide ((vl_S L d).low = (vl_S L d).high)))]) jv_i153 [.ref d] rfl rfl rfl rfl (jv_cal rfl (jv_H_at hd) rfl rfl) rfl (vl_single (Or.inr hd)) rfl rfl Kz) ?_
            refine jv_Wp.cnd jv_i32 (pt := 166) (pe := 164) (p := (¬ (vr_b (decide ((vl_S L d).low = (vl_S L d).high))) = 0)) (q := (¬ (vr_b (decide ((vl_S L d).low = (vl_S L d).high))) = 0)) rfl jv_bi_ne rfl rfl Iff.rfl (fun h14 => ?_) (fun h14 => ?_)
            · refine jv_Wp.lift (fun _ Kz => jv_Ev.steps jv_i32 1 (pc' := 167) (l' := [(5, .ref d), (4, .ref y), (0, .ref 10), (1, .int (vl_I k)), (2, .ref d), (3, .ref y)]) (st' := [.int (vl_I k)]) rfl Kz) ?_
              refine jv_Wp.cnd jv_i32 (pt := 184) (pe := 170) (p := (¬ (vl_I k) = 0)) (q := (¬ (vl_I k) = 0)) rfl jv_bi_ne rfl rfl Iff.rfl (fun h15 => ?_) (fun h15 => ?_)
              · refine jv_Wp.lift (fun _ Kz => jv_Ev.steps jv_i32 1 (pc' := 186) (l' := [(5, .ref d), (4, .ref y), (0, .ref 10), (1, .int (vl_I k)), (2, .ref d), (3, .ref y)]) (st' := [.ref y]) rfl Kz) ?_
                refine jv_Wp.lift (fun _ Kz => jv_Ev.m jv_i32 (pc' := 189) (st' := [.long (L y 8)]) (G' := (jv_H K I L R)) rfl rfl (jv_m_getL hy rfl rfl rfl) Kz) ?_
                refine jv_Wp.lift (fun _ Kz => jv_Ev.steps jv_i32 1 (pc' := 191) (l' := [(5, .ref d), (4, .ref y), (0, .ref 10), (1, .int (vl_I k)), (2, .ref d), (3, .ref y)]) (st' := [.ref d, .long (L y 8)]) rfl Kz) ?_
                refine jv_Wp.lift (fun _ Kz => jv_Ev.m jv_i32 (pc' := 194) (st' := [.long (L d 2), .long (L y 8)]) (G' := (jv_H K I L R)) rfl rfl (jv_m_getL hd rfl rfl rfl) Kz) ?_
                refine jv_Wp.lift (fun _ Kz => jv_Ev.steps jv_i32 5 (pc' := 203) (l' := [(6, .long ((L y 8) - (L d 2))), (5, .ref d), (4, .ref y), (0, .ref 10), (1, .int (vl_I k)), (2, .ref d), (3, .ref y)]) (st' := [.int (lg_cmp ((L y 8) - (L d 2)) (-536870912 : Int64))]) rfl Kz) ?_
                refine jv_Wp.cnd jv_i32 (pt := 215) (pe := 206) (p := ((lg_cmp ((L y 8) - (L d 2)) (-536870912 : Int64)) < 0)) (q := (((L y 8) - (L d 2)) < (-536870912 : Int64))) rfl jv_bi_lt rfl rfl (lg_cmp_lt ((L y 8) - (L d 2)) (-536870912 : Int64)) (fun h16 => ?_) (fun h16 => ?_)
                · refine jv_Wp.lift (fun _ Kz => jv_Ev.steps jv_i32 1 (pc' := 216) (l' := [(6, .long ((L y 8) - (L d 2))), (5, .ref d), (4, .ref y), (0, .ref 10), (1, .int (vl_I k)), (2, .ref d), (3, .ref y)]) (st' := [.int (2 : Int32)]) rfl Kz) ?_
                  refine jv_Wp.of (jv_Ev.ret jv_i32 rfl rfl) ?_
                  rw [hQ]
                  have c1 : ¬ ((vc_T I L d).sort ≠ 1 ∨ (k = 1 ∧ True)) := fun z => z.elim (fun z => z ((vc_is1 od).mpr hA)) (fun z => h1 (by rw [z.1]; rfl))
                  have xv : (vc_T I L d).val = vl_S L d := vc_valv (Or.inl hA)
                  have c2 : ¬ ((vc_T I L y).sort = 4 ∨ (vc_T I L y).sort = 7) := fun z => z.elim (fun z => h2 ((vc_is4 oy).mp z)) (fun z => h5 ((vc_is7 oy).mp z))
                  have es : (vl_S L d).low = (vl_S L d).high := Classical.byContradiction (fun z => h14 (by rw [decide_eq_false z]; rfl))
                  have bs : (vc_T I L y).sort = 3 := (vc_is3 oy).mpr (Classical.not_not.mp h13)
                  have c3 : ¬ (((vc_T I L y).sort ≠ 2 ∧ (vc_T I L y).sort ≠ 3) ∨ (vc_T I L d).val.low ≠ (vc_T I L d).val.high) := by rw [xv, bs]; exact fun z => z.elim (fun z => z.2 rfl) (fun z => z es)
                  have bd : (vc_T I L y).det = (L y 8).toInt := vc_detk (Or.inr (Classical.not_not.mp h13))
                  have far := hfar (Or.inr (Classical.not_not.mp h13))
                  have W := vx_wrap (n := k) (L y 8) (L d 2) far ((L y 8) - (L d 2)) (if_neg (show ¬ k = 0 from fun z => h15 (by rw [z]; rfl))).symm
                  rw [show (L d 2).toInt = (vc_T I L d).val.low.toInt from by rw [xv]; rfl, ← bd] at W
                  have e : vx_move k (vc_T I L d) (vc_T I L y) = (2, (vc_T I L d)) := mv.trans (vx_mv5 c1 c2 c3 (W.1.mp (Or.inl (Int64.lt_iff_toInt_lt.mp h16))))
                  exact ⟨I, L, by rw [e]; rfl, fun z => by rw [e] at z; exact absurd (show (2 : Nat) = 0 from z) (by decide), vc_fr_refl _ _⟩
                · refine jv_Wp.lift (fun _ Kz => jv_Ev.steps jv_i32 3 (pc' := 212) (l' := [(6, .long ((L y 8) - (L d 2))), (5, .ref d), (4, .ref y), (0, .ref 10), (1, .int (vl_I k)), (2, .ref d), (3, .ref y)]) (st' := [.int (lg_cmp ((L y 8) - (L d 2)) (536870912 : Int64))]) rfl Kz) ?_
                  refine jv_Wp.cnd jv_i32 (pt := 217) (pe := 215) (p := ((lg_cmp ((L y 8) - (L d 2)) (536870912 : Int64)) ≤ 0)) (q := (((L y 8) - (L d 2)) ≤ (536870912 : Int64))) rfl jv_bi_le rfl rfl (lg_cmp_le ((L y 8) - (L d 2)) (536870912 : Int64)) (fun h17 => ?_) (fun h17 => ?_)
                  · refine jv_Wp.lift (fun _ Kz => jv_Ev.steps jv_i32 2 (pc' := 220) (l' := [(6, .long ((L y 8) - (L d 2))), (5, .ref d), (4, .ref y), (0, .ref 10), (1, .int (vl_I k)), (2, .ref d), (3, .ref y)]) (st' := [.ref y, .ref d]) rfl Kz) ?_
                    refine jv_Wp.lift (fun _ Kz => jv_Ev.m jv_i32 (pc' := 223) (st' := [.int (I y 6), .ref d]) (G' := (jv_H K I L R)) rfl rfl (jv_m_getI hy rfl rfl rfl) Kz) ?_
                    refine jv_Wp.lift (fun _ Kz => jv_Ev.steps jv_i32 2 (pc' := 226) (l' := [(6, .long ((L y 8) - (L d 2))), (5, .ref d), (4, .ref y), (0, .ref 10), (1, .int (vl_I k)), (2, .ref d), (3, .ref y)]) (st' := [.long ((L y 8) - (L d 2)), .int (0 : Int32), .int (I y 6), .ref d]) rfl Kz) ?_
                    obtain ⟨I4, L4, H4, T4, O4, F4⟩ := vc_bec (I := I) (L := L) (R := R) (n := n) (sl := sl) (I y 6) (0 : Int32) ((L y 8) - (L d 2)) hd (by rw [(Classical.not_not.mp h13)]; exact Or.inr (Or.inr (Or.inl ⟨Or.inr rfl, rfl, rfl⟩)))
                    refine jv_Wp.lift (fun _ Kz => jv_Ev.c jv_i32 (pc' := 229) (S' := []) (G1 := (jv_H K I4 L4 R)) jv_i140 [.ref d, .int (I y 6), .int (0 : Int32), .long ((L y 8) - (L d 2))] rfl rfl rfl rfl (jv_cal rfl (jv_H_at hd) rfl rfl) rfl H4 rfl rfl Kz) ?_
                    refine jv_Wp.lift (fun _ Kz => jv_Ev.steps jv_i32 1 (pc' := 230) (l' := [(6, .long ((L y 8) - (L d 2))), (5, .ref d), (4, .ref y), (0, .ref 10), (1, .int (vl_I k)), (2, .ref d), (3, .ref y)]) (st' := [.int (0 : Int32)]) rfl Kz) ?_
                    refine jv_Wp.of (jv_Ev.ret jv_i32 rfl rfl) ?_
                    rw [hQ]
                    have c1 : ¬ ((vc_T I L d).sort ≠ 1 ∨ (k = 1 ∧ True)) := fun z => z.elim (fun z => z ((vc_is1 od).mpr hA)) (fun z => h1 (by rw [z.1]; rfl))
                    have xv : (vc_T I L d).val = vl_S L d := vc_valv (Or.inl hA)
                    have c2 : ¬ ((vc_T I L y).sort = 4 ∨ (vc_T I L y).sort = 7) := fun z => z.elim (fun z => h2 ((vc_is4 oy).mp z)) (fun z => h5 ((vc_is7 oy).mp z))
                    have es : (vl_S L d).low = (vl_S L d).high := Classical.byContradiction (fun z => h14 (by rw [decide_eq_false z]; rfl))
                    have bs : (vc_T I L y).sort = 3 := (vc_is3 oy).mpr (Classical.not_not.mp h13)
                    have c3 : ¬ (((vc_T I L y).sort ≠ 2 ∧ (vc_T I L y).sort ≠ 3) ∨ (vc_T I L d).val.low ≠ (vc_T I L d).val.high) := by rw [xv, bs]; exact fun z => z.elim (fun z => z.2 rfl) (fun z => z es)
                    have bd : (vc_T I L y).det = (L y 8).toInt := vc_detk (Or.inr (Classical.not_not.mp h13))
                    have far := hfar (Or.inr (Classical.not_not.mp h13))
                    have W := vx_wrap (n := k) (L y 8) (L d 2) far ((L y 8) - (L d 2)) (if_neg (show ¬ k = 0 from fun z => h15 (by rw [z]; rfl))).symm
                    rw [show (L d 2).toInt = (vc_T I L d).val.low.toInt from by rw [xv]; rfl, ← bd] at W
                    have c4 : ¬ (vx_mvc k (vc_T I L y).det (vc_T I L d).val.low.toInt < -vx_far ∨ vx_far < vx_mvc k (vc_T I L y).det (vc_T I L d).val.low.toInt) := fun z => (W.1.mpr z).elim (fun z => h16 (Int64.lt_iff_toInt_lt.mpr z)) (fun z => Int.not_le.mpr z (Int64.le_iff_toInt_le.mp h17))
                    have e : vx_move k (vc_T I L d) (vc_T I L y) = (0, ((vc_T I L y).sort, vx_mvc k (vc_T I L y).det (vc_T I L d).val.low.toInt, -1, vb_any)) := mv.trans (vx_mv6 c1 c2 c3 c4)
                    refine ⟨_, _, by rw [e]; rfl, fun _ => ⟨?_, O4⟩, fun p hp => F4 p (fun z => hp (Or.inl z))⟩
                    rw [T4, e, bs, ← W.2 c4, (Classical.not_not.mp h13)]
                    rfl
                  · refine jv_Wp.lift (fun _ Kz => jv_Ev.steps jv_i32 1 (pc' := 216) (l' := [(6, .long ((L y 8) - (L d 2))), (5, .ref d), (4, .ref y), (0, .ref 10), (1, .int (vl_I k)), (2, .ref d), (3, .ref y)]) (st' := [.int (2 : Int32)]) rfl Kz) ?_
                    refine jv_Wp.of (jv_Ev.ret jv_i32 rfl rfl) ?_
                    rw [hQ]
                    have c1 : ¬ ((vc_T I L d).sort ≠ 1 ∨ (k = 1 ∧ True)) := fun z => z.elim (fun z => z ((vc_is1 od).mpr hA)) (fun z => h1 (by rw [z.1]; rfl))
                    have xv : (vc_T I L d).val = vl_S L d := vc_valv (Or.inl hA)
                    have c2 : ¬ ((vc_T I L y).sort = 4 ∨ (vc_T I L y).sort = 7) := fun z => z.elim (fun z => h2 ((vc_is4 oy).mp z)) (fun z => h5 ((vc_is7 oy).mp z))
                    have es : (vl_S L d).low = (vl_S L d).high := Classical.byContradiction (fun z => h14 (by rw [decide_eq_false z]; rfl))
                    have bs : (vc_T I L y).sort = 3 := (vc_is3 oy).mpr (Classical.not_not.mp h13)
                    have c3 : ¬ (((vc_T I L y).sort ≠ 2 ∧ (vc_T I L y).sort ≠ 3) ∨ (vc_T I L d).val.low ≠ (vc_T I L d).val.high) := by rw [xv, bs]; exact fun z => z.elim (fun z => z.2 rfl) (fun z => z es)
                    have bd : (vc_T I L y).det = (L y 8).toInt := vc_detk (Or.inr (Classical.not_not.mp h13))
                    have far := hfar (Or.inr (Classical.not_not.mp h13))
                    have W := vx_wrap (n := k) (L y 8) (L d 2) far ((L y 8) - (L d 2)) (if_neg (show ¬ k = 0 from fun z => h15 (by rw [z]; rfl))).symm
                    rw [show (L d 2).toInt = (vc_T I L d).val.low.toInt from by rw [xv]; rfl, ← bd] at W
                    have e : vx_move k (vc_T I L d) (vc_T I L y) = (2, (vc_T I L d)) := mv.trans (vx_mv5 c1 c2 c3 (W.1.mp (Or.inr (Int.not_le.mp ((not_congr Int64.le_iff_toInt_le).mp h17)))))
                    exact ⟨I, L, by rw [e]; rfl, fun z => by rw [e] at z; exact absurd (show (2 : Nat) = 0 from z) (by decide), vc_fr_refl _ _⟩
              · refine jv_Wp.lift (fun _ Kz => jv_Ev.steps jv_i32 1 (pc' := 172) (l' := [(5, .ref d), (4, .ref y), (0, .ref 10), (1, .int (vl_I k)), (2, .ref d), (3, .ref y)]) (st' := [.ref y]) rfl Kz) ?_
                refine jv_Wp.lift (fun _ Kz => jv_Ev.m jv_i32 (pc' := 175) (st' := [.long (L y 8)]) (G' := (jv_H K I L R)) rfl rfl (jv_m_getL hy rfl rfl rfl) Kz) ?_
                refine jv_Wp.lift (fun _ Kz => jv_Ev.steps jv_i32 1 (pc' := 177) (l' := [(5, .ref d), (4, .ref y), (0, .ref 10), (1, .int (vl_I k)), (2, .ref d), (3, .ref y)]) (st' := [.ref d, .long (L y 8)]) rfl Kz) ?_
                refine jv_Wp.lift (fun _ Kz => jv_Ev.m jv_i32 (pc' := 180) (st' := [.long (L d 2), .long (L y 8)]) (G' := (jv_H K I L R)) rfl rfl (jv_m_getL hd rfl rfl rfl) Kz) ?_
                refine jv_Wp.lift (fun _ Kz => jv_Ev.steps jv_i32 6 (pc' := 203) (l' := [(6, .long ((L y 8) + (L d 2))), (5, .ref d), (4, .ref y), (0, .ref 10), (1, .int (vl_I k)), (2, .ref d), (3, .ref y)]) (st' := [.int (lg_cmp ((L y 8) + (L d 2)) (-536870912 : Int64))]) rfl Kz) ?_
                refine jv_Wp.cnd jv_i32 (pt := 215) (pe := 206) (p := ((lg_cmp ((L y 8) + (L d 2)) (-536870912 : Int64)) < 0)) (q := (((L y 8) + (L d 2)) < (-536870912 : Int64))) rfl jv_bi_lt rfl rfl (lg_cmp_lt ((L y 8) + (L d 2)) (-536870912 : Int64)) (fun h18 => ?_) (fun h18 => ?_)
                · refine jv_Wp.lift (fun _ Kz => jv_Ev.steps jv_i32 1 (pc' := 216) (l' := [(6, .long ((L y 8) + (L d 2))), (5, .ref d), (4, .ref y), (0, .ref 10), (1, .int (vl_I k)), (2, .ref d), (3, .ref y)]) (st' := [.int (2 : Int32)]) rfl Kz) ?_
                  refine jv_Wp.of (jv_Ev.ret jv_i32 rfl rfl) ?_
                  rw [hQ]
                  have c1 : ¬ ((vc_T I L d).sort ≠ 1 ∨ (k = 1 ∧ True)) := fun z => z.elim (fun z => z ((vc_is1 od).mpr hA)) (fun z => h1 (by rw [z.1]; rfl))
                  have xv : (vc_T I L d).val = vl_S L d := vc_valv (Or.inl hA)
                  have c2 : ¬ ((vc_T I L y).sort = 4 ∨ (vc_T I L y).sort = 7) := fun z => z.elim (fun z => h2 ((vc_is4 oy).mp z)) (fun z => h5 ((vc_is7 oy).mp z))
                  have es : (vl_S L d).low = (vl_S L d).high := Classical.byContradiction (fun z => h14 (by rw [decide_eq_false z]; rfl))
                  have bs : (vc_T I L y).sort = 3 := (vc_is3 oy).mpr (Classical.not_not.mp h13)
                  have c3 : ¬ (((vc_T I L y).sort ≠ 2 ∧ (vc_T I L y).sort ≠ 3) ∨ (vc_T I L d).val.low ≠ (vc_T I L d).val.high) := by rw [xv, bs]; exact fun z => z.elim (fun z => z.2 rfl) (fun z => z es)
                  have bd : (vc_T I L y).det = (L y 8).toInt := vc_detk (Or.inr (Classical.not_not.mp h13))
                  have far := hfar (Or.inr (Classical.not_not.mp h13))
                  have W := vx_wrap (n := k) (L y 8) (L d 2) far ((L y 8) + (L d 2)) (if_pos (show k = 0 from ((vl_I_inj (by omega) (by decide)).mp (Classical.not_not.mp h15)))).symm
                  rw [show (L d 2).toInt = (vc_T I L d).val.low.toInt from by rw [xv]; rfl, ← bd] at W
                  have e : vx_move k (vc_T I L d) (vc_T I L y) = (2, (vc_T I L d)) := mv.trans (vx_mv5 c1 c2 c3 (W.1.mp (Or.inl (Int64.lt_iff_toInt_lt.mp h18))))
                  exact ⟨I, L, by rw [e]; rfl, fun z => by rw [e] at z; exact absurd (show (2 : Nat) = 0 from z) (by decide), vc_fr_refl _ _⟩
                · refine jv_Wp.lift (fun _ Kz => jv_Ev.steps jv_i32 3 (pc' := 212) (l' := [(6, .long ((L y 8) + (L d 2))), (5, .ref d), (4, .ref y), (0, .ref 10), (1, .int (vl_I k)), (2, .ref d), (3, .ref y)]) (st' := [.int (lg_cmp ((L y 8) + (L d 2)) (536870912 : Int64))]) rfl Kz) ?_
                  refine jv_Wp.cnd jv_i32 (pt := 217) (pe := 215) (p := ((lg_cmp ((L y 8) + (L d 2)) (536870912 : Int64)) ≤ 0)) (q := (((L y 8) + (L d 2)) ≤ (536870912 : Int64))) rfl jv_bi_le rfl rfl (lg_cmp_le ((L y 8) + (L d 2)) (536870912 : Int64)) (fun h19 => ?_) (fun h19 => ?_)
                  · refine jv_Wp.lift (fun _ Kz => jv_Ev.steps jv_i32 2 (pc' := 220) (l' := [(6, .long ((L y 8) + (L d 2))), (5, .ref d), (4, .ref y), (0, .ref 10), (1, .int (vl_I k)), (2, .ref d), (3, .ref y)]) (st' := [.ref y, .ref d]) rfl Kz) ?_
                    refine jv_Wp.lift (fun _ Kz => jv_Ev.m jv_i32 (pc' := 223) (st' := [.int (I y 6), .ref d]) (G' := (jv_H K I L R)) rfl rfl (jv_m_getI hy rfl rfl rfl) Kz) ?_
                    refine jv_Wp.lift (fun _ Kz => jv_Ev.steps jv_i32 2 (pc' := 226) (l' := [(6, .long ((L y 8) + (L d 2))), (5, .ref d), (4, .ref y), (0, .ref 10), (1, .int (vl_I k)), (2, .ref d), (3, .ref y)]) (st' := [.long ((L y 8) + (L d 2)), .int (0 : Int32), .int (I y 6), .ref d]) rfl Kz) ?_
                    obtain ⟨I5, L5, H5, T5, O5, F5⟩ := vc_bec (I := I) (L := L) (R := R) (n := n) (sl := sl) (I y 6) (0 : Int32) ((L y 8) + (L d 2)) hd (by rw [(Classical.not_not.mp h13)]; exact Or.inr (Or.inr (Or.inl ⟨Or.inr rfl, rfl, rfl⟩)))
                    refine jv_Wp.lift (fun _ Kz => jv_Ev.c jv_i32 (pc' := 229) (S' := []) (G1 := (jv_H K I5 L5 R)) jv_i140 [.ref d, .int (I y 6), .int (0 : Int32), .long ((L y 8) + (L d 2))] rfl rfl rfl rfl (jv_cal rfl (jv_H_at hd) rfl rfl) rfl H5 rfl rfl Kz) ?_
                    refine jv_Wp.lift (fun _ Kz => jv_Ev.steps jv_i32 1 (pc' := 230) (l' := [(6, .long ((L y 8) + (L d 2))), (5, .ref d), (4, .ref y), (0, .ref 10), (1, .int (vl_I k)), (2, .ref d), (3, .ref y)]) (st' := [.int (0 : Int32)]) rfl Kz) ?_
                    refine jv_Wp.of (jv_Ev.ret jv_i32 rfl rfl) ?_
                    rw [hQ]
                    have c1 : ¬ ((vc_T I L d).sort ≠ 1 ∨ (k = 1 ∧ True)) := fun z => z.elim (fun z => z ((vc_is1 od).mpr hA)) (fun z => h1 (by rw [z.1]; rfl))
                    have xv : (vc_T I L d).val = vl_S L d := vc_valv (Or.inl hA)
                    have c2 : ¬ ((vc_T I L y).sort = 4 ∨ (vc_T I L y).sort = 7) := fun z => z.elim (fun z => h2 ((vc_is4 oy).mp z)) (fun z => h5 ((vc_is7 oy).mp z))
                    have es : (vl_S L d).low = (vl_S L d).high := Classical.byContradiction (fun z => h14 (by rw [decide_eq_false z]; rfl))
                    have bs : (vc_T I L y).sort = 3 := (vc_is3 oy).mpr (Classical.not_not.mp h13)
                    have c3 : ¬ (((vc_T I L y).sort ≠ 2 ∧ (vc_T I L y).sort ≠ 3) ∨ (vc_T I L d).val.low ≠ (vc_T I L d).val.high) := by rw [xv, bs]; exact fun z => z.elim (fun z => z.2 rfl) (fun z => z es)
                    have bd : (vc_T I L y).det = (L y 8).toInt := vc_detk (Or.inr (Classical.not_not.mp h13))
                    have far := hfar (Or.inr (Classical.not_not.mp h13))
                    have W := vx_wrap (n := k) (L y 8) (L d 2) far ((L y 8) + (L d 2)) (if_pos (show k = 0 from ((vl_I_inj (by omega) (by decide)).mp (Classical.not_not.mp h15)))).symm
                    rw [show (L d 2).toInt = (vc_T I L d).val.low.toInt from by rw [xv]; rfl, ← bd] at W
                    have c4 : ¬ (vx_mvc k (vc_T I L y).det (vc_T I L d).val.low.toInt < -vx_far ∨ vx_far < vx_mvc k (vc_T I L y).det (vc_T I L d).val.low.toInt) := fun z => (W.1.mpr z).elim (fun z => h18 (Int64.lt_iff_toInt_lt.mpr z)) (fun z => Int.not_le.mpr z (Int64.le_iff_toInt_le.mp h19))
                    have e : vx_move k (vc_T I L d) (vc_T I L y) = (0, ((vc_T I L y).sort, vx_mvc k (vc_T I L y).det (vc_T I L d).val.low.toInt, -1, vb_any)) := mv.trans (vx_mv6 c1 c2 c3 c4)
                    refine ⟨_, _, by rw [e]; rfl, fun _ => ⟨?_, O5⟩, fun p hp => F5 p (fun z => hp (Or.inl z))⟩
                    rw [T5, e, bs, ← W.2 c4, (Classical.not_not.mp h13)]
                    rfl
                  · refine jv_Wp.lift (fun _ Kz => jv_Ev.steps jv_i32 1 (pc' := 216) (l' := [(6, .long ((L y 8) + (L d 2))), (5, .ref d), (4, .ref y), (0, .ref 10), (1, .int (vl_I k)), (2, .ref d), (3, .ref y)]) (st' := [.int (2 : Int32)]) rfl Kz) ?_
                    refine jv_Wp.of (jv_Ev.ret jv_i32 rfl rfl) ?_
                    rw [hQ]
                    have c1 : ¬ ((vc_T I L d).sort ≠ 1 ∨ (k = 1 ∧ True)) := fun z => z.elim (fun z => z ((vc_is1 od).mpr hA)) (fun z => h1 (by rw [z.1]; rfl))
                    have xv : (vc_T I L d).val = vl_S L d := vc_valv (Or.inl hA)
                    have c2 : ¬ ((vc_T I L y).sort = 4 ∨ (vc_T I L y).sort = 7) := fun z => z.elim (fun z => h2 ((vc_is4 oy).mp z)) (fun z => h5 ((vc_is7 oy).mp z))
                    have es : (vl_S L d).low = (vl_S L d).high := Classical.byContradiction (fun z => h14 (by rw [decide_eq_false z]; rfl))
                    have bs : (vc_T I L y).sort = 3 := (vc_is3 oy).mpr (Classical.not_not.mp h13)
                    have c3 : ¬ (((vc_T I L y).sort ≠ 2 ∧ (vc_T I L y).sort ≠ 3) ∨ (vc_T I L d).val.low ≠ (vc_T I L d).val.high) := by rw [xv, bs]; exact fun z => z.elim (fun z => z.2 rfl) (fun z => z es)
                    have bd : (vc_T I L y).det = (L y 8).toInt := vc_detk (Or.inr (Classical.not_not.mp h13))
                    have far := hfar (Or.inr (Classical.not_not.mp h13))
                    have W := vx_wrap (n := k) (L y 8) (L d 2) far ((L y 8) + (L d 2)) (if_pos (show k = 0 from ((vl_I_inj (by omega) (by decide)).mp (Classical.not_not.mp h15)))).symm
                    rw [show (L d 2).toInt = (vc_T I L d).val.low.toInt from by rw [xv]; rfl, ← bd] at W
                    have e : vx_move k (vc_T I L d) (vc_T I L y) = (2, (vc_T I L d)) := mv.trans (vx_mv5 c1 c2 c3 (W.1.mp (Or.inr (Int.not_le.mp ((not_congr Int64.le_iff_toInt_le).mp h19)))))
                    exact ⟨I, L, by rw [e]; rfl, fun z => by rw [e] at z; exact absurd (show (2 : Nat) = 0 from z) (by decide), vc_fr_refl _ _⟩
            · refine jv_Wp.lift (fun _ Kz => jv_Ev.steps jv_i32 1 (pc' := 165) (l' := [(5, .ref d), (4, .ref y), (0, .ref 10), (1, .int (vl_I k)), (2, .ref d), (3, .ref y)]) (st' := [.int (2 : Int32)]) rfl Kz) ?_
              refine jv_Wp.of (jv_Ev.ret jv_i32 rfl rfl) ?_
              rw [hQ]
              have c1 : ¬ ((vc_T I L d).sort ≠ 1 ∨ (k = 1 ∧ True)) := fun z => z.elim (fun z => z ((vc_is1 od).mpr hA)) (fun z => h1 (by rw [z.1]; rfl))
              have xv : (vc_T I L d).val = vl_S L d := vc_valv (Or.inl hA)
              have c2 : ¬ ((vc_T I L y).sort = 4 ∨ (vc_T I L y).sort = 7) := fun z => z.elim (fun z => h2 ((vc_is4 oy).mp z)) (fun z => h5 ((vc_is7 oy).mp z))
              have ns : (vl_S L d).low ≠ (vl_S L d).high := fun z => by have q := (Classical.not_not.mp h14); rw [decide_eq_true z] at q; exact absurd q (by decide)
              have e : vx_move k (vc_T I L d) (vc_T I L y) = (2, (vc_T I L d)) := mv.trans (vx_mv4 c1 c2 (Or.inr (by rw [xv]; exact ns)))
              exact ⟨I, L, by rw [e]; rfl, fun z => by rw [e] at z; exact absurd (show (2 : Nat) = 0 from z) (by decide), vc_fr_refl _ _⟩
      · refine jv_Wp.lift (fun _ Kz => jv_Ev.steps jv_i32 1 (pc' := 70) (l' := [(5, .ref d), (4, .ref y), (0, .ref 10), (1, .int (vl_I k)), (2, .ref d), (3, .ref y)]) (st' := [.ref 10]) rfl Kz) ?_
        refine jv_Wp.lift (fun _ Kz => jv_Ev.m jv_i32 (pc' := 73) (st' := [.ref 169]) (G' := (jv_H K I L R)) rfl rfl (jv_m_getR hC.k rfl rfl hC.rout) Kz) ?_
        refine jv_Wp.lift (fun _ Kz => jv_Ev.steps jv_i32 4 (pc' := 80) (l' := [(5, .ref d), (4, .ref y), (0, .ref 10), (1, .int (vl_I k)), (2, .ref d), (3, .ref y)]) (st' := [.int (63 : Int32), .ref d, .ref y, .int (vl_I k), .ref 169]) rfl Kz) ?_
        refine jv_Wp.lift (fun _ Kz => jv_Ev.c jv_i32 (pc' := 83) (S' := []) (G1 := (jv_H K I (vl_set L 169 (vb_tt (vb_cOp (vl_I k) (vl_S L y) (vl_S L d) 63))) R)) jv_i158 [.ref 169, .int (vl_I k), .ref y, .ref d, .int (63 : Int32)] rfl rfl rfl rfl (jv_cal rfl (jv_H_at hC.k169) rfl rfl) rfl (vl_operate (top := 63) hC.k169 (Or.inr hy) (Or.inr hd) (Or.inl ⟨rfl, rfl⟩) (vb_tight_le (tx hA)) (hxy 169 (by decide) (by decide)) (hxd 169 (by decide) (by decide))) rfl rfl Kz) ?_
        refine jv_Wp.lift (fun _ Kz => jv_Ev.steps jv_i32 1 (pc' := 84) (l' := [(5, .ref d), (4, .ref y), (0, .ref 10), (1, .int (vl_I k)), (2, .ref d), (3, .ref y)]) (st' := [.ref 10]) rfl Kz) ?_
        refine jv_Wp.lift (fun _ Kz => jv_Ev.m jv_i32 (pc' := 87) (st' := [.ref 169]) (G' := (jv_H K I (vl_set L 169 (vb_tt (vb_cOp (vl_I k) (vl_S L y) (vl_S L d) 63))) R)) rfl rfl (jv_m_getR hC.k rfl rfl hC.rout) Kz) ?_
        refine jv_Wp.lift (fun _ Kz => jv_Ev.m jv_i32 (pc' := 90) (st' := [.long (Int64.ofBitVec ((vb_tt (vb_cOp (vl_I k) (vl_S L y) (vl_S L d) 63))).least)]) (G' := (jv_H K I (vl_set L 169 (vb_tt (vb_cOp (vl_I k) (vl_S L y) (vl_S L d) 63))) R)) rfl rfl (jv_m_getL hC.k169 rfl rfl (vl_rd4 _ _ _)) Kz) ?_
        refine jv_Wp.lift (fun _ Kz => jv_Ev.steps jv_i32 2 (pc' := 94) (l' := [(5, .ref d), (4, .ref y), (0, .ref 10), (1, .int (vl_I k)), (2, .ref d), (3, .ref y)]) (st' := [.int (lg_cmp (Int64.ofBitVec ((vb_tt (vb_cOp (vl_I k) (vl_S L y) (vl_S L d) 63))).least) (-536870912 : Int64))]) rfl Kz) ?_
        refine jv_Wp.cnd jv_i32 (pt := 111) (pe := 97) (p := ((lg_cmp (Int64.ofBitVec ((vb_tt (vb_cOp (vl_I k) (vl_S L y) (vl_S L d) 63))).least) (-536870912 : Int64)) < 0)) (q := ((Int64.ofBitVec ((vb_tt (vb_cOp (vl_I k) (vl_S L y) (vl_S L d) 63))).least) < (-536870912 : Int64))) rfl jv_bi_lt rfl rfl (lg_cmp_lt (Int64.ofBitVec ((vb_tt (vb_cOp (vl_I k) (vl_S L y) (vl_S L d) 63))).least) (-536870912 : Int64)) (fun h20 => ?_) (fun h20 => ?_)
        · refine jv_Wp.lift (fun _ Kz => jv_Ev.steps jv_i32 1 (pc' := 112) (l' := [(5, .ref d), (4, .ref y), (0, .ref 10), (1, .int (vl_I k)), (2, .ref d), (3, .ref y)]) (st' := [.int (2 : Int32)]) rfl Kz) ?_
          refine jv_Wp.of (jv_Ev.ret jv_i32 rfl rfl) ?_
          rw [hQ]
          have c1 : ¬ ((vc_T I L d).sort ≠ 1 ∨ (k = 1 ∧ True)) := fun z => z.elim (fun z => z ((vc_is1 od).mpr hA)) (fun z => h1 (by rw [z.1]; rfl))
          have xv : (vc_T I L d).val = vl_S L d := vc_valv (Or.inl hA)
          have c2 : (vc_T I L y).sort = 4 ∨ (vc_T I L y).sort = 7 := Or.inr ((vc_is7 oy).mpr (Classical.not_not.mp h5))
          have bv : (vc_T I L y).val = vl_S L y := vc_valv (Or.inr (Or.inr (Classical.not_not.mp h5)))
          have c3 : (vx_op k (vc_T I L y).val (vc_T I L d).val 63).least.toInt < -vx_far ∨ vx_far < (vx_op k (vc_T I L y).val (vc_T I L d).val 63).greatest.toInt := Or.inl (by rw [xv, bv]; exact (vx_i64 _ _).mp h20)
          have e : vx_move k (vc_T I L d) (vc_T I L y) = (2, (vc_T I L d)) := mv.trans (vx_mv2 c1 c2 c3)
          exact ⟨I, (vl_set L 169 (vb_tt (vb_cOp (vl_I k) (vl_S L y) (vl_S L d) 63))), by rw [e]; rfl, fun z => by rw [e] at z; exact absurd (show (2 : Nat) = 0 from z) (by decide), fun p hp => ⟨fun _ => rfl, fun f => vl_set_out (fun z => hp (Or.inr (by rw [z.1]; exact ⟨by decide, by decide⟩)))⟩⟩
        · refine jv_Wp.lift (fun _ Kz => jv_Ev.steps jv_i32 1 (pc' := 98) (l' := [(5, .ref d), (4, .ref y), (0, .ref 10), (1, .int (vl_I k)), (2, .ref d), (3, .ref y)]) (st' := [.ref 10]) rfl Kz) ?_
          refine jv_Wp.lift (fun _ Kz => jv_Ev.m jv_i32 (pc' := 101) (st' := [.ref 169]) (G' := (jv_H K I (vl_set L 169 (vb_tt (vb_cOp (vl_I k) (vl_S L y) (vl_S L d) 63))) R)) rfl rfl (jv_m_getR hC.k rfl rfl hC.rout) Kz) ?_
          refine jv_Wp.lift (fun _ Kz => jv_Ev.m jv_i32 (pc' := 104) (st' := [.long (Int64.ofBitVec ((vb_tt (vb_cOp (vl_I k) (vl_S L y) (vl_S L d) 63))).greatest)]) (G' := (jv_H K I (vl_set L 169 (vb_tt (vb_cOp (vl_I k) (vl_S L y) (vl_S L d) 63))) R)) rfl rfl (jv_m_getL hC.k169 rfl rfl (vl_rd5 _ _ _)) Kz) ?_
          refine jv_Wp.lift (fun _ Kz => jv_Ev.steps jv_i32 2 (pc' := 108) (l' := [(5, .ref d), (4, .ref y), (0, .ref 10), (1, .int (vl_I k)), (2, .ref d), (3, .ref y)]) (st' := [.int (lg_cmp (Int64.ofBitVec ((vb_tt (vb_cOp (vl_I k) (vl_S L y) (vl_S L d) 63))).greatest) (536870912 : Int64))]) rfl Kz) ?_
          refine jv_Wp.cnd jv_i32 (pt := 113) (pe := 111) (p := ((lg_cmp (Int64.ofBitVec ((vb_tt (vb_cOp (vl_I k) (vl_S L y) (vl_S L d) 63))).greatest) (536870912 : Int64)) ≤ 0)) (q := ((Int64.ofBitVec ((vb_tt (vb_cOp (vl_I k) (vl_S L y) (vl_S L d) 63))).greatest) ≤ (536870912 : Int64))) rfl jv_bi_le rfl rfl (lg_cmp_le (Int64.ofBitVec ((vb_tt (vb_cOp (vl_I k) (vl_S L y) (vl_S L d) 63))).greatest) (536870912 : Int64)) (fun h21 => ?_) (fun h21 => ?_)
          · refine jv_Wp.lift (fun _ Kz => jv_Ev.steps jv_i32 2 (pc' := 116) (l' := [(5, .ref d), (4, .ref y), (0, .ref 10), (1, .int (vl_I k)), (2, .ref d), (3, .ref y)]) (st' := [.ref y, .ref d]) rfl Kz) ?_
            refine jv_Wp.lift (fun _ Kz => jv_Ev.m jv_i32 (pc' := 119) (st' := [.int (I y 6), .ref d]) (G' := (jv_H K I (vl_set L 169 (vb_tt (vb_cOp (vl_I k) (vl_S L y) (vl_S L d) 63))) R)) rfl rfl (jv_m_getI hy rfl rfl rfl) Kz) ?_
            refine jv_Wp.lift (fun _ Kz => jv_Ev.steps jv_i32 1 (pc' := 121) (l' := [(5, .ref d), (4, .ref y), (0, .ref 10), (1, .int (vl_I k)), (2, .ref d), (3, .ref y)]) (st' := [.ref y, .int (I y 6), .ref d]) rfl Kz) ?_
            refine jv_Wp.lift (fun _ Kz => jv_Ev.m jv_i32 (pc' := 124) (st' := [.int (I y 7), .int (I y 6), .ref d]) (G' := (jv_H K I (vl_set L 169 (vb_tt (vb_cOp (vl_I k) (vl_S L y) (vl_S L d) 63))) R)) rfl rfl (jv_m_getI hy rfl rfl rfl) Kz) ?_
            refine jv_Wp.lift (fun _ Kz => jv_Ev.steps jv_i32 1 (pc' := 125) (l' := [(5, .ref d), (4, .ref y), (0, .ref 10), (1, .int (vl_I k)), (2, .ref d), (3, .ref y)]) (st' := [.long (0 : Int64), .int (I y 7), .int (I y 6), .ref d]) rfl Kz) ?_
            obtain ⟨I6, L6, H6, T6, O6, F6⟩ := vc_bec (I := I) (L := (vl_set L 169 (vb_tt (vb_cOp (vl_I k) (vl_S L y) (vl_S L d) 63)))) (R := R) (n := n) (sl := sl) (I y 6) (I y 7) (0 : Int64) hd (by rw [(Classical.not_not.mp h5)]; exact Or.inr (Or.inr (Or.inr (Or.inl ⟨Or.inr rfl, rfl, rfl⟩))))
            refine jv_Wp.lift (fun _ Kz => jv_Ev.c jv_i32 (pc' := 128) (S' := []) (G1 := (jv_H K I6 L6 R)) jv_i140 [.ref d, .int (I y 6), .int (I y 7), .long (0 : Int64)] rfl rfl rfl rfl (jv_cal rfl (jv_H_at hd) rfl rfl) rfl H6 rfl rfl Kz) ?_
            refine jv_Wp.lift (fun _ Kz => jv_Ev.steps jv_i32 2 (pc' := 130) (l' := [(5, .ref d), (4, .ref y), (0, .ref 10), (1, .int (vl_I k)), (2, .ref d), (3, .ref y)]) (st' := [.ref 10, .ref d]) rfl Kz) ?_
            refine jv_Wp.lift (fun _ Kz => jv_Ev.m jv_i32 (pc' := 133) (st' := [.ref 169, .ref d]) (G' := (jv_H K I6 L6 R)) rfl rfl (jv_m_getR hC.k rfl rfl hC.rout) Kz) ?_
            refine jv_Wp.lift (fun _ Kz => jv_Ev.c jv_i32 (pc' := 136) (S' := []) (G1 := (jv_H K I6 (vl_set L6 d (vl_S L6 169)) R)) jv_i151 [.ref d, .ref 169] rfl rfl rfl rfl (jv_cal rfl (jv_H_at hd) rfl rfl) rfl (vl_sayings2 (Or.inr hd) (Or.inl hC.k169)) rfl rfl Kz) ?_
            refine jv_Wp.lift (fun _ Kz => jv_Ev.steps jv_i32 1 (pc' := 137) (l' := [(5, .ref d), (4, .ref y), (0, .ref 10), (1, .int (vl_I k)), (2, .ref d), (3, .ref y)]) (st' := [.int (0 : Int32)]) rfl Kz) ?_
            refine jv_Wp.of (jv_Ev.ret jv_i32 rfl rfl) ?_
            rw [hQ]
            have c1 : ¬ ((vc_T I L d).sort ≠ 1 ∨ (k = 1 ∧ True)) := fun z => z.elim (fun z => z ((vc_is1 od).mpr hA)) (fun z => h1 (by rw [z.1]; rfl))
            have xv : (vc_T I L d).val = vl_S L d := vc_valv (Or.inl hA)
            have c2 : (vc_T I L y).sort = 4 ∨ (vc_T I L y).sort = 7 := Or.inr ((vc_is7 oy).mpr (Classical.not_not.mp h5))
            have bv : (vc_T I L y).val = vl_S L y := vc_valv (Or.inr (Or.inr (Classical.not_not.mp h5)))
            have c3 : ¬ ((vx_op k (vc_T I L y).val (vc_T I L d).val 63).least.toInt < -vx_far ∨ vx_far < (vx_op k (vc_T I L y).val (vc_T I L d).val 63).greatest.toInt) := by
              rw [xv, bv]; exact fun z => z.elim (fun z => h20 ((vx_i64 _ _).mpr z)) (fun z => Int.not_le.mpr z ((vx_i64l _ _).mp h21))
            have e : vx_move k (vc_T I L d) (vc_T I L y) = (0, ((vc_T I L y).sort, (vc_T I L y).det, -1, (vx_op k (vc_T I L y).val (vc_T I L d).val 63))) := mv.trans (vx_mv3 c1 c2 c3)
            have dd := vc_det47 (L := L) (show I y 6 = 4 ∨ I y 6 = 7 from Or.inr (Classical.not_not.mp h5))
            have ev : vl_S L6 169 = (vx_op k (vc_T I L y).val (vc_T I L d).val 63) := by rw [vl_S_ext (fun f => (F6 169 n169).2 f), vl_set_S, xv, bv]; rfl
            refine ⟨_, _, by rw [e]; rfl, fun _ => ⟨?_, vc_set_ok O6⟩, fun p hp => ⟨fun f => (F6 p (fun z => hp (Or.inl z))).1 f, fun f => (vl_set_out (fun z => hp (Or.inl z.1))).trans (((F6 p (fun z => hp (Or.inl z))).2 f).trans (vl_set_out (fun z => hp (Or.inr (by rw [z.1]; exact ⟨by decide, by decide⟩)))))⟩⟩
            rw [vc_T_v O6 T6 (by rw [(Classical.not_not.mp h5)]; exact Or.inr (Or.inr rfl)), ev, e, dd.1, (Classical.not_not.mp h5)]
            show _ = ((vc_T I L y).sort, _, _, _)
            rw [show (vc_T I L y).sort = 7 from (vc_is7 oy).mpr (Classical.not_not.mp h5)]
            rfl
          · refine jv_Wp.lift (fun _ Kz => jv_Ev.steps jv_i32 1 (pc' := 112) (l' := [(5, .ref d), (4, .ref y), (0, .ref 10), (1, .int (vl_I k)), (2, .ref d), (3, .ref y)]) (st' := [.int (2 : Int32)]) rfl Kz) ?_
            refine jv_Wp.of (jv_Ev.ret jv_i32 rfl rfl) ?_
            rw [hQ]
            have c1 : ¬ ((vc_T I L d).sort ≠ 1 ∨ (k = 1 ∧ True)) := fun z => z.elim (fun z => z ((vc_is1 od).mpr hA)) (fun z => h1 (by rw [z.1]; rfl))
            have xv : (vc_T I L d).val = vl_S L d := vc_valv (Or.inl hA)
            have c2 : (vc_T I L y).sort = 4 ∨ (vc_T I L y).sort = 7 := Or.inr ((vc_is7 oy).mpr (Classical.not_not.mp h5))
            have bv : (vc_T I L y).val = vl_S L y := vc_valv (Or.inr (Or.inr (Classical.not_not.mp h5)))
            have c3 : (vx_op k (vc_T I L y).val (vc_T I L d).val 63).least.toInt < -vx_far ∨ vx_far < (vx_op k (vc_T I L y).val (vc_T I L d).val 63).greatest.toInt := Or.inr (by rw [xv, bv]; have q := (not_congr (vx_i64l _ _)).mp h21; exact Int.not_le.mp q)
            have e : vx_move k (vc_T I L d) (vc_T I L y) = (2, (vc_T I L d)) := mv.trans (vx_mv2 c1 c2 c3)
            exact ⟨I, (vl_set L 169 (vb_tt (vb_cOp (vl_I k) (vl_S L y) (vl_S L d) 63))), by rw [e]; rfl, fun z => by rw [e] at z; exact absurd (show (2 : Nat) = 0 from z) (by decide), fun p hp => ⟨fun _ => rfl, fun f => vl_set_out (fun z => hp (Or.inr (by rw [z.1]; exact ⟨by decide, by decide⟩)))⟩⟩
  · refine jv_Wp.lift (fun _ Kz => jv_Ev.steps jv_i32 2 (pc' := 45) (l' := [(5, .ref d), (4, .ref y), (0, .ref 10), (1, .int (vl_I k)), (2, .ref d), (3, .ref y)]) (st' := [.ref d, .ref y]) rfl Kz) ?_
    refine jv_Wp.cnd jv_i32 (pt := 50) (pe := 48) (p := (y = d)) (q := (y = d)) rfl (jv_ba_eq (by omega) (by omega)) rfl rfl Iff.rfl (fun hz => absurd hz hyd) (fun _ => ?_)
    refine jv_Wp.lift (fun _ Kz => jv_Ev.steps jv_i32 1 (pc' := 49) (l' := [(5, .ref d), (4, .ref y), (0, .ref 10), (1, .int (vl_I k)), (2, .ref d), (3, .ref y)]) (st' := [.int (2 : Int32)]) rfl Kz) ?_
    refine jv_Wp.of (jv_Ev.ret jv_i32 rfl rfl) ?_
    rw [hQ]
    have e : vx_move k (vc_T I L d) (vc_T I L y) = (2, (vc_T I L d)) := mv.trans (vx_mv1 (Or.inr ⟨((vl_I_inj (by omega) (by decide)).mp (Classical.not_not.mp h1)), trivial⟩))
    exact ⟨I, L, by rw [e]; rfl, fun z => by rw [e] at z; exact absurd (show (2 : Nat) = 0 from z) (by decide), vc_fr_refl _ _⟩
theorem vc_moveB {K : Nat → Option (Nat × Nat)} {I : Nat → Nat → Int32} {L : Nat → Nat → Int64} {R : Nat → Nat → Value} (k : Nat) {d y : Nat} (hC : vc_C K R) (hk : k = 0 ∨ k = 1) (hd : K d = some (8, 10)) (hy : K y = some (8, 10)) (hdl : d < 1000000) (hyl : y < 1000000) (hxd : ∀ q, 167 ≤ q → q ≤ 170 → q ≠ d) (hxy : ∀ q, 167 ≤ q → q ≤ 170 → q ≠ y) (od : vc_ok I L d) (oy : vc_ok I L y) (hA : ¬ I d 6 = 1) (tx : I y 6 = 1 → vb_tight (vl_S L y)) (hfar : I d 6 = 2 ∨ I d 6 = 3 → -536870912 ≤ (L d 8).toInt ∧ (L d 8).toInt ≤ 536870912) {n sl : Nat} : ∃ I1 L1, jv_Ms 32 [.ref 10, .int (vl_I k), .ref d, .ref y] (jv_H K I L R) n sl (some (.int (vl_I (vx_move k (vc_T I L d) (vc_T I L y)).1)), jv_H K I1 L1 R, n, sl) ∧ ((vx_move k (vc_T I L d) (vc_T I L y)).1 = 0 → vc_T I1 L1 d = (vx_move k (vc_T I L d) (vc_T I L y)).2 ∧ vc_ok I1 L1 d) ∧ vc_fr (fun p => p = d ∨ vc_sc p) I L I1 L1 := by
  obtain ⟨Q, hQ⟩ : ∃ Q : jv_R → Prop, Q = fun X => ∃ I1 L1, X = (some (.int (vl_I (vx_move k (vc_T I L d) (vc_T I L y)).1)), jv_H K I1 L1 R, n, sl) ∧ ((vx_move k (vc_T I L d) (vc_T I L y)).1 = 0 → vc_T I1 L1 d = (vx_move k (vc_T I L d) (vc_T I L y)).2 ∧ vc_ok I1 L1 d) ∧ vc_fr (fun p => p = d ∨ vc_sc p) I L I1 L1 := ⟨_, rfl⟩
  suffices h : jv_Wp 32 0 [(0, .ref 10), (1, .int (vl_I k)), (2, .ref d), (3, .ref y)] [] (jv_H K I L R) n sl Q by
    rw [hQ] at h
    obtain ⟨X, h, I1, L1, e, h'⟩ := h
    subst e
    exact ⟨I1, L1, h, h'⟩
  have mv : vx_move k (vc_T I L d) (vc_T I L y) = vx_mv k (vc_T I L d) (vc_T I L d) (vc_T I L y) False := vx_mvB (fun z => hA ((vc_is1 od).mp z))
  have n169 : ¬ (169 = d) := hxd 169 (by decide) (by decide)
  refine jv_Wp.lift (fun _ Kz => jv_Ev.steps jv_i32 1 (pc' := 1) (l' := [(0, .ref 10), (1, .int (vl_I k)), (2, .ref d), (3, .ref y)]) (st' := [.ref d]) rfl Kz) ?_
  refine jv_Wp.lift (fun _ Kz => jv_Ev.m jv_i32 (pc' := 4) (st' := [.int (I d 6)]) (G' := (jv_H K I L R)) rfl rfl (jv_m_getI hd rfl rfl rfl) Kz) ?_
  refine jv_Wp.lift (fun _ Kz => jv_Ev.steps jv_i32 1 (pc' := 5) (l' := [(0, .ref 10), (1, .int (vl_I k)), (2, .ref d), (3, .ref y)]) (st' := [.int (1 : Int32), .int (I d 6)]) rfl Kz) ?_
  refine jv_Wp.cnd jv_i32 (pt := 12) (pe := 8) (p := (¬ (I d 6) = (1 : Int32))) (q := (¬ (I d 6) = (1 : Int32))) rfl jv_bc_ne rfl rfl Iff.rfl (fun _ => ?_) (fun hz => absurd hA hz)
  refine jv_Wp.lift (fun _ Kz => jv_Ev.steps jv_i32 4 (pc' := 18) (l' := [(4, .ref d), (0, .ref 10), (1, .int (vl_I k)), (2, .ref d), (3, .ref y)]) (st' := [.ref d, .ref d]) rfl Kz) ?_
  refine jv_Wp.cnd jv_i32 (pt := 25) (pe := 21) (p := (¬ d = d)) (q := (¬ d = d)) rfl (jv_ba_ne (by omega) (by omega)) rfl rfl Iff.rfl (fun hz => absurd hz (fun z => z rfl)) (fun _ => ?_)
  refine jv_Wp.lift (fun _ Kz => jv_Ev.steps jv_i32 4 (pc' := 30) (l' := [(5, .ref y), (4, .ref d), (0, .ref 10), (1, .int (vl_I k)), (2, .ref d), (3, .ref y)]) (st' := [.ref y]) rfl Kz) ?_
  refine jv_Wp.lift (fun _ Kz => jv_Ev.m jv_i32 (pc' := 33) (st' := [.int (I y 6)]) (G' := (jv_H K I L R)) rfl rfl (jv_m_getI hy rfl rfl rfl) Kz) ?_
  refine jv_Wp.lift (fun _ Kz => jv_Ev.steps jv_i32 1 (pc' := 34) (l' := [(5, .ref y), (4, .ref d), (0, .ref 10), (1, .int (vl_I k)), (2, .ref d), (3, .ref y)]) (st' := [.int (1 : Int32), .int (I y 6)]) rfl Kz) ?_
  refine jv_Wp.cnd jv_i32 (pt := 48) (pe := 37) (p := (¬ (I y 6) = (1 : Int32))) (q := (¬ (I y 6) = (1 : Int32))) rfl jv_bc_ne rfl rfl Iff.rfl (fun h1 => ?_) (fun h1 => ?_)
  · refine jv_Wp.lift (fun _ Kz => jv_Ev.steps jv_i32 1 (pc' := 49) (l' := [(5, .ref y), (4, .ref d), (0, .ref 10), (1, .int (vl_I k)), (2, .ref d), (3, .ref y)]) (st' := [.int (2 : Int32)]) rfl Kz) ?_
    refine jv_Wp.of (jv_Ev.ret jv_i32 rfl rfl) ?_
    rw [hQ]
    have e : vx_move k (vc_T I L d) (vc_T I L y) = (2, (vc_T I L d)) := mv.trans (vx_mv1 (Or.inl (fun z => h1 ((vc_is1 oy).mp z))))
    exact ⟨I, L, by rw [e]; rfl, fun z => by rw [e] at z; exact absurd (show (2 : Nat) = 0 from z) (by decide), vc_fr_refl _ _⟩
  · refine jv_Wp.lift (fun _ Kz => jv_Ev.steps jv_i32 2 (pc' := 39) (l' := [(5, .ref y), (4, .ref d), (0, .ref 10), (1, .int (vl_I k)), (2, .ref d), (3, .ref y)]) (st' := [.int (1 : Int32), .int (vl_I k)]) rfl Kz) ?_
    refine jv_Wp.cnd jv_i32 (pt := 50) (pe := 42) (p := (¬ (vl_I k) = (1 : Int32))) (q := (¬ (vl_I k) = (1 : Int32))) rfl jv_bc_ne rfl rfl Iff.rfl (fun h2 => ?_) (fun h2 => ?_)
    · refine jv_Wp.lift (fun _ Kz => jv_Ev.steps jv_i32 1 (pc' := 52) (l' := [(5, .ref y), (4, .ref d), (0, .ref 10), (1, .int (vl_I k)), (2, .ref d), (3, .ref y)]) (st' := [.ref d]) rfl Kz) ?_
      refine jv_Wp.lift (fun _ Kz => jv_Ev.m jv_i32 (pc' := 55) (st' := [.int (I d 6)]) (G' := (jv_H K I L R)) rfl rfl (jv_m_getI hd rfl rfl rfl) Kz) ?_
      refine jv_Wp.lift (fun _ Kz => jv_Ev.steps jv_i32 1 (pc' := 56) (l' := [(5, .ref y), (4, .ref d), (0, .ref 10), (1, .int (vl_I k)), (2, .ref d), (3, .ref y)]) (st' := [.int (4 : Int32), .int (I d 6)]) rfl Kz) ?_
      refine jv_Wp.cnd jv_i32 (pt := 69) (pe := 59) (p := ((I d 6) = (4 : Int32))) (q := ((I d 6) = (4 : Int32))) rfl jv_bc_eq rfl rfl Iff.rfl (fun h3 => ?_) (fun h3 => ?_)
      · refine jv_Wp.lift (fun _ Kz => jv_Ev.steps jv_i32 1 (pc' := 70) (l' := [(5, .ref y), (4, .ref d), (0, .ref 10), (1, .int (vl_I k)), (2, .ref d), (3, .ref y)]) (st' := [.ref 10]) rfl Kz) ?_
        refine jv_Wp.lift (fun _ Kz => jv_Ev.m jv_i32 (pc' := 73) (st' := [.ref 169]) (G' := (jv_H K I L R)) rfl rfl (jv_m_getR hC.k rfl rfl hC.rout) Kz) ?_
        refine jv_Wp.lift (fun _ Kz => jv_Ev.steps jv_i32 4 (pc' := 80) (l' := [(5, .ref y), (4, .ref d), (0, .ref 10), (1, .int (vl_I k)), (2, .ref d), (3, .ref y)]) (st' := [.int (63 : Int32), .ref y, .ref d, .int (vl_I k), .ref 169]) rfl Kz) ?_
        refine jv_Wp.lift (fun _ Kz => jv_Ev.c jv_i32 (pc' := 83) (S' := []) (G1 := (jv_H K I (vl_set L 169 (vb_tt (vb_cOp (vl_I k) (vl_S L d) (vl_S L y) 63))) R)) jv_i158 [.ref 169, .int (vl_I k), .ref d, .ref y, .int (63 : Int32)] rfl rfl rfl rfl (jv_cal rfl (jv_H_at hC.k169) rfl rfl) rfl (vl_operate (top := 63) hC.k169 (Or.inr hd) (Or.inr hy) (Or.inl ⟨rfl, rfl⟩) (vb_tight_le (tx (Classical.not_not.mp h1))) (hxd 169 (by decide) (by decide)) (hxy 169 (by decide) (by decide))) rfl rfl Kz) ?_
        refine jv_Wp.lift (fun _ Kz => jv_Ev.steps jv_i32 1 (pc' := 84) (l' := [(5, .ref y), (4, .ref d), (0, .ref 10), (1, .int (vl_I k)), (2, .ref d), (3, .ref y)]) (st' := [.ref 10]) rfl Kz) ?_
        refine jv_Wp.lift (fun _ Kz => jv_Ev.m jv_i32 (pc' := 87) (st' := [.ref 169]) (G' := (jv_H K I (vl_set L 169 (vb_tt (vb_cOp (vl_I k) (vl_S L d) (vl_S L y) 63))) R)) rfl rfl (jv_m_getR hC.k rfl rfl hC.rout) Kz) ?_
        refine jv_Wp.lift (fun _ Kz => jv_Ev.m jv_i32 (pc' := 90) (st' := [.long (Int64.ofBitVec ((vb_tt (vb_cOp (vl_I k) (vl_S L d) (vl_S L y) 63))).least)]) (G' := (jv_H K I (vl_set L 169 (vb_tt (vb_cOp (vl_I k) (vl_S L d) (vl_S L y) 63))) R)) rfl rfl (jv_m_getL hC.k169 rfl rfl (vl_rd4 _ _ _)) Kz) ?_
        refine jv_Wp.lift (fun _ Kz => jv_Ev.steps jv_i32 2 (pc' := 94) (l' := [(5, .ref y), (4, .ref d), (0, .ref 10), (1, .int (vl_I k)), (2, .ref d), (3, .ref y)]) (st' := [.int (lg_cmp (Int64.ofBitVec ((vb_tt (vb_cOp (vl_I k) (vl_S L d) (vl_S L y) 63))).least) (-536870912 : Int64))]) rfl Kz) ?_
        refine jv_Wp.cnd jv_i32 (pt := 111) (pe := 97) (p := ((lg_cmp (Int64.ofBitVec ((vb_tt (vb_cOp (vl_I k) (vl_S L d) (vl_S L y) 63))).least) (-536870912 : Int64)) < 0)) (q := ((Int64.ofBitVec ((vb_tt (vb_cOp (vl_I k) (vl_S L d) (vl_S L y) 63))).least) < (-536870912 : Int64))) rfl jv_bi_lt rfl rfl (lg_cmp_lt (Int64.ofBitVec ((vb_tt (vb_cOp (vl_I k) (vl_S L d) (vl_S L y) 63))).least) (-536870912 : Int64)) (fun h4 => ?_) (fun h4 => ?_)
        · refine jv_Wp.lift (fun _ Kz => jv_Ev.steps jv_i32 1 (pc' := 112) (l' := [(5, .ref y), (4, .ref d), (0, .ref 10), (1, .int (vl_I k)), (2, .ref d), (3, .ref y)]) (st' := [.int (2 : Int32)]) rfl Kz) ?_
          refine jv_Wp.of (jv_Ev.ret jv_i32 rfl rfl) ?_
          rw [hQ]
          have c1 : ¬ ((vc_T I L y).sort ≠ 1 ∨ (k = 1 ∧ False)) := fun z => z.elim (fun z => z ((vc_is1 oy).mpr (Classical.not_not.mp h1))) (fun z => z.2)
          have xv : (vc_T I L y).val = vl_S L y := vc_valv (Or.inl (Classical.not_not.mp h1))
          have c2 : (vc_T I L d).sort = 4 ∨ (vc_T I L d).sort = 7 := Or.inl ((vc_is4 od).mpr h3)
          have bv : (vc_T I L d).val = vl_S L d := vc_valv (Or.inr (Or.inl h3))
          have c3 : (vx_op k (vc_T I L d).val (vc_T I L y).val 63).least.toInt < -vx_far ∨ vx_far < (vx_op k (vc_T I L d).val (vc_T I L y).val 63).greatest.toInt := Or.inl (by rw [xv, bv]; exact (vx_i64 _ _).mp h4)
          have e : vx_move k (vc_T I L d) (vc_T I L y) = (2, (vc_T I L d)) := mv.trans (vx_mv2 c1 c2 c3)
          exact ⟨I, (vl_set L 169 (vb_tt (vb_cOp (vl_I k) (vl_S L d) (vl_S L y) 63))), by rw [e]; rfl, fun z => by rw [e] at z; exact absurd (show (2 : Nat) = 0 from z) (by decide), fun p hp => ⟨fun _ => rfl, fun f => vl_set_out (fun z => hp (Or.inr (by rw [z.1]; exact ⟨by decide, by decide⟩)))⟩⟩
        · refine jv_Wp.lift (fun _ Kz => jv_Ev.steps jv_i32 1 (pc' := 98) (l' := [(5, .ref y), (4, .ref d), (0, .ref 10), (1, .int (vl_I k)), (2, .ref d), (3, .ref y)]) (st' := [.ref 10]) rfl Kz) ?_
          refine jv_Wp.lift (fun _ Kz => jv_Ev.m jv_i32 (pc' := 101) (st' := [.ref 169]) (G' := (jv_H K I (vl_set L 169 (vb_tt (vb_cOp (vl_I k) (vl_S L d) (vl_S L y) 63))) R)) rfl rfl (jv_m_getR hC.k rfl rfl hC.rout) Kz) ?_
          refine jv_Wp.lift (fun _ Kz => jv_Ev.m jv_i32 (pc' := 104) (st' := [.long (Int64.ofBitVec ((vb_tt (vb_cOp (vl_I k) (vl_S L d) (vl_S L y) 63))).greatest)]) (G' := (jv_H K I (vl_set L 169 (vb_tt (vb_cOp (vl_I k) (vl_S L d) (vl_S L y) 63))) R)) rfl rfl (jv_m_getL hC.k169 rfl rfl (vl_rd5 _ _ _)) Kz) ?_
          refine jv_Wp.lift (fun _ Kz => jv_Ev.steps jv_i32 2 (pc' := 108) (l' := [(5, .ref y), (4, .ref d), (0, .ref 10), (1, .int (vl_I k)), (2, .ref d), (3, .ref y)]) (st' := [.int (lg_cmp (Int64.ofBitVec ((vb_tt (vb_cOp (vl_I k) (vl_S L d) (vl_S L y) 63))).greatest) (536870912 : Int64))]) rfl Kz) ?_
          refine jv_Wp.cnd jv_i32 (pt := 113) (pe := 111) (p := ((lg_cmp (Int64.ofBitVec ((vb_tt (vb_cOp (vl_I k) (vl_S L d) (vl_S L y) 63))).greatest) (536870912 : Int64)) ≤ 0)) (q := ((Int64.ofBitVec ((vb_tt (vb_cOp (vl_I k) (vl_S L d) (vl_S L y) 63))).greatest) ≤ (536870912 : Int64))) rfl jv_bi_le rfl rfl (lg_cmp_le (Int64.ofBitVec ((vb_tt (vb_cOp (vl_I k) (vl_S L d) (vl_S L y) 63))).greatest) (536870912 : Int64)) (fun h5 => ?_) (fun h5 => ?_)
          · refine jv_Wp.lift (fun _ Kz => jv_Ev.steps jv_i32 2 (pc' := 116) (l' := [(5, .ref y), (4, .ref d), (0, .ref 10), (1, .int (vl_I k)), (2, .ref d), (3, .ref y)]) (st' := [.ref d, .ref d]) rfl Kz) ?_
            refine jv_Wp.lift (fun _ Kz => jv_Ev.m jv_i32 (pc' := 119) (st' := [.int (I d 6), .ref d]) (G' := (jv_H K I (vl_set L 169 (vb_tt (vb_cOp (vl_I k) (vl_S L d) (vl_S L y) 63))) R)) rfl rfl (jv_m_getI hd rfl rfl rfl) Kz) ?_
            refine jv_Wp.lift (fun _ Kz => jv_Ev.steps jv_i32 1 (pc' := 121) (l' := [(5, .ref y), (4, .ref d), (0, .ref 10), (1, .int (vl_I k)), (2, .ref d), (3, .ref y)]) (st' := [.ref d, .int (I d 6), .ref d]) rfl Kz) ?_
            refine jv_Wp.lift (fun _ Kz => jv_Ev.m jv_i32 (pc' := 124) (st' := [.int (I d 7), .int (I d 6), .ref d]) (G' := (jv_H K I (vl_set L 169 (vb_tt (vb_cOp (vl_I k) (vl_S L d) (vl_S L y) 63))) R)) rfl rfl (jv_m_getI hd rfl rfl rfl) Kz) ?_
            refine jv_Wp.lift (fun _ Kz => jv_Ev.steps jv_i32 1 (pc' := 125) (l' := [(5, .ref y), (4, .ref d), (0, .ref 10), (1, .int (vl_I k)), (2, .ref d), (3, .ref y)]) (st' := [.long (0 : Int64), .int (I d 7), .int (I d 6), .ref d]) rfl Kz) ?_
            obtain ⟨I7, L7, H7, T7, O7, F7⟩ := vc_bec (I := I) (L := (vl_set L 169 (vb_tt (vb_cOp (vl_I k) (vl_S L d) (vl_S L y) 63)))) (R := R) (n := n) (sl := sl) (I d 6) (I d 7) (0 : Int64) hd (by rw [vc_W_m od (by rw [h3]; decide), h3]; exact Or.inr (Or.inl ⟨Or.inr (Or.inl rfl), rfl, rfl, rfl⟩))
            refine jv_Wp.lift (fun _ Kz => jv_Ev.c jv_i32 (pc' := 128) (S' := []) (G1 := (jv_H K I7 L7 R)) jv_i140 [.ref d, .int (I d 6), .int (I d 7), .long (0 : Int64)] rfl rfl rfl rfl (jv_cal rfl (jv_H_at hd) rfl rfl) rfl H7 rfl rfl Kz) ?_
            refine jv_Wp.lift (fun _ Kz => jv_Ev.steps jv_i32 2 (pc' := 130) (l' := [(5, .ref y), (4, .ref d), (0, .ref 10), (1, .int (vl_I k)), (2, .ref d), (3, .ref y)]) (st' := [.ref 10, .ref d]) rfl Kz) ?_
            refine jv_Wp.lift (fun _ Kz => jv_Ev.m jv_i32 (pc' := 133) (st' := [.ref 169, .ref d]) (G' := (jv_H K I7 L7 R)) rfl rfl (jv_m_getR hC.k rfl rfl hC.rout) Kz) ?_
            refine jv_Wp.lift (fun _ Kz => jv_Ev.c jv_i32 (pc' := 136) (S' := []) (G1 := (jv_H K I7 (vl_set L7 d (vl_S L7 169)) R)) jv_i151 [.ref d, .ref 169] rfl rfl rfl rfl (jv_cal rfl (jv_H_at hd) rfl rfl) rfl (vl_sayings2 (Or.inr hd) (Or.inl hC.k169)) rfl rfl Kz) ?_
            refine jv_Wp.lift (fun _ Kz => jv_Ev.steps jv_i32 1 (pc' := 137) (l' := [(5, .ref y), (4, .ref d), (0, .ref 10), (1, .int (vl_I k)), (2, .ref d), (3, .ref y)]) (st' := [.int (0 : Int32)]) rfl Kz) ?_
            refine jv_Wp.of (jv_Ev.ret jv_i32 rfl rfl) ?_
            rw [hQ]
            have c1 : ¬ ((vc_T I L y).sort ≠ 1 ∨ (k = 1 ∧ False)) := fun z => z.elim (fun z => z ((vc_is1 oy).mpr (Classical.not_not.mp h1))) (fun z => z.2)
            have xv : (vc_T I L y).val = vl_S L y := vc_valv (Or.inl (Classical.not_not.mp h1))
            have c2 : (vc_T I L d).sort = 4 ∨ (vc_T I L d).sort = 7 := Or.inl ((vc_is4 od).mpr h3)
            have bv : (vc_T I L d).val = vl_S L d := vc_valv (Or.inr (Or.inl h3))
            have c3 : ¬ ((vx_op k (vc_T I L d).val (vc_T I L y).val 63).least.toInt < -vx_far ∨ vx_far < (vx_op k (vc_T I L d).val (vc_T I L y).val 63).greatest.toInt) := by
              rw [xv, bv]; exact fun z => z.elim (fun z => h4 ((vx_i64 _ _).mpr z)) (fun z => Int.not_le.mpr z ((vx_i64l _ _).mp h5))
            have e : vx_move k (vc_T I L d) (vc_T I L y) = (0, ((vc_T I L d).sort, (vc_T I L d).det, -1, (vx_op k (vc_T I L d).val (vc_T I L y).val 63))) := mv.trans (vx_mv3 c1 c2 c3)
            have dd := vc_det47 (L := L) (show I d 6 = 4 ∨ I d 6 = 7 from Or.inl h3)
            have ev : vl_S L7 169 = (vx_op k (vc_T I L d).val (vc_T I L y).val 63) := by rw [vl_S_ext (fun f => (F7 169 n169).2 f), vl_set_S, xv, bv]; rfl
            refine ⟨_, _, by rw [e]; rfl, fun _ => ⟨?_, vc_set_ok O7⟩, fun p hp => ⟨fun f => (F7 p (fun z => hp (Or.inl z))).1 f, fun f => (vl_set_out (fun z => hp (Or.inl z.1))).trans (((F7 p (fun z => hp (Or.inl z))).2 f).trans (vl_set_out (fun z => hp (Or.inr (by rw [z.1]; exact ⟨by decide, by decide⟩)))))⟩⟩
            rw [vc_T_v O7 T7 (by rw [h3]; exact Or.inr (Or.inl rfl)), ev, e, dd.1, h3]
            show _ = ((vc_T I L d).sort, _, _, _)
            rw [show (vc_T I L d).sort = 4 from (vc_is4 od).mpr h3]
            rfl
          · refine jv_Wp.lift (fun _ Kz => jv_Ev.steps jv_i32 1 (pc' := 112) (l' := [(5, .ref y), (4, .ref d), (0, .ref 10), (1, .int (vl_I k)), (2, .ref d), (3, .ref y)]) (st' := [.int (2 : Int32)]) rfl Kz) ?_
            refine jv_Wp.of (jv_Ev.ret jv_i32 rfl rfl) ?_
            rw [hQ]
            have c1 : ¬ ((vc_T I L y).sort ≠ 1 ∨ (k = 1 ∧ False)) := fun z => z.elim (fun z => z ((vc_is1 oy).mpr (Classical.not_not.mp h1))) (fun z => z.2)
            have xv : (vc_T I L y).val = vl_S L y := vc_valv (Or.inl (Classical.not_not.mp h1))
            have c2 : (vc_T I L d).sort = 4 ∨ (vc_T I L d).sort = 7 := Or.inl ((vc_is4 od).mpr h3)
            have bv : (vc_T I L d).val = vl_S L d := vc_valv (Or.inr (Or.inl h3))
            have c3 : (vx_op k (vc_T I L d).val (vc_T I L y).val 63).least.toInt < -vx_far ∨ vx_far < (vx_op k (vc_T I L d).val (vc_T I L y).val 63).greatest.toInt := Or.inr (by rw [xv, bv]; have q := (not_congr (vx_i64l _ _)).mp h5; exact Int.not_le.mp q)
            have e : vx_move k (vc_T I L d) (vc_T I L y) = (2, (vc_T I L d)) := mv.trans (vx_mv2 c1 c2 c3)
            exact ⟨I, (vl_set L 169 (vb_tt (vb_cOp (vl_I k) (vl_S L d) (vl_S L y) 63))), by rw [e]; rfl, fun z => by rw [e] at z; exact absurd (show (2 : Nat) = 0 from z) (by decide), fun p hp => ⟨fun _ => rfl, fun f => vl_set_out (fun z => hp (Or.inr (by rw [z.1]; exact ⟨by decide, by decide⟩)))⟩⟩
      · refine jv_Wp.lift (fun _ Kz => jv_Ev.steps jv_i32 1 (pc' := 61) (l' := [(5, .ref y), (4, .ref d), (0, .ref 10), (1, .int (vl_I k)), (2, .ref d), (3, .ref y)]) (st' := [.ref d]) rfl Kz) ?_
        refine jv_Wp.lift (fun _ Kz => jv_Ev.m jv_i32 (pc' := 64) (st' := [.int (I d 6)]) (G' := (jv_H K I L R)) rfl rfl (jv_m_getI hd rfl rfl rfl) Kz) ?_
        refine jv_Wp.lift (fun _ Kz => jv_Ev.steps jv_i32 1 (pc' := 66) (l' := [(5, .ref y), (4, .ref d), (0, .ref 10), (1, .int (vl_I k)), (2, .ref d), (3, .ref y)]) (st' := [.int (7 : Int32), .int (I d 6)]) rfl Kz) ?_
        refine jv_Wp.cnd jv_i32 (pt := 138) (pe := 69) (p := (¬ (I d 6) = (7 : Int32))) (q := (¬ (I d 6) = (7 : Int32))) rfl jv_bc_ne rfl rfl Iff.rfl (fun h6 => ?_) (fun h6 => ?_)
        · refine jv_Wp.lift (fun _ Kz => jv_Ev.steps jv_i32 1 (pc' := 140) (l' := [(5, .ref y), (4, .ref d), (0, .ref 10), (1, .int (vl_I k)), (2, .ref d), (3, .ref y)]) (st' := [.ref d]) rfl Kz) ?_
          refine jv_Wp.lift (fun _ Kz => jv_Ev.m jv_i32 (pc' := 143) (st' := [.int (I d 6)]) (G' := (jv_H K I L R)) rfl rfl (jv_m_getI hd rfl rfl rfl) Kz) ?_
          refine jv_Wp.lift (fun _ Kz => jv_Ev.steps jv_i32 1 (pc' := 144) (l' := [(5, .ref y), (4, .ref d), (0, .ref 10), (1, .int (vl_I k)), (2, .ref d), (3, .ref y)]) (st' := [.int (2 : Int32), .int (I d 6)]) rfl Kz) ?_
          refine jv_Wp.cnd jv_i32 (pt := 156) (pe := 147) (p := ((I d 6) = (2 : Int32))) (q := ((I d 6) = (2 : Int32))) rfl jv_bc_eq rfl rfl Iff.rfl (fun h7 => ?_) (fun h7 => ?_)
          · refine jv_Wp.lift (fun _ Kz => jv_Ev.steps jv_i32 1 (pc' := 158) (l' := [(5, .ref y), (4, .ref d), (0, .ref 10), (1, .int (vl_I k)), (2, .ref d), (3, .ref y)]) (st' := [.ref y]) rfl Kz) ?_
            refine jv_Wp.lift (fun _ Kz => jv_Ev.c jv_i32 (pc' := 161) (S' := [.int (vr_b (decide ((vl_S L y).low = (vl_S L y).high)))]) jv_i153 [.ref y] rfl rfl rfl rfl (jv_cal rfl (jv_H_at hy) rfl rfl) rfl (vl_single (Or.inr hy)) rfl rfl Kz) ?_
            refine jv_Wp.cnd jv_i32 (pt := 166) (pe := 164) (p := (¬ (vr_b (decide ((vl_S L y).low = (vl_S L y).high))) = 0)) (q := (¬ (vr_b (decide ((vl_S L y).low = (vl_S L y).high))) = 0)) rfl jv_bi_ne rfl rfl Iff.rfl (fun h8 => ?_) (fun h8 => ?_)
            · refine jv_Wp.lift (fun _ Kz => jv_Ev.steps jv_i32 1 (pc' := 167) (l' := [(5, .ref y), (4, .ref d), (0, .ref 10), (1, .int (vl_I k)), (2, .ref d), (3, .ref y)]) (st' := [.int (vl_I k)]) rfl Kz) ?_
              refine jv_Wp.cnd jv_i32 (pt := 184) (pe := 170) (p := (¬ (vl_I k) = 0)) (q := (¬ (vl_I k) = 0)) rfl jv_bi_ne rfl rfl Iff.rfl (fun h9 => ?_) (fun h9 => ?_)
              · refine jv_Wp.lift (fun _ Kz => jv_Ev.steps jv_i32 1 (pc' := 186) (l' := [(5, .ref y), (4, .ref d), (0, .ref 10), (1, .int (vl_I k)), (2, .ref d), (3, .ref y)]) (st' := [.ref d]) rfl Kz) ?_
                refine jv_Wp.lift (fun _ Kz => jv_Ev.m jv_i32 (pc' := 189) (st' := [.long (L d 8)]) (G' := (jv_H K I L R)) rfl rfl (jv_m_getL hd rfl rfl rfl) Kz) ?_
                refine jv_Wp.lift (fun _ Kz => jv_Ev.steps jv_i32 1 (pc' := 191) (l' := [(5, .ref y), (4, .ref d), (0, .ref 10), (1, .int (vl_I k)), (2, .ref d), (3, .ref y)]) (st' := [.ref y, .long (L d 8)]) rfl Kz) ?_
                refine jv_Wp.lift (fun _ Kz => jv_Ev.m jv_i32 (pc' := 194) (st' := [.long (L y 2), .long (L d 8)]) (G' := (jv_H K I L R)) rfl rfl (jv_m_getL hy rfl rfl rfl) Kz) ?_
                refine jv_Wp.lift (fun _ Kz => jv_Ev.steps jv_i32 5 (pc' := 203) (l' := [(6, .long ((L d 8) - (L y 2))), (5, .ref y), (4, .ref d), (0, .ref 10), (1, .int (vl_I k)), (2, .ref d), (3, .ref y)]) (st' := [.int (lg_cmp ((L d 8) - (L y 2)) (-536870912 : Int64))]) rfl Kz) ?_
                refine jv_Wp.cnd jv_i32 (pt := 215) (pe := 206) (p := ((lg_cmp ((L d 8) - (L y 2)) (-536870912 : Int64)) < 0)) (q := (((L d 8) - (L y 2)) < (-536870912 : Int64))) rfl jv_bi_lt rfl rfl (lg_cmp_lt ((L d 8) - (L y 2)) (-536870912 : Int64)) (fun h10 => ?_) (fun h10 => ?_)
                · refine jv_Wp.lift (fun _ Kz => jv_Ev.steps jv_i32 1 (pc' := 216) (l' := [(6, .long ((L d 8) - (L y 2))), (5, .ref y), (4, .ref d), (0, .ref 10), (1, .int (vl_I k)), (2, .ref d), (3, .ref y)]) (st' := [.int (2 : Int32)]) rfl Kz) ?_
                  refine jv_Wp.of (jv_Ev.ret jv_i32 rfl rfl) ?_
                  rw [hQ]
                  have c1 : ¬ ((vc_T I L y).sort ≠ 1 ∨ (k = 1 ∧ False)) := fun z => z.elim (fun z => z ((vc_is1 oy).mpr (Classical.not_not.mp h1))) (fun z => z.2)
                  have xv : (vc_T I L y).val = vl_S L y := vc_valv (Or.inl (Classical.not_not.mp h1))
                  have c2 : ¬ ((vc_T I L d).sort = 4 ∨ (vc_T I L d).sort = 7) := fun z => z.elim (fun z => h3 ((vc_is4 od).mp z)) (fun z => h6 ((vc_is7 od).mp z))
                  have es : (vl_S L y).low = (vl_S L y).high := Classical.byContradiction (fun z => h8 (by rw [decide_eq_false z]; rfl))
                  have bs : (vc_T I L d).sort = 2 := (vc_is2 od).mpr h7
                  have c3 : ¬ (((vc_T I L d).sort ≠ 2 ∧ (vc_T I L d).sort ≠ 3) ∨ (vc_T I L y).val.low ≠ (vc_T I L y).val.high) := by rw [xv, bs]; exact fun z => z.elim (fun z => z.1 rfl) (fun z => z es)
                  have bd : (vc_T I L d).det = (L d 8).toInt := vc_detk (Or.inl h7)
                  have far := hfar (Or.inl h7)
                  have W := vx_wrap (n := k) (L d 8) (L y 2) far ((L d 8) - (L y 2)) (if_neg (show ¬ k = 0 from fun z => h9 (by rw [z]; rfl))).symm
                  rw [show (L y 2).toInt = (vc_T I L y).val.low.toInt from by rw [xv]; rfl, ← bd] at W
                  have e : vx_move k (vc_T I L d) (vc_T I L y) = (2, (vc_T I L d)) := mv.trans (vx_mv5 c1 c2 c3 (W.1.mp (Or.inl (Int64.lt_iff_toInt_lt.mp h10))))
                  exact ⟨I, L, by rw [e]; rfl, fun z => by rw [e] at z; exact absurd (show (2 : Nat) = 0 from z) (by decide), vc_fr_refl _ _⟩
                · refine jv_Wp.lift (fun _ Kz => jv_Ev.steps jv_i32 3 (pc' := 212) (l' := [(6, .long ((L d 8) - (L y 2))), (5, .ref y), (4, .ref d), (0, .ref 10), (1, .int (vl_I k)), (2, .ref d), (3, .ref y)]) (st' := [.int (lg_cmp ((L d 8) - (L y 2)) (536870912 : Int64))]) rfl Kz) ?_
                  refine jv_Wp.cnd jv_i32 (pt := 217) (pe := 215) (p := ((lg_cmp ((L d 8) - (L y 2)) (536870912 : Int64)) ≤ 0)) (q := (((L d 8) - (L y 2)) ≤ (536870912 : Int64))) rfl jv_bi_le rfl rfl (lg_cmp_le ((L d 8) - (L y 2)) (536870912 : Int64)) (fun h11 => ?_) (fun h11 => ?_)
                  · refine jv_Wp.lift (fun _ Kz => jv_Ev.steps jv_i32 2 (pc' := 220) (l' := [(6, .long ((L d 8) - (L y 2))), (5, .ref y), (4, .ref d), (0, .ref 10), (1, .int (vl_I k)), (2, .ref d), (3, .ref y)]) (st' := [.ref d, .ref d]) rfl Kz) ?_
                    refine jv_Wp.lift (fun _ Kz => jv_Ev.m jv_i32 (pc' := 223) (st' := [.int (I d 6), .ref d]) (G' := (jv_H K I L R)) rfl rfl (jv_m_getI hd rfl rfl rfl) Kz) ?_
                    refine jv_Wp.lift (fun _ Kz => jv_Ev.steps jv_i32 2 (pc' := 226) (l' := [(6, .long ((L d 8) - (L y 2))), (5, .ref y), (4, .ref d), (0, .ref 10), (1, .int (vl_I k)), (2, .ref d), (3, .ref y)]) (st' := [.long ((L d 8) - (L y 2)), .int (0 : Int32), .int (I d 6), .ref d]) rfl Kz) ?_
                    obtain ⟨I8, L8, H8, T8, O8, F8⟩ := vc_bec (I := I) (L := L) (R := R) (n := n) (sl := sl) (I d 6) (0 : Int32) ((L d 8) - (L y 2)) hd (by rw [h7]; exact Or.inr (Or.inr (Or.inl ⟨Or.inl rfl, rfl, rfl⟩)))
                    refine jv_Wp.lift (fun _ Kz => jv_Ev.c jv_i32 (pc' := 229) (S' := []) (G1 := (jv_H K I8 L8 R)) jv_i140 [.ref d, .int (I d 6), .int (0 : Int32), .long ((L d 8) - (L y 2))] rfl rfl rfl rfl (jv_cal rfl (jv_H_at hd) rfl rfl) rfl H8 rfl rfl Kz) ?_
                    refine jv_Wp.lift (fun _ Kz => jv_Ev.steps jv_i32 1 (pc' := 230) (l' := [(6, .long ((L d 8) - (L y 2))), (5, .ref y), (4, .ref d), (0, .ref 10), (1, .int (vl_I k)), (2, .ref d), (3, .ref y)]) (st' := [.int (0 : Int32)]) rfl Kz) ?_
                    refine jv_Wp.of (jv_Ev.ret jv_i32 rfl rfl) ?_
                    rw [hQ]
                    have c1 : ¬ ((vc_T I L y).sort ≠ 1 ∨ (k = 1 ∧ False)) := fun z => z.elim (fun z => z ((vc_is1 oy).mpr (Classical.not_not.mp h1))) (fun z => z.2)
                    have xv : (vc_T I L y).val = vl_S L y := vc_valv (Or.inl (Classical.not_not.mp h1))
                    have c2 : ¬ ((vc_T I L d).sort = 4 ∨ (vc_T I L d).sort = 7) := fun z => z.elim (fun z => h3 ((vc_is4 od).mp z)) (fun z => h6 ((vc_is7 od).mp z))
                    have es : (vl_S L y).low = (vl_S L y).high := Classical.byContradiction (fun z => h8 (by rw [decide_eq_false z]; rfl))
                    have bs : (vc_T I L d).sort = 2 := (vc_is2 od).mpr h7
                    have c3 : ¬ (((vc_T I L d).sort ≠ 2 ∧ (vc_T I L d).sort ≠ 3) ∨ (vc_T I L y).val.low ≠ (vc_T I L y).val.high) := by rw [xv, bs]; exact fun z => z.elim (fun z => z.1 rfl) (fun z => z es)
                    have bd : (vc_T I L d).det = (L d 8).toInt := vc_detk (Or.inl h7)
                    have far := hfar (Or.inl h7)
                    have W := vx_wrap (n := k) (L d 8) (L y 2) far ((L d 8) - (L y 2)) (if_neg (show ¬ k = 0 from fun z => h9 (by rw [z]; rfl))).symm
                    rw [show (L y 2).toInt = (vc_T I L y).val.low.toInt from by rw [xv]; rfl, ← bd] at W
                    have c4 : ¬ (vx_mvc k (vc_T I L d).det (vc_T I L y).val.low.toInt < -vx_far ∨ vx_far < vx_mvc k (vc_T I L d).det (vc_T I L y).val.low.toInt) := fun z => (W.1.mpr z).elim (fun z => h10 (Int64.lt_iff_toInt_lt.mpr z)) (fun z => Int.not_le.mpr z (Int64.le_iff_toInt_le.mp h11))
                    have e : vx_move k (vc_T I L d) (vc_T I L y) = (0, ((vc_T I L d).sort, vx_mvc k (vc_T I L d).det (vc_T I L y).val.low.toInt, -1, vb_any)) := mv.trans (vx_mv6 c1 c2 c3 c4)
                    refine ⟨_, _, by rw [e]; rfl, fun _ => ⟨?_, O8⟩, fun p hp => F8 p (fun z => hp (Or.inl z))⟩
                    rw [T8, e, bs, ← W.2 c4, h7]
                    rfl
                  · refine jv_Wp.lift (fun _ Kz => jv_Ev.steps jv_i32 1 (pc' := 216) (l' := [(6, .long ((L d 8) - (L y 2))), (5, .ref y), (4, .ref d), (0, .ref 10), (1, .int (vl_I k)), (2, .ref d), (3, .ref y)]) (st' := [.int (2 : Int32)]) rfl Kz) ?_
                    refine jv_Wp.of (jv_Ev.ret jv_i32 rfl rfl) ?_
                    rw [hQ]
                    have c1 : ¬ ((vc_T I L y).sort ≠ 1 ∨ (k = 1 ∧ False)) := fun z => z.elim (fun z => z ((vc_is1 oy).mpr (Classical.not_not.mp h1))) (fun z => z.2)
                    have xv : (vc_T I L y).val = vl_S L y := vc_valv (Or.inl (Classical.not_not.mp h1))
                    have c2 : ¬ ((vc_T I L d).sort = 4 ∨ (vc_T I L d).sort = 7) := fun z => z.elim (fun z => h3 ((vc_is4 od).mp z)) (fun z => h6 ((vc_is7 od).mp z))
                    have es : (vl_S L y).low = (vl_S L y).high := Classical.byContradiction (fun z => h8 (by rw [decide_eq_false z]; rfl))
                    have bs : (vc_T I L d).sort = 2 := (vc_is2 od).mpr h7
                    have c3 : ¬ (((vc_T I L d).sort ≠ 2 ∧ (vc_T I L d).sort ≠ 3) ∨ (vc_T I L y).val.low ≠ (vc_T I L y).val.high) := by rw [xv, bs]; exact fun z => z.elim (fun z => z.1 rfl) (fun z => z es)
                    have bd : (vc_T I L d).det = (L d 8).toInt := vc_detk (Or.inl h7)
                    have far := hfar (Or.inl h7)
                    have W := vx_wrap (n := k) (L d 8) (L y 2) far ((L d 8) - (L y 2)) (if_neg (show ¬ k = 0 from fun z => h9 (by rw [z]; rfl))).symm
                    rw [show (L y 2).toInt = (vc_T I L y).val.low.toInt from by rw [xv]; rfl, ← bd] at W
                    have e : vx_move k (vc_T I L d) (vc_T I L y) = (2, (vc_T I L d)) := mv.trans (vx_mv5 c1 c2 c3 (W.1.mp (Or.inr (Int.not_le.mp ((not_congr Int64.le_iff_toInt_le).mp h11)))))
                    exact ⟨I, L, by rw [e]; rfl, fun z => by rw [e] at z; exact absurd (show (2 : Nat) = 0 from z) (by decide), vc_fr_refl _ _⟩
              · refine jv_Wp.lift (fun _ Kz => jv_Ev.steps jv_i32 1 (pc' := 172) (l' := [(5, .ref y), (4, .ref d), (0, .ref 10), (1, .int (vl_I k)), (2, .ref d), (3, .ref y)]) (st' := [.ref d]) rfl Kz) ?_
                refine jv_Wp.lift (fun _ Kz => jv_Ev.m jv_i32 (pc' := 175) (st' := [.long (L d 8)]) (G' := (jv_H K I L R)) rfl rfl (jv_m_getL hd rfl rfl rfl) Kz) ?_
                refine jv_Wp.lift (fun _ Kz => jv_Ev.steps jv_i32 1 (pc' := 177) (l' := [(5, .ref y), (4, .ref d), (0, .ref 10), (1, .int (vl_I k)), (2, .ref d), (3, .ref y)]) (st' := [.ref y, .long (L d 8)]) rfl Kz) ?_
                refine jv_Wp.lift (fun _ Kz => jv_Ev.m jv_i32 (pc' := 180) (st' := [.long (L y 2), .long (L d 8)]) (G' := (jv_H K I L R)) rfl rfl (jv_m_getL hy rfl rfl rfl) Kz) ?_
                refine jv_Wp.lift (fun _ Kz => jv_Ev.steps jv_i32 6 (pc' := 203) (l' := [(6, .long ((L d 8) + (L y 2))), (5, .ref y), (4, .ref d), (0, .ref 10), (1, .int (vl_I k)), (2, .ref d), (3, .ref y)]) (st' := [.int (lg_cmp ((L d 8) + (L y 2)) (-536870912 : Int64))]) rfl Kz) ?_
                refine jv_Wp.cnd jv_i32 (pt := 215) (pe := 206) (p := ((lg_cmp ((L d 8) + (L y 2)) (-536870912 : Int64)) < 0)) (q := (((L d 8) + (L y 2)) < (-536870912 : Int64))) rfl jv_bi_lt rfl rfl (lg_cmp_lt ((L d 8) + (L y 2)) (-536870912 : Int64)) (fun h12 => ?_) (fun h12 => ?_)
                · refine jv_Wp.lift (fun _ Kz => jv_Ev.steps jv_i32 1 (pc' := 216) (l' := [(6, .long ((L d 8) + (L y 2))), (5, .ref y), (4, .ref d), (0, .ref 10), (1, .int (vl_I k)), (2, .ref d), (3, .ref y)]) (st' := [.int (2 : Int32)]) rfl Kz) ?_
                  refine jv_Wp.of (jv_Ev.ret jv_i32 rfl rfl) ?_
                  rw [hQ]
                  have c1 : ¬ ((vc_T I L y).sort ≠ 1 ∨ (k = 1 ∧ False)) := fun z => z.elim (fun z => z ((vc_is1 oy).mpr (Classical.not_not.mp h1))) (fun z => z.2)
                  have xv : (vc_T I L y).val = vl_S L y := vc_valv (Or.inl (Classical.not_not.mp h1))
                  have c2 : ¬ ((vc_T I L d).sort = 4 ∨ (vc_T I L d).sort = 7) := fun z => z.elim (fun z => h3 ((vc_is4 od).mp z)) (fun z => h6 ((vc_is7 od).mp z))
                  have es : (vl_S L y).low = (vl_S L y).high := Classical.byContradiction (fun z => h8 (by rw [decide_eq_false z]; rfl))
                  have bs : (vc_T I L d).sort = 2 := (vc_is2 od).mpr h7
                  have c3 : ¬ (((vc_T I L d).sort ≠ 2 ∧ (vc_T I L d).sort ≠ 3) ∨ (vc_T I L y).val.low ≠ (vc_T I L y).val.high) := by rw [xv, bs]; exact fun z => z.elim (fun z => z.1 rfl) (fun z => z es)
                  have bd : (vc_T I L d).det = (L d 8).toInt := vc_detk (Or.inl h7)
                  have far := hfar (Or.inl h7)
                  have W := vx_wrap (n := k) (L d 8) (L y 2) far ((L d 8) + (L y 2)) (if_pos (show k = 0 from ((vl_I_inj (by omega) (by decide)).mp (Classical.not_not.mp h9)))).symm
                  rw [show (L y 2).toInt = (vc_T I L y).val.low.toInt from by rw [xv]; rfl, ← bd] at W
                  have e : vx_move k (vc_T I L d) (vc_T I L y) = (2, (vc_T I L d)) := mv.trans (vx_mv5 c1 c2 c3 (W.1.mp (Or.inl (Int64.lt_iff_toInt_lt.mp h12))))
                  exact ⟨I, L, by rw [e]; rfl, fun z => by rw [e] at z; exact absurd (show (2 : Nat) = 0 from z) (by decide), vc_fr_refl _ _⟩
                · refine jv_Wp.lift (fun _ Kz => jv_Ev.steps jv_i32 3 (pc' := 212) (l' := [(6, .long ((L d 8) + (L y 2))), (5, .ref y), (4, .ref d), (0, .ref 10), (1, .int (vl_I k)), (2, .ref d), (3, .ref y)]) (st' := [.int (lg_cmp ((L d 8) + (L y 2)) (536870912 : Int64))]) rfl Kz) ?_
                  refine jv_Wp.cnd jv_i32 (pt := 217) (pe := 215) (p := ((lg_cmp ((L d 8) + (L y 2)) (536870912 : Int64)) ≤ 0)) (q := (((L d 8) + (L y 2)) ≤ (536870912 : Int64))) rfl jv_bi_le rfl rfl (lg_cmp_le ((L d 8) + (L y 2)) (536870912 : Int64)) (fun h13 => ?_) (fun h13 => ?_)
                  · refine jv_Wp.lift (fun _ Kz => jv_Ev.steps jv_i32 2 (pc' := 220) (l' := [(6, .long ((L d 8) + (L y 2))), (5, .ref y), (4, .ref d), (0, .ref 10), (1, .int (vl_I k)), (2, .ref d), (3, .ref y)]) (st' := [.ref d, .ref d]) rfl Kz) ?_
                    refine jv_Wp.lift (fun _ Kz => jv_Ev.m jv_i32 (pc' := 223) (st' := [.int (I d 6), .ref d]) (G' := (jv_H K I L R)) rfl rfl (jv_m_getI hd rfl rfl rfl) Kz) ?_
                    refine jv_Wp.lift (fun _ Kz => jv_Ev.steps jv_i32 2 (pc' := 226) (l' := [(6, .long ((L d 8) + (L y 2))), (5, .ref y), (4, .ref d), (0, .ref 10), (1, .int (vl_I k)), (2, .ref d), (3, .ref y)]) (st' := [.long ((L d 8) + (L y 2)), .int (0 : Int32), .int (I d 6), .ref d]) rfl Kz) ?_
                    obtain ⟨I9, L9, H9, T9, O9, F9⟩ := vc_bec (I := I) (L := L) (R := R) (n := n) (sl := sl) (I d 6) (0 : Int32) ((L d 8) + (L y 2)) hd (by rw [h7]; exact Or.inr (Or.inr (Or.inl ⟨Or.inl rfl, rfl, rfl⟩)))
                    refine jv_Wp.lift (fun _ Kz => jv_Ev.c jv_i32 (pc' := 229) (S' := []) (G1 := (jv_H K I9 L9 R)) jv_i140 [.ref d, .int (I d 6), .int (0 : Int32), .long ((L d 8) + (L y 2))] rfl rfl rfl rfl (jv_cal rfl (jv_H_at hd) rfl rfl) rfl H9 rfl rfl Kz) ?_
                    refine jv_Wp.lift (fun _ Kz => jv_Ev.steps jv_i32 1 (pc' := 230) (l' := [(6, .long ((L d 8) + (L y 2))), (5, .ref y), (4, .ref d), (0, .ref 10), (1, .int (vl_I k)), (2, .ref d), (3, .ref y)]) (st' := [.int (0 : Int32)]) rfl Kz) ?_
                    refine jv_Wp.of (jv_Ev.ret jv_i32 rfl rfl) ?_
                    rw [hQ]
                    have c1 : ¬ ((vc_T I L y).sort ≠ 1 ∨ (k = 1 ∧ False)) := fun z => z.elim (fun z => z ((vc_is1 oy).mpr (Classical.not_not.mp h1))) (fun z => z.2)
                    have xv : (vc_T I L y).val = vl_S L y := vc_valv (Or.inl (Classical.not_not.mp h1))
                    have c2 : ¬ ((vc_T I L d).sort = 4 ∨ (vc_T I L d).sort = 7) := fun z => z.elim (fun z => h3 ((vc_is4 od).mp z)) (fun z => h6 ((vc_is7 od).mp z))
                    have es : (vl_S L y).low = (vl_S L y).high := Classical.byContradiction (fun z => h8 (by rw [decide_eq_false z]; rfl))
                    have bs : (vc_T I L d).sort = 2 := (vc_is2 od).mpr h7
                    have c3 : ¬ (((vc_T I L d).sort ≠ 2 ∧ (vc_T I L d).sort ≠ 3) ∨ (vc_T I L y).val.low ≠ (vc_T I L y).val.high) := by rw [xv, bs]; exact fun z => z.elim (fun z => z.1 rfl) (fun z => z es)
                    have bd : (vc_T I L d).det = (L d 8).toInt := vc_detk (Or.inl h7)
                    have far := hfar (Or.inl h7)
                    have W := vx_wrap (n := k) (L d 8) (L y 2) far ((L d 8) + (L y 2)) (if_pos (show k = 0 from ((vl_I_inj (by omega) (by decide)).mp (Classical.not_not.mp h9)))).symm
                    rw [show (L y 2).toInt = (vc_T I L y).val.low.toInt from by rw [xv]; rfl, ← bd] at W
                    have c4 : ¬ (vx_mvc k (vc_T I L d).det (vc_T I L y).val.low.toInt < -vx_far ∨ vx_far < vx_mvc k (vc_T I L d).det (vc_T I L y).val.low.toInt) := fun z => (W.1.mpr z).elim (fun z => h12 (Int64.lt_iff_toInt_lt.mpr z)) (fun z => Int.not_le.mpr z (Int64.le_iff_toInt_le.mp h13))
                    have e : vx_move k (vc_T I L d) (vc_T I L y) = (0, ((vc_T I L d).sort, vx_mvc k (vc_T I L d).det (vc_T I L y).val.low.toInt, -1, vb_any)) := mv.trans (vx_mv6 c1 c2 c3 c4)
                    refine ⟨_, _, by rw [e]; rfl, fun _ => ⟨?_, O9⟩, fun p hp => F9 p (fun z => hp (Or.inl z))⟩
                    rw [T9, e, bs, ← W.2 c4, h7]
                    rfl
                  · refine jv_Wp.lift (fun _ Kz => jv_Ev.steps jv_i32 1 (pc' := 216) (l' := [(6, .long ((L d 8) + (L y 2))), (5, .ref y), (4, .ref d), (0, .ref 10), (1, .int (vl_I k)), (2, .ref d), (3, .ref y)]) (st' := [.int (2 : Int32)]) rfl Kz) ?_
                    refine jv_Wp.of (jv_Ev.ret jv_i32 rfl rfl) ?_
                    rw [hQ]
                    have c1 : ¬ ((vc_T I L y).sort ≠ 1 ∨ (k = 1 ∧ False)) := fun z => z.elim (fun z => z ((vc_is1 oy).mpr (Classical.not_not.mp h1))) (fun z => z.2)
                    have xv : (vc_T I L y).val = vl_S L y := vc_valv (Or.inl (Classical.not_not.mp h1))
                    have c2 : ¬ ((vc_T I L d).sort = 4 ∨ (vc_T I L d).sort = 7) := fun z => z.elim (fun z => h3 ((vc_is4 od).mp z)) (fun z => h6 ((vc_is7 od).mp z))
                    have es : (vl_S L y).low = (vl_S L y).high := Classical.byContradiction (fun z => h8 (by rw [decide_eq_false z]; rfl))
                    have bs : (vc_T I L d).sort = 2 := (vc_is2 od).mpr h7
                    have c3 : ¬ (((vc_T I L d).sort ≠ 2 ∧ (vc_T I L d).sort ≠ 3) ∨ (vc_T I L y).val.low ≠ (vc_T I L y).val.high) := by rw [xv, bs]; exact fun z => z.elim (fun z => z.1 rfl) (fun z => z es)
                    have bd : (vc_T I L d).det = (L d 8).toInt := vc_detk (Or.inl h7)
                    have far := hfar (Or.inl h7)
                    have W := vx_wrap (n := k) (L d 8) (L y 2) far ((L d 8) + (L y 2)) (if_pos (show k = 0 from ((vl_I_inj (by omega) (by decide)).mp (Classical.not_not.mp h9)))).symm
                    rw [show (L y 2).toInt = (vc_T I L y).val.low.toInt from by rw [xv]; rfl, ← bd] at W
                    have e : vx_move k (vc_T I L d) (vc_T I L y) = (2, (vc_T I L d)) := mv.trans (vx_mv5 c1 c2 c3 (W.1.mp (Or.inr (Int.not_le.mp ((not_congr Int64.le_iff_toInt_le).mp h13)))))
                    exact ⟨I, L, by rw [e]; rfl, fun z => by rw [e] at z; exact absurd (show (2 : Nat) = 0 from z) (by decide), vc_fr_refl _ _⟩
            · refine jv_Wp.lift (fun _ Kz => jv_Ev.steps jv_i32 1 (pc' := 165) (l' := [(5, .ref y), (4, .ref d), (0, .ref 10), (1, .int (vl_I k)), (2, .ref d), (3, .ref y)]) (st' := [.int (2 : Int32)]) rfl Kz) ?_
              refine jv_Wp.of (jv_Ev.ret jv_i32 rfl rfl) ?_
              rw [hQ]
              have c1 : ¬ ((vc_T I L y).sort ≠ 1 ∨ (k = 1 ∧ False)) := fun z => z.elim (fun z => z ((vc_is1 oy).mpr (Classical.not_not.mp h1))) (fun z => z.2)
              have xv : (vc_T I L y).val = vl_S L y := vc_valv (Or.inl (Classical.not_not.mp h1))
              have c2 : ¬ ((vc_T I L d).sort = 4 ∨ (vc_T I L d).sort = 7) := fun z => z.elim (fun z => h3 ((vc_is4 od).mp z)) (fun z => h6 ((vc_is7 od).mp z))
              have ns : (vl_S L y).low ≠ (vl_S L y).high := fun z => by have q := (Classical.not_not.mp h8); rw [decide_eq_true z] at q; exact absurd q (by decide)
              have e : vx_move k (vc_T I L d) (vc_T I L y) = (2, (vc_T I L d)) := mv.trans (vx_mv4 c1 c2 (Or.inr (by rw [xv]; exact ns)))
              exact ⟨I, L, by rw [e]; rfl, fun z => by rw [e] at z; exact absurd (show (2 : Nat) = 0 from z) (by decide), vc_fr_refl _ _⟩
          · refine jv_Wp.lift (fun _ Kz => jv_Ev.steps jv_i32 1 (pc' := 149) (l' := [(5, .ref y), (4, .ref d), (0, .ref 10), (1, .int (vl_I k)), (2, .ref d), (3, .ref y)]) (st' := [.ref d]) rfl Kz) ?_
            refine jv_Wp.lift (fun _ Kz => jv_Ev.m jv_i32 (pc' := 152) (st' := [.int (I d 6)]) (G' := (jv_H K I L R)) rfl rfl (jv_m_getI hd rfl rfl rfl) Kz) ?_
            refine jv_Wp.lift (fun _ Kz => jv_Ev.steps jv_i32 1 (pc' := 153) (l' := [(5, .ref y), (4, .ref d), (0, .ref 10), (1, .int (vl_I k)), (2, .ref d), (3, .ref y)]) (st' := [.int (3 : Int32), .int (I d 6)]) rfl Kz) ?_
            refine jv_Wp.cnd jv_i32 (pt := 164) (pe := 156) (p := (¬ (I d 6) = (3 : Int32))) (q := (¬ (I d 6) = (3 : Int32))) rfl jv_bc_ne rfl rfl Iff.rfl (fun h14 => ?_) (fun h14 => ?_)
            · refine jv_Wp.lift (fun _ Kz => jv_Ev.steps jv_i32 1 (pc' := 165) (l' := [(5, .ref y), (4, .ref d), (0, .ref 10), (1, .int (vl_I k)), (2, .ref d), (3, .ref y)]) (st' := [.int (2 : Int32)]) rfl Kz) ?_
              refine jv_Wp.of (jv_Ev.ret jv_i32 rfl rfl) ?_
              rw [hQ]
              have c1 : ¬ ((vc_T I L y).sort ≠ 1 ∨ (k = 1 ∧ False)) := fun z => z.elim (fun z => z ((vc_is1 oy).mpr (Classical.not_not.mp h1))) (fun z => z.2)
              have xv : (vc_T I L y).val = vl_S L y := vc_valv (Or.inl (Classical.not_not.mp h1))
              have c2 : ¬ ((vc_T I L d).sort = 4 ∨ (vc_T I L d).sort = 7) := fun z => z.elim (fun z => h3 ((vc_is4 od).mp z)) (fun z => h6 ((vc_is7 od).mp z))
              have e : vx_move k (vc_T I L d) (vc_T I L y) = (2, (vc_T I L d)) := mv.trans (vx_mv4 c1 c2 (Or.inl ⟨fun z => h7 ((vc_is2 od).mp z), fun z => h14 ((vc_is3 od).mp z)⟩))
              exact ⟨I, L, by rw [e]; rfl, fun z => by rw [e] at z; exact absurd (show (2 : Nat) = 0 from z) (by decide), vc_fr_refl _ _⟩
            · refine jv_Wp.lift (fun _ Kz => jv_Ev.steps jv_i32 1 (pc' := 158) (l' := [(5, .ref y), (4, .ref d), (0, .ref 10), (1, .int (vl_I k)), (2, .ref d), (3, .ref y)]) (st' := [.ref y]) rfl Kz) ?_
              refine jv_Wp.lift (fun _ Kz => jv_Ev.c jv_i32 (pc' := 161) (S' := [.int (vr_b (decide ((vl_S L y).low = (vl_S L y).high)))]) jv_i153 [.ref y] rfl rfl rfl rfl (jv_cal rfl (jv_H_at hy) rfl rfl) rfl (vl_single (Or.inr hy)) rfl rfl Kz) ?_
              refine jv_Wp.cnd jv_i32 (pt := 166) (pe := 164) (p := (¬ (vr_b (decide ((vl_S L y).low = (vl_S L y).high))) = 0)) (q := (¬ (vr_b (decide ((vl_S L y).low = (vl_S L y).high))) = 0)) rfl jv_bi_ne rfl rfl Iff.rfl (fun h15 => ?_) (fun h15 => ?_)
              · refine jv_Wp.lift (fun _ Kz => jv_Ev.steps jv_i32 1 (pc' := 167) (l' := [(5, .ref y), (4, .ref d), (0, .ref 10), (1, .int (vl_I k)), (2, .ref d), (3, .ref y)]) (st' := [.int (vl_I k)]) rfl Kz) ?_
                refine jv_Wp.cnd jv_i32 (pt := 184) (pe := 170) (p := (¬ (vl_I k) = 0)) (q := (¬ (vl_I k) = 0)) rfl jv_bi_ne rfl rfl Iff.rfl (fun h16 => ?_) (fun h16 => ?_)
                · refine jv_Wp.lift (fun _ Kz => jv_Ev.steps jv_i32 1 (pc' := 186) (l' := [(5, .ref y), (4, .ref d), (0, .ref 10), (1, .int (vl_I k)), (2, .ref d), (3, .ref y)]) (st' := [.ref d]) rfl Kz) ?_
                  refine jv_Wp.lift (fun _ Kz => jv_Ev.m jv_i32 (pc' := 189) (st' := [.long (L d 8)]) (G' := (jv_H K I L R)) rfl rfl (jv_m_getL hd rfl rfl rfl) Kz) ?_
                  refine jv_Wp.lift (fun _ Kz => jv_Ev.steps jv_i32 1 (pc' := 191) (l' := [(5, .ref y), (4, .ref d), (0, .ref 10), (1, .int (vl_I k)), (2, .ref d), (3, .ref y)]) (st' := [.ref y, .long (L d 8)]) rfl Kz) ?_
                  refine jv_Wp.lift (fun _ Kz => jv_Ev.m jv_i32 (pc' := 194) (st' := [.long (L y 2), .long (L d 8)]) (G' := (jv_H K I L R)) rfl rfl (jv_m_getL hy rfl rfl rfl) Kz) ?_
                  refine jv_Wp.lift (fun _ Kz => jv_Ev.steps jv_i32 5 (pc' := 203) (l' := [(6, .long ((L d 8) - (L y 2))), (5, .ref y), (4, .ref d), (0, .ref 10), (1, .int (vl_I k)), (2, .ref d), (3, .ref y)]) (st' := [.int (lg_cmp ((L d 8) - (L y 2)) (-536870912 : Int64))]) rfl Kz) ?_
                  refine jv_Wp.cnd jv_i32 (pt := 215) (pe := 206) (p := ((lg_cmp ((L d 8) - (L y 2)) (-536870912 : Int64)) < 0)) (q := (((L d 8) - (L y 2)) < (-536870912 : Int64))) rfl jv_bi_lt rfl rfl (lg_cmp_lt ((L d 8) - (L y 2)) (-536870912 : Int64)) (fun h17 => ?_) (fun h17 => ?_)
                  · refine jv_Wp.lift (fun _ Kz => jv_Ev.steps jv_i32 1 (pc' := 216) (l' := [(6, .long ((L d 8) - (L y 2))), (5, .ref y), (4, .ref d), (0, .ref 10), (1, .int (vl_I k)), (2, .ref d), (3, .ref y)]) (st' := [.int (2 : Int32)]) rfl Kz) ?_
                    refine jv_Wp.of (jv_Ev.ret jv_i32 rfl rfl) ?_
                    rw [hQ]
                    have c1 : ¬ ((vc_T I L y).sort ≠ 1 ∨ (k = 1 ∧ False)) := fun z => z.elim (fun z => z ((vc_is1 oy).mpr (Classical.not_not.mp h1))) (fun z => z.2)
                    have xv : (vc_T I L y).val = vl_S L y := vc_valv (Or.inl (Classical.not_not.mp h1))
                    have c2 : ¬ ((vc_T I L d).sort = 4 ∨ (vc_T I L d).sort = 7) := fun z => z.elim (fun z => h3 ((vc_is4 od).mp z)) (fun z => h6 ((vc_is7 od).mp z))
                    have es : (vl_S L y).low = (vl_S L y).high := Classical.byContradiction (fun z => h15 (by rw [decide_eq_false z]; rfl))
                    have bs : (vc_T I L d).sort = 3 := (vc_is3 od).mpr (Classical.not_not.mp h14)
                    have c3 : ¬ (((vc_T I L d).sort ≠ 2 ∧ (vc_T I L d).sort ≠ 3) ∨ (vc_T I L y).val.low ≠ (vc_T I L y).val.high) := by rw [xv, bs]; exact fun z => z.elim (fun z => z.2 rfl) (fun z => z es)
                    have bd : (vc_T I L d).det = (L d 8).toInt := vc_detk (Or.inr (Classical.not_not.mp h14))
                    have far := hfar (Or.inr (Classical.not_not.mp h14))
                    have W := vx_wrap (n := k) (L d 8) (L y 2) far ((L d 8) - (L y 2)) (if_neg (show ¬ k = 0 from fun z => h16 (by rw [z]; rfl))).symm
                    rw [show (L y 2).toInt = (vc_T I L y).val.low.toInt from by rw [xv]; rfl, ← bd] at W
                    have e : vx_move k (vc_T I L d) (vc_T I L y) = (2, (vc_T I L d)) := mv.trans (vx_mv5 c1 c2 c3 (W.1.mp (Or.inl (Int64.lt_iff_toInt_lt.mp h17))))
                    exact ⟨I, L, by rw [e]; rfl, fun z => by rw [e] at z; exact absurd (show (2 : Nat) = 0 from z) (by decide), vc_fr_refl _ _⟩
                  · refine jv_Wp.lift (fun _ Kz => jv_Ev.steps jv_i32 3 (pc' := 212) (l' := [(6, .long ((L d 8) - (L y 2))), (5, .ref y), (4, .ref d), (0, .ref 10), (1, .int (vl_I k)), (2, .ref d), (3, .ref y)]) (st' := [.int (lg_cmp ((L d 8) - (L y 2)) (536870912 : Int64))]) rfl Kz) ?_
                    refine jv_Wp.cnd jv_i32 (pt := 217) (pe := 215) (p := ((lg_cmp ((L d 8) - (L y 2)) (536870912 : Int64)) ≤ 0)) (q := (((L d 8) - (L y 2)) ≤ (536870912 : Int64))) rfl jv_bi_le rfl rfl (lg_cmp_le ((L d 8) - (L y 2)) (536870912 : Int64)) (fun h18 => ?_) (fun h18 => ?_)
                    · refine jv_Wp.lift (fun _ Kz => jv_Ev.steps jv_i32 2 (pc' := 220) (l' := [(6, .long ((L d 8) - (L y 2))), (5, .ref y), (4, .ref d), (0, .ref 10), (1, .int (vl_I k)), (2, .ref d), (3, .ref y)]) (st' := [.ref d, .ref d]) rfl Kz) ?_
                      refine jv_Wp.lift (fun _ Kz => jv_Ev.m jv_i32 (pc' := 223) (st' := [.int (I d 6), .ref d]) (G' := (jv_H K I L R)) rfl rfl (jv_m_getI hd rfl rfl rfl) Kz) ?_
                      refine jv_Wp.lift (fun _ Kz => jv_Ev.steps jv_i32 2 (pc' := 226) (l' := [(6, .long ((L d 8) - (L y 2))), (5, .ref y), (4, .ref d), (0, .ref 10), (1, .int (vl_I k)), (2, .ref d), (3, .ref y)]) (st' := [.long ((L d 8) - (L y 2)), .int (0 : Int32), .int (I d 6), .ref d]) rfl Kz) ?_
                      obtain ⟨I10, L10, H10, T10, O10, F10⟩ := vc_bec (I := I) (L := L) (R := R) (n := n) (sl := sl) (I d 6) (0 : Int32) ((L d 8) - (L y 2)) hd (by rw [(Classical.not_not.mp h14)]; exact Or.inr (Or.inr (Or.inl ⟨Or.inr rfl, rfl, rfl⟩)))
                      refine jv_Wp.lift (fun _ Kz => jv_Ev.c jv_i32 (pc' := 229) (S' := []) (G1 := (jv_H K I10 L10 R)) jv_i140 [.ref d, .int (I d 6), .int (0 : Int32), .long ((L d 8) - (L y 2))] rfl rfl rfl rfl (jv_cal rfl (jv_H_at hd) rfl rfl) rfl H10 rfl rfl Kz) ?_
                      refine jv_Wp.lift (fun _ Kz => jv_Ev.steps jv_i32 1 (pc' := 230) (l' := [(6, .long ((L d 8) - (L y 2))), (5, .ref y), (4, .ref d), (0, .ref 10), (1, .int (vl_I k)), (2, .ref d), (3, .ref y)]) (st' := [.int (0 : Int32)]) rfl Kz) ?_
                      refine jv_Wp.of (jv_Ev.ret jv_i32 rfl rfl) ?_
                      rw [hQ]
                      have c1 : ¬ ((vc_T I L y).sort ≠ 1 ∨ (k = 1 ∧ False)) := fun z => z.elim (fun z => z ((vc_is1 oy).mpr (Classical.not_not.mp h1))) (fun z => z.2)
                      have xv : (vc_T I L y).val = vl_S L y := vc_valv (Or.inl (Classical.not_not.mp h1))
                      have c2 : ¬ ((vc_T I L d).sort = 4 ∨ (vc_T I L d).sort = 7) := fun z => z.elim (fun z => h3 ((vc_is4 od).mp z)) (fun z => h6 ((vc_is7 od).mp z))
                      have es : (vl_S L y).low = (vl_S L y).high := Classical.byContradiction (fun z => h15 (by rw [decide_eq_false z]; rfl))
                      have bs : (vc_T I L d).sort = 3 := (vc_is3 od).mpr (Classical.not_not.mp h14)
                      have c3 : ¬ (((vc_T I L d).sort ≠ 2 ∧ (vc_T I L d).sort ≠ 3) ∨ (vc_T I L y).val.low ≠ (vc_T I L y).val.high) := by rw [xv, bs]; exact fun z => z.elim (fun z => z.2 rfl) (fun z => z es)
                      have bd : (vc_T I L d).det = (L d 8).toInt := vc_detk (Or.inr (Classical.not_not.mp h14))
                      have far := hfar (Or.inr (Classical.not_not.mp h14))
                      have W := vx_wrap (n := k) (L d 8) (L y 2) far ((L d 8) - (L y 2)) (if_neg (show ¬ k = 0 from fun z => h16 (by rw [z]; rfl))).symm
                      rw [show (L y 2).toInt = (vc_T I L y).val.low.toInt from by rw [xv]; rfl, ← bd] at W
                      have c4 : ¬ (vx_mvc k (vc_T I L d).det (vc_T I L y).val.low.toInt < -vx_far ∨ vx_far < vx_mvc k (vc_T I L d).det (vc_T I L y).val.low.toInt) := fun z => (W.1.mpr z).elim (fun z => h17 (Int64.lt_iff_toInt_lt.mpr z)) (fun z => Int.not_le.mpr z (Int64.le_iff_toInt_le.mp h18))
                      have e : vx_move k (vc_T I L d) (vc_T I L y) = (0, ((vc_T I L d).sort, vx_mvc k (vc_T I L d).det (vc_T I L y).val.low.toInt, -1, vb_any)) := mv.trans (vx_mv6 c1 c2 c3 c4)
                      refine ⟨_, _, by rw [e]; rfl, fun _ => ⟨?_, O10⟩, fun p hp => F10 p (fun z => hp (Or.inl z))⟩
                      rw [T10, e, bs, ← W.2 c4, (Classical.not_not.mp h14)]
                      rfl
                    · refine jv_Wp.lift (fun _ Kz => jv_Ev.steps jv_i32 1 (pc' := 216) (l' := [(6, .long ((L d 8) - (L y 2))), (5, .ref y), (4, .ref d), (0, .ref 10), (1, .int (vl_I k)), (2, .ref d), (3, .ref y)]) (st' := [.int (2 : Int32)]) rfl Kz) ?_
                      refine jv_Wp.of (jv_Ev.ret jv_i32 rfl rfl) ?_
                      rw [hQ]
                      have c1 : ¬ ((vc_T I L y).sort ≠ 1 ∨ (k = 1 ∧ False)) := fun z => z.elim (fun z => z ((vc_is1 oy).mpr (Classical.not_not.mp h1))) (fun z => z.2)
                      have xv : (vc_T I L y).val = vl_S L y := vc_valv (Or.inl (Classical.not_not.mp h1))
                      have c2 : ¬ ((vc_T I L d).sort = 4 ∨ (vc_T I L d).sort = 7) := fun z => z.elim (fun z => h3 ((vc_is4 od).mp z)) (fun z => h6 ((vc_is7 od).mp z))
                      have es : (vl_S L y).low = (vl_S L y).high := Classical.byContradiction (fun z => h15 (by rw [decide_eq_false z]; rfl))
                      have bs : (vc_T I L d).sort = 3 := (vc_is3 od).mpr (Classical.not_not.mp h14)
                      have c3 : ¬ (((vc_T I L d).sort ≠ 2 ∧ (vc_T I L d).sort ≠ 3) ∨ (vc_T I L y).val.low ≠ (vc_T I L y).val.high) := by rw [xv, bs]; exact fun z => z.elim (fun z => z.2 rfl) (fun z => z es)
                      have bd : (vc_T I L d).det = (L d 8).toInt := vc_detk (Or.inr (Classical.not_not.mp h14))
                      have far := hfar (Or.inr (Classical.not_not.mp h14))
                      have W := vx_wrap (n := k) (L d 8) (L y 2) far ((L d 8) - (L y 2)) (if_neg (show ¬ k = 0 from fun z => h16 (by rw [z]; rfl))).symm
                      rw [show (L y 2).toInt = (vc_T I L y).val.low.toInt from by rw [xv]; rfl, ← bd] at W
                      have e : vx_move k (vc_T I L d) (vc_T I L y) = (2, (vc_T I L d)) := mv.trans (vx_mv5 c1 c2 c3 (W.1.mp (Or.inr (Int.not_le.mp ((not_congr Int64.le_iff_toInt_le).mp h18)))))
                      exact ⟨I, L, by rw [e]; rfl, fun z => by rw [e] at z; exact absurd (show (2 : Nat) = 0 from z) (by decide), vc_fr_refl _ _⟩
                · refine jv_Wp.lift (fun _ Kz => jv_Ev.steps jv_i32 1 (pc' := 172) (l' := [(5, .ref y), (4, .ref d), (0, .ref 10), (1, .int (vl_I k)), (2, .ref d), (3, .ref y)]) (st' := [.ref d]) rfl Kz) ?_
                  refine jv_Wp.lift (fun _ Kz => jv_Ev.m jv_i32 (pc' := 175) (st' := [.long (L d 8)]) (G' := (jv_H K I L R)) rfl rfl (jv_m_getL hd rfl rfl rfl) Kz) ?_
                  refine jv_Wp.lift (fun _ Kz => jv_Ev.steps jv_i32 1 (pc' := 177) (l' := [(5, .ref y), (4, .ref d), (0, .ref 10), (1, .int (vl_I k)), (2, .ref d), (3, .ref y)]) (st' := [.ref y, .long (L d 8)]) rfl Kz) ?_
                  refine jv_Wp.lift (fun _ Kz => jv_Ev.m jv_i32 (pc' := 180) (st' := [.long (L y 2), .long (L d 8)]) (G' := (jv_H K I L R)) rfl rfl (jv_m_getL hy rfl rfl rfl) Kz) ?_
                  refine jv_Wp.lift (fun _ Kz => jv_Ev.steps jv_i32 6 (pc' := 203) (l' := [(6, .long ((L d 8) + (L y 2))), (5, .ref y), (4, .ref d), (0, .ref 10), (1, .int (vl_I k)), (2, .ref d), (3, .ref y)]) (st' := [.int (lg_cmp ((L d 8) + (L y 2)) (-536870912 : Int64))]) rfl Kz) ?_
                  refine jv_Wp.cnd jv_i32 (pt := 215) (pe := 206) (p := ((lg_cmp ((L d 8) + (L y 2)) (-536870912 : Int64)) < 0)) (q := (((L d 8) + (L y 2)) < (-536870912 : Int64))) rfl jv_bi_lt rfl rfl (lg_cmp_lt ((L d 8) + (L y 2)) (-536870912 : Int64)) (fun h19 => ?_) (fun h19 => ?_)
                  · refine jv_Wp.lift (fun _ Kz => jv_Ev.steps jv_i32 1 (pc' := 216) (l' := [(6, .long ((L d 8) + (L y 2))), (5, .ref y), (4, .ref d), (0, .ref 10), (1, .int (vl_I k)), (2, .ref d), (3, .ref y)]) (st' := [.int (2 : Int32)]) rfl Kz) ?_
                    refine jv_Wp.of (jv_Ev.ret jv_i32 rfl rfl) ?_
                    rw [hQ]
                    have c1 : ¬ ((vc_T I L y).sort ≠ 1 ∨ (k = 1 ∧ False)) := fun z => z.elim (fun z => z ((vc_is1 oy).mpr (Classical.not_not.mp h1))) (fun z => z.2)
                    have xv : (vc_T I L y).val = vl_S L y := vc_valv (Or.inl (Classical.not_not.mp h1))
                    have c2 : ¬ ((vc_T I L d).sort = 4 ∨ (vc_T I L d).sort = 7) := fun z => z.elim (fun z => h3 ((vc_is4 od).mp z)) (fun z => h6 ((vc_is7 od).mp z))
                    have es : (vl_S L y).low = (vl_S L y).high := Classical.byContradiction (fun z => h15 (by rw [decide_eq_false z]; rfl))
                    have bs : (vc_T I L d).sort = 3 := (vc_is3 od).mpr (Classical.not_not.mp h14)
                    have c3 : ¬ (((vc_T I L d).sort ≠ 2 ∧ (vc_T I L d).sort ≠ 3) ∨ (vc_T I L y).val.low ≠ (vc_T I L y).val.high) := by rw [xv, bs]; exact fun z => z.elim (fun z => z.2 rfl) (fun z => z es)
                    have bd : (vc_T I L d).det = (L d 8).toInt := vc_detk (Or.inr (Classical.not_not.mp h14))
                    have far := hfar (Or.inr (Classical.not_not.mp h14))
                    have W := vx_wrap (n := k) (L d 8) (L y 2) far ((L d 8) + (L y 2)) (if_pos (show k = 0 from ((vl_I_inj (by omega) (by decide)).mp (Classical.not_not.mp h16)))).symm
                    rw [show (L y 2).toInt = (vc_T I L y).val.low.toInt from by rw [xv]; rfl, ← bd] at W
                    have e : vx_move k (vc_T I L d) (vc_T I L y) = (2, (vc_T I L d)) := mv.trans (vx_mv5 c1 c2 c3 (W.1.mp (Or.inl (Int64.lt_iff_toInt_lt.mp h19))))
                    exact ⟨I, L, by rw [e]; rfl, fun z => by rw [e] at z; exact absurd (show (2 : Nat) = 0 from z) (by decide), vc_fr_refl _ _⟩
                  · refine jv_Wp.lift (fun _ Kz => jv_Ev.steps jv_i32 3 (pc' := 212) (l' := [(6, .long ((L d 8) + (L y 2))), (5, .ref y), (4, .ref d), (0, .ref 10), (1, .int (vl_I k)), (2, .ref d), (3, .ref y)]) (st' := [.int (lg_cmp ((L d 8) + (L y 2)) (536870912 : Int64))]) rfl Kz) ?_
                    refine jv_Wp.cnd jv_i32 (pt := 217) (pe := 215) (p := ((lg_cmp ((L d 8) + (L y 2)) (536870912 : Int64)) ≤ 0)) (q := (((L d 8) + (L y 2)) ≤ (536870912 : Int64))) rfl jv_bi_le rfl rfl (lg_cmp_le ((L d 8) + (L y 2)) (536870912 : Int64)) (fun h20 => ?_) (fun h20 => ?_)
                    · refine jv_Wp.lift (fun _ Kz => jv_Ev.steps jv_i32 2 (pc' := 220) (l' := [(6, .long ((L d 8) + (L y 2))), (5, .ref y), (4, .ref d), (0, .ref 10), (1, .int (vl_I k)), (2, .ref d), (3, .ref y)]) (st' := [.ref d, .ref d]) rfl Kz) ?_
                      refine jv_Wp.lift (fun _ Kz => jv_Ev.m jv_i32 (pc' := 223) (st' := [.int (I d 6), .ref d]) (G' := (jv_H K I L R)) rfl rfl (jv_m_getI hd rfl rfl rfl) Kz) ?_
                      refine jv_Wp.lift (fun _ Kz => jv_Ev.steps jv_i32 2 (pc' := 226) (l' := [(6, .long ((L d 8) + (L y 2))), (5, .ref y), (4, .ref d), (0, .ref 10), (1, .int (vl_I k)), (2, .ref d), (3, .ref y)]) (st' := [.long ((L d 8) + (L y 2)), .int (0 : Int32), .int (I d 6), .ref d]) rfl Kz) ?_
                      obtain ⟨I11, L11, H11, T11, O11, F11⟩ := vc_bec (I := I) (L := L) (R := R) (n := n) (sl := sl) (I d 6) (0 : Int32) ((L d 8) + (L y 2)) hd (by rw [(Classical.not_not.mp h14)]; exact Or.inr (Or.inr (Or.inl ⟨Or.inr rfl, rfl, rfl⟩)))
                      refine jv_Wp.lift (fun _ Kz => jv_Ev.c jv_i32 (pc' := 229) (S' := []) (G1 := (jv_H K I11 L11 R)) jv_i140 [.ref d, .int (I d 6), .int (0 : Int32), .long ((L d 8) + (L y 2))] rfl rfl rfl rfl (jv_cal rfl (jv_H_at hd) rfl rfl) rfl H11 rfl rfl Kz) ?_
                      refine jv_Wp.lift (fun _ Kz => jv_Ev.steps jv_i32 1 (pc' := 230) (l' := [(6, .long ((L d 8) + (L y 2))), (5, .ref y), (4, .ref d), (0, .ref 10), (1, .int (vl_I k)), (2, .ref d), (3, .ref y)]) (st' := [.int (0 : Int32)]) rfl Kz) ?_
                      refine jv_Wp.of (jv_Ev.ret jv_i32 rfl rfl) ?_
                      rw [hQ]
                      have c1 : ¬ ((vc_T I L y).sort ≠ 1 ∨ (k = 1 ∧ False)) := fun z => z.elim (fun z => z ((vc_is1 oy).mpr (Classical.not_not.mp h1))) (fun z => z.2)
                      have xv : (vc_T I L y).val = vl_S L y := vc_valv (Or.inl (Classical.not_not.mp h1))
                      have c2 : ¬ ((vc_T I L d).sort = 4 ∨ (vc_T I L d).sort = 7) := fun z => z.elim (fun z => h3 ((vc_is4 od).mp z)) (fun z => h6 ((vc_is7 od).mp z))
                      have es : (vl_S L y).low = (vl_S L y).high := Classical.byContradiction (fun z => h15 (by rw [decide_eq_false z]; rfl))
                      have bs : (vc_T I L d).sort = 3 := (vc_is3 od).mpr (Classical.not_not.mp h14)
                      have c3 : ¬ (((vc_T I L d).sort ≠ 2 ∧ (vc_T I L d).sort ≠ 3) ∨ (vc_T I L y).val.low ≠ (vc_T I L y).val.high) := by rw [xv, bs]; exact fun z => z.elim (fun z => z.2 rfl) (fun z => z es)
                      have bd : (vc_T I L d).det = (L d 8).toInt := vc_detk (Or.inr (Classical.not_not.mp h14))
                      have far := hfar (Or.inr (Classical.not_not.mp h14))
                      have W := vx_wrap (n := k) (L d 8) (L y 2) far ((L d 8) + (L y 2)) (if_pos (show k = 0 from ((vl_I_inj (by omega) (by decide)).mp (Classical.not_not.mp h16)))).symm
                      rw [show (L y 2).toInt = (vc_T I L y).val.low.toInt from by rw [xv]; rfl, ← bd] at W
                      have c4 : ¬ (vx_mvc k (vc_T I L d).det (vc_T I L y).val.low.toInt < -vx_far ∨ vx_far < vx_mvc k (vc_T I L d).det (vc_T I L y).val.low.toInt) := fun z => (W.1.mpr z).elim (fun z => h19 (Int64.lt_iff_toInt_lt.mpr z)) (fun z => Int.not_le.mpr z (Int64.le_iff_toInt_le.mp h20))
                      have e : vx_move k (vc_T I L d) (vc_T I L y) = (0, ((vc_T I L d).sort, vx_mvc k (vc_T I L d).det (vc_T I L y).val.low.toInt, -1, vb_any)) := mv.trans (vx_mv6 c1 c2 c3 c4)
                      refine ⟨_, _, by rw [e]; rfl, fun _ => ⟨?_, O11⟩, fun p hp => F11 p (fun z => hp (Or.inl z))⟩
                      rw [T11, e, bs, ← W.2 c4, (Classical.not_not.mp h14)]
                      rfl
                    · refine jv_Wp.lift (fun _ Kz => jv_Ev.steps jv_i32 1 (pc' := 216) (l' := [(6, .long ((L d 8) + (L y 2))), (5, .ref y), (4, .ref d), (0, .ref 10), (1, .int (vl_I k)), (2, .ref d), (3, .ref y)]) (st' := [.int (2 : Int32)]) rfl Kz) ?_
                      refine jv_Wp.of (jv_Ev.ret jv_i32 rfl rfl) ?_
                      rw [hQ]
                      have c1 : ¬ ((vc_T I L y).sort ≠ 1 ∨ (k = 1 ∧ False)) := fun z => z.elim (fun z => z ((vc_is1 oy).mpr (Classical.not_not.mp h1))) (fun z => z.2)
                      have xv : (vc_T I L y).val = vl_S L y := vc_valv (Or.inl (Classical.not_not.mp h1))
                      have c2 : ¬ ((vc_T I L d).sort = 4 ∨ (vc_T I L d).sort = 7) := fun z => z.elim (fun z => h3 ((vc_is4 od).mp z)) (fun z => h6 ((vc_is7 od).mp z))
                      have es : (vl_S L y).low = (vl_S L y).high := Classical.byContradiction (fun z => h15 (by rw [decide_eq_false z]; rfl))
                      have bs : (vc_T I L d).sort = 3 := (vc_is3 od).mpr (Classical.not_not.mp h14)
                      have c3 : ¬ (((vc_T I L d).sort ≠ 2 ∧ (vc_T I L d).sort ≠ 3) ∨ (vc_T I L y).val.low ≠ (vc_T I L y).val.high) := by rw [xv, bs]; exact fun z => z.elim (fun z => z.2 rfl) (fun z => z es)
                      have bd : (vc_T I L d).det = (L d 8).toInt := vc_detk (Or.inr (Classical.not_not.mp h14))
                      have far := hfar (Or.inr (Classical.not_not.mp h14))
                      have W := vx_wrap (n := k) (L d 8) (L y 2) far ((L d 8) + (L y 2)) (if_pos (show k = 0 from ((vl_I_inj (by omega) (by decide)).mp (Classical.not_not.mp h16)))).symm
                      rw [show (L y 2).toInt = (vc_T I L y).val.low.toInt from by rw [xv]; rfl, ← bd] at W
                      have e : vx_move k (vc_T I L d) (vc_T I L y) = (2, (vc_T I L d)) := mv.trans (vx_mv5 c1 c2 c3 (W.1.mp (Or.inr (Int.not_le.mp ((not_congr Int64.le_iff_toInt_le).mp h20)))))
                      exact ⟨I, L, by rw [e]; rfl, fun z => by rw [e] at z; exact absurd (show (2 : Nat) = 0 from z) (by decide), vc_fr_refl _ _⟩
              · refine jv_Wp.lift (fun _ Kz => jv_Ev.steps jv_i32 1 (pc' := 165) (l' := [(5, .ref y), (4, .ref d), (0, .ref 10), (1, .int (vl_I k)), (2, .ref d), (3, .ref y)]) (st' := [.int (2 : Int32)]) rfl Kz) ?_
                refine jv_Wp.of (jv_Ev.ret jv_i32 rfl rfl) ?_
                rw [hQ]
                have c1 : ¬ ((vc_T I L y).sort ≠ 1 ∨ (k = 1 ∧ False)) := fun z => z.elim (fun z => z ((vc_is1 oy).mpr (Classical.not_not.mp h1))) (fun z => z.2)
                have xv : (vc_T I L y).val = vl_S L y := vc_valv (Or.inl (Classical.not_not.mp h1))
                have c2 : ¬ ((vc_T I L d).sort = 4 ∨ (vc_T I L d).sort = 7) := fun z => z.elim (fun z => h3 ((vc_is4 od).mp z)) (fun z => h6 ((vc_is7 od).mp z))
                have ns : (vl_S L y).low ≠ (vl_S L y).high := fun z => by have q := (Classical.not_not.mp h15); rw [decide_eq_true z] at q; exact absurd q (by decide)
                have e : vx_move k (vc_T I L d) (vc_T I L y) = (2, (vc_T I L d)) := mv.trans (vx_mv4 c1 c2 (Or.inr (by rw [xv]; exact ns)))
                exact ⟨I, L, by rw [e]; rfl, fun z => by rw [e] at z; exact absurd (show (2 : Nat) = 0 from z) (by decide), vc_fr_refl _ _⟩
        · refine jv_Wp.lift (fun _ Kz => jv_Ev.steps jv_i32 1 (pc' := 70) (l' := [(5, .ref y), (4, .ref d), (0, .ref 10), (1, .int (vl_I k)), (2, .ref d), (3, .ref y)]) (st' := [.ref 10]) rfl Kz) ?_
          refine jv_Wp.lift (fun _ Kz => jv_Ev.m jv_i32 (pc' := 73) (st' := [.ref 169]) (G' := (jv_H K I L R)) rfl rfl (jv_m_getR hC.k rfl rfl hC.rout) Kz) ?_
          refine jv_Wp.lift (fun _ Kz => jv_Ev.steps jv_i32 4 (pc' := 80) (l' := [(5, .ref y), (4, .ref d), (0, .ref 10), (1, .int (vl_I k)), (2, .ref d), (3, .ref y)]) (st' := [.int (63 : Int32), .ref y, .ref d, .int (vl_I k), .ref 169]) rfl Kz) ?_
          refine jv_Wp.lift (fun _ Kz => jv_Ev.c jv_i32 (pc' := 83) (S' := []) (G1 := (jv_H K I (vl_set L 169 (vb_tt (vb_cOp (vl_I k) (vl_S L d) (vl_S L y) 63))) R)) jv_i158 [.ref 169, .int (vl_I k), .ref d, .ref y, .int (63 : Int32)] rfl rfl rfl rfl (jv_cal rfl (jv_H_at hC.k169) rfl rfl) rfl (vl_operate (top := 63) hC.k169 (Or.inr hd) (Or.inr hy) (Or.inl ⟨rfl, rfl⟩) (vb_tight_le (tx (Classical.not_not.mp h1))) (hxd 169 (by decide) (by decide)) (hxy 169 (by decide) (by decide))) rfl rfl Kz) ?_
          refine jv_Wp.lift (fun _ Kz => jv_Ev.steps jv_i32 1 (pc' := 84) (l' := [(5, .ref y), (4, .ref d), (0, .ref 10), (1, .int (vl_I k)), (2, .ref d), (3, .ref y)]) (st' := [.ref 10]) rfl Kz) ?_
          refine jv_Wp.lift (fun _ Kz => jv_Ev.m jv_i32 (pc' := 87) (st' := [.ref 169]) (G' := (jv_H K I (vl_set L 169 (vb_tt (vb_cOp (vl_I k) (vl_S L d) (vl_S L y) 63))) R)) rfl rfl (jv_m_getR hC.k rfl rfl hC.rout) Kz) ?_
          refine jv_Wp.lift (fun _ Kz => jv_Ev.m jv_i32 (pc' := 90) (st' := [.long (Int64.ofBitVec ((vb_tt (vb_cOp (vl_I k) (vl_S L d) (vl_S L y) 63))).least)]) (G' := (jv_H K I (vl_set L 169 (vb_tt (vb_cOp (vl_I k) (vl_S L d) (vl_S L y) 63))) R)) rfl rfl (jv_m_getL hC.k169 rfl rfl (vl_rd4 _ _ _)) Kz) ?_
          refine jv_Wp.lift (fun _ Kz => jv_Ev.steps jv_i32 2 (pc' := 94) (l' := [(5, .ref y), (4, .ref d), (0, .ref 10), (1, .int (vl_I k)), (2, .ref d), (3, .ref y)]) (st' := [.int (lg_cmp (Int64.ofBitVec ((vb_tt (vb_cOp (vl_I k) (vl_S L d) (vl_S L y) 63))).least) (-536870912 : Int64))]) rfl Kz) ?_
          refine jv_Wp.cnd jv_i32 (pt := 111) (pe := 97) (p := ((lg_cmp (Int64.ofBitVec ((vb_tt (vb_cOp (vl_I k) (vl_S L d) (vl_S L y) 63))).least) (-536870912 : Int64)) < 0)) (q := ((Int64.ofBitVec ((vb_tt (vb_cOp (vl_I k) (vl_S L d) (vl_S L y) 63))).least) < (-536870912 : Int64))) rfl jv_bi_lt rfl rfl (lg_cmp_lt (Int64.ofBitVec ((vb_tt (vb_cOp (vl_I k) (vl_S L d) (vl_S L y) 63))).least) (-536870912 : Int64)) (fun h21 => ?_) (fun h21 => ?_)
          · refine jv_Wp.lift (fun _ Kz => jv_Ev.steps jv_i32 1 (pc' := 112) (l' := [(5, .ref y), (4, .ref d), (0, .ref 10), (1, .int (vl_I k)), (2, .ref d), (3, .ref y)]) (st' := [.int (2 : Int32)]) rfl Kz) ?_
            refine jv_Wp.of (jv_Ev.ret jv_i32 rfl rfl) ?_
            rw [hQ]
            have c1 : ¬ ((vc_T I L y).sort ≠ 1 ∨ (k = 1 ∧ False)) := fun z => z.elim (fun z => z ((vc_is1 oy).mpr (Classical.not_not.mp h1))) (fun z => z.2)
            have xv : (vc_T I L y).val = vl_S L y := vc_valv (Or.inl (Classical.not_not.mp h1))
            have c2 : (vc_T I L d).sort = 4 ∨ (vc_T I L d).sort = 7 := Or.inr ((vc_is7 od).mpr (Classical.not_not.mp h6))
            have bv : (vc_T I L d).val = vl_S L d := vc_valv (Or.inr (Or.inr (Classical.not_not.mp h6)))
            have c3 : (vx_op k (vc_T I L d).val (vc_T I L y).val 63).least.toInt < -vx_far ∨ vx_far < (vx_op k (vc_T I L d).val (vc_T I L y).val 63).greatest.toInt := Or.inl (by rw [xv, bv]; exact (vx_i64 _ _).mp h21)
            have e : vx_move k (vc_T I L d) (vc_T I L y) = (2, (vc_T I L d)) := mv.trans (vx_mv2 c1 c2 c3)
            exact ⟨I, (vl_set L 169 (vb_tt (vb_cOp (vl_I k) (vl_S L d) (vl_S L y) 63))), by rw [e]; rfl, fun z => by rw [e] at z; exact absurd (show (2 : Nat) = 0 from z) (by decide), fun p hp => ⟨fun _ => rfl, fun f => vl_set_out (fun z => hp (Or.inr (by rw [z.1]; exact ⟨by decide, by decide⟩)))⟩⟩
          · refine jv_Wp.lift (fun _ Kz => jv_Ev.steps jv_i32 1 (pc' := 98) (l' := [(5, .ref y), (4, .ref d), (0, .ref 10), (1, .int (vl_I k)), (2, .ref d), (3, .ref y)]) (st' := [.ref 10]) rfl Kz) ?_
            refine jv_Wp.lift (fun _ Kz => jv_Ev.m jv_i32 (pc' := 101) (st' := [.ref 169]) (G' := (jv_H K I (vl_set L 169 (vb_tt (vb_cOp (vl_I k) (vl_S L d) (vl_S L y) 63))) R)) rfl rfl (jv_m_getR hC.k rfl rfl hC.rout) Kz) ?_
            refine jv_Wp.lift (fun _ Kz => jv_Ev.m jv_i32 (pc' := 104) (st' := [.long (Int64.ofBitVec ((vb_tt (vb_cOp (vl_I k) (vl_S L d) (vl_S L y) 63))).greatest)]) (G' := (jv_H K I (vl_set L 169 (vb_tt (vb_cOp (vl_I k) (vl_S L d) (vl_S L y) 63))) R)) rfl rfl (jv_m_getL hC.k169 rfl rfl (vl_rd5 _ _ _)) Kz) ?_
            refine jv_Wp.lift (fun _ Kz => jv_Ev.steps jv_i32 2 (pc' := 108) (l' := [(5, .ref y), (4, .ref d), (0, .ref 10), (1, .int (vl_I k)), (2, .ref d), (3, .ref y)]) (st' := [.int (lg_cmp (Int64.ofBitVec ((vb_tt (vb_cOp (vl_I k) (vl_S L d) (vl_S L y) 63))).greatest) (536870912 : Int64))]) rfl Kz) ?_
            refine jv_Wp.cnd jv_i32 (pt := 113) (pe := 111) (p := ((lg_cmp (Int64.ofBitVec ((vb_tt (vb_cOp (vl_I k) (vl_S L d) (vl_S L y) 63))).greatest) (536870912 : Int64)) ≤ 0)) (q := ((Int64.ofBitVec ((vb_tt (vb_cOp (vl_I k) (vl_S L d) (vl_S L y) 63))).greatest) ≤ (536870912 : Int64))) rfl jv_bi_le rfl rfl (lg_cmp_le (Int64.ofBitVec ((vb_tt (vb_cOp (vl_I k) (vl_S L d) (vl_S L y) 63))).greatest) (536870912 : Int64)) (fun h22 => ?_) (fun h22 => ?_)
            · refine jv_Wp.lift (fun _ Kz => jv_Ev.steps jv_i32 2 (pc' := 116) (l' := [(5, .ref y), (4, .ref d), (0, .ref 10), (1, .int (vl_I k)), (2, .ref d), (3, .ref y)]) (st' := [.ref d, .ref d]) rfl Kz) ?_
              refine jv_Wp.lift (fun _ Kz => jv_Ev.m jv_i32 (pc' := 119) (st' := [.int (I d 6), .ref d]) (G' := (jv_H K I (vl_set L 169 (vb_tt (vb_cOp (vl_I k) (vl_S L d) (vl_S L y) 63))) R)) rfl rfl (jv_m_getI hd rfl rfl rfl) Kz) ?_
              refine jv_Wp.lift (fun _ Kz => jv_Ev.steps jv_i32 1 (pc' := 121) (l' := [(5, .ref y), (4, .ref d), (0, .ref 10), (1, .int (vl_I k)), (2, .ref d), (3, .ref y)]) (st' := [.ref d, .int (I d 6), .ref d]) rfl Kz) ?_
              refine jv_Wp.lift (fun _ Kz => jv_Ev.m jv_i32 (pc' := 124) (st' := [.int (I d 7), .int (I d 6), .ref d]) (G' := (jv_H K I (vl_set L 169 (vb_tt (vb_cOp (vl_I k) (vl_S L d) (vl_S L y) 63))) R)) rfl rfl (jv_m_getI hd rfl rfl rfl) Kz) ?_
              refine jv_Wp.lift (fun _ Kz => jv_Ev.steps jv_i32 1 (pc' := 125) (l' := [(5, .ref y), (4, .ref d), (0, .ref 10), (1, .int (vl_I k)), (2, .ref d), (3, .ref y)]) (st' := [.long (0 : Int64), .int (I d 7), .int (I d 6), .ref d]) rfl Kz) ?_
              obtain ⟨I12, L12, H12, T12, O12, F12⟩ := vc_bec (I := I) (L := (vl_set L 169 (vb_tt (vb_cOp (vl_I k) (vl_S L d) (vl_S L y) 63)))) (R := R) (n := n) (sl := sl) (I d 6) (I d 7) (0 : Int64) hd (by rw [(Classical.not_not.mp h6)]; exact Or.inr (Or.inr (Or.inr (Or.inl ⟨Or.inr rfl, rfl, rfl⟩))))
              refine jv_Wp.lift (fun _ Kz => jv_Ev.c jv_i32 (pc' := 128) (S' := []) (G1 := (jv_H K I12 L12 R)) jv_i140 [.ref d, .int (I d 6), .int (I d 7), .long (0 : Int64)] rfl rfl rfl rfl (jv_cal rfl (jv_H_at hd) rfl rfl) rfl H12 rfl rfl Kz) ?_
              refine jv_Wp.lift (fun _ Kz => jv_Ev.steps jv_i32 2 (pc' := 130) (l' := [(5, .ref y), (4, .ref d), (0, .ref 10), (1, .int (vl_I k)), (2, .ref d), (3, .ref y)]) (st' := [.ref 10, .ref d]) rfl Kz) ?_
              refine jv_Wp.lift (fun _ Kz => jv_Ev.m jv_i32 (pc' := 133) (st' := [.ref 169, .ref d]) (G' := (jv_H K I12 L12 R)) rfl rfl (jv_m_getR hC.k rfl rfl hC.rout) Kz) ?_
              refine jv_Wp.lift (fun _ Kz => jv_Ev.c jv_i32 (pc' := 136) (S' := []) (G1 := (jv_H K I12 (vl_set L12 d (vl_S L12 169)) R)) jv_i151 [.ref d, .ref 169] rfl rfl rfl rfl (jv_cal rfl (jv_H_at hd) rfl rfl) rfl (vl_sayings2 (Or.inr hd) (Or.inl hC.k169)) rfl rfl Kz) ?_
              refine jv_Wp.lift (fun _ Kz => jv_Ev.steps jv_i32 1 (pc' := 137) (l' := [(5, .ref y), (4, .ref d), (0, .ref 10), (1, .int (vl_I k)), (2, .ref d), (3, .ref y)]) (st' := [.int (0 : Int32)]) rfl Kz) ?_
              refine jv_Wp.of (jv_Ev.ret jv_i32 rfl rfl) ?_
              rw [hQ]
              have c1 : ¬ ((vc_T I L y).sort ≠ 1 ∨ (k = 1 ∧ False)) := fun z => z.elim (fun z => z ((vc_is1 oy).mpr (Classical.not_not.mp h1))) (fun z => z.2)
              have xv : (vc_T I L y).val = vl_S L y := vc_valv (Or.inl (Classical.not_not.mp h1))
              have c2 : (vc_T I L d).sort = 4 ∨ (vc_T I L d).sort = 7 := Or.inr ((vc_is7 od).mpr (Classical.not_not.mp h6))
              have bv : (vc_T I L d).val = vl_S L d := vc_valv (Or.inr (Or.inr (Classical.not_not.mp h6)))
              have c3 : ¬ ((vx_op k (vc_T I L d).val (vc_T I L y).val 63).least.toInt < -vx_far ∨ vx_far < (vx_op k (vc_T I L d).val (vc_T I L y).val 63).greatest.toInt) := by
                rw [xv, bv]; exact fun z => z.elim (fun z => h21 ((vx_i64 _ _).mpr z)) (fun z => Int.not_le.mpr z ((vx_i64l _ _).mp h22))
              have e : vx_move k (vc_T I L d) (vc_T I L y) = (0, ((vc_T I L d).sort, (vc_T I L d).det, -1, (vx_op k (vc_T I L d).val (vc_T I L y).val 63))) := mv.trans (vx_mv3 c1 c2 c3)
              have dd := vc_det47 (L := L) (show I d 6 = 4 ∨ I d 6 = 7 from Or.inr (Classical.not_not.mp h6))
              have ev : vl_S L12 169 = (vx_op k (vc_T I L d).val (vc_T I L y).val 63) := by rw [vl_S_ext (fun f => (F12 169 n169).2 f), vl_set_S, xv, bv]; rfl
              refine ⟨_, _, by rw [e]; rfl, fun _ => ⟨?_, vc_set_ok O12⟩, fun p hp => ⟨fun f => (F12 p (fun z => hp (Or.inl z))).1 f, fun f => (vl_set_out (fun z => hp (Or.inl z.1))).trans (((F12 p (fun z => hp (Or.inl z))).2 f).trans (vl_set_out (fun z => hp (Or.inr (by rw [z.1]; exact ⟨by decide, by decide⟩)))))⟩⟩
              rw [vc_T_v O12 T12 (by rw [(Classical.not_not.mp h6)]; exact Or.inr (Or.inr rfl)), ev, e, dd.1, (Classical.not_not.mp h6)]
              show _ = ((vc_T I L d).sort, _, _, _)
              rw [show (vc_T I L d).sort = 7 from (vc_is7 od).mpr (Classical.not_not.mp h6)]
              rfl
            · refine jv_Wp.lift (fun _ Kz => jv_Ev.steps jv_i32 1 (pc' := 112) (l' := [(5, .ref y), (4, .ref d), (0, .ref 10), (1, .int (vl_I k)), (2, .ref d), (3, .ref y)]) (st' := [.int (2 : Int32)]) rfl Kz) ?_
              refine jv_Wp.of (jv_Ev.ret jv_i32 rfl rfl) ?_
              rw [hQ]
              have c1 : ¬ ((vc_T I L y).sort ≠ 1 ∨ (k = 1 ∧ False)) := fun z => z.elim (fun z => z ((vc_is1 oy).mpr (Classical.not_not.mp h1))) (fun z => z.2)
              have xv : (vc_T I L y).val = vl_S L y := vc_valv (Or.inl (Classical.not_not.mp h1))
              have c2 : (vc_T I L d).sort = 4 ∨ (vc_T I L d).sort = 7 := Or.inr ((vc_is7 od).mpr (Classical.not_not.mp h6))
              have bv : (vc_T I L d).val = vl_S L d := vc_valv (Or.inr (Or.inr (Classical.not_not.mp h6)))
              have c3 : (vx_op k (vc_T I L d).val (vc_T I L y).val 63).least.toInt < -vx_far ∨ vx_far < (vx_op k (vc_T I L d).val (vc_T I L y).val 63).greatest.toInt := Or.inr (by rw [xv, bv]; have q := (not_congr (vx_i64l _ _)).mp h22; exact Int.not_le.mp q)
              have e : vx_move k (vc_T I L d) (vc_T I L y) = (2, (vc_T I L d)) := mv.trans (vx_mv2 c1 c2 c3)
              exact ⟨I, (vl_set L 169 (vb_tt (vb_cOp (vl_I k) (vl_S L d) (vl_S L y) 63))), by rw [e]; rfl, fun z => by rw [e] at z; exact absurd (show (2 : Nat) = 0 from z) (by decide), fun p hp => ⟨fun _ => rfl, fun f => vl_set_out (fun z => hp (Or.inr (by rw [z.1]; exact ⟨by decide, by decide⟩)))⟩⟩
    · refine jv_Wp.lift (fun _ Kz => jv_Ev.steps jv_i32 2 (pc' := 45) (l' := [(5, .ref y), (4, .ref d), (0, .ref 10), (1, .int (vl_I k)), (2, .ref d), (3, .ref y)]) (st' := [.ref d, .ref d]) rfl Kz) ?_
      refine jv_Wp.cnd jv_i32 (pt := 50) (pe := 48) (p := (d = d)) (q := (d = d)) rfl (jv_ba_eq (by omega) (by omega)) rfl rfl Iff.rfl (fun _ => ?_) (fun hz => absurd rfl hz)
      refine jv_Wp.lift (fun _ Kz => jv_Ev.steps jv_i32 1 (pc' := 52) (l' := [(5, .ref y), (4, .ref d), (0, .ref 10), (1, .int (vl_I k)), (2, .ref d), (3, .ref y)]) (st' := [.ref d]) rfl Kz) ?_
      refine jv_Wp.lift (fun _ Kz => jv_Ev.m jv_i32 (pc' := 55) (st' := [.int (I d 6)]) (G' := (jv_H K I L R)) rfl rfl (jv_m_getI hd rfl rfl rfl) Kz) ?_
      refine jv_Wp.lift (fun _ Kz => jv_Ev.steps jv_i32 1 (pc' := 56) (l' := [(5, .ref y), (4, .ref d), (0, .ref 10), (1, .int (vl_I k)), (2, .ref d), (3, .ref y)]) (st' := [.int (4 : Int32), .int (I d 6)]) rfl Kz) ?_
      refine jv_Wp.cnd jv_i32 (pt := 69) (pe := 59) (p := ((I d 6) = (4 : Int32))) (q := ((I d 6) = (4 : Int32))) rfl jv_bc_eq rfl rfl Iff.rfl (fun h23 => ?_) (fun h23 => ?_)
      · refine jv_Wp.lift (fun _ Kz => jv_Ev.steps jv_i32 1 (pc' := 70) (l' := [(5, .ref y), (4, .ref d), (0, .ref 10), (1, .int (vl_I k)), (2, .ref d), (3, .ref y)]) (st' := [.ref 10]) rfl Kz) ?_
        refine jv_Wp.lift (fun _ Kz => jv_Ev.m jv_i32 (pc' := 73) (st' := [.ref 169]) (G' := (jv_H K I L R)) rfl rfl (jv_m_getR hC.k rfl rfl hC.rout) Kz) ?_
        refine jv_Wp.lift (fun _ Kz => jv_Ev.steps jv_i32 4 (pc' := 80) (l' := [(5, .ref y), (4, .ref d), (0, .ref 10), (1, .int (vl_I k)), (2, .ref d), (3, .ref y)]) (st' := [.int (63 : Int32), .ref y, .ref d, .int (vl_I k), .ref 169]) rfl Kz) ?_
        refine jv_Wp.lift (fun _ Kz => jv_Ev.c jv_i32 (pc' := 83) (S' := []) (G1 := (jv_H K I (vl_set L 169 (vb_tt (vb_cOp (vl_I k) (vl_S L d) (vl_S L y) 63))) R)) jv_i158 [.ref 169, .int (vl_I k), .ref d, .ref y, .int (63 : Int32)] rfl rfl rfl rfl (jv_cal rfl (jv_H_at hC.k169) rfl rfl) rfl (vl_operate (top := 63) hC.k169 (Or.inr hd) (Or.inr hy) (Or.inl ⟨rfl, rfl⟩) (vb_tight_le (tx (Classical.not_not.mp h1))) (hxd 169 (by decide) (by decide)) (hxy 169 (by decide) (by decide))) rfl rfl Kz) ?_
        refine jv_Wp.lift (fun _ Kz => jv_Ev.steps jv_i32 1 (pc' := 84) (l' := [(5, .ref y), (4, .ref d), (0, .ref 10), (1, .int (vl_I k)), (2, .ref d), (3, .ref y)]) (st' := [.ref 10]) rfl Kz) ?_
        refine jv_Wp.lift (fun _ Kz => jv_Ev.m jv_i32 (pc' := 87) (st' := [.ref 169]) (G' := (jv_H K I (vl_set L 169 (vb_tt (vb_cOp (vl_I k) (vl_S L d) (vl_S L y) 63))) R)) rfl rfl (jv_m_getR hC.k rfl rfl hC.rout) Kz) ?_
        refine jv_Wp.lift (fun _ Kz => jv_Ev.m jv_i32 (pc' := 90) (st' := [.long (Int64.ofBitVec ((vb_tt (vb_cOp (vl_I k) (vl_S L d) (vl_S L y) 63))).least)]) (G' := (jv_H K I (vl_set L 169 (vb_tt (vb_cOp (vl_I k) (vl_S L d) (vl_S L y) 63))) R)) rfl rfl (jv_m_getL hC.k169 rfl rfl (vl_rd4 _ _ _)) Kz) ?_
        refine jv_Wp.lift (fun _ Kz => jv_Ev.steps jv_i32 2 (pc' := 94) (l' := [(5, .ref y), (4, .ref d), (0, .ref 10), (1, .int (vl_I k)), (2, .ref d), (3, .ref y)]) (st' := [.int (lg_cmp (Int64.ofBitVec ((vb_tt (vb_cOp (vl_I k) (vl_S L d) (vl_S L y) 63))).least) (-536870912 : Int64))]) rfl Kz) ?_
        refine jv_Wp.cnd jv_i32 (pt := 111) (pe := 97) (p := ((lg_cmp (Int64.ofBitVec ((vb_tt (vb_cOp (vl_I k) (vl_S L d) (vl_S L y) 63))).least) (-536870912 : Int64)) < 0)) (q := ((Int64.ofBitVec ((vb_tt (vb_cOp (vl_I k) (vl_S L d) (vl_S L y) 63))).least) < (-536870912 : Int64))) rfl jv_bi_lt rfl rfl (lg_cmp_lt (Int64.ofBitVec ((vb_tt (vb_cOp (vl_I k) (vl_S L d) (vl_S L y) 63))).least) (-536870912 : Int64)) (fun h24 => ?_) (fun h24 => ?_)
        · refine jv_Wp.lift (fun _ Kz => jv_Ev.steps jv_i32 1 (pc' := 112) (l' := [(5, .ref y), (4, .ref d), (0, .ref 10), (1, .int (vl_I k)), (2, .ref d), (3, .ref y)]) (st' := [.int (2 : Int32)]) rfl Kz) ?_
          refine jv_Wp.of (jv_Ev.ret jv_i32 rfl rfl) ?_
          rw [hQ]
          have c1 : ¬ ((vc_T I L y).sort ≠ 1 ∨ (k = 1 ∧ False)) := fun z => z.elim (fun z => z ((vc_is1 oy).mpr (Classical.not_not.mp h1))) (fun z => z.2)
          have xv : (vc_T I L y).val = vl_S L y := vc_valv (Or.inl (Classical.not_not.mp h1))
          have c2 : (vc_T I L d).sort = 4 ∨ (vc_T I L d).sort = 7 := Or.inl ((vc_is4 od).mpr h23)
          have bv : (vc_T I L d).val = vl_S L d := vc_valv (Or.inr (Or.inl h23))
          have c3 : (vx_op k (vc_T I L d).val (vc_T I L y).val 63).least.toInt < -vx_far ∨ vx_far < (vx_op k (vc_T I L d).val (vc_T I L y).val 63).greatest.toInt := Or.inl (by rw [xv, bv]; exact (vx_i64 _ _).mp h24)
          have e : vx_move k (vc_T I L d) (vc_T I L y) = (2, (vc_T I L d)) := mv.trans (vx_mv2 c1 c2 c3)
          exact ⟨I, (vl_set L 169 (vb_tt (vb_cOp (vl_I k) (vl_S L d) (vl_S L y) 63))), by rw [e]; rfl, fun z => by rw [e] at z; exact absurd (show (2 : Nat) = 0 from z) (by decide), fun p hp => ⟨fun _ => rfl, fun f => vl_set_out (fun z => hp (Or.inr (by rw [z.1]; exact ⟨by decide, by decide⟩)))⟩⟩
        · refine jv_Wp.lift (fun _ Kz => jv_Ev.steps jv_i32 1 (pc' := 98) (l' := [(5, .ref y), (4, .ref d), (0, .ref 10), (1, .int (vl_I k)), (2, .ref d), (3, .ref y)]) (st' := [.ref 10]) rfl Kz) ?_
          refine jv_Wp.lift (fun _ Kz => jv_Ev.m jv_i32 (pc' := 101) (st' := [.ref 169]) (G' := (jv_H K I (vl_set L 169 (vb_tt (vb_cOp (vl_I k) (vl_S L d) (vl_S L y) 63))) R)) rfl rfl (jv_m_getR hC.k rfl rfl hC.rout) Kz) ?_
          refine jv_Wp.lift (fun _ Kz => jv_Ev.m jv_i32 (pc' := 104) (st' := [.long (Int64.ofBitVec ((vb_tt (vb_cOp (vl_I k) (vl_S L d) (vl_S L y) 63))).greatest)]) (G' := (jv_H K I (vl_set L 169 (vb_tt (vb_cOp (vl_I k) (vl_S L d) (vl_S L y) 63))) R)) rfl rfl (jv_m_getL hC.k169 rfl rfl (vl_rd5 _ _ _)) Kz) ?_
          refine jv_Wp.lift (fun _ Kz => jv_Ev.steps jv_i32 2 (pc' := 108) (l' := [(5, .ref y), (4, .ref d), (0, .ref 10), (1, .int (vl_I k)), (2, .ref d), (3, .ref y)]) (st' := [.int (lg_cmp (Int64.ofBitVec ((vb_tt (vb_cOp (vl_I k) (vl_S L d) (vl_S L y) 63))).greatest) (536870912 : Int64))]) rfl Kz) ?_
          refine jv_Wp.cnd jv_i32 (pt := 113) (pe := 111) (p := ((lg_cmp (Int64.ofBitVec ((vb_tt (vb_cOp (vl_I k) (vl_S L d) (vl_S L y) 63))).greatest) (536870912 : Int64)) ≤ 0)) (q := ((Int64.ofBitVec ((vb_tt (vb_cOp (vl_I k) (vl_S L d) (vl_S L y) 63))).greatest) ≤ (536870912 : Int64))) rfl jv_bi_le rfl rfl (lg_cmp_le (Int64.ofBitVec ((vb_tt (vb_cOp (vl_I k) (vl_S L d) (vl_S L y) 63))).greatest) (536870912 : Int64)) (fun h25 => ?_) (fun h25 => ?_)
          · refine jv_Wp.lift (fun _ Kz => jv_Ev.steps jv_i32 2 (pc' := 116) (l' := [(5, .ref y), (4, .ref d), (0, .ref 10), (1, .int (vl_I k)), (2, .ref d), (3, .ref y)]) (st' := [.ref d, .ref d]) rfl Kz) ?_
            refine jv_Wp.lift (fun _ Kz => jv_Ev.m jv_i32 (pc' := 119) (st' := [.int (I d 6), .ref d]) (G' := (jv_H K I (vl_set L 169 (vb_tt (vb_cOp (vl_I k) (vl_S L d) (vl_S L y) 63))) R)) rfl rfl (jv_m_getI hd rfl rfl rfl) Kz) ?_
            refine jv_Wp.lift (fun _ Kz => jv_Ev.steps jv_i32 1 (pc' := 121) (l' := [(5, .ref y), (4, .ref d), (0, .ref 10), (1, .int (vl_I k)), (2, .ref d), (3, .ref y)]) (st' := [.ref d, .int (I d 6), .ref d]) rfl Kz) ?_
            refine jv_Wp.lift (fun _ Kz => jv_Ev.m jv_i32 (pc' := 124) (st' := [.int (I d 7), .int (I d 6), .ref d]) (G' := (jv_H K I (vl_set L 169 (vb_tt (vb_cOp (vl_I k) (vl_S L d) (vl_S L y) 63))) R)) rfl rfl (jv_m_getI hd rfl rfl rfl) Kz) ?_
            refine jv_Wp.lift (fun _ Kz => jv_Ev.steps jv_i32 1 (pc' := 125) (l' := [(5, .ref y), (4, .ref d), (0, .ref 10), (1, .int (vl_I k)), (2, .ref d), (3, .ref y)]) (st' := [.long (0 : Int64), .int (I d 7), .int (I d 6), .ref d]) rfl Kz) ?_
            obtain ⟨I13, L13, H13, T13, O13, F13⟩ := vc_bec (I := I) (L := (vl_set L 169 (vb_tt (vb_cOp (vl_I k) (vl_S L d) (vl_S L y) 63)))) (R := R) (n := n) (sl := sl) (I d 6) (I d 7) (0 : Int64) hd (by rw [vc_W_m od (by rw [h23]; decide), h23]; exact Or.inr (Or.inl ⟨Or.inr (Or.inl rfl), rfl, rfl, rfl⟩))
            refine jv_Wp.lift (fun _ Kz => jv_Ev.c jv_i32 (pc' := 128) (S' := []) (G1 := (jv_H K I13 L13 R)) jv_i140 [.ref d, .int (I d 6), .int (I d 7), .long (0 : Int64)] rfl rfl rfl rfl (jv_cal rfl (jv_H_at hd) rfl rfl) rfl H13 rfl rfl Kz) ?_
            refine jv_Wp.lift (fun _ Kz => jv_Ev.steps jv_i32 2 (pc' := 130) (l' := [(5, .ref y), (4, .ref d), (0, .ref 10), (1, .int (vl_I k)), (2, .ref d), (3, .ref y)]) (st' := [.ref 10, .ref d]) rfl Kz) ?_
            refine jv_Wp.lift (fun _ Kz => jv_Ev.m jv_i32 (pc' := 133) (st' := [.ref 169, .ref d]) (G' := (jv_H K I13 L13 R)) rfl rfl (jv_m_getR hC.k rfl rfl hC.rout) Kz) ?_
            refine jv_Wp.lift (fun _ Kz => jv_Ev.c jv_i32 (pc' := 136) (S' := []) (G1 := (jv_H K I13 (vl_set L13 d (vl_S L13 169)) R)) jv_i151 [.ref d, .ref 169] rfl rfl rfl rfl (jv_cal rfl (jv_H_at hd) rfl rfl) rfl (vl_sayings2 (Or.inr hd) (Or.inl hC.k169)) rfl rfl Kz) ?_
            refine jv_Wp.lift (fun _ Kz => jv_Ev.steps jv_i32 1 (pc' := 137) (l' := [(5, .ref y), (4, .ref d), (0, .ref 10), (1, .int (vl_I k)), (2, .ref d), (3, .ref y)]) (st' := [.int (0 : Int32)]) rfl Kz) ?_
            refine jv_Wp.of (jv_Ev.ret jv_i32 rfl rfl) ?_
            rw [hQ]
            have c1 : ¬ ((vc_T I L y).sort ≠ 1 ∨ (k = 1 ∧ False)) := fun z => z.elim (fun z => z ((vc_is1 oy).mpr (Classical.not_not.mp h1))) (fun z => z.2)
            have xv : (vc_T I L y).val = vl_S L y := vc_valv (Or.inl (Classical.not_not.mp h1))
            have c2 : (vc_T I L d).sort = 4 ∨ (vc_T I L d).sort = 7 := Or.inl ((vc_is4 od).mpr h23)
            have bv : (vc_T I L d).val = vl_S L d := vc_valv (Or.inr (Or.inl h23))
            have c3 : ¬ ((vx_op k (vc_T I L d).val (vc_T I L y).val 63).least.toInt < -vx_far ∨ vx_far < (vx_op k (vc_T I L d).val (vc_T I L y).val 63).greatest.toInt) := by
              rw [xv, bv]; exact fun z => z.elim (fun z => h24 ((vx_i64 _ _).mpr z)) (fun z => Int.not_le.mpr z ((vx_i64l _ _).mp h25))
            have e : vx_move k (vc_T I L d) (vc_T I L y) = (0, ((vc_T I L d).sort, (vc_T I L d).det, -1, (vx_op k (vc_T I L d).val (vc_T I L y).val 63))) := mv.trans (vx_mv3 c1 c2 c3)
            have dd := vc_det47 (L := L) (show I d 6 = 4 ∨ I d 6 = 7 from Or.inl h23)
            have ev : vl_S L13 169 = (vx_op k (vc_T I L d).val (vc_T I L y).val 63) := by rw [vl_S_ext (fun f => (F13 169 n169).2 f), vl_set_S, xv, bv]; rfl
            refine ⟨_, _, by rw [e]; rfl, fun _ => ⟨?_, vc_set_ok O13⟩, fun p hp => ⟨fun f => (F13 p (fun z => hp (Or.inl z))).1 f, fun f => (vl_set_out (fun z => hp (Or.inl z.1))).trans (((F13 p (fun z => hp (Or.inl z))).2 f).trans (vl_set_out (fun z => hp (Or.inr (by rw [z.1]; exact ⟨by decide, by decide⟩)))))⟩⟩
            rw [vc_T_v O13 T13 (by rw [h23]; exact Or.inr (Or.inl rfl)), ev, e, dd.1, h23]
            show _ = ((vc_T I L d).sort, _, _, _)
            rw [show (vc_T I L d).sort = 4 from (vc_is4 od).mpr h23]
            rfl
          · refine jv_Wp.lift (fun _ Kz => jv_Ev.steps jv_i32 1 (pc' := 112) (l' := [(5, .ref y), (4, .ref d), (0, .ref 10), (1, .int (vl_I k)), (2, .ref d), (3, .ref y)]) (st' := [.int (2 : Int32)]) rfl Kz) ?_
            refine jv_Wp.of (jv_Ev.ret jv_i32 rfl rfl) ?_
            rw [hQ]
            have c1 : ¬ ((vc_T I L y).sort ≠ 1 ∨ (k = 1 ∧ False)) := fun z => z.elim (fun z => z ((vc_is1 oy).mpr (Classical.not_not.mp h1))) (fun z => z.2)
            have xv : (vc_T I L y).val = vl_S L y := vc_valv (Or.inl (Classical.not_not.mp h1))
            have c2 : (vc_T I L d).sort = 4 ∨ (vc_T I L d).sort = 7 := Or.inl ((vc_is4 od).mpr h23)
            have bv : (vc_T I L d).val = vl_S L d := vc_valv (Or.inr (Or.inl h23))
            have c3 : (vx_op k (vc_T I L d).val (vc_T I L y).val 63).least.toInt < -vx_far ∨ vx_far < (vx_op k (vc_T I L d).val (vc_T I L y).val 63).greatest.toInt := Or.inr (by rw [xv, bv]; have q := (not_congr (vx_i64l _ _)).mp h25; exact Int.not_le.mp q)
            have e : vx_move k (vc_T I L d) (vc_T I L y) = (2, (vc_T I L d)) := mv.trans (vx_mv2 c1 c2 c3)
            exact ⟨I, (vl_set L 169 (vb_tt (vb_cOp (vl_I k) (vl_S L d) (vl_S L y) 63))), by rw [e]; rfl, fun z => by rw [e] at z; exact absurd (show (2 : Nat) = 0 from z) (by decide), fun p hp => ⟨fun _ => rfl, fun f => vl_set_out (fun z => hp (Or.inr (by rw [z.1]; exact ⟨by decide, by decide⟩)))⟩⟩
      · refine jv_Wp.lift (fun _ Kz => jv_Ev.steps jv_i32 1 (pc' := 61) (l' := [(5, .ref y), (4, .ref d), (0, .ref 10), (1, .int (vl_I k)), (2, .ref d), (3, .ref y)]) (st' := [.ref d]) rfl Kz) ?_
        refine jv_Wp.lift (fun _ Kz => jv_Ev.m jv_i32 (pc' := 64) (st' := [.int (I d 6)]) (G' := (jv_H K I L R)) rfl rfl (jv_m_getI hd rfl rfl rfl) Kz) ?_
        refine jv_Wp.lift (fun _ Kz => jv_Ev.steps jv_i32 1 (pc' := 66) (l' := [(5, .ref y), (4, .ref d), (0, .ref 10), (1, .int (vl_I k)), (2, .ref d), (3, .ref y)]) (st' := [.int (7 : Int32), .int (I d 6)]) rfl Kz) ?_
        refine jv_Wp.cnd jv_i32 (pt := 138) (pe := 69) (p := (¬ (I d 6) = (7 : Int32))) (q := (¬ (I d 6) = (7 : Int32))) rfl jv_bc_ne rfl rfl Iff.rfl (fun h26 => ?_) (fun h26 => ?_)
        · refine jv_Wp.lift (fun _ Kz => jv_Ev.steps jv_i32 1 (pc' := 140) (l' := [(5, .ref y), (4, .ref d), (0, .ref 10), (1, .int (vl_I k)), (2, .ref d), (3, .ref y)]) (st' := [.ref d]) rfl Kz) ?_
          refine jv_Wp.lift (fun _ Kz => jv_Ev.m jv_i32 (pc' := 143) (st' := [.int (I d 6)]) (G' := (jv_H K I L R)) rfl rfl (jv_m_getI hd rfl rfl rfl) Kz) ?_
          refine jv_Wp.lift (fun _ Kz => jv_Ev.steps jv_i32 1 (pc' := 144) (l' := [(5, .ref y), (4, .ref d), (0, .ref 10), (1, .int (vl_I k)), (2, .ref d), (3, .ref y)]) (st' := [.int (2 : Int32), .int (I d 6)]) rfl Kz) ?_
          refine jv_Wp.cnd jv_i32 (pt := 156) (pe := 147) (p := ((I d 6) = (2 : Int32))) (q := ((I d 6) = (2 : Int32))) rfl jv_bc_eq rfl rfl Iff.rfl (fun h27 => ?_) (fun h27 => ?_)
          · refine jv_Wp.lift (fun _ Kz => jv_Ev.steps jv_i32 1 (pc' := 158) (l' := [(5, .ref y), (4, .ref d), (0, .ref 10), (1, .int (vl_I k)), (2, .ref d), (3, .ref y)]) (st' := [.ref y]) rfl Kz) ?_
            refine jv_Wp.lift (fun _ Kz => jv_Ev.c jv_i32 (pc' := 161) (S' := [.int (vr_b (decide ((vl_S L y).low = (vl_S L y).high)))]) jv_i153 [.ref y] rfl rfl rfl rfl (jv_cal rfl (jv_H_at hy) rfl rfl) rfl (vl_single (Or.inr hy)) rfl rfl Kz) ?_
            refine jv_Wp.cnd jv_i32 (pt := 166) (pe := 164) (p := (¬ (vr_b (decide ((vl_S L y).low = (vl_S L y).high))) = 0)) (q := (¬ (vr_b (decide ((vl_S L y).low = (vl_S L y).high))) = 0)) rfl jv_bi_ne rfl rfl Iff.rfl (fun h28 => ?_) (fun h28 => ?_)
            · refine jv_Wp.lift (fun _ Kz => jv_Ev.steps jv_i32 1 (pc' := 167) (l' := [(5, .ref y), (4, .ref d), (0, .ref 10), (1, .int (vl_I k)), (2, .ref d), (3, .ref y)]) (st' := [.int (vl_I k)]) rfl Kz) ?_
              refine jv_Wp.cnd jv_i32 (pt := 184) (pe := 170) (p := (¬ (vl_I k) = 0)) (q := (¬ (vl_I k) = 0)) rfl jv_bi_ne rfl rfl Iff.rfl (fun h29 => ?_) (fun h29 => ?_)
              · refine jv_Wp.lift (fun _ Kz => jv_Ev.steps jv_i32 1 (pc' := 186) (l' := [(5, .ref y), (4, .ref d), (0, .ref 10), (1, .int (vl_I k)), (2, .ref d), (3, .ref y)]) (st' := [.ref d]) rfl Kz) ?_
                refine jv_Wp.lift (fun _ Kz => jv_Ev.m jv_i32 (pc' := 189) (st' := [.long (L d 8)]) (G' := (jv_H K I L R)) rfl rfl (jv_m_getL hd rfl rfl rfl) Kz) ?_
                refine jv_Wp.lift (fun _ Kz => jv_Ev.steps jv_i32 1 (pc' := 191) (l' := [(5, .ref y), (4, .ref d), (0, .ref 10), (1, .int (vl_I k)), (2, .ref d), (3, .ref y)]) (st' := [.ref y, .long (L d 8)]) rfl Kz) ?_
                refine jv_Wp.lift (fun _ Kz => jv_Ev.m jv_i32 (pc' := 194) (st' := [.long (L y 2), .long (L d 8)]) (G' := (jv_H K I L R)) rfl rfl (jv_m_getL hy rfl rfl rfl) Kz) ?_
                refine jv_Wp.lift (fun _ Kz => jv_Ev.steps jv_i32 5 (pc' := 203) (l' := [(6, .long ((L d 8) - (L y 2))), (5, .ref y), (4, .ref d), (0, .ref 10), (1, .int (vl_I k)), (2, .ref d), (3, .ref y)]) (st' := [.int (lg_cmp ((L d 8) - (L y 2)) (-536870912 : Int64))]) rfl Kz) ?_
                refine jv_Wp.cnd jv_i32 (pt := 215) (pe := 206) (p := ((lg_cmp ((L d 8) - (L y 2)) (-536870912 : Int64)) < 0)) (q := (((L d 8) - (L y 2)) < (-536870912 : Int64))) rfl jv_bi_lt rfl rfl (lg_cmp_lt ((L d 8) - (L y 2)) (-536870912 : Int64)) (fun h30 => ?_) (fun h30 => ?_)
                · refine jv_Wp.lift (fun _ Kz => jv_Ev.steps jv_i32 1 (pc' := 216) (l' := [(6, .long ((L d 8) - (L y 2))), (5, .ref y), (4, .ref d), (0, .ref 10), (1, .int (vl_I k)), (2, .ref d), (3, .ref y)]) (st' := [.int (2 : Int32)]) rfl Kz) ?_
                  refine jv_Wp.of (jv_Ev.ret jv_i32 rfl rfl) ?_
                  rw [hQ]
                  have c1 : ¬ ((vc_T I L y).sort ≠ 1 ∨ (k = 1 ∧ False)) := fun z => z.elim (fun z => z ((vc_is1 oy).mpr (Classical.not_not.mp h1))) (fun z => z.2)
                  have xv : (vc_T I L y).val = vl_S L y := vc_valv (Or.inl (Classical.not_not.mp h1))
                  have c2 : ¬ ((vc_T I L d).sort = 4 ∨ (vc_T I L d).sort = 7) := fun z => z.elim (fun z => h23 ((vc_is4 od).mp z)) (fun z => h26 ((vc_is7 od).mp z))
                  have es : (vl_S L y).low = (vl_S L y).high := Classical.byContradiction (fun z => h28 (by rw [decide_eq_false z]; rfl))
                  have bs : (vc_T I L d).sort = 2 := (vc_is2 od).mpr h27
                  have c3 : ¬ (((vc_T I L d).sort ≠ 2 ∧ (vc_T I L d).sort ≠ 3) ∨ (vc_T I L y).val.low ≠ (vc_T I L y).val.high) := by rw [xv, bs]; exact fun z => z.elim (fun z => z.1 rfl) (fun z => z es)
                  have bd : (vc_T I L d).det = (L d 8).toInt := vc_detk (Or.inl h27)
                  have far := hfar (Or.inl h27)
                  have W := vx_wrap (n := k) (L d 8) (L y 2) far ((L d 8) - (L y 2)) (if_neg (show ¬ k = 0 from fun z => h29 (by rw [z]; rfl))).symm
                  rw [show (L y 2).toInt = (vc_T I L y).val.low.toInt from by rw [xv]; rfl, ← bd] at W
                  have e : vx_move k (vc_T I L d) (vc_T I L y) = (2, (vc_T I L d)) := mv.trans (vx_mv5 c1 c2 c3 (W.1.mp (Or.inl (Int64.lt_iff_toInt_lt.mp h30))))
                  exact ⟨I, L, by rw [e]; rfl, fun z => by rw [e] at z; exact absurd (show (2 : Nat) = 0 from z) (by decide), vc_fr_refl _ _⟩
                · refine jv_Wp.lift (fun _ Kz => jv_Ev.steps jv_i32 3 (pc' := 212) (l' := [(6, .long ((L d 8) - (L y 2))), (5, .ref y), (4, .ref d), (0, .ref 10), (1, .int (vl_I k)), (2, .ref d), (3, .ref y)]) (st' := [.int (lg_cmp ((L d 8) - (L y 2)) (536870912 : Int64))]) rfl Kz) ?_
                  refine jv_Wp.cnd jv_i32 (pt := 217) (pe := 215) (p := ((lg_cmp ((L d 8) - (L y 2)) (536870912 : Int64)) ≤ 0)) (q := (((L d 8) - (L y 2)) ≤ (536870912 : Int64))) rfl jv_bi_le rfl rfl (lg_cmp_le ((L d 8) - (L y 2)) (536870912 : Int64)) (fun h31 => ?_) (fun h31 => ?_)
                  · refine jv_Wp.lift (fun _ Kz => jv_Ev.steps jv_i32 2 (pc' := 220) (l' := [(6, .long ((L d 8) - (L y 2))), (5, .ref y), (4, .ref d), (0, .ref 10), (1, .int (vl_I k)), (2, .ref d), (3, .ref y)]) (st' := [.ref d, .ref d]) rfl Kz) ?_
                    refine jv_Wp.lift (fun _ Kz => jv_Ev.m jv_i32 (pc' := 223) (st' := [.int (I d 6), .ref d]) (G' := (jv_H K I L R)) rfl rfl (jv_m_getI hd rfl rfl rfl) Kz) ?_
                    refine jv_Wp.lift (fun _ Kz => jv_Ev.steps jv_i32 2 (pc' := 226) (l' := [(6, .long ((L d 8) - (L y 2))), (5, .ref y), (4, .ref d), (0, .ref 10), (1, .int (vl_I k)), (2, .ref d), (3, .ref y)]) (st' := [.long ((L d 8) - (L y 2)), .int (0 : Int32), .int (I d 6), .ref d]) rfl Kz) ?_
                    obtain ⟨I14, L14, H14, T14, O14, F14⟩ := vc_bec (I := I) (L := L) (R := R) (n := n) (sl := sl) (I d 6) (0 : Int32) ((L d 8) - (L y 2)) hd (by rw [h27]; exact Or.inr (Or.inr (Or.inl ⟨Or.inl rfl, rfl, rfl⟩)))
                    refine jv_Wp.lift (fun _ Kz => jv_Ev.c jv_i32 (pc' := 229) (S' := []) (G1 := (jv_H K I14 L14 R)) jv_i140 [.ref d, .int (I d 6), .int (0 : Int32), .long ((L d 8) - (L y 2))] rfl rfl rfl rfl (jv_cal rfl (jv_H_at hd) rfl rfl) rfl H14 rfl rfl Kz) ?_
                    refine jv_Wp.lift (fun _ Kz => jv_Ev.steps jv_i32 1 (pc' := 230) (l' := [(6, .long ((L d 8) - (L y 2))), (5, .ref y), (4, .ref d), (0, .ref 10), (1, .int (vl_I k)), (2, .ref d), (3, .ref y)]) (st' := [.int (0 : Int32)]) rfl Kz) ?_
                    refine jv_Wp.of (jv_Ev.ret jv_i32 rfl rfl) ?_
                    rw [hQ]
                    have c1 : ¬ ((vc_T I L y).sort ≠ 1 ∨ (k = 1 ∧ False)) := fun z => z.elim (fun z => z ((vc_is1 oy).mpr (Classical.not_not.mp h1))) (fun z => z.2)
                    have xv : (vc_T I L y).val = vl_S L y := vc_valv (Or.inl (Classical.not_not.mp h1))
                    have c2 : ¬ ((vc_T I L d).sort = 4 ∨ (vc_T I L d).sort = 7) := fun z => z.elim (fun z => h23 ((vc_is4 od).mp z)) (fun z => h26 ((vc_is7 od).mp z))
                    have es : (vl_S L y).low = (vl_S L y).high := Classical.byContradiction (fun z => h28 (by rw [decide_eq_false z]; rfl))
                    have bs : (vc_T I L d).sort = 2 := (vc_is2 od).mpr h27
                    have c3 : ¬ (((vc_T I L d).sort ≠ 2 ∧ (vc_T I L d).sort ≠ 3) ∨ (vc_T I L y).val.low ≠ (vc_T I L y).val.high) := by rw [xv, bs]; exact fun z => z.elim (fun z => z.1 rfl) (fun z => z es)
                    have bd : (vc_T I L d).det = (L d 8).toInt := vc_detk (Or.inl h27)
                    have far := hfar (Or.inl h27)
                    have W := vx_wrap (n := k) (L d 8) (L y 2) far ((L d 8) - (L y 2)) (if_neg (show ¬ k = 0 from fun z => h29 (by rw [z]; rfl))).symm
                    rw [show (L y 2).toInt = (vc_T I L y).val.low.toInt from by rw [xv]; rfl, ← bd] at W
                    have c4 : ¬ (vx_mvc k (vc_T I L d).det (vc_T I L y).val.low.toInt < -vx_far ∨ vx_far < vx_mvc k (vc_T I L d).det (vc_T I L y).val.low.toInt) := fun z => (W.1.mpr z).elim (fun z => h30 (Int64.lt_iff_toInt_lt.mpr z)) (fun z => Int.not_le.mpr z (Int64.le_iff_toInt_le.mp h31))
                    have e : vx_move k (vc_T I L d) (vc_T I L y) = (0, ((vc_T I L d).sort, vx_mvc k (vc_T I L d).det (vc_T I L y).val.low.toInt, -1, vb_any)) := mv.trans (vx_mv6 c1 c2 c3 c4)
                    refine ⟨_, _, by rw [e]; rfl, fun _ => ⟨?_, O14⟩, fun p hp => F14 p (fun z => hp (Or.inl z))⟩
                    rw [T14, e, bs, ← W.2 c4, h27]
                    rfl
                  · refine jv_Wp.lift (fun _ Kz => jv_Ev.steps jv_i32 1 (pc' := 216) (l' := [(6, .long ((L d 8) - (L y 2))), (5, .ref y), (4, .ref d), (0, .ref 10), (1, .int (vl_I k)), (2, .ref d), (3, .ref y)]) (st' := [.int (2 : Int32)]) rfl Kz) ?_
                    refine jv_Wp.of (jv_Ev.ret jv_i32 rfl rfl) ?_
                    rw [hQ]
                    have c1 : ¬ ((vc_T I L y).sort ≠ 1 ∨ (k = 1 ∧ False)) := fun z => z.elim (fun z => z ((vc_is1 oy).mpr (Classical.not_not.mp h1))) (fun z => z.2)
                    have xv : (vc_T I L y).val = vl_S L y := vc_valv (Or.inl (Classical.not_not.mp h1))
                    have c2 : ¬ ((vc_T I L d).sort = 4 ∨ (vc_T I L d).sort = 7) := fun z => z.elim (fun z => h23 ((vc_is4 od).mp z)) (fun z => h26 ((vc_is7 od).mp z))
                    have es : (vl_S L y).low = (vl_S L y).high := Classical.byContradiction (fun z => h28 (by rw [decide_eq_false z]; rfl))
                    have bs : (vc_T I L d).sort = 2 := (vc_is2 od).mpr h27
                    have c3 : ¬ (((vc_T I L d).sort ≠ 2 ∧ (vc_T I L d).sort ≠ 3) ∨ (vc_T I L y).val.low ≠ (vc_T I L y).val.high) := by rw [xv, bs]; exact fun z => z.elim (fun z => z.1 rfl) (fun z => z es)
                    have bd : (vc_T I L d).det = (L d 8).toInt := vc_detk (Or.inl h27)
                    have far := hfar (Or.inl h27)
                    have W := vx_wrap (n := k) (L d 8) (L y 2) far ((L d 8) - (L y 2)) (if_neg (show ¬ k = 0 from fun z => h29 (by rw [z]; rfl))).symm
                    rw [show (L y 2).toInt = (vc_T I L y).val.low.toInt from by rw [xv]; rfl, ← bd] at W
                    have e : vx_move k (vc_T I L d) (vc_T I L y) = (2, (vc_T I L d)) := mv.trans (vx_mv5 c1 c2 c3 (W.1.mp (Or.inr (Int.not_le.mp ((not_congr Int64.le_iff_toInt_le).mp h31)))))
                    exact ⟨I, L, by rw [e]; rfl, fun z => by rw [e] at z; exact absurd (show (2 : Nat) = 0 from z) (by decide), vc_fr_refl _ _⟩
              · refine jv_Wp.lift (fun _ Kz => jv_Ev.steps jv_i32 1 (pc' := 172) (l' := [(5, .ref y), (4, .ref d), (0, .ref 10), (1, .int (vl_I k)), (2, .ref d), (3, .ref y)]) (st' := [.ref d]) rfl Kz) ?_
                refine jv_Wp.lift (fun _ Kz => jv_Ev.m jv_i32 (pc' := 175) (st' := [.long (L d 8)]) (G' := (jv_H K I L R)) rfl rfl (jv_m_getL hd rfl rfl rfl) Kz) ?_
                refine jv_Wp.lift (fun _ Kz => jv_Ev.steps jv_i32 1 (pc' := 177) (l' := [(5, .ref y), (4, .ref d), (0, .ref 10), (1, .int (vl_I k)), (2, .ref d), (3, .ref y)]) (st' := [.ref y, .long (L d 8)]) rfl Kz) ?_
                refine jv_Wp.lift (fun _ Kz => jv_Ev.m jv_i32 (pc' := 180) (st' := [.long (L y 2), .long (L d 8)]) (G' := (jv_H K I L R)) rfl rfl (jv_m_getL hy rfl rfl rfl) Kz) ?_
                refine jv_Wp.lift (fun _ Kz => jv_Ev.steps jv_i32 6 (pc' := 203) (l' := [(6, .long ((L d 8) + (L y 2))), (5, .ref y), (4, .ref d), (0, .ref 10), (1, .int (vl_I k)), (2, .ref d), (3, .ref y)]) (st' := [.int (lg_cmp ((L d 8) + (L y 2)) (-536870912 : Int64))]) rfl Kz) ?_
                refine jv_Wp.cnd jv_i32 (pt := 215) (pe := 206) (p := ((lg_cmp ((L d 8) + (L y 2)) (-536870912 : Int64)) < 0)) (q := (((L d 8) + (L y 2)) < (-536870912 : Int64))) rfl jv_bi_lt rfl rfl (lg_cmp_lt ((L d 8) + (L y 2)) (-536870912 : Int64)) (fun h32 => ?_) (fun h32 => ?_)
                · refine jv_Wp.lift (fun _ Kz => jv_Ev.steps jv_i32 1 (pc' := 216) (l' := [(6, .long ((L d 8) + (L y 2))), (5, .ref y), (4, .ref d), (0, .ref 10), (1, .int (vl_I k)), (2, .ref d), (3, .ref y)]) (st' := [.int (2 : Int32)]) rfl Kz) ?_
                  refine jv_Wp.of (jv_Ev.ret jv_i32 rfl rfl) ?_
                  rw [hQ]
                  have c1 : ¬ ((vc_T I L y).sort ≠ 1 ∨ (k = 1 ∧ False)) := fun z => z.elim (fun z => z ((vc_is1 oy).mpr (Classical.not_not.mp h1))) (fun z => z.2)
                  have xv : (vc_T I L y).val = vl_S L y := vc_valv (Or.inl (Classical.not_not.mp h1))
                  have c2 : ¬ ((vc_T I L d).sort = 4 ∨ (vc_T I L d).sort = 7) := fun z => z.elim (fun z => h23 ((vc_is4 od).mp z)) (fun z => h26 ((vc_is7 od).mp z))
                  have es : (vl_S L y).low = (vl_S L y).high := Classical.byContradiction (fun z => h28 (by rw [decide_eq_false z]; rfl))
                  have bs : (vc_T I L d).sort = 2 := (vc_is2 od).mpr h27
                  have c3 : ¬ (((vc_T I L d).sort ≠ 2 ∧ (vc_T I L d).sort ≠ 3) ∨ (vc_T I L y).val.low ≠ (vc_T I L y).val.high) := by rw [xv, bs]; exact fun z => z.elim (fun z => z.1 rfl) (fun z => z es)
                  have bd : (vc_T I L d).det = (L d 8).toInt := vc_detk (Or.inl h27)
                  have far := hfar (Or.inl h27)
                  have W := vx_wrap (n := k) (L d 8) (L y 2) far ((L d 8) + (L y 2)) (if_pos (show k = 0 from ((vl_I_inj (by omega) (by decide)).mp (Classical.not_not.mp h29)))).symm
                  rw [show (L y 2).toInt = (vc_T I L y).val.low.toInt from by rw [xv]; rfl, ← bd] at W
                  have e : vx_move k (vc_T I L d) (vc_T I L y) = (2, (vc_T I L d)) := mv.trans (vx_mv5 c1 c2 c3 (W.1.mp (Or.inl (Int64.lt_iff_toInt_lt.mp h32))))
                  exact ⟨I, L, by rw [e]; rfl, fun z => by rw [e] at z; exact absurd (show (2 : Nat) = 0 from z) (by decide), vc_fr_refl _ _⟩
                · refine jv_Wp.lift (fun _ Kz => jv_Ev.steps jv_i32 3 (pc' := 212) (l' := [(6, .long ((L d 8) + (L y 2))), (5, .ref y), (4, .ref d), (0, .ref 10), (1, .int (vl_I k)), (2, .ref d), (3, .ref y)]) (st' := [.int (lg_cmp ((L d 8) + (L y 2)) (536870912 : Int64))]) rfl Kz) ?_
                  refine jv_Wp.cnd jv_i32 (pt := 217) (pe := 215) (p := ((lg_cmp ((L d 8) + (L y 2)) (536870912 : Int64)) ≤ 0)) (q := (((L d 8) + (L y 2)) ≤ (536870912 : Int64))) rfl jv_bi_le rfl rfl (lg_cmp_le ((L d 8) + (L y 2)) (536870912 : Int64)) (fun h33 => ?_) (fun h33 => ?_)
                  · refine jv_Wp.lift (fun _ Kz => jv_Ev.steps jv_i32 2 (pc' := 220) (l' := [(6, .long ((L d 8) + (L y 2))), (5, .ref y), (4, .ref d), (0, .ref 10), (1, .int (vl_I k)), (2, .ref d), (3, .ref y)]) (st' := [.ref d, .ref d]) rfl Kz) ?_
                    refine jv_Wp.lift (fun _ Kz => jv_Ev.m jv_i32 (pc' := 223) (st' := [.int (I d 6), .ref d]) (G' := (jv_H K I L R)) rfl rfl (jv_m_getI hd rfl rfl rfl) Kz) ?_
                    refine jv_Wp.lift (fun _ Kz => jv_Ev.steps jv_i32 2 (pc' := 226) (l' := [(6, .long ((L d 8) + (L y 2))), (5, .ref y), (4, .ref d), (0, .ref 10), (1, .int (vl_I k)), (2, .ref d), (3, .ref y)]) (st' := [.long ((L d 8) + (L y 2)), .int (0 : Int32), .int (I d 6), .ref d]) rfl Kz) ?_
                    obtain ⟨I15, L15, H15, T15, O15, F15⟩ := vc_bec (I := I) (L := L) (R := R) (n := n) (sl := sl) (I d 6) (0 : Int32) ((L d 8) + (L y 2)) hd (by rw [h27]; exact Or.inr (Or.inr (Or.inl ⟨Or.inl rfl, rfl, rfl⟩)))
                    refine jv_Wp.lift (fun _ Kz => jv_Ev.c jv_i32 (pc' := 229) (S' := []) (G1 := (jv_H K I15 L15 R)) jv_i140 [.ref d, .int (I d 6), .int (0 : Int32), .long ((L d 8) + (L y 2))] rfl rfl rfl rfl (jv_cal rfl (jv_H_at hd) rfl rfl) rfl H15 rfl rfl Kz) ?_
                    refine jv_Wp.lift (fun _ Kz => jv_Ev.steps jv_i32 1 (pc' := 230) (l' := [(6, .long ((L d 8) + (L y 2))), (5, .ref y), (4, .ref d), (0, .ref 10), (1, .int (vl_I k)), (2, .ref d), (3, .ref y)]) (st' := [.int (0 : Int32)]) rfl Kz) ?_
                    refine jv_Wp.of (jv_Ev.ret jv_i32 rfl rfl) ?_
                    rw [hQ]
                    have c1 : ¬ ((vc_T I L y).sort ≠ 1 ∨ (k = 1 ∧ False)) := fun z => z.elim (fun z => z ((vc_is1 oy).mpr (Classical.not_not.mp h1))) (fun z => z.2)
                    have xv : (vc_T I L y).val = vl_S L y := vc_valv (Or.inl (Classical.not_not.mp h1))
                    have c2 : ¬ ((vc_T I L d).sort = 4 ∨ (vc_T I L d).sort = 7) := fun z => z.elim (fun z => h23 ((vc_is4 od).mp z)) (fun z => h26 ((vc_is7 od).mp z))
                    have es : (vl_S L y).low = (vl_S L y).high := Classical.byContradiction (fun z => h28 (by rw [decide_eq_false z]; rfl))
                    have bs : (vc_T I L d).sort = 2 := (vc_is2 od).mpr h27
                    have c3 : ¬ (((vc_T I L d).sort ≠ 2 ∧ (vc_T I L d).sort ≠ 3) ∨ (vc_T I L y).val.low ≠ (vc_T I L y).val.high) := by rw [xv, bs]; exact fun z => z.elim (fun z => z.1 rfl) (fun z => z es)
                    have bd : (vc_T I L d).det = (L d 8).toInt := vc_detk (Or.inl h27)
                    have far := hfar (Or.inl h27)
                    have W := vx_wrap (n := k) (L d 8) (L y 2) far ((L d 8) + (L y 2)) (if_pos (show k = 0 from ((vl_I_inj (by omega) (by decide)).mp (Classical.not_not.mp h29)))).symm
                    rw [show (L y 2).toInt = (vc_T I L y).val.low.toInt from by rw [xv]; rfl, ← bd] at W
                    have c4 : ¬ (vx_mvc k (vc_T I L d).det (vc_T I L y).val.low.toInt < -vx_far ∨ vx_far < vx_mvc k (vc_T I L d).det (vc_T I L y).val.low.toInt) := fun z => (W.1.mpr z).elim (fun z => h32 (Int64.lt_iff_toInt_lt.mpr z)) (fun z => Int.not_le.mpr z (Int64.le_iff_toInt_le.mp h33))
                    have e : vx_move k (vc_T I L d) (vc_T I L y) = (0, ((vc_T I L d).sort, vx_mvc k (vc_T I L d).det (vc_T I L y).val.low.toInt, -1, vb_any)) := mv.trans (vx_mv6 c1 c2 c3 c4)
                    refine ⟨_, _, by rw [e]; rfl, fun _ => ⟨?_, O15⟩, fun p hp => F15 p (fun z => hp (Or.inl z))⟩
                    rw [T15, e, bs, ← W.2 c4, h27]
                    rfl
                  · refine jv_Wp.lift (fun _ Kz => jv_Ev.steps jv_i32 1 (pc' := 216) (l' := [(6, .long ((L d 8) + (L y 2))), (5, .ref y), (4, .ref d), (0, .ref 10), (1, .int (vl_I k)), (2, .ref d), (3, .ref y)]) (st' := [.int (2 : Int32)]) rfl Kz) ?_
                    refine jv_Wp.of (jv_Ev.ret jv_i32 rfl rfl) ?_
                    rw [hQ]
                    have c1 : ¬ ((vc_T I L y).sort ≠ 1 ∨ (k = 1 ∧ False)) := fun z => z.elim (fun z => z ((vc_is1 oy).mpr (Classical.not_not.mp h1))) (fun z => z.2)
                    have xv : (vc_T I L y).val = vl_S L y := vc_valv (Or.inl (Classical.not_not.mp h1))
                    have c2 : ¬ ((vc_T I L d).sort = 4 ∨ (vc_T I L d).sort = 7) := fun z => z.elim (fun z => h23 ((vc_is4 od).mp z)) (fun z => h26 ((vc_is7 od).mp z))
                    have es : (vl_S L y).low = (vl_S L y).high := Classical.byContradiction (fun z => h28 (by rw [decide_eq_false z]; rfl))
                    have bs : (vc_T I L d).sort = 2 := (vc_is2 od).mpr h27
                    have c3 : ¬ (((vc_T I L d).sort ≠ 2 ∧ (vc_T I L d).sort ≠ 3) ∨ (vc_T I L y).val.low ≠ (vc_T I L y).val.high) := by rw [xv, bs]; exact fun z => z.elim (fun z => z.1 rfl) (fun z => z es)
                    have bd : (vc_T I L d).det = (L d 8).toInt := vc_detk (Or.inl h27)
                    have far := hfar (Or.inl h27)
                    have W := vx_wrap (n := k) (L d 8) (L y 2) far ((L d 8) + (L y 2)) (if_pos (show k = 0 from ((vl_I_inj (by omega) (by decide)).mp (Classical.not_not.mp h29)))).symm
                    rw [show (L y 2).toInt = (vc_T I L y).val.low.toInt from by rw [xv]; rfl, ← bd] at W
                    have e : vx_move k (vc_T I L d) (vc_T I L y) = (2, (vc_T I L d)) := mv.trans (vx_mv5 c1 c2 c3 (W.1.mp (Or.inr (Int.not_le.mp ((not_congr Int64.le_iff_toInt_le).mp h33)))))
                    exact ⟨I, L, by rw [e]; rfl, fun z => by rw [e] at z; exact absurd (show (2 : Nat) = 0 from z) (by decide), vc_fr_refl _ _⟩
            · refine jv_Wp.lift (fun _ Kz => jv_Ev.steps jv_i32 1 (pc' := 165) (l' := [(5, .ref y), (4, .ref d), (0, .ref 10), (1, .int (vl_I k)), (2, .ref d), (3, .ref y)]) (st' := [.int (2 : Int32)]) rfl Kz) ?_
              refine jv_Wp.of (jv_Ev.ret jv_i32 rfl rfl) ?_
              rw [hQ]
              have c1 : ¬ ((vc_T I L y).sort ≠ 1 ∨ (k = 1 ∧ False)) := fun z => z.elim (fun z => z ((vc_is1 oy).mpr (Classical.not_not.mp h1))) (fun z => z.2)
              have xv : (vc_T I L y).val = vl_S L y := vc_valv (Or.inl (Classical.not_not.mp h1))
              have c2 : ¬ ((vc_T I L d).sort = 4 ∨ (vc_T I L d).sort = 7) := fun z => z.elim (fun z => h23 ((vc_is4 od).mp z)) (fun z => h26 ((vc_is7 od).mp z))
              have ns : (vl_S L y).low ≠ (vl_S L y).high := fun z => by have q := (Classical.not_not.mp h28); rw [decide_eq_true z] at q; exact absurd q (by decide)
              have e : vx_move k (vc_T I L d) (vc_T I L y) = (2, (vc_T I L d)) := mv.trans (vx_mv4 c1 c2 (Or.inr (by rw [xv]; exact ns)))
              exact ⟨I, L, by rw [e]; rfl, fun z => by rw [e] at z; exact absurd (show (2 : Nat) = 0 from z) (by decide), vc_fr_refl _ _⟩
          · refine jv_Wp.lift (fun _ Kz => jv_Ev.steps jv_i32 1 (pc' := 149) (l' := [(5, .ref y), (4, .ref d), (0, .ref 10), (1, .int (vl_I k)), (2, .ref d), (3, .ref y)]) (st' := [.ref d]) rfl Kz) ?_
            refine jv_Wp.lift (fun _ Kz => jv_Ev.m jv_i32 (pc' := 152) (st' := [.int (I d 6)]) (G' := (jv_H K I L R)) rfl rfl (jv_m_getI hd rfl rfl rfl) Kz) ?_
            refine jv_Wp.lift (fun _ Kz => jv_Ev.steps jv_i32 1 (pc' := 153) (l' := [(5, .ref y), (4, .ref d), (0, .ref 10), (1, .int (vl_I k)), (2, .ref d), (3, .ref y)]) (st' := [.int (3 : Int32), .int (I d 6)]) rfl Kz) ?_
            refine jv_Wp.cnd jv_i32 (pt := 164) (pe := 156) (p := (¬ (I d 6) = (3 : Int32))) (q := (¬ (I d 6) = (3 : Int32))) rfl jv_bc_ne rfl rfl Iff.rfl (fun h34 => ?_) (fun h34 => ?_)
            · refine jv_Wp.lift (fun _ Kz => jv_Ev.steps jv_i32 1 (pc' := 165) (l' := [(5, .ref y), (4, .ref d), (0, .ref 10), (1, .int (vl_I k)), (2, .ref d), (3, .ref y)]) (st' := [.int (2 : Int32)]) rfl Kz) ?_
              refine jv_Wp.of (jv_Ev.ret jv_i32 rfl rfl) ?_
              rw [hQ]
              have c1 : ¬ ((vc_T I L y).sort ≠ 1 ∨ (k = 1 ∧ False)) := fun z => z.elim (fun z => z ((vc_is1 oy).mpr (Classical.not_not.mp h1))) (fun z => z.2)
              have xv : (vc_T I L y).val = vl_S L y := vc_valv (Or.inl (Classical.not_not.mp h1))
              have c2 : ¬ ((vc_T I L d).sort = 4 ∨ (vc_T I L d).sort = 7) := fun z => z.elim (fun z => h23 ((vc_is4 od).mp z)) (fun z => h26 ((vc_is7 od).mp z))
              have e : vx_move k (vc_T I L d) (vc_T I L y) = (2, (vc_T I L d)) := mv.trans (vx_mv4 c1 c2 (Or.inl ⟨fun z => h27 ((vc_is2 od).mp z), fun z => h34 ((vc_is3 od).mp z)⟩))
              exact ⟨I, L, by rw [e]; rfl, fun z => by rw [e] at z; exact absurd (show (2 : Nat) = 0 from z) (by decide), vc_fr_refl _ _⟩
            · refine jv_Wp.lift (fun _ Kz => jv_Ev.steps jv_i32 1 (pc' := 158) (l' := [(5, .ref y), (4, .ref d), (0, .ref 10), (1, .int (vl_I k)), (2, .ref d), (3, .ref y)]) (st' := [.ref y]) rfl Kz) ?_
              refine jv_Wp.lift (fun _ Kz => jv_Ev.c jv_i32 (pc' := 161) (S' := [.int (vr_b (decide ((vl_S L y).low = (vl_S L y).high)))]) jv_i153 [.ref y] rfl rfl rfl rfl (jv_cal rfl (jv_H_at hy) rfl rfl) rfl (vl_single (Or.inr hy)) rfl rfl Kz) ?_
              refine jv_Wp.cnd jv_i32 (pt := 166) (pe := 164) (p := (¬ (vr_b (decide ((vl_S L y).low = (vl_S L y).high))) = 0)) (q := (¬ (vr_b (decide ((vl_S L y).low = (vl_S L y).high))) = 0)) rfl jv_bi_ne rfl rfl Iff.rfl (fun h35 => ?_) (fun h35 => ?_)
              · refine jv_Wp.lift (fun _ Kz => jv_Ev.steps jv_i32 1 (pc' := 167) (l' := [(5, .ref y), (4, .ref d), (0, .ref 10), (1, .int (vl_I k)), (2, .ref d), (3, .ref y)]) (st' := [.int (vl_I k)]) rfl Kz) ?_
                refine jv_Wp.cnd jv_i32 (pt := 184) (pe := 170) (p := (¬ (vl_I k) = 0)) (q := (¬ (vl_I k) = 0)) rfl jv_bi_ne rfl rfl Iff.rfl (fun h36 => ?_) (fun h36 => ?_)
                · refine jv_Wp.lift (fun _ Kz => jv_Ev.steps jv_i32 1 (pc' := 186) (l' := [(5, .ref y), (4, .ref d), (0, .ref 10), (1, .int (vl_I k)), (2, .ref d), (3, .ref y)]) (st' := [.ref d]) rfl Kz) ?_
                  refine jv_Wp.lift (fun _ Kz => jv_Ev.m jv_i32 (pc' := 189) (st' := [.long (L d 8)]) (G' := (jv_H K I L R)) rfl rfl (jv_m_getL hd rfl rfl rfl) Kz) ?_
                  refine jv_Wp.lift (fun _ Kz => jv_Ev.steps jv_i32 1 (pc' := 191) (l' := [(5, .ref y), (4, .ref d), (0, .ref 10), (1, .int (vl_I k)), (2, .ref d), (3, .ref y)]) (st' := [.ref y, .long (L d 8)]) rfl Kz) ?_
                  refine jv_Wp.lift (fun _ Kz => jv_Ev.m jv_i32 (pc' := 194) (st' := [.long (L y 2), .long (L d 8)]) (G' := (jv_H K I L R)) rfl rfl (jv_m_getL hy rfl rfl rfl) Kz) ?_
                  refine jv_Wp.lift (fun _ Kz => jv_Ev.steps jv_i32 5 (pc' := 203) (l' := [(6, .long ((L d 8) - (L y 2))), (5, .ref y), (4, .ref d), (0, .ref 10), (1, .int (vl_I k)), (2, .ref d), (3, .ref y)]) (st' := [.int (lg_cmp ((L d 8) - (L y 2)) (-536870912 : Int64))]) rfl Kz) ?_
                  refine jv_Wp.cnd jv_i32 (pt := 215) (pe := 206) (p := ((lg_cmp ((L d 8) - (L y 2)) (-536870912 : Int64)) < 0)) (q := (((L d 8) - (L y 2)) < (-536870912 : Int64))) rfl jv_bi_lt rfl rfl (lg_cmp_lt ((L d 8) - (L y 2)) (-536870912 : Int64)) (fun h37 => ?_) (fun h37 => ?_)
                  · refine jv_Wp.lift (fun _ Kz => jv_Ev.steps jv_i32 1 (pc' := 216) (l' := [(6, .long ((L d 8) - (L y 2))), (5, .ref y), (4, .ref d), (0, .ref 10), (1, .int (vl_I k)), (2, .ref d), (3, .ref y)]) (st' := [.int (2 : Int32)]) rfl Kz) ?_
                    refine jv_Wp.of (jv_Ev.ret jv_i32 rfl rfl) ?_
                    rw [hQ]
                    have c1 : ¬ ((vc_T I L y).sort ≠ 1 ∨ (k = 1 ∧ False)) := fun z => z.elim (fun z => z ((vc_is1 oy).mpr (Classical.not_not.mp h1))) (fun z => z.2)
                    have xv : (vc_T I L y).val = vl_S L y := vc_valv (Or.inl (Classical.not_not.mp h1))
                    have c2 : ¬ ((vc_T I L d).sort = 4 ∨ (vc_T I L d).sort = 7) := fun z => z.elim (fun z => h23 ((vc_is4 od).mp z)) (fun z => h26 ((vc_is7 od).mp z))
                    have es : (vl_S L y).low = (vl_S L y).high := Classical.byContradiction (fun z => h35 (by rw [decide_eq_false z]; rfl))
                    have bs : (vc_T I L d).sort = 3 := (vc_is3 od).mpr (Classical.not_not.mp h34)
                    have c3 : ¬ (((vc_T I L d).sort ≠ 2 ∧ (vc_T I L d).sort ≠ 3) ∨ (vc_T I L y).val.low ≠ (vc_T I L y).val.high) := by rw [xv, bs]; exact fun z => z.elim (fun z => z.2 rfl) (fun z => z es)
                    have bd : (vc_T I L d).det = (L d 8).toInt := vc_detk (Or.inr (Classical.not_not.mp h34))
                    have far := hfar (Or.inr (Classical.not_not.mp h34))
                    have W := vx_wrap (n := k) (L d 8) (L y 2) far ((L d 8) - (L y 2)) (if_neg (show ¬ k = 0 from fun z => h36 (by rw [z]; rfl))).symm
                    rw [show (L y 2).toInt = (vc_T I L y).val.low.toInt from by rw [xv]; rfl, ← bd] at W
                    have e : vx_move k (vc_T I L d) (vc_T I L y) = (2, (vc_T I L d)) := mv.trans (vx_mv5 c1 c2 c3 (W.1.mp (Or.inl (Int64.lt_iff_toInt_lt.mp h37))))
                    exact ⟨I, L, by rw [e]; rfl, fun z => by rw [e] at z; exact absurd (show (2 : Nat) = 0 from z) (by decide), vc_fr_refl _ _⟩
                  · refine jv_Wp.lift (fun _ Kz => jv_Ev.steps jv_i32 3 (pc' := 212) (l' := [(6, .long ((L d 8) - (L y 2))), (5, .ref y), (4, .ref d), (0, .ref 10), (1, .int (vl_I k)), (2, .ref d), (3, .ref y)]) (st' := [.int (lg_cmp ((L d 8) - (L y 2)) (536870912 : Int64))]) rfl Kz) ?_
                    refine jv_Wp.cnd jv_i32 (pt := 217) (pe := 215) (p := ((lg_cmp ((L d 8) - (L y 2)) (536870912 : Int64)) ≤ 0)) (q := (((L d 8) - (L y 2)) ≤ (536870912 : Int64))) rfl jv_bi_le rfl rfl (lg_cmp_le ((L d 8) - (L y 2)) (536870912 : Int64)) (fun h38 => ?_) (fun h38 => ?_)
                    · refine jv_Wp.lift (fun _ Kz => jv_Ev.steps jv_i32 2 (pc' := 220) (l' := [(6, .long ((L d 8) - (L y 2))), (5, .ref y), (4, .ref d), (0, .ref 10), (1, .int (vl_I k)), (2, .ref d), (3, .ref y)]) (st' := [.ref d, .ref d]) rfl Kz) ?_
                      refine jv_Wp.lift (fun _ Kz => jv_Ev.m jv_i32 (pc' := 223) (st' := [.int (I d 6), .ref d]) (G' := (jv_H K I L R)) rfl rfl (jv_m_getI hd rfl rfl rfl) Kz) ?_
                      refine jv_Wp.lift (fun _ Kz => jv_Ev.steps jv_i32 2 (pc' := 226) (l' := [(6, .long ((L d 8) - (L y 2))), (5, .ref y), (4, .ref d), (0, .ref 10), (1, .int (vl_I k)), (2, .ref d), (3, .ref y)]) (st' := [.long ((L d 8) - (L y 2)), .int (0 : Int32), .int (I d 6), .ref d]) rfl Kz) ?_
                      obtain ⟨I16, L16, H16, T16, O16, F16⟩ := vc_bec (I := I) (L := L) (R := R) (n := n) (sl := sl) (I d 6) (0 : Int32) ((L d 8) - (L y 2)) hd (by rw [(Classical.not_not.mp h34)]; exact Or.inr (Or.inr (Or.inl ⟨Or.inr rfl, rfl, rfl⟩)))
                      refine jv_Wp.lift (fun _ Kz => jv_Ev.c jv_i32 (pc' := 229) (S' := []) (G1 := (jv_H K I16 L16 R)) jv_i140 [.ref d, .int (I d 6), .int (0 : Int32), .long ((L d 8) - (L y 2))] rfl rfl rfl rfl (jv_cal rfl (jv_H_at hd) rfl rfl) rfl H16 rfl rfl Kz) ?_
                      refine jv_Wp.lift (fun _ Kz => jv_Ev.steps jv_i32 1 (pc' := 230) (l' := [(6, .long ((L d 8) - (L y 2))), (5, .ref y), (4, .ref d), (0, .ref 10), (1, .int (vl_I k)), (2, .ref d), (3, .ref y)]) (st' := [.int (0 : Int32)]) rfl Kz) ?_
                      refine jv_Wp.of (jv_Ev.ret jv_i32 rfl rfl) ?_
                      rw [hQ]
                      have c1 : ¬ ((vc_T I L y).sort ≠ 1 ∨ (k = 1 ∧ False)) := fun z => z.elim (fun z => z ((vc_is1 oy).mpr (Classical.not_not.mp h1))) (fun z => z.2)
                      have xv : (vc_T I L y).val = vl_S L y := vc_valv (Or.inl (Classical.not_not.mp h1))
                      have c2 : ¬ ((vc_T I L d).sort = 4 ∨ (vc_T I L d).sort = 7) := fun z => z.elim (fun z => h23 ((vc_is4 od).mp z)) (fun z => h26 ((vc_is7 od).mp z))
                      have es : (vl_S L y).low = (vl_S L y).high := Classical.byContradiction (fun z => h35 (by rw [decide_eq_false z]; rfl))
                      have bs : (vc_T I L d).sort = 3 := (vc_is3 od).mpr (Classical.not_not.mp h34)
                      have c3 : ¬ (((vc_T I L d).sort ≠ 2 ∧ (vc_T I L d).sort ≠ 3) ∨ (vc_T I L y).val.low ≠ (vc_T I L y).val.high) := by rw [xv, bs]; exact fun z => z.elim (fun z => z.2 rfl) (fun z => z es)
                      have bd : (vc_T I L d).det = (L d 8).toInt := vc_detk (Or.inr (Classical.not_not.mp h34))
                      have far := hfar (Or.inr (Classical.not_not.mp h34))
                      have W := vx_wrap (n := k) (L d 8) (L y 2) far ((L d 8) - (L y 2)) (if_neg (show ¬ k = 0 from fun z => h36 (by rw [z]; rfl))).symm
                      rw [show (L y 2).toInt = (vc_T I L y).val.low.toInt from by rw [xv]; rfl, ← bd] at W
                      have c4 : ¬ (vx_mvc k (vc_T I L d).det (vc_T I L y).val.low.toInt < -vx_far ∨ vx_far < vx_mvc k (vc_T I L d).det (vc_T I L y).val.low.toInt) := fun z => (W.1.mpr z).elim (fun z => h37 (Int64.lt_iff_toInt_lt.mpr z)) (fun z => Int.not_le.mpr z (Int64.le_iff_toInt_le.mp h38))
                      have e : vx_move k (vc_T I L d) (vc_T I L y) = (0, ((vc_T I L d).sort, vx_mvc k (vc_T I L d).det (vc_T I L y).val.low.toInt, -1, vb_any)) := mv.trans (vx_mv6 c1 c2 c3 c4)
                      refine ⟨_, _, by rw [e]; rfl, fun _ => ⟨?_, O16⟩, fun p hp => F16 p (fun z => hp (Or.inl z))⟩
                      rw [T16, e, bs, ← W.2 c4, (Classical.not_not.mp h34)]
                      rfl
                    · refine jv_Wp.lift (fun _ Kz => jv_Ev.steps jv_i32 1 (pc' := 216) (l' := [(6, .long ((L d 8) - (L y 2))), (5, .ref y), (4, .ref d), (0, .ref 10), (1, .int (vl_I k)), (2, .ref d), (3, .ref y)]) (st' := [.int (2 : Int32)]) rfl Kz) ?_
                      refine jv_Wp.of (jv_Ev.ret jv_i32 rfl rfl) ?_
                      rw [hQ]
                      have c1 : ¬ ((vc_T I L y).sort ≠ 1 ∨ (k = 1 ∧ False)) := fun z => z.elim (fun z => z ((vc_is1 oy).mpr (Classical.not_not.mp h1))) (fun z => z.2)
                      have xv : (vc_T I L y).val = vl_S L y := vc_valv (Or.inl (Classical.not_not.mp h1))
                      have c2 : ¬ ((vc_T I L d).sort = 4 ∨ (vc_T I L d).sort = 7) := fun z => z.elim (fun z => h23 ((vc_is4 od).mp z)) (fun z => h26 ((vc_is7 od).mp z))
                      have es : (vl_S L y).low = (vl_S L y).high := Classical.byContradiction (fun z => h35 (by rw [decide_eq_false z]; rfl))
                      have bs : (vc_T I L d).sort = 3 := (vc_is3 od).mpr (Classical.not_not.mp h34)
                      have c3 : ¬ (((vc_T I L d).sort ≠ 2 ∧ (vc_T I L d).sort ≠ 3) ∨ (vc_T I L y).val.low ≠ (vc_T I L y).val.high) := by rw [xv, bs]; exact fun z => z.elim (fun z => z.2 rfl) (fun z => z es)
                      have bd : (vc_T I L d).det = (L d 8).toInt := vc_detk (Or.inr (Classical.not_not.mp h34))
                      have far := hfar (Or.inr (Classical.not_not.mp h34))
                      have W := vx_wrap (n := k) (L d 8) (L y 2) far ((L d 8) - (L y 2)) (if_neg (show ¬ k = 0 from fun z => h36 (by rw [z]; rfl))).symm
                      rw [show (L y 2).toInt = (vc_T I L y).val.low.toInt from by rw [xv]; rfl, ← bd] at W
                      have e : vx_move k (vc_T I L d) (vc_T I L y) = (2, (vc_T I L d)) := mv.trans (vx_mv5 c1 c2 c3 (W.1.mp (Or.inr (Int.not_le.mp ((not_congr Int64.le_iff_toInt_le).mp h38)))))
                      exact ⟨I, L, by rw [e]; rfl, fun z => by rw [e] at z; exact absurd (show (2 : Nat) = 0 from z) (by decide), vc_fr_refl _ _⟩
                · refine jv_Wp.lift (fun _ Kz => jv_Ev.steps jv_i32 1 (pc' := 172) (l' := [(5, .ref y), (4, .ref d), (0, .ref 10), (1, .int (vl_I k)), (2, .ref d), (3, .ref y)]) (st' := [.ref d]) rfl Kz) ?_
                  refine jv_Wp.lift (fun _ Kz => jv_Ev.m jv_i32 (pc' := 175) (st' := [.long (L d 8)]) (G' := (jv_H K I L R)) rfl rfl (jv_m_getL hd rfl rfl rfl) Kz) ?_
                  refine jv_Wp.lift (fun _ Kz => jv_Ev.steps jv_i32 1 (pc' := 177) (l' := [(5, .ref y), (4, .ref d), (0, .ref 10), (1, .int (vl_I k)), (2, .ref d), (3, .ref y)]) (st' := [.ref y, .long (L d 8)]) rfl Kz) ?_
                  refine jv_Wp.lift (fun _ Kz => jv_Ev.m jv_i32 (pc' := 180) (st' := [.long (L y 2), .long (L d 8)]) (G' := (jv_H K I L R)) rfl rfl (jv_m_getL hy rfl rfl rfl) Kz) ?_
                  refine jv_Wp.lift (fun _ Kz => jv_Ev.steps jv_i32 6 (pc' := 203) (l' := [(6, .long ((L d 8) + (L y 2))), (5, .ref y), (4, .ref d), (0, .ref 10), (1, .int (vl_I k)), (2, .ref d), (3, .ref y)]) (st' := [.int (lg_cmp ((L d 8) + (L y 2)) (-536870912 : Int64))]) rfl Kz) ?_
                  refine jv_Wp.cnd jv_i32 (pt := 215) (pe := 206) (p := ((lg_cmp ((L d 8) + (L y 2)) (-536870912 : Int64)) < 0)) (q := (((L d 8) + (L y 2)) < (-536870912 : Int64))) rfl jv_bi_lt rfl rfl (lg_cmp_lt ((L d 8) + (L y 2)) (-536870912 : Int64)) (fun h39 => ?_) (fun h39 => ?_)
                  · refine jv_Wp.lift (fun _ Kz => jv_Ev.steps jv_i32 1 (pc' := 216) (l' := [(6, .long ((L d 8) + (L y 2))), (5, .ref y), (4, .ref d), (0, .ref 10), (1, .int (vl_I k)), (2, .ref d), (3, .ref y)]) (st' := [.int (2 : Int32)]) rfl Kz) ?_
                    refine jv_Wp.of (jv_Ev.ret jv_i32 rfl rfl) ?_
                    rw [hQ]
                    have c1 : ¬ ((vc_T I L y).sort ≠ 1 ∨ (k = 1 ∧ False)) := fun z => z.elim (fun z => z ((vc_is1 oy).mpr (Classical.not_not.mp h1))) (fun z => z.2)
                    have xv : (vc_T I L y).val = vl_S L y := vc_valv (Or.inl (Classical.not_not.mp h1))
                    have c2 : ¬ ((vc_T I L d).sort = 4 ∨ (vc_T I L d).sort = 7) := fun z => z.elim (fun z => h23 ((vc_is4 od).mp z)) (fun z => h26 ((vc_is7 od).mp z))
                    have es : (vl_S L y).low = (vl_S L y).high := Classical.byContradiction (fun z => h35 (by rw [decide_eq_false z]; rfl))
                    have bs : (vc_T I L d).sort = 3 := (vc_is3 od).mpr (Classical.not_not.mp h34)
                    have c3 : ¬ (((vc_T I L d).sort ≠ 2 ∧ (vc_T I L d).sort ≠ 3) ∨ (vc_T I L y).val.low ≠ (vc_T I L y).val.high) := by rw [xv, bs]; exact fun z => z.elim (fun z => z.2 rfl) (fun z => z es)
                    have bd : (vc_T I L d).det = (L d 8).toInt := vc_detk (Or.inr (Classical.not_not.mp h34))
                    have far := hfar (Or.inr (Classical.not_not.mp h34))
                    have W := vx_wrap (n := k) (L d 8) (L y 2) far ((L d 8) + (L y 2)) (if_pos (show k = 0 from ((vl_I_inj (by omega) (by decide)).mp (Classical.not_not.mp h36)))).symm
                    rw [show (L y 2).toInt = (vc_T I L y).val.low.toInt from by rw [xv]; rfl, ← bd] at W
                    have e : vx_move k (vc_T I L d) (vc_T I L y) = (2, (vc_T I L d)) := mv.trans (vx_mv5 c1 c2 c3 (W.1.mp (Or.inl (Int64.lt_iff_toInt_lt.mp h39))))
                    exact ⟨I, L, by rw [e]; rfl, fun z => by rw [e] at z; exact absurd (show (2 : Nat) = 0 from z) (by decide), vc_fr_refl _ _⟩
                  · refine jv_Wp.lift (fun _ Kz => jv_Ev.steps jv_i32 3 (pc' := 212) (l' := [(6, .long ((L d 8) + (L y 2))), (5, .ref y), (4, .ref d), (0, .ref 10), (1, .int (vl_I k)), (2, .ref d), (3, .ref y)]) (st' := [.int (lg_cmp ((L d 8) + (L y 2)) (536870912 : Int64))]) rfl Kz) ?_
                    refine jv_Wp.cnd jv_i32 (pt := 217) (pe := 215) (p := ((lg_cmp ((L d 8) + (L y 2)) (536870912 : Int64)) ≤ 0)) (q := (((L d 8) + (L y 2)) ≤ (536870912 : Int64))) rfl jv_bi_le rfl rfl (lg_cmp_le ((L d 8) + (L y 2)) (536870912 : Int64)) (fun h40 => ?_) (fun h40 => ?_)
                    · refine jv_Wp.lift (fun _ Kz => jv_Ev.steps jv_i32 2 (pc' := 220) (l' := [(6, .long ((L d 8) + (L y 2))), (5, .ref y), (4, .ref d), (0, .ref 10), (1, .int (vl_I k)), (2, .ref d), (3, .ref y)]) (st' := [.ref d, .ref d]) rfl Kz) ?_
                      refine jv_Wp.lift (fun _ Kz => jv_Ev.m jv_i32 (pc' := 223) (st' := [.int (I d 6), .ref d]) (G' := (jv_H K I L R)) rfl rfl (jv_m_getI hd rfl rfl rfl) Kz) ?_
                      refine jv_Wp.lift (fun _ Kz => jv_Ev.steps jv_i32 2 (pc' := 226) (l' := [(6, .long ((L d 8) + (L y 2))), (5, .ref y), (4, .ref d), (0, .ref 10), (1, .int (vl_I k)), (2, .ref d), (3, .ref y)]) (st' := [.long ((L d 8) + (L y 2)), .int (0 : Int32), .int (I d 6), .ref d]) rfl Kz) ?_
                      obtain ⟨I17, L17, H17, T17, O17, F17⟩ := vc_bec (I := I) (L := L) (R := R) (n := n) (sl := sl) (I d 6) (0 : Int32) ((L d 8) + (L y 2)) hd (by rw [(Classical.not_not.mp h34)]; exact Or.inr (Or.inr (Or.inl ⟨Or.inr rfl, rfl, rfl⟩)))
                      refine jv_Wp.lift (fun _ Kz => jv_Ev.c jv_i32 (pc' := 229) (S' := []) (G1 := (jv_H K I17 L17 R)) jv_i140 [.ref d, .int (I d 6), .int (0 : Int32), .long ((L d 8) + (L y 2))] rfl rfl rfl rfl (jv_cal rfl (jv_H_at hd) rfl rfl) rfl H17 rfl rfl Kz) ?_
                      refine jv_Wp.lift (fun _ Kz => jv_Ev.steps jv_i32 1 (pc' := 230) (l' := [(6, .long ((L d 8) + (L y 2))), (5, .ref y), (4, .ref d), (0, .ref 10), (1, .int (vl_I k)), (2, .ref d), (3, .ref y)]) (st' := [.int (0 : Int32)]) rfl Kz) ?_
                      refine jv_Wp.of (jv_Ev.ret jv_i32 rfl rfl) ?_
                      rw [hQ]
                      have c1 : ¬ ((vc_T I L y).sort ≠ 1 ∨ (k = 1 ∧ False)) := fun z => z.elim (fun z => z ((vc_is1 oy).mpr (Classical.not_not.mp h1))) (fun z => z.2)
                      have xv : (vc_T I L y).val = vl_S L y := vc_valv (Or.inl (Classical.not_not.mp h1))
                      have c2 : ¬ ((vc_T I L d).sort = 4 ∨ (vc_T I L d).sort = 7) := fun z => z.elim (fun z => h23 ((vc_is4 od).mp z)) (fun z => h26 ((vc_is7 od).mp z))
                      have es : (vl_S L y).low = (vl_S L y).high := Classical.byContradiction (fun z => h35 (by rw [decide_eq_false z]; rfl))
                      have bs : (vc_T I L d).sort = 3 := (vc_is3 od).mpr (Classical.not_not.mp h34)
                      have c3 : ¬ (((vc_T I L d).sort ≠ 2 ∧ (vc_T I L d).sort ≠ 3) ∨ (vc_T I L y).val.low ≠ (vc_T I L y).val.high) := by rw [xv, bs]; exact fun z => z.elim (fun z => z.2 rfl) (fun z => z es)
                      have bd : (vc_T I L d).det = (L d 8).toInt := vc_detk (Or.inr (Classical.not_not.mp h34))
                      have far := hfar (Or.inr (Classical.not_not.mp h34))
                      have W := vx_wrap (n := k) (L d 8) (L y 2) far ((L d 8) + (L y 2)) (if_pos (show k = 0 from ((vl_I_inj (by omega) (by decide)).mp (Classical.not_not.mp h36)))).symm
                      rw [show (L y 2).toInt = (vc_T I L y).val.low.toInt from by rw [xv]; rfl, ← bd] at W
                      have c4 : ¬ (vx_mvc k (vc_T I L d).det (vc_T I L y).val.low.toInt < -vx_far ∨ vx_far < vx_mvc k (vc_T I L d).det (vc_T I L y).val.low.toInt) := fun z => (W.1.mpr z).elim (fun z => h39 (Int64.lt_iff_toInt_lt.mpr z)) (fun z => Int.not_le.mpr z (Int64.le_iff_toInt_le.mp h40))
                      have e : vx_move k (vc_T I L d) (vc_T I L y) = (0, ((vc_T I L d).sort, vx_mvc k (vc_T I L d).det (vc_T I L y).val.low.toInt, -1, vb_any)) := mv.trans (vx_mv6 c1 c2 c3 c4)
                      refine ⟨_, _, by rw [e]; rfl, fun _ => ⟨?_, O17⟩, fun p hp => F17 p (fun z => hp (Or.inl z))⟩
                      rw [T17, e, bs, ← W.2 c4, (Classical.not_not.mp h34)]
                      rfl
                    · refine jv_Wp.lift (fun _ Kz => jv_Ev.steps jv_i32 1 (pc' := 216) (l' := [(6, .long ((L d 8) + (L y 2))), (5, .ref y), (4, .ref d), (0, .ref 10), (1, .int (vl_I k)), (2, .ref d), (3, .ref y)]) (st' := [.int (2 : Int32)]) rfl Kz) ?_
                      refine jv_Wp.of (jv_Ev.ret jv_i32 rfl rfl) ?_
                      rw [hQ]
                      have c1 : ¬ ((vc_T I L y).sort ≠ 1 ∨ (k = 1 ∧ False)) := fun z => z.elim (fun z => z ((vc_is1 oy).mpr (Classical.not_not.mp h1))) (fun z => z.2)
                      have xv : (vc_T I L y).val = vl_S L y := vc_valv (Or.inl (Classical.not_not.mp h1))
                      have c2 : ¬ ((vc_T I L d).sort = 4 ∨ (vc_T I L d).sort = 7) := fun z => z.elim (fun z => h23 ((vc_is4 od).mp z)) (fun z => h26 ((vc_is7 od).mp z))
                      have es : (vl_S L y).low = (vl_S L y).high := Classical.byContradiction (fun z => h35 (by rw [decide_eq_false z]; rfl))
                      have bs : (vc_T I L d).sort = 3 := (vc_is3 od).mpr (Classical.not_not.mp h34)
                      have c3 : ¬ (((vc_T I L d).sort ≠ 2 ∧ (vc_T I L d).sort ≠ 3) ∨ (vc_T I L y).val.low ≠ (vc_T I L y).val.high) := by rw [xv, bs]; exact fun z => z.elim (fun z => z.2 rfl) (fun z => z es)
                      have bd : (vc_T I L d).det = (L d 8).toInt := vc_detk (Or.inr (Classical.not_not.mp h34))
                      have far := hfar (Or.inr (Classical.not_not.mp h34))
                      have W := vx_wrap (n := k) (L d 8) (L y 2) far ((L d 8) + (L y 2)) (if_pos (show k = 0 from ((vl_I_inj (by omega) (by decide)).mp (Classical.not_not.mp h36)))).symm
                      rw [show (L y 2).toInt = (vc_T I L y).val.low.toInt from by rw [xv]; rfl, ← bd] at W
                      have e : vx_move k (vc_T I L d) (vc_T I L y) = (2, (vc_T I L d)) := mv.trans (vx_mv5 c1 c2 c3 (W.1.mp (Or.inr (Int.not_le.mp ((not_congr Int64.le_iff_toInt_le).mp h40)))))
                      exact ⟨I, L, by rw [e]; rfl, fun z => by rw [e] at z; exact absurd (show (2 : Nat) = 0 from z) (by decide), vc_fr_refl _ _⟩
              · refine jv_Wp.lift (fun _ Kz => jv_Ev.steps jv_i32 1 (pc' := 165) (l' := [(5, .ref y), (4, .ref d), (0, .ref 10), (1, .int (vl_I k)), (2, .ref d), (3, .ref y)]) (st' := [.int (2 : Int32)]) rfl Kz) ?_
                refine jv_Wp.of (jv_Ev.ret jv_i32 rfl rfl) ?_
                rw [hQ]
                have c1 : ¬ ((vc_T I L y).sort ≠ 1 ∨ (k = 1 ∧ False)) := fun z => z.elim (fun z => z ((vc_is1 oy).mpr (Classical.not_not.mp h1))) (fun z => z.2)
                have xv : (vc_T I L y).val = vl_S L y := vc_valv (Or.inl (Classical.not_not.mp h1))
                have c2 : ¬ ((vc_T I L d).sort = 4 ∨ (vc_T I L d).sort = 7) := fun z => z.elim (fun z => h23 ((vc_is4 od).mp z)) (fun z => h26 ((vc_is7 od).mp z))
                have ns : (vl_S L y).low ≠ (vl_S L y).high := fun z => by have q := (Classical.not_not.mp h35); rw [decide_eq_true z] at q; exact absurd q (by decide)
                have e : vx_move k (vc_T I L d) (vc_T I L y) = (2, (vc_T I L d)) := mv.trans (vx_mv4 c1 c2 (Or.inr (by rw [xv]; exact ns)))
                exact ⟨I, L, by rw [e]; rfl, fun z => by rw [e] at z; exact absurd (show (2 : Nat) = 0 from z) (by decide), vc_fr_refl _ _⟩
        · refine jv_Wp.lift (fun _ Kz => jv_Ev.steps jv_i32 1 (pc' := 70) (l' := [(5, .ref y), (4, .ref d), (0, .ref 10), (1, .int (vl_I k)), (2, .ref d), (3, .ref y)]) (st' := [.ref 10]) rfl Kz) ?_
          refine jv_Wp.lift (fun _ Kz => jv_Ev.m jv_i32 (pc' := 73) (st' := [.ref 169]) (G' := (jv_H K I L R)) rfl rfl (jv_m_getR hC.k rfl rfl hC.rout) Kz) ?_
          refine jv_Wp.lift (fun _ Kz => jv_Ev.steps jv_i32 4 (pc' := 80) (l' := [(5, .ref y), (4, .ref d), (0, .ref 10), (1, .int (vl_I k)), (2, .ref d), (3, .ref y)]) (st' := [.int (63 : Int32), .ref y, .ref d, .int (vl_I k), .ref 169]) rfl Kz) ?_
          refine jv_Wp.lift (fun _ Kz => jv_Ev.c jv_i32 (pc' := 83) (S' := []) (G1 := (jv_H K I (vl_set L 169 (vb_tt (vb_cOp (vl_I k) (vl_S L d) (vl_S L y) 63))) R)) jv_i158 [.ref 169, .int (vl_I k), .ref d, .ref y, .int (63 : Int32)] rfl rfl rfl rfl (jv_cal rfl (jv_H_at hC.k169) rfl rfl) rfl (vl_operate (top := 63) hC.k169 (Or.inr hd) (Or.inr hy) (Or.inl ⟨rfl, rfl⟩) (vb_tight_le (tx (Classical.not_not.mp h1))) (hxd 169 (by decide) (by decide)) (hxy 169 (by decide) (by decide))) rfl rfl Kz) ?_
          refine jv_Wp.lift (fun _ Kz => jv_Ev.steps jv_i32 1 (pc' := 84) (l' := [(5, .ref y), (4, .ref d), (0, .ref 10), (1, .int (vl_I k)), (2, .ref d), (3, .ref y)]) (st' := [.ref 10]) rfl Kz) ?_
          refine jv_Wp.lift (fun _ Kz => jv_Ev.m jv_i32 (pc' := 87) (st' := [.ref 169]) (G' := (jv_H K I (vl_set L 169 (vb_tt (vb_cOp (vl_I k) (vl_S L d) (vl_S L y) 63))) R)) rfl rfl (jv_m_getR hC.k rfl rfl hC.rout) Kz) ?_
          refine jv_Wp.lift (fun _ Kz => jv_Ev.m jv_i32 (pc' := 90) (st' := [.long (Int64.ofBitVec ((vb_tt (vb_cOp (vl_I k) (vl_S L d) (vl_S L y) 63))).least)]) (G' := (jv_H K I (vl_set L 169 (vb_tt (vb_cOp (vl_I k) (vl_S L d) (vl_S L y) 63))) R)) rfl rfl (jv_m_getL hC.k169 rfl rfl (vl_rd4 _ _ _)) Kz) ?_
          refine jv_Wp.lift (fun _ Kz => jv_Ev.steps jv_i32 2 (pc' := 94) (l' := [(5, .ref y), (4, .ref d), (0, .ref 10), (1, .int (vl_I k)), (2, .ref d), (3, .ref y)]) (st' := [.int (lg_cmp (Int64.ofBitVec ((vb_tt (vb_cOp (vl_I k) (vl_S L d) (vl_S L y) 63))).least) (-536870912 : Int64))]) rfl Kz) ?_
          refine jv_Wp.cnd jv_i32 (pt := 111) (pe := 97) (p := ((lg_cmp (Int64.ofBitVec ((vb_tt (vb_cOp (vl_I k) (vl_S L d) (vl_S L y) 63))).least) (-536870912 : Int64)) < 0)) (q := ((Int64.ofBitVec ((vb_tt (vb_cOp (vl_I k) (vl_S L d) (vl_S L y) 63))).least) < (-536870912 : Int64))) rfl jv_bi_lt rfl rfl (lg_cmp_lt (Int64.ofBitVec ((vb_tt (vb_cOp (vl_I k) (vl_S L d) (vl_S L y) 63))).least) (-536870912 : Int64)) (fun h41 => ?_) (fun h41 => ?_)
          · refine jv_Wp.lift (fun _ Kz => jv_Ev.steps jv_i32 1 (pc' := 112) (l' := [(5, .ref y), (4, .ref d), (0, .ref 10), (1, .int (vl_I k)), (2, .ref d), (3, .ref y)]) (st' := [.int (2 : Int32)]) rfl Kz) ?_
            refine jv_Wp.of (jv_Ev.ret jv_i32 rfl rfl) ?_
            rw [hQ]
            have c1 : ¬ ((vc_T I L y).sort ≠ 1 ∨ (k = 1 ∧ False)) := fun z => z.elim (fun z => z ((vc_is1 oy).mpr (Classical.not_not.mp h1))) (fun z => z.2)
            have xv : (vc_T I L y).val = vl_S L y := vc_valv (Or.inl (Classical.not_not.mp h1))
            have c2 : (vc_T I L d).sort = 4 ∨ (vc_T I L d).sort = 7 := Or.inr ((vc_is7 od).mpr (Classical.not_not.mp h26))
            have bv : (vc_T I L d).val = vl_S L d := vc_valv (Or.inr (Or.inr (Classical.not_not.mp h26)))
            have c3 : (vx_op k (vc_T I L d).val (vc_T I L y).val 63).least.toInt < -vx_far ∨ vx_far < (vx_op k (vc_T I L d).val (vc_T I L y).val 63).greatest.toInt := Or.inl (by rw [xv, bv]; exact (vx_i64 _ _).mp h41)
            have e : vx_move k (vc_T I L d) (vc_T I L y) = (2, (vc_T I L d)) := mv.trans (vx_mv2 c1 c2 c3)
            exact ⟨I, (vl_set L 169 (vb_tt (vb_cOp (vl_I k) (vl_S L d) (vl_S L y) 63))), by rw [e]; rfl, fun z => by rw [e] at z; exact absurd (show (2 : Nat) = 0 from z) (by decide), fun p hp => ⟨fun _ => rfl, fun f => vl_set_out (fun z => hp (Or.inr (by rw [z.1]; exact ⟨by decide, by decide⟩)))⟩⟩
          · refine jv_Wp.lift (fun _ Kz => jv_Ev.steps jv_i32 1 (pc' := 98) (l' := [(5, .ref y), (4, .ref d), (0, .ref 10), (1, .int (vl_I k)), (2, .ref d), (3, .ref y)]) (st' := [.ref 10]) rfl Kz) ?_
            refine jv_Wp.lift (fun _ Kz => jv_Ev.m jv_i32 (pc' := 101) (st' := [.ref 169]) (G' := (jv_H K I (vl_set L 169 (vb_tt (vb_cOp (vl_I k) (vl_S L d) (vl_S L y) 63))) R)) rfl rfl (jv_m_getR hC.k rfl rfl hC.rout) Kz) ?_
            refine jv_Wp.lift (fun _ Kz => jv_Ev.m jv_i32 (pc' := 104) (st' := [.long (Int64.ofBitVec ((vb_tt (vb_cOp (vl_I k) (vl_S L d) (vl_S L y) 63))).greatest)]) (G' := (jv_H K I (vl_set L 169 (vb_tt (vb_cOp (vl_I k) (vl_S L d) (vl_S L y) 63))) R)) rfl rfl (jv_m_getL hC.k169 rfl rfl (vl_rd5 _ _ _)) Kz) ?_
            refine jv_Wp.lift (fun _ Kz => jv_Ev.steps jv_i32 2 (pc' := 108) (l' := [(5, .ref y), (4, .ref d), (0, .ref 10), (1, .int (vl_I k)), (2, .ref d), (3, .ref y)]) (st' := [.int (lg_cmp (Int64.ofBitVec ((vb_tt (vb_cOp (vl_I k) (vl_S L d) (vl_S L y) 63))).greatest) (536870912 : Int64))]) rfl Kz) ?_
            refine jv_Wp.cnd jv_i32 (pt := 113) (pe := 111) (p := ((lg_cmp (Int64.ofBitVec ((vb_tt (vb_cOp (vl_I k) (vl_S L d) (vl_S L y) 63))).greatest) (536870912 : Int64)) ≤ 0)) (q := ((Int64.ofBitVec ((vb_tt (vb_cOp (vl_I k) (vl_S L d) (vl_S L y) 63))).greatest) ≤ (536870912 : Int64))) rfl jv_bi_le rfl rfl (lg_cmp_le (Int64.ofBitVec ((vb_tt (vb_cOp (vl_I k) (vl_S L d) (vl_S L y) 63))).greatest) (536870912 : Int64)) (fun h42 => ?_) (fun h42 => ?_)
            · refine jv_Wp.lift (fun _ Kz => jv_Ev.steps jv_i32 2 (pc' := 116) (l' := [(5, .ref y), (4, .ref d), (0, .ref 10), (1, .int (vl_I k)), (2, .ref d), (3, .ref y)]) (st' := [.ref d, .ref d]) rfl Kz) ?_
              refine jv_Wp.lift (fun _ Kz => jv_Ev.m jv_i32 (pc' := 119) (st' := [.int (I d 6), .ref d]) (G' := (jv_H K I (vl_set L 169 (vb_tt (vb_cOp (vl_I k) (vl_S L d) (vl_S L y) 63))) R)) rfl rfl (jv_m_getI hd rfl rfl rfl) Kz) ?_
              refine jv_Wp.lift (fun _ Kz => jv_Ev.steps jv_i32 1 (pc' := 121) (l' := [(5, .ref y), (4, .ref d), (0, .ref 10), (1, .int (vl_I k)), (2, .ref d), (3, .ref y)]) (st' := [.ref d, .int (I d 6), .ref d]) rfl Kz) ?_
              refine jv_Wp.lift (fun _ Kz => jv_Ev.m jv_i32 (pc' := 124) (st' := [.int (I d 7), .int (I d 6), .ref d]) (G' := (jv_H K I (vl_set L 169 (vb_tt (vb_cOp (vl_I k) (vl_S L d) (vl_S L y) 63))) R)) rfl rfl (jv_m_getI hd rfl rfl rfl) Kz) ?_
              refine jv_Wp.lift (fun _ Kz => jv_Ev.steps jv_i32 1 (pc' := 125) (l' := [(5, .ref y), (4, .ref d), (0, .ref 10), (1, .int (vl_I k)), (2, .ref d), (3, .ref y)]) (st' := [.long (0 : Int64), .int (I d 7), .int (I d 6), .ref d]) rfl Kz) ?_
              obtain ⟨I18, L18, H18, T18, O18, F18⟩ := vc_bec (I := I) (L := (vl_set L 169 (vb_tt (vb_cOp (vl_I k) (vl_S L d) (vl_S L y) 63)))) (R := R) (n := n) (sl := sl) (I d 6) (I d 7) (0 : Int64) hd (by rw [(Classical.not_not.mp h26)]; exact Or.inr (Or.inr (Or.inr (Or.inl ⟨Or.inr rfl, rfl, rfl⟩))))
              refine jv_Wp.lift (fun _ Kz => jv_Ev.c jv_i32 (pc' := 128) (S' := []) (G1 := (jv_H K I18 L18 R)) jv_i140 [.ref d, .int (I d 6), .int (I d 7), .long (0 : Int64)] rfl rfl rfl rfl (jv_cal rfl (jv_H_at hd) rfl rfl) rfl H18 rfl rfl Kz) ?_
              refine jv_Wp.lift (fun _ Kz => jv_Ev.steps jv_i32 2 (pc' := 130) (l' := [(5, .ref y), (4, .ref d), (0, .ref 10), (1, .int (vl_I k)), (2, .ref d), (3, .ref y)]) (st' := [.ref 10, .ref d]) rfl Kz) ?_
              refine jv_Wp.lift (fun _ Kz => jv_Ev.m jv_i32 (pc' := 133) (st' := [.ref 169, .ref d]) (G' := (jv_H K I18 L18 R)) rfl rfl (jv_m_getR hC.k rfl rfl hC.rout) Kz) ?_
              refine jv_Wp.lift (fun _ Kz => jv_Ev.c jv_i32 (pc' := 136) (S' := []) (G1 := (jv_H K I18 (vl_set L18 d (vl_S L18 169)) R)) jv_i151 [.ref d, .ref 169] rfl rfl rfl rfl (jv_cal rfl (jv_H_at hd) rfl rfl) rfl (vl_sayings2 (Or.inr hd) (Or.inl hC.k169)) rfl rfl Kz) ?_
              refine jv_Wp.lift (fun _ Kz => jv_Ev.steps jv_i32 1 (pc' := 137) (l' := [(5, .ref y), (4, .ref d), (0, .ref 10), (1, .int (vl_I k)), (2, .ref d), (3, .ref y)]) (st' := [.int (0 : Int32)]) rfl Kz) ?_
              refine jv_Wp.of (jv_Ev.ret jv_i32 rfl rfl) ?_
              rw [hQ]
              have c1 : ¬ ((vc_T I L y).sort ≠ 1 ∨ (k = 1 ∧ False)) := fun z => z.elim (fun z => z ((vc_is1 oy).mpr (Classical.not_not.mp h1))) (fun z => z.2)
              have xv : (vc_T I L y).val = vl_S L y := vc_valv (Or.inl (Classical.not_not.mp h1))
              have c2 : (vc_T I L d).sort = 4 ∨ (vc_T I L d).sort = 7 := Or.inr ((vc_is7 od).mpr (Classical.not_not.mp h26))
              have bv : (vc_T I L d).val = vl_S L d := vc_valv (Or.inr (Or.inr (Classical.not_not.mp h26)))
              have c3 : ¬ ((vx_op k (vc_T I L d).val (vc_T I L y).val 63).least.toInt < -vx_far ∨ vx_far < (vx_op k (vc_T I L d).val (vc_T I L y).val 63).greatest.toInt) := by
                rw [xv, bv]; exact fun z => z.elim (fun z => h41 ((vx_i64 _ _).mpr z)) (fun z => Int.not_le.mpr z ((vx_i64l _ _).mp h42))
              have e : vx_move k (vc_T I L d) (vc_T I L y) = (0, ((vc_T I L d).sort, (vc_T I L d).det, -1, (vx_op k (vc_T I L d).val (vc_T I L y).val 63))) := mv.trans (vx_mv3 c1 c2 c3)
              have dd := vc_det47 (L := L) (show I d 6 = 4 ∨ I d 6 = 7 from Or.inr (Classical.not_not.mp h26))
              have ev : vl_S L18 169 = (vx_op k (vc_T I L d).val (vc_T I L y).val 63) := by rw [vl_S_ext (fun f => (F18 169 n169).2 f), vl_set_S, xv, bv]; rfl
              refine ⟨_, _, by rw [e]; rfl, fun _ => ⟨?_, vc_set_ok O18⟩, fun p hp => ⟨fun f => (F18 p (fun z => hp (Or.inl z))).1 f, fun f => (vl_set_out (fun z => hp (Or.inl z.1))).trans (((F18 p (fun z => hp (Or.inl z))).2 f).trans (vl_set_out (fun z => hp (Or.inr (by rw [z.1]; exact ⟨by decide, by decide⟩)))))⟩⟩
              rw [vc_T_v O18 T18 (by rw [(Classical.not_not.mp h26)]; exact Or.inr (Or.inr rfl)), ev, e, dd.1, (Classical.not_not.mp h26)]
              show _ = ((vc_T I L d).sort, _, _, _)
              rw [show (vc_T I L d).sort = 7 from (vc_is7 od).mpr (Classical.not_not.mp h26)]
              rfl
            · refine jv_Wp.lift (fun _ Kz => jv_Ev.steps jv_i32 1 (pc' := 112) (l' := [(5, .ref y), (4, .ref d), (0, .ref 10), (1, .int (vl_I k)), (2, .ref d), (3, .ref y)]) (st' := [.int (2 : Int32)]) rfl Kz) ?_
              refine jv_Wp.of (jv_Ev.ret jv_i32 rfl rfl) ?_
              rw [hQ]
              have c1 : ¬ ((vc_T I L y).sort ≠ 1 ∨ (k = 1 ∧ False)) := fun z => z.elim (fun z => z ((vc_is1 oy).mpr (Classical.not_not.mp h1))) (fun z => z.2)
              have xv : (vc_T I L y).val = vl_S L y := vc_valv (Or.inl (Classical.not_not.mp h1))
              have c2 : (vc_T I L d).sort = 4 ∨ (vc_T I L d).sort = 7 := Or.inr ((vc_is7 od).mpr (Classical.not_not.mp h26))
              have bv : (vc_T I L d).val = vl_S L d := vc_valv (Or.inr (Or.inr (Classical.not_not.mp h26)))
              have c3 : (vx_op k (vc_T I L d).val (vc_T I L y).val 63).least.toInt < -vx_far ∨ vx_far < (vx_op k (vc_T I L d).val (vc_T I L y).val 63).greatest.toInt := Or.inr (by rw [xv, bv]; have q := (not_congr (vx_i64l _ _)).mp h42; exact Int.not_le.mp q)
              have e : vx_move k (vc_T I L d) (vc_T I L y) = (2, (vc_T I L d)) := mv.trans (vx_mv2 c1 c2 c3)
              exact ⟨I, (vl_set L 169 (vb_tt (vb_cOp (vl_I k) (vl_S L d) (vl_S L y) 63))), by rw [e]; rfl, fun z => by rw [e] at z; exact absurd (show (2 : Nat) = 0 from z) (by decide), fun p hp => ⟨fun _ => rfl, fun f => vl_set_out (fun z => hp (Or.inr (by rw [z.1]; exact ⟨by decide, by decide⟩)))⟩⟩