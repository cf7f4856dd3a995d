/-! part b14: operands, reckoning on states (gen/tb14.py) -/
theorem jv_Wp.mono {y pc : Nat} {l : jv_L} {st : List Value} {G : jv_G} {n sl : Nat} {Q Q' : jv_R → Prop} (h : jv_Wp y pc l st G n sl Q) (k : ∀ X, Q X → Q' X) : jv_Wp y pc l st G n sl Q' := h.imp (fun X z => ⟨z.1, k X z.2⟩)
theorem vw_d75 (w : Int64) : (vc_F w).d < 75 := Nat.lt_trans (Nat.mod_lt _ (by decide) : vc_N w / 256 % 16 < 16) (by decide)
theorem vw_s75 (w : Int64) : (vc_F w).s < 75 := Nat.lt_trans (Nat.mod_lt _ (by decide) : vc_N w / 4096 % 16 < 16) (by decide)
/-- the cells that the checker works on: now, and what it reckons with -/
def vc_wk (p : Nat) : Prop := vc_in 12 p ∨ (166 ≤ p ∧ p ≤ 170)
def vc_far (I : Nat → Nat → Int32) (L : Nat → Nat → Int64) (o : Nat) : Prop := I o 6 = 2 ∨ I o 6 = 3 → -536870912 ≤ (L o 8).toInt ∧ (L o 8).toInt ≤ 536870912
theorem vc_fr_far {P : Nat → Prop} {I I1 : Nat → Nat → Int32} {L L1 : Nat → Nat → Int64} (h : vc_fr P I L I1 L1) {o : Nat} (ho : ¬ P o) (z : vc_far I L o) : vc_far I1 L1 o := by
  unfold vc_far; rw [(h o ho).1, (h o ho).2]; exact z
theorem vc_td {I : Nat → Nat → Int32} {L : Nat → Nat → Int64} {o : Nat} (ok : vc_ok I L o) (t : vt_ok (vc_T I L o)) (z : I o 6 = 1) : vb_tight (vl_S L o) := by
  have a := t.2.1 (by rw [(vc_is1 ok).mpr z]; rfl)
  rw [vc_valv (Or.inl z)] at a
  exact a
theorem vc_up {P : Nat → Prop} {I I1 : Nat → Nat → Int32} {L L1 : Nat → Nat → Int64} {a r : Nat} {t : vt_T} (hr : r < 75) (T : vc_T I1 L1 (a + 2 + r) = t) (o : vc_ok I1 L1 (a + 2 + r)) (fr : vc_fr P I L I1 L1) (hP : ∀ n, n < 75 → n ≠ r → ¬ P (a + 2 + n)) (ha : ¬ P a) (oa : vc_okA I L a) : vc_A I1 L1 a = vt_up (vc_A I L a) r t ∧ vc_okA I1 L1 a := by
  constructor
  · refine Prod.ext (funext (fun n => ?_)) (congrArg Int64.toInt ((fr a ha).2 1))
    show (if n < 75 then vc_T I1 L1 (a + 2 + n) else vt_none 0) = if n = r then t else (vc_A I L a).1 n
    by_cases e : n = r
    · rw [if_pos e, if_pos (by omega), e]; exact T
    · rw [if_neg e]
      by_cases hn : n < 75
      · rw [if_pos hn, vc_fr_T fr (hP n hn e)]; exact (if_pos hn).symm
      · rw [if_neg hn]; exact (if_neg hn).symm
  · intro n hn
    by_cases e : n = r
    · rw [e]; exact o
    · exact (vc_fr_ok fr (hP n hn e)).mpr (oa n hn)
theorem vc_A1 {I : Nat → Nat → Int32} {L : Nat → Nat → Int64} {a n : Nat} (hn : n < 75) : (vc_A I L a).1 n = vc_T I L (a + 2 + n) := if_pos hn
theorem vx_arith1 (f : vf_F) (A : vt_A) : (vx_arith f A).1 = (vx_ar f (A.1 f.d) (vx_y f A)).1 := by
  rw [vx_arith_eq]
  by_cases h : (vx_ar f (A.1 f.d) (vx_y f A)).1 ≠ 0
  · rw [if_pos h]
  · rw [if_neg h]; exact (Classical.not_not.mp h).symm
theorem vx_arith2 {f : vf_F} {A : vt_A} (h : (vx_ar f (A.1 f.d) (vx_y f A)).1 = 0) : (vx_arith f A).2 = vt_up A f.d (vx_ar f (A.1 f.d) (vx_y f A)).2 := by
  rw [vx_arith_eq, if_neg (fun z => z h)]
theorem jv_i27 : jv_I 27 3 (some (FieldType.object "ProgramBox$Thing")) 2 46 jv_c27 := ⟨rfl, rfl, rfl, rfl, rfl⟩
theorem vc_opR {K : Nat → Option (Nat × Nat)} {I : Nat → Nat → Int32} {L : Nat → Nat → Int64} {R : Nat → Nat → Value} (w : Int64) (hC : vc_C K R) (hb : (vc_F w).bit3 = true) {n sl : Nat} : ∃ I1 L1, jv_Ms 27 [.ref 10, .long w] (jv_H K I L R) n sl (some (.ref (12 + 2 + (vc_F w).s)), jv_H K I1 L1 R, n, sl) ∧ I1 = I ∧ L1 = L := by
  obtain ⟨Q, hQ⟩ : ∃ Q : jv_R → Prop, Q = fun X => ∃ I1 L1, X = (some (.ref (12 + 2 + (vc_F w).s)), jv_H K I1 L1 R, n, sl) ∧ I1 = I ∧ L1 = L := ⟨_, rfl⟩
  suffices h : jv_Wp 27 0 [(0, .ref 10), (1, .long w)] [] (jv_H K I L R) n sl Q by
    rw [hQ] at h
    obtain ⟨X, h, I1, L1, e, h'⟩ := h
    subst e
    exact ⟨I1, L1, h, h'⟩
  refine jv_Wp.lift (fun _ Kz => jv_Ev.steps jv_i27 1 (pc' := 1) (l' := [(0, .ref 10), (1, .long w)]) (st' := [.long w]) rfl Kz) ?_
  refine jv_Wp.lift (fun _ Kz => jv_Ev.c jv_i27 (pc' := 4) (S' := [.int (vr_b (vc_F w).bit3)]) jv_i83 [.long w] rfl rfl rfl rfl rfl rfl (vw_m83 w) rfl rfl Kz) ?_
  refine jv_Wp.cnd jv_i27 (pt := 20) (pe := 7) (p := ((vr_b (vc_F w).bit3) = 0)) (q := ((vr_b (vc_F w).bit3) = 0)) rfl jv_bi_eq rfl rfl Iff.rfl (fun hz => absurd hz (by rw [hb]; decide)) (fun _ => ?_)
  refine jv_Wp.lift (fun _ Kz => jv_Ev.steps jv_i27 1 (pc' := 8) (l' := [(0, .ref 10), (1, .long w)]) (st' := [.ref 10]) rfl Kz) ?_
  refine jv_Wp.lift (fun _ Kz => jv_Ev.m jv_i27 (pc' := 11) (st' := [.ref 12]) (G' := (jv_H K I L R)) rfl rfl (jv_m_getR hC.k rfl rfl hC.rnow) Kz) ?_
  refine jv_Wp.lift (fun _ Kz => jv_Ev.m jv_i27 (pc' := 14) (st' := [.ref (12 + 1)]) (G' := (jv_H K I L R)) rfl rfl (jv_m_getR hC.now.k rfl rfl hC.now.r) Kz) ?_
  refine jv_Wp.lift (fun _ Kz => jv_Ev.steps jv_i27 1 (pc' := 15) (l' := [(0, .ref 10), (1, .long w)]) (st' := [.long w, .ref (12 + 1)]) rfl Kz) ?_
  refine jv_Wp.lift (fun _ Kz => jv_Ev.c jv_i27 (pc' := 18) (S' := [.int (vl_I (vc_F w).s), .ref (12 + 1)]) jv_i87 [.long w] rfl rfl rfl rfl rfl rfl (vw_m87 w) rfl rfl Kz) ?_
  refine jv_Wp.lift (fun _ Kz => jv_Ev.m jv_i27 (pc' := 19) (st' := [.ref (12 + 2 + (vc_F w).s)]) (G' := (jv_H K I L R)) rfl rfl (jv_m_aaldR hC.now.kt rfl (vl_I_ix (vw_s75 w) (by decide)) rfl (vc_St_rt hC.now (vw_s75 w))) Kz) ?_
  refine jv_Wp.of (jv_Ev.ret jv_i27 rfl rfl) ?_
  rw [hQ]
  exact ⟨_, _, rfl, rfl, rfl⟩
theorem vc_opI {K : Nat → Option (Nat × Nat)} {I : Nat → Nat → Int32} {L : Nat → Nat → Int64} {R : Nat → Nat → Value} (w : Int64) (hC : vc_C K R) (hb : (vc_F w).bit3 = false) {n sl : Nat} : ∃ I1 L1, jv_Ms 27 [.ref 10, .long w] (jv_H K I L R) n sl (some (.ref 166), jv_H K I1 L1 R, n, sl) ∧ vc_T I1 L1 166 = vt_num (vx_just (vc_F w).i) ∧ vc_ok I1 L1 166 ∧ vc_fr (fun p => p = 166) I L I1 L1 := by
  obtain ⟨Q, hQ⟩ : ∃ Q : jv_R → Prop, Q = fun X => ∃ I1 L1, X = (some (.ref 166), jv_H K I1 L1 R, n, sl) ∧ vc_T I1 L1 166 = vt_num (vx_just (vc_F w).i) ∧ vc_ok I1 L1 166 ∧ vc_fr (fun p => p = 166) I L I1 L1 := ⟨_, rfl⟩
  suffices h : jv_Wp 27 0 [(0, .ref 10), (1, .long w)] [] (jv_H K I L R) n sl Q by
    rw [hQ] at h
    obtain ⟨X, h, I1, L1, e, h'⟩ := h
    subst e
    exact ⟨I1, L1, h, h'⟩
  refine jv_Wp.lift (fun _ Kz => jv_Ev.steps jv_i27 1 (pc' := 1) (l' := [(0, .ref 10), (1, .long w)]) (st' := [.long w]) rfl Kz) ?_
  refine jv_Wp.lift (fun _ Kz => jv_Ev.c jv_i27 (pc' := 4) (S' := [.int (vr_b (vc_F w).bit3)]) jv_i83 [.long w] rfl rfl rfl rfl rfl rfl (vw_m83 w) rfl rfl Kz) ?_
  refine jv_Wp.cnd jv_i27 (pt := 20) (pe := 7) (p := ((vr_b (vc_F w).bit3) = 0)) (q := ((vr_b (vc_F w).bit3) = 0)) rfl jv_bi_eq rfl rfl Iff.rfl (fun _ => ?_) (fun hz => absurd (by rw [hb]; rfl) hz)
  refine jv_Wp.lift (fun _ Kz => jv_Ev.steps jv_i27 1 (pc' := 21) (l' := [(0, .ref 10), (1, .long w)]) (st' := [.ref 10]) rfl Kz) ?_
  refine jv_Wp.lift (fun _ Kz => jv_Ev.m jv_i27 (pc' := 24) (st' := [.ref 166]) (G' := (jv_H K I L R)) rfl rfl (jv_m_getR hC.k rfl rfl hC.rconst) Kz) ?_
  refine jv_Wp.lift (fun _ Kz => jv_Ev.steps jv_i27 1 (pc' := 25) (l' := [(0, .ref 10), (1, .long w)]) (st' := [.long w, .ref 166]) rfl Kz) ?_
  refine jv_Wp.lift (fun _ Kz => jv_Ev.c jv_i27 (pc' := 28) (S' := [.int (jv_wfimmediate w), .ref 166]) jv_i89 [.long w] rfl rfl rfl rfl rfl rfl (jv_s89 w) rfl rfl Kz) ?_
  refine jv_Wp.lift (fun _ Kz => jv_Ev.steps jv_i27 1 (pc' := 29) (l' := [(0, .ref 10), (1, .long w)]) (st' := [.long (jv_wfimmediate w).toInt64, .ref 166]) rfl Kz) ?_
  obtain ⟨I1, L1, H1, T1, O1, F1⟩ := vc_just (I := I) (L := L) (R := R) (n := n) (sl := sl) (jv_wfimmediate w).toInt64 hC.k166
  refine jv_Wp.lift (fun _ Kz => jv_Ev.c jv_i27 (pc' := 32) (S' := []) (G1 := (jv_H K I1 L1 R)) jv_i143 [.ref 166, .long (jv_wfimmediate w).toInt64] rfl rfl rfl rfl (jv_cal rfl (jv_H_at hC.k166) rfl rfl) rfl H1 rfl rfl Kz) ?_
  refine jv_Wp.lift (fun _ Kz => jv_Ev.steps jv_i27 1 (pc' := 33) (l' := [(0, .ref 10), (1, .long w)]) (st' := [.ref 10]) rfl Kz) ?_
  refine jv_Wp.lift (fun _ Kz => jv_Ev.m jv_i27 (pc' := 36) (st' := [.ref 166]) (G' := (jv_H K I1 L1 R)) rfl rfl (jv_m_getR hC.k rfl rfl hC.rconst) Kz) ?_
  refine jv_Wp.of (jv_Ev.ret jv_i27 rfl rfl) ?_
  rw [hQ]
  exact ⟨_, _, rfl, T1, O1, F1⟩
theorem vc_reckonR {K : Nat → Option (Nat × Nat)} {I : Nat → Nat → Int32} {L : Nat → Nat → Int64} {R : Nat → Nat → Value} (w : Int64) (hC : vc_C K R) (hf : vf_ok (vc_F w)) (hk : (vc_F w).kind = 4 ∨ (vc_F w).kind = 7) (oa : vc_okA I L 12) (tA : ∀ n, n < 75 → vt_ok (vc_T I L (12 + 2 + n))) (fA : ∀ n, n < 75 → vc_far I L (12 + 2 + n)) (hb : (vc_F w).bit3 = true) {n sl : Nat} : ∃ I1 L1, jv_Ms 28 [.ref 10, .long w] (jv_H K I L R) n sl (some (.int (vl_I (vx_arith (vc_F w) (vc_A I L 12)).1)), jv_H K I1 L1 R, n, sl) ∧ ((vx_arith (vc_F w) (vc_A I L 12)).1 = 0 → vc_A I1 L1 12 = (vx_arith (vc_F w) (vc_A I L 12)).2 ∧ vc_okA I1 L1 12) ∧ vc_fr vc_wk I L I1 L1 ∧ ∀ f, I1 12 f = I 12 f := by
  obtain ⟨Q, hQ⟩ : ∃ Q : jv_R → Prop, Q = fun X => ∃ I1 L1, X = (some (.int (vl_I (vx_arith (vc_F w) (vc_A I L 12)).1)), jv_H K I1 L1 R, n, sl) ∧ ((vx_arith (vc_F w) (vc_A I L 12)).1 = 0 → vc_A I1 L1 12 = (vx_arith (vc_F w) (vc_A I L 12)).2 ∧ vc_okA I1 L1 12) ∧ vc_fr vc_wk I L I1 L1 ∧ ∀ f, I1 12 f = I 12 f := ⟨_, rfl⟩
  suffices h : jv_Wp 28 0 [(0, .ref 10), (1, .long w)] [] (jv_H K I L R) n sl Q by
    rw [hQ] at h
    obtain ⟨X, h, I1, L1, e, h'⟩ := h
    subst e
    exact ⟨I1, L1, h, h'⟩
  have hd75 := vw_d75 w
  have hs75 := vw_s75 w
  refine jv_Wp.lift (fun _ Kz => jv_Ev.steps jv_i28 1 (pc' := 1) (l' := [(0, .ref 10), (1, .long w)]) (st' := [.long w]) rfl Kz) ?_
  refine jv_Wp.lift (fun _ Kz => jv_Ev.c jv_i28 (pc' := 4) (S' := [.int (vl_I (vc_F w).n)]) jv_i82 [.long w] rfl rfl rfl rfl rfl rfl (vw_m82 w) rfl rfl Kz) ?_
  refine jv_Wp.lift (fun _ Kz => jv_Ev.steps jv_i28 2 (pc' := 6) (l' := [(3, .int (vl_I (vc_F w).n)), (0, .ref 10), (1, .long w)]) (st' := [.long w]) rfl Kz) ?_
  refine jv_Wp.lift (fun _ Kz => jv_Ev.c jv_i28 (pc' := 9) (S' := [.int (vl_I (vc_F w).kind)]) jv_i81 [.long w] rfl rfl rfl rfl rfl rfl (vw_m81 w) rfl rfl Kz) ?_
  refine jv_Wp.lift (fun _ Kz => jv_Ev.steps jv_i28 1 (pc' := 11) (l' := [(3, .int (vl_I (vc_F w).n)), (0, .ref 10), (1, .long w)]) (st' := [.int (7 : Int32), .int (vl_I (vc_F w).kind)]) rfl Kz) ?_
  refine jv_Wp.cnd jv_i28 (pt := 18) (pe := 14) (p := (¬ (vl_I (vc_F w).kind) = (7 : Int32))) (q := (¬ (vl_I (vc_F w).kind) = (7 : Int32))) rfl jv_bc_ne rfl rfl Iff.rfl (fun h1 => ?_) (fun h1 => ?_)
  · refine jv_Wp.lift (fun _ Kz => jv_Ev.steps jv_i28 3 (pc' := 22) (l' := [(4, .int (0 : Int32)), (3, .int (vl_I (vc_F w).n)), (0, .ref 10), (1, .long w)]) (st' := [.ref 10]) rfl Kz) ?_
    refine jv_Wp.lift (fun _ Kz => jv_Ev.m jv_i28 (pc' := 25) (st' := [.ref 12]) (G' := (jv_H K I L R)) rfl rfl (jv_m_getR hC.k rfl rfl hC.rnow) Kz) ?_
    refine jv_Wp.lift (fun _ Kz => jv_Ev.m jv_i28 (pc' := 28) (st' := [.ref (12 + 1)]) (G' := (jv_H K I L R)) rfl rfl (jv_m_getR hC.now.k rfl rfl hC.now.r) Kz) ?_
    refine jv_Wp.lift (fun _ Kz => jv_Ev.steps jv_i28 1 (pc' := 29) (l' := [(4, .int (0 : Int32)), (3, .int (vl_I (vc_F w).n)), (0, .ref 10), (1, .long w)]) (st' := [.long w, .ref (12 + 1)]) rfl Kz) ?_
    refine jv_Wp.lift (fun _ Kz => jv_Ev.c jv_i28 (pc' := 32) (S' := [.int (vl_I (vc_F w).d), .ref (12 + 1)]) jv_i86 [.long w] rfl rfl rfl rfl rfl rfl (vw_m86 w) rfl rfl Kz) ?_
    refine jv_Wp.lift (fun _ Kz => jv_Ev.m jv_i28 (pc' := 33) (st' := [.ref (12 + 2 + (vc_F w).d)]) (G' := (jv_H K I L R)) rfl rfl (jv_m_aaldR hC.now.kt rfl (vl_I_ix (vw_d75 w) (by decide)) rfl (vc_St_rt hC.now (vw_d75 w))) Kz) ?_
    refine jv_Wp.lift (fun _ Kz => jv_Ev.steps jv_i28 3 (pc' := 37) (l' := [(5, .ref (12 + 2 + (vc_F w).d)), (4, .int (0 : Int32)), (3, .int (vl_I (vc_F w).n)), (0, .ref 10), (1, .long w)]) (st' := [.long w, .ref 10]) rfl Kz) ?_
    obtain ⟨I2, L2, H2, ei, el⟩ := vc_opR (I := I) (L := L) (R := R) (n := n) (sl := sl) w hC hb
    rw [ei, el] at H2
    refine jv_Wp.lift (fun _ Kz => jv_Ev.c jv_i28 (pc' := 40) (S' := [.ref (12 + 2 + (vc_F w).s)]) jv_i27 [.ref 10, .long w] rfl rfl rfl rfl (jv_cal rfl (jv_H_at hC.k) rfl rfl) rfl H2 rfl rfl Kz) ?_
    refine jv_Wp.loc (l := [(0, .ref 10), (1, .long w), (3, .int (vl_I (vc_F w).n)), (4, .int (0 : Int32)), (5, .ref (12 + 2 + (vc_F w).d))]) ⟨List.forall_mem_cons.mpr ⟨.tail _ (.tail _ (.tail _ (.head _))), List.forall_mem_cons.mpr ⟨.tail _ (.tail _ (.tail _ (.tail _ (.head _)))), List.forall_mem_cons.mpr ⟨.tail _ (.tail _ (.head _)), List.forall_mem_cons.mpr ⟨.tail _ (.head _), List.forall_mem_cons.mpr ⟨.head _, fun _ h => absurd h List.not_mem_nil⟩⟩⟩⟩⟩, by show List.Nodup [5, 4, 3, 0, 1]; decide⟩ ?_
    have f1 : ¬ (vc_F w).kind = 7 := fun z => h1 (by rw [z]; rfl)
    have hwd : false = decide ((vc_F w).kind = 7) := (decide_eq_false (by omega)).symm
    have eT : vc_T I L (12 + 2 + (vc_F w).d) = (vc_A I L 12).1 (vc_F w).d := (vc_A1 hd75).symm
    have eY : vc_T I L (12 + 2 + (vc_F w).s) = vx_y (vc_F w) (vc_A I L 12) := by
      unfold vx_y; rw [if_pos hb]; exact (vc_A1 hs75).symm
    have F0 : vc_fr (fun p => p = 166) I L I L := vc_fr_refl _ _
    refine jv_Wp.mono (vc_rtail (I := I) (L := L) w false hC hf hk hwd (hC.now.kk _ hd75) (hC.now.kk _ hs75) (by omega) (by omega) (fun q _ _ => by omega) (fun q _ _ => by omega) (by omega) (oa _ hd75) (oa _ hs75) (vc_td (oa _ hd75) (tA _ hd75)) (vc_td (oa _ hs75) (tA _ hs75)) (fA _ hd75) (fA _ hs75) rfl) ?_
    rintro X ⟨I9, L9, eX, hT, hF⟩
    rw [eT, eY] at eX hT
    rw [hQ]
    have fr : vc_fr (fun p => p = (12 + 2 + (vc_F w).d) ∨ (166 ≤ p ∧ p ≤ 170)) I L I9 L9 := vc_fr_trans (vc_fr_mono F0 (fun p z => Or.inr (by omega))) (vc_fr_mono hF (fun p z => z.imp id (fun z => z.elim (fun z => by omega) (fun z => ⟨by have := z.1; omega, z.2⟩))))
    refine ⟨I9, L9, by rw [eX, vx_arith1], fun z => ?_, vc_fr_mono fr (fun p z => z.imp (fun z => ⟨by omega, by omega⟩) id), fun f => (fr 12 (by omega)).1 f⟩
    rw [vx_arith1] at z
    rw [vx_arith2 z]
    exact vc_up hd75 (hT z).1 (hT z).2 fr (fun n hn e q => by omega) (by omega) oa
  · refine jv_Wp.lift (fun _ Kz => jv_Ev.steps jv_i28 4 (pc' := 22) (l' := [(4, .int (1 : Int32)), (3, .int (vl_I (vc_F w).n)), (0, .ref 10), (1, .long w)]) (st' := [.ref 10]) rfl Kz) ?_
    refine jv_Wp.lift (fun _ Kz => jv_Ev.m jv_i28 (pc' := 25) (st' := [.ref 12]) (G' := (jv_H K I L R)) rfl rfl (jv_m_getR hC.k rfl rfl hC.rnow) Kz) ?_
    refine jv_Wp.lift (fun _ Kz => jv_Ev.m jv_i28 (pc' := 28) (st' := [.ref (12 + 1)]) (G' := (jv_H K I L R)) rfl rfl (jv_m_getR hC.now.k rfl rfl hC.now.r) Kz) ?_
    refine jv_Wp.lift (fun _ Kz => jv_Ev.steps jv_i28 1 (pc' := 29) (l' := [(4, .int (1 : Int32)), (3, .int (vl_I (vc_F w).n)), (0, .ref 10), (1, .long w)]) (st' := [.long w, .ref (12 + 1)]) rfl Kz) ?_
    refine jv_Wp.lift (fun _ Kz => jv_Ev.c jv_i28 (pc' := 32) (S' := [.int (vl_I (vc_F w).d), .ref (12 + 1)]) jv_i86 [.long w] rfl rfl rfl rfl rfl rfl (vw_m86 w) rfl rfl Kz) ?_
    refine jv_Wp.lift (fun _ Kz => jv_Ev.m jv_i28 (pc' := 33) (st' := [.ref (12 + 2 + (vc_F w).d)]) (G' := (jv_H K I L R)) rfl rfl (jv_m_aaldR hC.now.kt rfl (vl_I_ix (vw_d75 w) (by decide)) rfl (vc_St_rt hC.now (vw_d75 w))) Kz) ?_
    refine jv_Wp.lift (fun _ Kz => jv_Ev.steps jv_i28 3 (pc' := 37) (l' := [(5, .ref (12 + 2 + (vc_F w).d)), (4, .int (1 : Int32)), (3, .int (vl_I (vc_F w).n)), (0, .ref 10), (1, .long w)]) (st' := [.long w, .ref 10]) rfl Kz) ?_
    obtain ⟨I3, L3, H3, ei, el⟩ := vc_opR (I := I) (L := L) (R := R) (n := n) (sl := sl) w hC hb
    rw [ei, el] at H3
    refine jv_Wp.lift (fun _ Kz => jv_Ev.c jv_i28 (pc' := 40) (S' := [.ref (12 + 2 + (vc_F w).s)]) jv_i27 [.ref 10, .long w] rfl rfl rfl rfl (jv_cal rfl (jv_H_at hC.k) rfl rfl) rfl H3 rfl rfl Kz) ?_
    refine jv_Wp.loc (l := [(0, .ref 10), (1, .long w), (3, .int (vl_I (vc_F w).n)), (4, .int (1 : Int32)), (5, .ref (12 + 2 + (vc_F w).d))]) ⟨List.forall_mem_cons.mpr ⟨.tail _ (.tail _ (.tail _ (.head _))), List.forall_mem_cons.mpr ⟨.tail _ (.tail _ (.tail _ (.tail _ (.head _)))), List.forall_mem_cons.mpr ⟨.tail _ (.tail _ (.head _)), List.forall_mem_cons.mpr ⟨.tail _ (.head _), List.forall_mem_cons.mpr ⟨.head _, fun _ h => absurd h List.not_mem_nil⟩⟩⟩⟩⟩, by show List.Nodup [5, 4, 3, 0, 1]; decide⟩ ?_
    have f1 : (vc_F w).kind = 7 := (vl_I_inj (by omega) (by decide)).mp (Classical.not_not.mp h1)
    have hwd : true = decide ((vc_F w).kind = 7) := (decide_eq_true (by omega)).symm
    have eT : vc_T I L (12 + 2 + (vc_F w).d) = (vc_A I L 12).1 (vc_F w).d := (vc_A1 hd75).symm
    have eY : vc_T I L (12 + 2 + (vc_F w).s) = vx_y (vc_F w) (vc_A I L 12) := by
      unfold vx_y; rw [if_pos hb]; exact (vc_A1 hs75).symm
    have F0 : vc_fr (fun p => p = 166) I L I L := vc_fr_refl _ _
    refine jv_Wp.mono (vc_rtail (I := I) (L := L) w true hC hf hk hwd (hC.now.kk _ hd75) (hC.now.kk _ hs75) (by omega) (by omega) (fun q _ _ => by omega) (fun q _ _ => by omega) (by omega) (oa _ hd75) (oa _ hs75) (vc_td (oa _ hd75) (tA _ hd75)) (vc_td (oa _ hs75) (tA _ hs75)) (fA _ hd75) (fA _ hs75) rfl) ?_
    rintro X ⟨I9, L9, eX, hT, hF⟩
    rw [eT, eY] at eX hT
    rw [hQ]
    have fr : vc_fr (fun p => p = (12 + 2 + (vc_F w).d) ∨ (166 ≤ p ∧ p ≤ 170)) I L I9 L9 := vc_fr_trans (vc_fr_mono F0 (fun p z => Or.inr (by omega))) (vc_fr_mono hF (fun p z => z.imp id (fun z => z.elim (fun z => by omega) (fun z => ⟨by have := z.1; omega, z.2⟩))))
    refine ⟨I9, L9, by rw [eX, vx_arith1], fun z => ?_, vc_fr_mono fr (fun p z => z.imp (fun z => ⟨by omega, by omega⟩) id), fun f => (fr 12 (by omega)).1 f⟩
    rw [vx_arith1] at z
    rw [vx_arith2 z]
    exact vc_up hd75 (hT z).1 (hT z).2 fr (fun n hn e q => by omega) (by omega) oa
theorem vc_reckonI {K : Nat → Option (Nat × Nat)} {I : Nat → Nat → Int32} {L : Nat → Nat → Int64} {R : Nat → Nat → Value} (w : Int64) (hC : vc_C K R) (hf : vf_ok (vc_F w)) (hk : (vc_F w).kind = 4 ∨ (vc_F w).kind = 7) (oa : vc_okA I L 12) (tA : ∀ n, n < 75 → vt_ok (vc_T I L (12 + 2 + n))) (fA : ∀ n, n < 75 → vc_far I L (12 + 2 + n)) (hb : (vc_F w).bit3 = false) {n sl : Nat} : ∃ I1 L1, jv_Ms 28 [.ref 10, .long w] (jv_H K I L R) n sl (some (.int (vl_I (vx_arith (vc_F w) (vc_A I L 12)).1)), jv_H K I1 L1 R, n, sl) ∧ ((vx_arith (vc_F w) (vc_A I L 12)).1 = 0 → vc_A I1 L1 12 = (vx_arith (vc_F w) (vc_A I L 12)).2 ∧ vc_okA I1 L1 12) ∧ vc_fr vc_wk I L I1 L1 ∧ ∀ f, I1 12 f = I 12 f := by
  obtain ⟨Q, hQ⟩ : ∃ Q : jv_R → Prop, Q = fun X => ∃ I1 L1, X = (some (.int (vl_I (vx_arith (vc_F w) (vc_A I L 12)).1)), jv_H K I1 L1 R, n, sl) ∧ ((vx_arith (vc_F w) (vc_A I L 12)).1 = 0 → vc_A I1 L1 12 = (vx_arith (vc_F w) (vc_A I L 12)).2 ∧ vc_okA I1 L1 12) ∧ vc_fr vc_wk I L I1 L1 ∧ ∀ f, I1 12 f = I 12 f := ⟨_, rfl⟩
  suffices h : jv_Wp 28 0 [(0, .ref 10), (1, .long w)] [] (jv_H K I L R) n sl Q by
    rw [hQ] at h
    obtain ⟨X, h, I1, L1, e, h'⟩ := h
    subst e
    exact ⟨I1, L1, h, h'⟩
  have hd75 := vw_d75 w
  have hs75 := vw_s75 w
  refine jv_Wp.lift (fun _ Kz => jv_Ev.steps jv_i28 1 (pc' := 1) (l' := [(0, .ref 10), (1, .long w)]) (st' := [.long w]) rfl Kz) ?_
  refine jv_Wp.lift (fun _ Kz => jv_Ev.c jv_i28 (pc' := 4) (S' := [.int (vl_I (vc_F w).n)]) jv_i82 [.long w] rfl rfl rfl rfl rfl rfl (vw_m82 w) rfl rfl Kz) ?_
  refine jv_Wp.lift (fun _ Kz => jv_Ev.steps jv_i28 2 (pc' := 6) (l' := [(3, .int (vl_I (vc_F w).n)), (0, .ref 10), (1, .long w)]) (st' := [.long w]) rfl Kz) ?_
  refine jv_Wp.lift (fun _ Kz => jv_Ev.c jv_i28 (pc' := 9) (S' := [.int (vl_I (vc_F w).kind)]) jv_i81 [.long w] rfl rfl rfl rfl rfl rfl (vw_m81 w) rfl rfl Kz) ?_
  refine jv_Wp.lift (fun _ Kz => jv_Ev.steps jv_i28 1 (pc' := 11) (l' := [(3, .int (vl_I (vc_F w).n)), (0, .ref 10), (1, .long w)]) (st' := [.int (7 : Int32), .int (vl_I (vc_F w).kind)]) rfl Kz) ?_
  refine jv_Wp.cnd jv_i28 (pt := 18) (pe := 14) (p := (¬ (vl_I (vc_F w).kind) = (7 : Int32))) (q := (¬ (vl_I (vc_F w).kind) = (7 : Int32))) rfl jv_bc_ne rfl rfl Iff.rfl (fun h1 => ?_) (fun h1 => ?_)
  · refine jv_Wp.lift (fun _ Kz => jv_Ev.steps jv_i28 3 (pc' := 22) (l' := [(4, .int (0 : Int32)), (3, .int (vl_I (vc_F w).n)), (0, .ref 10), (1, .long w)]) (st' := [.ref 10]) rfl Kz) ?_
    refine jv_Wp.lift (fun _ Kz => jv_Ev.m jv_i28 (pc' := 25) (st' := [.ref 12]) (G' := (jv_H K I L R)) rfl rfl (jv_m_getR hC.k rfl rfl hC.rnow) Kz) ?_
    refine jv_Wp.lift (fun _ Kz => jv_Ev.m jv_i28 (pc' := 28) (st' := [.ref (12 + 1)]) (G' := (jv_H K I L R)) rfl rfl (jv_m_getR hC.now.k rfl rfl hC.now.r) Kz) ?_
    refine jv_Wp.lift (fun _ Kz => jv_Ev.steps jv_i28 1 (pc' := 29) (l' := [(4, .int (0 : Int32)), (3, .int (vl_I (vc_F w).n)), (0, .ref 10), (1, .long w)]) (st' := [.long w, .ref (12 + 1)]) rfl Kz) ?_
    refine jv_Wp.lift (fun _ Kz => jv_Ev.c jv_i28 (pc' := 32) (S' := [.int (vl_I (vc_F w).d), .ref (12 + 1)]) jv_i86 [.long w] rfl rfl rfl rfl rfl rfl (vw_m86 w) rfl rfl Kz) ?_
    refine jv_Wp.lift (fun _ Kz => jv_Ev.m jv_i28 (pc' := 33) (st' := [.ref (12 + 2 + (vc_F w).d)]) (G' := (jv_H K I L R)) rfl rfl (jv_m_aaldR hC.now.kt rfl (vl_I_ix (vw_d75 w) (by decide)) rfl (vc_St_rt hC.now (vw_d75 w))) Kz) ?_
    refine jv_Wp.lift (fun _ Kz => jv_Ev.steps jv_i28 3 (pc' := 37) (l' := [(5, .ref (12 + 2 + (vc_F w).d)), (4, .int (0 : Int32)), (3, .int (vl_I (vc_F w).n)), (0, .ref 10), (1, .long w)]) (st' := [.long w, .ref 10]) rfl Kz) ?_
    obtain ⟨I4, L4, H4, T4, O4, F4⟩ := vc_opI (I := I) (L := L) (R := R) (n := n) (sl := sl) w hC hb
    refine jv_Wp.lift (fun _ Kz => jv_Ev.c jv_i28 (pc' := 40) (S' := [.ref 166]) (G1 := (jv_H K I4 L4 R)) jv_i27 [.ref 10, .long w] rfl rfl rfl rfl (jv_cal rfl (jv_H_at hC.k) rfl rfl) rfl H4 rfl rfl Kz) ?_
    refine jv_Wp.loc (l := [(0, .ref 10), (1, .long w), (3, .int (vl_I (vc_F w).n)), (4, .int (0 : Int32)), (5, .ref (12 + 2 + (vc_F w).d))]) ⟨List.forall_mem_cons.mpr ⟨.tail _ (.tail _ (.tail _ (.head _))), List.forall_mem_cons.mpr ⟨.tail _ (.tail _ (.tail _ (.tail _ (.head _)))), List.forall_mem_cons.mpr ⟨.tail _ (.tail _ (.head _)), List.forall_mem_cons.mpr ⟨.tail _ (.head _), List.forall_mem_cons.mpr ⟨.head _, fun _ h => absurd h List.not_mem_nil⟩⟩⟩⟩⟩, by show List.Nodup [5, 4, 3, 0, 1]; decide⟩ ?_
    have f1 : ¬ (vc_F w).kind = 7 := fun z => h1 (by rw [z]; rfl)
    have hwd : false = decide ((vc_F w).kind = 7) := (decide_eq_false (by omega)).symm
    have nd : ¬ (12 + 2 + (vc_F w).d) = 166 := by omega
    have eT : vc_T I4 L4 (12 + 2 + (vc_F w).d) = (vc_A I L 12).1 (vc_F w).d := (vc_fr_T F4 nd).trans (vc_A1 hd75).symm
    have eY : vc_T I4 L4 166 = vx_y (vc_F w) (vc_A I L 12) := by
      unfold vx_y; rw [if_neg (by rw [hb]; decide)]; exact T4
    have od := (vc_fr_ok F4 nd).mpr (oa _ hd75)
    have y1 : I4 166 6 = 1 := (vc_is1 O4).mp (by rw [T4]; rfl)
    refine jv_Wp.mono (vc_rtail (I := I4) (L := L4) w false hC hf hk hwd (hC.now.kk _ hd75) hC.k166 (by omega) (by omega) (fun q _ _ => by omega) (fun q _ _ => by omega) (by omega) od O4 (vc_td od (by rw [vc_fr_T F4 nd]; exact tA _ hd75)) (vc_td O4 (by rw [T4]; exact vt_ok_num (vb_just_tight _))) (vc_fr_far F4 nd (fA _ hd75)) (fun z => by rw [y1] at z; exact absurd z (by decide)) rfl) ?_
    rintro X ⟨I9, L9, eX, hT, hF⟩
    rw [eT, eY] at eX hT
    rw [hQ]
    have fr : vc_fr (fun p => p = (12 + 2 + (vc_F w).d) ∨ (166 ≤ p ∧ p ≤ 170)) I L I9 L9 := vc_fr_trans (vc_fr_mono F4 (fun p z => Or.inr (by omega))) (vc_fr_mono hF (fun p z => z.imp id (fun z => z.elim (fun z => by omega) (fun z => ⟨by have := z.1; omega, z.2⟩))))
    refine ⟨I9, L9, by rw [eX, vx_arith1], fun z => ?_, vc_fr_mono fr (fun p z => z.imp (fun z => ⟨by omega, by omega⟩) id), fun f => (fr 12 (by omega)).1 f⟩
    rw [vx_arith1] at z
    rw [vx_arith2 z]
    exact vc_up hd75 (hT z).1 (hT z).2 fr (fun n hn e q => by omega) (by omega) oa
  · refine jv_Wp.lift (fun _ Kz => jv_Ev.steps jv_i28 4 (pc' := 22) (l' := [(4, .int (1 : Int32)), (3, .int (vl_I (vc_F w).n)), (0, .ref 10), (1, .long w)]) (st' := [.ref 10]) rfl Kz) ?_
    refine jv_Wp.lift (fun _ Kz => jv_Ev.m jv_i28 (pc' := 25) (st' := [.ref 12]) (G' := (jv_H K I L R)) rfl rfl (jv_m_getR hC.k rfl rfl hC.rnow) Kz) ?_
    refine jv_Wp.lift (fun _ Kz => jv_Ev.m jv_i28 (pc' := 28) (st' := [.ref (12 + 1)]) (G' := (jv_H K I L R)) rfl rfl (jv_m_getR hC.now.k rfl rfl hC.now.r) Kz) ?_
    refine jv_Wp.lift (fun _ Kz => jv_Ev.steps jv_i28 1 (pc' := 29) (l' := [(4, .int (1 : Int32)), (3, .int (vl_I (vc_F w).n)), (0, .ref 10), (1, .long w)]) (st' := [.long w, .ref (12 + 1)]) rfl Kz) ?_
    refine jv_Wp.lift (fun _ Kz => jv_Ev.c jv_i28 (pc' := 32) (S' := [.int (vl_I (vc_F w).d), .ref (12 + 1)]) jv_i86 [.long w] rfl rfl rfl rfl rfl rfl (vw_m86 w) rfl rfl Kz) ?_
    refine jv_Wp.lift (fun _ Kz => jv_Ev.m jv_i28 (pc' := 33) (st' := [.ref (12 + 2 + (vc_F w).d)]) (G' := (jv_H K I L R)) rfl rfl (jv_m_aaldR hC.now.kt rfl (vl_I_ix (vw_d75 w) (by decide)) rfl (vc_St_rt hC.now (vw_d75 w))) Kz) ?_
    refine jv_Wp.lift (fun _ Kz => jv_Ev.steps jv_i28 3 (pc' := 37) (l' := [(5, .ref (12 + 2 + (vc_F w).d)), (4, .int (1 : Int32)), (3, .int (vl_I (vc_F w).n)), (0, .ref 10), (1, .long w)]) (st' := [.long w, .ref 10]) rfl Kz) ?_
    obtain ⟨I5, L5, H5, T5, O5, F5⟩ := vc_opI (I := I) (L := L) (R := R) (n := n) (sl := sl) w hC hb
    refine jv_Wp.lift (fun _ Kz => jv_Ev.c jv_i28 (pc' := 40) (S' := [.ref 166]) (G1 := (jv_H K I5 L5 R)) jv_i27 [.ref 10, .long w] rfl rfl rfl rfl (jv_cal rfl (jv_H_at hC.k) rfl rfl) rfl H5 rfl rfl Kz) ?_
    refine jv_Wp.loc (l := [(0, .ref 10), (1, .long w), (3, .int (vl_I (vc_F w).n)), (4, .int (1 : Int32)), (5, .ref (12 + 2 + (vc_F w).d))]) ⟨List.forall_mem_cons.mpr ⟨.tail _ (.tail _ (.tail _ (.head _))), List.forall_mem_cons.mpr ⟨.tail _ (.tail _ (.tail _ (.tail _ (.head _)))), List.forall_mem_cons.mpr ⟨.tail _ (.tail _ (.head _)), List.forall_mem_cons.mpr ⟨.tail _ (.head _), List.forall_mem_cons.mpr ⟨.head _, fun _ h => absurd h List.not_mem_nil⟩⟩⟩⟩⟩, by show List.Nodup [5, 4, 3, 0, 1]; decide⟩ ?_
    have f1 : (vc_F w).kind = 7 := (vl_I_inj (by omega) (by decide)).mp (Classical.not_not.mp h1)
    have hwd : true = decide ((vc_F w).kind = 7) := (decide_eq_true (by omega)).symm
    have nd : ¬ (12 + 2 + (vc_F w).d) = 166 := by omega
    have eT : vc_T I5 L5 (12 + 2 + (vc_F w).d) = (vc_A I L 12).1 (vc_F w).d := (vc_fr_T F5 nd).trans (vc_A1 hd75).symm
    have eY : vc_T I5 L5 166 = vx_y (vc_F w) (vc_A I L 12) := by
      unfold vx_y; rw [if_neg (by rw [hb]; decide)]; exact T5
    have od := (vc_fr_ok F5 nd).mpr (oa _ hd75)
    have y1 : I5 166 6 = 1 := (vc_is1 O5).mp (by rw [T5]; rfl)
    refine jv_Wp.mono (vc_rtail (I := I5) (L := L5) w true hC hf hk hwd (hC.now.kk _ hd75) hC.k166 (by omega) (by omega) (fun q _ _ => by omega) (fun q _ _ => by omega) (by omega) od O5 (vc_td od (by rw [vc_fr_T F5 nd]; exact tA _ hd75)) (vc_td O5 (by rw [T5]; exact vt_ok_num (vb_just_tight _))) (vc_fr_far F5 nd (fA _ hd75)) (fun z => by rw [y1] at z; exact absurd z (by decide)) rfl) ?_
    rintro X ⟨I9, L9, eX, hT, hF⟩
    rw [eT, eY] at eX hT
    rw [hQ]
    have fr : vc_fr (fun p => p = (12 + 2 + (vc_F w).d) ∨ (166 ≤ p ∧ p ≤ 170)) I L I9 L9 := vc_fr_trans (vc_fr_mono F5 (fun p z => Or.inr (by omega))) (vc_fr_mono hF (fun p z => z.imp id (fun z => z.elim (fun z => by omega) (fun z => ⟨by have := z.1; omega, z.2⟩))))
    refine ⟨I9, L9, by rw [eX, vx_arith1], fun z => ?_, vc_fr_mono fr (fun p z => z.imp (fun z => ⟨by omega, by omega⟩) id), fun f => (fr 12 (by omega)).1 f⟩
    rw [vx_arith1] at z
    rw [vx_arith2 z]
    exact vc_up hd75 (hT z).1 (hT z).2 fr (fun n hn e q => by omega) (by omega) oa