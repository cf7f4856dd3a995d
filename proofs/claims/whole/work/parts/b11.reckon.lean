/-! part b11: what the checker reckons with (gen/tb11.py) -/
/-- the checker of the class, with what it holds -/
def vc_C (K : Nat → Option (Nat × Nat)) (R : Nat → Nat → Value) : Prop := K 10 = some (1, 12) ∧ K 166 = some (8, 10) ∧ K 167 = some (9, 6) ∧ K 168 = some (9, 6) ∧ K 169 = some (9, 6) ∧ K 170 = some (9, 6) ∧ R 10 0 = .ref 2 ∧ R 10 2 = .ref 12 ∧ R 10 3 = .ref 89 ∧ R 10 4 = .ref 166 ∧ R 10 5 = .ref 167 ∧ R 10 6 = .ref 168 ∧ R 10 7 = .ref 169 ∧ R 10 8 = .ref 170 ∧ vc_St K R 12 ∧ vc_St K R 89
theorem vc_C.k {K : Nat → Option (Nat × Nat)} {R : Nat → Nat → Value} (h : vc_C K R) : K 10 = some (1, 12) := h.1
theorem vc_C.k166 {K : Nat → Option (Nat × Nat)} {R : Nat → Nat → Value} (h : vc_C K R) : K 166 = some (8, 10) := h.2.1
theorem vc_C.k167 {K : Nat → Option (Nat × Nat)} {R : Nat → Nat → Value} (h : vc_C K R) : K 167 = some (9, 6) := h.2.2.1
theorem vc_C.k168 {K : Nat → Option (Nat × Nat)} {R : Nat → Nat → Value} (h : vc_C K R) : K 168 = some (9, 6) := h.2.2.2.1
theorem vc_C.k169 {K : Nat → Option (Nat × Nat)} {R : Nat → Nat → Value} (h : vc_C K R) : K 169 = some (9, 6) := h.2.2.2.2.1
theorem vc_C.k170 {K : Nat → Option (Nat × Nat)} {R : Nat → Nat → Value} (h : vc_C K R) : K 170 = some (9, 6) := h.2.2.2.2.2.1
theorem vc_C.rstore {K : Nat → Option (Nat × Nat)} {R : Nat → Nat → Value} (h : vc_C K R) : R 10 0 = .ref 2 := h.2.2.2.2.2.2.1
theorem vc_C.rnow {K : Nat → Option (Nat × Nat)} {R : Nat → Nat → Value} (h : vc_C K R) : R 10 2 = .ref 12 := h.2.2.2.2.2.2.2.1
theorem vc_C.rjumped {K : Nat → Option (Nat × Nat)} {R : Nat → Nat → Value} (h : vc_C K R) : R 10 3 = .ref 89 := h.2.2.2.2.2.2.2.2.1
theorem vc_C.rconst {K : Nat → Option (Nat × Nat)} {R : Nat → Nat → Value} (h : vc_C K R) : R 10 4 = .ref 166 := h.2.2.2.2.2.2.2.2.2.1
theorem vc_C.rleft {K : Nat → Option (Nat × Nat)} {R : Nat → Nat → Value} (h : vc_C K R) : R 10 5 = .ref 167 := h.2.2.2.2.2.2.2.2.2.2.1
theorem vc_C.rright {K : Nat → Option (Nat × Nat)} {R : Nat → Nat → Value} (h : vc_C K R) : R 10 6 = .ref 168 := h.2.2.2.2.2.2.2.2.2.2.2.1
theorem vc_C.rout {K : Nat → Option (Nat × Nat)} {R : Nat → Nat → Value} (h : vc_C K R) : R 10 7 = .ref 169 := h.2.2.2.2.2.2.2.2.2.2.2.2.1
theorem vc_C.rroom {K : Nat → Option (Nat × Nat)} {R : Nat → Nat → Value} (h : vc_C K R) : R 10 8 = .ref 170 := h.2.2.2.2.2.2.2.2.2.2.2.2.2.1
theorem vc_C.now {K : Nat → Option (Nat × Nat)} {R : Nat → Nat → Value} (h : vc_C K R) : vc_St K R 12 := h.2.2.2.2.2.2.2.2.2.2.2.2.2.2.1
theorem vc_C.jumped {K : Nat → Option (Nat × Nat)} {R : Nat → Nat → Value} (h : vc_C K R) : vc_St K R 89 := h.2.2.2.2.2.2.2.2.2.2.2.2.2.2.2
/-- values that the checker reckons with -/
def vc_sc (p : Nat) : Prop := 167 ≤ p ∧ p ≤ 170
theorem vb_tight_le {v : vb_S} (h : vb_tight v) : v.low.toNat ≤ v.high.toNat := h.low.2.2.1
def vx_rn (n : Nat) (wide : Bool) (x y : vb_S) : vb_S := if wide = true then vx_op n x y 63 else vx_op32 n x y
theorem jv_i31 : jv_I 31 5 none 4 107 jv_c31 := ⟨rfl, rfl, rfl, rfl, rfl⟩
theorem vc_rn {K : Nat → Option (Nat × Nat)} {I : Nat → Nat → Int32} {L : Nat → Nat → Int64} {R : Nat → Nat → Value} (k : Nat) (wd : Bool) {x y : Nat} (hC : vc_C K R) (hk : k < 16) (hvx : jv_isV K x) (hvy : jv_isV K y) (hxx : ∀ q, 167 ≤ q → q ≤ 170 → q ≠ x) (hxy : ∀ q, 167 ≤ q → q ≤ 170 → q ≠ y) (ty : vb_tight (vl_S L y)) {n sl : Nat} : ∃ I1 L1, jv_Ms 31 [.ref 10, .int (vl_I k), .int (vr_b wd), .ref x, .ref y] (jv_H K I L R) n sl (none, jv_H K I1 L1 R, n, sl) ∧ vl_S L1 169 = vx_rn k wd (vl_S L x) (vl_S L y) ∧ vc_fr vc_sc I L I1 L1 := by
  obtain ⟨Q, hQ⟩ : ∃ Q : jv_R → Prop, Q = fun X => ∃ I1 L1, X = (none, jv_H K I1 L1 R, n, sl) ∧ vl_S L1 169 = vx_rn k wd (vl_S L x) (vl_S L y) ∧ vc_fr vc_sc I L I1 L1 := ⟨_, rfl⟩
  suffices h : jv_Wp 31 0 [(0, .ref 10), (1, .int (vl_I k)), (2, .int (vr_b wd)), (3, .ref x), (4, .ref y)] [] (jv_H K I L R) n sl Q by
    rw [hQ] at h
    obtain ⟨X, h, I1, L1, e, h'⟩ := h
    subst e
    exact ⟨I1, L1, h, h'⟩
  refine jv_Wp.lift (fun _ Kz => jv_Ev.steps jv_i31 1 (pc' := 1) (l' := [(0, .ref 10), (1, .int (vl_I k)), (2, .int (vr_b wd)), (3, .ref x), (4, .ref y)]) (st' := [.int (vr_b wd)]) rfl Kz) ?_
  refine jv_Wp.cnd jv_i31 (pt := 18) (pe := 4) (p := ((vr_b wd) = 0)) (q := ((vr_b wd) = 0)) rfl jv_bi_eq rfl rfl Iff.rfl (fun h1 => ?_) (fun h1 => ?_)
  · refine jv_Wp.lift (fun _ Kz => jv_Ev.steps jv_i31 2 (pc' := 21) (l' := [(0, .ref 10), (1, .int (vl_I k)), (2, .int (vr_b wd)), (3, .ref x), (4, .ref y)]) (st' := [.int (12 : Int32), .int (vl_I k)]) rfl Kz) ?_
    refine jv_Wp.cnd jv_i31 (pt := 37) (pe := 24) (p := (¬ (vl_I k) = (12 : Int32))) (q := (¬ (vl_I k) = (12 : Int32))) rfl jv_bc_ne rfl rfl Iff.rfl (fun h2 => ?_) (fun h2 => ?_)
    · refine jv_Wp.lift (fun _ Kz => jv_Ev.steps jv_i31 1 (pc' := 38) (l' := [(0, .ref 10), (1, .int (vl_I k)), (2, .int (vr_b wd)), (3, .ref x), (4, .ref y)]) (st' := [.ref 10]) rfl Kz) ?_
      refine jv_Wp.lift (fun _ Kz => jv_Ev.m jv_i31 (pc' := 41) (st' := [.ref 167]) (G' := (jv_H K I L R)) rfl rfl (jv_m_getR hC.k rfl rfl hC.rleft) Kz) ?_
      refine jv_Wp.lift (fun _ Kz => jv_Ev.steps jv_i31 2 (pc' := 44) (l' := [(0, .ref 10), (1, .int (vl_I k)), (2, .int (vr_b wd)), (3, .ref x), (4, .ref y)]) (st' := [.int (32 : Int32), .ref x, .ref 167]) rfl Kz) ?_
      refine jv_Wp.lift (fun _ Kz => jv_Ev.c jv_i31 (pc' := 47) (S' := []) (G1 := (jv_H K I (vl_set L 167 (vb_tt (vb_cCut (vl_S L x) 32))) R)) jv_i170 [.ref 167, .ref x, .int (32 : Int32)] rfl rfl rfl rfl (jv_cal rfl (jv_H_at hC.k167) rfl rfl) rfl (jv_s170 167 x 32 hC.k167 hvx (by decide) (hxx 167 (by decide) (by decide))) rfl rfl Kz) ?_
      refine jv_Wp.lift (fun _ Kz => jv_Ev.steps jv_i31 1 (pc' := 48) (l' := [(0, .ref 10), (1, .int (vl_I k)), (2, .int (vr_b wd)), (3, .ref x), (4, .ref y)]) (st' := [.ref 10]) rfl Kz) ?_
      refine jv_Wp.lift (fun _ Kz => jv_Ev.m jv_i31 (pc' := 51) (st' := [.ref 168]) (G' := (jv_H K I (vl_set L 167 (vb_tt (vb_cCut (vl_S L x) 32))) R)) rfl rfl (jv_m_getR hC.k rfl rfl hC.rright) Kz) ?_
      refine jv_Wp.lift (fun _ Kz => jv_Ev.steps jv_i31 2 (pc' := 55) (l' := [(0, .ref 10), (1, .int (vl_I k)), (2, .int (vr_b wd)), (3, .ref x), (4, .ref y)]) (st' := [.int (32 : Int32), .ref y, .ref 168]) rfl Kz) ?_
      refine jv_Wp.lift (fun _ Kz => jv_Ev.c jv_i31 (pc' := 58) (S' := []) (G1 := (jv_H K I (vl_set (vl_set L 167 (vb_tt (vb_cCut (vl_S L x) 32))) 168 (vb_tt (vb_cCut (vl_S (vl_set L 167 (vb_tt (vb_cCut (vl_S L x) 32))) y) 32))) R)) jv_i170 [.ref 168, .ref y, .int (32 : Int32)] rfl rfl rfl rfl (jv_cal rfl (jv_H_at hC.k168) rfl rfl) rfl (jv_s170 168 y 32 hC.k168 hvy (by decide) (hxy 168 (by decide) (by decide))) rfl rfl Kz) ?_
      refine jv_Wp.lift (fun _ Kz => jv_Ev.steps jv_i31 1 (pc' := 59) (l' := [(0, .ref 10), (1, .int (vl_I k)), (2, .int (vr_b wd)), (3, .ref x), (4, .ref y)]) (st' := [.ref 10]) rfl Kz) ?_
      refine jv_Wp.lift (fun _ Kz => jv_Ev.m jv_i31 (pc' := 62) (st' := [.ref 170]) (G' := (jv_H K I (vl_set (vl_set L 167 (vb_tt (vb_cCut (vl_S L x) 32))) 168 (vb_tt (vb_cCut (vl_S (vl_set L 167 (vb_tt (vb_cCut (vl_S L x) 32))) y) 32))) R)) rfl rfl (jv_m_getR hC.k rfl rfl hC.rroom) Kz) ?_
      refine jv_Wp.lift (fun _ Kz => jv_Ev.steps jv_i31 2 (pc' := 64) (l' := [(0, .ref 10), (1, .int (vl_I k)), (2, .int (vr_b wd)), (3, .ref x), (4, .ref y)]) (st' := [.ref 10, .int (vl_I k), .ref 170]) rfl Kz) ?_
      refine jv_Wp.lift (fun _ Kz => jv_Ev.m jv_i31 (pc' := 67) (st' := [.ref 167, .int (vl_I k), .ref 170]) (G' := (jv_H K I (vl_set (vl_set L 167 (vb_tt (vb_cCut (vl_S L x) 32))) 168 (vb_tt (vb_cCut (vl_S (vl_set L 167 (vb_tt (vb_cCut (vl_S L x) 32))) y) 32))) R)) rfl rfl (jv_m_getR hC.k rfl rfl hC.rleft) Kz) ?_
      refine jv_Wp.lift (fun _ Kz => jv_Ev.steps jv_i31 1 (pc' := 68) (l' := [(0, .ref 10), (1, .int (vl_I k)), (2, .int (vr_b wd)), (3, .ref x), (4, .ref y)]) (st' := [.ref 10, .ref 167, .int (vl_I k), .ref 170]) rfl Kz) ?_
      refine jv_Wp.lift (fun _ Kz => jv_Ev.m jv_i31 (pc' := 71) (st' := [.ref 168, .ref 167, .int (vl_I k), .ref 170]) (G' := (jv_H K I (vl_set (vl_set L 167 (vb_tt (vb_cCut (vl_S L x) 32))) 168 (vb_tt (vb_cCut (vl_S (vl_set L 167 (vb_tt (vb_cCut (vl_S L x) 32))) y) 32))) R)) rfl rfl (jv_m_getR hC.k rfl rfl hC.rright) Kz) ?_
      refine jv_Wp.lift (fun _ Kz => jv_Ev.steps jv_i31 1 (pc' := 73) (l' := [(0, .ref 10), (1, .int (vl_I k)), (2, .int (vr_b wd)), (3, .ref x), (4, .ref y)]) (st' := [.int (31 : Int32), .ref 168, .ref 167, .int (vl_I k), .ref 170]) rfl Kz) ?_
      have hl : (vl_S (vl_set (vl_set L 167 (vb_tt (vb_cCut (vl_S L x) 32))) 168 (vb_tt (vb_cCut (vl_S (vl_set L 167 (vb_tt (vb_cCut (vl_S L x) 32))) y) 32))) 168).low.toNat ≤ (vl_S (vl_set (vl_set L 167 (vb_tt (vb_cCut (vl_S L x) 32))) 168 (vb_tt (vb_cCut (vl_S (vl_set L 167 (vb_tt (vb_cCut (vl_S L x) 32))) y) 32))) 168).high.toNat := by rw [vl_set_S, vl_set_o (hxy 167 (by decide) (by decide)).symm]; exact vb_tight_le (vx_cut_in ty.low).1
      refine jv_Wp.lift (fun _ Kz => jv_Ev.c jv_i31 (pc' := 76) (S' := []) (G1 := (jv_H K I (vl_set (vl_set (vl_set L 167 (vb_tt (vb_cCut (vl_S L x) 32))) 168 (vb_tt (vb_cCut (vl_S (vl_set L 167 (vb_tt (vb_cCut (vl_S L x) 32))) y) 32))) 170 (vb_tt (vb_cOp (vl_I k) (vl_S (vl_set (vl_set L 167 (vb_tt (vb_cCut (vl_S L x) 32))) 168 (vb_tt (vb_cCut (vl_S (vl_set L 167 (vb_tt (vb_cCut (vl_S L x) 32))) y) 32))) 167) (vl_S (vl_set (vl_set L 167 (vb_tt (vb_cCut (vl_S L x) 32))) 168 (vb_tt (vb_cCut (vl_S (vl_set L 167 (vb_tt (vb_cCut (vl_S L x) 32))) y) 32))) 168) 31))) R)) jv_i158 [.ref 170, .int (vl_I k), .ref 167, .ref 168, .int (31 : Int32)] rfl rfl rfl rfl (jv_cal rfl (jv_H_at hC.k170) rfl rfl) rfl (vl_operate (top := 31) hC.k170 (Or.inl hC.k167) (Or.inl hC.k168) (Or.inr ⟨rfl, rfl⟩) hl (by decide) (by decide)) rfl rfl Kz) ?_
      refine jv_Wp.lift (fun _ Kz => jv_Ev.steps jv_i31 1 (pc' := 77) (l' := [(0, .ref 10), (1, .int (vl_I k)), (2, .int (vr_b wd)), (3, .ref x), (4, .ref y)]) (st' := [.ref 10]) rfl Kz) ?_
      refine jv_Wp.lift (fun _ Kz => jv_Ev.m jv_i31 (pc' := 80) (st' := [.ref 169]) (G' := (jv_H K I (vl_set (vl_set (vl_set L 167 (vb_tt (vb_cCut (vl_S L x) 32))) 168 (vb_tt (vb_cCut (vl_S (vl_set L 167 (vb_tt (vb_cCut (vl_S L x) 32))) y) 32))) 170 (vb_tt (vb_cOp (vl_I k) (vl_S (vl_set (vl_set L 167 (vb_tt (vb_cCut (vl_S L x) 32))) 168 (vb_tt (vb_cCut (vl_S (vl_set L 167 (vb_tt (vb_cCut (vl_S L x) 32))) y) 32))) 167) (vl_S (vl_set (vl_set L 167 (vb_tt (vb_cCut (vl_S L x) 32))) 168 (vb_tt (vb_cCut (vl_S (vl_set L 167 (vb_tt (vb_cCut (vl_S L x) 32))) y) 32))) 168) 31))) R)) rfl rfl (jv_m_getR hC.k rfl rfl hC.rout) Kz) ?_
      refine jv_Wp.lift (fun _ Kz => jv_Ev.steps jv_i31 1 (pc' := 81) (l' := [(0, .ref 10), (1, .int (vl_I k)), (2, .int (vr_b wd)), (3, .ref x), (4, .ref y)]) (st' := [.ref 10, .ref 169]) rfl Kz) ?_
      refine jv_Wp.lift (fun _ Kz => jv_Ev.m jv_i31 (pc' := 84) (st' := [.ref 170, .ref 169]) (G' := (jv_H K I (vl_set (vl_set (vl_set L 167 (vb_tt (vb_cCut (vl_S L x) 32))) 168 (vb_tt (vb_cCut (vl_S (vl_set L 167 (vb_tt (vb_cCut (vl_S L x) 32))) y) 32))) 170 (vb_tt (vb_cOp (vl_I k) (vl_S (vl_set (vl_set L 167 (vb_tt (vb_cCut (vl_S L x) 32))) 168 (vb_tt (vb_cCut (vl_S (vl_set L 167 (vb_tt (vb_cCut (vl_S L x) 32))) y) 32))) 167) (vl_S (vl_set (vl_set L 167 (vb_tt (vb_cCut (vl_S L x) 32))) 168 (vb_tt (vb_cCut (vl_S (vl_set L 167 (vb_tt (vb_cCut (vl_S L x) 32))) y) 32))) 168) 31))) R)) rfl rfl (jv_m_getR hC.k rfl rfl hC.rroom) Kz) ?_
      refine jv_Wp.lift (fun _ Kz => jv_Ev.steps jv_i31 1 (pc' := 86) (l' := [(0, .ref 10), (1, .int (vl_I k)), (2, .int (vr_b wd)), (3, .ref x), (4, .ref y)]) (st' := [.int (32 : Int32), .ref 170, .ref 169]) rfl Kz) ?_
      refine jv_Wp.lift (fun _ Kz => jv_Ev.c jv_i31 (pc' := 89) (S' := []) (G1 := (jv_H K I (vl_set (vl_set (vl_set (vl_set L 167 (vb_tt (vb_cCut (vl_S L x) 32))) 168 (vb_tt (vb_cCut (vl_S (vl_set L 167 (vb_tt (vb_cCut (vl_S L x) 32))) y) 32))) 170 (vb_tt (vb_cOp (vl_I k) (vl_S (vl_set (vl_set L 167 (vb_tt (vb_cCut (vl_S L x) 32))) 168 (vb_tt (vb_cCut (vl_S (vl_set L 167 (vb_tt (vb_cCut (vl_S L x) 32))) y) 32))) 167) (vl_S (vl_set (vl_set L 167 (vb_tt (vb_cCut (vl_S L x) 32))) 168 (vb_tt (vb_cCut (vl_S (vl_set L 167 (vb_tt (vb_cCut (vl_S L x) 32))) y) 32))) 168) 31))) 169 (vb_tt (vb_cCut (vl_S (vl_set (vl_set (vl_set L 167 (vb_tt (vb_cCut (vl_S L x) 32))) 168 (vb_tt (vb_cCut (vl_S (vl_set L 167 (vb_tt (vb_cCut (vl_S L x) 32))) y) 32))) 170 (vb_tt (vb_cOp (vl_I k) (vl_S (vl_set (vl_set L 167 (vb_tt (vb_cCut (vl_S L x) 32))) 168 (vb_tt (vb_cCut (vl_S (vl_set L 167 (vb_tt (vb_cCut (vl_S L x) 32))) y) 32))) 167) (vl_S (vl_set (vl_set L 167 (vb_tt (vb_cCut (vl_S L x) 32))) 168 (vb_tt (vb_cCut (vl_S (vl_set L 167 (vb_tt (vb_cCut (vl_S L x) 32))) y) 32))) 168) 31))) 170) 32))) R)) jv_i170 [.ref 169, .ref 170, .int (32 : Int32)] rfl rfl rfl rfl (jv_cal rfl (jv_H_at hC.k169) rfl rfl) rfl (jv_s170 169 170 32 hC.k169 (Or.inl hC.k170) (by decide) (by decide)) rfl rfl Kz) ?_
      refine jv_Wp.of (jv_Ev.ret jv_i31 rfl rfl) ?_
      rw [hQ]
      refine ⟨_, _, rfl, ?_, fun p hp => ⟨fun _ => rfl, fun f => (vl_set_out (fun z => hp (by rw [z.1]; exact ⟨by decide, by decide⟩))).trans ((vl_set_out (fun z => hp (by rw [z.1]; exact ⟨by decide, by decide⟩))).trans ((vl_set_out (fun z => hp (by rw [z.1]; exact ⟨by decide, by decide⟩))).trans ((vl_set_out (fun z => hp (by rw [z.1]; exact ⟨by decide, by decide⟩))))))⟩⟩
      have ew : wd = false := by cases wd <;> first | rfl | exact absurd h1 (by decide)
      rw [ew]
      unfold vx_rn
      rw [if_neg (by decide)]
      unfold vx_op32
      rw [if_neg (fun z => h2 (by rw [z]; rfl))]
      rw [vl_set_S, vl_set_S, vl_set_S, vl_set_o (by decide), vl_set_S, vl_set_o (hxy 167 (by decide) (by decide)).symm]
      rfl
    · refine jv_Wp.lift (fun _ Kz => jv_Ev.steps jv_i31 1 (pc' := 25) (l' := [(0, .ref 10), (1, .int (vl_I k)), (2, .int (vr_b wd)), (3, .ref x), (4, .ref y)]) (st' := [.ref 10]) rfl Kz) ?_
      refine jv_Wp.lift (fun _ Kz => jv_Ev.m jv_i31 (pc' := 28) (st' := [.ref 167]) (G' := (jv_H K I L R)) rfl rfl (jv_m_getR hC.k rfl rfl hC.rleft) Kz) ?_
      refine jv_Wp.lift (fun _ Kz => jv_Ev.steps jv_i31 2 (pc' := 31) (l' := [(0, .ref 10), (1, .int (vl_I k)), (2, .int (vr_b wd)), (3, .ref x), (4, .ref y)]) (st' := [.int (32 : Int32), .ref x, .ref 167]) rfl Kz) ?_
      refine jv_Wp.lift (fun _ Kz => jv_Ev.c jv_i31 (pc' := 34) (S' := []) (G1 := (jv_H K I (vl_set L 167 (vb_tt (vb_cExt (vb_tt (vb_cCut (vl_S L x) 32)) 32))) R)) jv_i172 [.ref 167, .ref x, .int (32 : Int32)] rfl rfl rfl rfl (jv_cal rfl (jv_H_at hC.k167) rfl rfl) rfl (vl_extend (m := 32) hC.k167 hvx (hxx 167 (by decide) (by decide)) (by decide)) rfl rfl Kz) ?_
      refine jv_Wp.lift (fun _ Kz => jv_Ev.steps jv_i31 2 (pc' := 48) (l' := [(0, .ref 10), (1, .int (vl_I k)), (2, .int (vr_b wd)), (3, .ref x), (4, .ref y)]) (st' := [.ref 10]) rfl Kz) ?_
      refine jv_Wp.lift (fun _ Kz => jv_Ev.m jv_i31 (pc' := 51) (st' := [.ref 168]) (G' := (jv_H K I (vl_set L 167 (vb_tt (vb_cExt (vb_tt (vb_cCut (vl_S L x) 32)) 32))) R)) rfl rfl (jv_m_getR hC.k rfl rfl hC.rright) Kz) ?_
      refine jv_Wp.lift (fun _ Kz => jv_Ev.steps jv_i31 2 (pc' := 55) (l' := [(0, .ref 10), (1, .int (vl_I k)), (2, .int (vr_b wd)), (3, .ref x), (4, .ref y)]) (st' := [.int (32 : Int32), .ref y, .ref 168]) rfl Kz) ?_
      refine jv_Wp.lift (fun _ Kz => jv_Ev.c jv_i31 (pc' := 58) (S' := []) (G1 := (jv_H K I (vl_set (vl_set L 167 (vb_tt (vb_cExt (vb_tt (vb_cCut (vl_S L x) 32)) 32))) 168 (vb_tt (vb_cCut (vl_S (vl_set L 167 (vb_tt (vb_cExt (vb_tt (vb_cCut (vl_S L x) 32)) 32))) y) 32))) R)) jv_i170 [.ref 168, .ref y, .int (32 : Int32)] rfl rfl rfl rfl (jv_cal rfl (jv_H_at hC.k168) rfl rfl) rfl (jv_s170 168 y 32 hC.k168 hvy (by decide) (hxy 168 (by decide) (by decide))) rfl rfl Kz) ?_
      refine jv_Wp.lift (fun _ Kz => jv_Ev.steps jv_i31 1 (pc' := 59) (l' := [(0, .ref 10), (1, .int (vl_I k)), (2, .int (vr_b wd)), (3, .ref x), (4, .ref y)]) (st' := [.ref 10]) rfl Kz) ?_
      refine jv_Wp.lift (fun _ Kz => jv_Ev.m jv_i31 (pc' := 62) (st' := [.ref 170]) (G' := (jv_H K I (vl_set (vl_set L 167 (vb_tt (vb_cExt (vb_tt (vb_cCut (vl_S L x) 32)) 32))) 168 (vb_tt (vb_cCut (vl_S (vl_set L 167 (vb_tt (vb_cExt (vb_tt (vb_cCut (vl_S L x) 32)) 32))) y) 32))) R)) rfl rfl (jv_m_getR hC.k rfl rfl hC.rroom) Kz) ?_
      refine jv_Wp.lift (fun _ Kz => jv_Ev.steps jv_i31 2 (pc' := 64) (l' := [(0, .ref 10), (1, .int (vl_I k)), (2, .int (vr_b wd)), (3, .ref x), (4, .ref y)]) (st' := [.ref 10, .int (vl_I k), .ref 170]) rfl Kz) ?_
      refine jv_Wp.lift (fun _ Kz => jv_Ev.m jv_i31 (pc' := 67) (st' := [.ref 167, .int (vl_I k), .ref 170]) (G' := (jv_H K I (vl_set (vl_set L 167 (vb_tt (vb_cExt (vb_tt (vb_cCut (vl_S L x) 32)) 32))) 168 (vb_tt (vb_cCut (vl_S (vl_set L 167 (vb_tt (vb_cExt (vb_tt (vb_cCut (vl_S L x) 32)) 32))) y) 32))) R)) rfl rfl (jv_m_getR hC.k rfl rfl hC.rleft) Kz) ?_
      refine jv_Wp.lift (fun _ Kz => jv_Ev.steps jv_i31 1 (pc' := 68) (l' := [(0, .ref 10), (1, .int (vl_I k)), (2, .int (vr_b wd)), (3, .ref x), (4, .ref y)]) (st' := [.ref 10, .ref 167, .int (vl_I k), .ref 170]) rfl Kz) ?_
      refine jv_Wp.lift (fun _ Kz => jv_Ev.m jv_i31 (pc' := 71) (st' := [.ref 168, .ref 167, .int (vl_I k), .ref 170]) (G' := (jv_H K I (vl_set (vl_set L 167 (vb_tt (vb_cExt (vb_tt (vb_cCut (vl_S L x) 32)) 32))) 168 (vb_tt (vb_cCut (vl_S (vl_set L 167 (vb_tt (vb_cExt (vb_tt (vb_cCut (vl_S L x) 32)) 32))) y) 32))) R)) rfl rfl (jv_m_getR hC.k rfl rfl hC.rright) Kz) ?_
      refine jv_Wp.lift (fun _ Kz => jv_Ev.steps jv_i31 1 (pc' := 73) (l' := [(0, .ref 10), (1, .int (vl_I k)), (2, .int (vr_b wd)), (3, .ref x), (4, .ref y)]) (st' := [.int (31 : Int32), .ref 168, .ref 167, .int (vl_I k), .ref 170]) rfl Kz) ?_
      have hl : (vl_S (vl_set (vl_set L 167 (vb_tt (vb_cExt (vb_tt (vb_cCut (vl_S L x) 32)) 32))) 168 (vb_tt (vb_cCut (vl_S (vl_set L 167 (vb_tt (vb_cExt (vb_tt (vb_cCut (vl_S L x) 32)) 32))) y) 32))) 168).low.toNat ≤ (vl_S (vl_set (vl_set L 167 (vb_tt (vb_cExt (vb_tt (vb_cCut (vl_S L x) 32)) 32))) 168 (vb_tt (vb_cCut (vl_S (vl_set L 167 (vb_tt (vb_cExt (vb_tt (vb_cCut (vl_S L x) 32)) 32))) y) 32))) 168).high.toNat := by rw [vl_set_S, vl_set_o (hxy 167 (by decide) (by decide)).symm]; exact vb_tight_le (vx_cut_in ty.low).1
      refine jv_Wp.lift (fun _ Kz => jv_Ev.c jv_i31 (pc' := 76) (S' := []) (G1 := (jv_H K I (vl_set (vl_set (vl_set L 167 (vb_tt (vb_cExt (vb_tt (vb_cCut (vl_S L x) 32)) 32))) 168 (vb_tt (vb_cCut (vl_S (vl_set L 167 (vb_tt (vb_cExt (vb_tt (vb_cCut (vl_S L x) 32)) 32))) y) 32))) 170 (vb_tt (vb_cOp (vl_I k) (vl_S (vl_set (vl_set L 167 (vb_tt (vb_cExt (vb_tt (vb_cCut (vl_S L x) 32)) 32))) 168 (vb_tt (vb_cCut (vl_S (vl_set L 167 (vb_tt (vb_cExt (vb_tt (vb_cCut (vl_S L x) 32)) 32))) y) 32))) 167) (vl_S (vl_set (vl_set L 167 (vb_tt (vb_cExt (vb_tt (vb_cCut (vl_S L x) 32)) 32))) 168 (vb_tt (vb_cCut (vl_S (vl_set L 167 (vb_tt (vb_cExt (vb_tt (vb_cCut (vl_S L x) 32)) 32))) y) 32))) 168) 31))) R)) jv_i158 [.ref 170, .int (vl_I k), .ref 167, .ref 168, .int (31 : Int32)] rfl rfl rfl rfl (jv_cal rfl (jv_H_at hC.k170) rfl rfl) rfl (vl_operate (top := 31) hC.k170 (Or.inl hC.k167) (Or.inl hC.k168) (Or.inr ⟨rfl, rfl⟩) hl (by decide) (by decide)) rfl rfl Kz) ?_
      refine jv_Wp.lift (fun _ Kz => jv_Ev.steps jv_i31 1 (pc' := 77) (l' := [(0, .ref 10), (1, .int (vl_I k)), (2, .int (vr_b wd)), (3, .ref x), (4, .ref y)]) (st' := [.ref 10]) rfl Kz) ?_
      refine jv_Wp.lift (fun _ Kz => jv_Ev.m jv_i31 (pc' := 80) (st' := [.ref 169]) (G' := (jv_H K I (vl_set (vl_set (vl_set L 167 (vb_tt (vb_cExt (vb_tt (vb_cCut (vl_S L x) 32)) 32))) 168 (vb_tt (vb_cCut (vl_S (vl_set L 167 (vb_tt (vb_cExt (vb_tt (vb_cCut (vl_S L x) 32)) 32))) y) 32))) 170 (vb_tt (vb_cOp (vl_I k) (vl_S (vl_set (vl_set L 167 (vb_tt (vb_cExt (vb_tt (vb_cCut (vl_S L x) 32)) 32))) 168 (vb_tt (vb_cCut (vl_S (vl_set L 167 (vb_tt (vb_cExt (vb_tt (vb_cCut (vl_S L x) 32)) 32))) y) 32))) 167) (vl_S (vl_set (vl_set L 167 (vb_tt (vb_cExt (vb_tt (vb_cCut (vl_S L x) 32)) 32))) 168 (vb_tt (vb_cCut (vl_S (vl_set L 167 (vb_tt (vb_cExt (vb_tt (vb_cCut (vl_S L x) 32)) 32))) y) 32))) 168) 31))) R)) rfl rfl (jv_m_getR hC.k rfl rfl hC.rout) Kz) ?_
      refine jv_Wp.lift (fun _ Kz => jv_Ev.steps jv_i31 1 (pc' := 81) (l' := [(0, .ref 10), (1, .int (vl_I k)), (2, .int (vr_b wd)), (3, .ref x), (4, .ref y)]) (st' := [.ref 10, .ref 169]) rfl Kz) ?_
      refine jv_Wp.lift (fun _ Kz => jv_Ev.m jv_i31 (pc' := 84) (st' := [.ref 170, .ref 169]) (G' := (jv_H K I (vl_set (vl_set (vl_set L 167 (vb_tt (vb_cExt (vb_tt (vb_cCut (vl_S L x) 32)) 32))) 168 (vb_tt (vb_cCut (vl_S (vl_set L 167 (vb_tt (vb_cExt (vb_tt (vb_cCut (vl_S L x) 32)) 32))) y) 32))) 170 (vb_tt (vb_cOp (vl_I k) (vl_S (vl_set (vl_set L 167 (vb_tt (vb_cExt (vb_tt (vb_cCut (vl_S L x) 32)) 32))) 168 (vb_tt (vb_cCut (vl_S (vl_set L 167 (vb_tt (vb_cExt (vb_tt (vb_cCut (vl_S L x) 32)) 32))) y) 32))) 167) (vl_S (vl_set (vl_set L 167 (vb_tt (vb_cExt (vb_tt (vb_cCut (vl_S L x) 32)) 32))) 168 (vb_tt (vb_cCut (vl_S (vl_set L 167 (vb_tt (vb_cExt (vb_tt (vb_cCut (vl_S L x) 32)) 32))) y) 32))) 168) 31))) R)) rfl rfl (jv_m_getR hC.k rfl rfl hC.rroom) Kz) ?_
      refine jv_Wp.lift (fun _ Kz => jv_Ev.steps jv_i31 1 (pc' := 86) (l' := [(0, .ref 10), (1, .int (vl_I k)), (2, .int (vr_b wd)), (3, .ref x), (4, .ref y)]) (st' := [.int (32 : Int32), .ref 170, .ref 169]) rfl Kz) ?_
      refine jv_Wp.lift (fun _ Kz => jv_Ev.c jv_i31 (pc' := 89) (S' := []) (G1 := (jv_H K I (vl_set (vl_set (vl_set (vl_set L 167 (vb_tt (vb_cExt (vb_tt (vb_cCut (vl_S L x) 32)) 32))) 168 (vb_tt (vb_cCut (vl_S (vl_set L 167 (vb_tt (vb_cExt (vb_tt (vb_cCut (vl_S L x) 32)) 32))) y) 32))) 170 (vb_tt (vb_cOp (vl_I k) (vl_S (vl_set (vl_set L 167 (vb_tt (vb_cExt (vb_tt (vb_cCut (vl_S L x) 32)) 32))) 168 (vb_tt (vb_cCut (vl_S (vl_set L 167 (vb_tt (vb_cExt (vb_tt (vb_cCut (vl_S L x) 32)) 32))) y) 32))) 167) (vl_S (vl_set (vl_set L 167 (vb_tt (vb_cExt (vb_tt (vb_cCut (vl_S L x) 32)) 32))) 168 (vb_tt (vb_cCut (vl_S (vl_set L 167 (vb_tt (vb_cExt (vb_tt (vb_cCut (vl_S L x) 32)) 32))) y) 32))) 168) 31))) 169 (vb_tt (vb_cCut (vl_S (vl_set (vl_set (vl_set L 167 (vb_tt (vb_cExt (vb_tt (vb_cCut (vl_S L x) 32)) 32))) 168 (vb_tt (vb_cCut (vl_S (vl_set L 167 (vb_tt (vb_cExt (vb_tt (vb_cCut (vl_S L x) 32)) 32))) y) 32))) 170 (vb_tt (vb_cOp (vl_I k) (vl_S (vl_set (vl_set L 167 (vb_tt (vb_cExt (vb_tt (vb_cCut (vl_S L x) 32)) 32))) 168 (vb_tt (vb_cCut (vl_S (vl_set L 167 (vb_tt (vb_cExt (vb_tt (vb_cCut (vl_S L x) 32)) 32))) y) 32))) 167) (vl_S (vl_set (vl_set L 167 (vb_tt (vb_cExt (vb_tt (vb_cCut (vl_S L x) 32)) 32))) 168 (vb_tt (vb_cCut (vl_S (vl_set L 167 (vb_tt (vb_cExt (vb_tt (vb_cCut (vl_S L x) 32)) 32))) y) 32))) 168) 31))) 170) 32))) R)) jv_i170 [.ref 169, .ref 170, .int (32 : Int32)] rfl rfl rfl rfl (jv_cal rfl (jv_H_at hC.k169) rfl rfl) rfl (jv_s170 169 170 32 hC.k169 (Or.inl hC.k170) (by decide) (by decide)) rfl rfl Kz) ?_
      refine jv_Wp.of (jv_Ev.ret jv_i31 rfl rfl) ?_
      rw [hQ]
      refine ⟨_, _, rfl, ?_, fun p hp => ⟨fun _ => rfl, fun f => (vl_set_out (fun z => hp (by rw [z.1]; exact ⟨by decide, by decide⟩))).trans ((vl_set_out (fun z => hp (by rw [z.1]; exact ⟨by decide, by decide⟩))).trans ((vl_set_out (fun z => hp (by rw [z.1]; exact ⟨by decide, by decide⟩))).trans ((vl_set_out (fun z => hp (by rw [z.1]; exact ⟨by decide, by decide⟩))))))⟩⟩
      have ew : wd = false := by cases wd <;> first | rfl | exact absurd h1 (by decide)
      rw [ew]
      unfold vx_rn
      rw [if_neg (by decide)]
      unfold vx_op32
      rw [if_pos ((vl_I_inj (by omega) (by decide)).mp (Classical.not_not.mp h2))]
      rw [vl_set_S, vl_set_S, vl_set_S, vl_set_o (by decide), vl_set_S, vl_set_o (hxy 167 (by decide) (by decide)).symm]
      rfl
  · refine jv_Wp.lift (fun _ Kz => jv_Ev.steps jv_i31 1 (pc' := 5) (l' := [(0, .ref 10), (1, .int (vl_I k)), (2, .int (vr_b wd)), (3, .ref x), (4, .ref y)]) (st' := [.ref 10]) rfl Kz) ?_
    refine jv_Wp.lift (fun _ Kz => jv_Ev.m jv_i31 (pc' := 8) (st' := [.ref 169]) (G' := (jv_H K I L R)) rfl rfl (jv_m_getR hC.k rfl rfl hC.rout) Kz) ?_
    refine jv_Wp.lift (fun _ Kz => jv_Ev.steps jv_i31 4 (pc' := 14) (l' := [(0, .ref 10), (1, .int (vl_I k)), (2, .int (vr_b wd)), (3, .ref x), (4, .ref y)]) (st' := [.int (63 : Int32), .ref y, .ref x, .int (vl_I k), .ref 169]) rfl Kz) ?_
    refine jv_Wp.lift (fun _ Kz => jv_Ev.c jv_i31 (pc' := 17) (S' := []) (G1 := (jv_H K I (vl_set L 169 (vb_tt (vb_cOp (vl_I k) (vl_S L x) (vl_S L y) 63))) R)) jv_i158 [.ref 169, .int (vl_I k), .ref x, .ref y, .int (63 : Int32)] rfl rfl rfl rfl (jv_cal rfl (jv_H_at hC.k169) rfl rfl) rfl (vl_operate (top := 63) hC.k169 hvx hvy (Or.inl ⟨rfl, rfl⟩) (vb_tight_le ty) (hxx 169 (by decide) (by decide)) (hxy 169 (by decide) (by decide))) rfl rfl Kz) ?_
    refine jv_Wp.of (jv_Ev.ret jv_i31 rfl rfl) ?_
    rw [hQ]
    refine ⟨_, _, rfl, ?_, fun p hp => ⟨fun _ => rfl, fun f => (vl_set_out (fun z => hp (by rw [z.1]; exact ⟨by decide, by decide⟩)))⟩⟩
    have ew : wd = true := by cases wd <;> first | rfl | exact absurd rfl h1
    rw [vl_set_S, ew]
    rfl
theorem jv_i30 : jv_I 30 5 none 3 107 jv_c30 := ⟨rfl, rfl, rfl, rfl, rfl⟩
theorem vc_rwo11 {K : Nat → Option (Nat × Nat)} {I : Nat → Nat → Int32} {L : Nat → Nat → Int64} {R : Nat → Nat → Value} (mo : Nat) (wd : Bool) {y : Nat} (hC : vc_C K R) (hvy : jv_isV K y) (hxy : ∀ q, 167 ≤ q → q ≤ 170 → q ≠ y) (hmo : mo = 8 ∨ mo = 16 ∨ mo = 32) {n sl : Nat} : ∃ I1 L1, jv_Ms 30 [.ref 10, .int (vl_I 11), .int (vr_b wd), .ref y, .int (vl_I mo)] (jv_H K I L R) n sl (none, jv_H K I1 L1 R, n, sl) ∧ vl_S L1 169 = vx_cut (vx_ext (vl_S L y) mo) (if wd = true then 64 else 32) ∧ vc_fr vc_sc I L I1 L1 := by
  obtain ⟨Q, hQ⟩ : ∃ Q : jv_R → Prop, Q = fun X => ∃ I1 L1, X = (none, jv_H K I1 L1 R, n, sl) ∧ vl_S L1 169 = vx_cut (vx_ext (vl_S L y) mo) (if wd = true then 64 else 32) ∧ vc_fr vc_sc I L I1 L1 := ⟨_, rfl⟩
  suffices h : jv_Wp 30 0 [(0, .ref 10), (1, .int (vl_I 11)), (2, .int (vr_b wd)), (3, .ref y), (4, .int (vl_I mo))] [] (jv_H K I L R) n sl Q by
    rw [hQ] at h
    obtain ⟨X, h, I1, L1, e, h'⟩ := h
    subst e
    exact ⟨I1, L1, h, h'⟩
  refine jv_Wp.lift (fun _ Kz => jv_Ev.steps jv_i30 2 (pc' := 3) (l' := [(0, .ref 10), (1, .int (vl_I 11)), (2, .int (vr_b wd)), (3, .ref y), (4, .int (vl_I mo))]) (st' := [.int (11 : Int32), .int (vl_I 11)]) rfl Kz) ?_
  refine jv_Wp.cnd jv_i30 (pt := 19) (pe := 6) (p := (¬ (vl_I 11) = (11 : Int32))) (q := (¬ (vl_I 11) = (11 : Int32))) rfl jv_bc_ne rfl rfl Iff.rfl (fun hz => absurd hz (fun z => z rfl)) (fun _ => ?_)
  refine jv_Wp.lift (fun _ Kz => jv_Ev.steps jv_i30 1 (pc' := 7) (l' := [(0, .ref 10), (1, .int (vl_I 11)), (2, .int (vr_b wd)), (3, .ref y), (4, .int (vl_I mo))]) (st' := [.ref 10]) rfl Kz) ?_
  refine jv_Wp.lift (fun _ Kz => jv_Ev.m jv_i30 (pc' := 10) (st' := [.ref 167]) (G' := (jv_H K I L R)) rfl rfl (jv_m_getR hC.k rfl rfl hC.rleft) Kz) ?_
  refine jv_Wp.lift (fun _ Kz => jv_Ev.steps jv_i30 2 (pc' := 13) (l' := [(0, .ref 10), (1, .int (vl_I 11)), (2, .int (vr_b wd)), (3, .ref y), (4, .int (vl_I mo))]) (st' := [.int (vl_I mo), .ref y, .ref 167]) rfl Kz) ?_
  refine jv_Wp.lift (fun _ Kz => jv_Ev.c jv_i30 (pc' := 16) (S' := []) (G1 := (jv_H K I (vl_set L 167 (vb_tt (vb_cExt (vb_tt (vb_cCut (vl_S L y) mo)) mo))) R)) jv_i172 [.ref 167, .ref y, .int (vl_I mo)] rfl rfl rfl rfl (jv_cal rfl (jv_H_at hC.k167) rfl rfl) rfl (vl_extend (m := mo) hC.k167 hvy (hxy 167 (by decide) (by decide)) hmo) rfl rfl Kz) ?_
  refine jv_Wp.lift (fun _ Kz => jv_Ev.steps jv_i30 2 (pc' := 27) (l' := [(0, .ref 10), (1, .int (vl_I 11)), (2, .int (vr_b wd)), (3, .ref y), (4, .int (vl_I mo))]) (st' := [.ref 10]) rfl Kz) ?_
  refine jv_Wp.lift (fun _ Kz => jv_Ev.m jv_i30 (pc' := 30) (st' := [.ref 169]) (G' := (jv_H K I (vl_set L 167 (vb_tt (vb_cExt (vb_tt (vb_cCut (vl_S L y) mo)) mo))) R)) rfl rfl (jv_m_getR hC.k rfl rfl hC.rout) Kz) ?_
  refine jv_Wp.lift (fun _ Kz => jv_Ev.steps jv_i30 1 (pc' := 31) (l' := [(0, .ref 10), (1, .int (vl_I 11)), (2, .int (vr_b wd)), (3, .ref y), (4, .int (vl_I mo))]) (st' := [.ref 10, .ref 169]) rfl Kz) ?_
  refine jv_Wp.lift (fun _ Kz => jv_Ev.m jv_i30 (pc' := 34) (st' := [.ref 167, .ref 169]) (G' := (jv_H K I (vl_set L 167 (vb_tt (vb_cExt (vb_tt (vb_cCut (vl_S L y) mo)) mo))) R)) rfl rfl (jv_m_getR hC.k rfl rfl hC.rleft) Kz) ?_
  refine jv_Wp.lift (fun _ Kz => jv_Ev.steps jv_i30 1 (pc' := 35) (l' := [(0, .ref 10), (1, .int (vl_I 11)), (2, .int (vr_b wd)), (3, .ref y), (4, .int (vl_I mo))]) (st' := [.int (vr_b wd), .ref 167, .ref 169]) rfl Kz) ?_
  refine jv_Wp.cnd jv_i30 (pt := 43) (pe := 38) (p := ((vr_b wd) = 0)) (q := ((vr_b wd) = 0)) rfl jv_bi_eq rfl rfl Iff.rfl (fun h1 => ?_) (fun h1 => ?_)
  · refine jv_Wp.lift (fun _ Kz => jv_Ev.steps jv_i30 1 (pc' := 45) (l' := [(0, .ref 10), (1, .int (vl_I 11)), (2, .int (vr_b wd)), (3, .ref y), (4, .int (vl_I mo))]) (st' := [.int (32 : Int32), .ref 167, .ref 169]) rfl Kz) ?_
    refine jv_Wp.lift (fun _ Kz => jv_Ev.c jv_i30 (pc' := 48) (S' := []) (G1 := (jv_H K I (vl_set (vl_set L 167 (vb_tt (vb_cExt (vb_tt (vb_cCut (vl_S L y) mo)) mo))) 169 (vb_tt (vb_cCut (vl_S (vl_set L 167 (vb_tt (vb_cExt (vb_tt (vb_cCut (vl_S L y) mo)) mo))) 167) 32))) R)) jv_i170 [.ref 169, .ref 167, .int (32 : Int32)] rfl rfl rfl rfl (jv_cal rfl (jv_H_at hC.k169) rfl rfl) rfl (jv_s170 169 167 32 hC.k169 (Or.inl hC.k167) (by decide) (by decide)) rfl rfl Kz) ?_
    refine jv_Wp.of (jv_Ev.ret jv_i30 rfl rfl) ?_
    rw [hQ]
    refine ⟨_, _, rfl, ?_, fun p hp => ⟨fun _ => rfl, fun f => (vl_set_out (fun z => hp (by rw [z.1]; exact ⟨by decide, by decide⟩))).trans ((vl_set_out (fun z => hp (by rw [z.1]; exact ⟨by decide, by decide⟩))))⟩⟩
    have ew : wd = false := by cases wd <;> first | rfl | exact absurd h1 (by decide)
    rw [ew, vl_set_S, vl_set_S]
    rfl
  · refine jv_Wp.lift (fun _ Kz => jv_Ev.steps jv_i30 2 (pc' := 45) (l' := [(0, .ref 10), (1, .int (vl_I 11)), (2, .int (vr_b wd)), (3, .ref y), (4, .int (vl_I mo))]) (st' := [.int (64 : Int32), .ref 167, .ref 169]) rfl Kz) ?_
    refine jv_Wp.lift (fun _ Kz => jv_Ev.c jv_i30 (pc' := 48) (S' := []) (G1 := (jv_H K I (vl_set (vl_set L 167 (vb_tt (vb_cExt (vb_tt (vb_cCut (vl_S L y) mo)) mo))) 169 (vb_tt (vb_cCut (vl_S (vl_set L 167 (vb_tt (vb_cExt (vb_tt (vb_cCut (vl_S L y) mo)) mo))) 167) 64))) R)) jv_i170 [.ref 169, .ref 167, .int (64 : Int32)] rfl rfl rfl rfl (jv_cal rfl (jv_H_at hC.k169) rfl rfl) rfl (jv_s170 169 167 64 hC.k169 (Or.inl hC.k167) (by decide) (by decide)) rfl rfl Kz) ?_
    refine jv_Wp.of (jv_Ev.ret jv_i30 rfl rfl) ?_
    rw [hQ]
    refine ⟨_, _, rfl, ?_, fun p hp => ⟨fun _ => rfl, fun f => (vl_set_out (fun z => hp (by rw [z.1]; exact ⟨by decide, by decide⟩))).trans ((vl_set_out (fun z => hp (by rw [z.1]; exact ⟨by decide, by decide⟩))))⟩⟩
    have ew : wd = true := by cases wd <;> first | rfl | exact absurd rfl h1
    rw [ew, vl_set_S, vl_set_S]
    rfl
theorem vc_rwo {K : Nat → Option (Nat × Nat)} {I : Nat → Nat → Int32} {L : Nat → Nat → Int64} {R : Nat → Nat → Value} (k : Nat) (o : Int32) (wd : Bool) {y : Nat} (hC : vc_C K R) (hvy : jv_isV K y) (hxy : ∀ q, 167 ≤ q → q ≤ 170 → q ≠ y) (hk16 : k < 16) (hk : k ≠ 11) {n sl : Nat} : ∃ I1 L1, jv_Ms 30 [.ref 10, .int (vl_I k), .int (vr_b wd), .ref y, .int o] (jv_H K I L R) n sl (none, jv_H K I1 L1 R, n, sl) ∧ vl_S L1 169 = vx_cut vb_any (if wd = true then 64 else 32) ∧ vc_fr vc_sc I L I1 L1 := by
  obtain ⟨Q, hQ⟩ : ∃ Q : jv_R → Prop, Q = fun X => ∃ I1 L1, X = (none, jv_H K I1 L1 R, n, sl) ∧ vl_S L1 169 = vx_cut vb_any (if wd = true then 64 else 32) ∧ vc_fr vc_sc I L I1 L1 := ⟨_, rfl⟩
  suffices h : jv_Wp 30 0 [(0, .ref 10), (1, .int (vl_I k)), (2, .int (vr_b wd)), (3, .ref y), (4, .int o)] [] (jv_H K I L R) n sl Q by
    rw [hQ] at h
    obtain ⟨X, h, I1, L1, e, h'⟩ := h
    subst e
    exact ⟨I1, L1, h, h'⟩
  refine jv_Wp.lift (fun _ Kz => jv_Ev.steps jv_i30 2 (pc' := 3) (l' := [(0, .ref 10), (1, .int (vl_I k)), (2, .int (vr_b wd)), (3, .ref y), (4, .int o)]) (st' := [.int (11 : Int32), .int (vl_I k)]) rfl Kz) ?_
  refine jv_Wp.cnd jv_i30 (pt := 19) (pe := 6) (p := (¬ (vl_I k) = (11 : Int32))) (q := (¬ (vl_I k) = (11 : Int32))) rfl jv_bc_ne rfl rfl Iff.rfl (fun _ => ?_) (fun hz => absurd (fun z => hk ((vl_I_inj (by omega) (by decide)).mp z)) hz)
  refine jv_Wp.lift (fun _ Kz => jv_Ev.steps jv_i30 1 (pc' := 20) (l' := [(0, .ref 10), (1, .int (vl_I k)), (2, .int (vr_b wd)), (3, .ref y), (4, .int o)]) (st' := [.ref 10]) rfl Kz) ?_
  refine jv_Wp.lift (fun _ Kz => jv_Ev.m jv_i30 (pc' := 23) (st' := [.ref 167]) (G' := (jv_H K I L R)) rfl rfl (jv_m_getR hC.k rfl rfl hC.rleft) Kz) ?_
  refine jv_Wp.lift (fun _ Kz => jv_Ev.c jv_i30 (pc' := 26) (S' := []) (G1 := (jv_H K I (vl_set L 167 vb_any) R)) jv_i149 [.ref 167] rfl rfl rfl rfl (jv_cal rfl (jv_H_at hC.k167) rfl rfl) rfl (vl_any (Or.inl hC.k167)) rfl rfl Kz) ?_
  refine jv_Wp.lift (fun _ Kz => jv_Ev.steps jv_i30 1 (pc' := 27) (l' := [(0, .ref 10), (1, .int (vl_I k)), (2, .int (vr_b wd)), (3, .ref y), (4, .int o)]) (st' := [.ref 10]) rfl Kz) ?_
  refine jv_Wp.lift (fun _ Kz => jv_Ev.m jv_i30 (pc' := 30) (st' := [.ref 169]) (G' := (jv_H K I (vl_set L 167 vb_any) R)) rfl rfl (jv_m_getR hC.k rfl rfl hC.rout) Kz) ?_
  refine jv_Wp.lift (fun _ Kz => jv_Ev.steps jv_i30 1 (pc' := 31) (l' := [(0, .ref 10), (1, .int (vl_I k)), (2, .int (vr_b wd)), (3, .ref y), (4, .int o)]) (st' := [.ref 10, .ref 169]) rfl Kz) ?_
  refine jv_Wp.lift (fun _ Kz => jv_Ev.m jv_i30 (pc' := 34) (st' := [.ref 167, .ref 169]) (G' := (jv_H K I (vl_set L 167 vb_any) R)) rfl rfl (jv_m_getR hC.k rfl rfl hC.rleft) Kz) ?_
  refine jv_Wp.lift (fun _ Kz => jv_Ev.steps jv_i30 1 (pc' := 35) (l' := [(0, .ref 10), (1, .int (vl_I k)), (2, .int (vr_b wd)), (3, .ref y), (4, .int o)]) (st' := [.int (vr_b wd), .ref 167, .ref 169]) rfl Kz) ?_
  refine jv_Wp.cnd jv_i30 (pt := 43) (pe := 38) (p := ((vr_b wd) = 0)) (q := ((vr_b wd) = 0)) rfl jv_bi_eq rfl rfl Iff.rfl (fun h1 => ?_) (fun h1 => ?_)
  · refine jv_Wp.lift (fun _ Kz => jv_Ev.steps jv_i30 1 (pc' := 45) (l' := [(0, .ref 10), (1, .int (vl_I k)), (2, .int (vr_b wd)), (3, .ref y), (4, .int o)]) (st' := [.int (32 : Int32), .ref 167, .ref 169]) rfl Kz) ?_
    refine jv_Wp.lift (fun _ Kz => jv_Ev.c jv_i30 (pc' := 48) (S' := []) (G1 := (jv_H K I (vl_set (vl_set L 167 vb_any) 169 (vb_tt (vb_cCut (vl_S (vl_set L 167 vb_any) 167) 32))) R)) jv_i170 [.ref 169, .ref 167, .int (32 : Int32)] rfl rfl rfl rfl (jv_cal rfl (jv_H_at hC.k169) rfl rfl) rfl (jv_s170 169 167 32 hC.k169 (Or.inl hC.k167) (by decide) (by decide)) rfl rfl Kz) ?_
    refine jv_Wp.of (jv_Ev.ret jv_i30 rfl rfl) ?_
    rw [hQ]
    refine ⟨_, _, rfl, ?_, fun p hp => ⟨fun _ => rfl, fun f => (vl_set_out (fun z => hp (by rw [z.1]; exact ⟨by decide, by decide⟩))).trans ((vl_set_out (fun z => hp (by rw [z.1]; exact ⟨by decide, by decide⟩))))⟩⟩
    have ew : wd = false := by cases wd <;> first | rfl | exact absurd h1 (by decide)
    rw [ew, vl_set_S, vl_set_S]
    rfl
  · refine jv_Wp.lift (fun _ Kz => jv_Ev.steps jv_i30 2 (pc' := 45) (l' := [(0, .ref 10), (1, .int (vl_I k)), (2, .int (vr_b wd)), (3, .ref y), (4, .int o)]) (st' := [.int (64 : Int32), .ref 167, .ref 169]) rfl Kz) ?_
    refine jv_Wp.lift (fun _ Kz => jv_Ev.c jv_i30 (pc' := 48) (S' := []) (G1 := (jv_H K I (vl_set (vl_set L 167 vb_any) 169 (vb_tt (vb_cCut (vl_S (vl_set L 167 vb_any) 167) 64))) R)) jv_i170 [.ref 169, .ref 167, .int (64 : Int32)] rfl rfl rfl rfl (jv_cal rfl (jv_H_at hC.k169) rfl rfl) rfl (jv_s170 169 167 64 hC.k169 (Or.inl hC.k167) (by decide) (by decide)) rfl rfl Kz) ?_
    refine jv_Wp.of (jv_Ev.ret jv_i30 rfl rfl) ?_
    rw [hQ]
    refine ⟨_, _, rfl, ?_, fun p hp => ⟨fun _ => rfl, fun f => (vl_set_out (fun z => hp (by rw [z.1]; exact ⟨by decide, by decide⟩))).trans ((vl_set_out (fun z => hp (by rw [z.1]; exact ⟨by decide, by decide⟩))))⟩⟩
    have ew : wd = true := by cases wd <;> first | rfl | exact absurd rfl h1
    rw [ew, vl_set_S, vl_set_S]
    rfl
theorem jv_i29 : jv_I 29 5 none 3 99 jv_c29 := ⟨rfl, rfl, rfl, rfl, rfl⟩
theorem vc_turn {K : Nat → Option (Nat × Nat)} {I : Nat → Nat → Int32} {L : Nat → Nat → Int64} {R : Nat → Nat → Value} (w : Int64) (mi : Nat) {x : Nat} (hC : vc_C K R) (hvx : jv_isV K x) (hxx : ∀ q, 167 ≤ q → q ≤ 170 → q ≠ x) (him : jv_wfimmediate w = vl_I mi) (hmi : mi = 16 ∨ mi = 32 ∨ mi = 64) {n sl : Nat} : ∃ I1 L1, jv_Ms 29 [.ref 10, .long w, .ref x] (jv_H K I L R) n sl (none, jv_H K I1 L1 R, n, sl) ∧ vl_S L1 169 = (if (vc_F w).kind = 7 ∨ (vc_F w).bit3 = true then vx_swap (vl_S L x) mi else vx_cut (vl_S L x) mi) ∧ vc_fr vc_sc I L I1 L1 := by
  obtain ⟨Q, hQ⟩ : ∃ Q : jv_R → Prop, Q = fun X => ∃ I1 L1, X = (none, jv_H K I1 L1 R, n, sl) ∧ vl_S L1 169 = (if (vc_F w).kind = 7 ∨ (vc_F w).bit3 = true then vx_swap (vl_S L x) mi else vx_cut (vl_S L x) mi) ∧ vc_fr vc_sc I L I1 L1 := ⟨_, rfl⟩
  suffices h : jv_Wp 29 0 [(0, .ref 10), (1, .long w), (3, .ref x)] [] (jv_H K I L R) n sl Q by
    rw [hQ] at h
    obtain ⟨X, h, I1, L1, e, h'⟩ := h
    subst e
    exact ⟨I1, L1, h, h'⟩
  refine jv_Wp.lift (fun _ Kz => jv_Ev.steps jv_i29 1 (pc' := 1) (l' := [(0, .ref 10), (1, .long w), (3, .ref x)]) (st' := [.long w]) rfl Kz) ?_
  refine jv_Wp.lift (fun _ Kz => jv_Ev.c jv_i29 (pc' := 4) (S' := [.int (vl_I (vc_F w).kind)]) jv_i81 [.long w] rfl rfl rfl rfl rfl rfl (vw_m81 w) rfl rfl Kz) ?_
  refine jv_Wp.lift (fun _ Kz => jv_Ev.steps jv_i29 1 (pc' := 6) (l' := [(0, .ref 10), (1, .long w), (3, .ref x)]) (st' := [.int (7 : Int32), .int (vl_I (vc_F w).kind)]) rfl Kz) ?_
  refine jv_Wp.cnd jv_i29 (pt := 16) (pe := 9) (p := ((vl_I (vc_F w).kind) = (7 : Int32))) (q := ((vl_I (vc_F w).kind) = (7 : Int32))) rfl jv_bc_eq rfl rfl Iff.rfl (fun h1 => ?_) (fun h1 => ?_)
  · refine jv_Wp.lift (fun _ Kz => jv_Ev.steps jv_i29 4 (pc' := 25) (l' := [(4, .int (1 : Int32)), (0, .ref 10), (1, .long w), (3, .ref x)]) (st' := [.int (1 : Int32)]) rfl Kz) ?_
    refine jv_Wp.lift (fun _ Kz => jv_Ev.br jv_i29 (pc' := 28) (st' := []) rfl (by rfl) Kz) ?_
    refine jv_Wp.lift (fun _ Kz => jv_Ev.steps jv_i29 1 (pc' := 29) (l' := [(4, .int (1 : Int32)), (0, .ref 10), (1, .long w), (3, .ref x)]) (st' := [.ref 10]) rfl Kz) ?_
    refine jv_Wp.lift (fun _ Kz => jv_Ev.m jv_i29 (pc' := 32) (st' := [.ref 169]) (G' := (jv_H K I L R)) rfl rfl (jv_m_getR hC.k rfl rfl hC.rout) Kz) ?_
    refine jv_Wp.lift (fun _ Kz => jv_Ev.steps jv_i29 2 (pc' := 34) (l' := [(4, .int (1 : Int32)), (0, .ref 10), (1, .long w), (3, .ref x)]) (st' := [.long w, .ref x, .ref 169]) rfl Kz) ?_
    refine jv_Wp.lift (fun _ Kz => jv_Ev.c jv_i29 (pc' := 37) (S' := [.int (vl_I mi), .ref x, .ref 169]) jv_i89 [.long w] rfl rfl rfl rfl rfl rfl (him ▸ jv_s89 w) rfl rfl Kz) ?_
    refine jv_Wp.lift (fun _ Kz => jv_Ev.c jv_i29 (pc' := 40) (S' := []) (G1 := (jv_H K I (vl_set L 169 (vb_tt (vb_cSwap (vb_tt (vb_cCut (vl_S L x) mi)) mi))) R)) jv_i173 [.ref 169, .ref x, .int (vl_I mi)] rfl rfl rfl rfl (jv_cal rfl (jv_H_at hC.k169) rfl rfl) rfl (vl_swap (m := mi) hC.k169 hvx (hxx 169 (by decide) (by decide)) hmi) rfl rfl Kz) ?_
    refine jv_Wp.lift (fun _ Kz => jv_Ev.steps jv_i29 1 (pc' := 55) (l' := [(4, .int (1 : Int32)), (0, .ref 10), (1, .long w), (3, .ref x)]) (st' := []) rfl Kz) ?_
    refine jv_Wp.of (jv_Ev.ret jv_i29 rfl rfl) ?_
    rw [hQ]
    refine ⟨_, _, rfl, ?_, fun p hp => ⟨fun _ => rfl, fun f => (vl_set_out (fun z => hp (by rw [z.1]; exact ⟨by decide, by decide⟩)))⟩⟩
    have cc : ((vc_F w).kind = 7 ∨ (vc_F w).bit3 = true) := Or.inl ((vl_I_inj (Nat.lt_trans (Nat.mod_lt _ (by decide)) (by decide)) (by decide)).mp h1)
    rw [vl_set_S, if_pos cc]
    rfl
  · refine jv_Wp.lift (fun _ Kz => jv_Ev.steps jv_i29 1 (pc' := 10) (l' := [(0, .ref 10), (1, .long w), (3, .ref x)]) (st' := [.long w]) rfl Kz) ?_
    refine jv_Wp.lift (fun _ Kz => jv_Ev.c jv_i29 (pc' := 13) (S' := [.int (vr_b (vc_F w).bit3)]) jv_i83 [.long w] rfl rfl rfl rfl rfl rfl (vw_m83 w) rfl rfl Kz) ?_
    refine jv_Wp.cnd jv_i29 (pt := 20) (pe := 16) (p := ((vr_b (vc_F w).bit3) = 0)) (q := ((vr_b (vc_F w).bit3) = 0)) rfl jv_bi_eq rfl rfl Iff.rfl (fun h2 => ?_) (fun h2 => ?_)
    · refine jv_Wp.lift (fun _ Kz => jv_Ev.steps jv_i29 3 (pc' := 25) (l' := [(4, .int (0 : Int32)), (0, .ref 10), (1, .long w), (3, .ref x)]) (st' := [.int (0 : Int32)]) rfl Kz) ?_
      refine jv_Wp.lift (fun _ Kz => jv_Ev.br jv_i29 (pc' := 43) (st' := []) rfl (by rfl) Kz) ?_
      refine jv_Wp.lift (fun _ Kz => jv_Ev.steps jv_i29 1 (pc' := 44) (l' := [(4, .int (0 : Int32)), (0, .ref 10), (1, .long w), (3, .ref x)]) (st' := [.ref 10]) rfl Kz) ?_
      refine jv_Wp.lift (fun _ Kz => jv_Ev.m jv_i29 (pc' := 47) (st' := [.ref 169]) (G' := (jv_H K I L R)) rfl rfl (jv_m_getR hC.k rfl rfl hC.rout) Kz) ?_
      refine jv_Wp.lift (fun _ Kz => jv_Ev.steps jv_i29 2 (pc' := 49) (l' := [(4, .int (0 : Int32)), (0, .ref 10), (1, .long w), (3, .ref x)]) (st' := [.long w, .ref x, .ref 169]) rfl Kz) ?_
      refine jv_Wp.lift (fun _ Kz => jv_Ev.c jv_i29 (pc' := 52) (S' := [.int (vl_I mi), .ref x, .ref 169]) jv_i89 [.long w] rfl rfl rfl rfl rfl rfl (him ▸ jv_s89 w) rfl rfl Kz) ?_
      refine jv_Wp.lift (fun _ Kz => jv_Ev.c jv_i29 (pc' := 55) (S' := []) (G1 := (jv_H K I (vl_set L 169 (vb_tt (vb_cCut (vl_S L x) mi))) R)) jv_i170 [.ref 169, .ref x, .int (vl_I mi)] rfl rfl rfl rfl (jv_cal rfl (jv_H_at hC.k169) rfl rfl) rfl (jv_s170 169 x mi hC.k169 hvx (by omega) (hxx 169 (by decide) (by decide))) rfl rfl Kz) ?_
      refine jv_Wp.of (jv_Ev.ret jv_i29 rfl rfl) ?_
      rw [hQ]
      refine ⟨_, _, rfl, ?_, fun p hp => ⟨fun _ => rfl, fun f => (vl_set_out (fun z => hp (by rw [z.1]; exact ⟨by decide, by decide⟩)))⟩⟩
      have cc : ¬ ((vc_F w).kind = 7 ∨ (vc_F w).bit3 = true) := (fun z => z.elim (fun z => h1 (by rw [z]; rfl)) (fun z => by have q := h2; rw [z] at q; exact absurd q (by decide)))
      rw [vl_set_S, if_neg cc]
      rfl
    · refine jv_Wp.lift (fun _ Kz => jv_Ev.steps jv_i29 4 (pc' := 25) (l' := [(4, .int (1 : Int32)), (0, .ref 10), (1, .long w), (3, .ref x)]) (st' := [.int (1 : Int32)]) rfl Kz) ?_
      refine jv_Wp.lift (fun _ Kz => jv_Ev.br jv_i29 (pc' := 28) (st' := []) rfl (by rfl) Kz) ?_
      refine jv_Wp.lift (fun _ Kz => jv_Ev.steps jv_i29 1 (pc' := 29) (l' := [(4, .int (1 : Int32)), (0, .ref 10), (1, .long w), (3, .ref x)]) (st' := [.ref 10]) rfl Kz) ?_
      refine jv_Wp.lift (fun _ Kz => jv_Ev.m jv_i29 (pc' := 32) (st' := [.ref 169]) (G' := (jv_H K I L R)) rfl rfl (jv_m_getR hC.k rfl rfl hC.rout) Kz) ?_
      refine jv_Wp.lift (fun _ Kz => jv_Ev.steps jv_i29 2 (pc' := 34) (l' := [(4, .int (1 : Int32)), (0, .ref 10), (1, .long w), (3, .ref x)]) (st' := [.long w, .ref x, .ref 169]) rfl Kz) ?_
      refine jv_Wp.lift (fun _ Kz => jv_Ev.c jv_i29 (pc' := 37) (S' := [.int (vl_I mi), .ref x, .ref 169]) jv_i89 [.long w] rfl rfl rfl rfl rfl rfl (him ▸ jv_s89 w) rfl rfl Kz) ?_
      refine jv_Wp.lift (fun _ Kz => jv_Ev.c jv_i29 (pc' := 40) (S' := []) (G1 := (jv_H K I (vl_set L 169 (vb_tt (vb_cSwap (vb_tt (vb_cCut (vl_S L x) mi)) mi))) R)) jv_i173 [.ref 169, .ref x, .int (vl_I mi)] rfl rfl rfl rfl (jv_cal rfl (jv_H_at hC.k169) rfl rfl) rfl (vl_swap (m := mi) hC.k169 hvx (hxx 169 (by decide) (by decide)) hmi) rfl rfl Kz) ?_
      refine jv_Wp.lift (fun _ Kz => jv_Ev.steps jv_i29 1 (pc' := 55) (l' := [(4, .int (1 : Int32)), (0, .ref 10), (1, .long w), (3, .ref x)]) (st' := []) rfl Kz) ?_
      refine jv_Wp.of (jv_Ev.ret jv_i29 rfl rfl) ?_
      rw [hQ]
      refine ⟨_, _, rfl, ?_, fun p hp => ⟨fun _ => rfl, fun f => (vl_set_out (fun z => hp (by rw [z.1]; exact ⟨by decide, by decide⟩)))⟩⟩
      have cc : ((vc_F w).kind = 7 ∨ (vc_F w).bit3 = true) := Or.inr (by cases z : (vc_F w).bit3 <;> first | rfl | (rw [z] at h2; exact absurd rfl h2))
      rw [vl_set_S, if_pos cc]
      rfl