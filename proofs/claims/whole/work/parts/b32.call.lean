/-! part b32: calls (gen/tb32.py) -/
theorem vc_clear5 {I0 I1 I2 I3 I4 I5 : Nat → Nat → Int32} {L0 L1 L2 L3 L4 L5 : Nat → Nat → Int64} (T1 : vc_T I1 L1 (12 + 2 + 1) = vt_none 0) (O1 : vc_ok I1 L1 (12 + 2 + 1)) (F1 : vc_fr (fun p => p = 12 + 2 + 1) I0 L0 I1 L1) (T2 : vc_T I2 L2 (12 + 2 + 2) = vt_none 0) (O2 : vc_ok I2 L2 (12 + 2 + 2)) (F2 : vc_fr (fun p => p = 12 + 2 + 2) I1 L1 I2 L2) (T3 : vc_T I3 L3 (12 + 2 + 3) = vt_none 0) (O3 : vc_ok I3 L3 (12 + 2 + 3)) (F3 : vc_fr (fun p => p = 12 + 2 + 3) I2 L2 I3 L3) (T4 : vc_T I4 L4 (12 + 2 + 4) = vt_none 0) (O4 : vc_ok I4 L4 (12 + 2 + 4)) (F4 : vc_fr (fun p => p = 12 + 2 + 4) I3 L3 I4 L4) (T5 : vc_T I5 L5 (12 + 2 + 5) = vt_none 0) (O5 : vc_ok I5 L5 (12 + 2 + 5)) (F5 : vc_fr (fun p => p = 12 + 2 + 5) I4 L4 I5 L5) (oa : vc_okA I0 L0 12) : vc_A I5 L5 12 = vx_clear (vc_A I0 L0 12) ∧ vc_okA I5 L5 12 ∧ vc_fr (fun p => 15 ≤ p ∧ p ≤ 19) I0 L0 I5 L5 := by
  have FF : vc_fr (fun p => 15 ≤ p ∧ p ≤ 19) I0 L0 I5 L5 := vc_fr_trans (vc_fr_trans (vc_fr_trans (vc_fr_trans (vc_fr_mono F1 (fun p z => by omega)) (vc_fr_mono F2 (fun p z => by omega))) (vc_fr_mono F3 (fun p z => by omega))) (vc_fr_mono F4 (fun p z => by omega))) (vc_fr_mono F5 (fun p z => by omega))
  have t1 : vc_T I5 L5 (12 + 2 + 1) = vt_none 0 := (vc_fr_T F5 (by omega)).trans ((vc_fr_T F4 (by omega)).trans ((vc_fr_T F3 (by omega)).trans ((vc_fr_T F2 (by omega)).trans (T1))))
  have o1 : vc_ok I5 L5 (12 + 2 + 1) := (vc_fr_ok F5 (by omega)).mpr ((vc_fr_ok F4 (by omega)).mpr ((vc_fr_ok F3 (by omega)).mpr ((vc_fr_ok F2 (by omega)).mpr (O1))))
  have t2 : vc_T I5 L5 (12 + 2 + 2) = vt_none 0 := (vc_fr_T F5 (by omega)).trans ((vc_fr_T F4 (by omega)).trans ((vc_fr_T F3 (by omega)).trans (T2)))
  have o2 : vc_ok I5 L5 (12 + 2 + 2) := (vc_fr_ok F5 (by omega)).mpr ((vc_fr_ok F4 (by omega)).mpr ((vc_fr_ok F3 (by omega)).mpr (O2)))
  have t3 : vc_T I5 L5 (12 + 2 + 3) = vt_none 0 := (vc_fr_T F5 (by omega)).trans ((vc_fr_T F4 (by omega)).trans (T3))
  have o3 : vc_ok I5 L5 (12 + 2 + 3) := (vc_fr_ok F5 (by omega)).mpr ((vc_fr_ok F4 (by omega)).mpr (O3))
  have t4 : vc_T I5 L5 (12 + 2 + 4) = vt_none 0 := (vc_fr_T F5 (by omega)).trans (T4)
  have o4 : vc_ok I5 L5 (12 + 2 + 4) := (vc_fr_ok F5 (by omega)).mpr (O4)
  have t5 : vc_T I5 L5 (12 + 2 + 5) = vt_none 0 := T5
  have o5 : vc_ok I5 L5 (12 + 2 + 5) := O5
  refine ⟨Prod.ext (funext (fun n => ?_)) (congrArg Int64.toInt ((FF 12 (by omega)).2 1)), fun n hn => ?_, FF⟩
  · show (if n < 75 then vc_T I5 L5 (12 + 2 + n) else vt_none 0) = if 1 ≤ n ∧ n ≤ 5 then vt_none 0 else (vc_A I0 L0 12).1 n
    by_cases c : 1 ≤ n ∧ n ≤ 5
    · rw [if_pos c, if_pos (by omega)]
      match n, c with
      | 1, _ => exact t1
      | 2, _ => exact t2
      | 3, _ => exact t3
      | 4, _ => exact t4
      | 5, _ => exact t5
    · rw [if_neg c]
      by_cases hn : n < 75
      · rw [if_pos hn, vc_fr_T FF (by omega)]; exact (if_pos hn).symm
      · rw [if_neg hn]; exact (if_neg hn).symm
  · by_cases c : 1 ≤ n ∧ n ≤ 5
    · match n, c with
      | 1, _ => exact o1
      | 2, _ => exact o2
      | 3, _ => exact o3
      | 4, _ => exact o4
      | 5, _ => exact o5
    · exact (vc_fr_ok FF (by omega)).mpr (oa n hn)
theorem vx_then_0 {a b : Nat} (h : vx_then a b = 0) : a = 0 ∧ b = 0 := by
  unfold vx_then at h
  by_cases c : a ≠ 0
  · rw [if_pos c] at h; exact absurd h c
  · rw [if_neg c] at h; exact ⟨Classical.not_not.mp c, h⟩
theorem vx_im0_sort {M : vf_M} {A : vt_A} {c : Int} (h : vx_ismap M A c = 0) : (A.1 1).sort = 6 := by
  unfold vx_ismap at h
  by_cases c0 : (A.1 1).sort = 0
  · rw [if_pos c0] at h; cases h
  · rw [if_neg c0] at h
    by_cases c6 : (A.1 1).sort = 6
    · exact c6
    · rw [if_neg c6] at h; cases h
theorem vx_cl0 {M : vf_M} {A : vt_A} {c : Int} {p : Nat} (h : vx_allowed M A c ≠ 0) : vx_call M c p A = (vx_allowed M A c, A) := if_pos h
theorem vx_cl1 {M : vf_M} {A : vt_A} {p : Nat} (h : vx_allowed M A 1 = 0) : vx_call M 1 p A = (0, vt_up (vx_clear (vx_drop A (fun t => decide (t.sort = 8) && decide (t.org = (p : Int))))) 0 (vt_maybe (A.1 1).det p)) := (if_neg (fun z => z h)).trans (if_pos rfl)
theorem vx_cl6 {M : vf_M} {A : vt_A} {p : Nat} (h : vx_allowed M A 6 = 0) : vx_call M 6 p A = (0, vt_up (vx_clear ((vx_drop A (fun t => decide (t.sort = 4) || decide (t.sort = 5))).1, 0)) 0 (vt_num vb_any)) := (if_neg (fun z => z h)).trans ((if_neg (by decide)).trans (if_pos rfl))
theorem vx_clp {M : vf_M} {A : vt_A} {c : Int} {p : Nat} (h : vx_allowed M A c = 0) (h1 : c ≠ 1) (h6 : c ≠ 6) : vx_call M c p A = (0, vt_up (vx_clear A) 0 (vt_num vb_any)) := (if_neg (fun z => z h)).trans ((if_neg h1).trans (if_neg h6))
theorem vx_allowed_lt {M : vf_M} {A : vt_A} {c : Int} : vx_allowed M A c < 9 := by
  have tt : ∀ a b, a < 9 → b < 9 → vx_then a b < 9 := fun a b ha hb => by unfold vx_then; split <;> assumption
  have im : vx_ismap M A c < 9 := by
    unfold vx_ismap
    repeat' split
    all_goals decide
  unfold vx_allowed
  split
  · decide
  split
  · decide
  split
  · split
    · decide
    · split
      · exact vx_isnum_lt
      · decide
  split
  · exact tt _ _ im (tt _ _ vx_isnum_lt (tt _ _ (by split <;> decide) vx_tells_lt))
  split
  · exact tt _ _ im (tt _ _ vx_tells_lt (tt _ _ vx_tells_lt vx_isnum_lt))
  · exact tt _ _ im vx_tells_lt
theorem jv_i45 : jv_I 45 6 (some .int) 4 95 jv_c45 := ⟨rfl, rfl, rfl, rfl, rfl⟩
theorem vc_call1 {K : Nat → Option (Nat × Nat)} {I : Nat → Nat → Int32} {L : Nat → Nat → Int64} {R : Nat → Nat → Value} {M : vf_M} (p : Nat) (hC : vc_C K R) (hM : vc_M K I R M) (hp2 : p < 2147483648) (hkn : (L 12 1).toInt ≤ 1073000000) (oa : vc_okA I L 12) (tA : ∀ n, n < 75 → vt_ok (vc_T I L (12 + 2 + n))) (gA : ∀ n, n < 75 → vc_g I L (12 + 2 + n)) (m6 : I (12 + 2 + 1) 6 = 6 → 0 ≤ (I (12 + 2 + 1) 7).toInt) {n sl : Nat} : ∃ I1 L1, jv_Ms 45 [.ref 10, .int (1 : Int32), .int (vl_I p)] (jv_H K I L R) n sl (some (.int (vl_I (vx_call M 1 p (vc_A I L 12)).1)), jv_H K I1 L1 R, n, sl) ∧ ((vx_call M 1 p (vc_A I L 12)).1 = 0 → vc_A I1 L1 12 = (vx_call M 1 p (vc_A I L 12)).2 ∧ vc_okA I1 L1 12) ∧ vc_fr vc_wk I L I1 L1 ∧ ∀ f, I1 12 f = I 12 f := by
  obtain ⟨Q, hQ⟩ : ∃ Q : jv_R → Prop, Q = fun X => ∃ I1 L1, X = (some (.int (vl_I (vx_call M 1 p (vc_A I L 12)).1)), jv_H K I1 L1 R, n, sl) ∧ ((vx_call M 1 p (vc_A I L 12)).1 = 0 → vc_A I1 L1 12 = (vx_call M 1 p (vc_A I L 12)).2 ∧ vc_okA I1 L1 12) ∧ vc_fr vc_wk I L I1 L1 ∧ ∀ f, I1 12 f = I 12 f := ⟨_, rfl⟩
  suffices h : jv_Wp 45 0 [(0, .ref 10), (1, .int (1 : Int32)), (2, .int (vl_I p))] [] (jv_H K I L R) n sl Q by
    rw [hQ] at h
    obtain ⟨X, h, I1, L1, e, h'⟩ := h
    subst e
    exact ⟨I1, L1, h, h'⟩
  have alt := vx_allowed_lt (M := M) (A := vc_A I L 12) (c := 1)
  refine jv_Wp.lift (fun _ Kz => jv_Ev.steps jv_i45 2 (pc' := 2) (l' := [(0, .ref 10), (1, .int (1 : Int32)), (2, .int (vl_I p))]) (st' := [.int (1 : Int32), .ref 10]) rfl Kz) ?_
  obtain ⟨I1, L1, H1, ei1, el1⟩ := vc_allowed1 (I := I) (L := L) (R := R) (n := n) (sl := sl) (M := M) hC hM hkn oa tA gA m6
  rw [ei1, el1] at H1
  refine jv_Wp.lift (fun _ Kz => jv_Ev.c jv_i45 (pc' := 5) (S' := [.int (vl_I (vx_allowed M (vc_A I L 12) 1))]) jv_i46 [.ref 10, .int (1 : Int32)] rfl rfl rfl rfl (jv_cal rfl (jv_H_at hC.k) rfl rfl) rfl H1 rfl rfl Kz) ?_
  refine jv_Wp.lift (fun _ Kz => jv_Ev.steps jv_i45 2 (pc' := 7) (l' := [(3, .int (vl_I (vx_allowed M (vc_A I L 12) 1))), (0, .ref 10), (1, .int (1 : Int32)), (2, .int (vl_I p))]) (st' := [.int (vl_I (vx_allowed M (vc_A I L 12) 1))]) rfl Kz) ?_
  refine jv_Wp.cnd jv_i45 (pt := 12) (pe := 10) (p := ((vl_I (vx_allowed M (vc_A I L 12) 1)) = 0)) (q := ((vl_I (vx_allowed M (vc_A I L 12) 1)) = 0)) rfl jv_bi_eq rfl rfl Iff.rfl (fun h1 => ?_) (fun h1 => ?_)
  · refine jv_Wp.lift (fun _ Kz => jv_Ev.steps jv_i45 1 (pc' := 13) (l' := [(3, .int (vl_I (vx_allowed M (vc_A I L 12) 1))), (0, .ref 10), (1, .int (1 : Int32)), (2, .int (vl_I p))]) (st' := [.ref 10]) rfl Kz) ?_
    refine jv_Wp.lift (fun _ Kz => jv_Ev.m jv_i45 (pc' := 16) (st' := [.ref 12]) (G' := (jv_H K I L R)) rfl rfl (jv_m_getR hC.k rfl rfl hC.rnow) Kz) ?_
    refine jv_Wp.lift (fun _ Kz => jv_Ev.m jv_i45 (pc' := 19) (st' := [.ref (12 + 1)]) (G' := (jv_H K I L R)) rfl rfl (jv_m_getR hC.now.k rfl rfl hC.now.r) Kz) ?_
    refine jv_Wp.lift (fun _ Kz => jv_Ev.steps jv_i45 1 (pc' := 20) (l' := [(3, .int (vl_I (vx_allowed M (vc_A I L 12) 1))), (0, .ref 10), (1, .int (1 : Int32)), (2, .int (vl_I p))]) (st' := [.int (1 : Int32), .ref (12 + 1)]) rfl Kz) ?_
    refine jv_Wp.lift (fun _ Kz => jv_Ev.m jv_i45 (pc' := 21) (st' := [.ref (12 + 2 + 1)]) (G' := (jv_H K I L R)) rfl rfl (jv_m_aaldR hC.now.kt rfl (by decide) rfl (hC.now.rt 1 (by decide))) Kz) ?_
    refine jv_Wp.lift (fun _ Kz => jv_Ev.m jv_i45 (pc' := 24) (st' := [.int (I (12 + 2 + 1) 7)]) (G' := (jv_H K I L R)) rfl rfl (jv_m_getI (hC.now.kk 1 (by decide)) rfl rfl rfl) Kz) ?_
    refine jv_Wp.lift (fun _ Kz => jv_Ev.steps jv_i45 3 (pc' := 28) (l' := [(4, .int (I (12 + 2 + 1) 7)), (3, .int (vl_I (vx_allowed M (vc_A I L 12) 1))), (0, .ref 10), (1, .int (1 : Int32)), (2, .int (vl_I p))]) (st' := [.int (1 : Int32), .int (1 : Int32)]) rfl Kz) ?_
    refine jv_Wp.lift (fun _ Kz => jv_Ev.br jv_i45 (pc' := 31) (st' := []) rfl (by rfl) Kz) ?_
    refine jv_Wp.lift (fun _ Kz => jv_Ev.steps jv_i45 1 (pc' := 32) (l' := [(4, .int (I (12 + 2 + 1) 7)), (3, .int (vl_I (vx_allowed M (vc_A I L 12) 1))), (0, .ref 10), (1, .int (1 : Int32)), (2, .int (vl_I p))]) (st' := [.ref 10]) rfl Kz) ?_
    refine jv_Wp.lift (fun _ Kz => jv_Ev.m jv_i45 (pc' := 35) (st' := [.ref 12]) (G' := (jv_H K I L R)) rfl rfl (jv_m_getR hC.k rfl rfl hC.rnow) Kz) ?_
    refine jv_Wp.lift (fun _ Kz => jv_Ev.steps jv_i45 1 (pc' := 36) (l' := [(4, .int (I (12 + 2 + 1) 7)), (3, .int (vl_I (vx_allowed M (vc_A I L 12) 1))), (0, .ref 10), (1, .int (1 : Int32)), (2, .int (vl_I p))]) (st' := [.int (vl_I p), .ref 12]) rfl Kz) ?_
    obtain ⟨I2, L2, H2, T2, O2, F2, G2⟩ := vc_forgetM (I := I) (L := L) (R := R) (n := n) (sl := sl) (vl_I p) hC.now oa
    refine jv_Wp.lift (fun _ Kz => jv_Ev.c jv_i45 (pc' := 39) (S' := []) (G1 := (jv_H K I2 L2 R)) jv_i116 [.ref 12, .int (vl_I p)] rfl rfl rfl rfl (jv_cal rfl (jv_H_at hC.now.k) rfl rfl) rfl H2 rfl rfl Kz) ?_
    refine jv_Wp.lift (fun _ Kz => jv_Ev.steps jv_i45 2 (pc' := 42) (l' := [(4, .int (I (12 + 2 + 1) 7)), (3, .int (vl_I (vx_allowed M (vc_A I L 12) 1))), (0, .ref 10), (1, .int (1 : Int32)), (2, .int (vl_I p))]) (st' := [.int (6 : Int32), .int (1 : Int32)]) rfl Kz) ?_
    refine jv_Wp.lift (fun _ Kz => jv_Ev.br jv_i45 (pc' := 52) (st' := []) rfl (by rfl) Kz) ?_
    refine jv_Wp.lift (fun _ Kz => jv_Ev.steps jv_i45 4 (pc' := 58) (l' := [(5, .int (1 : Int32)), (4, .int (I (12 + 2 + 1) 7)), (3, .int (vl_I (vx_allowed M (vc_A I L 12) 1))), (0, .ref 10), (1, .int (1 : Int32)), (2, .int (vl_I p))]) (st' := [.int (5 : Int32), .int (1 : Int32)]) rfl Kz) ?_
    refine jv_Wp.lift (fun _ Kz => jv_Ev.br jv_i45 (pc' := 61) (st' := []) rfl (by rfl) Kz) ?_
    refine jv_Wp.lift (fun _ Kz => jv_Ev.steps jv_i45 1 (pc' := 62) (l' := [(5, .int (1 : Int32)), (4, .int (I (12 + 2 + 1) 7)), (3, .int (vl_I (vx_allowed M (vc_A I L 12) 1))), (0, .ref 10), (1, .int (1 : Int32)), (2, .int (vl_I p))]) (st' := [.ref 10]) rfl Kz) ?_
    refine jv_Wp.lift (fun _ Kz => jv_Ev.m jv_i45 (pc' := 65) (st' := [.ref 12]) (G' := (jv_H K I2 L2 R)) rfl rfl (jv_m_getR hC.k rfl rfl hC.rnow) Kz) ?_
    refine jv_Wp.lift (fun _ Kz => jv_Ev.m jv_i45 (pc' := 68) (st' := [.ref (12 + 1)]) (G' := (jv_H K I2 L2 R)) rfl rfl (jv_m_getR hC.now.k rfl rfl hC.now.r) Kz) ?_
    refine jv_Wp.lift (fun _ Kz => jv_Ev.steps jv_i45 1 (pc' := 70) (l' := [(5, .int (1 : Int32)), (4, .int (I (12 + 2 + 1) 7)), (3, .int (vl_I (vx_allowed M (vc_A I L 12) 1))), (0, .ref 10), (1, .int (1 : Int32)), (2, .int (vl_I p))]) (st' := [.int (1 : Int32), .ref (12 + 1)]) rfl Kz) ?_
    refine jv_Wp.lift (fun _ Kz => jv_Ev.m jv_i45 (pc' := 71) (st' := [.ref (12 + 2 + 1)]) (G' := (jv_H K I2 L2 R)) rfl rfl (jv_m_aaldR hC.now.kt rfl (by decide) rfl (hC.now.rt 1 (by decide))) Kz) ?_
    obtain ⟨I3, L3, H3, T3, O3, F3⟩ := vc_none (I := I2) (L := L2) (R := R) (n := n) (sl := sl) (hC.now.kk 1 (by decide))
    refine jv_Wp.lift (fun _ Kz => jv_Ev.c jv_i45 (pc' := 74) (S' := []) (G1 := (jv_H K I3 L3 R)) jv_i141 [.ref (12 + 2 + 1)] rfl rfl rfl rfl (jv_cal rfl (jv_H_at (hC.now.kk 1 (by decide))) rfl rfl) rfl H3 rfl rfl Kz) ?_
    refine jv_Wp.lift (fun _ Kz => jv_Ev.steps jv_i45 4 (pc' := 58) (l' := [(5, .int (2 : Int32)), (4, .int (I (12 + 2 + 1) 7)), (3, .int (vl_I (vx_allowed M (vc_A I L 12) 1))), (0, .ref 10), (1, .int (1 : Int32)), (2, .int (vl_I p))]) (st' := [.int (5 : Int32), .int (2 : Int32)]) rfl Kz) ?_
    refine jv_Wp.lift (fun _ Kz => jv_Ev.br jv_i45 (pc' := 61) (st' := []) rfl (by rfl) Kz) ?_
    refine jv_Wp.lift (fun _ Kz => jv_Ev.steps jv_i45 1 (pc' := 62) (l' := [(5, .int (2 : Int32)), (4, .int (I (12 + 2 + 1) 7)), (3, .int (vl_I (vx_allowed M (vc_A I L 12) 1))), (0, .ref 10), (1, .int (1 : Int32)), (2, .int (vl_I p))]) (st' := [.ref 10]) rfl Kz) ?_
    refine jv_Wp.lift (fun _ Kz => jv_Ev.m jv_i45 (pc' := 65) (st' := [.ref 12]) (G' := (jv_H K I3 L3 R)) rfl rfl (jv_m_getR hC.k rfl rfl hC.rnow) Kz) ?_
    refine jv_Wp.lift (fun _ Kz => jv_Ev.m jv_i45 (pc' := 68) (st' := [.ref (12 + 1)]) (G' := (jv_H K I3 L3 R)) rfl rfl (jv_m_getR hC.now.k rfl rfl hC.now.r) Kz) ?_
    refine jv_Wp.lift (fun _ Kz => jv_Ev.steps jv_i45 1 (pc' := 70) (l' := [(5, .int (2 : Int32)), (4, .int (I (12 + 2 + 1) 7)), (3, .int (vl_I (vx_allowed M (vc_A I L 12) 1))), (0, .ref 10), (1, .int (1 : Int32)), (2, .int (vl_I p))]) (st' := [.int (2 : Int32), .ref (12 + 1)]) rfl Kz) ?_
    refine jv_Wp.lift (fun _ Kz => jv_Ev.m jv_i45 (pc' := 71) (st' := [.ref (12 + 2 + 2)]) (G' := (jv_H K I3 L3 R)) rfl rfl (jv_m_aaldR hC.now.kt rfl (by decide) rfl (hC.now.rt 2 (by decide))) Kz) ?_
    obtain ⟨I4, L4, H4, T4, O4, F4⟩ := vc_none (I := I3) (L := L3) (R := R) (n := n) (sl := sl) (hC.now.kk 2 (by decide))
    refine jv_Wp.lift (fun _ Kz => jv_Ev.c jv_i45 (pc' := 74) (S' := []) (G1 := (jv_H K I4 L4 R)) jv_i141 [.ref (12 + 2 + 2)] rfl rfl rfl rfl (jv_cal rfl (jv_H_at (hC.now.kk 2 (by decide))) rfl rfl) rfl H4 rfl rfl Kz) ?_
    refine jv_Wp.lift (fun _ Kz => jv_Ev.steps jv_i45 4 (pc' := 58) (l' := [(5, .int (3 : Int32)), (4, .int (I (12 + 2 + 1) 7)), (3, .int (vl_I (vx_allowed M (vc_A I L 12) 1))), (0, .ref 10), (1, .int (1 : Int32)), (2, .int (vl_I p))]) (st' := [.int (5 : Int32), .int (3 : Int32)]) rfl Kz) ?_
    refine jv_Wp.lift (fun _ Kz => jv_Ev.br jv_i45 (pc' := 61) (st' := []) rfl (by rfl) Kz) ?_
    refine jv_Wp.lift (fun _ Kz => jv_Ev.steps jv_i45 1 (pc' := 62) (l' := [(5, .int (3 : Int32)), (4, .int (I (12 + 2 + 1) 7)), (3, .int (vl_I (vx_allowed M (vc_A I L 12) 1))), (0, .ref 10), (1, .int (1 : Int32)), (2, .int (vl_I p))]) (st' := [.ref 10]) rfl Kz) ?_
    refine jv_Wp.lift (fun _ Kz => jv_Ev.m jv_i45 (pc' := 65) (st' := [.ref 12]) (G' := (jv_H K I4 L4 R)) rfl rfl (jv_m_getR hC.k rfl rfl hC.rnow) Kz) ?_
    refine jv_Wp.lift (fun _ Kz => jv_Ev.m jv_i45 (pc' := 68) (st' := [.ref (12 + 1)]) (G' := (jv_H K I4 L4 R)) rfl rfl (jv_m_getR hC.now.k rfl rfl hC.now.r) Kz) ?_
    refine jv_Wp.lift (fun _ Kz => jv_Ev.steps jv_i45 1 (pc' := 70) (l' := [(5, .int (3 : Int32)), (4, .int (I (12 + 2 + 1) 7)), (3, .int (vl_I (vx_allowed M (vc_A I L 12) 1))), (0, .ref 10), (1, .int (1 : Int32)), (2, .int (vl_I p))]) (st' := [.int (3 : Int32), .ref (12 + 1)]) rfl Kz) ?_
    refine jv_Wp.lift (fun _ Kz => jv_Ev.m jv_i45 (pc' := 71) (st' := [.ref (12 + 2 + 3)]) (G' := (jv_H K I4 L4 R)) rfl rfl (jv_m_aaldR hC.now.kt rfl (by decide) rfl (hC.now.rt 3 (by decide))) Kz) ?_
    obtain ⟨I5, L5, H5, T5, O5, F5⟩ := vc_none (I := I4) (L := L4) (R := R) (n := n) (sl := sl) (hC.now.kk 3 (by decide))
    refine jv_Wp.lift (fun _ Kz => jv_Ev.c jv_i45 (pc' := 74) (S' := []) (G1 := (jv_H K I5 L5 R)) jv_i141 [.ref (12 + 2 + 3)] rfl rfl rfl rfl (jv_cal rfl (jv_H_at (hC.now.kk 3 (by decide))) rfl rfl) rfl H5 rfl rfl Kz) ?_
    refine jv_Wp.lift (fun _ Kz => jv_Ev.steps jv_i45 4 (pc' := 58) (l' := [(5, .int (4 : Int32)), (4, .int (I (12 + 2 + 1) 7)), (3, .int (vl_I (vx_allowed M (vc_A I L 12) 1))), (0, .ref 10), (1, .int (1 : Int32)), (2, .int (vl_I p))]) (st' := [.int (5 : Int32), .int (4 : Int32)]) rfl Kz) ?_
    refine jv_Wp.lift (fun _ Kz => jv_Ev.br jv_i45 (pc' := 61) (st' := []) rfl (by rfl) Kz) ?_
    refine jv_Wp.lift (fun _ Kz => jv_Ev.steps jv_i45 1 (pc' := 62) (l' := [(5, .int (4 : Int32)), (4, .int (I (12 + 2 + 1) 7)), (3, .int (vl_I (vx_allowed M (vc_A I L 12) 1))), (0, .ref 10), (1, .int (1 : Int32)), (2, .int (vl_I p))]) (st' := [.ref 10]) rfl Kz) ?_
    refine jv_Wp.lift (fun _ Kz => jv_Ev.m jv_i45 (pc' := 65) (st' := [.ref 12]) (G' := (jv_H K I5 L5 R)) rfl rfl (jv_m_getR hC.k rfl rfl hC.rnow) Kz) ?_
    refine jv_Wp.lift (fun _ Kz => jv_Ev.m jv_i45 (pc' := 68) (st' := [.ref (12 + 1)]) (G' := (jv_H K I5 L5 R)) rfl rfl (jv_m_getR hC.now.k rfl rfl hC.now.r) Kz) ?_
    refine jv_Wp.lift (fun _ Kz => jv_Ev.steps jv_i45 1 (pc' := 70) (l' := [(5, .int (4 : Int32)), (4, .int (I (12 + 2 + 1) 7)), (3, .int (vl_I (vx_allowed M (vc_A I L 12) 1))), (0, .ref 10), (1, .int (1 : Int32)), (2, .int (vl_I p))]) (st' := [.int (4 : Int32), .ref (12 + 1)]) rfl Kz) ?_
    refine jv_Wp.lift (fun _ Kz => jv_Ev.m jv_i45 (pc' := 71) (st' := [.ref (12 + 2 + 4)]) (G' := (jv_H K I5 L5 R)) rfl rfl (jv_m_aaldR hC.now.kt rfl (by decide) rfl (hC.now.rt 4 (by decide))) Kz) ?_
    obtain ⟨I6, L6, H6, T6, O6, F6⟩ := vc_none (I := I5) (L := L5) (R := R) (n := n) (sl := sl) (hC.now.kk 4 (by decide))
    refine jv_Wp.lift (fun _ Kz => jv_Ev.c jv_i45 (pc' := 74) (S' := []) (G1 := (jv_H K I6 L6 R)) jv_i141 [.ref (12 + 2 + 4)] rfl rfl rfl rfl (jv_cal rfl (jv_H_at (hC.now.kk 4 (by decide))) rfl rfl) rfl H6 rfl rfl Kz) ?_
    refine jv_Wp.lift (fun _ Kz => jv_Ev.steps jv_i45 4 (pc' := 58) (l' := [(5, .int (5 : Int32)), (4, .int (I (12 + 2 + 1) 7)), (3, .int (vl_I (vx_allowed M (vc_A I L 12) 1))), (0, .ref 10), (1, .int (1 : Int32)), (2, .int (vl_I p))]) (st' := [.int (5 : Int32), .int (5 : Int32)]) rfl Kz) ?_
    refine jv_Wp.lift (fun _ Kz => jv_Ev.br jv_i45 (pc' := 61) (st' := []) rfl (by rfl) Kz) ?_
    refine jv_Wp.lift (fun _ Kz => jv_Ev.steps jv_i45 1 (pc' := 62) (l' := [(5, .int (5 : Int32)), (4, .int (I (12 + 2 + 1) 7)), (3, .int (vl_I (vx_allowed M (vc_A I L 12) 1))), (0, .ref 10), (1, .int (1 : Int32)), (2, .int (vl_I p))]) (st' := [.ref 10]) rfl Kz) ?_
    refine jv_Wp.lift (fun _ Kz => jv_Ev.m jv_i45 (pc' := 65) (st' := [.ref 12]) (G' := (jv_H K I6 L6 R)) rfl rfl (jv_m_getR hC.k rfl rfl hC.rnow) Kz) ?_
    refine jv_Wp.lift (fun _ Kz => jv_Ev.m jv_i45 (pc' := 68) (st' := [.ref (12 + 1)]) (G' := (jv_H K I6 L6 R)) rfl rfl (jv_m_getR hC.now.k rfl rfl hC.now.r) Kz) ?_
    refine jv_Wp.lift (fun _ Kz => jv_Ev.steps jv_i45 1 (pc' := 70) (l' := [(5, .int (5 : Int32)), (4, .int (I (12 + 2 + 1) 7)), (3, .int (vl_I (vx_allowed M (vc_A I L 12) 1))), (0, .ref 10), (1, .int (1 : Int32)), (2, .int (vl_I p))]) (st' := [.int (5 : Int32), .ref (12 + 1)]) rfl Kz) ?_
    refine jv_Wp.lift (fun _ Kz => jv_Ev.m jv_i45 (pc' := 71) (st' := [.ref (12 + 2 + 5)]) (G' := (jv_H K I6 L6 R)) rfl rfl (jv_m_aaldR hC.now.kt rfl (by decide) rfl (hC.now.rt 5 (by decide))) Kz) ?_
    obtain ⟨I7, L7, H7, T7, O7, F7⟩ := vc_none (I := I6) (L := L6) (R := R) (n := n) (sl := sl) (hC.now.kk 5 (by decide))
    refine jv_Wp.lift (fun _ Kz => jv_Ev.c jv_i45 (pc' := 74) (S' := []) (G1 := (jv_H K I7 L7 R)) jv_i141 [.ref (12 + 2 + 5)] rfl rfl rfl rfl (jv_cal rfl (jv_H_at (hC.now.kk 5 (by decide))) rfl rfl) rfl H7 rfl rfl Kz) ?_
    refine jv_Wp.lift (fun _ Kz => jv_Ev.steps jv_i45 4 (pc' := 58) (l' := [(5, .int (6 : Int32)), (4, .int (I (12 + 2 + 1) 7)), (3, .int (vl_I (vx_allowed M (vc_A I L 12) 1))), (0, .ref 10), (1, .int (1 : Int32)), (2, .int (vl_I p))]) (st' := [.int (5 : Int32), .int (6 : Int32)]) rfl Kz) ?_
    refine jv_Wp.lift (fun _ Kz => jv_Ev.br jv_i45 (pc' := 80) (st' := []) rfl (by rfl) Kz) ?_
    refine jv_Wp.lift (fun _ Kz => jv_Ev.steps jv_i45 2 (pc' := 82) (l' := [(5, .int (6 : Int32)), (4, .int (I (12 + 2 + 1) 7)), (3, .int (vl_I (vx_allowed M (vc_A I L 12) 1))), (0, .ref 10), (1, .int (1 : Int32)), (2, .int (vl_I p))]) (st' := [.int (1 : Int32), .int (1 : Int32)]) rfl Kz) ?_
    refine jv_Wp.lift (fun _ Kz => jv_Ev.br jv_i45 (pc' := 85) (st' := []) rfl (by rfl) Kz) ?_
    refine jv_Wp.lift (fun _ Kz => jv_Ev.steps jv_i45 1 (pc' := 86) (l' := [(5, .int (6 : Int32)), (4, .int (I (12 + 2 + 1) 7)), (3, .int (vl_I (vx_allowed M (vc_A I L 12) 1))), (0, .ref 10), (1, .int (1 : Int32)), (2, .int (vl_I p))]) (st' := [.ref 10]) rfl Kz) ?_
    refine jv_Wp.lift (fun _ Kz => jv_Ev.m jv_i45 (pc' := 89) (st' := [.ref 12]) (G' := (jv_H K I7 L7 R)) rfl rfl (jv_m_getR hC.k rfl rfl hC.rnow) Kz) ?_
    refine jv_Wp.lift (fun _ Kz => jv_Ev.m jv_i45 (pc' := 92) (st' := [.ref (12 + 1)]) (G' := (jv_H K I7 L7 R)) rfl rfl (jv_m_getR hC.now.k rfl rfl hC.now.r) Kz) ?_
    refine jv_Wp.lift (fun _ Kz => jv_Ev.steps jv_i45 1 (pc' := 93) (l' := [(5, .int (6 : Int32)), (4, .int (I (12 + 2 + 1) 7)), (3, .int (vl_I (vx_allowed M (vc_A I L 12) 1))), (0, .ref 10), (1, .int (1 : Int32)), (2, .int (vl_I p))]) (st' := [.int (0 : Int32), .ref (12 + 1)]) rfl Kz) ?_
    refine jv_Wp.lift (fun _ Kz => jv_Ev.m jv_i45 (pc' := 94) (st' := [.ref (12 + 2 + 0)]) (G' := (jv_H K I7 L7 R)) rfl rfl (jv_m_aaldR hC.now.kt rfl (by decide) rfl (hC.now.rt 0 (by decide))) Kz) ?_
    refine jv_Wp.lift (fun _ Kz => jv_Ev.steps jv_i45 4 (pc' := 100) (l' := [(5, .int (6 : Int32)), (4, .int (I (12 + 2 + 1) 7)), (3, .int (vl_I (vx_allowed M (vc_A I L 12) 1))), (0, .ref 10), (1, .int (1 : Int32)), (2, .int (vl_I p))]) (st' := [.long (vl_I p).toInt64, .int (I (12 + 2 + 1) 7), .int (8 : Int32), .ref (12 + 2 + 0)]) rfl Kz) ?_
    obtain ⟨I8, L8, H8, T8, O8, F8⟩ := vc_bec (I := I7) (L := L7) (R := R) (n := n) (sl := sl) (8 : Int32) (I (12 + 2 + 1) 7) (vl_I p).toInt64 (hC.now.kk 0 (by decide)) (Or.inr (Or.inr (Or.inr (Or.inr ⟨rfl, rfl⟩))))
    refine jv_Wp.lift (fun _ Kz => jv_Ev.c jv_i45 (pc' := 103) (S' := []) (G1 := (jv_H K I8 L8 R)) jv_i140 [.ref (12 + 2 + 0), .int (8 : Int32), .int (I (12 + 2 + 1) 7), .long (vl_I p).toInt64] rfl rfl rfl rfl (jv_cal rfl (jv_H_at (hC.now.kk 0 (by decide))) rfl rfl) rfl H8 rfl rfl Kz) ?_
    refine jv_Wp.lift (fun _ Kz => jv_Ev.steps jv_i45 2 (pc' := 130) (l' := [(5, .int (6 : Int32)), (4, .int (I (12 + 2 + 1) 7)), (3, .int (vl_I (vx_allowed M (vc_A I L 12) 1))), (0, .ref 10), (1, .int (1 : Int32)), (2, .int (vl_I p))]) (st' := [.int (0 : Int32)]) rfl Kz) ?_
    refine jv_Wp.of (jv_Ev.ret jv_i45 rfl rfl) ?_
    rw [hQ]
    have al : (vx_allowed M (vc_A I L 12) 1) = 0 := (vl_I_inj (Nat.lt_trans vx_allowed_lt (by decide)) (by decide)).mp h1
    obtain ⟨c1, c2, c3⟩ := vc_clear5 T3 O3 F3 T4 O4 F4 T5 O5 F5 T6 O6 F6 T7 O7 F7 O2
    have ep : (vl_I p).toInt = (p : Int) := vl_I_int (by omega)
    have s6 := vx_im0_sort (vx_then_0 (vx_al1 ▸ al)).1
    have e1 : ((vc_A I L 12).1 1) = vc_T I L (12 + 2 + 1) := vc_A1 (by decide)
    have d1 : ((vc_A I L 12).1 1).det = (I (12 + 2 + 1) 7).toInt := by rw [e1]; exact vc_detm (Or.inl ((vc_is6 (oa 1 (by decide))).mp (e1 ▸ s6)))
    have TT : vc_T I8 L8 (12 + 2 + 0) = vt_maybe ((vc_A I L 12).1 1).det p := by rw [T8, d1]; show ((8 : Nat), (I (12 + 2 + 1) 7).toInt, (vl_I p).toInt64.toInt, vb_any) = _; rw [Int32.toInt_toInt64, ep]; rfl
    rw [T2, ep] at c1
    have FA : vc_fr (fun p => p = 12 + 2 + 0 ∨ (166 ≤ p ∧ p ≤ 170)) I7 L7 I8 L8 := vc_fr_mono F8 (fun p z => Or.inl z)
    have U := vc_up (r := 0) (by decide) TT O8 FA (fun n hn e q => by omega) (by omega) c2
    rw [c1] at U
    have e := vx_cl1 (p := p) al
    have FR : vc_fr vc_wk I L I8 L8 := vc_fr_trans (vc_fr_mono F2 (fun p z => Or.inl z)) (vc_fr_trans (vc_fr_mono c3 (fun p z => Or.inl (by unfold vc_in; omega))) (vc_fr_mono FA (fun p z => z.imp (fun z => (by unfold vc_in; omega)) id)))
    exact ⟨_, _, by rw [e]; rfl, fun _ => by rw [e]; exact U, FR, fun f => (((FA 12 (by omega)).1 f).trans ((c3 12 (by omega)).1 f)).trans (G2 f)⟩
  · refine jv_Wp.lift (fun _ Kz => jv_Ev.steps jv_i45 1 (pc' := 11) (l' := [(3, .int (vl_I (vx_allowed M (vc_A I L 12) 1))), (0, .ref 10), (1, .int (1 : Int32)), (2, .int (vl_I p))]) (st' := [.int (vl_I (vx_allowed M (vc_A I L 12) 1))]) rfl Kz) ?_
    refine jv_Wp.of (jv_Ev.ret jv_i45 rfl rfl) ?_
    rw [hQ]
    have na : (vx_allowed M (vc_A I L 12) 1) ≠ 0 := fun z => h1 (by rw [z]; rfl)
    have e := vx_cl0 (p := p) na
    exact ⟨_, _, by rw [e], fun z => by rw [e] at z; exact absurd z na, vc_fr_refl _ _, fun _ => rfl⟩
theorem vc_call2 {K : Nat → Option (Nat × Nat)} {I : Nat → Nat → Int32} {L : Nat → Nat → Int64} {R : Nat → Nat → Value} {M : vf_M} (p : Nat) (hC : vc_C K R) (hM : vc_M K I R M) (hp2 : p < 2147483648) (hkn : (L 12 1).toInt ≤ 1073000000) (oa : vc_okA I L 12) (tA : ∀ n, n < 75 → vt_ok (vc_T I L (12 + 2 + n))) (gA : ∀ n, n < 75 → vc_g I L (12 + 2 + n)) (m6 : I (12 + 2 + 1) 6 = 6 → 0 ≤ (I (12 + 2 + 1) 7).toInt) {n sl : Nat} : ∃ I1 L1, jv_Ms 45 [.ref 10, .int (2 : Int32), .int (vl_I p)] (jv_H K I L R) n sl (some (.int (vl_I (vx_call M 2 p (vc_A I L 12)).1)), jv_H K I1 L1 R, n, sl) ∧ ((vx_call M 2 p (vc_A I L 12)).1 = 0 → vc_A I1 L1 12 = (vx_call M 2 p (vc_A I L 12)).2 ∧ vc_okA I1 L1 12) ∧ vc_fr vc_wk I L I1 L1 ∧ ∀ f, I1 12 f = I 12 f := by
  obtain ⟨Q, hQ⟩ : ∃ Q : jv_R → Prop, Q = fun X => ∃ I1 L1, X = (some (.int (vl_I (vx_call M 2 p (vc_A I L 12)).1)), jv_H K I1 L1 R, n, sl) ∧ ((vx_call M 2 p (vc_A I L 12)).1 = 0 → vc_A I1 L1 12 = (vx_call M 2 p (vc_A I L 12)).2 ∧ vc_okA I1 L1 12) ∧ vc_fr vc_wk I L I1 L1 ∧ ∀ f, I1 12 f = I 12 f := ⟨_, rfl⟩
  suffices h : jv_Wp 45 0 [(0, .ref 10), (1, .int (2 : Int32)), (2, .int (vl_I p))] [] (jv_H K I L R) n sl Q by
    rw [hQ] at h
    obtain ⟨X, h, I1, L1, e, h'⟩ := h
    subst e
    exact ⟨I1, L1, h, h'⟩
  have alt := vx_allowed_lt (M := M) (A := vc_A I L 12) (c := 2)
  refine jv_Wp.lift (fun _ Kz => jv_Ev.steps jv_i45 2 (pc' := 2) (l' := [(0, .ref 10), (1, .int (2 : Int32)), (2, .int (vl_I p))]) (st' := [.int (2 : Int32), .ref 10]) rfl Kz) ?_
  obtain ⟨I9, L9, H9, ei9, el9⟩ := vc_allowed2 (I := I) (L := L) (R := R) (n := n) (sl := sl) (M := M) hC hM hkn oa tA gA m6
  rw [ei9, el9] at H9
  refine jv_Wp.lift (fun _ Kz => jv_Ev.c jv_i45 (pc' := 5) (S' := [.int (vl_I (vx_allowed M (vc_A I L 12) 2))]) jv_i46 [.ref 10, .int (2 : Int32)] rfl rfl rfl rfl (jv_cal rfl (jv_H_at hC.k) rfl rfl) rfl H9 rfl rfl Kz) ?_
  refine jv_Wp.lift (fun _ Kz => jv_Ev.steps jv_i45 2 (pc' := 7) (l' := [(3, .int (vl_I (vx_allowed M (vc_A I L 12) 2))), (0, .ref 10), (1, .int (2 : Int32)), (2, .int (vl_I p))]) (st' := [.int (vl_I (vx_allowed M (vc_A I L 12) 2))]) rfl Kz) ?_
  refine jv_Wp.cnd jv_i45 (pt := 12) (pe := 10) (p := ((vl_I (vx_allowed M (vc_A I L 12) 2)) = 0)) (q := ((vl_I (vx_allowed M (vc_A I L 12) 2)) = 0)) rfl jv_bi_eq rfl rfl Iff.rfl (fun h1 => ?_) (fun h1 => ?_)
  · refine jv_Wp.lift (fun _ Kz => jv_Ev.steps jv_i45 1 (pc' := 13) (l' := [(3, .int (vl_I (vx_allowed M (vc_A I L 12) 2))), (0, .ref 10), (1, .int (2 : Int32)), (2, .int (vl_I p))]) (st' := [.ref 10]) rfl Kz) ?_
    refine jv_Wp.lift (fun _ Kz => jv_Ev.m jv_i45 (pc' := 16) (st' := [.ref 12]) (G' := (jv_H K I L R)) rfl rfl (jv_m_getR hC.k rfl rfl hC.rnow) Kz) ?_
    refine jv_Wp.lift (fun _ Kz => jv_Ev.m jv_i45 (pc' := 19) (st' := [.ref (12 + 1)]) (G' := (jv_H K I L R)) rfl rfl (jv_m_getR hC.now.k rfl rfl hC.now.r) Kz) ?_
    refine jv_Wp.lift (fun _ Kz => jv_Ev.steps jv_i45 1 (pc' := 20) (l' := [(3, .int (vl_I (vx_allowed M (vc_A I L 12) 2))), (0, .ref 10), (1, .int (2 : Int32)), (2, .int (vl_I p))]) (st' := [.int (1 : Int32), .ref (12 + 1)]) rfl Kz) ?_
    refine jv_Wp.lift (fun _ Kz => jv_Ev.m jv_i45 (pc' := 21) (st' := [.ref (12 + 2 + 1)]) (G' := (jv_H K I L R)) rfl rfl (jv_m_aaldR hC.now.kt rfl (by decide) rfl (hC.now.rt 1 (by decide))) Kz) ?_
    refine jv_Wp.lift (fun _ Kz => jv_Ev.m jv_i45 (pc' := 24) (st' := [.int (I (12 + 2 + 1) 7)]) (G' := (jv_H K I L R)) rfl rfl (jv_m_getI (hC.now.kk 1 (by decide)) rfl rfl rfl) Kz) ?_
    refine jv_Wp.lift (fun _ Kz => jv_Ev.steps jv_i45 3 (pc' := 28) (l' := [(4, .int (I (12 + 2 + 1) 7)), (3, .int (vl_I (vx_allowed M (vc_A I L 12) 2))), (0, .ref 10), (1, .int (2 : Int32)), (2, .int (vl_I p))]) (st' := [.int (1 : Int32), .int (2 : Int32)]) rfl Kz) ?_
    refine jv_Wp.lift (fun _ Kz => jv_Ev.br jv_i45 (pc' := 39) (st' := []) rfl (by rfl) Kz) ?_
    refine jv_Wp.lift (fun _ Kz => jv_Ev.steps jv_i45 2 (pc' := 42) (l' := [(4, .int (I (12 + 2 + 1) 7)), (3, .int (vl_I (vx_allowed M (vc_A I L 12) 2))), (0, .ref 10), (1, .int (2 : Int32)), (2, .int (vl_I p))]) (st' := [.int (6 : Int32), .int (2 : Int32)]) rfl Kz) ?_
    refine jv_Wp.lift (fun _ Kz => jv_Ev.br jv_i45 (pc' := 52) (st' := []) rfl (by rfl) Kz) ?_
    refine jv_Wp.lift (fun _ Kz => jv_Ev.steps jv_i45 4 (pc' := 58) (l' := [(5, .int (1 : Int32)), (4, .int (I (12 + 2 + 1) 7)), (3, .int (vl_I (vx_allowed M (vc_A I L 12) 2))), (0, .ref 10), (1, .int (2 : Int32)), (2, .int (vl_I p))]) (st' := [.int (5 : Int32), .int (1 : Int32)]) rfl Kz) ?_
    refine jv_Wp.lift (fun _ Kz => jv_Ev.br jv_i45 (pc' := 61) (st' := []) rfl (by rfl) Kz) ?_
    refine jv_Wp.lift (fun _ Kz => jv_Ev.steps jv_i45 1 (pc' := 62) (l' := [(5, .int (1 : Int32)), (4, .int (I (12 + 2 + 1) 7)), (3, .int (vl_I (vx_allowed M (vc_A I L 12) 2))), (0, .ref 10), (1, .int (2 : Int32)), (2, .int (vl_I p))]) (st' := [.ref 10]) rfl Kz) ?_
    refine jv_Wp.lift (fun _ Kz => jv_Ev.m jv_i45 (pc' := 65) (st' := [.ref 12]) (G' := (jv_H K I L R)) rfl rfl (jv_m_getR hC.k rfl rfl hC.rnow) Kz) ?_
    refine jv_Wp.lift (fun _ Kz => jv_Ev.m jv_i45 (pc' := 68) (st' := [.ref (12 + 1)]) (G' := (jv_H K I L R)) rfl rfl (jv_m_getR hC.now.k rfl rfl hC.now.r) Kz) ?_
    refine jv_Wp.lift (fun _ Kz => jv_Ev.steps jv_i45 1 (pc' := 70) (l' := [(5, .int (1 : Int32)), (4, .int (I (12 + 2 + 1) 7)), (3, .int (vl_I (vx_allowed M (vc_A I L 12) 2))), (0, .ref 10), (1, .int (2 : Int32)), (2, .int (vl_I p))]) (st' := [.int (1 : Int32), .ref (12 + 1)]) rfl Kz) ?_
    refine jv_Wp.lift (fun _ Kz => jv_Ev.m jv_i45 (pc' := 71) (st' := [.ref (12 + 2 + 1)]) (G' := (jv_H K I L R)) rfl rfl (jv_m_aaldR hC.now.kt rfl (by decide) rfl (hC.now.rt 1 (by decide))) Kz) ?_
    obtain ⟨I10, L10, H10, T10, O10, F10⟩ := vc_none (I := I) (L := L) (R := R) (n := n) (sl := sl) (hC.now.kk 1 (by decide))
    refine jv_Wp.lift (fun _ Kz => jv_Ev.c jv_i45 (pc' := 74) (S' := []) (G1 := (jv_H K I10 L10 R)) jv_i141 [.ref (12 + 2 + 1)] rfl rfl rfl rfl (jv_cal rfl (jv_H_at (hC.now.kk 1 (by decide))) rfl rfl) rfl H10 rfl rfl Kz) ?_
    refine jv_Wp.lift (fun _ Kz => jv_Ev.steps jv_i45 4 (pc' := 58) (l' := [(5, .int (2 : Int32)), (4, .int (I (12 + 2 + 1) 7)), (3, .int (vl_I (vx_allowed M (vc_A I L 12) 2))), (0, .ref 10), (1, .int (2 : Int32)), (2, .int (vl_I p))]) (st' := [.int (5 : Int32), .int (2 : Int32)]) rfl Kz) ?_
    refine jv_Wp.lift (fun _ Kz => jv_Ev.br jv_i45 (pc' := 61) (st' := []) rfl (by rfl) Kz) ?_
    refine jv_Wp.lift (fun _ Kz => jv_Ev.steps jv_i45 1 (pc' := 62) (l' := [(5, .int (2 : Int32)), (4, .int (I (12 + 2 + 1) 7)), (3, .int (vl_I (vx_allowed M (vc_A I L 12) 2))), (0, .ref 10), (1, .int (2 : Int32)), (2, .int (vl_I p))]) (st' := [.ref 10]) rfl Kz) ?_
    refine jv_Wp.lift (fun _ Kz => jv_Ev.m jv_i45 (pc' := 65) (st' := [.ref 12]) (G' := (jv_H K I10 L10 R)) rfl rfl (jv_m_getR hC.k rfl rfl hC.rnow) Kz) ?_
    refine jv_Wp.lift (fun _ Kz => jv_Ev.m jv_i45 (pc' := 68) (st' := [.ref (12 + 1)]) (G' := (jv_H K I10 L10 R)) rfl rfl (jv_m_getR hC.now.k rfl rfl hC.now.r) Kz) ?_
    refine jv_Wp.lift (fun _ Kz => jv_Ev.steps jv_i45 1 (pc' := 70) (l' := [(5, .int (2 : Int32)), (4, .int (I (12 + 2 + 1) 7)), (3, .int (vl_I (vx_allowed M (vc_A I L 12) 2))), (0, .ref 10), (1, .int (2 : Int32)), (2, .int (vl_I p))]) (st' := [.int (2 : Int32), .ref (12 + 1)]) rfl Kz) ?_
    refine jv_Wp.lift (fun _ Kz => jv_Ev.m jv_i45 (pc' := 71) (st' := [.ref (12 + 2 + 2)]) (G' := (jv_H K I10 L10 R)) rfl rfl (jv_m_aaldR hC.now.kt rfl (by decide) rfl (hC.now.rt 2 (by decide))) Kz) ?_
    obtain ⟨I11, L11, H11, T11, O11, F11⟩ := vc_none (I := I10) (L := L10) (R := R) (n := n) (sl := sl) (hC.now.kk 2 (by decide))
    refine jv_Wp.lift (fun _ Kz => jv_Ev.c jv_i45 (pc' := 74) (S' := []) (G1 := (jv_H K I11 L11 R)) jv_i141 [.ref (12 + 2 + 2)] rfl rfl rfl rfl (jv_cal rfl (jv_H_at (hC.now.kk 2 (by decide))) rfl rfl) rfl H11 rfl rfl Kz) ?_
    refine jv_Wp.lift (fun _ Kz => jv_Ev.steps jv_i45 4 (pc' := 58) (l' := [(5, .int (3 : Int32)), (4, .int (I (12 + 2 + 1) 7)), (3, .int (vl_I (vx_allowed M (vc_A I L 12) 2))), (0, .ref 10), (1, .int (2 : Int32)), (2, .int (vl_I p))]) (st' := [.int (5 : Int32), .int (3 : Int32)]) rfl Kz) ?_
    refine jv_Wp.lift (fun _ Kz => jv_Ev.br jv_i45 (pc' := 61) (st' := []) rfl (by rfl) Kz) ?_
    refine jv_Wp.lift (fun _ Kz => jv_Ev.steps jv_i45 1 (pc' := 62) (l' := [(5, .int (3 : Int32)), (4, .int (I (12 + 2 + 1) 7)), (3, .int (vl_I (vx_allowed M (vc_A I L 12) 2))), (0, .ref 10), (1, .int (2 : Int32)), (2, .int (vl_I p))]) (st' := [.ref 10]) rfl Kz) ?_
    refine jv_Wp.lift (fun _ Kz => jv_Ev.m jv_i45 (pc' := 65) (st' := [.ref 12]) (G' := (jv_H K I11 L11 R)) rfl rfl (jv_m_getR hC.k rfl rfl hC.rnow) Kz) ?_
    refine jv_Wp.lift (fun _ Kz => jv_Ev.m jv_i45 (pc' := 68) (st' := [.ref (12 + 1)]) (G' := (jv_H K I11 L11 R)) rfl rfl (jv_m_getR hC.now.k rfl rfl hC.now.r) Kz) ?_
    refine jv_Wp.lift (fun _ Kz => jv_Ev.steps jv_i45 1 (pc' := 70) (l' := [(5, .int (3 : Int32)), (4, .int (I (12 + 2 + 1) 7)), (3, .int (vl_I (vx_allowed M (vc_A I L 12) 2))), (0, .ref 10), (1, .int (2 : Int32)), (2, .int (vl_I p))]) (st' := [.int (3 : Int32), .ref (12 + 1)]) rfl Kz) ?_
    refine jv_Wp.lift (fun _ Kz => jv_Ev.m jv_i45 (pc' := 71) (st' := [.ref (12 + 2 + 3)]) (G' := (jv_H K I11 L11 R)) rfl rfl (jv_m_aaldR hC.now.kt rfl (by decide) rfl (hC.now.rt 3 (by decide))) Kz) ?_
    obtain ⟨I12, L12, H12, T12, O12, F12⟩ := vc_none (I := I11) (L := L11) (R := R) (n := n) (sl := sl) (hC.now.kk 3 (by decide))
    refine jv_Wp.lift (fun _ Kz => jv_Ev.c jv_i45 (pc' := 74) (S' := []) (G1 := (jv_H K I12 L12 R)) jv_i141 [.ref (12 + 2 + 3)] rfl rfl rfl rfl (jv_cal rfl (jv_H_at (hC.now.kk 3 (by decide))) rfl rfl) rfl H12 rfl rfl Kz) ?_
    refine jv_Wp.lift (fun _ Kz => jv_Ev.steps jv_i45 4 (pc' := 58) (l' := [(5, .int (4 : Int32)), (4, .int (I (12 + 2 + 1) 7)), (3, .int (vl_I (vx_allowed M (vc_A I L 12) 2))), (0, .ref 10), (1, .int (2 : Int32)), (2, .int (vl_I p))]) (st' := [.int (5 : Int32), .int (4 : Int32)]) rfl Kz) ?_
    refine jv_Wp.lift (fun _ Kz => jv_Ev.br jv_i45 (pc' := 61) (st' := []) rfl (by rfl) Kz) ?_
    refine jv_Wp.lift (fun _ Kz => jv_Ev.steps jv_i45 1 (pc' := 62) (l' := [(5, .int (4 : Int32)), (4, .int (I (12 + 2 + 1) 7)), (3, .int (vl_I (vx_allowed M (vc_A I L 12) 2))), (0, .ref 10), (1, .int (2 : Int32)), (2, .int (vl_I p))]) (st' := [.ref 10]) rfl Kz) ?_
    refine jv_Wp.lift (fun _ Kz => jv_Ev.m jv_i45 (pc' := 65) (st' := [.ref 12]) (G' := (jv_H K I12 L12 R)) rfl rfl (jv_m_getR hC.k rfl rfl hC.rnow) Kz) ?_
    refine jv_Wp.lift (fun _ Kz => jv_Ev.m jv_i45 (pc' := 68) (st' := [.ref (12 + 1)]) (G' := (jv_H K I12 L12 R)) rfl rfl (jv_m_getR hC.now.k rfl rfl hC.now.r) Kz) ?_
    refine jv_Wp.lift (fun _ Kz => jv_Ev.steps jv_i45 1 (pc' := 70) (l' := [(5, .int (4 : Int32)), (4, .int (I (12 + 2 + 1) 7)), (3, .int (vl_I (vx_allowed M (vc_A I L 12) 2))), (0, .ref 10), (1, .int (2 : Int32)), (2, .int (vl_I p))]) (st' := [.int (4 : Int32), .ref (12 + 1)]) rfl Kz) ?_
    refine jv_Wp.lift (fun _ Kz => jv_Ev.m jv_i45 (pc' := 71) (st' := [.ref (12 + 2 + 4)]) (G' := (jv_H K I12 L12 R)) rfl rfl (jv_m_aaldR hC.now.kt rfl (by decide) rfl (hC.now.rt 4 (by decide))) Kz) ?_
    obtain ⟨I13, L13, H13, T13, O13, F13⟩ := vc_none (I := I12) (L := L12) (R := R) (n := n) (sl := sl) (hC.now.kk 4 (by decide))
    refine jv_Wp.lift (fun _ Kz => jv_Ev.c jv_i45 (pc' := 74) (S' := []) (G1 := (jv_H K I13 L13 R)) jv_i141 [.ref (12 + 2 + 4)] rfl rfl rfl rfl (jv_cal rfl (jv_H_at (hC.now.kk 4 (by decide))) rfl rfl) rfl H13 rfl rfl Kz) ?_
    refine jv_Wp.lift (fun _ Kz => jv_Ev.steps jv_i45 4 (pc' := 58) (l' := [(5, .int (5 : Int32)), (4, .int (I (12 + 2 + 1) 7)), (3, .int (vl_I (vx_allowed M (vc_A I L 12) 2))), (0, .ref 10), (1, .int (2 : Int32)), (2, .int (vl_I p))]) (st' := [.int (5 : Int32), .int (5 : Int32)]) rfl Kz) ?_
    refine jv_Wp.lift (fun _ Kz => jv_Ev.br jv_i45 (pc' := 61) (st' := []) rfl (by rfl) Kz) ?_
    refine jv_Wp.lift (fun _ Kz => jv_Ev.steps jv_i45 1 (pc' := 62) (l' := [(5, .int (5 : Int32)), (4, .int (I (12 + 2 + 1) 7)), (3, .int (vl_I (vx_allowed M (vc_A I L 12) 2))), (0, .ref 10), (1, .int (2 : Int32)), (2, .int (vl_I p))]) (st' := [.ref 10]) rfl Kz) ?_
    refine jv_Wp.lift (fun _ Kz => jv_Ev.m jv_i45 (pc' := 65) (st' := [.ref 12]) (G' := (jv_H K I13 L13 R)) rfl rfl (jv_m_getR hC.k rfl rfl hC.rnow) Kz) ?_
    refine jv_Wp.lift (fun _ Kz => jv_Ev.m jv_i45 (pc' := 68) (st' := [.ref (12 + 1)]) (G' := (jv_H K I13 L13 R)) rfl rfl (jv_m_getR hC.now.k rfl rfl hC.now.r) Kz) ?_
    refine jv_Wp.lift (fun _ Kz => jv_Ev.steps jv_i45 1 (pc' := 70) (l' := [(5, .int (5 : Int32)), (4, .int (I (12 + 2 + 1) 7)), (3, .int (vl_I (vx_allowed M (vc_A I L 12) 2))), (0, .ref 10), (1, .int (2 : Int32)), (2, .int (vl_I p))]) (st' := [.int (5 : Int32), .ref (12 + 1)]) rfl Kz) ?_
    refine jv_Wp.lift (fun _ Kz => jv_Ev.m jv_i45 (pc' := 71) (st' := [.ref (12 + 2 + 5)]) (G' := (jv_H K I13 L13 R)) rfl rfl (jv_m_aaldR hC.now.kt rfl (by decide) rfl (hC.now.rt 5 (by decide))) Kz) ?_
    obtain ⟨I14, L14, H14, T14, O14, F14⟩ := vc_none (I := I13) (L := L13) (R := R) (n := n) (sl := sl) (hC.now.kk 5 (by decide))
    refine jv_Wp.lift (fun _ Kz => jv_Ev.c jv_i45 (pc' := 74) (S' := []) (G1 := (jv_H K I14 L14 R)) jv_i141 [.ref (12 + 2 + 5)] rfl rfl rfl rfl (jv_cal rfl (jv_H_at (hC.now.kk 5 (by decide))) rfl rfl) rfl H14 rfl rfl Kz) ?_
    refine jv_Wp.lift (fun _ Kz => jv_Ev.steps jv_i45 4 (pc' := 58) (l' := [(5, .int (6 : Int32)), (4, .int (I (12 + 2 + 1) 7)), (3, .int (vl_I (vx_allowed M (vc_A I L 12) 2))), (0, .ref 10), (1, .int (2 : Int32)), (2, .int (vl_I p))]) (st' := [.int (5 : Int32), .int (6 : Int32)]) rfl Kz) ?_
    refine jv_Wp.lift (fun _ Kz => jv_Ev.br jv_i45 (pc' := 80) (st' := []) rfl (by rfl) Kz) ?_
    refine jv_Wp.lift (fun _ Kz => jv_Ev.steps jv_i45 2 (pc' := 82) (l' := [(5, .int (6 : Int32)), (4, .int (I (12 + 2 + 1) 7)), (3, .int (vl_I (vx_allowed M (vc_A I L 12) 2))), (0, .ref 10), (1, .int (2 : Int32)), (2, .int (vl_I p))]) (st' := [.int (1 : Int32), .int (2 : Int32)]) rfl Kz) ?_
    refine jv_Wp.lift (fun _ Kz => jv_Ev.br jv_i45 (pc' := 106) (st' := []) rfl (by rfl) Kz) ?_
    refine jv_Wp.lift (fun _ Kz => jv_Ev.steps jv_i45 1 (pc' := 107) (l' := [(5, .int (6 : Int32)), (4, .int (I (12 + 2 + 1) 7)), (3, .int (vl_I (vx_allowed M (vc_A I L 12) 2))), (0, .ref 10), (1, .int (2 : Int32)), (2, .int (vl_I p))]) (st' := [.ref 10]) rfl Kz) ?_
    refine jv_Wp.lift (fun _ Kz => jv_Ev.m jv_i45 (pc' := 110) (st' := [.ref 169]) (G' := (jv_H K I14 L14 R)) rfl rfl (jv_m_getR hC.k rfl rfl hC.rout) Kz) ?_
    refine jv_Wp.lift (fun _ Kz => jv_Ev.c jv_i45 (pc' := 113) (S' := []) (G1 := (jv_H K I14 (vl_set L14 169 vb_any) R)) jv_i149 [.ref 169] rfl rfl rfl rfl (jv_cal rfl (jv_H_at hC.k169) rfl rfl) rfl (vl_any (Or.inl hC.k169)) rfl rfl Kz) ?_
    refine jv_Wp.lift (fun _ Kz => jv_Ev.steps jv_i45 1 (pc' := 114) (l' := [(5, .int (6 : Int32)), (4, .int (I (12 + 2 + 1) 7)), (3, .int (vl_I (vx_allowed M (vc_A I L 12) 2))), (0, .ref 10), (1, .int (2 : Int32)), (2, .int (vl_I p))]) (st' := [.ref 10]) rfl Kz) ?_
    refine jv_Wp.lift (fun _ Kz => jv_Ev.m jv_i45 (pc' := 117) (st' := [.ref 12]) (G' := (jv_H K I14 (vl_set L14 169 vb_any) R)) rfl rfl (jv_m_getR hC.k rfl rfl hC.rnow) Kz) ?_
    refine jv_Wp.lift (fun _ Kz => jv_Ev.m jv_i45 (pc' := 120) (st' := [.ref (12 + 1)]) (G' := (jv_H K I14 (vl_set L14 169 vb_any) R)) rfl rfl (jv_m_getR hC.now.k rfl rfl hC.now.r) Kz) ?_
    refine jv_Wp.lift (fun _ Kz => jv_Ev.steps jv_i45 1 (pc' := 121) (l' := [(5, .int (6 : Int32)), (4, .int (I (12 + 2 + 1) 7)), (3, .int (vl_I (vx_allowed M (vc_A I L 12) 2))), (0, .ref 10), (1, .int (2 : Int32)), (2, .int (vl_I p))]) (st' := [.int (0 : Int32), .ref (12 + 1)]) rfl Kz) ?_
    refine jv_Wp.lift (fun _ Kz => jv_Ev.m jv_i45 (pc' := 122) (st' := [.ref (12 + 2 + 0)]) (G' := (jv_H K I14 (vl_set L14 169 vb_any) R)) rfl rfl (jv_m_aaldR hC.now.kt rfl (by decide) rfl (hC.now.rt 0 (by decide))) Kz) ?_
    refine jv_Wp.lift (fun _ Kz => jv_Ev.steps jv_i45 1 (pc' := 123) (l' := [(5, .int (6 : Int32)), (4, .int (I (12 + 2 + 1) 7)), (3, .int (vl_I (vx_allowed M (vc_A I L 12) 2))), (0, .ref 10), (1, .int (2 : Int32)), (2, .int (vl_I p))]) (st' := [.ref 10, .ref (12 + 2 + 0)]) rfl Kz) ?_
    refine jv_Wp.lift (fun _ Kz => jv_Ev.m jv_i45 (pc' := 126) (st' := [.ref 169, .ref (12 + 2 + 0)]) (G' := (jv_H K I14 (vl_set L14 169 vb_any) R)) rfl rfl (jv_m_getR hC.k rfl rfl hC.rout) Kz) ?_
    have f1 : (vx_allowed M (vc_A I L 12) 2) = 0 := (vl_I_inj (by omega) (by decide)).mp h1
    obtain ⟨I15, L15, H15, T15, O15, F15⟩ := vc_num (I := I14) (L := (vl_set L14 169 vb_any)) (R := R) (n := n) (sl := sl) (hC.now.kk 0 (by decide)) (Or.inl hC.k169)
    refine jv_Wp.lift (fun _ Kz => jv_Ev.c jv_i45 (pc' := 129) (S' := []) (G1 := (jv_H K I15 L15 R)) jv_i142 [.ref (12 + 2 + 0), .ref 169] rfl rfl rfl rfl (jv_cal rfl (jv_H_at (hC.now.kk 0 (by decide))) rfl rfl) rfl H15 rfl rfl Kz) ?_
    refine jv_Wp.lift (fun _ Kz => jv_Ev.steps jv_i45 1 (pc' := 130) (l' := [(5, .int (6 : Int32)), (4, .int (I (12 + 2 + 1) 7)), (3, .int (vl_I (vx_allowed M (vc_A I L 12) 2))), (0, .ref 10), (1, .int (2 : Int32)), (2, .int (vl_I p))]) (st' := [.int (0 : Int32)]) rfl Kz) ?_
    refine jv_Wp.of (jv_Ev.ret jv_i45 rfl rfl) ?_
    rw [hQ]
    have al : (vx_allowed M (vc_A I L 12) 2) = 0 := (vl_I_inj (Nat.lt_trans vx_allowed_lt (by decide)) (by decide)).mp h1
    obtain ⟨c1, c2, c3⟩ := vc_clear5 T10 O10 F10 T11 O11 F11 T12 O12 F12 T13 O13 F13 T14 O14 F14 oa
    have TT : vc_T I15 L15 (12 + 2 + 0) = vt_num vb_any := by rw [T15, vl_set_S]
    have FA : vc_fr (fun p => p = 12 + 2 + 0 ∨ (166 ≤ p ∧ p ≤ 170)) I14 L14 I15 L15 := vc_fr_trans (fun p hp => ⟨fun _ => rfl, fun f => vl_set_out (fun z => hp (Or.inr (by rw [z.1]; exact ⟨by decide, by decide⟩)))⟩) (vc_fr_mono F15 (fun p z => Or.inl z))
    have U := vc_up (r := 0) (by decide) TT O15 FA (fun n hn e q => by omega) (by omega) c2
    rw [c1] at U
    have e := vx_clp (p := p) al (by decide) (by decide)
    have FR : vc_fr vc_wk I L I15 L15 := vc_fr_trans (vc_fr_mono c3 (fun p z => Or.inl (by unfold vc_in; omega))) (vc_fr_mono FA (fun p z => z.imp (fun z => (by unfold vc_in; omega)) id))
    exact ⟨_, _, by rw [e]; rfl, fun _ => by rw [e]; exact U, FR, fun f => ((FA 12 (by omega)).1 f).trans ((c3 12 (by omega)).1 f)⟩
  · refine jv_Wp.lift (fun _ Kz => jv_Ev.steps jv_i45 1 (pc' := 11) (l' := [(3, .int (vl_I (vx_allowed M (vc_A I L 12) 2))), (0, .ref 10), (1, .int (2 : Int32)), (2, .int (vl_I p))]) (st' := [.int (vl_I (vx_allowed M (vc_A I L 12) 2))]) rfl Kz) ?_
    refine jv_Wp.of (jv_Ev.ret jv_i45 rfl rfl) ?_
    rw [hQ]
    have na : (vx_allowed M (vc_A I L 12) 2) ≠ 0 := fun z => h1 (by rw [z]; rfl)
    have e := vx_cl0 (p := p) na
    exact ⟨_, _, by rw [e], fun z => by rw [e] at z; exact absurd z na, vc_fr_refl _ _, fun _ => rfl⟩
theorem vc_call3 {K : Nat → Option (Nat × Nat)} {I : Nat → Nat → Int32} {L : Nat → Nat → Int64} {R : Nat → Nat → Value} {M : vf_M} (p : Nat) (hC : vc_C K R) (hM : vc_M K I R M) (hp2 : p < 2147483648) (hkn : (L 12 1).toInt ≤ 1073000000) (oa : vc_okA I L 12) (tA : ∀ n, n < 75 → vt_ok (vc_T I L (12 + 2 + n))) (gA : ∀ n, n < 75 → vc_g I L (12 + 2 + n)) (m6 : I (12 + 2 + 1) 6 = 6 → 0 ≤ (I (12 + 2 + 1) 7).toInt) {n sl : Nat} : ∃ I1 L1, jv_Ms 45 [.ref 10, .int (3 : Int32), .int (vl_I p)] (jv_H K I L R) n sl (some (.int (vl_I (vx_call M 3 p (vc_A I L 12)).1)), jv_H K I1 L1 R, n, sl) ∧ ((vx_call M 3 p (vc_A I L 12)).1 = 0 → vc_A I1 L1 12 = (vx_call M 3 p (vc_A I L 12)).2 ∧ vc_okA I1 L1 12) ∧ vc_fr vc_wk I L I1 L1 ∧ ∀ f, I1 12 f = I 12 f := by
  obtain ⟨Q, hQ⟩ : ∃ Q : jv_R → Prop, Q = fun X => ∃ I1 L1, X = (some (.int (vl_I (vx_call M 3 p (vc_A I L 12)).1)), jv_H K I1 L1 R, n, sl) ∧ ((vx_call M 3 p (vc_A I L 12)).1 = 0 → vc_A I1 L1 12 = (vx_call M 3 p (vc_A I L 12)).2 ∧ vc_okA I1 L1 12) ∧ vc_fr vc_wk I L I1 L1 ∧ ∀ f, I1 12 f = I 12 f := ⟨_, rfl⟩
  suffices h : jv_Wp 45 0 [(0, .ref 10), (1, .int (3 : Int32)), (2, .int (vl_I p))] [] (jv_H K I L R) n sl Q by
    rw [hQ] at h
    obtain ⟨X, h, I1, L1, e, h'⟩ := h
    subst e
    exact ⟨I1, L1, h, h'⟩
  have alt := vx_allowed_lt (M := M) (A := vc_A I L 12) (c := 3)
  refine jv_Wp.lift (fun _ Kz => jv_Ev.steps jv_i45 2 (pc' := 2) (l' := [(0, .ref 10), (1, .int (3 : Int32)), (2, .int (vl_I p))]) (st' := [.int (3 : Int32), .ref 10]) rfl Kz) ?_
  obtain ⟨I16, L16, H16, ei16, el16⟩ := vc_allowed3 (I := I) (L := L) (R := R) (n := n) (sl := sl) (M := M) hC hM hkn oa tA gA m6
  rw [ei16, el16] at H16
  refine jv_Wp.lift (fun _ Kz => jv_Ev.c jv_i45 (pc' := 5) (S' := [.int (vl_I (vx_allowed M (vc_A I L 12) 3))]) jv_i46 [.ref 10, .int (3 : Int32)] rfl rfl rfl rfl (jv_cal rfl (jv_H_at hC.k) rfl rfl) rfl H16 rfl rfl Kz) ?_
  refine jv_Wp.lift (fun _ Kz => jv_Ev.steps jv_i45 2 (pc' := 7) (l' := [(3, .int (vl_I (vx_allowed M (vc_A I L 12) 3))), (0, .ref 10), (1, .int (3 : Int32)), (2, .int (vl_I p))]) (st' := [.int (vl_I (vx_allowed M (vc_A I L 12) 3))]) rfl Kz) ?_
  refine jv_Wp.cnd jv_i45 (pt := 12) (pe := 10) (p := ((vl_I (vx_allowed M (vc_A I L 12) 3)) = 0)) (q := ((vl_I (vx_allowed M (vc_A I L 12) 3)) = 0)) rfl jv_bi_eq rfl rfl Iff.rfl (fun h1 => ?_) (fun h1 => ?_)
  · refine jv_Wp.lift (fun _ Kz => jv_Ev.steps jv_i45 1 (pc' := 13) (l' := [(3, .int (vl_I (vx_allowed M (vc_A I L 12) 3))), (0, .ref 10), (1, .int (3 : Int32)), (2, .int (vl_I p))]) (st' := [.ref 10]) rfl Kz) ?_
    refine jv_Wp.lift (fun _ Kz => jv_Ev.m jv_i45 (pc' := 16) (st' := [.ref 12]) (G' := (jv_H K I L R)) rfl rfl (jv_m_getR hC.k rfl rfl hC.rnow) Kz) ?_
    refine jv_Wp.lift (fun _ Kz => jv_Ev.m jv_i45 (pc' := 19) (st' := [.ref (12 + 1)]) (G' := (jv_H K I L R)) rfl rfl (jv_m_getR hC.now.k rfl rfl hC.now.r) Kz) ?_
    refine jv_Wp.lift (fun _ Kz => jv_Ev.steps jv_i45 1 (pc' := 20) (l' := [(3, .int (vl_I (vx_allowed M (vc_A I L 12) 3))), (0, .ref 10), (1, .int (3 : Int32)), (2, .int (vl_I p))]) (st' := [.int (1 : Int32), .ref (12 + 1)]) rfl Kz) ?_
    refine jv_Wp.lift (fun _ Kz => jv_Ev.m jv_i45 (pc' := 21) (st' := [.ref (12 + 2 + 1)]) (G' := (jv_H K I L R)) rfl rfl (jv_m_aaldR hC.now.kt rfl (by decide) rfl (hC.now.rt 1 (by decide))) Kz) ?_
    refine jv_Wp.lift (fun _ Kz => jv_Ev.m jv_i45 (pc' := 24) (st' := [.int (I (12 + 2 + 1) 7)]) (G' := (jv_H K I L R)) rfl rfl (jv_m_getI (hC.now.kk 1 (by decide)) rfl rfl rfl) Kz) ?_
    refine jv_Wp.lift (fun _ Kz => jv_Ev.steps jv_i45 3 (pc' := 28) (l' := [(4, .int (I (12 + 2 + 1) 7)), (3, .int (vl_I (vx_allowed M (vc_A I L 12) 3))), (0, .ref 10), (1, .int (3 : Int32)), (2, .int (vl_I p))]) (st' := [.int (1 : Int32), .int (3 : Int32)]) rfl Kz) ?_
    refine jv_Wp.lift (fun _ Kz => jv_Ev.br jv_i45 (pc' := 39) (st' := []) rfl (by rfl) Kz) ?_
    refine jv_Wp.lift (fun _ Kz => jv_Ev.steps jv_i45 2 (pc' := 42) (l' := [(4, .int (I (12 + 2 + 1) 7)), (3, .int (vl_I (vx_allowed M (vc_A I L 12) 3))), (0, .ref 10), (1, .int (3 : Int32)), (2, .int (vl_I p))]) (st' := [.int (6 : Int32), .int (3 : Int32)]) rfl Kz) ?_
    refine jv_Wp.lift (fun _ Kz => jv_Ev.br jv_i45 (pc' := 52) (st' := []) rfl (by rfl) Kz) ?_
    refine jv_Wp.lift (fun _ Kz => jv_Ev.steps jv_i45 4 (pc' := 58) (l' := [(5, .int (1 : Int32)), (4, .int (I (12 + 2 + 1) 7)), (3, .int (vl_I (vx_allowed M (vc_A I L 12) 3))), (0, .ref 10), (1, .int (3 : Int32)), (2, .int (vl_I p))]) (st' := [.int (5 : Int32), .int (1 : Int32)]) rfl Kz) ?_
    refine jv_Wp.lift (fun _ Kz => jv_Ev.br jv_i45 (pc' := 61) (st' := []) rfl (by rfl) Kz) ?_
    refine jv_Wp.lift (fun _ Kz => jv_Ev.steps jv_i45 1 (pc' := 62) (l' := [(5, .int (1 : Int32)), (4, .int (I (12 + 2 + 1) 7)), (3, .int (vl_I (vx_allowed M (vc_A I L 12) 3))), (0, .ref 10), (1, .int (3 : Int32)), (2, .int (vl_I p))]) (st' := [.ref 10]) rfl Kz) ?_
    refine jv_Wp.lift (fun _ Kz => jv_Ev.m jv_i45 (pc' := 65) (st' := [.ref 12]) (G' := (jv_H K I L R)) rfl rfl (jv_m_getR hC.k rfl rfl hC.rnow) Kz) ?_
    refine jv_Wp.lift (fun _ Kz => jv_Ev.m jv_i45 (pc' := 68) (st' := [.ref (12 + 1)]) (G' := (jv_H K I L R)) rfl rfl (jv_m_getR hC.now.k rfl rfl hC.now.r) Kz) ?_
    refine jv_Wp.lift (fun _ Kz => jv_Ev.steps jv_i45 1 (pc' := 70) (l' := [(5, .int (1 : Int32)), (4, .int (I (12 + 2 + 1) 7)), (3, .int (vl_I (vx_allowed M (vc_A I L 12) 3))), (0, .ref 10), (1, .int (3 : Int32)), (2, .int (vl_I p))]) (st' := [.int (1 : Int32), .ref (12 + 1)]) rfl Kz) ?_
    refine jv_Wp.lift (fun _ Kz => jv_Ev.m jv_i45 (pc' := 71) (st' := [.ref (12 + 2 + 1)]) (G' := (jv_H K I L R)) rfl rfl (jv_m_aaldR hC.now.kt rfl (by decide) rfl (hC.now.rt 1 (by decide))) Kz) ?_
    obtain ⟨I17, L17, H17, T17, O17, F17⟩ := vc_none (I := I) (L := L) (R := R) (n := n) (sl := sl) (hC.now.kk 1 (by decide))
    refine jv_Wp.lift (fun _ Kz => jv_Ev.c jv_i45 (pc' := 74) (S' := []) (G1 := (jv_H K I17 L17 R)) jv_i141 [.ref (12 + 2 + 1)] rfl rfl rfl rfl (jv_cal rfl (jv_H_at (hC.now.kk 1 (by decide))) rfl rfl) rfl H17 rfl rfl Kz) ?_
    refine jv_Wp.lift (fun _ Kz => jv_Ev.steps jv_i45 4 (pc' := 58) (l' := [(5, .int (2 : Int32)), (4, .int (I (12 + 2 + 1) 7)), (3, .int (vl_I (vx_allowed M (vc_A I L 12) 3))), (0, .ref 10), (1, .int (3 : Int32)), (2, .int (vl_I p))]) (st' := [.int (5 : Int32), .int (2 : Int32)]) rfl Kz) ?_
    refine jv_Wp.lift (fun _ Kz => jv_Ev.br jv_i45 (pc' := 61) (st' := []) rfl (by rfl) Kz) ?_
    refine jv_Wp.lift (fun _ Kz => jv_Ev.steps jv_i45 1 (pc' := 62) (l' := [(5, .int (2 : Int32)), (4, .int (I (12 + 2 + 1) 7)), (3, .int (vl_I (vx_allowed M (vc_A I L 12) 3))), (0, .ref 10), (1, .int (3 : Int32)), (2, .int (vl_I p))]) (st' := [.ref 10]) rfl Kz) ?_
    refine jv_Wp.lift (fun _ Kz => jv_Ev.m jv_i45 (pc' := 65) (st' := [.ref 12]) (G' := (jv_H K I17 L17 R)) rfl rfl (jv_m_getR hC.k rfl rfl hC.rnow) Kz) ?_
    refine jv_Wp.lift (fun _ Kz => jv_Ev.m jv_i45 (pc' := 68) (st' := [.ref (12 + 1)]) (G' := (jv_H K I17 L17 R)) rfl rfl (jv_m_getR hC.now.k rfl rfl hC.now.r) Kz) ?_
    refine jv_Wp.lift (fun _ Kz => jv_Ev.steps jv_i45 1 (pc' := 70) (l' := [(5, .int (2 : Int32)), (4, .int (I (12 + 2 + 1) 7)), (3, .int (vl_I (vx_allowed M (vc_A I L 12) 3))), (0, .ref 10), (1, .int (3 : Int32)), (2, .int (vl_I p))]) (st' := [.int (2 : Int32), .ref (12 + 1)]) rfl Kz) ?_
    refine jv_Wp.lift (fun _ Kz => jv_Ev.m jv_i45 (pc' := 71) (st' := [.ref (12 + 2 + 2)]) (G' := (jv_H K I17 L17 R)) rfl rfl (jv_m_aaldR hC.now.kt rfl (by decide) rfl (hC.now.rt 2 (by decide))) Kz) ?_
    obtain ⟨I18, L18, H18, T18, O18, F18⟩ := vc_none (I := I17) (L := L17) (R := R) (n := n) (sl := sl) (hC.now.kk 2 (by decide))
    refine jv_Wp.lift (fun _ Kz => jv_Ev.c jv_i45 (pc' := 74) (S' := []) (G1 := (jv_H K I18 L18 R)) jv_i141 [.ref (12 + 2 + 2)] rfl rfl rfl rfl (jv_cal rfl (jv_H_at (hC.now.kk 2 (by decide))) rfl rfl) rfl H18 rfl rfl Kz) ?_
    refine jv_Wp.lift (fun _ Kz => jv_Ev.steps jv_i45 4 (pc' := 58) (l' := [(5, .int (3 : Int32)), (4, .int (I (12 + 2 + 1) 7)), (3, .int (vl_I (vx_allowed M (vc_A I L 12) 3))), (0, .ref 10), (1, .int (3 : Int32)), (2, .int (vl_I p))]) (st' := [.int (5 : Int32), .int (3 : Int32)]) rfl Kz) ?_
    refine jv_Wp.lift (fun _ Kz => jv_Ev.br jv_i45 (pc' := 61) (st' := []) rfl (by rfl) Kz) ?_
    refine jv_Wp.lift (fun _ Kz => jv_Ev.steps jv_i45 1 (pc' := 62) (l' := [(5, .int (3 : Int32)), (4, .int (I (12 + 2 + 1) 7)), (3, .int (vl_I (vx_allowed M (vc_A I L 12) 3))), (0, .ref 10), (1, .int (3 : Int32)), (2, .int (vl_I p))]) (st' := [.ref 10]) rfl Kz) ?_
    refine jv_Wp.lift (fun _ Kz => jv_Ev.m jv_i45 (pc' := 65) (st' := [.ref 12]) (G' := (jv_H K I18 L18 R)) rfl rfl (jv_m_getR hC.k rfl rfl hC.rnow) Kz) ?_
    refine jv_Wp.lift (fun _ Kz => jv_Ev.m jv_i45 (pc' := 68) (st' := [.ref (12 + 1)]) (G' := (jv_H K I18 L18 R)) rfl rfl (jv_m_getR hC.now.k rfl rfl hC.now.r) Kz) ?_
    refine jv_Wp.lift (fun _ Kz => jv_Ev.steps jv_i45 1 (pc' := 70) (l' := [(5, .int (3 : Int32)), (4, .int (I (12 + 2 + 1) 7)), (3, .int (vl_I (vx_allowed M (vc_A I L 12) 3))), (0, .ref 10), (1, .int (3 : Int32)), (2, .int (vl_I p))]) (st' := [.int (3 : Int32), .ref (12 + 1)]) rfl Kz) ?_
    refine jv_Wp.lift (fun _ Kz => jv_Ev.m jv_i45 (pc' := 71) (st' := [.ref (12 + 2 + 3)]) (G' := (jv_H K I18 L18 R)) rfl rfl (jv_m_aaldR hC.now.kt rfl (by decide) rfl (hC.now.rt 3 (by decide))) Kz) ?_
    obtain ⟨I19, L19, H19, T19, O19, F19⟩ := vc_none (I := I18) (L := L18) (R := R) (n := n) (sl := sl) (hC.now.kk 3 (by decide))
    refine jv_Wp.lift (fun _ Kz => jv_Ev.c jv_i45 (pc' := 74) (S' := []) (G1 := (jv_H K I19 L19 R)) jv_i141 [.ref (12 + 2 + 3)] rfl rfl rfl rfl (jv_cal rfl (jv_H_at (hC.now.kk 3 (by decide))) rfl rfl) rfl H19 rfl rfl Kz) ?_
    refine jv_Wp.lift (fun _ Kz => jv_Ev.steps jv_i45 4 (pc' := 58) (l' := [(5, .int (4 : Int32)), (4, .int (I (12 + 2 + 1) 7)), (3, .int (vl_I (vx_allowed M (vc_A I L 12) 3))), (0, .ref 10), (1, .int (3 : Int32)), (2, .int (vl_I p))]) (st' := [.int (5 : Int32), .int (4 : Int32)]) rfl Kz) ?_
    refine jv_Wp.lift (fun _ Kz => jv_Ev.br jv_i45 (pc' := 61) (st' := []) rfl (by rfl) Kz) ?_
    refine jv_Wp.lift (fun _ Kz => jv_Ev.steps jv_i45 1 (pc' := 62) (l' := [(5, .int (4 : Int32)), (4, .int (I (12 + 2 + 1) 7)), (3, .int (vl_I (vx_allowed M (vc_A I L 12) 3))), (0, .ref 10), (1, .int (3 : Int32)), (2, .int (vl_I p))]) (st' := [.ref 10]) rfl Kz) ?_
    refine jv_Wp.lift (fun _ Kz => jv_Ev.m jv_i45 (pc' := 65) (st' := [.ref 12]) (G' := (jv_H K I19 L19 R)) rfl rfl (jv_m_getR hC.k rfl rfl hC.rnow) Kz) ?_
    refine jv_Wp.lift (fun _ Kz => jv_Ev.m jv_i45 (pc' := 68) (st' := [.ref (12 + 1)]) (G' := (jv_H K I19 L19 R)) rfl rfl (jv_m_getR hC.now.k rfl rfl hC.now.r) Kz) ?_
    refine jv_Wp.lift (fun _ Kz => jv_Ev.steps jv_i45 1 (pc' := 70) (l' := [(5, .int (4 : Int32)), (4, .int (I (12 + 2 + 1) 7)), (3, .int (vl_I (vx_allowed M (vc_A I L 12) 3))), (0, .ref 10), (1, .int (3 : Int32)), (2, .int (vl_I p))]) (st' := [.int (4 : Int32), .ref (12 + 1)]) rfl Kz) ?_
    refine jv_Wp.lift (fun _ Kz => jv_Ev.m jv_i45 (pc' := 71) (st' := [.ref (12 + 2 + 4)]) (G' := (jv_H K I19 L19 R)) rfl rfl (jv_m_aaldR hC.now.kt rfl (by decide) rfl (hC.now.rt 4 (by decide))) Kz) ?_
    obtain ⟨I20, L20, H20, T20, O20, F20⟩ := vc_none (I := I19) (L := L19) (R := R) (n := n) (sl := sl) (hC.now.kk 4 (by decide))
    refine jv_Wp.lift (fun _ Kz => jv_Ev.c jv_i45 (pc' := 74) (S' := []) (G1 := (jv_H K I20 L20 R)) jv_i141 [.ref (12 + 2 + 4)] rfl rfl rfl rfl (jv_cal rfl (jv_H_at (hC.now.kk 4 (by decide))) rfl rfl) rfl H20 rfl rfl Kz) ?_
    refine jv_Wp.lift (fun _ Kz => jv_Ev.steps jv_i45 4 (pc' := 58) (l' := [(5, .int (5 : Int32)), (4, .int (I (12 + 2 + 1) 7)), (3, .int (vl_I (vx_allowed M (vc_A I L 12) 3))), (0, .ref 10), (1, .int (3 : Int32)), (2, .int (vl_I p))]) (st' := [.int (5 : Int32), .int (5 : Int32)]) rfl Kz) ?_
    refine jv_Wp.lift (fun _ Kz => jv_Ev.br jv_i45 (pc' := 61) (st' := []) rfl (by rfl) Kz) ?_
    refine jv_Wp.lift (fun _ Kz => jv_Ev.steps jv_i45 1 (pc' := 62) (l' := [(5, .int (5 : Int32)), (4, .int (I (12 + 2 + 1) 7)), (3, .int (vl_I (vx_allowed M (vc_A I L 12) 3))), (0, .ref 10), (1, .int (3 : Int32)), (2, .int (vl_I p))]) (st' := [.ref 10]) rfl Kz) ?_
    refine jv_Wp.lift (fun _ Kz => jv_Ev.m jv_i45 (pc' := 65) (st' := [.ref 12]) (G' := (jv_H K I20 L20 R)) rfl rfl (jv_m_getR hC.k rfl rfl hC.rnow) Kz) ?_
    refine jv_Wp.lift (fun _ Kz => jv_Ev.m jv_i45 (pc' := 68) (st' := [.ref (12 + 1)]) (G' := (jv_H K I20 L20 R)) rfl rfl (jv_m_getR hC.now.k rfl rfl hC.now.r) Kz) ?_
    refine jv_Wp.lift (fun _ Kz => jv_Ev.steps jv_i45 1 (pc' := 70) (l' := [(5, .int (5 : Int32)), (4, .int (I (12 + 2 + 1) 7)), (3, .int (vl_I (vx_allowed M (vc_A I L 12) 3))), (0, .ref 10), (1, .int (3 : Int32)), (2, .int (vl_I p))]) (st' := [.int (5 : Int32), .ref (12 + 1)]) rfl Kz) ?_
    refine jv_Wp.lift (fun _ Kz => jv_Ev.m jv_i45 (pc' := 71) (st' := [.ref (12 + 2 + 5)]) (G' := (jv_H K I20 L20 R)) rfl rfl (jv_m_aaldR hC.now.kt rfl (by decide) rfl (hC.now.rt 5 (by decide))) Kz) ?_
    obtain ⟨I21, L21, H21, T21, O21, F21⟩ := vc_none (I := I20) (L := L20) (R := R) (n := n) (sl := sl) (hC.now.kk 5 (by decide))
    refine jv_Wp.lift (fun _ Kz => jv_Ev.c jv_i45 (pc' := 74) (S' := []) (G1 := (jv_H K I21 L21 R)) jv_i141 [.ref (12 + 2 + 5)] rfl rfl rfl rfl (jv_cal rfl (jv_H_at (hC.now.kk 5 (by decide))) rfl rfl) rfl H21 rfl rfl Kz) ?_
    refine jv_Wp.lift (fun _ Kz => jv_Ev.steps jv_i45 4 (pc' := 58) (l' := [(5, .int (6 : Int32)), (4, .int (I (12 + 2 + 1) 7)), (3, .int (vl_I (vx_allowed M (vc_A I L 12) 3))), (0, .ref 10), (1, .int (3 : Int32)), (2, .int (vl_I p))]) (st' := [.int (5 : Int32), .int (6 : Int32)]) rfl Kz) ?_
    refine jv_Wp.lift (fun _ Kz => jv_Ev.br jv_i45 (pc' := 80) (st' := []) rfl (by rfl) Kz) ?_
    refine jv_Wp.lift (fun _ Kz => jv_Ev.steps jv_i45 2 (pc' := 82) (l' := [(5, .int (6 : Int32)), (4, .int (I (12 + 2 + 1) 7)), (3, .int (vl_I (vx_allowed M (vc_A I L 12) 3))), (0, .ref 10), (1, .int (3 : Int32)), (2, .int (vl_I p))]) (st' := [.int (1 : Int32), .int (3 : Int32)]) rfl Kz) ?_
    refine jv_Wp.lift (fun _ Kz => jv_Ev.br jv_i45 (pc' := 106) (st' := []) rfl (by rfl) Kz) ?_
    refine jv_Wp.lift (fun _ Kz => jv_Ev.steps jv_i45 1 (pc' := 107) (l' := [(5, .int (6 : Int32)), (4, .int (I (12 + 2 + 1) 7)), (3, .int (vl_I (vx_allowed M (vc_A I L 12) 3))), (0, .ref 10), (1, .int (3 : Int32)), (2, .int (vl_I p))]) (st' := [.ref 10]) rfl Kz) ?_
    refine jv_Wp.lift (fun _ Kz => jv_Ev.m jv_i45 (pc' := 110) (st' := [.ref 169]) (G' := (jv_H K I21 L21 R)) rfl rfl (jv_m_getR hC.k rfl rfl hC.rout) Kz) ?_
    refine jv_Wp.lift (fun _ Kz => jv_Ev.c jv_i45 (pc' := 113) (S' := []) (G1 := (jv_H K I21 (vl_set L21 169 vb_any) R)) jv_i149 [.ref 169] rfl rfl rfl rfl (jv_cal rfl (jv_H_at hC.k169) rfl rfl) rfl (vl_any (Or.inl hC.k169)) rfl rfl Kz) ?_
    refine jv_Wp.lift (fun _ Kz => jv_Ev.steps jv_i45 1 (pc' := 114) (l' := [(5, .int (6 : Int32)), (4, .int (I (12 + 2 + 1) 7)), (3, .int (vl_I (vx_allowed M (vc_A I L 12) 3))), (0, .ref 10), (1, .int (3 : Int32)), (2, .int (vl_I p))]) (st' := [.ref 10]) rfl Kz) ?_
    refine jv_Wp.lift (fun _ Kz => jv_Ev.m jv_i45 (pc' := 117) (st' := [.ref 12]) (G' := (jv_H K I21 (vl_set L21 169 vb_any) R)) rfl rfl (jv_m_getR hC.k rfl rfl hC.rnow) Kz) ?_
    refine jv_Wp.lift (fun _ Kz => jv_Ev.m jv_i45 (pc' := 120) (st' := [.ref (12 + 1)]) (G' := (jv_H K I21 (vl_set L21 169 vb_any) R)) rfl rfl (jv_m_getR hC.now.k rfl rfl hC.now.r) Kz) ?_
    refine jv_Wp.lift (fun _ Kz => jv_Ev.steps jv_i45 1 (pc' := 121) (l' := [(5, .int (6 : Int32)), (4, .int (I (12 + 2 + 1) 7)), (3, .int (vl_I (vx_allowed M (vc_A I L 12) 3))), (0, .ref 10), (1, .int (3 : Int32)), (2, .int (vl_I p))]) (st' := [.int (0 : Int32), .ref (12 + 1)]) rfl Kz) ?_
    refine jv_Wp.lift (fun _ Kz => jv_Ev.m jv_i45 (pc' := 122) (st' := [.ref (12 + 2 + 0)]) (G' := (jv_H K I21 (vl_set L21 169 vb_any) R)) rfl rfl (jv_m_aaldR hC.now.kt rfl (by decide) rfl (hC.now.rt 0 (by decide))) Kz) ?_
    refine jv_Wp.lift (fun _ Kz => jv_Ev.steps jv_i45 1 (pc' := 123) (l' := [(5, .int (6 : Int32)), (4, .int (I (12 + 2 + 1) 7)), (3, .int (vl_I (vx_allowed M (vc_A I L 12) 3))), (0, .ref 10), (1, .int (3 : Int32)), (2, .int (vl_I p))]) (st' := [.ref 10, .ref (12 + 2 + 0)]) rfl Kz) ?_
    refine jv_Wp.lift (fun _ Kz => jv_Ev.m jv_i45 (pc' := 126) (st' := [.ref 169, .ref (12 + 2 + 0)]) (G' := (jv_H K I21 (vl_set L21 169 vb_any) R)) rfl rfl (jv_m_getR hC.k rfl rfl hC.rout) Kz) ?_
    have f1 : (vx_allowed M (vc_A I L 12) 3) = 0 := (vl_I_inj (by omega) (by decide)).mp h1
    obtain ⟨I22, L22, H22, T22, O22, F22⟩ := vc_num (I := I21) (L := (vl_set L21 169 vb_any)) (R := R) (n := n) (sl := sl) (hC.now.kk 0 (by decide)) (Or.inl hC.k169)
    refine jv_Wp.lift (fun _ Kz => jv_Ev.c jv_i45 (pc' := 129) (S' := []) (G1 := (jv_H K I22 L22 R)) jv_i142 [.ref (12 + 2 + 0), .ref 169] rfl rfl rfl rfl (jv_cal rfl (jv_H_at (hC.now.kk 0 (by decide))) rfl rfl) rfl H22 rfl rfl Kz) ?_
    refine jv_Wp.lift (fun _ Kz => jv_Ev.steps jv_i45 1 (pc' := 130) (l' := [(5, .int (6 : Int32)), (4, .int (I (12 + 2 + 1) 7)), (3, .int (vl_I (vx_allowed M (vc_A I L 12) 3))), (0, .ref 10), (1, .int (3 : Int32)), (2, .int (vl_I p))]) (st' := [.int (0 : Int32)]) rfl Kz) ?_
    refine jv_Wp.of (jv_Ev.ret jv_i45 rfl rfl) ?_
    rw [hQ]
    have al : (vx_allowed M (vc_A I L 12) 3) = 0 := (vl_I_inj (Nat.lt_trans vx_allowed_lt (by decide)) (by decide)).mp h1
    obtain ⟨c1, c2, c3⟩ := vc_clear5 T17 O17 F17 T18 O18 F18 T19 O19 F19 T20 O20 F20 T21 O21 F21 oa
    have TT : vc_T I22 L22 (12 + 2 + 0) = vt_num vb_any := by rw [T22, vl_set_S]
    have FA : vc_fr (fun p => p = 12 + 2 + 0 ∨ (166 ≤ p ∧ p ≤ 170)) I21 L21 I22 L22 := vc_fr_trans (fun p hp => ⟨fun _ => rfl, fun f => vl_set_out (fun z => hp (Or.inr (by rw [z.1]; exact ⟨by decide, by decide⟩)))⟩) (vc_fr_mono F22 (fun p z => Or.inl z))
    have U := vc_up (r := 0) (by decide) TT O22 FA (fun n hn e q => by omega) (by omega) c2
    rw [c1] at U
    have e := vx_clp (p := p) al (by decide) (by decide)
    have FR : vc_fr vc_wk I L I22 L22 := vc_fr_trans (vc_fr_mono c3 (fun p z => Or.inl (by unfold vc_in; omega))) (vc_fr_mono FA (fun p z => z.imp (fun z => (by unfold vc_in; omega)) id))
    exact ⟨_, _, by rw [e]; rfl, fun _ => by rw [e]; exact U, FR, fun f => ((FA 12 (by omega)).1 f).trans ((c3 12 (by omega)).1 f)⟩
  · refine jv_Wp.lift (fun _ Kz => jv_Ev.steps jv_i45 1 (pc' := 11) (l' := [(3, .int (vl_I (vx_allowed M (vc_A I L 12) 3))), (0, .ref 10), (1, .int (3 : Int32)), (2, .int (vl_I p))]) (st' := [.int (vl_I (vx_allowed M (vc_A I L 12) 3))]) rfl Kz) ?_
    refine jv_Wp.of (jv_Ev.ret jv_i45 rfl rfl) ?_
    rw [hQ]
    have na : (vx_allowed M (vc_A I L 12) 3) ≠ 0 := fun z => h1 (by rw [z]; rfl)
    have e := vx_cl0 (p := p) na
    exact ⟨_, _, by rw [e], fun z => by rw [e] at z; exact absurd z na, vc_fr_refl _ _, fun _ => rfl⟩
theorem vc_call4 {K : Nat → Option (Nat × Nat)} {I : Nat → Nat → Int32} {L : Nat → Nat → Int64} {R : Nat → Nat → Value} {M : vf_M} (p : Nat) (hC : vc_C K R) (hM : vc_M K I R M) (hp2 : p < 2147483648) (hkn : (L 12 1).toInt ≤ 1073000000) (oa : vc_okA I L 12) (tA : ∀ n, n < 75 → vt_ok (vc_T I L (12 + 2 + n))) (gA : ∀ n, n < 75 → vc_g I L (12 + 2 + n)) (m6 : I (12 + 2 + 1) 6 = 6 → 0 ≤ (I (12 + 2 + 1) 7).toInt) {n sl : Nat} : ∃ I1 L1, jv_Ms 45 [.ref 10, .int (4 : Int32), .int (vl_I p)] (jv_H K I L R) n sl (some (.int (vl_I (vx_call M 4 p (vc_A I L 12)).1)), jv_H K I1 L1 R, n, sl) ∧ ((vx_call M 4 p (vc_A I L 12)).1 = 0 → vc_A I1 L1 12 = (vx_call M 4 p (vc_A I L 12)).2 ∧ vc_okA I1 L1 12) ∧ vc_fr vc_wk I L I1 L1 ∧ ∀ f, I1 12 f = I 12 f := by
  obtain ⟨Q, hQ⟩ : ∃ Q : jv_R → Prop, Q = fun X => ∃ I1 L1, X = (some (.int (vl_I (vx_call M 4 p (vc_A I L 12)).1)), jv_H K I1 L1 R, n, sl) ∧ ((vx_call M 4 p (vc_A I L 12)).1 = 0 → vc_A I1 L1 12 = (vx_call M 4 p (vc_A I L 12)).2 ∧ vc_okA I1 L1 12) ∧ vc_fr vc_wk I L I1 L1 ∧ ∀ f, I1 12 f = I 12 f := ⟨_, rfl⟩
  suffices h : jv_Wp 45 0 [(0, .ref 10), (1, .int (4 : Int32)), (2, .int (vl_I p))] [] (jv_H K I L R) n sl Q by
    rw [hQ] at h
    obtain ⟨X, h, I1, L1, e, h'⟩ := h
    subst e
    exact ⟨I1, L1, h, h'⟩
  have alt := vx_allowed_lt (M := M) (A := vc_A I L 12) (c := 4)
  refine jv_Wp.lift (fun _ Kz => jv_Ev.steps jv_i45 2 (pc' := 2) (l' := [(0, .ref 10), (1, .int (4 : Int32)), (2, .int (vl_I p))]) (st' := [.int (4 : Int32), .ref 10]) rfl Kz) ?_
  obtain ⟨I23, L23, H23, ei23, el23⟩ := vc_allowed4 (I := I) (L := L) (R := R) (n := n) (sl := sl) (M := M) hC hM hkn oa tA gA m6
  rw [ei23, el23] at H23
  refine jv_Wp.lift (fun _ Kz => jv_Ev.c jv_i45 (pc' := 5) (S' := [.int (vl_I (vx_allowed M (vc_A I L 12) 4))]) jv_i46 [.ref 10, .int (4 : Int32)] rfl rfl rfl rfl (jv_cal rfl (jv_H_at hC.k) rfl rfl) rfl H23 rfl rfl Kz) ?_
  refine jv_Wp.lift (fun _ Kz => jv_Ev.steps jv_i45 2 (pc' := 7) (l' := [(3, .int (vl_I (vx_allowed M (vc_A I L 12) 4))), (0, .ref 10), (1, .int (4 : Int32)), (2, .int (vl_I p))]) (st' := [.int (vl_I (vx_allowed M (vc_A I L 12) 4))]) rfl Kz) ?_
  refine jv_Wp.cnd jv_i45 (pt := 12) (pe := 10) (p := ((vl_I (vx_allowed M (vc_A I L 12) 4)) = 0)) (q := ((vl_I (vx_allowed M (vc_A I L 12) 4)) = 0)) rfl jv_bi_eq rfl rfl Iff.rfl (fun h1 => ?_) (fun h1 => ?_)
  · refine jv_Wp.lift (fun _ Kz => jv_Ev.steps jv_i45 1 (pc' := 13) (l' := [(3, .int (vl_I (vx_allowed M (vc_A I L 12) 4))), (0, .ref 10), (1, .int (4 : Int32)), (2, .int (vl_I p))]) (st' := [.ref 10]) rfl Kz) ?_
    refine jv_Wp.lift (fun _ Kz => jv_Ev.m jv_i45 (pc' := 16) (st' := [.ref 12]) (G' := (jv_H K I L R)) rfl rfl (jv_m_getR hC.k rfl rfl hC.rnow) Kz) ?_
    refine jv_Wp.lift (fun _ Kz => jv_Ev.m jv_i45 (pc' := 19) (st' := [.ref (12 + 1)]) (G' := (jv_H K I L R)) rfl rfl (jv_m_getR hC.now.k rfl rfl hC.now.r) Kz) ?_
    refine jv_Wp.lift (fun _ Kz => jv_Ev.steps jv_i45 1 (pc' := 20) (l' := [(3, .int (vl_I (vx_allowed M (vc_A I L 12) 4))), (0, .ref 10), (1, .int (4 : Int32)), (2, .int (vl_I p))]) (st' := [.int (1 : Int32), .ref (12 + 1)]) rfl Kz) ?_
    refine jv_Wp.lift (fun _ Kz => jv_Ev.m jv_i45 (pc' := 21) (st' := [.ref (12 + 2 + 1)]) (G' := (jv_H K I L R)) rfl rfl (jv_m_aaldR hC.now.kt rfl (by decide) rfl (hC.now.rt 1 (by decide))) Kz) ?_
    refine jv_Wp.lift (fun _ Kz => jv_Ev.m jv_i45 (pc' := 24) (st' := [.int (I (12 + 2 + 1) 7)]) (G' := (jv_H K I L R)) rfl rfl (jv_m_getI (hC.now.kk 1 (by decide)) rfl rfl rfl) Kz) ?_
    refine jv_Wp.lift (fun _ Kz => jv_Ev.steps jv_i45 3 (pc' := 28) (l' := [(4, .int (I (12 + 2 + 1) 7)), (3, .int (vl_I (vx_allowed M (vc_A I L 12) 4))), (0, .ref 10), (1, .int (4 : Int32)), (2, .int (vl_I p))]) (st' := [.int (1 : Int32), .int (4 : Int32)]) rfl Kz) ?_
    refine jv_Wp.lift (fun _ Kz => jv_Ev.br jv_i45 (pc' := 39) (st' := []) rfl (by rfl) Kz) ?_
    refine jv_Wp.lift (fun _ Kz => jv_Ev.steps jv_i45 2 (pc' := 42) (l' := [(4, .int (I (12 + 2 + 1) 7)), (3, .int (vl_I (vx_allowed M (vc_A I L 12) 4))), (0, .ref 10), (1, .int (4 : Int32)), (2, .int (vl_I p))]) (st' := [.int (6 : Int32), .int (4 : Int32)]) rfl Kz) ?_
    refine jv_Wp.lift (fun _ Kz => jv_Ev.br jv_i45 (pc' := 52) (st' := []) rfl (by rfl) Kz) ?_
    refine jv_Wp.lift (fun _ Kz => jv_Ev.steps jv_i45 4 (pc' := 58) (l' := [(5, .int (1 : Int32)), (4, .int (I (12 + 2 + 1) 7)), (3, .int (vl_I (vx_allowed M (vc_A I L 12) 4))), (0, .ref 10), (1, .int (4 : Int32)), (2, .int (vl_I p))]) (st' := [.int (5 : Int32), .int (1 : Int32)]) rfl Kz) ?_
    refine jv_Wp.lift (fun _ Kz => jv_Ev.br jv_i45 (pc' := 61) (st' := []) rfl (by rfl) Kz) ?_
    refine jv_Wp.lift (fun _ Kz => jv_Ev.steps jv_i45 1 (pc' := 62) (l' := [(5, .int (1 : Int32)), (4, .int (I (12 + 2 + 1) 7)), (3, .int (vl_I (vx_allowed M (vc_A I L 12) 4))), (0, .ref 10), (1, .int (4 : Int32)), (2, .int (vl_I p))]) (st' := [.ref 10]) rfl Kz) ?_
    refine jv_Wp.lift (fun _ Kz => jv_Ev.m jv_i45 (pc' := 65) (st' := [.ref 12]) (G' := (jv_H K I L R)) rfl rfl (jv_m_getR hC.k rfl rfl hC.rnow) Kz) ?_
    refine jv_Wp.lift (fun _ Kz => jv_Ev.m jv_i45 (pc' := 68) (st' := [.ref (12 + 1)]) (G' := (jv_H K I L R)) rfl rfl (jv_m_getR hC.now.k rfl rfl hC.now.r) Kz) ?_
    refine jv_Wp.lift (fun _ Kz => jv_Ev.steps jv_i45 1 (pc' := 70) (l' := [(5, .int (1 : Int32)), (4, .int (I (12 + 2 + 1) 7)), (3, .int (vl_I (vx_allowed M (vc_A I L 12) 4))), (0, .ref 10), (1, .int (4 : Int32)), (2, .int (vl_I p))]) (st' := [.int (1 : Int32), .ref (12 + 1)]) rfl Kz) ?_
    refine jv_Wp.lift (fun _ Kz => jv_Ev.m jv_i45 (pc' := 71) (st' := [.ref (12 + 2 + 1)]) (G' := (jv_H K I L R)) rfl rfl (jv_m_aaldR hC.now.kt rfl (by decide) rfl (hC.now.rt 1 (by decide))) Kz) ?_
    obtain ⟨I24, L24, H24, T24, O24, F24⟩ := vc_none (I := I) (L := L) (R := R) (n := n) (sl := sl) (hC.now.kk 1 (by decide))
    refine jv_Wp.lift (fun _ Kz => jv_Ev.c jv_i45 (pc' := 74) (S' := []) (G1 := (jv_H K I24 L24 R)) jv_i141 [.ref (12 + 2 + 1)] rfl rfl rfl rfl (jv_cal rfl (jv_H_at (hC.now.kk 1 (by decide))) rfl rfl) rfl H24 rfl rfl Kz) ?_
    refine jv_Wp.lift (fun _ Kz => jv_Ev.steps jv_i45 4 (pc' := 58) (l' := [(5, .int (2 : Int32)), (4, .int (I (12 + 2 + 1) 7)), (3, .int (vl_I (vx_allowed M (vc_A I L 12) 4))), (0, .ref 10), (1, .int (4 : Int32)), (2, .int (vl_I p))]) (st' := [.int (5 : Int32), .int (2 : Int32)]) rfl Kz) ?_
    refine jv_Wp.lift (fun _ Kz => jv_Ev.br jv_i45 (pc' := 61) (st' := []) rfl (by rfl) Kz) ?_
    refine jv_Wp.lift (fun _ Kz => jv_Ev.steps jv_i45 1 (pc' := 62) (l' := [(5, .int (2 : Int32)), (4, .int (I (12 + 2 + 1) 7)), (3, .int (vl_I (vx_allowed M (vc_A I L 12) 4))), (0, .ref 10), (1, .int (4 : Int32)), (2, .int (vl_I p))]) (st' := [.ref 10]) rfl Kz) ?_
    refine jv_Wp.lift (fun _ Kz => jv_Ev.m jv_i45 (pc' := 65) (st' := [.ref 12]) (G' := (jv_H K I24 L24 R)) rfl rfl (jv_m_getR hC.k rfl rfl hC.rnow) Kz) ?_
    refine jv_Wp.lift (fun _ Kz => jv_Ev.m jv_i45 (pc' := 68) (st' := [.ref (12 + 1)]) (G' := (jv_H K I24 L24 R)) rfl rfl (jv_m_getR hC.now.k rfl rfl hC.now.r) Kz) ?_
    refine jv_Wp.lift (fun _ Kz => jv_Ev.steps jv_i45 1 (pc' := 70) (l' := [(5, .int (2 : Int32)), (4, .int (I (12 + 2 + 1) 7)), (3, .int (vl_I (vx_allowed M (vc_A I L 12) 4))), (0, .ref 10), (1, .int (4 : Int32)), (2, .int (vl_I p))]) (st' := [.int (2 : Int32), .ref (12 + 1)]) rfl Kz) ?_
    refine jv_Wp.lift (fun _ Kz => jv_Ev.m jv_i45 (pc' := 71) (st' := [.ref (12 + 2 + 2)]) (G' := (jv_H K I24 L24 R)) rfl rfl (jv_m_aaldR hC.now.kt rfl (by decide) rfl (hC.now.rt 2 (by decide))) Kz) ?_
    obtain ⟨I25, L25, H25, T25, O25, F25⟩ := vc_none (I := I24) (L := L24) (R := R) (n := n) (sl := sl) (hC.now.kk 2 (by decide))
    refine jv_Wp.lift (fun _ Kz => jv_Ev.c jv_i45 (pc' := 74) (S' := []) (G1 := (jv_H K I25 L25 R)) jv_i141 [.ref (12 + 2 + 2)] rfl rfl rfl rfl (jv_cal rfl (jv_H_at (hC.now.kk 2 (by decide))) rfl rfl) rfl H25 rfl rfl Kz) ?_
    refine jv_Wp.lift (fun _ Kz => jv_Ev.steps jv_i45 4 (pc' := 58) (l' := [(5, .int (3 : Int32)), (4, .int (I (12 + 2 + 1) 7)), (3, .int (vl_I (vx_allowed M (vc_A I L 12) 4))), (0, .ref 10), (1, .int (4 : Int32)), (2, .int (vl_I p))]) (st' := [.int (5 : Int32), .int (3 : Int32)]) rfl Kz) ?_
    refine jv_Wp.lift (fun _ Kz => jv_Ev.br jv_i45 (pc' := 61) (st' := []) rfl (by rfl) Kz) ?_
    refine jv_Wp.lift (fun _ Kz => jv_Ev.steps jv_i45 1 (pc' := 62) (l' := [(5, .int (3 : Int32)), (4, .int (I (12 + 2 + 1) 7)), (3, .int (vl_I (vx_allowed M (vc_A I L 12) 4))), (0, .ref 10), (1, .int (4 : Int32)), (2, .int (vl_I p))]) (st' := [.ref 10]) rfl Kz) ?_
    refine jv_Wp.lift (fun _ Kz => jv_Ev.m jv_i45 (pc' := 65) (st' := [.ref 12]) (G' := (jv_H K I25 L25 R)) rfl rfl (jv_m_getR hC.k rfl rfl hC.rnow) Kz) ?_
    refine jv_Wp.lift (fun _ Kz => jv_Ev.m jv_i45 (pc' := 68) (st' := [.ref (12 + 1)]) (G' := (jv_H K I25 L25 R)) rfl rfl (jv_m_getR hC.now.k rfl rfl hC.now.r) Kz) ?_
    refine jv_Wp.lift (fun _ Kz => jv_Ev.steps jv_i45 1 (pc' := 70) (l' := [(5, .int (3 : Int32)), (4, .int (I (12 + 2 + 1) 7)), (3, .int (vl_I (vx_allowed M (vc_A I L 12) 4))), (0, .ref 10), (1, .int (4 : Int32)), (2, .int (vl_I p))]) (st' := [.int (3 : Int32), .ref (12 + 1)]) rfl Kz) ?_
    refine jv_Wp.lift (fun _ Kz => jv_Ev.m jv_i45 (pc' := 71) (st' := [.ref (12 + 2 + 3)]) (G' := (jv_H K I25 L25 R)) rfl rfl (jv_m_aaldR hC.now.kt rfl (by decide) rfl (hC.now.rt 3 (by decide))) Kz) ?_
    obtain ⟨I26, L26, H26, T26, O26, F26⟩ := vc_none (I := I25) (L := L25) (R := R) (n := n) (sl := sl) (hC.now.kk 3 (by decide))
    refine jv_Wp.lift (fun _ Kz => jv_Ev.c jv_i45 (pc' := 74) (S' := []) (G1 := (jv_H K I26 L26 R)) jv_i141 [.ref (12 + 2 + 3)] rfl rfl rfl rfl (jv_cal rfl (jv_H_at (hC.now.kk 3 (by decide))) rfl rfl) rfl H26 rfl rfl Kz) ?_
    refine jv_Wp.lift (fun _ Kz => jv_Ev.steps jv_i45 4 (pc' := 58) (l' := [(5, .int (4 : Int32)), (4, .int (I (12 + 2 + 1) 7)), (3, .int (vl_I (vx_allowed M (vc_A I L 12) 4))), (0, .ref 10), (1, .int (4 : Int32)), (2, .int (vl_I p))]) (st' := [.int (5 : Int32), .int (4 : Int32)]) rfl Kz) ?_
    refine jv_Wp.lift (fun _ Kz => jv_Ev.br jv_i45 (pc' := 61) (st' := []) rfl (by rfl) Kz) ?_
    refine jv_Wp.lift (fun _ Kz => jv_Ev.steps jv_i45 1 (pc' := 62) (l' := [(5, .int (4 : Int32)), (4, .int (I (12 + 2 + 1) 7)), (3, .int (vl_I (vx_allowed M (vc_A I L 12) 4))), (0, .ref 10), (1, .int (4 : Int32)), (2, .int (vl_I p))]) (st' := [.ref 10]) rfl Kz) ?_
    refine jv_Wp.lift (fun _ Kz => jv_Ev.m jv_i45 (pc' := 65) (st' := [.ref 12]) (G' := (jv_H K I26 L26 R)) rfl rfl (jv_m_getR hC.k rfl rfl hC.rnow) Kz) ?_
    refine jv_Wp.lift (fun _ Kz => jv_Ev.m jv_i45 (pc' := 68) (st' := [.ref (12 + 1)]) (G' := (jv_H K I26 L26 R)) rfl rfl (jv_m_getR hC.now.k rfl rfl hC.now.r) Kz) ?_
    refine jv_Wp.lift (fun _ Kz => jv_Ev.steps jv_i45 1 (pc' := 70) (l' := [(5, .int (4 : Int32)), (4, .int (I (12 + 2 + 1) 7)), (3, .int (vl_I (vx_allowed M (vc_A I L 12) 4))), (0, .ref 10), (1, .int (4 : Int32)), (2, .int (vl_I p))]) (st' := [.int (4 : Int32), .ref (12 + 1)]) rfl Kz) ?_
    refine jv_Wp.lift (fun _ Kz => jv_Ev.m jv_i45 (pc' := 71) (st' := [.ref (12 + 2 + 4)]) (G' := (jv_H K I26 L26 R)) rfl rfl (jv_m_aaldR hC.now.kt rfl (by decide) rfl (hC.now.rt 4 (by decide))) Kz) ?_
    obtain ⟨I27, L27, H27, T27, O27, F27⟩ := vc_none (I := I26) (L := L26) (R := R) (n := n) (sl := sl) (hC.now.kk 4 (by decide))
    refine jv_Wp.lift (fun _ Kz => jv_Ev.c jv_i45 (pc' := 74) (S' := []) (G1 := (jv_H K I27 L27 R)) jv_i141 [.ref (12 + 2 + 4)] rfl rfl rfl rfl (jv_cal rfl (jv_H_at (hC.now.kk 4 (by decide))) rfl rfl) rfl H27 rfl rfl Kz) ?_
    refine jv_Wp.lift (fun _ Kz => jv_Ev.steps jv_i45 4 (pc' := 58) (l' := [(5, .int (5 : Int32)), (4, .int (I (12 + 2 + 1) 7)), (3, .int (vl_I (vx_allowed M (vc_A I L 12) 4))), (0, .ref 10), (1, .int (4 : Int32)), (2, .int (vl_I p))]) (st' := [.int (5 : Int32), .int (5 : Int32)]) rfl Kz) ?_
    refine jv_Wp.lift (fun _ Kz => jv_Ev.br jv_i45 (pc' := 61) (st' := []) rfl (by rfl) Kz) ?_
    refine jv_Wp.lift (fun _ Kz => jv_Ev.steps jv_i45 1 (pc' := 62) (l' := [(5, .int (5 : Int32)), (4, .int (I (12 + 2 + 1) 7)), (3, .int (vl_I (vx_allowed M (vc_A I L 12) 4))), (0, .ref 10), (1, .int (4 : Int32)), (2, .int (vl_I p))]) (st' := [.ref 10]) rfl Kz) ?_
    refine jv_Wp.lift (fun _ Kz => jv_Ev.m jv_i45 (pc' := 65) (st' := [.ref 12]) (G' := (jv_H K I27 L27 R)) rfl rfl (jv_m_getR hC.k rfl rfl hC.rnow) Kz) ?_
    refine jv_Wp.lift (fun _ Kz => jv_Ev.m jv_i45 (pc' := 68) (st' := [.ref (12 + 1)]) (G' := (jv_H K I27 L27 R)) rfl rfl (jv_m_getR hC.now.k rfl rfl hC.now.r) Kz) ?_
    refine jv_Wp.lift (fun _ Kz => jv_Ev.steps jv_i45 1 (pc' := 70) (l' := [(5, .int (5 : Int32)), (4, .int (I (12 + 2 + 1) 7)), (3, .int (vl_I (vx_allowed M (vc_A I L 12) 4))), (0, .ref 10), (1, .int (4 : Int32)), (2, .int (vl_I p))]) (st' := [.int (5 : Int32), .ref (12 + 1)]) rfl Kz) ?_
    refine jv_Wp.lift (fun _ Kz => jv_Ev.m jv_i45 (pc' := 71) (st' := [.ref (12 + 2 + 5)]) (G' := (jv_H K I27 L27 R)) rfl rfl (jv_m_aaldR hC.now.kt rfl (by decide) rfl (hC.now.rt 5 (by decide))) Kz) ?_
    obtain ⟨I28, L28, H28, T28, O28, F28⟩ := vc_none (I := I27) (L := L27) (R := R) (n := n) (sl := sl) (hC.now.kk 5 (by decide))
    refine jv_Wp.lift (fun _ Kz => jv_Ev.c jv_i45 (pc' := 74) (S' := []) (G1 := (jv_H K I28 L28 R)) jv_i141 [.ref (12 + 2 + 5)] rfl rfl rfl rfl (jv_cal rfl (jv_H_at (hC.now.kk 5 (by decide))) rfl rfl) rfl H28 rfl rfl Kz) ?_
    refine jv_Wp.lift (fun _ Kz => jv_Ev.steps jv_i45 4 (pc' := 58) (l' := [(5, .int (6 : Int32)), (4, .int (I (12 + 2 + 1) 7)), (3, .int (vl_I (vx_allowed M (vc_A I L 12) 4))), (0, .ref 10), (1, .int (4 : Int32)), (2, .int (vl_I p))]) (st' := [.int (5 : Int32), .int (6 : Int32)]) rfl Kz) ?_
    refine jv_Wp.lift (fun _ Kz => jv_Ev.br jv_i45 (pc' := 80) (st' := []) rfl (by rfl) Kz) ?_
    refine jv_Wp.lift (fun _ Kz => jv_Ev.steps jv_i45 2 (pc' := 82) (l' := [(5, .int (6 : Int32)), (4, .int (I (12 + 2 + 1) 7)), (3, .int (vl_I (vx_allowed M (vc_A I L 12) 4))), (0, .ref 10), (1, .int (4 : Int32)), (2, .int (vl_I p))]) (st' := [.int (1 : Int32), .int (4 : Int32)]) rfl Kz) ?_
    refine jv_Wp.lift (fun _ Kz => jv_Ev.br jv_i45 (pc' := 106) (st' := []) rfl (by rfl) Kz) ?_
    refine jv_Wp.lift (fun _ Kz => jv_Ev.steps jv_i45 1 (pc' := 107) (l' := [(5, .int (6 : Int32)), (4, .int (I (12 + 2 + 1) 7)), (3, .int (vl_I (vx_allowed M (vc_A I L 12) 4))), (0, .ref 10), (1, .int (4 : Int32)), (2, .int (vl_I p))]) (st' := [.ref 10]) rfl Kz) ?_
    refine jv_Wp.lift (fun _ Kz => jv_Ev.m jv_i45 (pc' := 110) (st' := [.ref 169]) (G' := (jv_H K I28 L28 R)) rfl rfl (jv_m_getR hC.k rfl rfl hC.rout) Kz) ?_
    refine jv_Wp.lift (fun _ Kz => jv_Ev.c jv_i45 (pc' := 113) (S' := []) (G1 := (jv_H K I28 (vl_set L28 169 vb_any) R)) jv_i149 [.ref 169] rfl rfl rfl rfl (jv_cal rfl (jv_H_at hC.k169) rfl rfl) rfl (vl_any (Or.inl hC.k169)) rfl rfl Kz) ?_
    refine jv_Wp.lift (fun _ Kz => jv_Ev.steps jv_i45 1 (pc' := 114) (l' := [(5, .int (6 : Int32)), (4, .int (I (12 + 2 + 1) 7)), (3, .int (vl_I (vx_allowed M (vc_A I L 12) 4))), (0, .ref 10), (1, .int (4 : Int32)), (2, .int (vl_I p))]) (st' := [.ref 10]) rfl Kz) ?_
    refine jv_Wp.lift (fun _ Kz => jv_Ev.m jv_i45 (pc' := 117) (st' := [.ref 12]) (G' := (jv_H K I28 (vl_set L28 169 vb_any) R)) rfl rfl (jv_m_getR hC.k rfl rfl hC.rnow) Kz) ?_
    refine jv_Wp.lift (fun _ Kz => jv_Ev.m jv_i45 (pc' := 120) (st' := [.ref (12 + 1)]) (G' := (jv_H K I28 (vl_set L28 169 vb_any) R)) rfl rfl (jv_m_getR hC.now.k rfl rfl hC.now.r) Kz) ?_
    refine jv_Wp.lift (fun _ Kz => jv_Ev.steps jv_i45 1 (pc' := 121) (l' := [(5, .int (6 : Int32)), (4, .int (I (12 + 2 + 1) 7)), (3, .int (vl_I (vx_allowed M (vc_A I L 12) 4))), (0, .ref 10), (1, .int (4 : Int32)), (2, .int (vl_I p))]) (st' := [.int (0 : Int32), .ref (12 + 1)]) rfl Kz) ?_
    refine jv_Wp.lift (fun _ Kz => jv_Ev.m jv_i45 (pc' := 122) (st' := [.ref (12 + 2 + 0)]) (G' := (jv_H K I28 (vl_set L28 169 vb_any) R)) rfl rfl (jv_m_aaldR hC.now.kt rfl (by decide) rfl (hC.now.rt 0 (by decide))) Kz) ?_
    refine jv_Wp.lift (fun _ Kz => jv_Ev.steps jv_i45 1 (pc' := 123) (l' := [(5, .int (6 : Int32)), (4, .int (I (12 + 2 + 1) 7)), (3, .int (vl_I (vx_allowed M (vc_A I L 12) 4))), (0, .ref 10), (1, .int (4 : Int32)), (2, .int (vl_I p))]) (st' := [.ref 10, .ref (12 + 2 + 0)]) rfl Kz) ?_
    refine jv_Wp.lift (fun _ Kz => jv_Ev.m jv_i45 (pc' := 126) (st' := [.ref 169, .ref (12 + 2 + 0)]) (G' := (jv_H K I28 (vl_set L28 169 vb_any) R)) rfl rfl (jv_m_getR hC.k rfl rfl hC.rout) Kz) ?_
    have f1 : (vx_allowed M (vc_A I L 12) 4) = 0 := (vl_I_inj (by omega) (by decide)).mp h1
    obtain ⟨I29, L29, H29, T29, O29, F29⟩ := vc_num (I := I28) (L := (vl_set L28 169 vb_any)) (R := R) (n := n) (sl := sl) (hC.now.kk 0 (by decide)) (Or.inl hC.k169)
    refine jv_Wp.lift (fun _ Kz => jv_Ev.c jv_i45 (pc' := 129) (S' := []) (G1 := (jv_H K I29 L29 R)) jv_i142 [.ref (12 + 2 + 0), .ref 169] rfl rfl rfl rfl (jv_cal rfl (jv_H_at (hC.now.kk 0 (by decide))) rfl rfl) rfl H29 rfl rfl Kz) ?_
    refine jv_Wp.lift (fun _ Kz => jv_Ev.steps jv_i45 1 (pc' := 130) (l' := [(5, .int (6 : Int32)), (4, .int (I (12 + 2 + 1) 7)), (3, .int (vl_I (vx_allowed M (vc_A I L 12) 4))), (0, .ref 10), (1, .int (4 : Int32)), (2, .int (vl_I p))]) (st' := [.int (0 : Int32)]) rfl Kz) ?_
    refine jv_Wp.of (jv_Ev.ret jv_i45 rfl rfl) ?_
    rw [hQ]
    have al : (vx_allowed M (vc_A I L 12) 4) = 0 := (vl_I_inj (Nat.lt_trans vx_allowed_lt (by decide)) (by decide)).mp h1
    obtain ⟨c1, c2, c3⟩ := vc_clear5 T24 O24 F24 T25 O25 F25 T26 O26 F26 T27 O27 F27 T28 O28 F28 oa
    have TT : vc_T I29 L29 (12 + 2 + 0) = vt_num vb_any := by rw [T29, vl_set_S]
    have FA : vc_fr (fun p => p = 12 + 2 + 0 ∨ (166 ≤ p ∧ p ≤ 170)) I28 L28 I29 L29 := vc_fr_trans (fun p hp => ⟨fun _ => rfl, fun f => vl_set_out (fun z => hp (Or.inr (by rw [z.1]; exact ⟨by decide, by decide⟩)))⟩) (vc_fr_mono F29 (fun p z => Or.inl z))
    have U := vc_up (r := 0) (by decide) TT O29 FA (fun n hn e q => by omega) (by omega) c2
    rw [c1] at U
    have e := vx_clp (p := p) al (by decide) (by decide)
    have FR : vc_fr vc_wk I L I29 L29 := vc_fr_trans (vc_fr_mono c3 (fun p z => Or.inl (by unfold vc_in; omega))) (vc_fr_mono FA (fun p z => z.imp (fun z => (by unfold vc_in; omega)) id))
    exact ⟨_, _, by rw [e]; rfl, fun _ => by rw [e]; exact U, FR, fun f => ((FA 12 (by omega)).1 f).trans ((c3 12 (by omega)).1 f)⟩
  · refine jv_Wp.lift (fun _ Kz => jv_Ev.steps jv_i45 1 (pc' := 11) (l' := [(3, .int (vl_I (vx_allowed M (vc_A I L 12) 4))), (0, .ref 10), (1, .int (4 : Int32)), (2, .int (vl_I p))]) (st' := [.int (vl_I (vx_allowed M (vc_A I L 12) 4))]) rfl Kz) ?_
    refine jv_Wp.of (jv_Ev.ret jv_i45 rfl rfl) ?_
    rw [hQ]
    have na : (vx_allowed M (vc_A I L 12) 4) ≠ 0 := fun z => h1 (by rw [z]; rfl)
    have e := vx_cl0 (p := p) na
    exact ⟨_, _, by rw [e], fun z => by rw [e] at z; exact absurd z na, vc_fr_refl _ _, fun _ => rfl⟩
theorem vc_call5 {K : Nat → Option (Nat × Nat)} {I : Nat → Nat → Int32} {L : Nat → Nat → Int64} {R : Nat → Nat → Value} {M : vf_M} (p : Nat) (hC : vc_C K R) (hM : vc_M K I R M) (hp2 : p < 2147483648) (hkn : (L 12 1).toInt ≤ 1073000000) (oa : vc_okA I L 12) (tA : ∀ n, n < 75 → vt_ok (vc_T I L (12 + 2 + n))) (gA : ∀ n, n < 75 → vc_g I L (12 + 2 + n)) (m6 : I (12 + 2 + 1) 6 = 6 → 0 ≤ (I (12 + 2 + 1) 7).toInt) {n sl : Nat} : ∃ I1 L1, jv_Ms 45 [.ref 10, .int (5 : Int32), .int (vl_I p)] (jv_H K I L R) n sl (some (.int (vl_I (vx_call M 5 p (vc_A I L 12)).1)), jv_H K I1 L1 R, n, sl) ∧ ((vx_call M 5 p (vc_A I L 12)).1 = 0 → vc_A I1 L1 12 = (vx_call M 5 p (vc_A I L 12)).2 ∧ vc_okA I1 L1 12) ∧ vc_fr vc_wk I L I1 L1 ∧ ∀ f, I1 12 f = I 12 f := by
  obtain ⟨Q, hQ⟩ : ∃ Q : jv_R → Prop, Q = fun X => ∃ I1 L1, X = (some (.int (vl_I (vx_call M 5 p (vc_A I L 12)).1)), jv_H K I1 L1 R, n, sl) ∧ ((vx_call M 5 p (vc_A I L 12)).1 = 0 → vc_A I1 L1 12 = (vx_call M 5 p (vc_A I L 12)).2 ∧ vc_okA I1 L1 12) ∧ vc_fr vc_wk I L I1 L1 ∧ ∀ f, I1 12 f = I 12 f := ⟨_, rfl⟩
  suffices h : jv_Wp 45 0 [(0, .ref 10), (1, .int (5 : Int32)), (2, .int (vl_I p))] [] (jv_H K I L R) n sl Q by
    rw [hQ] at h
    obtain ⟨X, h, I1, L1, e, h'⟩ := h
    subst e
    exact ⟨I1, L1, h, h'⟩
  have alt := vx_allowed_lt (M := M) (A := vc_A I L 12) (c := 5)
  refine jv_Wp.lift (fun _ Kz => jv_Ev.steps jv_i45 2 (pc' := 2) (l' := [(0, .ref 10), (1, .int (5 : Int32)), (2, .int (vl_I p))]) (st' := [.int (5 : Int32), .ref 10]) rfl Kz) ?_
  obtain ⟨I30, L30, H30, ei30, el30⟩ := vc_allowed5 (I := I) (L := L) (R := R) (n := n) (sl := sl) (M := M) hC hM hkn oa tA gA m6
  rw [ei30, el30] at H30
  refine jv_Wp.lift (fun _ Kz => jv_Ev.c jv_i45 (pc' := 5) (S' := [.int (vl_I (vx_allowed M (vc_A I L 12) 5))]) jv_i46 [.ref 10, .int (5 : Int32)] rfl rfl rfl rfl (jv_cal rfl (jv_H_at hC.k) rfl rfl) rfl H30 rfl rfl Kz) ?_
  refine jv_Wp.lift (fun _ Kz => jv_Ev.steps jv_i45 2 (pc' := 7) (l' := [(3, .int (vl_I (vx_allowed M (vc_A I L 12) 5))), (0, .ref 10), (1, .int (5 : Int32)), (2, .int (vl_I p))]) (st' := [.int (vl_I (vx_allowed M (vc_A I L 12) 5))]) rfl Kz) ?_
  refine jv_Wp.cnd jv_i45 (pt := 12) (pe := 10) (p := ((vl_I (vx_allowed M (vc_A I L 12) 5)) = 0)) (q := ((vl_I (vx_allowed M (vc_A I L 12) 5)) = 0)) rfl jv_bi_eq rfl rfl Iff.rfl (fun h1 => ?_) (fun h1 => ?_)
  · refine jv_Wp.lift (fun _ Kz => jv_Ev.steps jv_i45 1 (pc' := 13) (l' := [(3, .int (vl_I (vx_allowed M (vc_A I L 12) 5))), (0, .ref 10), (1, .int (5 : Int32)), (2, .int (vl_I p))]) (st' := [.ref 10]) rfl Kz) ?_
    refine jv_Wp.lift (fun _ Kz => jv_Ev.m jv_i45 (pc' := 16) (st' := [.ref 12]) (G' := (jv_H K I L R)) rfl rfl (jv_m_getR hC.k rfl rfl hC.rnow) Kz) ?_
    refine jv_Wp.lift (fun _ Kz => jv_Ev.m jv_i45 (pc' := 19) (st' := [.ref (12 + 1)]) (G' := (jv_H K I L R)) rfl rfl (jv_m_getR hC.now.k rfl rfl hC.now.r) Kz) ?_
    refine jv_Wp.lift (fun _ Kz => jv_Ev.steps jv_i45 1 (pc' := 20) (l' := [(3, .int (vl_I (vx_allowed M (vc_A I L 12) 5))), (0, .ref 10), (1, .int (5 : Int32)), (2, .int (vl_I p))]) (st' := [.int (1 : Int32), .ref (12 + 1)]) rfl Kz) ?_
    refine jv_Wp.lift (fun _ Kz => jv_Ev.m jv_i45 (pc' := 21) (st' := [.ref (12 + 2 + 1)]) (G' := (jv_H K I L R)) rfl rfl (jv_m_aaldR hC.now.kt rfl (by decide) rfl (hC.now.rt 1 (by decide))) Kz) ?_
    refine jv_Wp.lift (fun _ Kz => jv_Ev.m jv_i45 (pc' := 24) (st' := [.int (I (12 + 2 + 1) 7)]) (G' := (jv_H K I L R)) rfl rfl (jv_m_getI (hC.now.kk 1 (by decide)) rfl rfl rfl) Kz) ?_
    refine jv_Wp.lift (fun _ Kz => jv_Ev.steps jv_i45 3 (pc' := 28) (l' := [(4, .int (I (12 + 2 + 1) 7)), (3, .int (vl_I (vx_allowed M (vc_A I L 12) 5))), (0, .ref 10), (1, .int (5 : Int32)), (2, .int (vl_I p))]) (st' := [.int (1 : Int32), .int (5 : Int32)]) rfl Kz) ?_
    refine jv_Wp.lift (fun _ Kz => jv_Ev.br jv_i45 (pc' := 39) (st' := []) rfl (by rfl) Kz) ?_
    refine jv_Wp.lift (fun _ Kz => jv_Ev.steps jv_i45 2 (pc' := 42) (l' := [(4, .int (I (12 + 2 + 1) 7)), (3, .int (vl_I (vx_allowed M (vc_A I L 12) 5))), (0, .ref 10), (1, .int (5 : Int32)), (2, .int (vl_I p))]) (st' := [.int (6 : Int32), .int (5 : Int32)]) rfl Kz) ?_
    refine jv_Wp.lift (fun _ Kz => jv_Ev.br jv_i45 (pc' := 52) (st' := []) rfl (by rfl) Kz) ?_
    refine jv_Wp.lift (fun _ Kz => jv_Ev.steps jv_i45 4 (pc' := 58) (l' := [(5, .int (1 : Int32)), (4, .int (I (12 + 2 + 1) 7)), (3, .int (vl_I (vx_allowed M (vc_A I L 12) 5))), (0, .ref 10), (1, .int (5 : Int32)), (2, .int (vl_I p))]) (st' := [.int (5 : Int32), .int (1 : Int32)]) rfl Kz) ?_
    refine jv_Wp.lift (fun _ Kz => jv_Ev.br jv_i45 (pc' := 61) (st' := []) rfl (by rfl) Kz) ?_
    refine jv_Wp.lift (fun _ Kz => jv_Ev.steps jv_i45 1 (pc' := 62) (l' := [(5, .int (1 : Int32)), (4, .int (I (12 + 2 + 1) 7)), (3, .int (vl_I (vx_allowed M (vc_A I L 12) 5))), (0, .ref 10), (1, .int (5 : Int32)), (2, .int (vl_I p))]) (st' := [.ref 10]) rfl Kz) ?_
    refine jv_Wp.lift (fun _ Kz => jv_Ev.m jv_i45 (pc' := 65) (st' := [.ref 12]) (G' := (jv_H K I L R)) rfl rfl (jv_m_getR hC.k rfl rfl hC.rnow) Kz) ?_
    refine jv_Wp.lift (fun _ Kz => jv_Ev.m jv_i45 (pc' := 68) (st' := [.ref (12 + 1)]) (G' := (jv_H K I L R)) rfl rfl (jv_m_getR hC.now.k rfl rfl hC.now.r) Kz) ?_
    refine jv_Wp.lift (fun _ Kz => jv_Ev.steps jv_i45 1 (pc' := 70) (l' := [(5, .int (1 : Int32)), (4, .int (I (12 + 2 + 1) 7)), (3, .int (vl_I (vx_allowed M (vc_A I L 12) 5))), (0, .ref 10), (1, .int (5 : Int32)), (2, .int (vl_I p))]) (st' := [.int (1 : Int32), .ref (12 + 1)]) rfl Kz) ?_
    refine jv_Wp.lift (fun _ Kz => jv_Ev.m jv_i45 (pc' := 71) (st' := [.ref (12 + 2 + 1)]) (G' := (jv_H K I L R)) rfl rfl (jv_m_aaldR hC.now.kt rfl (by decide) rfl (hC.now.rt 1 (by decide))) Kz) ?_
    obtain ⟨I31, L31, H31, T31, O31, F31⟩ := vc_none (I := I) (L := L) (R := R) (n := n) (sl := sl) (hC.now.kk 1 (by decide))
    refine jv_Wp.lift (fun _ Kz => jv_Ev.c jv_i45 (pc' := 74) (S' := []) (G1 := (jv_H K I31 L31 R)) jv_i141 [.ref (12 + 2 + 1)] rfl rfl rfl rfl (jv_cal rfl (jv_H_at (hC.now.kk 1 (by decide))) rfl rfl) rfl H31 rfl rfl Kz) ?_
    refine jv_Wp.lift (fun _ Kz => jv_Ev.steps jv_i45 4 (pc' := 58) (l' := [(5, .int (2 : Int32)), (4, .int (I (12 + 2 + 1) 7)), (3, .int (vl_I (vx_allowed M (vc_A I L 12) 5))), (0, .ref 10), (1, .int (5 : Int32)), (2, .int (vl_I p))]) (st' := [.int (5 : Int32), .int (2 : Int32)]) rfl Kz) ?_
    refine jv_Wp.lift (fun _ Kz => jv_Ev.br jv_i45 (pc' := 61) (st' := []) rfl (by rfl) Kz) ?_
    refine jv_Wp.lift (fun _ Kz => jv_Ev.steps jv_i45 1 (pc' := 62) (l' := [(5, .int (2 : Int32)), (4, .int (I (12 + 2 + 1) 7)), (3, .int (vl_I (vx_allowed M (vc_A I L 12) 5))), (0, .ref 10), (1, .int (5 : Int32)), (2, .int (vl_I p))]) (st' := [.ref 10]) rfl Kz) ?_
    refine jv_Wp.lift (fun _ Kz => jv_Ev.m jv_i45 (pc' := 65) (st' := [.ref 12]) (G' := (jv_H K I31 L31 R)) rfl rfl (jv_m_getR hC.k rfl rfl hC.rnow) Kz) ?_
    refine jv_Wp.lift (fun _ Kz => jv_Ev.m jv_i45 (pc' := 68) (st' := [.ref (12 + 1)]) (G' := (jv_H K I31 L31 R)) rfl rfl (jv_m_getR hC.now.k rfl rfl hC.now.r) Kz) ?_
    refine jv_Wp.lift (fun _ Kz => jv_Ev.steps jv_i45 1 (pc' := 70) (l' := [(5, .int (2 : Int32)), (4, .int (I (12 + 2 + 1) 7)), (3, .int (vl_I (vx_allowed M (vc_A I L 12) 5))), (0, .ref 10), (1, .int (5 : Int32)), (2, .int (vl_I p))]) (st' := [.int (2 : Int32), .ref (12 + 1)]) rfl Kz) ?_
    refine jv_Wp.lift (fun _ Kz => jv_Ev.m jv_i45 (pc' := 71) (st' := [.ref (12 + 2 + 2)]) (G' := (jv_H K I31 L31 R)) rfl rfl (jv_m_aaldR hC.now.kt rfl (by decide) rfl (hC.now.rt 2 (by decide))) Kz) ?_
    obtain ⟨I32, L32, H32, T32, O32, F32⟩ := vc_none (I := I31) (L := L31) (R := R) (n := n) (sl := sl) (hC.now.kk 2 (by decide))
    refine jv_Wp.lift (fun _ Kz => jv_Ev.c jv_i45 (pc' := 74) (S' := []) (G1 := (jv_H K I32 L32 R)) jv_i141 [.ref (12 + 2 + 2)] rfl rfl rfl rfl (jv_cal rfl (jv_H_at (hC.now.kk 2 (by decide))) rfl rfl) rfl H32 rfl rfl Kz) ?_
    refine jv_Wp.lift (fun _ Kz => jv_Ev.steps jv_i45 4 (pc' := 58) (l' := [(5, .int (3 : Int32)), (4, .int (I (12 + 2 + 1) 7)), (3, .int (vl_I (vx_allowed M (vc_A I L 12) 5))), (0, .ref 10), (1, .int (5 : Int32)), (2, .int (vl_I p))]) (st' := [.int (5 : Int32), .int (3 : Int32)]) rfl Kz) ?_
    refine jv_Wp.lift (fun _ Kz => jv_Ev.br jv_i45 (pc' := 61) (st' := []) rfl (by rfl) Kz) ?_
    refine jv_Wp.lift (fun _ Kz => jv_Ev.steps jv_i45 1 (pc' := 62) (l' := [(5, .int (3 : Int32)), (4, .int (I (12 + 2 + 1) 7)), (3, .int (vl_I (vx_allowed M (vc_A I L 12) 5))), (0, .ref 10), (1, .int (5 : Int32)), (2, .int (vl_I p))]) (st' := [.ref 10]) rfl Kz) ?_
    refine jv_Wp.lift (fun _ Kz => jv_Ev.m jv_i45 (pc' := 65) (st' := [.ref 12]) (G' := (jv_H K I32 L32 R)) rfl rfl (jv_m_getR hC.k rfl rfl hC.rnow) Kz) ?_
    refine jv_Wp.lift (fun _ Kz => jv_Ev.m jv_i45 (pc' := 68) (st' := [.ref (12 + 1)]) (G' := (jv_H K I32 L32 R)) rfl rfl (jv_m_getR hC.now.k rfl rfl hC.now.r) Kz) ?_
    refine jv_Wp.lift (fun _ Kz => jv_Ev.steps jv_i45 1 (pc' := 70) (l' := [(5, .int (3 : Int32)), (4, .int (I (12 + 2 + 1) 7)), (3, .int (vl_I (vx_allowed M (vc_A I L 12) 5))), (0, .ref 10), (1, .int (5 : Int32)), (2, .int (vl_I p))]) (st' := [.int (3 : Int32), .ref (12 + 1)]) rfl Kz) ?_
    refine jv_Wp.lift (fun _ Kz => jv_Ev.m jv_i45 (pc' := 71) (st' := [.ref (12 + 2 + 3)]) (G' := (jv_H K I32 L32 R)) rfl rfl (jv_m_aaldR hC.now.kt rfl (by decide) rfl (hC.now.rt 3 (by decide))) Kz) ?_
    obtain ⟨I33, L33, H33, T33, O33, F33⟩ := vc_none (I := I32) (L := L32) (R := R) (n := n) (sl := sl) (hC.now.kk 3 (by decide))
    refine jv_Wp.lift (fun _ Kz => jv_Ev.c jv_i45 (pc' := 74) (S' := []) (G1 := (jv_H K I33 L33 R)) jv_i141 [.ref (12 + 2 + 3)] rfl rfl rfl rfl (jv_cal rfl (jv_H_at (hC.now.kk 3 (by decide))) rfl rfl) rfl H33 rfl rfl Kz) ?_
    refine jv_Wp.lift (fun _ Kz => jv_Ev.steps jv_i45 4 (pc' := 58) (l' := [(5, .int (4 : Int32)), (4, .int (I (12 + 2 + 1) 7)), (3, .int (vl_I (vx_allowed M (vc_A I L 12) 5))), (0, .ref 10), (1, .int (5 : Int32)), (2, .int (vl_I p))]) (st' := [.int (5 : Int32), .int (4 : Int32)]) rfl Kz) ?_
    refine jv_Wp.lift (fun _ Kz => jv_Ev.br jv_i45 (pc' := 61) (st' := []) rfl (by rfl) Kz) ?_
    refine jv_Wp.lift (fun _ Kz => jv_Ev.steps jv_i45 1 (pc' := 62) (l' := [(5, .int (4 : Int32)), (4, .int (I (12 + 2 + 1) 7)), (3, .int (vl_I (vx_allowed M (vc_A I L 12) 5))), (0, .ref 10), (1, .int (5 : Int32)), (2, .int (vl_I p))]) (st' := [.ref 10]) rfl Kz) ?_
    refine jv_Wp.lift (fun _ Kz => jv_Ev.m jv_i45 (pc' := 65) (st' := [.ref 12]) (G' := (jv_H K I33 L33 R)) rfl rfl (jv_m_getR hC.k rfl rfl hC.rnow) Kz) ?_
    refine jv_Wp.lift (fun _ Kz => jv_Ev.m jv_i45 (pc' := 68) (st' := [.ref (12 + 1)]) (G' := (jv_H K I33 L33 R)) rfl rfl (jv_m_getR hC.now.k rfl rfl hC.now.r) Kz) ?_
    refine jv_Wp.lift (fun _ Kz => jv_Ev.steps jv_i45 1 (pc' := 70) (l' := [(5, .int (4 : Int32)), (4, .int (I (12 + 2 + 1) 7)), (3, .int (vl_I (vx_allowed M (vc_A I L 12) 5))), (0, .ref 10), (1, .int (5 : Int32)), (2, .int (vl_I p))]) (st' := [.int (4 : Int32), .ref (12 + 1)]) rfl Kz) ?_
    refine jv_Wp.lift (fun _ Kz => jv_Ev.m jv_i45 (pc' := 71) (st' := [.ref (12 + 2 + 4)]) (G' := (jv_H K I33 L33 R)) rfl rfl (jv_m_aaldR hC.now.kt rfl (by decide) rfl (hC.now.rt 4 (by decide))) Kz) ?_
    obtain ⟨I34, L34, H34, T34, O34, F34⟩ := vc_none (I := I33) (L := L33) (R := R) (n := n) (sl := sl) (hC.now.kk 4 (by decide))
    refine jv_Wp.lift (fun _ Kz => jv_Ev.c jv_i45 (pc' := 74) (S' := []) (G1 := (jv_H K I34 L34 R)) jv_i141 [.ref (12 + 2 + 4)] rfl rfl rfl rfl (jv_cal rfl (jv_H_at (hC.now.kk 4 (by decide))) rfl rfl) rfl H34 rfl rfl Kz) ?_
    refine jv_Wp.lift (fun _ Kz => jv_Ev.steps jv_i45 4 (pc' := 58) (l' := [(5, .int (5 : Int32)), (4, .int (I (12 + 2 + 1) 7)), (3, .int (vl_I (vx_allowed M (vc_A I L 12) 5))), (0, .ref 10), (1, .int (5 : Int32)), (2, .int (vl_I p))]) (st' := [.int (5 : Int32), .int (5 : Int32)]) rfl Kz) ?_
    refine jv_Wp.lift (fun _ Kz => jv_Ev.br jv_i45 (pc' := 61) (st' := []) rfl (by rfl) Kz) ?_
    refine jv_Wp.lift (fun _ Kz => jv_Ev.steps jv_i45 1 (pc' := 62) (l' := [(5, .int (5 : Int32)), (4, .int (I (12 + 2 + 1) 7)), (3, .int (vl_I (vx_allowed M (vc_A I L 12) 5))), (0, .ref 10), (1, .int (5 : Int32)), (2, .int (vl_I p))]) (st' := [.ref 10]) rfl Kz) ?_
    refine jv_Wp.lift (fun _ Kz => jv_Ev.m jv_i45 (pc' := 65) (st' := [.ref 12]) (G' := (jv_H K I34 L34 R)) rfl rfl (jv_m_getR hC.k rfl rfl hC.rnow) Kz) ?_
    refine jv_Wp.lift (fun _ Kz => jv_Ev.m jv_i45 (pc' := 68) (st' := [.ref (12 + 1)]) (G' := (jv_H K I34 L34 R)) rfl rfl (jv_m_getR hC.now.k rfl rfl hC.now.r) Kz) ?_
    refine jv_Wp.lift (fun _ Kz => jv_Ev.steps jv_i45 1 (pc' := 70) (l' := [(5, .int (5 : Int32)), (4, .int (I (12 + 2 + 1) 7)), (3, .int (vl_I (vx_allowed M (vc_A I L 12) 5))), (0, .ref 10), (1, .int (5 : Int32)), (2, .int (vl_I p))]) (st' := [.int (5 : Int32), .ref (12 + 1)]) rfl Kz) ?_
    refine jv_Wp.lift (fun _ Kz => jv_Ev.m jv_i45 (pc' := 71) (st' := [.ref (12 + 2 + 5)]) (G' := (jv_H K I34 L34 R)) rfl rfl (jv_m_aaldR hC.now.kt rfl (by decide) rfl (hC.now.rt 5 (by decide))) Kz) ?_
    obtain ⟨I35, L35, H35, T35, O35, F35⟩ := vc_none (I := I34) (L := L34) (R := R) (n := n) (sl := sl) (hC.now.kk 5 (by decide))
    refine jv_Wp.lift (fun _ Kz => jv_Ev.c jv_i45 (pc' := 74) (S' := []) (G1 := (jv_H K I35 L35 R)) jv_i141 [.ref (12 + 2 + 5)] rfl rfl rfl rfl (jv_cal rfl (jv_H_at (hC.now.kk 5 (by decide))) rfl rfl) rfl H35 rfl rfl Kz) ?_
    refine jv_Wp.lift (fun _ Kz => jv_Ev.steps jv_i45 4 (pc' := 58) (l' := [(5, .int (6 : Int32)), (4, .int (I (12 + 2 + 1) 7)), (3, .int (vl_I (vx_allowed M (vc_A I L 12) 5))), (0, .ref 10), (1, .int (5 : Int32)), (2, .int (vl_I p))]) (st' := [.int (5 : Int32), .int (6 : Int32)]) rfl Kz) ?_
    refine jv_Wp.lift (fun _ Kz => jv_Ev.br jv_i45 (pc' := 80) (st' := []) rfl (by rfl) Kz) ?_
    refine jv_Wp.lift (fun _ Kz => jv_Ev.steps jv_i45 2 (pc' := 82) (l' := [(5, .int (6 : Int32)), (4, .int (I (12 + 2 + 1) 7)), (3, .int (vl_I (vx_allowed M (vc_A I L 12) 5))), (0, .ref 10), (1, .int (5 : Int32)), (2, .int (vl_I p))]) (st' := [.int (1 : Int32), .int (5 : Int32)]) rfl Kz) ?_
    refine jv_Wp.lift (fun _ Kz => jv_Ev.br jv_i45 (pc' := 106) (st' := []) rfl (by rfl) Kz) ?_
    refine jv_Wp.lift (fun _ Kz => jv_Ev.steps jv_i45 1 (pc' := 107) (l' := [(5, .int (6 : Int32)), (4, .int (I (12 + 2 + 1) 7)), (3, .int (vl_I (vx_allowed M (vc_A I L 12) 5))), (0, .ref 10), (1, .int (5 : Int32)), (2, .int (vl_I p))]) (st' := [.ref 10]) rfl Kz) ?_
    refine jv_Wp.lift (fun _ Kz => jv_Ev.m jv_i45 (pc' := 110) (st' := [.ref 169]) (G' := (jv_H K I35 L35 R)) rfl rfl (jv_m_getR hC.k rfl rfl hC.rout) Kz) ?_
    refine jv_Wp.lift (fun _ Kz => jv_Ev.c jv_i45 (pc' := 113) (S' := []) (G1 := (jv_H K I35 (vl_set L35 169 vb_any) R)) jv_i149 [.ref 169] rfl rfl rfl rfl (jv_cal rfl (jv_H_at hC.k169) rfl rfl) rfl (vl_any (Or.inl hC.k169)) rfl rfl Kz) ?_
    refine jv_Wp.lift (fun _ Kz => jv_Ev.steps jv_i45 1 (pc' := 114) (l' := [(5, .int (6 : Int32)), (4, .int (I (12 + 2 + 1) 7)), (3, .int (vl_I (vx_allowed M (vc_A I L 12) 5))), (0, .ref 10), (1, .int (5 : Int32)), (2, .int (vl_I p))]) (st' := [.ref 10]) rfl Kz) ?_
    refine jv_Wp.lift (fun _ Kz => jv_Ev.m jv_i45 (pc' := 117) (st' := [.ref 12]) (G' := (jv_H K I35 (vl_set L35 169 vb_any) R)) rfl rfl (jv_m_getR hC.k rfl rfl hC.rnow) Kz) ?_
    refine jv_Wp.lift (fun _ Kz => jv_Ev.m jv_i45 (pc' := 120) (st' := [.ref (12 + 1)]) (G' := (jv_H K I35 (vl_set L35 169 vb_any) R)) rfl rfl (jv_m_getR hC.now.k rfl rfl hC.now.r) Kz) ?_
    refine jv_Wp.lift (fun _ Kz => jv_Ev.steps jv_i45 1 (pc' := 121) (l' := [(5, .int (6 : Int32)), (4, .int (I (12 + 2 + 1) 7)), (3, .int (vl_I (vx_allowed M (vc_A I L 12) 5))), (0, .ref 10), (1, .int (5 : Int32)), (2, .int (vl_I p))]) (st' := [.int (0 : Int32), .ref (12 + 1)]) rfl Kz) ?_
    refine jv_Wp.lift (fun _ Kz => jv_Ev.m jv_i45 (pc' := 122) (st' := [.ref (12 + 2 + 0)]) (G' := (jv_H K I35 (vl_set L35 169 vb_any) R)) rfl rfl (jv_m_aaldR hC.now.kt rfl (by decide) rfl (hC.now.rt 0 (by decide))) Kz) ?_
    refine jv_Wp.lift (fun _ Kz => jv_Ev.steps jv_i45 1 (pc' := 123) (l' := [(5, .int (6 : Int32)), (4, .int (I (12 + 2 + 1) 7)), (3, .int (vl_I (vx_allowed M (vc_A I L 12) 5))), (0, .ref 10), (1, .int (5 : Int32)), (2, .int (vl_I p))]) (st' := [.ref 10, .ref (12 + 2 + 0)]) rfl Kz) ?_
    refine jv_Wp.lift (fun _ Kz => jv_Ev.m jv_i45 (pc' := 126) (st' := [.ref 169, .ref (12 + 2 + 0)]) (G' := (jv_H K I35 (vl_set L35 169 vb_any) R)) rfl rfl (jv_m_getR hC.k rfl rfl hC.rout) Kz) ?_
    have f1 : (vx_allowed M (vc_A I L 12) 5) = 0 := (vl_I_inj (by omega) (by decide)).mp h1
    obtain ⟨I36, L36, H36, T36, O36, F36⟩ := vc_num (I := I35) (L := (vl_set L35 169 vb_any)) (R := R) (n := n) (sl := sl) (hC.now.kk 0 (by decide)) (Or.inl hC.k169)
    refine jv_Wp.lift (fun _ Kz => jv_Ev.c jv_i45 (pc' := 129) (S' := []) (G1 := (jv_H K I36 L36 R)) jv_i142 [.ref (12 + 2 + 0), .ref 169] rfl rfl rfl rfl (jv_cal rfl (jv_H_at (hC.now.kk 0 (by decide))) rfl rfl) rfl H36 rfl rfl Kz) ?_
    refine jv_Wp.lift (fun _ Kz => jv_Ev.steps jv_i45 1 (pc' := 130) (l' := [(5, .int (6 : Int32)), (4, .int (I (12 + 2 + 1) 7)), (3, .int (vl_I (vx_allowed M (vc_A I L 12) 5))), (0, .ref 10), (1, .int (5 : Int32)), (2, .int (vl_I p))]) (st' := [.int (0 : Int32)]) rfl Kz) ?_
    refine jv_Wp.of (jv_Ev.ret jv_i45 rfl rfl) ?_
    rw [hQ]
    have al : (vx_allowed M (vc_A I L 12) 5) = 0 := (vl_I_inj (Nat.lt_trans vx_allowed_lt (by decide)) (by decide)).mp h1
    obtain ⟨c1, c2, c3⟩ := vc_clear5 T31 O31 F31 T32 O32 F32 T33 O33 F33 T34 O34 F34 T35 O35 F35 oa
    have TT : vc_T I36 L36 (12 + 2 + 0) = vt_num vb_any := by rw [T36, vl_set_S]
    have FA : vc_fr (fun p => p = 12 + 2 + 0 ∨ (166 ≤ p ∧ p ≤ 170)) I35 L35 I36 L36 := vc_fr_trans (fun p hp => ⟨fun _ => rfl, fun f => vl_set_out (fun z => hp (Or.inr (by rw [z.1]; exact ⟨by decide, by decide⟩)))⟩) (vc_fr_mono F36 (fun p z => Or.inl z))
    have U := vc_up (r := 0) (by decide) TT O36 FA (fun n hn e q => by omega) (by omega) c2
    rw [c1] at U
    have e := vx_clp (p := p) al (by decide) (by decide)
    have FR : vc_fr vc_wk I L I36 L36 := vc_fr_trans (vc_fr_mono c3 (fun p z => Or.inl (by unfold vc_in; omega))) (vc_fr_mono FA (fun p z => z.imp (fun z => (by unfold vc_in; omega)) id))
    exact ⟨_, _, by rw [e]; rfl, fun _ => by rw [e]; exact U, FR, fun f => ((FA 12 (by omega)).1 f).trans ((c3 12 (by omega)).1 f)⟩
  · refine jv_Wp.lift (fun _ Kz => jv_Ev.steps jv_i45 1 (pc' := 11) (l' := [(3, .int (vl_I (vx_allowed M (vc_A I L 12) 5))), (0, .ref 10), (1, .int (5 : Int32)), (2, .int (vl_I p))]) (st' := [.int (vl_I (vx_allowed M (vc_A I L 12) 5))]) rfl Kz) ?_
    refine jv_Wp.of (jv_Ev.ret jv_i45 rfl rfl) ?_
    rw [hQ]
    have na : (vx_allowed M (vc_A I L 12) 5) ≠ 0 := fun z => h1 (by rw [z]; rfl)
    have e := vx_cl0 (p := p) na
    exact ⟨_, _, by rw [e], fun z => by rw [e] at z; exact absurd z na, vc_fr_refl _ _, fun _ => rfl⟩
theorem vc_call6 {K : Nat → Option (Nat × Nat)} {I : Nat → Nat → Int32} {L : Nat → Nat → Int64} {R : Nat → Nat → Value} {M : vf_M} (p : Nat) (hC : vc_C K R) (hM : vc_M K I R M) (hp2 : p < 2147483648) (hkn : (L 12 1).toInt ≤ 1073000000) (oa : vc_okA I L 12) (tA : ∀ n, n < 75 → vt_ok (vc_T I L (12 + 2 + n))) (gA : ∀ n, n < 75 → vc_g I L (12 + 2 + n)) (m6 : I (12 + 2 + 1) 6 = 6 → 0 ≤ (I (12 + 2 + 1) 7).toInt) {n sl : Nat} : ∃ I1 L1, jv_Ms 45 [.ref 10, .int (6 : Int32), .int (vl_I p)] (jv_H K I L R) n sl (some (.int (vl_I (vx_call M 6 p (vc_A I L 12)).1)), jv_H K I1 L1 R, n, sl) ∧ ((vx_call M 6 p (vc_A I L 12)).1 = 0 → vc_A I1 L1 12 = (vx_call M 6 p (vc_A I L 12)).2 ∧ vc_okA I1 L1 12) ∧ vc_fr vc_wk I L I1 L1 ∧ ∀ f, I1 12 f = I 12 f := by
  obtain ⟨Q, hQ⟩ : ∃ Q : jv_R → Prop, Q = fun X => ∃ I1 L1, X = (some (.int (vl_I (vx_call M 6 p (vc_A I L 12)).1)), jv_H K I1 L1 R, n, sl) ∧ ((vx_call M 6 p (vc_A I L 12)).1 = 0 → vc_A I1 L1 12 = (vx_call M 6 p (vc_A I L 12)).2 ∧ vc_okA I1 L1 12) ∧ vc_fr vc_wk I L I1 L1 ∧ ∀ f, I1 12 f = I 12 f := ⟨_, rfl⟩
  suffices h : jv_Wp 45 0 [(0, .ref 10), (1, .int (6 : Int32)), (2, .int (vl_I p))] [] (jv_H K I L R) n sl Q by
    rw [hQ] at h
    obtain ⟨X, h, I1, L1, e, h'⟩ := h
    subst e
    exact ⟨I1, L1, h, h'⟩
  have alt := vx_allowed_lt (M := M) (A := vc_A I L 12) (c := 6)
  refine jv_Wp.lift (fun _ Kz => jv_Ev.steps jv_i45 2 (pc' := 2) (l' := [(0, .ref 10), (1, .int (6 : Int32)), (2, .int (vl_I p))]) (st' := [.int (6 : Int32), .ref 10]) rfl Kz) ?_
  obtain ⟨I37, L37, H37, ei37, el37⟩ := vc_allowed6 (I := I) (L := L) (R := R) (n := n) (sl := sl) (M := M) hC hM hkn oa tA gA m6
  rw [ei37, el37] at H37
  refine jv_Wp.lift (fun _ Kz => jv_Ev.c jv_i45 (pc' := 5) (S' := [.int (vl_I (vx_allowed M (vc_A I L 12) 6))]) jv_i46 [.ref 10, .int (6 : Int32)] rfl rfl rfl rfl (jv_cal rfl (jv_H_at hC.k) rfl rfl) rfl H37 rfl rfl Kz) ?_
  refine jv_Wp.lift (fun _ Kz => jv_Ev.steps jv_i45 2 (pc' := 7) (l' := [(3, .int (vl_I (vx_allowed M (vc_A I L 12) 6))), (0, .ref 10), (1, .int (6 : Int32)), (2, .int (vl_I p))]) (st' := [.int (vl_I (vx_allowed M (vc_A I L 12) 6))]) rfl Kz) ?_
  refine jv_Wp.cnd jv_i45 (pt := 12) (pe := 10) (p := ((vl_I (vx_allowed M (vc_A I L 12) 6)) = 0)) (q := ((vl_I (vx_allowed M (vc_A I L 12) 6)) = 0)) rfl jv_bi_eq rfl rfl Iff.rfl (fun h1 => ?_) (fun h1 => ?_)
  · refine jv_Wp.lift (fun _ Kz => jv_Ev.steps jv_i45 1 (pc' := 13) (l' := [(3, .int (vl_I (vx_allowed M (vc_A I L 12) 6))), (0, .ref 10), (1, .int (6 : Int32)), (2, .int (vl_I p))]) (st' := [.ref 10]) rfl Kz) ?_
    refine jv_Wp.lift (fun _ Kz => jv_Ev.m jv_i45 (pc' := 16) (st' := [.ref 12]) (G' := (jv_H K I L R)) rfl rfl (jv_m_getR hC.k rfl rfl hC.rnow) Kz) ?_
    refine jv_Wp.lift (fun _ Kz => jv_Ev.m jv_i45 (pc' := 19) (st' := [.ref (12 + 1)]) (G' := (jv_H K I L R)) rfl rfl (jv_m_getR hC.now.k rfl rfl hC.now.r) Kz) ?_
    refine jv_Wp.lift (fun _ Kz => jv_Ev.steps jv_i45 1 (pc' := 20) (l' := [(3, .int (vl_I (vx_allowed M (vc_A I L 12) 6))), (0, .ref 10), (1, .int (6 : Int32)), (2, .int (vl_I p))]) (st' := [.int (1 : Int32), .ref (12 + 1)]) rfl Kz) ?_
    refine jv_Wp.lift (fun _ Kz => jv_Ev.m jv_i45 (pc' := 21) (st' := [.ref (12 + 2 + 1)]) (G' := (jv_H K I L R)) rfl rfl (jv_m_aaldR hC.now.kt rfl (by decide) rfl (hC.now.rt 1 (by decide))) Kz) ?_
    refine jv_Wp.lift (fun _ Kz => jv_Ev.m jv_i45 (pc' := 24) (st' := [.int (I (12 + 2 + 1) 7)]) (G' := (jv_H K I L R)) rfl rfl (jv_m_getI (hC.now.kk 1 (by decide)) rfl rfl rfl) Kz) ?_
    refine jv_Wp.lift (fun _ Kz => jv_Ev.steps jv_i45 3 (pc' := 28) (l' := [(4, .int (I (12 + 2 + 1) 7)), (3, .int (vl_I (vx_allowed M (vc_A I L 12) 6))), (0, .ref 10), (1, .int (6 : Int32)), (2, .int (vl_I p))]) (st' := [.int (1 : Int32), .int (6 : Int32)]) rfl Kz) ?_
    refine jv_Wp.lift (fun _ Kz => jv_Ev.br jv_i45 (pc' := 39) (st' := []) rfl (by rfl) Kz) ?_
    refine jv_Wp.lift (fun _ Kz => jv_Ev.steps jv_i45 2 (pc' := 42) (l' := [(4, .int (I (12 + 2 + 1) 7)), (3, .int (vl_I (vx_allowed M (vc_A I L 12) 6))), (0, .ref 10), (1, .int (6 : Int32)), (2, .int (vl_I p))]) (st' := [.int (6 : Int32), .int (6 : Int32)]) rfl Kz) ?_
    refine jv_Wp.lift (fun _ Kz => jv_Ev.br jv_i45 (pc' := 45) (st' := []) rfl (by rfl) Kz) ?_
    refine jv_Wp.lift (fun _ Kz => jv_Ev.steps jv_i45 1 (pc' := 46) (l' := [(4, .int (I (12 + 2 + 1) 7)), (3, .int (vl_I (vx_allowed M (vc_A I L 12) 6))), (0, .ref 10), (1, .int (6 : Int32)), (2, .int (vl_I p))]) (st' := [.ref 10]) rfl Kz) ?_
    refine jv_Wp.lift (fun _ Kz => jv_Ev.m jv_i45 (pc' := 49) (st' := [.ref 12]) (G' := (jv_H K I L R)) rfl rfl (jv_m_getR hC.k rfl rfl hC.rnow) Kz) ?_
    obtain ⟨I38, L38, H38, T38, O38, F38, G38⟩ := vc_forgetP (I := I) (L := L) (R := R) (n := n) (sl := sl) hC.now oa
    refine jv_Wp.lift (fun _ Kz => jv_Ev.c jv_i45 (pc' := 52) (S' := []) (G1 := (jv_H K I38 L38 R)) jv_i118 [.ref 12] rfl rfl rfl rfl (jv_cal rfl (jv_H_at hC.now.k) rfl rfl) rfl H38 rfl rfl Kz) ?_
    refine jv_Wp.lift (fun _ Kz => jv_Ev.steps jv_i45 4 (pc' := 58) (l' := [(5, .int (1 : Int32)), (4, .int (I (12 + 2 + 1) 7)), (3, .int (vl_I (vx_allowed M (vc_A I L 12) 6))), (0, .ref 10), (1, .int (6 : Int32)), (2, .int (vl_I p))]) (st' := [.int (5 : Int32), .int (1 : Int32)]) rfl Kz) ?_
    refine jv_Wp.lift (fun _ Kz => jv_Ev.br jv_i45 (pc' := 61) (st' := []) rfl (by rfl) Kz) ?_
    refine jv_Wp.lift (fun _ Kz => jv_Ev.steps jv_i45 1 (pc' := 62) (l' := [(5, .int (1 : Int32)), (4, .int (I (12 + 2 + 1) 7)), (3, .int (vl_I (vx_allowed M (vc_A I L 12) 6))), (0, .ref 10), (1, .int (6 : Int32)), (2, .int (vl_I p))]) (st' := [.ref 10]) rfl Kz) ?_
    refine jv_Wp.lift (fun _ Kz => jv_Ev.m jv_i45 (pc' := 65) (st' := [.ref 12]) (G' := (jv_H K I38 L38 R)) rfl rfl (jv_m_getR hC.k rfl rfl hC.rnow) Kz) ?_
    refine jv_Wp.lift (fun _ Kz => jv_Ev.m jv_i45 (pc' := 68) (st' := [.ref (12 + 1)]) (G' := (jv_H K I38 L38 R)) rfl rfl (jv_m_getR hC.now.k rfl rfl hC.now.r) Kz) ?_
    refine jv_Wp.lift (fun _ Kz => jv_Ev.steps jv_i45 1 (pc' := 70) (l' := [(5, .int (1 : Int32)), (4, .int (I (12 + 2 + 1) 7)), (3, .int (vl_I (vx_allowed M (vc_A I L 12) 6))), (0, .ref 10), (1, .int (6 : Int32)), (2, .int (vl_I p))]) (st' := [.int (1 : Int32), .ref (12 + 1)]) rfl Kz) ?_
    refine jv_Wp.lift (fun _ Kz => jv_Ev.m jv_i45 (pc' := 71) (st' := [.ref (12 + 2 + 1)]) (G' := (jv_H K I38 L38 R)) rfl rfl (jv_m_aaldR hC.now.kt rfl (by decide) rfl (hC.now.rt 1 (by decide))) Kz) ?_
    obtain ⟨I39, L39, H39, T39, O39, F39⟩ := vc_none (I := I38) (L := L38) (R := R) (n := n) (sl := sl) (hC.now.kk 1 (by decide))
    refine jv_Wp.lift (fun _ Kz => jv_Ev.c jv_i45 (pc' := 74) (S' := []) (G1 := (jv_H K I39 L39 R)) jv_i141 [.ref (12 + 2 + 1)] rfl rfl rfl rfl (jv_cal rfl (jv_H_at (hC.now.kk 1 (by decide))) rfl rfl) rfl H39 rfl rfl Kz) ?_
    refine jv_Wp.lift (fun _ Kz => jv_Ev.steps jv_i45 4 (pc' := 58) (l' := [(5, .int (2 : Int32)), (4, .int (I (12 + 2 + 1) 7)), (3, .int (vl_I (vx_allowed M (vc_A I L 12) 6))), (0, .ref 10), (1, .int (6 : Int32)), (2, .int (vl_I p))]) (st' := [.int (5 : Int32), .int (2 : Int32)]) rfl Kz) ?_
    refine jv_Wp.lift (fun _ Kz => jv_Ev.br jv_i45 (pc' := 61) (st' := []) rfl (by rfl) Kz) ?_
    refine jv_Wp.lift (fun _ Kz => jv_Ev.steps jv_i45 1 (pc' := 62) (l' := [(5, .int (2 : Int32)), (4, .int (I (12 + 2 + 1) 7)), (3, .int (vl_I (vx_allowed M (vc_A I L 12) 6))), (0, .ref 10), (1, .int (6 : Int32)), (2, .int (vl_I p))]) (st' := [.ref 10]) rfl Kz) ?_
    refine jv_Wp.lift (fun _ Kz => jv_Ev.m jv_i45 (pc' := 65) (st' := [.ref 12]) (G' := (jv_H K I39 L39 R)) rfl rfl (jv_m_getR hC.k rfl rfl hC.rnow) Kz) ?_
    refine jv_Wp.lift (fun _ Kz => jv_Ev.m jv_i45 (pc' := 68) (st' := [.ref (12 + 1)]) (G' := (jv_H K I39 L39 R)) rfl rfl (jv_m_getR hC.now.k rfl rfl hC.now.r) Kz) ?_
    refine jv_Wp.lift (fun _ Kz => jv_Ev.steps jv_i45 1 (pc' := 70) (l' := [(5, .int (2 : Int32)), (4, .int (I (12 + 2 + 1) 7)), (3, .int (vl_I (vx_allowed M (vc_A I L 12) 6))), (0, .ref 10), (1, .int (6 : Int32)), (2, .int (vl_I p))]) (st' := [.int (2 : Int32), .ref (12 + 1)]) rfl Kz) ?_
    refine jv_Wp.lift (fun _ Kz => jv_Ev.m jv_i45 (pc' := 71) (st' := [.ref (12 + 2 + 2)]) (G' := (jv_H K I39 L39 R)) rfl rfl (jv_m_aaldR hC.now.kt rfl (by decide) rfl (hC.now.rt 2 (by decide))) Kz) ?_
    obtain ⟨I40, L40, H40, T40, O40, F40⟩ := vc_none (I := I39) (L := L39) (R := R) (n := n) (sl := sl) (hC.now.kk 2 (by decide))
    refine jv_Wp.lift (fun _ Kz => jv_Ev.c jv_i45 (pc' := 74) (S' := []) (G1 := (jv_H K I40 L40 R)) jv_i141 [.ref (12 + 2 + 2)] rfl rfl rfl rfl (jv_cal rfl (jv_H_at (hC.now.kk 2 (by decide))) rfl rfl) rfl H40 rfl rfl Kz) ?_
    refine jv_Wp.lift (fun _ Kz => jv_Ev.steps jv_i45 4 (pc' := 58) (l' := [(5, .int (3 : Int32)), (4, .int (I (12 + 2 + 1) 7)), (3, .int (vl_I (vx_allowed M (vc_A I L 12) 6))), (0, .ref 10), (1, .int (6 : Int32)), (2, .int (vl_I p))]) (st' := [.int (5 : Int32), .int (3 : Int32)]) rfl Kz) ?_
    refine jv_Wp.lift (fun _ Kz => jv_Ev.br jv_i45 (pc' := 61) (st' := []) rfl (by rfl) Kz) ?_
    refine jv_Wp.lift (fun _ Kz => jv_Ev.steps jv_i45 1 (pc' := 62) (l' := [(5, .int (3 : Int32)), (4, .int (I (12 + 2 + 1) 7)), (3, .int (vl_I (vx_allowed M (vc_A I L 12) 6))), (0, .ref 10), (1, .int (6 : Int32)), (2, .int (vl_I p))]) (st' := [.ref 10]) rfl Kz) ?_
    refine jv_Wp.lift (fun _ Kz => jv_Ev.m jv_i45 (pc' := 65) (st' := [.ref 12]) (G' := (jv_H K I40 L40 R)) rfl rfl (jv_m_getR hC.k rfl rfl hC.rnow) Kz) ?_
    refine jv_Wp.lift (fun _ Kz => jv_Ev.m jv_i45 (pc' := 68) (st' := [.ref (12 + 1)]) (G' := (jv_H K I40 L40 R)) rfl rfl (jv_m_getR hC.now.k rfl rfl hC.now.r) Kz) ?_
    refine jv_Wp.lift (fun _ Kz => jv_Ev.steps jv_i45 1 (pc' := 70) (l' := [(5, .int (3 : Int32)), (4, .int (I (12 + 2 + 1) 7)), (3, .int (vl_I (vx_allowed M (vc_A I L 12) 6))), (0, .ref 10), (1, .int (6 : Int32)), (2, .int (vl_I p))]) (st' := [.int (3 : Int32), .ref (12 + 1)]) rfl Kz) ?_
    refine jv_Wp.lift (fun _ Kz => jv_Ev.m jv_i45 (pc' := 71) (st' := [.ref (12 + 2 + 3)]) (G' := (jv_H K I40 L40 R)) rfl rfl (jv_m_aaldR hC.now.kt rfl (by decide) rfl (hC.now.rt 3 (by decide))) Kz) ?_
    obtain ⟨I41, L41, H41, T41, O41, F41⟩ := vc_none (I := I40) (L := L40) (R := R) (n := n) (sl := sl) (hC.now.kk 3 (by decide))
    refine jv_Wp.lift (fun _ Kz => jv_Ev.c jv_i45 (pc' := 74) (S' := []) (G1 := (jv_H K I41 L41 R)) jv_i141 [.ref (12 + 2 + 3)] rfl rfl rfl rfl (jv_cal rfl (jv_H_at (hC.now.kk 3 (by decide))) rfl rfl) rfl H41 rfl rfl Kz) ?_
    refine jv_Wp.lift (fun _ Kz => jv_Ev.steps jv_i45 4 (pc' := 58) (l' := [(5, .int (4 : Int32)), (4, .int (I (12 + 2 + 1) 7)), (3, .int (vl_I (vx_allowed M (vc_A I L 12) 6))), (0, .ref 10), (1, .int (6 : Int32)), (2, .int (vl_I p))]) (st' := [.int (5 : Int32), .int (4 : Int32)]) rfl Kz) ?_
    refine jv_Wp.lift (fun _ Kz => jv_Ev.br jv_i45 (pc' := 61) (st' := []) rfl (by rfl) Kz) ?_
    refine jv_Wp.lift (fun _ Kz => jv_Ev.steps jv_i45 1 (pc' := 62) (l' := [(5, .int (4 : Int32)), (4, .int (I (12 + 2 + 1) 7)), (3, .int (vl_I (vx_allowed M (vc_A I L 12) 6))), (0, .ref 10), (1, .int (6 : Int32)), (2, .int (vl_I p))]) (st' := [.ref 10]) rfl Kz) ?_
    refine jv_Wp.lift (fun _ Kz => jv_Ev.m jv_i45 (pc' := 65) (st' := [.ref 12]) (G' := (jv_H K I41 L41 R)) rfl rfl (jv_m_getR hC.k rfl rfl hC.rnow) Kz) ?_
    refine jv_Wp.lift (fun _ Kz => jv_Ev.m jv_i45 (pc' := 68) (st' := [.ref (12 + 1)]) (G' := (jv_H K I41 L41 R)) rfl rfl (jv_m_getR hC.now.k rfl rfl hC.now.r) Kz) ?_
    refine jv_Wp.lift (fun _ Kz => jv_Ev.steps jv_i45 1 (pc' := 70) (l' := [(5, .int (4 : Int32)), (4, .int (I (12 + 2 + 1) 7)), (3, .int (vl_I (vx_allowed M (vc_A I L 12) 6))), (0, .ref 10), (1, .int (6 : Int32)), (2, .int (vl_I p))]) (st' := [.int (4 : Int32), .ref (12 + 1)]) rfl Kz) ?_
    refine jv_Wp.lift (fun _ Kz => jv_Ev.m jv_i45 (pc' := 71) (st' := [.ref (12 + 2 + 4)]) (G' := (jv_H K I41 L41 R)) rfl rfl (jv_m_aaldR hC.now.kt rfl (by decide) rfl (hC.now.rt 4 (by decide))) Kz) ?_
    obtain ⟨I42, L42, H42, T42, O42, F42⟩ := vc_none (I := I41) (L := L41) (R := R) (n := n) (sl := sl) (hC.now.kk 4 (by decide))
    refine jv_Wp.lift (fun _ Kz => jv_Ev.c jv_i45 (pc' := 74) (S' := []) (G1 := (jv_H K I42 L42 R)) jv_i141 [.ref (12 + 2 + 4)] rfl rfl rfl rfl (jv_cal rfl (jv_H_at (hC.now.kk 4 (by decide))) rfl rfl) rfl H42 rfl rfl Kz) ?_
    refine jv_Wp.lift (fun _ Kz => jv_Ev.steps jv_i45 4 (pc' := 58) (l' := [(5, .int (5 : Int32)), (4, .int (I (12 + 2 + 1) 7)), (3, .int (vl_I (vx_allowed M (vc_A I L 12) 6))), (0, .ref 10), (1, .int (6 : Int32)), (2, .int (vl_I p))]) (st' := [.int (5 : Int32), .int (5 : Int32)]) rfl Kz) ?_
    refine jv_Wp.lift (fun _ Kz => jv_Ev.br jv_i45 (pc' := 61) (st' := []) rfl (by rfl) Kz) ?_
    refine jv_Wp.lift (fun _ Kz => jv_Ev.steps jv_i45 1 (pc' := 62) (l' := [(5, .int (5 : Int32)), (4, .int (I (12 + 2 + 1) 7)), (3, .int (vl_I (vx_allowed M (vc_A I L 12) 6))), (0, .ref 10), (1, .int (6 : Int32)), (2, .int (vl_I p))]) (st' := [.ref 10]) rfl Kz) ?_
    refine jv_Wp.lift (fun _ Kz => jv_Ev.m jv_i45 (pc' := 65) (st' := [.ref 12]) (G' := (jv_H K I42 L42 R)) rfl rfl (jv_m_getR hC.k rfl rfl hC.rnow) Kz) ?_
    refine jv_Wp.lift (fun _ Kz => jv_Ev.m jv_i45 (pc' := 68) (st' := [.ref (12 + 1)]) (G' := (jv_H K I42 L42 R)) rfl rfl (jv_m_getR hC.now.k rfl rfl hC.now.r) Kz) ?_
    refine jv_Wp.lift (fun _ Kz => jv_Ev.steps jv_i45 1 (pc' := 70) (l' := [(5, .int (5 : Int32)), (4, .int (I (12 + 2 + 1) 7)), (3, .int (vl_I (vx_allowed M (vc_A I L 12) 6))), (0, .ref 10), (1, .int (6 : Int32)), (2, .int (vl_I p))]) (st' := [.int (5 : Int32), .ref (12 + 1)]) rfl Kz) ?_
    refine jv_Wp.lift (fun _ Kz => jv_Ev.m jv_i45 (pc' := 71) (st' := [.ref (12 + 2 + 5)]) (G' := (jv_H K I42 L42 R)) rfl rfl (jv_m_aaldR hC.now.kt rfl (by decide) rfl (hC.now.rt 5 (by decide))) Kz) ?_
    obtain ⟨I43, L43, H43, T43, O43, F43⟩ := vc_none (I := I42) (L := L42) (R := R) (n := n) (sl := sl) (hC.now.kk 5 (by decide))
    refine jv_Wp.lift (fun _ Kz => jv_Ev.c jv_i45 (pc' := 74) (S' := []) (G1 := (jv_H K I43 L43 R)) jv_i141 [.ref (12 + 2 + 5)] rfl rfl rfl rfl (jv_cal rfl (jv_H_at (hC.now.kk 5 (by decide))) rfl rfl) rfl H43 rfl rfl Kz) ?_
    refine jv_Wp.lift (fun _ Kz => jv_Ev.steps jv_i45 4 (pc' := 58) (l' := [(5, .int (6 : Int32)), (4, .int (I (12 + 2 + 1) 7)), (3, .int (vl_I (vx_allowed M (vc_A I L 12) 6))), (0, .ref 10), (1, .int (6 : Int32)), (2, .int (vl_I p))]) (st' := [.int (5 : Int32), .int (6 : Int32)]) rfl Kz) ?_
    refine jv_Wp.lift (fun _ Kz => jv_Ev.br jv_i45 (pc' := 80) (st' := []) rfl (by rfl) Kz) ?_
    refine jv_Wp.lift (fun _ Kz => jv_Ev.steps jv_i45 2 (pc' := 82) (l' := [(5, .int (6 : Int32)), (4, .int (I (12 + 2 + 1) 7)), (3, .int (vl_I (vx_allowed M (vc_A I L 12) 6))), (0, .ref 10), (1, .int (6 : Int32)), (2, .int (vl_I p))]) (st' := [.int (1 : Int32), .int (6 : Int32)]) rfl Kz) ?_
    refine jv_Wp.lift (fun _ Kz => jv_Ev.br jv_i45 (pc' := 106) (st' := []) rfl (by rfl) Kz) ?_
    refine jv_Wp.lift (fun _ Kz => jv_Ev.steps jv_i45 1 (pc' := 107) (l' := [(5, .int (6 : Int32)), (4, .int (I (12 + 2 + 1) 7)), (3, .int (vl_I (vx_allowed M (vc_A I L 12) 6))), (0, .ref 10), (1, .int (6 : Int32)), (2, .int (vl_I p))]) (st' := [.ref 10]) rfl Kz) ?_
    refine jv_Wp.lift (fun _ Kz => jv_Ev.m jv_i45 (pc' := 110) (st' := [.ref 169]) (G' := (jv_H K I43 L43 R)) rfl rfl (jv_m_getR hC.k rfl rfl hC.rout) Kz) ?_
    refine jv_Wp.lift (fun _ Kz => jv_Ev.c jv_i45 (pc' := 113) (S' := []) (G1 := (jv_H K I43 (vl_set L43 169 vb_any) R)) jv_i149 [.ref 169] rfl rfl rfl rfl (jv_cal rfl (jv_H_at hC.k169) rfl rfl) rfl (vl_any (Or.inl hC.k169)) rfl rfl Kz) ?_
    refine jv_Wp.lift (fun _ Kz => jv_Ev.steps jv_i45 1 (pc' := 114) (l' := [(5, .int (6 : Int32)), (4, .int (I (12 + 2 + 1) 7)), (3, .int (vl_I (vx_allowed M (vc_A I L 12) 6))), (0, .ref 10), (1, .int (6 : Int32)), (2, .int (vl_I p))]) (st' := [.ref 10]) rfl Kz) ?_
    refine jv_Wp.lift (fun _ Kz => jv_Ev.m jv_i45 (pc' := 117) (st' := [.ref 12]) (G' := (jv_H K I43 (vl_set L43 169 vb_any) R)) rfl rfl (jv_m_getR hC.k rfl rfl hC.rnow) Kz) ?_
    refine jv_Wp.lift (fun _ Kz => jv_Ev.m jv_i45 (pc' := 120) (st' := [.ref (12 + 1)]) (G' := (jv_H K I43 (vl_set L43 169 vb_any) R)) rfl rfl (jv_m_getR hC.now.k rfl rfl hC.now.r) Kz) ?_
    refine jv_Wp.lift (fun _ Kz => jv_Ev.steps jv_i45 1 (pc' := 121) (l' := [(5, .int (6 : Int32)), (4, .int (I (12 + 2 + 1) 7)), (3, .int (vl_I (vx_allowed M (vc_A I L 12) 6))), (0, .ref 10), (1, .int (6 : Int32)), (2, .int (vl_I p))]) (st' := [.int (0 : Int32), .ref (12 + 1)]) rfl Kz) ?_
    refine jv_Wp.lift (fun _ Kz => jv_Ev.m jv_i45 (pc' := 122) (st' := [.ref (12 + 2 + 0)]) (G' := (jv_H K I43 (vl_set L43 169 vb_any) R)) rfl rfl (jv_m_aaldR hC.now.kt rfl (by decide) rfl (hC.now.rt 0 (by decide))) Kz) ?_
    refine jv_Wp.lift (fun _ Kz => jv_Ev.steps jv_i45 1 (pc' := 123) (l' := [(5, .int (6 : Int32)), (4, .int (I (12 + 2 + 1) 7)), (3, .int (vl_I (vx_allowed M (vc_A I L 12) 6))), (0, .ref 10), (1, .int (6 : Int32)), (2, .int (vl_I p))]) (st' := [.ref 10, .ref (12 + 2 + 0)]) rfl Kz) ?_
    refine jv_Wp.lift (fun _ Kz => jv_Ev.m jv_i45 (pc' := 126) (st' := [.ref 169, .ref (12 + 2 + 0)]) (G' := (jv_H K I43 (vl_set L43 169 vb_any) R)) rfl rfl (jv_m_getR hC.k rfl rfl hC.rout) Kz) ?_
    have f1 : (vx_allowed M (vc_A I L 12) 6) = 0 := (vl_I_inj (by omega) (by decide)).mp h1
    obtain ⟨I44, L44, H44, T44, O44, F44⟩ := vc_num (I := I43) (L := (vl_set L43 169 vb_any)) (R := R) (n := n) (sl := sl) (hC.now.kk 0 (by decide)) (Or.inl hC.k169)
    refine jv_Wp.lift (fun _ Kz => jv_Ev.c jv_i45 (pc' := 129) (S' := []) (G1 := (jv_H K I44 L44 R)) jv_i142 [.ref (12 + 2 + 0), .ref 169] rfl rfl rfl rfl (jv_cal rfl (jv_H_at (hC.now.kk 0 (by decide))) rfl rfl) rfl H44 rfl rfl Kz) ?_
    refine jv_Wp.lift (fun _ Kz => jv_Ev.steps jv_i45 1 (pc' := 130) (l' := [(5, .int (6 : Int32)), (4, .int (I (12 + 2 + 1) 7)), (3, .int (vl_I (vx_allowed M (vc_A I L 12) 6))), (0, .ref 10), (1, .int (6 : Int32)), (2, .int (vl_I p))]) (st' := [.int (0 : Int32)]) rfl Kz) ?_
    refine jv_Wp.of (jv_Ev.ret jv_i45 rfl rfl) ?_
    rw [hQ]
    have al : (vx_allowed M (vc_A I L 12) 6) = 0 := (vl_I_inj (Nat.lt_trans vx_allowed_lt (by decide)) (by decide)).mp h1
    obtain ⟨c1, c2, c3⟩ := vc_clear5 T39 O39 F39 T40 O40 F40 T41 O41 F41 T42 O42 F42 T43 O43 F43 O38
    have TT : vc_T I44 L44 (12 + 2 + 0) = vt_num vb_any := by rw [T44, vl_set_S]
    rw [T38] at c1
    have FA : vc_fr (fun p => p = 12 + 2 + 0 ∨ (166 ≤ p ∧ p ≤ 170)) I43 L43 I44 L44 := vc_fr_trans (fun p hp => ⟨fun _ => rfl, fun f => vl_set_out (fun z => hp (Or.inr (by rw [z.1]; exact ⟨by decide, by decide⟩)))⟩) (vc_fr_mono F44 (fun p z => Or.inl z))
    have U := vc_up (r := 0) (by decide) TT O44 FA (fun n hn e q => by omega) (by omega) c2
    rw [c1] at U
    have e := vx_cl6 (p := p) al
    have FR : vc_fr vc_wk I L I44 L44 := vc_fr_trans (vc_fr_mono F38 (fun p z => Or.inl z)) (vc_fr_trans (vc_fr_mono c3 (fun p z => Or.inl (by unfold vc_in; omega))) (vc_fr_mono FA (fun p z => z.imp (fun z => (by unfold vc_in; omega)) id)))
    exact ⟨_, _, by rw [e]; rfl, fun _ => by rw [e]; exact U, FR, fun f => (((FA 12 (by omega)).1 f).trans ((c3 12 (by omega)).1 f)).trans (G38 f)⟩
  · refine jv_Wp.lift (fun _ Kz => jv_Ev.steps jv_i45 1 (pc' := 11) (l' := [(3, .int (vl_I (vx_allowed M (vc_A I L 12) 6))), (0, .ref 10), (1, .int (6 : Int32)), (2, .int (vl_I p))]) (st' := [.int (vl_I (vx_allowed M (vc_A I L 12) 6))]) rfl Kz) ?_
    refine jv_Wp.of (jv_Ev.ret jv_i45 rfl rfl) ?_
    rw [hQ]
    have na : (vx_allowed M (vc_A I L 12) 6) ≠ 0 := fun z => h1 (by rw [z]; rfl)
    have e := vx_cl0 (p := p) na
    exact ⟨_, _, by rw [e], fun z => by rw [e] at z; exact absurd z na, vc_fr_refl _ _, fun _ => rfl⟩
theorem vc_callO {K : Nat → Option (Nat × Nat)} {I : Nat → Nat → Int32} {L : Nat → Nat → Int64} {R : Nat → Nat → Value} (i : Int32) {M : vf_M} (p : Nat) (hC : vc_C K R) (hi : i.toInt < 1 ∨ 6 < i.toInt) {n sl : Nat} : ∃ I1 L1, jv_Ms 45 [.ref 10, .int i, .int (vl_I p)] (jv_H K I L R) n sl (some (.int (vl_I (vx_call M i.toInt p (vc_A I L 12)).1)), jv_H K I1 L1 R, n, sl) ∧ ((vx_call M i.toInt p (vc_A I L 12)).1 = 0 → vc_A I1 L1 12 = (vx_call M i.toInt p (vc_A I L 12)).2 ∧ vc_okA I1 L1 12) ∧ vc_fr vc_wk I L I1 L1 ∧ ∀ f, I1 12 f = I 12 f := by
  obtain ⟨Q, hQ⟩ : ∃ Q : jv_R → Prop, Q = fun X => ∃ I1 L1, X = (some (.int (vl_I (vx_call M i.toInt p (vc_A I L 12)).1)), jv_H K I1 L1 R, n, sl) ∧ ((vx_call M i.toInt p (vc_A I L 12)).1 = 0 → vc_A I1 L1 12 = (vx_call M i.toInt p (vc_A I L 12)).2 ∧ vc_okA I1 L1 12) ∧ vc_fr vc_wk I L I1 L1 ∧ ∀ f, I1 12 f = I 12 f := ⟨_, rfl⟩
  suffices h : jv_Wp 45 0 [(0, .ref 10), (1, .int i), (2, .int (vl_I p))] [] (jv_H K I L R) n sl Q by
    rw [hQ] at h
    obtain ⟨X, h, I1, L1, e, h'⟩ := h
    subst e
    exact ⟨I1, L1, h, h'⟩
  have alt := vx_allowed_lt (M := M) (A := vc_A I L 12) (c := i.toInt)
  refine jv_Wp.lift (fun _ Kz => jv_Ev.steps jv_i45 2 (pc' := 2) (l' := [(0, .ref 10), (1, .int i), (2, .int (vl_I p))]) (st' := [.int i, .ref 10]) rfl Kz) ?_
  obtain ⟨I45, L45, H45, ei45, el45⟩ := vc_allowedO (I := I) (L := L) (R := R) (n := n) (sl := sl) (M := M) i hC hi
  rw [ei45, el45] at H45
  refine jv_Wp.lift (fun _ Kz => jv_Ev.c jv_i45 (pc' := 5) (S' := [.int (vl_I (vx_allowed M (vc_A I L 12) i.toInt))]) jv_i46 [.ref 10, .int i] rfl rfl rfl rfl (jv_cal rfl (jv_H_at hC.k) rfl rfl) rfl H45 rfl rfl Kz) ?_
  refine jv_Wp.lift (fun _ Kz => jv_Ev.steps jv_i45 2 (pc' := 7) (l' := [(3, .int (vl_I (vx_allowed M (vc_A I L 12) i.toInt))), (0, .ref 10), (1, .int i), (2, .int (vl_I p))]) (st' := [.int (vl_I (vx_allowed M (vc_A I L 12) i.toInt))]) rfl Kz) ?_
  refine jv_Wp.cnd jv_i45 (pt := 12) (pe := 10) (p := ((vl_I (vx_allowed M (vc_A I L 12) i.toInt)) = 0)) (q := ((vl_I (vx_allowed M (vc_A I L 12) i.toInt)) = 0)) rfl jv_bi_eq rfl rfl Iff.rfl (fun hz => absurd hz (fun z => by rw [vx_al7 hi] at z; exact absurd z (by decide))) (fun _ => ?_)
  refine jv_Wp.lift (fun _ Kz => jv_Ev.steps jv_i45 1 (pc' := 11) (l' := [(3, .int (vl_I (vx_allowed M (vc_A I L 12) i.toInt))), (0, .ref 10), (1, .int i), (2, .int (vl_I p))]) (st' := [.int (vl_I (vx_allowed M (vc_A I L 12) i.toInt))]) rfl Kz) ?_
  refine jv_Wp.of (jv_Ev.ret jv_i45 rfl rfl) ?_
  rw [hQ]
  have na : (vx_allowed M (vc_A I L 12) i.toInt) ≠ 0 := by rw [vx_al7 hi]; decide
  have e := vx_cl0 (p := p) na
  exact ⟨_, _, by rw [e], fun z => by rw [e] at z; exact absurd z na, vc_fr_refl _ _, fun _ => rfl⟩
theorem vc_call {K : Nat → Option (Nat × Nat)} {I : Nat → Nat → Int32} {L : Nat → Nat → Int64} {R : Nat → Nat → Value} {M : vf_M} (i : Int32) (p : Nat) (hC : vc_C K R) (hM : vc_M K I R M) (hp2 : p < 2147483648) (hkn : (L 12 1).toInt ≤ 1073000000) (oa : vc_okA I L 12) (tA : ∀ n, n < 75 → vt_ok (vc_T I L (12 + 2 + n))) (gA : ∀ n, n < 75 → vc_g I L (12 + 2 + n)) (m6 : I (12 + 2 + 1) 6 = 6 → 0 ≤ (I (12 + 2 + 1) 7).toInt) {n sl : Nat} : ∃ I1 L1, jv_Ms 45 [.ref 10, .int i, .int (vl_I p)] (jv_H K I L R) n sl (some (.int (vl_I (vx_call M i.toInt p (vc_A I L 12)).1)), jv_H K I1 L1 R, n, sl) ∧ ((vx_call M i.toInt p (vc_A I L 12)).1 = 0 → vc_A I1 L1 12 = (vx_call M i.toInt p (vc_A I L 12)).2 ∧ vc_okA I1 L1 12) ∧ vc_fr vc_wk I L I1 L1 ∧ ∀ f, I1 12 f = I 12 f := by
  by_cases hi : i.toInt < 1 ∨ 6 < i.toInt
  · exact vc_callO i p hC hi
  by_cases c1 : i.toInt = 1
  · have e : i = 1 := Int32.toInt_inj.mp (c1.trans rfl)
    subst e
    exact vc_call1 p hC hM hp2 hkn oa tA gA m6
  by_cases c2 : i.toInt = 2
  · have e : i = 2 := Int32.toInt_inj.mp (c2.trans rfl)
    subst e
    exact vc_call2 p hC hM hp2 hkn oa tA gA m6
  by_cases c3 : i.toInt = 3
  · have e : i = 3 := Int32.toInt_inj.mp (c3.trans rfl)
    subst e
    exact vc_call3 p hC hM hp2 hkn oa tA gA m6
  by_cases c4 : i.toInt = 4
  · have e : i = 4 := Int32.toInt_inj.mp (c4.trans rfl)
    subst e
    exact vc_call4 p hC hM hp2 hkn oa tA gA m6
  by_cases c5 : i.toInt = 5
  · have e : i = 5 := Int32.toInt_inj.mp (c5.trans rfl)
    subst e
    exact vc_call5 p hC hM hp2 hkn oa tA gA m6
  by_cases c6 : i.toInt = 6
  · have e : i = 6 := Int32.toInt_inj.mp (c6.trans rfl)
    subst e
    exact vc_call6 p hC hM hp2 hkn oa tA gA m6
  omega