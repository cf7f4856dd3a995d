/-! part c12: the reference moves a pointer (gen/tc12.py) -/
def vx_mq (n : Nat) (b : vt_T) (X : vb_S) : Nat × vt_T :=
  if b.sort = 4 ∨ b.sort = 7 then
    (if (vx_op n b.val X 63).least.toInt < -vx_far ∨ vx_far < (vx_op n b.val X 63).greatest.toInt then (2, b) else (0, (b.sort, b.det, -1, vx_op n b.val X 63)))
  else if X.low ≠ X.high then (2, b)
  else (if vx_mvc n b.det X.low.toInt < -vx_far ∨ vx_far < vx_mvc n b.det X.low.toInt then (2, b) else (0, (b.sort, vx_mvc n b.det X.low.toInt, -1, vb_any)))
theorem vl_I_ge0 {q : Nat} (h : q < 2147483648) : (0 : Int32) ≤ vl_I q := Int32.le_iff_toInt_le.mpr (by have e : (vl_I q).toInt = (q : Int) := vl_I_int h; rw [e]; exact Int.natCast_nonneg q)
theorem jv_i271 : jv_I 271 2 (some .int) 1 21 jv_c271 := ⟨rfl, rfl, rfl, rfl, rfl⟩
theorem vq_sortOf_ {K : Nat → Option (Nat × Nat)} {I : Nat → Nat → Int32} {L : Nat → Nat → Int64} {R : Nat → Nat → Value} (k : Nat) (hW : jv_rW K R) (hk : k < 75) {n sl : Nat} : ∃ I1 L1, jv_Ms 271 [.ref 196, .int (vl_I k)] (jv_H K I L R) n sl (some (.int (I 205 (76800 + k))), jv_H K I1 L1 R, n, sl) ∧ I1 = I ∧ L1 = L := by
  obtain ⟨Q, hQ⟩ : ∃ Q : jv_R → Prop, Q = fun X => ∃ I1 L1, X = (some (.int (I 205 (76800 + k))), jv_H K I1 L1 R, n, sl) ∧ I1 = I ∧ L1 = L := ⟨_, rfl⟩
  suffices h : jv_Wp 271 0 [(0, .ref 196), (1, .int (vl_I k))] [] (jv_H K I L R) n sl Q by
    rw [hQ] at h
    obtain ⟨X, h, I1, L1, e, h'⟩ := h
    subst e
    exact ⟨I1, L1, h, h'⟩
  refine jv_Wp.lift (fun _ Kz => jv_Ev.steps jv_i271 1 (pc' := 1) (l' := [(0, .ref 196), (1, .int (vl_I k))]) (st' := [.ref 196]) rfl Kz) ?_
  refine jv_Wp.lift (fun _ Kz => jv_Ev.m jv_i271 (pc' := 4) (st' := [.ref 205]) (G' := (jv_H K I L R)) rfl rfl (jv_m_getR (jv_rwK hW 196 12 24 (by decide)) rfl rfl (jv_rwR hW 196 13 205 (by decide))) Kz) ?_
  refine jv_Wp.lift (fun _ Kz => jv_Ev.steps jv_i271 2 (pc' := 8) (l' := [(0, .ref 196), (1, .int (vl_I k))]) (st' := [.int (vl_I k), .int (1024 : Int32), .ref 205]) rfl Kz) ?_
  refine jv_Wp.lift (fun _ Kz => jv_Ev.c jv_i271 (pc' := 11) (S' := [.int (vl_I (76800 + k)), .ref 205]) jv_i253 [.int (1024 : Int32), .int (vl_I k)] rfl rfl rfl rfl rfl rfl (vq_thing 1024 k) rfl rfl Kz) ?_
  refine jv_Wp.lift (fun _ Kz => jv_Ev.m jv_i271 (pc' := 12) (st' := [.int (I 205 (76800 + k))]) (G' := (jv_H K I L R)) rfl rfl (jv_m_ialdv (jv_rwK hW 205 102 77100 (by decide)) rfl (vl_I_ix (by omega) (by decide)) rfl ((congrArg (I 205) (vl_I_nat (by omega))).trans rfl)) Kz) ?_
  refine jv_Wp.of (jv_Ev.ret jv_i271 rfl rfl) ?_
  rw [hQ]
  have ev : (I 205 (76800 + k)) = (I 205 (76800 + k)) := rfl
  exact ⟨_, _, by rw [ev], rfl, rfl⟩
theorem vq_sortOf {K : Nat → Option (Nat × Nat)} {I : Nat → Nat → Int32} {L : Nat → Nat → Int64} {R : Nat → Nat → Value} (k : Nat) (hW : jv_rW K R) (hk : k < 75) {n sl : Nat} : jv_Ms 271 [.ref 196, .int (vl_I k)] (jv_H K I L R) n sl (some (.int (I 205 (76800 + k))), jv_H K I L R, n, sl) := by
  obtain ⟨I1, L1, H, ei, el⟩ := vq_sortOf_ (n := n) (sl := sl) k hW hk
  rw [ei, el] at H
  exact H
theorem jv_i286 : jv_I 286 12 (some .int) 9 267 jv_c286 := ⟨rfl, rfl, rfl, rfl, rfl⟩
theorem vq_moveR {K : Nat → Option (Nat × Nat)} {I : Nat → Nat → Int32} {L : Nat → Nat → Int64} {R : Nat → Nat → Value} (f : vf_F) (r q : Nat) (hW : jv_rW K R) (hf : vr_fl I) (D : vr_dec I f) (hn01 : f.n = 0 ∨ f.n = 1) (hr : r < 75) (hq : q < 75) (ok : vr_ok I (76800 + r) r) (tt : vt_ok (vr_T I L (76800 + r))) (gg : vt_g (vr_T I L (76800 + r))) (hs : I 205 (76800 + r) = 2 ∨ I 205 (76800 + r) = 3 ∨ I 205 (76800 + r) = 4 ∨ I 205 (76800 + r) = 7) (hx : vb_tight (vb_toS (vr_S L (8 + (76800 + q))))) {n sl : Nat} : ∃ I1 L1, jv_Ms 286 [.ref 196, .int (vl_I r), .int (vl_I q)] (jv_H K I L R) n sl (some (.int (vl_I (vx_mq f.n (vr_T I L (76800 + r)) (vb_toS (vr_S L (8 + (76800 + q))))).1)), jv_H K I1 L1 R, n, sl) ∧ ((vx_mq f.n (vr_T I L (76800 + r)) (vb_toS (vr_S L (8 + (76800 + q))))).1 = 0 → vr_T I1 L1 (76800 + f.d) = (vx_mq f.n (vr_T I L (76800 + r)) (vb_toS (vr_S L (8 + (76800 + q))))).2 ∧ vr_ok I1 (76800 + f.d) f.d) ∧ vr_fr (fun x => x = 76800 + f.d) noE I L I1 L1 := by
  obtain ⟨Q, hQ⟩ : ∃ Q : jv_R → Prop, Q = fun X => ∃ I1 L1, X = (some (.int (vl_I (vx_mq f.n (vr_T I L (76800 + r)) (vb_toS (vr_S L (8 + (76800 + q))))).1)), jv_H K I1 L1 R, n, sl) ∧ ((vx_mq f.n (vr_T I L (76800 + r)) (vb_toS (vr_S L (8 + (76800 + q))))).1 = 0 → vr_T I1 L1 (76800 + f.d) = (vx_mq f.n (vr_T I L (76800 + r)) (vb_toS (vr_S L (8 + (76800 + q))))).2 ∧ vr_ok I1 (76800 + f.d) f.d) ∧ vr_fr (fun x => x = 76800 + f.d) noE I L I1 L1 := ⟨_, rfl⟩
  suffices h : jv_Wp 286 0 [(0, .ref 196), (1, .int (vl_I r)), (2, .int (vl_I q))] [] (jv_H K I L R) n sl Q by
    rw [hQ] at h
    obtain ⟨X, h, I1, L1, e, h'⟩ := h
    subst e
    exact ⟨I1, L1, h, h'⟩
  have hn16 := vr_dn D
  have hd16 := vr_dd D
  refine jv_Wp.lift (fun _ Kz => jv_Ev.steps jv_i286 2 (pc' := 2) (l' := [(0, .ref 196), (1, .int (vl_I r)), (2, .int (vl_I q))]) (st' := [.int (vl_I r), .ref 196]) rfl Kz) ?_
  refine jv_Wp.lift (fun _ Kz => jv_Ev.c jv_i286 (pc' := 5) (S' := [.int (I 205 (76800 + r))]) jv_i271 [.ref 196, .int (vl_I r)] rfl rfl rfl rfl (jv_cal rfl (jv_H_at (jv_rwK hW 196 12 24 (by decide))) rfl rfl) rfl (vq_sortOf r hW (by omega)) rfl rfl Kz) ?_
  refine jv_Wp.lift (fun _ Kz => jv_Ev.steps jv_i286 2 (pc' := 7) (l' := [(3, .int (I 205 (76800 + r))), (0, .ref 196), (1, .int (vl_I r)), (2, .int (vl_I q))]) (st' := [.int (vl_I q)]) rfl Kz) ?_
  refine jv_Wp.cnd jv_i286 (pt := 14) (pe := 10) (p := (0 ≤ (vl_I q))) (q := (0 ≤ (vl_I q))) rfl jv_bi_ge rfl rfl Iff.rfl (fun _ => ?_) (fun hz => absurd (vl_I_ge0 (by omega)) hz)
  refine jv_Wp.lift (fun _ Kz => jv_Ev.steps jv_i286 2 (pc' := 18) (l' := [(3, .int (I 205 (76800 + r))), (0, .ref 196), (1, .int (vl_I r)), (2, .int (vl_I q))]) (st' := [.int (vl_I q), .int (1024 : Int32)]) rfl Kz) ?_
  refine jv_Wp.lift (fun _ Kz => jv_Ev.c jv_i286 (pc' := 21) (S' := [.int (vl_I (8 + (76800 + q)))]) jv_i254 [.int (1024 : Int32), .int (vl_I q)] rfl rfl rfl rfl rfl rfl (vq_row 1024 q) rfl rfl Kz) ?_
  refine jv_Wp.lift (fun _ Kz => jv_Ev.steps jv_i286 3 (pc' := 25) (l' := [(4, .int (vl_I (8 + (76800 + q)))), (3, .int (I 205 (76800 + r))), (0, .ref 196), (1, .int (vl_I r)), (2, .int (vl_I q))]) (st' := [.int (2 : Int32), .int (I 205 (76800 + r))]) rfl Kz) ?_
  refine jv_Wp.cnd jv_i286 (pt := 33) (pe := 28) (p := ((I 205 (76800 + r)) = (2 : Int32))) (q := ((I 205 (76800 + r)) = (2 : Int32))) rfl jv_bc_eq rfl rfl Iff.rfl (fun h1 => ?_) (fun h1 => ?_)
  · refine jv_Wp.lift (fun _ Kz => jv_Ev.steps jv_i286 1 (pc' := 34) (l' := [(4, .int (vl_I (8 + (76800 + q)))), (3, .int (I 205 (76800 + r))), (0, .ref 196), (1, .int (vl_I r)), (2, .int (vl_I q))]) (st' := [.ref 196]) rfl Kz) ?_
    refine jv_Wp.lift (fun _ Kz => jv_Ev.m jv_i286 (pc' := 37) (st' := [.ref 208]) (G' := (jv_H K I L R)) rfl rfl (jv_m_getR (jv_rwK hW 196 12 24 (by decide)) rfl rfl (jv_rwR hW 196 16 208 (by decide))) Kz) ?_
    refine jv_Wp.lift (fun _ Kz => jv_Ev.m jv_i286 (pc' := 40) (st' := [.ref 211]) (G' := (jv_H K I L R)) rfl rfl (jv_m_getR (jv_rwK hW 208 11 7 (by decide)) rfl rfl (jv_rwR hW 208 2 211 (by decide))) Kz) ?_
    refine jv_Wp.lift (fun _ Kz => jv_Ev.steps jv_i286 1 (pc' := 42) (l' := [(4, .int (vl_I (8 + (76800 + q)))), (3, .int (I 205 (76800 + r))), (0, .ref 196), (1, .int (vl_I r)), (2, .int (vl_I q))]) (st' := [.int (vl_I (8 + (76800 + q))), .ref 211]) rfl Kz) ?_
    refine jv_Wp.lift (fun _ Kz => jv_Ev.m jv_i286 (pc' := 43) (st' := [.long (L 211 (8 + (76800 + q)))]) (G' := (jv_H K I L R)) rfl rfl (jv_m_laldv (jv_rwK hW 211 103 77200 (by decide)) rfl (vl_I_ix (by omega) (by decide)) rfl ((congrArg (L 211) (vl_I_nat (by omega))).trans rfl)) Kz) ?_
    refine jv_Wp.lift (fun _ Kz => jv_Ev.steps jv_i286 2 (pc' := 46) (l' := [(5, .long (L 211 (8 + (76800 + q)))), (4, .int (vl_I (8 + (76800 + q)))), (3, .int (I 205 (76800 + r))), (0, .ref 196), (1, .int (vl_I r)), (2, .int (vl_I q))]) (st' := [.ref 196]) rfl Kz) ?_
    refine jv_Wp.lift (fun _ Kz => jv_Ev.m jv_i286 (pc' := 49) (st' := [.ref 206]) (G' := (jv_H K I L R)) rfl rfl (jv_m_getR (jv_rwK hW 196 12 24 (by decide)) rfl rfl (jv_rwR hW 196 14 206 (by decide))) Kz) ?_
    refine jv_Wp.lift (fun _ Kz => jv_Ev.steps jv_i286 2 (pc' := 53) (l' := [(5, .long (L 211 (8 + (76800 + q)))), (4, .int (vl_I (8 + (76800 + q)))), (3, .int (I 205 (76800 + r))), (0, .ref 196), (1, .int (vl_I r)), (2, .int (vl_I q))]) (st' := [.int (vl_I r), .int (1024 : Int32), .ref 206]) rfl Kz) ?_
    refine jv_Wp.lift (fun _ Kz => jv_Ev.c jv_i286 (pc' := 56) (S' := [.int (vl_I (76800 + r)), .ref 206]) jv_i253 [.int (1024 : Int32), .int (vl_I r)] rfl rfl rfl rfl rfl rfl (vq_thing 1024 r) rfl rfl Kz) ?_
    refine jv_Wp.lift (fun _ Kz => jv_Ev.m jv_i286 (pc' := 57) (st' := [.int (I 206 (76800 + r))]) (G' := (jv_H K I L R)) rfl rfl (jv_m_ialdv (jv_rwK hW 206 102 77100 (by decide)) rfl (vl_I_ix (by omega) (by decide)) rfl ((congrArg (I 206) (vl_I_nat (by omega))).trans rfl)) Kz) ?_
    refine jv_Wp.lift (fun _ Kz => jv_Ev.steps jv_i286 3 (pc' := 61) (l' := [(7, .long (I 206 (76800 + r)).toInt64), (5, .long (L 211 (8 + (76800 + q)))), (4, .int (vl_I (8 + (76800 + q)))), (3, .int (I 205 (76800 + r))), (0, .ref 196), (1, .int (vl_I r)), (2, .int (vl_I q))]) (st' := [.ref 196]) rfl Kz) ?_
    refine jv_Wp.lift (fun _ Kz => jv_Ev.m jv_i286 (pc' := 64) (st' := [.ref 208]) (G' := (jv_H K I L R)) rfl rfl (jv_m_getR (jv_rwK hW 196 12 24 (by decide)) rfl rfl (jv_rwR hW 196 16 208 (by decide))) Kz) ?_
    refine jv_Wp.lift (fun _ Kz => jv_Ev.steps jv_i286 1 (pc' := 66) (l' := [(7, .long (I 206 (76800 + r)).toInt64), (5, .long (L 211 (8 + (76800 + q)))), (4, .int (vl_I (8 + (76800 + q)))), (3, .int (I 205 (76800 + r))), (0, .ref 196), (1, .int (vl_I r)), (2, .int (vl_I q))]) (st' := [.int (vl_I (8 + (76800 + q))), .ref 208]) rfl Kz) ?_
    refine jv_Wp.lift (fun _ Kz => jv_Ev.c jv_i286 (pc' := 69) (S' := [.int (vr_b (decide ((vr_S L (8 + (76800 + q))).low = (vr_S L (8 + (76800 + q))).high)))]) jv_i209 [.ref 208, .int (vl_I (8 + (76800 + q)))] rfl rfl rfl rfl (jv_cal rfl (jv_H_at (jv_rwK hW 208 11 7 (by decide))) rfl rfl) rfl (vq_isSingle (a := (8 + (76800 + q))) hW (by omega)) rfl rfl Kz) ?_
    refine jv_Wp.cnd jv_i286 (pt := 94) (pe := 72) (p := ((vr_b (decide ((vr_S L (8 + (76800 + q))).low = (vr_S L (8 + (76800 + q))).high))) = 0)) (q := ((vr_b (decide ((vr_S L (8 + (76800 + q))).low = (vr_S L (8 + (76800 + q))).high))) = 0)) rfl jv_bi_eq rfl rfl Iff.rfl (fun h2 => ?_) (fun h2 => ?_)
    · refine jv_Wp.lift (fun _ Kz => jv_Ev.steps jv_i286 3 (pc' := 99) (l' := [(9, .int (0 : Int32)), (7, .long (I 206 (76800 + r)).toInt64), (5, .long (L 211 (8 + (76800 + q)))), (4, .int (vl_I (8 + (76800 + q)))), (3, .int (I 205 (76800 + r))), (0, .ref 196), (1, .int (vl_I r)), (2, .int (vl_I q))]) (st' := [.int (0 : Int32)]) rfl Kz) ?_
      refine jv_Wp.lift (fun _ Kz => jv_Ev.br jv_i286 (pc' := 125) (st' := []) rfl (by rfl) Kz) ?_
      refine jv_Wp.lift (fun _ Kz => jv_Ev.steps jv_i286 5 (pc' := 136) (l' := [(10, .long (1073741824 : Int64)), (9, .int (0 : Int32)), (7, .long (I 206 (76800 + r)).toInt64), (5, .long (L 211 (8 + (76800 + q)))), (4, .int (vl_I (8 + (76800 + q)))), (3, .int (I 205 (76800 + r))), (0, .ref 196), (1, .int (vl_I r)), (2, .int (vl_I q))]) (st' := [.int (lg_cmp (1073741824 : Int64) (-536870912 : Int64))]) rfl Kz) ?_
      refine jv_Wp.cnd jv_i286 (pt := 148) (pe := 139) (p := ((lg_cmp (1073741824 : Int64) (-536870912 : Int64)) < 0)) (q := ((1073741824 : Int64) < (-536870912 : Int64))) rfl jv_bi_lt rfl rfl (lg_cmp_lt (1073741824 : Int64) (-536870912 : Int64)) (fun hz => absurd hz (by decide)) (fun _ => ?_)
      refine jv_Wp.lift (fun _ Kz => jv_Ev.steps jv_i286 3 (pc' := 145) (l' := [(10, .long (1073741824 : Int64)), (9, .int (0 : Int32)), (7, .long (I 206 (76800 + r)).toInt64), (5, .long (L 211 (8 + (76800 + q)))), (4, .int (vl_I (8 + (76800 + q)))), (3, .int (I 205 (76800 + r))), (0, .ref 196), (1, .int (vl_I r)), (2, .int (vl_I q))]) (st' := [.int (lg_cmp (1073741824 : Int64) (536870912 : Int64))]) rfl Kz) ?_
      refine jv_Wp.cnd jv_i286 (pt := 150) (pe := 148) (p := ((lg_cmp (1073741824 : Int64) (536870912 : Int64)) ≤ 0)) (q := ((1073741824 : Int64) ≤ (536870912 : Int64))) rfl jv_bi_le rfl rfl (lg_cmp_le (1073741824 : Int64) (536870912 : Int64)) (fun hz => absurd hz (by decide)) (fun _ => ?_)
      refine jv_Wp.lift (fun _ Kz => jv_Ev.steps jv_i286 1 (pc' := 149) (l' := [(10, .long (1073741824 : Int64)), (9, .int (0 : Int32)), (7, .long (I 206 (76800 + r)).toInt64), (5, .long (L 211 (8 + (76800 + q)))), (4, .int (vl_I (8 + (76800 + q)))), (3, .int (I 205 (76800 + r))), (0, .ref 196), (1, .int (vl_I r)), (2, .int (vl_I q))]) (st' := [.int (2 : Int32)]) rfl Kz) ?_
      refine jv_Wp.of (jv_Ev.ret jv_i286 rfl rfl) ?_
      rw [hQ]
      have e5 : I 205 (76800 + r) = 2 := h1
      have bs : (vr_T I L (76800 + r)).sort = 2 := (vr_is 2 (by decide) ok).mpr e5
      have c2 : ¬ ((vr_T I L (76800 + r)).sort = 4 ∨ (vr_T I L (76800 + r)).sort = 7) := by omega
      have ns : (vb_toS (vr_S L (8 + (76800 + q)))).low ≠ (vb_toS (vr_S L (8 + (76800 + q)))).high := of_decide_eq_false (vr_b_f h2)
      have e : (vx_mq f.n (vr_T I L (76800 + r)) (vb_toS (vr_S L (8 + (76800 + q))))) = (2, (vr_T I L (76800 + r))) := (if_neg c2).trans (if_pos ns)
      exact ⟨_, _, by rw [e]; rfl, fun z => by rw [e] at z; exact absurd (show (2 : Nat) = 0 from z) (by decide), vr_fr_refl hf⟩
    · refine jv_Wp.lift (fun _ Kz => jv_Ev.steps jv_i286 3 (pc' := 78) (l' := [(7, .long (I 206 (76800 + r)).toInt64), (5, .long (L 211 (8 + (76800 + q)))), (4, .int (vl_I (8 + (76800 + q)))), (3, .int (I 205 (76800 + r))), (0, .ref 196), (1, .int (vl_I r)), (2, .int (vl_I q))]) (st' := [.int (lg_cmp (L 211 (8 + (76800 + q))) (-1073741824 : Int64))]) rfl Kz) ?_
      refine jv_Wp.cnd jv_i286 (pt := 94) (pe := 81) (p := ((lg_cmp (L 211 (8 + (76800 + q))) (-1073741824 : Int64)) < 0)) (q := ((L 211 (8 + (76800 + q))) < (-1073741824 : Int64))) rfl jv_bi_lt rfl rfl (lg_cmp_lt (L 211 (8 + (76800 + q))) (-1073741824 : Int64)) (fun h3 => ?_) (fun h3 => ?_)
      · refine jv_Wp.lift (fun _ Kz => jv_Ev.steps jv_i286 3 (pc' := 99) (l' := [(9, .int (0 : Int32)), (7, .long (I 206 (76800 + r)).toInt64), (5, .long (L 211 (8 + (76800 + q)))), (4, .int (vl_I (8 + (76800 + q)))), (3, .int (I 205 (76800 + r))), (0, .ref 196), (1, .int (vl_I r)), (2, .int (vl_I q))]) (st' := [.int (0 : Int32)]) rfl Kz) ?_
        refine jv_Wp.lift (fun _ Kz => jv_Ev.br jv_i286 (pc' := 125) (st' := []) rfl (by rfl) Kz) ?_
        refine jv_Wp.lift (fun _ Kz => jv_Ev.steps jv_i286 5 (pc' := 136) (l' := [(10, .long (1073741824 : Int64)), (9, .int (0 : Int32)), (7, .long (I 206 (76800 + r)).toInt64), (5, .long (L 211 (8 + (76800 + q)))), (4, .int (vl_I (8 + (76800 + q)))), (3, .int (I 205 (76800 + r))), (0, .ref 196), (1, .int (vl_I r)), (2, .int (vl_I q))]) (st' := [.int (lg_cmp (1073741824 : Int64) (-536870912 : Int64))]) rfl Kz) ?_
        refine jv_Wp.cnd jv_i286 (pt := 148) (pe := 139) (p := ((lg_cmp (1073741824 : Int64) (-536870912 : Int64)) < 0)) (q := ((1073741824 : Int64) < (-536870912 : Int64))) rfl jv_bi_lt rfl rfl (lg_cmp_lt (1073741824 : Int64) (-536870912 : Int64)) (fun hz => absurd hz (by decide)) (fun _ => ?_)
        refine jv_Wp.lift (fun _ Kz => jv_Ev.steps jv_i286 3 (pc' := 145) (l' := [(10, .long (1073741824 : Int64)), (9, .int (0 : Int32)), (7, .long (I 206 (76800 + r)).toInt64), (5, .long (L 211 (8 + (76800 + q)))), (4, .int (vl_I (8 + (76800 + q)))), (3, .int (I 205 (76800 + r))), (0, .ref 196), (1, .int (vl_I r)), (2, .int (vl_I q))]) (st' := [.int (lg_cmp (1073741824 : Int64) (536870912 : Int64))]) rfl Kz) ?_
        refine jv_Wp.cnd jv_i286 (pt := 150) (pe := 148) (p := ((lg_cmp (1073741824 : Int64) (536870912 : Int64)) ≤ 0)) (q := ((1073741824 : Int64) ≤ (536870912 : Int64))) rfl jv_bi_le rfl rfl (lg_cmp_le (1073741824 : Int64) (536870912 : Int64)) (fun hz => absurd hz (by decide)) (fun _ => ?_)
        refine jv_Wp.lift (fun _ Kz => jv_Ev.steps jv_i286 1 (pc' := 149) (l' := [(10, .long (1073741824 : Int64)), (9, .int (0 : Int32)), (7, .long (I 206 (76800 + r)).toInt64), (5, .long (L 211 (8 + (76800 + q)))), (4, .int (vl_I (8 + (76800 + q)))), (3, .int (I 205 (76800 + r))), (0, .ref 196), (1, .int (vl_I r)), (2, .int (vl_I q))]) (st' := [.int (2 : Int32)]) rfl Kz) ?_
        refine jv_Wp.of (jv_Ev.ret jv_i286 rfl rfl) ?_
        rw [hQ]
        have e5 : I 205 (76800 + r) = 2 := h1
        have bs : (vr_T I L (76800 + r)).sort = 2 := (vr_is 2 (by decide) ok).mpr e5
        have c2 : ¬ ((vr_T I L (76800 + r)).sort = 4 ∨ (vr_T I L (76800 + r)).sort = 7) := by omega
        have es : ¬ (vb_toS (vr_S L (8 + (76800 + q)))).low ≠ (vb_toS (vr_S L (8 + (76800 + q)))).high := fun z => z (of_decide_eq_true (vr_b_t h2))
        have xl : (vb_toS (vr_S L (8 + (76800 + q)))).low.toInt = (L 211 (8 + (76800 + q))).toInt := rfl
        have dt : (vr_T I L (76800 + r)).det = (I 206 (76800 + r)).toInt := rfl
        have far := gg.1 (by omega)
        have vv : (L 211 (8 + (76800 + q))).toInt < -1073741824 := Int64.lt_iff_toInt_lt.mp h3
        have c4 : (vx_mvc f.n (vr_T I L (76800 + r)).det (vb_toS (vr_S L (8 + (76800 + q)))).low.toInt) < -vx_far ∨ vx_far < (vx_mvc f.n (vr_T I L (76800 + r)).det (vb_toS (vr_S L (8 + (76800 + q)))).low.toInt) := by
          rw [xl]; unfold vx_mvc vx_far; split <;> omega
        have e : (vx_mq f.n (vr_T I L (76800 + r)) (vb_toS (vr_S L (8 + (76800 + q))))) = (2, (vr_T I L (76800 + r))) := (if_neg c2).trans ((if_neg es).trans (if_pos c4))
        exact ⟨_, _, by rw [e]; rfl, fun z => by rw [e] at z; exact absurd (show (2 : Nat) = 0 from z) (by decide), vr_fr_refl hf⟩
      · refine jv_Wp.lift (fun _ Kz => jv_Ev.steps jv_i286 3 (pc' := 87) (l' := [(7, .long (I 206 (76800 + r)).toInt64), (5, .long (L 211 (8 + (76800 + q)))), (4, .int (vl_I (8 + (76800 + q)))), (3, .int (I 205 (76800 + r))), (0, .ref 196), (1, .int (vl_I r)), (2, .int (vl_I q))]) (st' := [.int (lg_cmp (L 211 (8 + (76800 + q))) (1073741824 : Int64))]) rfl Kz) ?_
        refine jv_Wp.cnd jv_i286 (pt := 94) (pe := 90) (p := (0 < (lg_cmp (L 211 (8 + (76800 + q))) (1073741824 : Int64)))) (q := ((1073741824 : Int64) < (L 211 (8 + (76800 + q))))) rfl jv_bi_gt rfl rfl (lg_cmp_gt (L 211 (8 + (76800 + q))) (1073741824 : Int64)) (fun h4 => ?_) (fun h4 => ?_)
        · refine jv_Wp.lift (fun _ Kz => jv_Ev.steps jv_i286 3 (pc' := 99) (l' := [(9, .int (0 : Int32)), (7, .long (I 206 (76800 + r)).toInt64), (5, .long (L 211 (8 + (76800 + q)))), (4, .int (vl_I (8 + (76800 + q)))), (3, .int (I 205 (76800 + r))), (0, .ref 196), (1, .int (vl_I r)), (2, .int (vl_I q))]) (st' := [.int (0 : Int32)]) rfl Kz) ?_
          refine jv_Wp.lift (fun _ Kz => jv_Ev.br jv_i286 (pc' := 125) (st' := []) rfl (by rfl) Kz) ?_
          refine jv_Wp.lift (fun _ Kz => jv_Ev.steps jv_i286 5 (pc' := 136) (l' := [(10, .long (1073741824 : Int64)), (9, .int (0 : Int32)), (7, .long (I 206 (76800 + r)).toInt64), (5, .long (L 211 (8 + (76800 + q)))), (4, .int (vl_I (8 + (76800 + q)))), (3, .int (I 205 (76800 + r))), (0, .ref 196), (1, .int (vl_I r)), (2, .int (vl_I q))]) (st' := [.int (lg_cmp (1073741824 : Int64) (-536870912 : Int64))]) rfl Kz) ?_
          refine jv_Wp.cnd jv_i286 (pt := 148) (pe := 139) (p := ((lg_cmp (1073741824 : Int64) (-536870912 : Int64)) < 0)) (q := ((1073741824 : Int64) < (-536870912 : Int64))) rfl jv_bi_lt rfl rfl (lg_cmp_lt (1073741824 : Int64) (-536870912 : Int64)) (fun hz => absurd hz (by decide)) (fun _ => ?_)
          refine jv_Wp.lift (fun _ Kz => jv_Ev.steps jv_i286 3 (pc' := 145) (l' := [(10, .long (1073741824 : Int64)), (9, .int (0 : Int32)), (7, .long (I 206 (76800 + r)).toInt64), (5, .long (L 211 (8 + (76800 + q)))), (4, .int (vl_I (8 + (76800 + q)))), (3, .int (I 205 (76800 + r))), (0, .ref 196), (1, .int (vl_I r)), (2, .int (vl_I q))]) (st' := [.int (lg_cmp (1073741824 : Int64) (536870912 : Int64))]) rfl Kz) ?_
          refine jv_Wp.cnd jv_i286 (pt := 150) (pe := 148) (p := ((lg_cmp (1073741824 : Int64) (536870912 : Int64)) ≤ 0)) (q := ((1073741824 : Int64) ≤ (536870912 : Int64))) rfl jv_bi_le rfl rfl (lg_cmp_le (1073741824 : Int64) (536870912 : Int64)) (fun hz => absurd hz (by decide)) (fun _ => ?_)
          refine jv_Wp.lift (fun _ Kz => jv_Ev.steps jv_i286 1 (pc' := 149) (l' := [(10, .long (1073741824 : Int64)), (9, .int (0 : Int32)), (7, .long (I 206 (76800 + r)).toInt64), (5, .long (L 211 (8 + (76800 + q)))), (4, .int (vl_I (8 + (76800 + q)))), (3, .int (I 205 (76800 + r))), (0, .ref 196), (1, .int (vl_I r)), (2, .int (vl_I q))]) (st' := [.int (2 : Int32)]) rfl Kz) ?_
          refine jv_Wp.of (jv_Ev.ret jv_i286 rfl rfl) ?_
          rw [hQ]
          have e5 : I 205 (76800 + r) = 2 := h1
          have bs : (vr_T I L (76800 + r)).sort = 2 := (vr_is 2 (by decide) ok).mpr e5
          have c2 : ¬ ((vr_T I L (76800 + r)).sort = 4 ∨ (vr_T I L (76800 + r)).sort = 7) := by omega
          have es : ¬ (vb_toS (vr_S L (8 + (76800 + q)))).low ≠ (vb_toS (vr_S L (8 + (76800 + q)))).high := fun z => z (of_decide_eq_true (vr_b_t h2))
          have xl : (vb_toS (vr_S L (8 + (76800 + q)))).low.toInt = (L 211 (8 + (76800 + q))).toInt := rfl
          have dt : (vr_T I L (76800 + r)).det = (I 206 (76800 + r)).toInt := rfl
          have far := gg.1 (by omega)
          have vv : 1073741824 < (L 211 (8 + (76800 + q))).toInt := Int64.lt_iff_toInt_lt.mp h4
          have c4 : (vx_mvc f.n (vr_T I L (76800 + r)).det (vb_toS (vr_S L (8 + (76800 + q)))).low.toInt) < -vx_far ∨ vx_far < (vx_mvc f.n (vr_T I L (76800 + r)).det (vb_toS (vr_S L (8 + (76800 + q)))).low.toInt) := by
            rw [xl]; unfold vx_mvc vx_far; split <;> omega
          have e : (vx_mq f.n (vr_T I L (76800 + r)) (vb_toS (vr_S L (8 + (76800 + q))))) = (2, (vr_T I L (76800 + r))) := (if_neg c2).trans ((if_neg es).trans (if_pos c4))
          exact ⟨_, _, by rw [e]; rfl, fun z => by rw [e] at z; exact absurd (show (2 : Nat) = 0 from z) (by decide), vr_fr_refl hf⟩
        · refine jv_Wp.lift (fun _ Kz => jv_Ev.steps jv_i286 4 (pc' := 99) (l' := [(9, .int (1 : Int32)), (7, .long (I 206 (76800 + r)).toInt64), (5, .long (L 211 (8 + (76800 + q)))), (4, .int (vl_I (8 + (76800 + q)))), (3, .int (I 205 (76800 + r))), (0, .ref 196), (1, .int (vl_I r)), (2, .int (vl_I q))]) (st' := [.int (1 : Int32)]) rfl Kz) ?_
          refine jv_Wp.lift (fun _ Kz => jv_Ev.br jv_i286 (pc' := 102) (st' := []) rfl (by rfl) Kz) ?_
          refine jv_Wp.lift (fun _ Kz => jv_Ev.steps jv_i286 1 (pc' := 103) (l' := [(9, .int (1 : Int32)), (7, .long (I 206 (76800 + r)).toInt64), (5, .long (L 211 (8 + (76800 + q)))), (4, .int (vl_I (8 + (76800 + q)))), (3, .int (I 205 (76800 + r))), (0, .ref 196), (1, .int (vl_I r)), (2, .int (vl_I q))]) (st' := [.ref 196]) rfl Kz) ?_
          refine jv_Wp.lift (fun _ Kz => jv_Ev.c jv_i286 (pc' := 106) (S' := [.int (vl_I f.n)]) jv_i258 [.ref 196] rfl rfl rfl rfl (jv_cal rfl (jv_H_at (jv_rwK hW 196 12 24 (by decide))) rfl rfl) rfl (vq_n f hW D) rfl rfl Kz) ?_
          refine jv_Wp.cnd jv_i286 (pt := 117) (pe := 109) (p := (¬ (vl_I f.n) = 0)) (q := (¬ (vl_I f.n) = 0)) rfl jv_bi_ne rfl rfl Iff.rfl (fun h5 => ?_) (fun h5 => ?_)
          · refine jv_Wp.lift (fun _ Kz => jv_Ev.steps jv_i286 8 (pc' := 136) (l' := [(10, .long ((I 206 (76800 + r)).toInt64 - (L 211 (8 + (76800 + q))))), (9, .int (1 : Int32)), (7, .long (I 206 (76800 + r)).toInt64), (5, .long (L 211 (8 + (76800 + q)))), (4, .int (vl_I (8 + (76800 + q)))), (3, .int (I 205 (76800 + r))), (0, .ref 196), (1, .int (vl_I r)), (2, .int (vl_I q))]) (st' := [.int (lg_cmp ((I 206 (76800 + r)).toInt64 - (L 211 (8 + (76800 + q)))) (-536870912 : Int64))]) rfl Kz) ?_
            refine jv_Wp.cnd jv_i286 (pt := 148) (pe := 139) (p := ((lg_cmp ((I 206 (76800 + r)).toInt64 - (L 211 (8 + (76800 + q)))) (-536870912 : Int64)) < 0)) (q := (((I 206 (76800 + r)).toInt64 - (L 211 (8 + (76800 + q)))) < (-536870912 : Int64))) rfl jv_bi_lt rfl rfl (lg_cmp_lt ((I 206 (76800 + r)).toInt64 - (L 211 (8 + (76800 + q)))) (-536870912 : Int64)) (fun h6 => ?_) (fun h6 => ?_)
            · refine jv_Wp.lift (fun _ Kz => jv_Ev.steps jv_i286 1 (pc' := 149) (l' := [(10, .long ((I 206 (76800 + r)).toInt64 - (L 211 (8 + (76800 + q))))), (9, .int (1 : Int32)), (7, .long (I 206 (76800 + r)).toInt64), (5, .long (L 211 (8 + (76800 + q)))), (4, .int (vl_I (8 + (76800 + q)))), (3, .int (I 205 (76800 + r))), (0, .ref 196), (1, .int (vl_I r)), (2, .int (vl_I q))]) (st' := [.int (2 : Int32)]) rfl Kz) ?_
              refine jv_Wp.of (jv_Ev.ret jv_i286 rfl rfl) ?_
              rw [hQ]
              have e5 : I 205 (76800 + r) = 2 := h1
              have bs : (vr_T I L (76800 + r)).sort = 2 := (vr_is 2 (by decide) ok).mpr e5
              have c2 : ¬ ((vr_T I L (76800 + r)).sort = 4 ∨ (vr_T I L (76800 + r)).sort = 7) := by omega
              have es : ¬ (vb_toS (vr_S L (8 + (76800 + q)))).low ≠ (vb_toS (vr_S L (8 + (76800 + q)))).high := fun z => z (of_decide_eq_true (vr_b_t h2))
              have xl : (vb_toS (vr_S L (8 + (76800 + q)))).low.toInt = (L 211 (8 + (76800 + q))).toInt := rfl
              have dt : (vr_T I L (76800 + r)).det = (I 206 (76800 + r)).toInt := rfl
              have far := gg.1 (by omega)
              have n0 : ¬ f.n = 0 := fun z => h5 ((vr_sm (v := 0) (by omega) (by decide) rfl).mpr z)
              have W := vx_wrap (n := f.n) (I 206 (76800 + r)).toInt64 (L 211 (8 + (76800 + q))) (by rw [Int32.toInt_toInt64]; exact far) ((I 206 (76800 + r)).toInt64 - (L 211 (8 + (76800 + q)))) (if_neg n0).symm
              rw [Int32.toInt_toInt64, ← dt, ← xl] at W
              have e : (vx_mq f.n (vr_T I L (76800 + r)) (vb_toS (vr_S L (8 + (76800 + q))))) = (2, (vr_T I L (76800 + r))) := (if_neg c2).trans ((if_neg es).trans (if_pos (W.1.mp (Or.inl (Int64.lt_iff_toInt_lt.mp h6)))))
              exact ⟨_, _, by rw [e]; rfl, fun z => by rw [e] at z; exact absurd (show (2 : Nat) = 0 from z) (by decide), vr_fr_refl hf⟩
            · refine jv_Wp.lift (fun _ Kz => jv_Ev.steps jv_i286 3 (pc' := 145) (l' := [(10, .long ((I 206 (76800 + r)).toInt64 - (L 211 (8 + (76800 + q))))), (9, .int (1 : Int32)), (7, .long (I 206 (76800 + r)).toInt64), (5, .long (L 211 (8 + (76800 + q)))), (4, .int (vl_I (8 + (76800 + q)))), (3, .int (I 205 (76800 + r))), (0, .ref 196), (1, .int (vl_I r)), (2, .int (vl_I q))]) (st' := [.int (lg_cmp ((I 206 (76800 + r)).toInt64 - (L 211 (8 + (76800 + q)))) (536870912 : Int64))]) rfl Kz) ?_
              refine jv_Wp.cnd jv_i286 (pt := 150) (pe := 148) (p := ((lg_cmp ((I 206 (76800 + r)).toInt64 - (L 211 (8 + (76800 + q)))) (536870912 : Int64)) ≤ 0)) (q := (((I 206 (76800 + r)).toInt64 - (L 211 (8 + (76800 + q)))) ≤ (536870912 : Int64))) rfl jv_bi_le rfl rfl (lg_cmp_le ((I 206 (76800 + r)).toInt64 - (L 211 (8 + (76800 + q)))) (536870912 : Int64)) (fun h7 => ?_) (fun h7 => ?_)
              · refine jv_Wp.lift (fun _ Kz => jv_Ev.steps jv_i286 3 (pc' := 155) (l' := [(10, .long ((I 206 (76800 + r)).toInt64 - (L 211 (8 + (76800 + q))))), (9, .int (1 : Int32)), (7, .long (I 206 (76800 + r)).toInt64), (5, .long (L 211 (8 + (76800 + q)))), (4, .int (vl_I (8 + (76800 + q)))), (3, .int (I 205 (76800 + r))), (0, .ref 196), (1, .int (vl_I r)), (2, .int (vl_I q))]) (st' := [.ref 196, .int (1024 : Int32), .ref 196]) rfl Kz) ?_
                refine jv_Wp.lift (fun _ Kz => jv_Ev.m jv_i286 (pc' := 158) (st' := [.int (vl_I f.d), .int (1024 : Int32), .ref 196]) (G' := (jv_H K I L R)) rfl rfl (jv_m_getI (jv_rwK hW 196 12 24 (by decide)) rfl rfl D.2.1) Kz) ?_
                refine jv_Wp.lift (fun _ Kz => jv_Ev.steps jv_i286 3 (pc' := 162) (l' := [(10, .long ((I 206 (76800 + r)).toInt64 - (L 211 (8 + (76800 + q))))), (9, .int (1 : Int32)), (7, .long (I 206 (76800 + r)).toInt64), (5, .long (L 211 (8 + (76800 + q)))), (4, .int (vl_I (8 + (76800 + q)))), (3, .int (I 205 (76800 + r))), (0, .ref 196), (1, .int (vl_I r)), (2, .int (vl_I q))]) (st' := [.int ((I 206 (76800 + r)).toInt64 - (L 211 (8 + (76800 + q)))).toInt32, .int (I 205 (76800 + r)), .int (vl_I f.d), .int (1024 : Int32), .ref 196]) rfl Kz) ?_
                obtain ⟨I1, L1, H1, A1, B1, C1, F1, eL1⟩ := vq_setx (I := I) (L := L) (R := R) (n := n) (sl := sl) 1024 f.d (I 205 (76800 + r)) ((I 206 (76800 + r)).toInt64 - (L 211 (8 + (76800 + q)))).toInt32 hW hf (by omega)
                have Z1 := vr_fl_of F1
                have D1 := vr_dec_n F1 D
                refine jv_Wp.lift (fun _ Kz => jv_Ev.c jv_i286 (pc' := 165) (S' := []) (G1 := (jv_H K I1 L1 R)) jv_i272 [.ref 196, .int (1024 : Int32), .int (vl_I f.d), .int (I 205 (76800 + r)), .int ((I 206 (76800 + r)).toInt64 - (L 211 (8 + (76800 + q)))).toInt32] rfl rfl rfl rfl (jv_cal rfl (jv_H_at (jv_rwK hW 196 12 24 (by decide))) rfl rfl) rfl H1 rfl rfl Kz) ?_
                refine jv_Wp.lift (fun _ Kz => jv_Ev.steps jv_i286 1 (pc' := 166) (l' := [(10, .long ((I 206 (76800 + r)).toInt64 - (L 211 (8 + (76800 + q))))), (9, .int (1 : Int32)), (7, .long (I 206 (76800 + r)).toInt64), (5, .long (L 211 (8 + (76800 + q)))), (4, .int (vl_I (8 + (76800 + q)))), (3, .int (I 205 (76800 + r))), (0, .ref 196), (1, .int (vl_I r)), (2, .int (vl_I q))]) (st' := [.int (0 : Int32)]) rfl Kz) ?_
                refine jv_Wp.of (jv_Ev.ret jv_i286 rfl rfl) ?_
                rw [hQ]
                have e5 : I 205 (76800 + r) = 2 := h1
                have bs : (vr_T I L (76800 + r)).sort = 2 := (vr_is 2 (by decide) ok).mpr e5
                have c2 : ¬ ((vr_T I L (76800 + r)).sort = 4 ∨ (vr_T I L (76800 + r)).sort = 7) := by omega
                have es : ¬ (vb_toS (vr_S L (8 + (76800 + q)))).low ≠ (vb_toS (vr_S L (8 + (76800 + q)))).high := fun z => z (of_decide_eq_true (vr_b_t h2))
                have xl : (vb_toS (vr_S L (8 + (76800 + q)))).low.toInt = (L 211 (8 + (76800 + q))).toInt := rfl
                have dt : (vr_T I L (76800 + r)).det = (I 206 (76800 + r)).toInt := rfl
                have far := gg.1 (by omega)
                have n0 : ¬ f.n = 0 := fun z => h5 ((vr_sm (v := 0) (by omega) (by decide) rfl).mpr z)
                have W := vx_wrap (n := f.n) (I 206 (76800 + r)).toInt64 (L 211 (8 + (76800 + q))) (by rw [Int32.toInt_toInt64]; exact far) ((I 206 (76800 + r)).toInt64 - (L 211 (8 + (76800 + q)))) (if_neg n0).symm
                rw [Int32.toInt_toInt64, ← dt, ← xl] at W
                have c4 : ¬ ((vx_mvc f.n (vr_T I L (76800 + r)).det (vb_toS (vr_S L (8 + (76800 + q)))).low.toInt) < -vx_far ∨ vx_far < (vx_mvc f.n (vr_T I L (76800 + r)).det (vb_toS (vr_S L (8 + (76800 + q)))).low.toInt)) := fun z => (W.1.mpr z).elim (fun z => h6 (Int64.lt_iff_toInt_lt.mpr z)) (fun z => Int.not_le.mpr z (Int64.le_iff_toInt_le.mp h7))
                have e : (vx_mq f.n (vr_T I L (76800 + r)) (vb_toS (vr_S L (8 + (76800 + q))))) = (0, ((vr_T I L (76800 + r)).sort, (vx_mvc f.n (vr_T I L (76800 + r)).det (vb_toS (vr_S L (8 + (76800 + q)))).low.toInt), -1, vb_any)) := (if_neg c2).trans ((if_neg es).trans (if_neg c4))
                have e32 : (((I 206 (76800 + r)).toInt64 - (L 211 (8 + (76800 + q)))).toInt32).toInt = (vx_mvc f.n (vr_T I L (76800 + r)).det (vb_toS (vr_S L (8 + (76800 + q)))).low.toInt) := by
                  rw [Int64.toInt_toInt32, W.2 c4]; unfold vx_far at c4; generalize (vx_mvc f.n (vr_T I L (76800 + r)).det (vb_toS (vr_S L (8 + (76800 + q)))).low.toInt) = y at c4; rw [Int.bmod_def]; split <;> omega
                refine ⟨_, _, by rw [e]; rfl, fun _ => ⟨?_, ?_⟩, F1⟩
                · rw [vr_T_set A1 B1 C1, e, bs, ← e32, e5]; rfl
                · unfold vr_ok; rw [A1, B1, C1, e5]; exact Or.inr (Or.inr (Or.inr (Or.inl ⟨Or.inl rfl, rfl⟩)))
              · refine jv_Wp.lift (fun _ Kz => jv_Ev.steps jv_i286 1 (pc' := 149) (l' := [(10, .long ((I 206 (76800 + r)).toInt64 - (L 211 (8 + (76800 + q))))), (9, .int (1 : Int32)), (7, .long (I 206 (76800 + r)).toInt64), (5, .long (L 211 (8 + (76800 + q)))), (4, .int (vl_I (8 + (76800 + q)))), (3, .int (I 205 (76800 + r))), (0, .ref 196), (1, .int (vl_I r)), (2, .int (vl_I q))]) (st' := [.int (2 : Int32)]) rfl Kz) ?_
                refine jv_Wp.of (jv_Ev.ret jv_i286 rfl rfl) ?_
                rw [hQ]
                have e5 : I 205 (76800 + r) = 2 := h1
                have bs : (vr_T I L (76800 + r)).sort = 2 := (vr_is 2 (by decide) ok).mpr e5
                have c2 : ¬ ((vr_T I L (76800 + r)).sort = 4 ∨ (vr_T I L (76800 + r)).sort = 7) := by omega
                have es : ¬ (vb_toS (vr_S L (8 + (76800 + q)))).low ≠ (vb_toS (vr_S L (8 + (76800 + q)))).high := fun z => z (of_decide_eq_true (vr_b_t h2))
                have xl : (vb_toS (vr_S L (8 + (76800 + q)))).low.toInt = (L 211 (8 + (76800 + q))).toInt := rfl
                have dt : (vr_T I L (76800 + r)).det = (I 206 (76800 + r)).toInt := rfl
                have far := gg.1 (by omega)
                have n0 : ¬ f.n = 0 := fun z => h5 ((vr_sm (v := 0) (by omega) (by decide) rfl).mpr z)
                have W := vx_wrap (n := f.n) (I 206 (76800 + r)).toInt64 (L 211 (8 + (76800 + q))) (by rw [Int32.toInt_toInt64]; exact far) ((I 206 (76800 + r)).toInt64 - (L 211 (8 + (76800 + q)))) (if_neg n0).symm
                rw [Int32.toInt_toInt64, ← dt, ← xl] at W
                have e : (vx_mq f.n (vr_T I L (76800 + r)) (vb_toS (vr_S L (8 + (76800 + q))))) = (2, (vr_T I L (76800 + r))) := (if_neg c2).trans ((if_neg es).trans (if_pos (W.1.mp (Or.inr (Int.not_le.mp ((not_congr Int64.le_iff_toInt_le).mp h7))))))
                exact ⟨_, _, by rw [e]; rfl, fun z => by rw [e] at z; exact absurd (show (2 : Nat) = 0 from z) (by decide), vr_fr_refl hf⟩
          · refine jv_Wp.lift (fun _ Kz => jv_Ev.steps jv_i286 8 (pc' := 136) (l' := [(10, .long ((I 206 (76800 + r)).toInt64 + (L 211 (8 + (76800 + q))))), (9, .int (1 : Int32)), (7, .long (I 206 (76800 + r)).toInt64), (5, .long (L 211 (8 + (76800 + q)))), (4, .int (vl_I (8 + (76800 + q)))), (3, .int (I 205 (76800 + r))), (0, .ref 196), (1, .int (vl_I r)), (2, .int (vl_I q))]) (st' := [.int (lg_cmp ((I 206 (76800 + r)).toInt64 + (L 211 (8 + (76800 + q)))) (-536870912 : Int64))]) rfl Kz) ?_
            refine jv_Wp.cnd jv_i286 (pt := 148) (pe := 139) (p := ((lg_cmp ((I 206 (76800 + r)).toInt64 + (L 211 (8 + (76800 + q)))) (-536870912 : Int64)) < 0)) (q := (((I 206 (76800 + r)).toInt64 + (L 211 (8 + (76800 + q)))) < (-536870912 : Int64))) rfl jv_bi_lt rfl rfl (lg_cmp_lt ((I 206 (76800 + r)).toInt64 + (L 211 (8 + (76800 + q)))) (-536870912 : Int64)) (fun h8 => ?_) (fun h8 => ?_)
            · refine jv_Wp.lift (fun _ Kz => jv_Ev.steps jv_i286 1 (pc' := 149) (l' := [(10, .long ((I 206 (76800 + r)).toInt64 + (L 211 (8 + (76800 + q))))), (9, .int (1 : Int32)), (7, .long (I 206 (76800 + r)).toInt64), (5, .long (L 211 (8 + (76800 + q)))), (4, .int (vl_I (8 + (76800 + q)))), (3, .int (I 205 (76800 + r))), (0, .ref 196), (1, .int (vl_I r)), (2, .int (vl_I q))]) (st' := [.int (2 : Int32)]) rfl Kz) ?_
              refine jv_Wp.of (jv_Ev.ret jv_i286 rfl rfl) ?_
              rw [hQ]
              have e5 : I 205 (76800 + r) = 2 := h1
              have bs : (vr_T I L (76800 + r)).sort = 2 := (vr_is 2 (by decide) ok).mpr e5
              have c2 : ¬ ((vr_T I L (76800 + r)).sort = 4 ∨ (vr_T I L (76800 + r)).sort = 7) := by omega
              have es : ¬ (vb_toS (vr_S L (8 + (76800 + q)))).low ≠ (vb_toS (vr_S L (8 + (76800 + q)))).high := fun z => z (of_decide_eq_true (vr_b_t h2))
              have xl : (vb_toS (vr_S L (8 + (76800 + q)))).low.toInt = (L 211 (8 + (76800 + q))).toInt := rfl
              have dt : (vr_T I L (76800 + r)).det = (I 206 (76800 + r)).toInt := rfl
              have far := gg.1 (by omega)
              have n0 : f.n = 0 := (vr_sm (v := 0) (by omega) (by decide) rfl).mp (Classical.not_not.mp h5)
              have W := vx_wrap (n := f.n) (I 206 (76800 + r)).toInt64 (L 211 (8 + (76800 + q))) (by rw [Int32.toInt_toInt64]; exact far) ((I 206 (76800 + r)).toInt64 + (L 211 (8 + (76800 + q)))) (if_pos n0).symm
              rw [Int32.toInt_toInt64, ← dt, ← xl] at W
              have e : (vx_mq f.n (vr_T I L (76800 + r)) (vb_toS (vr_S L (8 + (76800 + q))))) = (2, (vr_T I L (76800 + r))) := (if_neg c2).trans ((if_neg es).trans (if_pos (W.1.mp (Or.inl (Int64.lt_iff_toInt_lt.mp h8)))))
              exact ⟨_, _, by rw [e]; rfl, fun z => by rw [e] at z; exact absurd (show (2 : Nat) = 0 from z) (by decide), vr_fr_refl hf⟩
            · refine jv_Wp.lift (fun _ Kz => jv_Ev.steps jv_i286 3 (pc' := 145) (l' := [(10, .long ((I 206 (76800 + r)).toInt64 + (L 211 (8 + (76800 + q))))), (9, .int (1 : Int32)), (7, .long (I 206 (76800 + r)).toInt64), (5, .long (L 211 (8 + (76800 + q)))), (4, .int (vl_I (8 + (76800 + q)))), (3, .int (I 205 (76800 + r))), (0, .ref 196), (1, .int (vl_I r)), (2, .int (vl_I q))]) (st' := [.int (lg_cmp ((I 206 (76800 + r)).toInt64 + (L 211 (8 + (76800 + q)))) (536870912 : Int64))]) rfl Kz) ?_
              refine jv_Wp.cnd jv_i286 (pt := 150) (pe := 148) (p := ((lg_cmp ((I 206 (76800 + r)).toInt64 + (L 211 (8 + (76800 + q)))) (536870912 : Int64)) ≤ 0)) (q := (((I 206 (76800 + r)).toInt64 + (L 211 (8 + (76800 + q)))) ≤ (536870912 : Int64))) rfl jv_bi_le rfl rfl (lg_cmp_le ((I 206 (76800 + r)).toInt64 + (L 211 (8 + (76800 + q)))) (536870912 : Int64)) (fun h9 => ?_) (fun h9 => ?_)
              · refine jv_Wp.lift (fun _ Kz => jv_Ev.steps jv_i286 3 (pc' := 155) (l' := [(10, .long ((I 206 (76800 + r)).toInt64 + (L 211 (8 + (76800 + q))))), (9, .int (1 : Int32)), (7, .long (I 206 (76800 + r)).toInt64), (5, .long (L 211 (8 + (76800 + q)))), (4, .int (vl_I (8 + (76800 + q)))), (3, .int (I 205 (76800 + r))), (0, .ref 196), (1, .int (vl_I r)), (2, .int (vl_I q))]) (st' := [.ref 196, .int (1024 : Int32), .ref 196]) rfl Kz) ?_
                refine jv_Wp.lift (fun _ Kz => jv_Ev.m jv_i286 (pc' := 158) (st' := [.int (vl_I f.d), .int (1024 : Int32), .ref 196]) (G' := (jv_H K I L R)) rfl rfl (jv_m_getI (jv_rwK hW 196 12 24 (by decide)) rfl rfl D.2.1) Kz) ?_
                refine jv_Wp.lift (fun _ Kz => jv_Ev.steps jv_i286 3 (pc' := 162) (l' := [(10, .long ((I 206 (76800 + r)).toInt64 + (L 211 (8 + (76800 + q))))), (9, .int (1 : Int32)), (7, .long (I 206 (76800 + r)).toInt64), (5, .long (L 211 (8 + (76800 + q)))), (4, .int (vl_I (8 + (76800 + q)))), (3, .int (I 205 (76800 + r))), (0, .ref 196), (1, .int (vl_I r)), (2, .int (vl_I q))]) (st' := [.int ((I 206 (76800 + r)).toInt64 + (L 211 (8 + (76800 + q)))).toInt32, .int (I 205 (76800 + r)), .int (vl_I f.d), .int (1024 : Int32), .ref 196]) rfl Kz) ?_
                obtain ⟨I2, L2, H2, A2, B2, C2, F2, eL2⟩ := vq_setx (I := I) (L := L) (R := R) (n := n) (sl := sl) 1024 f.d (I 205 (76800 + r)) ((I 206 (76800 + r)).toInt64 + (L 211 (8 + (76800 + q)))).toInt32 hW hf (by omega)
                have Z2 := vr_fl_of F2
                have D2 := vr_dec_n F2 D
                refine jv_Wp.lift (fun _ Kz => jv_Ev.c jv_i286 (pc' := 165) (S' := []) (G1 := (jv_H K I2 L2 R)) jv_i272 [.ref 196, .int (1024 : Int32), .int (vl_I f.d), .int (I 205 (76800 + r)), .int ((I 206 (76800 + r)).toInt64 + (L 211 (8 + (76800 + q)))).toInt32] rfl rfl rfl rfl (jv_cal rfl (jv_H_at (jv_rwK hW 196 12 24 (by decide))) rfl rfl) rfl H2 rfl rfl Kz) ?_
                refine jv_Wp.lift (fun _ Kz => jv_Ev.steps jv_i286 1 (pc' := 166) (l' := [(10, .long ((I 206 (76800 + r)).toInt64 + (L 211 (8 + (76800 + q))))), (9, .int (1 : Int32)), (7, .long (I 206 (76800 + r)).toInt64), (5, .long (L 211 (8 + (76800 + q)))), (4, .int (vl_I (8 + (76800 + q)))), (3, .int (I 205 (76800 + r))), (0, .ref 196), (1, .int (vl_I r)), (2, .int (vl_I q))]) (st' := [.int (0 : Int32)]) rfl Kz) ?_
                refine jv_Wp.of (jv_Ev.ret jv_i286 rfl rfl) ?_
                rw [hQ]
                have e5 : I 205 (76800 + r) = 2 := h1
                have bs : (vr_T I L (76800 + r)).sort = 2 := (vr_is 2 (by decide) ok).mpr e5
                have c2 : ¬ ((vr_T I L (76800 + r)).sort = 4 ∨ (vr_T I L (76800 + r)).sort = 7) := by omega
                have es : ¬ (vb_toS (vr_S L (8 + (76800 + q)))).low ≠ (vb_toS (vr_S L (8 + (76800 + q)))).high := fun z => z (of_decide_eq_true (vr_b_t h2))
                have xl : (vb_toS (vr_S L (8 + (76800 + q)))).low.toInt = (L 211 (8 + (76800 + q))).toInt := rfl
                have dt : (vr_T I L (76800 + r)).det = (I 206 (76800 + r)).toInt := rfl
                have far := gg.1 (by omega)
                have n0 : f.n = 0 := (vr_sm (v := 0) (by omega) (by decide) rfl).mp (Classical.not_not.mp h5)
                have W := vx_wrap (n := f.n) (I 206 (76800 + r)).toInt64 (L 211 (8 + (76800 + q))) (by rw [Int32.toInt_toInt64]; exact far) ((I 206 (76800 + r)).toInt64 + (L 211 (8 + (76800 + q)))) (if_pos n0).symm
                rw [Int32.toInt_toInt64, ← dt, ← xl] at W
                have c4 : ¬ ((vx_mvc f.n (vr_T I L (76800 + r)).det (vb_toS (vr_S L (8 + (76800 + q)))).low.toInt) < -vx_far ∨ vx_far < (vx_mvc f.n (vr_T I L (76800 + r)).det (vb_toS (vr_S L (8 + (76800 + q)))).low.toInt)) := fun z => (W.1.mpr z).elim (fun z => h8 (Int64.lt_iff_toInt_lt.mpr z)) (fun z => Int.not_le.mpr z (Int64.le_iff_toInt_le.mp h9))
                have e : (vx_mq f.n (vr_T I L (76800 + r)) (vb_toS (vr_S L (8 + (76800 + q))))) = (0, ((vr_T I L (76800 + r)).sort, (vx_mvc f.n (vr_T I L (76800 + r)).det (vb_toS (vr_S L (8 + (76800 + q)))).low.toInt), -1, vb_any)) := (if_neg c2).trans ((if_neg es).trans (if_neg c4))
                have e32 : (((I 206 (76800 + r)).toInt64 + (L 211 (8 + (76800 + q)))).toInt32).toInt = (vx_mvc f.n (vr_T I L (76800 + r)).det (vb_toS (vr_S L (8 + (76800 + q)))).low.toInt) := by
                  rw [Int64.toInt_toInt32, W.2 c4]; unfold vx_far at c4; generalize (vx_mvc f.n (vr_T I L (76800 + r)).det (vb_toS (vr_S L (8 + (76800 + q)))).low.toInt) = y at c4; rw [Int.bmod_def]; split <;> omega
                refine ⟨_, _, by rw [e]; rfl, fun _ => ⟨?_, ?_⟩, F2⟩
                · rw [vr_T_set A2 B2 C2, e, bs, ← e32, e5]; rfl
                · unfold vr_ok; rw [A2, B2, C2, e5]; exact Or.inr (Or.inr (Or.inr (Or.inl ⟨Or.inl rfl, rfl⟩)))
              · refine jv_Wp.lift (fun _ Kz => jv_Ev.steps jv_i286 1 (pc' := 149) (l' := [(10, .long ((I 206 (76800 + r)).toInt64 + (L 211 (8 + (76800 + q))))), (9, .int (1 : Int32)), (7, .long (I 206 (76800 + r)).toInt64), (5, .long (L 211 (8 + (76800 + q)))), (4, .int (vl_I (8 + (76800 + q)))), (3, .int (I 205 (76800 + r))), (0, .ref 196), (1, .int (vl_I r)), (2, .int (vl_I q))]) (st' := [.int (2 : Int32)]) rfl Kz) ?_
                refine jv_Wp.of (jv_Ev.ret jv_i286 rfl rfl) ?_
                rw [hQ]
                have e5 : I 205 (76800 + r) = 2 := h1
                have bs : (vr_T I L (76800 + r)).sort = 2 := (vr_is 2 (by decide) ok).mpr e5
                have c2 : ¬ ((vr_T I L (76800 + r)).sort = 4 ∨ (vr_T I L (76800 + r)).sort = 7) := by omega
                have es : ¬ (vb_toS (vr_S L (8 + (76800 + q)))).low ≠ (vb_toS (vr_S L (8 + (76800 + q)))).high := fun z => z (of_decide_eq_true (vr_b_t h2))
                have xl : (vb_toS (vr_S L (8 + (76800 + q)))).low.toInt = (L 211 (8 + (76800 + q))).toInt := rfl
                have dt : (vr_T I L (76800 + r)).det = (I 206 (76800 + r)).toInt := rfl
                have far := gg.1 (by omega)
                have n0 : f.n = 0 := (vr_sm (v := 0) (by omega) (by decide) rfl).mp (Classical.not_not.mp h5)
                have W := vx_wrap (n := f.n) (I 206 (76800 + r)).toInt64 (L 211 (8 + (76800 + q))) (by rw [Int32.toInt_toInt64]; exact far) ((I 206 (76800 + r)).toInt64 + (L 211 (8 + (76800 + q)))) (if_pos n0).symm
                rw [Int32.toInt_toInt64, ← dt, ← xl] at W
                have e : (vx_mq f.n (vr_T I L (76800 + r)) (vb_toS (vr_S L (8 + (76800 + q))))) = (2, (vr_T I L (76800 + r))) := (if_neg c2).trans ((if_neg es).trans (if_pos (W.1.mp (Or.inr (Int.not_le.mp ((not_congr Int64.le_iff_toInt_le).mp h9))))))
                exact ⟨_, _, by rw [e]; rfl, fun z => by rw [e] at z; exact absurd (show (2 : Nat) = 0 from z) (by decide), vr_fr_refl hf⟩
  · refine jv_Wp.lift (fun _ Kz => jv_Ev.steps jv_i286 2 (pc' := 30) (l' := [(4, .int (vl_I (8 + (76800 + q)))), (3, .int (I 205 (76800 + r))), (0, .ref 196), (1, .int (vl_I r)), (2, .int (vl_I q))]) (st' := [.int (3 : Int32), .int (I 205 (76800 + r))]) rfl Kz) ?_
    refine jv_Wp.cnd jv_i286 (pt := 167) (pe := 33) (p := (¬ (I 205 (76800 + r)) = (3 : Int32))) (q := (¬ (I 205 (76800 + r)) = (3 : Int32))) rfl jv_bc_ne rfl rfl Iff.rfl (fun h10 => ?_) (fun h10 => ?_)
    · refine jv_Wp.lift (fun _ Kz => jv_Ev.steps jv_i286 1 (pc' := 168) (l' := [(4, .int (vl_I (8 + (76800 + q)))), (3, .int (I 205 (76800 + r))), (0, .ref 196), (1, .int (vl_I r)), (2, .int (vl_I q))]) (st' := [.ref 196]) rfl Kz) ?_
      refine jv_Wp.lift (fun _ Kz => jv_Ev.m jv_i286 (pc' := 171) (st' := [.ref 206]) (G' := (jv_H K I L R)) rfl rfl (jv_m_getR (jv_rwK hW 196 12 24 (by decide)) rfl rfl (jv_rwR hW 196 14 206 (by decide))) Kz) ?_
      refine jv_Wp.lift (fun _ Kz => jv_Ev.steps jv_i286 2 (pc' := 175) (l' := [(4, .int (vl_I (8 + (76800 + q)))), (3, .int (I 205 (76800 + r))), (0, .ref 196), (1, .int (vl_I r)), (2, .int (vl_I q))]) (st' := [.int (vl_I r), .int (1024 : Int32), .ref 206]) rfl Kz) ?_
      refine jv_Wp.lift (fun _ Kz => jv_Ev.c jv_i286 (pc' := 178) (S' := [.int (vl_I (76800 + r)), .ref 206]) jv_i253 [.int (1024 : Int32), .int (vl_I r)] rfl rfl rfl rfl rfl rfl (vq_thing 1024 r) rfl rfl Kz) ?_
      refine jv_Wp.lift (fun _ Kz => jv_Ev.m jv_i286 (pc' := 179) (st' := [.int (I 206 (76800 + r))]) (G' := (jv_H K I L R)) rfl rfl (jv_m_ialdv (jv_rwK hW 206 102 77100 (by decide)) rfl (vl_I_ix (by omega) (by decide)) rfl ((congrArg (I 206) (vl_I_nat (by omega))).trans rfl)) Kz) ?_
      refine jv_Wp.lift (fun _ Kz => jv_Ev.steps jv_i286 2 (pc' := 182) (l' := [(5, .int (I 206 (76800 + r))), (4, .int (vl_I (8 + (76800 + q)))), (3, .int (I 205 (76800 + r))), (0, .ref 196), (1, .int (vl_I r)), (2, .int (vl_I q))]) (st' := [.ref 196]) rfl Kz) ?_
      refine jv_Wp.lift (fun _ Kz => jv_Ev.m jv_i286 (pc' := 185) (st' := [.ref 208]) (G' := (jv_H K I L R)) rfl rfl (jv_m_getR (jv_rwK hW 196 12 24 (by decide)) rfl rfl (jv_rwR hW 196 16 208 (by decide))) Kz) ?_
      refine jv_Wp.lift (fun _ Kz => jv_Ev.steps jv_i286 1 (pc' := 186) (l' := [(5, .int (I 206 (76800 + r))), (4, .int (vl_I (8 + (76800 + q)))), (3, .int (I 205 (76800 + r))), (0, .ref 196), (1, .int (vl_I r)), (2, .int (vl_I q))]) (st' := [.ref 196, .ref 208]) rfl Kz) ?_
      refine jv_Wp.lift (fun _ Kz => jv_Ev.c jv_i286 (pc' := 189) (S' := [.int (vl_I f.n), .ref 208]) jv_i258 [.ref 196] rfl rfl rfl rfl (jv_cal rfl (jv_H_at (jv_rwK hW 196 12 24 (by decide))) rfl rfl) rfl (vq_n f hW D) rfl rfl Kz) ?_
      refine jv_Wp.lift (fun _ Kz => jv_Ev.steps jv_i286 4 (pc' := 197) (l' := [(5, .int (I 206 (76800 + r))), (4, .int (vl_I (8 + (76800 + q)))), (3, .int (I 205 (76800 + r))), (0, .ref 196), (1, .int (vl_I r)), (2, .int (vl_I q))]) (st' := [.int (vl_I r), .int (1024 : Int32), .int (7 : Int32), .int (64 : Int32), .int (vl_I f.n), .ref 208]) rfl Kz) ?_
      refine jv_Wp.lift (fun _ Kz => jv_Ev.c jv_i286 (pc' := 200) (S' := [.int (vl_I (8 + (76800 + r))), .int (7 : Int32), .int (64 : Int32), .int (vl_I f.n), .ref 208]) jv_i254 [.int (1024 : Int32), .int (vl_I r)] rfl rfl rfl rfl rfl rfl (vq_row 1024 r) rfl rfl Kz) ?_
      refine jv_Wp.lift (fun _ Kz => jv_Ev.steps jv_i286 1 (pc' := 202) (l' := [(5, .int (I 206 (76800 + r))), (4, .int (vl_I (8 + (76800 + q)))), (3, .int (I 205 (76800 + r))), (0, .ref 196), (1, .int (vl_I r)), (2, .int (vl_I q))]) (st' := [.int (vl_I (8 + (76800 + q))), .int (vl_I (8 + (76800 + r))), .int (7 : Int32), .int (64 : Int32), .int (vl_I f.n), .ref 208]) rfl Kz) ?_
      have n2 : ¬ I 205 (76800 + r) = 2 := h1
      have n3 : ¬ I 205 (76800 + r) = 3 := h10
      have c47 : I 205 (76800 + r) = 4 ∨ I 205 (76800 + r) = 7 := hs.elim (fun z => absurd z n2) (fun z => z.elim (fun z => absurd z n3) id)
      have hv : vc_hv (I 205 (76800 + r)) = true := by rcases c47 with z | z <;> (rw [z]; rfl)
      have c2 : (vr_T I L (76800 + r)).sort = 4 ∨ (vr_T I L (76800 + r)).sort = 7 := c47.imp (fun z => (vr_is 4 (by decide) ok).mpr z) (fun z => (vr_is 7 (by decide) ok).mpr z)
      have bv : (vr_T I L (76800 + r)).val = vb_toS (vr_S L (8 + (76800 + r))) := vr_valv hv
      obtain ⟨I3, L3, H3, S3, F3⟩ := vq_rn (I := I) (L := L) (R := R) (n := n) (sl := sl) f.n true (d := 7) (a := 8 + (76800 + r)) (b := (8 + (76800 + q))) (by omega) (by omega) hW (by omega) (by omega) (by decide) (by decide) (by omega) (by omega) hf (vr_tight ok tt hv) hx
      rw [show vx_opn f.n = f.n by rcases hn01 with z | z <;> (rw [z]; rfl)] at H3
      rw [← bv] at S3
      have le : (L3 213 7).toInt = (vx_op f.n (vr_T I L (76800 + r)).val (vb_toS (vr_S L (8 + (76800 + q)))) 63).least.toInt := congrArg (fun z => z.least.toInt) S3
      have ge : (L3 214 7).toInt = (vx_op f.n (vr_T I L (76800 + r)).val (vb_toS (vr_S L (8 + (76800 + q)))) 63).greatest.toInt := congrArg (fun z => z.greatest.toInt) S3
      have Z3 := F3.1
      have D3 := vr_dec_rf F3 D
      refine jv_Wp.lift (fun _ Kz => jv_Ev.c jv_i286 (pc' := 205) (S' := []) (G1 := (jv_H K I3 L3 R)) jv_i249 [.ref 208, .int (vl_I f.n), .int (64 : Int32), .int (7 : Int32), .int (vl_I (8 + (76800 + r))), .int (vl_I (8 + (76800 + q)))] rfl rfl rfl rfl (jv_cal rfl (jv_H_at (jv_rwK hW 208 11 7 (by decide))) rfl rfl) rfl H3 rfl rfl Kz) ?_
      refine jv_Wp.lift (fun _ Kz => jv_Ev.steps jv_i286 1 (pc' := 206) (l' := [(5, .int (I 206 (76800 + r))), (4, .int (vl_I (8 + (76800 + q)))), (3, .int (I 205 (76800 + r))), (0, .ref 196), (1, .int (vl_I r)), (2, .int (vl_I q))]) (st' := [.ref 196]) rfl Kz) ?_
      refine jv_Wp.lift (fun _ Kz => jv_Ev.m jv_i286 (pc' := 209) (st' := [.ref 208]) (G' := (jv_H K I3 L3 R)) rfl rfl (jv_m_getR (jv_rwK hW 196 12 24 (by decide)) rfl rfl (jv_rwR hW 196 16 208 (by decide))) Kz) ?_
      refine jv_Wp.lift (fun _ Kz => jv_Ev.m jv_i286 (pc' := 212) (st' := [.ref 213]) (G' := (jv_H K I3 L3 R)) rfl rfl (jv_m_getR (jv_rwK hW 208 11 7 (by decide)) rfl rfl (jv_rwR hW 208 4 213 (by decide))) Kz) ?_
      refine jv_Wp.lift (fun _ Kz => jv_Ev.steps jv_i286 1 (pc' := 214) (l' := [(5, .int (I 206 (76800 + r))), (4, .int (vl_I (8 + (76800 + q)))), (3, .int (I 205 (76800 + r))), (0, .ref 196), (1, .int (vl_I r)), (2, .int (vl_I q))]) (st' := [.int (7 : Int32), .ref 213]) rfl Kz) ?_
      refine jv_Wp.lift (fun _ Kz => jv_Ev.m jv_i286 (pc' := 215) (st' := [.long (L3 213 7)]) (G' := (jv_H K I3 L3 R)) rfl rfl (jv_m_laldv (jv_rwK hW 213 103 77200 (by decide)) rfl (by decide) rfl rfl) Kz) ?_
      refine jv_Wp.lift (fun _ Kz => jv_Ev.steps jv_i286 2 (pc' := 219) (l' := [(5, .int (I 206 (76800 + r))), (4, .int (vl_I (8 + (76800 + q)))), (3, .int (I 205 (76800 + r))), (0, .ref 196), (1, .int (vl_I r)), (2, .int (vl_I q))]) (st' := [.int (lg_cmp (L3 213 7) (-536870912 : Int64))]) rfl Kz) ?_
      refine jv_Wp.cnd jv_i286 (pt := 239) (pe := 222) (p := ((lg_cmp (L3 213 7) (-536870912 : Int64)) < 0)) (q := ((L3 213 7) < (-536870912 : Int64))) rfl jv_bi_lt rfl rfl (lg_cmp_lt (L3 213 7) (-536870912 : Int64)) (fun h11 => ?_) (fun h11 => ?_)
      · refine jv_Wp.lift (fun _ Kz => jv_Ev.steps jv_i286 1 (pc' := 240) (l' := [(5, .int (I 206 (76800 + r))), (4, .int (vl_I (8 + (76800 + q)))), (3, .int (I 205 (76800 + r))), (0, .ref 196), (1, .int (vl_I r)), (2, .int (vl_I q))]) (st' := [.int (2 : Int32)]) rfl Kz) ?_
        refine jv_Wp.of (jv_Ev.ret jv_i286 rfl rfl) ?_
        rw [hQ]
        have e : (vx_mq f.n (vr_T I L (76800 + r)) (vb_toS (vr_S L (8 + (76800 + q))))) = (2, (vr_T I L (76800 + r))) := (if_pos c2).trans (if_pos (Or.inl (by rw [← le]; exact Int64.lt_iff_toInt_lt.mp h11)))
        exact ⟨_, _, by rw [e]; rfl, fun z => by rw [e] at z; exact absurd (show (2 : Nat) = 0 from z) (by decide), vq_rf_fr F3 (by decide)⟩
      · refine jv_Wp.lift (fun _ Kz => jv_Ev.steps jv_i286 1 (pc' := 223) (l' := [(5, .int (I 206 (76800 + r))), (4, .int (vl_I (8 + (76800 + q)))), (3, .int (I 205 (76800 + r))), (0, .ref 196), (1, .int (vl_I r)), (2, .int (vl_I q))]) (st' := [.ref 196]) rfl Kz) ?_
        refine jv_Wp.lift (fun _ Kz => jv_Ev.m jv_i286 (pc' := 226) (st' := [.ref 208]) (G' := (jv_H K I3 L3 R)) rfl rfl (jv_m_getR (jv_rwK hW 196 12 24 (by decide)) rfl rfl (jv_rwR hW 196 16 208 (by decide))) Kz) ?_
        refine jv_Wp.lift (fun _ Kz => jv_Ev.m jv_i286 (pc' := 229) (st' := [.ref 214]) (G' := (jv_H K I3 L3 R)) rfl rfl (jv_m_getR (jv_rwK hW 208 11 7 (by decide)) rfl rfl (jv_rwR hW 208 5 214 (by decide))) Kz) ?_
        refine jv_Wp.lift (fun _ Kz => jv_Ev.steps jv_i286 1 (pc' := 231) (l' := [(5, .int (I 206 (76800 + r))), (4, .int (vl_I (8 + (76800 + q)))), (3, .int (I 205 (76800 + r))), (0, .ref 196), (1, .int (vl_I r)), (2, .int (vl_I q))]) (st' := [.int (7 : Int32), .ref 214]) rfl Kz) ?_
        refine jv_Wp.lift (fun _ Kz => jv_Ev.m jv_i286 (pc' := 232) (st' := [.long (L3 214 7)]) (G' := (jv_H K I3 L3 R)) rfl rfl (jv_m_laldv (jv_rwK hW 214 103 77200 (by decide)) rfl (by decide) rfl rfl) Kz) ?_
        refine jv_Wp.lift (fun _ Kz => jv_Ev.steps jv_i286 2 (pc' := 236) (l' := [(5, .int (I 206 (76800 + r))), (4, .int (vl_I (8 + (76800 + q)))), (3, .int (I 205 (76800 + r))), (0, .ref 196), (1, .int (vl_I r)), (2, .int (vl_I q))]) (st' := [.int (lg_cmp (L3 214 7) (536870912 : Int64))]) rfl Kz) ?_
        refine jv_Wp.cnd jv_i286 (pt := 241) (pe := 239) (p := ((lg_cmp (L3 214 7) (536870912 : Int64)) ≤ 0)) (q := ((L3 214 7) ≤ (536870912 : Int64))) rfl jv_bi_le rfl rfl (lg_cmp_le (L3 214 7) (536870912 : Int64)) (fun h12 => ?_) (fun h12 => ?_)
        · refine jv_Wp.lift (fun _ Kz => jv_Ev.steps jv_i286 3 (pc' := 246) (l' := [(5, .int (I 206 (76800 + r))), (4, .int (vl_I (8 + (76800 + q)))), (3, .int (I 205 (76800 + r))), (0, .ref 196), (1, .int (vl_I r)), (2, .int (vl_I q))]) (st' := [.ref 196, .int (1024 : Int32), .ref 196]) rfl Kz) ?_
          refine jv_Wp.lift (fun _ Kz => jv_Ev.m jv_i286 (pc' := 249) (st' := [.int (vl_I f.d), .int (1024 : Int32), .ref 196]) (G' := (jv_H K I3 L3 R)) rfl rfl (jv_m_getI (jv_rwK hW 196 12 24 (by decide)) rfl rfl D3.2.1) Kz) ?_
          refine jv_Wp.lift (fun _ Kz => jv_Ev.steps jv_i286 2 (pc' := 252) (l' := [(5, .int (I 206 (76800 + r))), (4, .int (vl_I (8 + (76800 + q)))), (3, .int (I 205 (76800 + r))), (0, .ref 196), (1, .int (vl_I r)), (2, .int (vl_I q))]) (st' := [.int (I 206 (76800 + r)), .int (I 205 (76800 + r)), .int (vl_I f.d), .int (1024 : Int32), .ref 196]) rfl Kz) ?_
          obtain ⟨I4, L4, H4, A4, B4, C4, F4, eL4⟩ := vq_setx (I := I3) (L := L3) (R := R) (n := n) (sl := sl) 1024 f.d (I 205 (76800 + r)) (I 206 (76800 + r)) hW Z3 (by omega)
          have Z4 := vr_fl_of F4
          have D4 := vr_dec_n F4 D3
          refine jv_Wp.lift (fun _ Kz => jv_Ev.c jv_i286 (pc' := 255) (S' := []) (G1 := (jv_H K I4 L4 R)) jv_i272 [.ref 196, .int (1024 : Int32), .int (vl_I f.d), .int (I 205 (76800 + r)), .int (I 206 (76800 + r))] rfl rfl rfl rfl (jv_cal rfl (jv_H_at (jv_rwK hW 196 12 24 (by decide))) rfl rfl) rfl H4 rfl rfl Kz) ?_
          refine jv_Wp.lift (fun _ Kz => jv_Ev.steps jv_i286 1 (pc' := 256) (l' := [(5, .int (I 206 (76800 + r))), (4, .int (vl_I (8 + (76800 + q)))), (3, .int (I 205 (76800 + r))), (0, .ref 196), (1, .int (vl_I r)), (2, .int (vl_I q))]) (st' := [.ref 196]) rfl Kz) ?_
          refine jv_Wp.lift (fun _ Kz => jv_Ev.m jv_i286 (pc' := 259) (st' := [.ref 208]) (G' := (jv_H K I4 L4 R)) rfl rfl (jv_m_getR (jv_rwK hW 196 12 24 (by decide)) rfl rfl (jv_rwR hW 196 16 208 (by decide))) Kz) ?_
          refine jv_Wp.lift (fun _ Kz => jv_Ev.steps jv_i286 3 (pc' := 265) (l' := [(5, .int (I 206 (76800 + r))), (4, .int (vl_I (8 + (76800 + q)))), (3, .int (I 205 (76800 + r))), (0, .ref 196), (1, .int (vl_I r)), (2, .int (vl_I q))]) (st' := [.ref 196, .int (1024 : Int32), .int (7 : Int32), .ref 208]) rfl Kz) ?_
          refine jv_Wp.lift (fun _ Kz => jv_Ev.m jv_i286 (pc' := 268) (st' := [.int (vl_I f.d), .int (1024 : Int32), .int (7 : Int32), .ref 208]) (G' := (jv_H K I4 L4 R)) rfl rfl (jv_m_getI (jv_rwK hW 196 12 24 (by decide)) rfl rfl D4.2.1) Kz) ?_
          refine jv_Wp.lift (fun _ Kz => jv_Ev.c jv_i286 (pc' := 271) (S' := [.int (vl_I (8 + (76800 + f.d))), .int (7 : Int32), .ref 208]) jv_i254 [.int (1024 : Int32), .int (vl_I f.d)] rfl rfl rfl rfl rfl rfl (vq_row 1024 f.d) rfl rfl Kz) ?_
          obtain ⟨I5, L5, H5, S5, F5⟩ := vq_copy (I := I4) (L := L4) (R := R) (n := n) (sl := sl) (a := 7) (d := 8 + (76800 + f.d)) hW (by decide) (by omega) Z4 (Z4 _ (by decide))
          refine jv_Wp.lift (fun _ Kz => jv_Ev.c jv_i286 (pc' := 274) (S' := []) (G1 := (jv_H K I5 L5 R)) jv_i208 [.ref 208, .int (7 : Int32), .int (vl_I (8 + (76800 + f.d)))] rfl rfl rfl rfl (jv_cal rfl (jv_H_at (jv_rwK hW 208 11 7 (by decide))) rfl rfl) rfl H5 rfl rfl Kz) ?_
          refine jv_Wp.lift (fun _ Kz => jv_Ev.steps jv_i286 1 (pc' := 275) (l' := [(5, .int (I 206 (76800 + r))), (4, .int (vl_I (8 + (76800 + q)))), (3, .int (I 205 (76800 + r))), (0, .ref 196), (1, .int (vl_I r)), (2, .int (vl_I q))]) (st' := [.int (0 : Int32)]) rfl Kz) ?_
          refine jv_Wp.of (jv_Ev.ret jv_i286 rfl rfl) ?_
          rw [hQ]
          have c3 := (by rw [← le, ← ge]; exact fun z => z.elim (fun z => h11 (Int64.lt_iff_toInt_lt.mpr z)) (fun z => Int.not_le.mpr z (Int64.le_iff_toInt_le.mp h12)) : ¬ ((vx_op f.n (vr_T I L (76800 + r)).val (vb_toS (vr_S L (8 + (76800 + q)))) 63).least.toInt < -vx_far ∨ vx_far < (vx_op f.n (vr_T I L (76800 + r)).val (vb_toS (vr_S L (8 + (76800 + q)))) 63).greatest.toInt))
          have e : (vx_mq f.n (vr_T I L (76800 + r)) (vb_toS (vr_S L (8 + (76800 + q))))) = (0, ((vr_T I L (76800 + r)).sort, (vr_T I L (76800 + r)).det, -1, vx_op f.n (vr_T I L (76800 + r)).val (vb_toS (vr_S L (8 + (76800 + q)))) 63)) := (if_pos c2).trans (if_neg c3)
          subst eL4
          have q5 : I5 205 (76800 + f.d) = I 205 (76800 + r) := (F5.2.1 205 _ (by decide)).trans A4
          have q6 : I5 206 (76800 + f.d) = I 206 (76800 + r) := (F5.2.1 206 _ (by decide)).trans B4
          have q7 : I5 207 (76800 + f.d) = -1 := (F5.2.1 207 _ (by decide)).trans C4
          refine ⟨_, _, by rw [e]; rfl, fun _ => ⟨?_, ?_⟩, vr_fr_trans (vq_rf_fr F3 (by decide)) (vr_fr_trans F4 (vq_rf_frx F5 rfl))⟩
          · rw [vr_T_set q5 q6 q7, S5, S3, vb_toS_toR, e, vr_D_v hv]
            refine Prod.ext ?_ rfl; rcases c47 with z | z <;> (show _ = (vr_T I L (76800 + r)).sort; rw [z])
            · exact ((vr_is 4 (by decide) ok).mpr z).symm
            · exact ((vr_is 7 (by decide) ok).mpr z).symm
          · unfold vr_ok; rw [q5, q6, q7]; rcases c47 with z | z
            · exact Or.inr (Or.inr (Or.inl ⟨Or.inr (Or.inl z), (vr_okv ok (Or.inr (Or.inl z))).1, rfl⟩))
            · exact Or.inr (Or.inr (Or.inr (Or.inl ⟨Or.inr (Or.inr (Or.inr z)), rfl⟩)))
        · refine jv_Wp.lift (fun _ Kz => jv_Ev.steps jv_i286 1 (pc' := 240) (l' := [(5, .int (I 206 (76800 + r))), (4, .int (vl_I (8 + (76800 + q)))), (3, .int (I 205 (76800 + r))), (0, .ref 196), (1, .int (vl_I r)), (2, .int (vl_I q))]) (st' := [.int (2 : Int32)]) rfl Kz) ?_
          refine jv_Wp.of (jv_Ev.ret jv_i286 rfl rfl) ?_
          rw [hQ]
          have e : (vx_mq f.n (vr_T I L (76800 + r)) (vb_toS (vr_S L (8 + (76800 + q))))) = (2, (vr_T I L (76800 + r))) := (if_pos c2).trans (if_pos (Or.inr (by rw [← ge]; exact Int.not_le.mp ((not_congr Int64.le_iff_toInt_le).mp h12))))
          exact ⟨_, _, by rw [e]; rfl, fun z => by rw [e] at z; exact absurd (show (2 : Nat) = 0 from z) (by decide), vq_rf_fr F3 (by decide)⟩
    · refine jv_Wp.lift (fun _ Kz => jv_Ev.steps jv_i286 1 (pc' := 34) (l' := [(4, .int (vl_I (8 + (76800 + q)))), (3, .int (I 205 (76800 + r))), (0, .ref 196), (1, .int (vl_I r)), (2, .int (vl_I q))]) (st' := [.ref 196]) rfl Kz) ?_
      refine jv_Wp.lift (fun _ Kz => jv_Ev.m jv_i286 (pc' := 37) (st' := [.ref 208]) (G' := (jv_H K I L R)) rfl rfl (jv_m_getR (jv_rwK hW 196 12 24 (by decide)) rfl rfl (jv_rwR hW 196 16 208 (by decide))) Kz) ?_
      refine jv_Wp.lift (fun _ Kz => jv_Ev.m jv_i286 (pc' := 40) (st' := [.ref 211]) (G' := (jv_H K I L R)) rfl rfl (jv_m_getR (jv_rwK hW 208 11 7 (by decide)) rfl rfl (jv_rwR hW 208 2 211 (by decide))) Kz) ?_
      refine jv_Wp.lift (fun _ Kz => jv_Ev.steps jv_i286 1 (pc' := 42) (l' := [(4, .int (vl_I (8 + (76800 + q)))), (3, .int (I 205 (76800 + r))), (0, .ref 196), (1, .int (vl_I r)), (2, .int (vl_I q))]) (st' := [.int (vl_I (8 + (76800 + q))), .ref 211]) rfl Kz) ?_
      refine jv_Wp.lift (fun _ Kz => jv_Ev.m jv_i286 (pc' := 43) (st' := [.long (L 211 (8 + (76800 + q)))]) (G' := (jv_H K I L R)) rfl rfl (jv_m_laldv (jv_rwK hW 211 103 77200 (by decide)) rfl (vl_I_ix (by omega) (by decide)) rfl ((congrArg (L 211) (vl_I_nat (by omega))).trans rfl)) Kz) ?_
      refine jv_Wp.lift (fun _ Kz => jv_Ev.steps jv_i286 2 (pc' := 46) (l' := [(5, .long (L 211 (8 + (76800 + q)))), (4, .int (vl_I (8 + (76800 + q)))), (3, .int (I 205 (76800 + r))), (0, .ref 196), (1, .int (vl_I r)), (2, .int (vl_I q))]) (st' := [.ref 196]) rfl Kz) ?_
      refine jv_Wp.lift (fun _ Kz => jv_Ev.m jv_i286 (pc' := 49) (st' := [.ref 206]) (G' := (jv_H K I L R)) rfl rfl (jv_m_getR (jv_rwK hW 196 12 24 (by decide)) rfl rfl (jv_rwR hW 196 14 206 (by decide))) Kz) ?_
      refine jv_Wp.lift (fun _ Kz => jv_Ev.steps jv_i286 2 (pc' := 53) (l' := [(5, .long (L 211 (8 + (76800 + q)))), (4, .int (vl_I (8 + (76800 + q)))), (3, .int (I 205 (76800 + r))), (0, .ref 196), (1, .int (vl_I r)), (2, .int (vl_I q))]) (st' := [.int (vl_I r), .int (1024 : Int32), .ref 206]) rfl Kz) ?_
      refine jv_Wp.lift (fun _ Kz => jv_Ev.c jv_i286 (pc' := 56) (S' := [.int (vl_I (76800 + r)), .ref 206]) jv_i253 [.int (1024 : Int32), .int (vl_I r)] rfl rfl rfl rfl rfl rfl (vq_thing 1024 r) rfl rfl Kz) ?_
      refine jv_Wp.lift (fun _ Kz => jv_Ev.m jv_i286 (pc' := 57) (st' := [.int (I 206 (76800 + r))]) (G' := (jv_H K I L R)) rfl rfl (jv_m_ialdv (jv_rwK hW 206 102 77100 (by decide)) rfl (vl_I_ix (by omega) (by decide)) rfl ((congrArg (I 206) (vl_I_nat (by omega))).trans rfl)) Kz) ?_
      refine jv_Wp.lift (fun _ Kz => jv_Ev.steps jv_i286 3 (pc' := 61) (l' := [(7, .long (I 206 (76800 + r)).toInt64), (5, .long (L 211 (8 + (76800 + q)))), (4, .int (vl_I (8 + (76800 + q)))), (3, .int (I 205 (76800 + r))), (0, .ref 196), (1, .int (vl_I r)), (2, .int (vl_I q))]) (st' := [.ref 196]) rfl Kz) ?_
      refine jv_Wp.lift (fun _ Kz => jv_Ev.m jv_i286 (pc' := 64) (st' := [.ref 208]) (G' := (jv_H K I L R)) rfl rfl (jv_m_getR (jv_rwK hW 196 12 24 (by decide)) rfl rfl (jv_rwR hW 196 16 208 (by decide))) Kz) ?_
      refine jv_Wp.lift (fun _ Kz => jv_Ev.steps jv_i286 1 (pc' := 66) (l' := [(7, .long (I 206 (76800 + r)).toInt64), (5, .long (L 211 (8 + (76800 + q)))), (4, .int (vl_I (8 + (76800 + q)))), (3, .int (I 205 (76800 + r))), (0, .ref 196), (1, .int (vl_I r)), (2, .int (vl_I q))]) (st' := [.int (vl_I (8 + (76800 + q))), .ref 208]) rfl Kz) ?_
      refine jv_Wp.lift (fun _ Kz => jv_Ev.c jv_i286 (pc' := 69) (S' := [.int (vr_b (decide ((vr_S L (8 + (76800 + q))).low = (vr_S L (8 + (76800 + q))).high)))]) jv_i209 [.ref 208, .int (vl_I (8 + (76800 + q)))] rfl rfl rfl rfl (jv_cal rfl (jv_H_at (jv_rwK hW 208 11 7 (by decide))) rfl rfl) rfl (vq_isSingle (a := (8 + (76800 + q))) hW (by omega)) rfl rfl Kz) ?_
      refine jv_Wp.cnd jv_i286 (pt := 94) (pe := 72) (p := ((vr_b (decide ((vr_S L (8 + (76800 + q))).low = (vr_S L (8 + (76800 + q))).high))) = 0)) (q := ((vr_b (decide ((vr_S L (8 + (76800 + q))).low = (vr_S L (8 + (76800 + q))).high))) = 0)) rfl jv_bi_eq rfl rfl Iff.rfl (fun h13 => ?_) (fun h13 => ?_)
      · refine jv_Wp.lift (fun _ Kz => jv_Ev.steps jv_i286 3 (pc' := 99) (l' := [(9, .int (0 : Int32)), (7, .long (I 206 (76800 + r)).toInt64), (5, .long (L 211 (8 + (76800 + q)))), (4, .int (vl_I (8 + (76800 + q)))), (3, .int (I 205 (76800 + r))), (0, .ref 196), (1, .int (vl_I r)), (2, .int (vl_I q))]) (st' := [.int (0 : Int32)]) rfl Kz) ?_
        refine jv_Wp.lift (fun _ Kz => jv_Ev.br jv_i286 (pc' := 125) (st' := []) rfl (by rfl) Kz) ?_
        refine jv_Wp.lift (fun _ Kz => jv_Ev.steps jv_i286 5 (pc' := 136) (l' := [(10, .long (1073741824 : Int64)), (9, .int (0 : Int32)), (7, .long (I 206 (76800 + r)).toInt64), (5, .long (L 211 (8 + (76800 + q)))), (4, .int (vl_I (8 + (76800 + q)))), (3, .int (I 205 (76800 + r))), (0, .ref 196), (1, .int (vl_I r)), (2, .int (vl_I q))]) (st' := [.int (lg_cmp (1073741824 : Int64) (-536870912 : Int64))]) rfl Kz) ?_
        refine jv_Wp.cnd jv_i286 (pt := 148) (pe := 139) (p := ((lg_cmp (1073741824 : Int64) (-536870912 : Int64)) < 0)) (q := ((1073741824 : Int64) < (-536870912 : Int64))) rfl jv_bi_lt rfl rfl (lg_cmp_lt (1073741824 : Int64) (-536870912 : Int64)) (fun hz => absurd hz (by decide)) (fun _ => ?_)
        refine jv_Wp.lift (fun _ Kz => jv_Ev.steps jv_i286 3 (pc' := 145) (l' := [(10, .long (1073741824 : Int64)), (9, .int (0 : Int32)), (7, .long (I 206 (76800 + r)).toInt64), (5, .long (L 211 (8 + (76800 + q)))), (4, .int (vl_I (8 + (76800 + q)))), (3, .int (I 205 (76800 + r))), (0, .ref 196), (1, .int (vl_I r)), (2, .int (vl_I q))]) (st' := [.int (lg_cmp (1073741824 : Int64) (536870912 : Int64))]) rfl Kz) ?_
        refine jv_Wp.cnd jv_i286 (pt := 150) (pe := 148) (p := ((lg_cmp (1073741824 : Int64) (536870912 : Int64)) ≤ 0)) (q := ((1073741824 : Int64) ≤ (536870912 : Int64))) rfl jv_bi_le rfl rfl (lg_cmp_le (1073741824 : Int64) (536870912 : Int64)) (fun hz => absurd hz (by decide)) (fun _ => ?_)
        refine jv_Wp.lift (fun _ Kz => jv_Ev.steps jv_i286 1 (pc' := 149) (l' := [(10, .long (1073741824 : Int64)), (9, .int (0 : Int32)), (7, .long (I 206 (76800 + r)).toInt64), (5, .long (L 211 (8 + (76800 + q)))), (4, .int (vl_I (8 + (76800 + q)))), (3, .int (I 205 (76800 + r))), (0, .ref 196), (1, .int (vl_I r)), (2, .int (vl_I q))]) (st' := [.int (2 : Int32)]) rfl Kz) ?_
        refine jv_Wp.of (jv_Ev.ret jv_i286 rfl rfl) ?_
        rw [hQ]
        have e5 : I 205 (76800 + r) = 3 := (Classical.not_not.mp h10)
        have bs : (vr_T I L (76800 + r)).sort = 3 := (vr_is 3 (by decide) ok).mpr e5
        have c2 : ¬ ((vr_T I L (76800 + r)).sort = 4 ∨ (vr_T I L (76800 + r)).sort = 7) := by omega
        have ns : (vb_toS (vr_S L (8 + (76800 + q)))).low ≠ (vb_toS (vr_S L (8 + (76800 + q)))).high := of_decide_eq_false (vr_b_f h13)
        have e : (vx_mq f.n (vr_T I L (76800 + r)) (vb_toS (vr_S L (8 + (76800 + q))))) = (2, (vr_T I L (76800 + r))) := (if_neg c2).trans (if_pos ns)
        exact ⟨_, _, by rw [e]; rfl, fun z => by rw [e] at z; exact absurd (show (2 : Nat) = 0 from z) (by decide), vr_fr_refl hf⟩
      · refine jv_Wp.lift (fun _ Kz => jv_Ev.steps jv_i286 3 (pc' := 78) (l' := [(7, .long (I 206 (76800 + r)).toInt64), (5, .long (L 211 (8 + (76800 + q)))), (4, .int (vl_I (8 + (76800 + q)))), (3, .int (I 205 (76800 + r))), (0, .ref 196), (1, .int (vl_I r)), (2, .int (vl_I q))]) (st' := [.int (lg_cmp (L 211 (8 + (76800 + q))) (-1073741824 : Int64))]) rfl Kz) ?_
        refine jv_Wp.cnd jv_i286 (pt := 94) (pe := 81) (p := ((lg_cmp (L 211 (8 + (76800 + q))) (-1073741824 : Int64)) < 0)) (q := ((L 211 (8 + (76800 + q))) < (-1073741824 : Int64))) rfl jv_bi_lt rfl rfl (lg_cmp_lt (L 211 (8 + (76800 + q))) (-1073741824 : Int64)) (fun h14 => ?_) (fun h14 => ?_)
        · refine jv_Wp.lift (fun _ Kz => jv_Ev.steps jv_i286 3 (pc' := 99) (l' := [(9, .int (0 : Int32)), (7, .long (I 206 (76800 + r)).toInt64), (5, .long (L 211 (8 + (76800 + q)))), (4, .int (vl_I (8 + (76800 + q)))), (3, .int (I 205 (76800 + r))), (0, .ref 196), (1, .int (vl_I r)), (2, .int (vl_I q))]) (st' := [.int (0 : Int32)]) rfl Kz) ?_
          refine jv_Wp.lift (fun _ Kz => jv_Ev.br jv_i286 (pc' := 125) (st' := []) rfl (by rfl) Kz) ?_
          refine jv_Wp.lift (fun _ Kz => jv_Ev.steps jv_i286 5 (pc' := 136) (l' := [(10, .long (1073741824 : Int64)), (9, .int (0 : Int32)), (7, .long (I 206 (76800 + r)).toInt64), (5, .long (L 211 (8 + (76800 + q)))), (4, .int (vl_I (8 + (76800 + q)))), (3, .int (I 205 (76800 + r))), (0, .ref 196), (1, .int (vl_I r)), (2, .int (vl_I q))]) (st' := [.int (lg_cmp (1073741824 : Int64) (-536870912 : Int64))]) rfl Kz) ?_
          refine jv_Wp.cnd jv_i286 (pt := 148) (pe := 139) (p := ((lg_cmp (1073741824 : Int64) (-536870912 : Int64)) < 0)) (q := ((1073741824 : Int64) < (-536870912 : Int64))) rfl jv_bi_lt rfl rfl (lg_cmp_lt (1073741824 : Int64) (-536870912 : Int64)) (fun hz => absurd hz (by decide)) (fun _ => ?_)
          refine jv_Wp.lift (fun _ Kz => jv_Ev.steps jv_i286 3 (pc' := 145) (l' := [(10, .long (1073741824 : Int64)), (9, .int (0 : Int32)), (7, .long (I 206 (76800 + r)).toInt64), (5, .long (L 211 (8 + (76800 + q)))), (4, .int (vl_I (8 + (76800 + q)))), (3, .int (I 205 (76800 + r))), (0, .ref 196), (1, .int (vl_I r)), (2, .int (vl_I q))]) (st' := [.int (lg_cmp (1073741824 : Int64) (536870912 : Int64))]) rfl Kz) ?_
          refine jv_Wp.cnd jv_i286 (pt := 150) (pe := 148) (p := ((lg_cmp (1073741824 : Int64) (536870912 : Int64)) ≤ 0)) (q := ((1073741824 : Int64) ≤ (536870912 : Int64))) rfl jv_bi_le rfl rfl (lg_cmp_le (1073741824 : Int64) (536870912 : Int64)) (fun hz => absurd hz (by decide)) (fun _ => ?_)
          refine jv_Wp.lift (fun _ Kz => jv_Ev.steps jv_i286 1 (pc' := 149) (l' := [(10, .long (1073741824 : Int64)), (9, .int (0 : Int32)), (7, .long (I 206 (76800 + r)).toInt64), (5, .long (L 211 (8 + (76800 + q)))), (4, .int (vl_I (8 + (76800 + q)))), (3, .int (I 205 (76800 + r))), (0, .ref 196), (1, .int (vl_I r)), (2, .int (vl_I q))]) (st' := [.int (2 : Int32)]) rfl Kz) ?_
          refine jv_Wp.of (jv_Ev.ret jv_i286 rfl rfl) ?_
          rw [hQ]
          have e5 : I 205 (76800 + r) = 3 := (Classical.not_not.mp h10)
          have bs : (vr_T I L (76800 + r)).sort = 3 := (vr_is 3 (by decide) ok).mpr e5
          have c2 : ¬ ((vr_T I L (76800 + r)).sort = 4 ∨ (vr_T I L (76800 + r)).sort = 7) := by omega
          have es : ¬ (vb_toS (vr_S L (8 + (76800 + q)))).low ≠ (vb_toS (vr_S L (8 + (76800 + q)))).high := fun z => z (of_decide_eq_true (vr_b_t h13))
          have xl : (vb_toS (vr_S L (8 + (76800 + q)))).low.toInt = (L 211 (8 + (76800 + q))).toInt := rfl
          have dt : (vr_T I L (76800 + r)).det = (I 206 (76800 + r)).toInt := rfl
          have far := gg.1 (by omega)
          have vv : (L 211 (8 + (76800 + q))).toInt < -1073741824 := Int64.lt_iff_toInt_lt.mp h14
          have c4 : (vx_mvc f.n (vr_T I L (76800 + r)).det (vb_toS (vr_S L (8 + (76800 + q)))).low.toInt) < -vx_far ∨ vx_far < (vx_mvc f.n (vr_T I L (76800 + r)).det (vb_toS (vr_S L (8 + (76800 + q)))).low.toInt) := by
            rw [xl]; unfold vx_mvc vx_far; split <;> omega
          have e : (vx_mq f.n (vr_T I L (76800 + r)) (vb_toS (vr_S L (8 + (76800 + q))))) = (2, (vr_T I L (76800 + r))) := (if_neg c2).trans ((if_neg es).trans (if_pos c4))
          exact ⟨_, _, by rw [e]; rfl, fun z => by rw [e] at z; exact absurd (show (2 : Nat) = 0 from z) (by decide), vr_fr_refl hf⟩
        · refine jv_Wp.lift (fun _ Kz => jv_Ev.steps jv_i286 3 (pc' := 87) (l' := [(7, .long (I 206 (76800 + r)).toInt64), (5, .long (L 211 (8 + (76800 + q)))), (4, .int (vl_I (8 + (76800 + q)))), (3, .int (I 205 (76800 + r))), (0, .ref 196), (1, .int (vl_I r)), (2, .int (vl_I q))]) (st' := [.int (lg_cmp (L 211 (8 + (76800 + q))) (1073741824 : Int64))]) rfl Kz) ?_
          refine jv_Wp.cnd jv_i286 (pt := 94) (pe := 90) (p := (0 < (lg_cmp (L 211 (8 + (76800 + q))) (1073741824 : Int64)))) (q := ((1073741824 : Int64) < (L 211 (8 + (76800 + q))))) rfl jv_bi_gt rfl rfl (lg_cmp_gt (L 211 (8 + (76800 + q))) (1073741824 : Int64)) (fun h15 => ?_) (fun h15 => ?_)
          · refine jv_Wp.lift (fun _ Kz => jv_Ev.steps jv_i286 3 (pc' := 99) (l' := [(9, .int (0 : Int32)), (7, .long (I 206 (76800 + r)).toInt64), (5, .long (L 211 (8 + (76800 + q)))), (4, .int (vl_I (8 + (76800 + q)))), (3, .int (I 205 (76800 + r))), (0, .ref 196), (1, .int (vl_I r)), (2, .int (vl_I q))]) (st' := [.int (0 : Int32)]) rfl Kz) ?_
            refine jv_Wp.lift (fun _ Kz => jv_Ev.br jv_i286 (pc' := 125) (st' := []) rfl (by rfl) Kz) ?_
            refine jv_Wp.lift (fun _ Kz => jv_Ev.steps jv_i286 5 (pc' := 136) (l' := [(10, .long (1073741824 : Int64)), (9, .int (0 : Int32)), (7, .long (I 206 (76800 + r)).toInt64), (5, .long (L 211 (8 + (76800 + q)))), (4, .int (vl_I (8 + (76800 + q)))), (3, .int (I 205 (76800 + r))), (0, .ref 196), (1, .int (vl_I r)), (2, .int (vl_I q))]) (st' := [.int (lg_cmp (1073741824 : Int64) (-536870912 : Int64))]) rfl Kz) ?_
            refine jv_Wp.cnd jv_i286 (pt := 148) (pe := 139) (p := ((lg_cmp (1073741824 : Int64) (-536870912 : Int64)) < 0)) (q := ((1073741824 : Int64) < (-536870912 : Int64))) rfl jv_bi_lt rfl rfl (lg_cmp_lt (1073741824 : Int64) (-536870912 : Int64)) (fun hz => absurd hz (by decide)) (fun _ => ?_)
            refine jv_Wp.lift (fun _ Kz => jv_Ev.steps jv_i286 3 (pc' := 145) (l' := [(10, .long (1073741824 : Int64)), (9, .int (0 : Int32)), (7, .long (I 206 (76800 + r)).toInt64), (5, .long (L 211 (8 + (76800 + q)))), (4, .int (vl_I (8 + (76800 + q)))), (3, .int (I 205 (76800 + r))), (0, .ref 196), (1, .int (vl_I r)), (2, .int (vl_I q))]) (st' := [.int (lg_cmp (1073741824 : Int64) (536870912 : Int64))]) rfl Kz) ?_
            refine jv_Wp.cnd jv_i286 (pt := 150) (pe := 148) (p := ((lg_cmp (1073741824 : Int64) (536870912 : Int64)) ≤ 0)) (q := ((1073741824 : Int64) ≤ (536870912 : Int64))) rfl jv_bi_le rfl rfl (lg_cmp_le (1073741824 : Int64) (536870912 : Int64)) (fun hz => absurd hz (by decide)) (fun _ => ?_)
            refine jv_Wp.lift (fun _ Kz => jv_Ev.steps jv_i286 1 (pc' := 149) (l' := [(10, .long (1073741824 : Int64)), (9, .int (0 : Int32)), (7, .long (I 206 (76800 + r)).toInt64), (5, .long (L 211 (8 + (76800 + q)))), (4, .int (vl_I (8 + (76800 + q)))), (3, .int (I 205 (76800 + r))), (0, .ref 196), (1, .int (vl_I r)), (2, .int (vl_I q))]) (st' := [.int (2 : Int32)]) rfl Kz) ?_
            refine jv_Wp.of (jv_Ev.ret jv_i286 rfl rfl) ?_
            rw [hQ]
            have e5 : I 205 (76800 + r) = 3 := (Classical.not_not.mp h10)
            have bs : (vr_T I L (76800 + r)).sort = 3 := (vr_is 3 (by decide) ok).mpr e5
            have c2 : ¬ ((vr_T I L (76800 + r)).sort = 4 ∨ (vr_T I L (76800 + r)).sort = 7) := by omega
            have es : ¬ (vb_toS (vr_S L (8 + (76800 + q)))).low ≠ (vb_toS (vr_S L (8 + (76800 + q)))).high := fun z => z (of_decide_eq_true (vr_b_t h13))
            have xl : (vb_toS (vr_S L (8 + (76800 + q)))).low.toInt = (L 211 (8 + (76800 + q))).toInt := rfl
            have dt : (vr_T I L (76800 + r)).det = (I 206 (76800 + r)).toInt := rfl
            have far := gg.1 (by omega)
            have vv : 1073741824 < (L 211 (8 + (76800 + q))).toInt := Int64.lt_iff_toInt_lt.mp h15
            have c4 : (vx_mvc f.n (vr_T I L (76800 + r)).det (vb_toS (vr_S L (8 + (76800 + q)))).low.toInt) < -vx_far ∨ vx_far < (vx_mvc f.n (vr_T I L (76800 + r)).det (vb_toS (vr_S L (8 + (76800 + q)))).low.toInt) := by
              rw [xl]; unfold vx_mvc vx_far; split <;> omega
            have e : (vx_mq f.n (vr_T I L (76800 + r)) (vb_toS (vr_S L (8 + (76800 + q))))) = (2, (vr_T I L (76800 + r))) := (if_neg c2).trans ((if_neg es).trans (if_pos c4))
            exact ⟨_, _, by rw [e]; rfl, fun z => by rw [e] at z; exact absurd (show (2 : Nat) = 0 from z) (by decide), vr_fr_refl hf⟩
          · refine jv_Wp.lift (fun _ Kz => jv_Ev.steps jv_i286 4 (pc' := 99) (l' := [(9, .int (1 : Int32)), (7, .long (I 206 (76800 + r)).toInt64), (5, .long (L 211 (8 + (76800 + q)))), (4, .int (vl_I (8 + (76800 + q)))), (3, .int (I 205 (76800 + r))), (0, .ref 196), (1, .int (vl_I r)), (2, .int (vl_I q))]) (st' := [.int (1 : Int32)]) rfl Kz) ?_
            refine jv_Wp.lift (fun _ Kz => jv_Ev.br jv_i286 (pc' := 102) (st' := []) rfl (by rfl) Kz) ?_
            refine jv_Wp.lift (fun _ Kz => jv_Ev.steps jv_i286 1 (pc' := 103) (l' := [(9, .int (1 : Int32)), (7, .long (I 206 (76800 + r)).toInt64), (5, .long (L 211 (8 + (76800 + q)))), (4, .int (vl_I (8 + (76800 + q)))), (3, .int (I 205 (76800 + r))), (0, .ref 196), (1, .int (vl_I r)), (2, .int (vl_I q))]) (st' := [.ref 196]) rfl Kz) ?_
            refine jv_Wp.lift (fun _ Kz => jv_Ev.c jv_i286 (pc' := 106) (S' := [.int (vl_I f.n)]) jv_i258 [.ref 196] rfl rfl rfl rfl (jv_cal rfl (jv_H_at (jv_rwK hW 196 12 24 (by decide))) rfl rfl) rfl (vq_n f hW D) rfl rfl Kz) ?_
            refine jv_Wp.cnd jv_i286 (pt := 117) (pe := 109) (p := (¬ (vl_I f.n) = 0)) (q := (¬ (vl_I f.n) = 0)) rfl jv_bi_ne rfl rfl Iff.rfl (fun h16 => ?_) (fun h16 => ?_)
            · refine jv_Wp.lift (fun _ Kz => jv_Ev.steps jv_i286 8 (pc' := 136) (l' := [(10, .long ((I 206 (76800 + r)).toInt64 - (L 211 (8 + (76800 + q))))), (9, .int (1 : Int32)), (7, .long (I 206 (76800 + r)).toInt64), (5, .long (L 211 (8 + (76800 + q)))), (4, .int (vl_I (8 + (76800 + q)))), (3, .int (I 205 (76800 + r))), (0, .ref 196), (1, .int (vl_I r)), (2, .int (vl_I q))]) (st' := [.int (lg_cmp ((I 206 (76800 + r)).toInt64 - (L 211 (8 + (76800 + q)))) (-536870912 : Int64))]) rfl Kz) ?_
              refine jv_Wp.cnd jv_i286 (pt := 148) (pe := 139) (p := ((lg_cmp ((I 206 (76800 + r)).toInt64 - (L 211 (8 + (76800 + q)))) (-536870912 : Int64)) < 0)) (q := (((I 206 (76800 + r)).toInt64 - (L 211 (8 + (76800 + q)))) < (-536870912 : Int64))) rfl jv_bi_lt rfl rfl (lg_cmp_lt ((I 206 (76800 + r)).toInt64 - (L 211 (8 + (76800 + q)))) (-536870912 : Int64)) (fun h17 => ?_) (fun h17 => ?_)
              · refine jv_Wp.lift (fun _ Kz => jv_Ev.steps jv_i286 1 (pc' := 149) (l' := [(10, .long ((I 206 (76800 + r)).toInt64 - (L 211 (8 + (76800 + q))))), (9, .int (1 : Int32)), (7, .long (I 206 (76800 + r)).toInt64), (5, .long (L 211 (8 + (76800 + q)))), (4, .int (vl_I (8 + (76800 + q)))), (3, .int (I 205 (76800 + r))), (0, .ref 196), (1, .int (vl_I r)), (2, .int (vl_I q))]) (st' := [.int (2 : Int32)]) rfl Kz) ?_
                refine jv_Wp.of (jv_Ev.ret jv_i286 rfl rfl) ?_
                rw [hQ]
                have e5 : I 205 (76800 + r) = 3 := (Classical.not_not.mp h10)
                have bs : (vr_T I L (76800 + r)).sort = 3 := (vr_is 3 (by decide) ok).mpr e5
                have c2 : ¬ ((vr_T I L (76800 + r)).sort = 4 ∨ (vr_T I L (76800 + r)).sort = 7) := by omega
                have es : ¬ (vb_toS (vr_S L (8 + (76800 + q)))).low ≠ (vb_toS (vr_S L (8 + (76800 + q)))).high := fun z => z (of_decide_eq_true (vr_b_t h13))
                have xl : (vb_toS (vr_S L (8 + (76800 + q)))).low.toInt = (L 211 (8 + (76800 + q))).toInt := rfl
                have dt : (vr_T I L (76800 + r)).det = (I 206 (76800 + r)).toInt := rfl
                have far := gg.1 (by omega)
                have n0 : ¬ f.n = 0 := fun z => h16 ((vr_sm (v := 0) (by omega) (by decide) rfl).mpr z)
                have W := vx_wrap (n := f.n) (I 206 (76800 + r)).toInt64 (L 211 (8 + (76800 + q))) (by rw [Int32.toInt_toInt64]; exact far) ((I 206 (76800 + r)).toInt64 - (L 211 (8 + (76800 + q)))) (if_neg n0).symm
                rw [Int32.toInt_toInt64, ← dt, ← xl] at W
                have e : (vx_mq f.n (vr_T I L (76800 + r)) (vb_toS (vr_S L (8 + (76800 + q))))) = (2, (vr_T I L (76800 + r))) := (if_neg c2).trans ((if_neg es).trans (if_pos (W.1.mp (Or.inl (Int64.lt_iff_toInt_lt.mp h17)))))
                exact ⟨_, _, by rw [e]; rfl, fun z => by rw [e] at z; exact absurd (show (2 : Nat) = 0 from z) (by decide), vr_fr_refl hf⟩
              · refine jv_Wp.lift (fun _ Kz => jv_Ev.steps jv_i286 3 (pc' := 145) (l' := [(10, .long ((I 206 (76800 + r)).toInt64 - (L 211 (8 + (76800 + q))))), (9, .int (1 : Int32)), (7, .long (I 206 (76800 + r)).toInt64), (5, .long (L 211 (8 + (76800 + q)))), (4, .int (vl_I (8 + (76800 + q)))), (3, .int (I 205 (76800 + r))), (0, .ref 196), (1, .int (vl_I r)), (2, .int (vl_I q))]) (st' := [.int (lg_cmp ((I 206 (76800 + r)).toInt64 - (L 211 (8 + (76800 + q)))) (536870912 : Int64))]) rfl Kz) ?_
                refine jv_Wp.cnd jv_i286 (pt := 150) (pe := 148) (p := ((lg_cmp ((I 206 (76800 + r)).toInt64 - (L 211 (8 + (76800 + q)))) (536870912 : Int64)) ≤ 0)) (q := (((I 206 (76800 + r)).toInt64 - (L 211 (8 + (76800 + q)))) ≤ (536870912 : Int64))) rfl jv_bi_le rfl rfl (lg_cmp_le ((I 206 (76800 + r)).toInt64 - (L 211 (8 + (76800 + q)))) (536870912 : Int64)) (fun h18 => ?_) (fun h18 => ?_)
                · refine jv_Wp.lift (fun _ Kz => jv_Ev.steps jv_i286 3 (pc' := 155) (l' := [(10, .long ((I 206 (76800 + r)).toInt64 - (L 211 (8 + (76800 + q))))), (9, .int (1 : Int32)), (7, .long (I 206 (76800 + r)).toInt64), (5, .long (L 211 (8 + (76800 + q)))), (4, .int (vl_I (8 + (76800 + q)))), (3, .int (I 205 (76800 + r))), (0, .ref 196), (1, .int (vl_I r)), (2, .int (vl_I q))]) (st' := [.ref 196, .int (1024 : Int32), .ref 196]) rfl Kz) ?_
                  refine jv_Wp.lift (fun _ Kz => jv_Ev.m jv_i286 (pc' := 158) (st' := [.int (vl_I f.d), .int (1024 : Int32), .ref 196]) (G' := (jv_H K I L R)) rfl rfl (jv_m_getI (jv_rwK hW 196 12 24 (by decide)) rfl rfl D.2.1) Kz) ?_
                  refine jv_Wp.lift (fun _ Kz => jv_Ev.steps jv_i286 3 (pc' := 162) (l' := [(10, .long ((I 206 (76800 + r)).toInt64 - (L 211 (8 + (76800 + q))))), (9, .int (1 : Int32)), (7, .long (I 206 (76800 + r)).toInt64), (5, .long (L 211 (8 + (76800 + q)))), (4, .int (vl_I (8 + (76800 + q)))), (3, .int (I 205 (76800 + r))), (0, .ref 196), (1, .int (vl_I r)), (2, .int (vl_I q))]) (st' := [.int ((I 206 (76800 + r)).toInt64 - (L 211 (8 + (76800 + q)))).toInt32, .int (I 205 (76800 + r)), .int (vl_I f.d), .int (1024 : Int32), .ref 196]) rfl Kz) ?_
                  obtain ⟨I6, L6, H6, A6, B6, C6, F6, eL6⟩ := vq_setx (I := I) (L := L) (R := R) (n := n) (sl := sl) 1024 f.d (I 205 (76800 + r)) ((I 206 (76800 + r)).toInt64 - (L 211 (8 + (76800 + q)))).toInt32 hW hf (by omega)
                  have Z6 := vr_fl_of F6
                  have D6 := vr_dec_n F6 D
                  refine jv_Wp.lift (fun _ Kz => jv_Ev.c jv_i286 (pc' := 165) (S' := []) (G1 := (jv_H K I6 L6 R)) jv_i272 [.ref 196, .int (1024 : Int32), .int (vl_I f.d), .int (I 205 (76800 + r)), .int ((I 206 (76800 + r)).toInt64 - (L 211 (8 + (76800 + q)))).toInt32] rfl rfl rfl rfl (jv_cal rfl (jv_H_at (jv_rwK hW 196 12 24 (by decide))) rfl rfl) rfl H6 rfl rfl Kz) ?_
                  refine jv_Wp.lift (fun _ Kz => jv_Ev.steps jv_i286 1 (pc' := 166) (l' := [(10, .long ((I 206 (76800 + r)).toInt64 - (L 211 (8 + (76800 + q))))), (9, .int (1 : Int32)), (7, .long (I 206 (76800 + r)).toInt64), (5, .long (L 211 (8 + (76800 + q)))), (4, .int (vl_I (8 + (76800 + q)))), (3, .int (I 205 (76800 + r))), (0, .ref 196), (1, .int (vl_I r)), (2, .int (vl_I q))]) (st' := [.int (0 : Int32)]) rfl Kz) ?_
                  refine jv_Wp.of (jv_Ev.ret jv_i286 rfl rfl) ?_
                  rw [hQ]
                  have e5 : I 205 (76800 + r) = 3 := (Classical.not_not.mp h10)
                  have bs : (vr_T I L (76800 + r)).sort = 3 := (vr_is 3 (by decide) ok).mpr e5
                  have c2 : ¬ ((vr_T I L (76800 + r)).sort = 4 ∨ (vr_T I L (76800 + r)).sort = 7) := by omega
                  have es : ¬ (vb_toS (vr_S L (8 + (76800 + q)))).low ≠ (vb_toS (vr_S L (8 + (76800 + q)))).high := fun z => z (of_decide_eq_true (vr_b_t h13))
                  have xl : (vb_toS (vr_S L (8 + (76800 + q)))).low.toInt = (L 211 (8 + (76800 + q))).toInt := rfl
                  have dt : (vr_T I L (76800 + r)).det = (I 206 (76800 + r)).toInt := rfl
                  have far := gg.1 (by omega)
                  have n0 : ¬ f.n = 0 := fun z => h16 ((vr_sm (v := 0) (by omega) (by decide) rfl).mpr z)
                  have W := vx_wrap (n := f.n) (I 206 (76800 + r)).toInt64 (L 211 (8 + (76800 + q))) (by rw [Int32.toInt_toInt64]; exact far) ((I 206 (76800 + r)).toInt64 - (L 211 (8 + (76800 + q)))) (if_neg n0).symm
                  rw [Int32.toInt_toInt64, ← dt, ← xl] at W
                  have c4 : ¬ ((vx_mvc f.n (vr_T I L (76800 + r)).det (vb_toS (vr_S L (8 + (76800 + q)))).low.toInt) < -vx_far ∨ vx_far < (vx_mvc f.n (vr_T I L (76800 + r)).det (vb_toS (vr_S L (8 + (76800 + q)))).low.toInt)) := fun z => (W.1.mpr z).elim (fun z => h17 (Int64.lt_iff_toInt_lt.mpr z)) (fun z => Int.not_le.mpr z (Int64.le_iff_toInt_le.mp h18))
                  have e : (vx_mq f.n (vr_T I L (76800 + r)) (vb_toS (vr_S L (8 + (76800 + q))))) = (0, ((vr_T I L (76800 + r)).sort, (vx_mvc f.n (vr_T I L (76800 + r)).det (vb_toS (vr_S L (8 + (76800 + q)))).low.toInt), -1, vb_any)) := (if_neg c2).trans ((if_neg es).trans (if_neg c4))
                  have e32 : (((I 206 (76800 + r)).toInt64 - (L 211 (8 + (76800 + q)))).toInt32).toInt = (vx_mvc f.n (vr_T I L (76800 + r)).det (vb_toS (vr_S L (8 + (76800 + q)))).low.toInt) := by
                    rw [Int64.toInt_toInt32, W.2 c4]; unfold vx_far at c4; generalize (vx_mvc f.n (vr_T I L (76800 + r)).det (vb_toS (vr_S L (8 + (76800 + q)))).low.toInt) = y at c4; rw [Int.bmod_def]; split <;> omega
                  refine ⟨_, _, by rw [e]; rfl, fun _ => ⟨?_, ?_⟩, F6⟩
                  · rw [vr_T_set A6 B6 C6, e, bs, ← e32, e5]; rfl
                  · unfold vr_ok; rw [A6, B6, C6, e5]; exact Or.inr (Or.inr (Or.inr (Or.inl ⟨Or.inr (Or.inl rfl), rfl⟩)))
                · refine jv_Wp.lift (fun _ Kz => jv_Ev.steps jv_i286 1 (pc' := 149) (l' := [(10, .long ((I 206 (76800 + r)).toInt64 - (L 211 (8 + (76800 + q))))), (9, .int (1 : Int32)), (7, .long (I 206 (76800 + r)).toInt64), (5, .long (L 211 (8 + (76800 + q)))), (4, .int (vl_I (8 + (76800 + q)))), (3, .int (I 205 (76800 + r))), (0, .ref 196), (1, .int (vl_I r)), (2, .int (vl_I q))]) (st' := [.int (2 : Int32)]) rfl Kz) ?_
                  refine jv_Wp.of (jv_Ev.ret jv_i286 rfl rfl) ?_
                  rw [hQ]
                  have e5 : I 205 (76800 + r) = 3 := (Classical.not_not.mp h10)
                  have bs : (vr_T I L (76800 + r)).sort = 3 := (vr_is 3 (by decide) ok).mpr e5
                  have c2 : ¬ ((vr_T I L (76800 + r)).sort = 4 ∨ (vr_T I L (76800 + r)).sort = 7) := by omega
                  have es : ¬ (vb_toS (vr_S L (8 + (76800 + q)))).low ≠ (vb_toS (vr_S L (8 + (76800 + q)))).high := fun z => z (of_decide_eq_true (vr_b_t h13))
                  have xl : (vb_toS (vr_S L (8 + (76800 + q)))).low.toInt = (L 211 (8 + (76800 + q))).toInt := rfl
                  have dt : (vr_T I L (76800 + r)).det = (I 206 (76800 + r)).toInt := rfl
                  have far := gg.1 (by omega)
                  have n0 : ¬ f.n = 0 := fun z => h16 ((vr_sm (v := 0) (by omega) (by decide) rfl).mpr z)
                  have W := vx_wrap (n := f.n) (I 206 (76800 + r)).toInt64 (L 211 (8 + (76800 + q))) (by rw [Int32.toInt_toInt64]; exact far) ((I 206 (76800 + r)).toInt64 - (L 211 (8 + (76800 + q)))) (if_neg n0).symm
                  rw [Int32.toInt_toInt64, ← dt, ← xl] at W
                  have e : (vx_mq f.n (vr_T I L (76800 + r)) (vb_toS (vr_S L (8 + (76800 + q))))) = (2, (vr_T I L (76800 + r))) := (if_neg c2).trans ((if_neg es).trans (if_pos (W.1.mp (Or.inr (Int.not_le.mp ((not_congr Int64.le_iff_toInt_le).mp h18))))))
                  exact ⟨_, _, by rw [e]; rfl, fun z => by rw [e] at z; exact absurd (show (2 : Nat) = 0 from z) (by decide), vr_fr_refl hf⟩
            · refine jv_Wp.lift (fun _ Kz => jv_Ev.steps jv_i286 8 (pc' := 136) (l' := [(10, .long ((I 206 (76800 + r)).toInt64 + (L 211 (8 + (76800 + q))))), (9, .int (1 : Int32)), (7, .long (I 206 (76800 + r)).toInt64), (5, .long (L 211 (8 + (76800 + q)))), (4, .int (vl_I (8 + (76800 + q)))), (3, .int (I 205 (76800 + r))), (0, .ref 196), (1, .int (vl_I r)), (2, .int (vl_I q))]) (st' := [.int (lg_cmp ((I 206 (76800 + r)).toInt64 + (L 211 (8 + (76800 + q)))) (-536870912 : Int64))]) rfl Kz) ?_
              refine jv_Wp.cnd jv_i286 (pt := 148) (pe := 139) (p := ((lg_cmp ((I 206 (76800 + r)).toInt64 + (L 211 (8 + (76800 + q)))) (-536870912 : Int64)) < 0)) (q := (((I 206 (76800 + r)).toInt64 + (L 211 (8 + (76800 + q)))) < (-536870912 : Int64))) rfl jv_bi_lt rfl rfl (lg_cmp_lt ((I 206 (76800 + r)).toInt64 + (L 211 (8 + (76800 + q)))) (-536870912 : Int64)) (fun h19 => ?_) (fun h19 => ?_)
              · refine jv_Wp.lift (fun _ Kz => jv_Ev.steps jv_i286 1 (pc' := 149) (l' := [(10, .long ((I 206 (76800 + r)).toInt64 + (L 211 (8 + (76800 + q))))), (9, .int (1 : Int32)), (7, .long (I 206 (76800 + r)).toInt64), (5, .long (L 211 (8 + (76800 + q)))), (4, .int (vl_I (8 + (76800 + q)))), (3, .int (I 205 (76800 + r))), (0, .ref 196), (1, .int (vl_I r)), (2, .int (vl_I q))]) (st' := [.int (2 : Int32)]) rfl Kz) ?_
                refine jv_Wp.of (jv_Ev.ret jv_i286 rfl rfl) ?_
                rw [hQ]
                have e5 : I 205 (76800 + r) = 3 := (Classical.not_not.mp h10)
                have bs : (vr_T I L (76800 + r)).sort = 3 := (vr_is 3 (by decide) ok).mpr e5
                have c2 : ¬ ((vr_T I L (76800 + r)).sort = 4 ∨ (vr_T I L (76800 + r)).sort = 7) := by omega
                have es : ¬ (vb_toS (vr_S L (8 + (76800 + q)))).low ≠ (vb_toS (vr_S L (8 + (76800 + q)))).high := fun z => z (of_decide_eq_true (vr_b_t h13))
                have xl : (vb_toS (vr_S L (8 + (76800 + q)))).low.toInt = (L 211 (8 + (76800 + q))).toInt := rfl
                have dt : (vr_T I L (76800 + r)).det = (I 206 (76800 + r)).toInt := rfl
                have far := gg.1 (by omega)
                have n0 : f.n = 0 := (vr_sm (v := 0) (by omega) (by decide) rfl).mp (Classical.not_not.mp h16)
                have W := vx_wrap (n := f.n) (I 206 (76800 + r)).toInt64 (L 211 (8 + (76800 + q))) (by rw [Int32.toInt_toInt64]; exact far) ((I 206 (76800 + r)).toInt64 + (L 211 (8 + (76800 + q)))) (if_pos n0).symm
                rw [Int32.toInt_toInt64, ← dt, ← xl] at W
                have e : (vx_mq f.n (vr_T I L (76800 + r)) (vb_toS (vr_S L (8 + (76800 + q))))) = (2, (vr_T I L (76800 + r))) := (if_neg c2).trans ((if_neg es).trans (if_pos (W.1.mp (Or.inl (Int64.lt_iff_toInt_lt.mp h19)))))
                exact ⟨_, _, by rw [e]; rfl, fun z => by rw [e] at z; exact absurd (show (2 : Nat) = 0 from z) (by decide), vr_fr_refl hf⟩
              · refine jv_Wp.lift (fun _ Kz => jv_Ev.steps jv_i286 3 (pc' := 145) (l' := [(10, .long ((I 206 (76800 + r)).toInt64 + (L 211 (8 + (76800 + q))))), (9, .int (1 : Int32)), (7, .long (I 206 (76800 + r)).toInt64), (5, .long (L 211 (8 + (76800 + q)))), (4, .int (vl_I (8 + (76800 + q)))), (3, .int (I 205 (76800 + r))), (0, .ref 196), (1, .int (vl_I r)), (2, .int (vl_I q))]) (st' := [.int (lg_cmp ((I 206 (76800 + r)).toInt64 + (L 211 (8 + (76800 + q)))) (536870912 : Int64))]) rfl Kz) ?_
                refine jv_Wp.cnd jv_i286 (pt := 150) (pe := 148) (p := ((lg_cmp ((I 206 (76800 + r)).toInt64 + (L 211 (8 + (76800 + q)))) (536870912 : Int64)) ≤ 0)) (q := (((I 206 (76800 + r)).toInt64 + (L 211 (8 + (76800 + q)))) ≤ (536870912 : Int64))) rfl jv_bi_le rfl rfl (lg_cmp_le ((I 206 (76800 + r)).toInt64 + (L 211 (8 + (76800 + q)))) (536870912 : Int64)) (fun h20 => ?_) (fun h20 => ?_)
                · refine jv_Wp.lift (fun _ Kz => jv_Ev.steps jv_i286 3 (pc' := 155) (l' := [(10, .long ((I 206 (76800 + r)).toInt64 + (L 211 (8 + (76800 + q))))), (9, .int (1 : Int32)), (7, .long (I 206 (76800 + r)).toInt64), (5, .long (L 211 (8 + (76800 + q)))), (4, .int (vl_I (8 + (76800 + q)))), (3, .int (I 205 (76800 + r))), (0, .ref 196), (1, .int (vl_I r)), (2, .int (vl_I q))]) (st' := [.ref 196, .int (1024 : Int32), .ref 196]) rfl Kz) ?_
                  refine jv_Wp.lift (fun _ Kz => jv_Ev.m jv_i286 (pc' := 158) (st' := [.int (vl_I f.d), .int (1024 : Int32), .ref 196]) (G' := (jv_H K I L R)) rfl rfl (jv_m_getI (jv_rwK hW 196 12 24 (by decide)) rfl rfl D.2.1) Kz) ?_
                  refine jv_Wp.lift (fun _ Kz => jv_Ev.steps jv_i286 3 (pc' := 162) (l' := [(10, .long ((I 206 (76800 + r)).toInt64 + (L 211 (8 + (76800 + q))))), (9, .int (1 : Int32)), (7, .long (I 206 (76800 + r)).toInt64), (5, .long (L 211 (8 + (76800 + q)))), (4, .int (vl_I (8 + (76800 + q)))), (3, .int (I 205 (76800 + r))), (0, .ref 196), (1, .int (vl_I r)), (2, .int (vl_I q))]) (st' := [.int ((I 206 (76800 + r)).toInt64 + (L 211 (8 + (76800 + q)))).toInt32, .int (I 205 (76800 + r)), .int (vl_I f.d), .int (1024 : Int32), .ref 196]) rfl Kz) ?_
                  obtain ⟨I7, L7, H7, A7, B7, C7, F7, eL7⟩ := vq_setx (I := I) (L := L) (R := R) (n := n) (sl := sl) 1024 f.d (I 205 (76800 + r)) ((I 206 (76800 + r)).toInt64 + (L 211 (8 + (76800 + q)))).toInt32 hW hf (by omega)
                  have Z7 := vr_fl_of F7
                  have D7 := vr_dec_n F7 D
                  refine jv_Wp.lift (fun _ Kz => jv_Ev.c jv_i286 (pc' := 165) (S' := []) (G1 := (jv_H K I7 L7 R)) jv_i272 [.ref 196, .int (1024 : Int32), .int (vl_I f.d), .int (I 205 (76800 + r)), .int ((I 206 (76800 + r)).toInt64 + (L 211 (8 + (76800 + q)))).toInt32] rfl rfl rfl rfl (jv_cal rfl (jv_H_at (jv_rwK hW 196 12 24 (by decide))) rfl rfl) rfl H7 rfl rfl Kz) ?_
                  refine jv_Wp.lift (fun _ Kz => jv_Ev.steps jv_i286 1 (pc' := 166) (l' := [(10, .long ((I 206 (76800 + r)).toInt64 + (L 211 (8 + (76800 + q))))), (9, .int (1 : Int32)), (7, .long (I 206 (76800 + r)).toInt64), (5, .long (L 211 (8 + (76800 + q)))), (4, .int (vl_I (8 + (76800 + q)))), (3, .int (I 205 (76800 + r))), (0, .ref 196), (1, .int (vl_I r)), (2, .int (vl_I q))]) (st' := [.int (0 : Int32)]) rfl Kz) ?_
                  refine jv_Wp.of (jv_Ev.ret jv_i286 rfl rfl) ?_
                  rw [hQ]
                  have e5 : I 205 (76800 + r) = 3 := (Classical.not_not.mp h10)
                  have bs : (vr_T I L (76800 + r)).sort = 3 := (vr_is 3 (by decide) ok).mpr e5
                  have c2 : ¬ ((vr_T I L (76800 + r)).sort = 4 ∨ (vr_T I L (76800 + r)).sort = 7) := by omega
                  have es : ¬ (vb_toS (vr_S L (8 + (76800 + q)))).low ≠ (vb_toS (vr_S L (8 + (76800 + q)))).high := fun z => z (of_decide_eq_true (vr_b_t h13))
                  have xl : (vb_toS (vr_S L (8 + (76800 + q)))).low.toInt = (L 211 (8 + (76800 + q))).toInt := rfl
                  have dt : (vr_T I L (76800 + r)).det = (I 206 (76800 + r)).toInt := rfl
                  have far := gg.1 (by omega)
                  have n0 : f.n = 0 := (vr_sm (v := 0) (by omega) (by decide) rfl).mp (Classical.not_not.mp h16)
                  have W := vx_wrap (n := f.n) (I 206 (76800 + r)).toInt64 (L 211 (8 + (76800 + q))) (by rw [Int32.toInt_toInt64]; exact far) ((I 206 (76800 + r)).toInt64 + (L 211 (8 + (76800 + q)))) (if_pos n0).symm
                  rw [Int32.toInt_toInt64, ← dt, ← xl] at W
                  have c4 : ¬ ((vx_mvc f.n (vr_T I L (76800 + r)).det (vb_toS (vr_S L (8 + (76800 + q)))).low.toInt) < -vx_far ∨ vx_far < (vx_mvc f.n (vr_T I L (76800 + r)).det (vb_toS (vr_S L (8 + (76800 + q)))).low.toInt)) := fun z => (W.1.mpr z).elim (fun z => h19 (Int64.lt_iff_toInt_lt.mpr z)) (fun z => Int.not_le.mpr z (Int64.le_iff_toInt_le.mp h20))
                  have e : (vx_mq f.n (vr_T I L (76800 + r)) (vb_toS (vr_S L (8 + (76800 + q))))) = (0, ((vr_T I L (76800 + r)).sort, (vx_mvc f.n (vr_T I L (76800 + r)).det (vb_toS (vr_S L (8 + (76800 + q)))).low.toInt), -1, vb_any)) := (if_neg c2).trans ((if_neg es).trans (if_neg c4))
                  have e32 : (((I 206 (76800 + r)).toInt64 + (L 211 (8 + (76800 + q)))).toInt32).toInt = (vx_mvc f.n (vr_T I L (76800 + r)).det (vb_toS (vr_S L (8 + (76800 + q)))).low.toInt) := by
                    rw [Int64.toInt_toInt32, W.2 c4]; unfold vx_far at c4; generalize (vx_mvc f.n (vr_T I L (76800 + r)).det (vb_toS (vr_S L (8 + (76800 + q)))).low.toInt) = y at c4; rw [Int.bmod_def]; split <;> omega
                  refine ⟨_, _, by rw [e]; rfl, fun _ => ⟨?_, ?_⟩, F7⟩
                  · rw [vr_T_set A7 B7 C7, e, bs, ← e32, e5]; rfl
                  · unfold vr_ok; rw [A7, B7, C7, e5]; exact Or.inr (Or.inr (Or.inr (Or.inl ⟨Or.inr (Or.inl rfl), rfl⟩)))
                · refine jv_Wp.lift (fun _ Kz => jv_Ev.steps jv_i286 1 (pc' := 149) (l' := [(10, .long ((I 206 (76800 + r)).toInt64 + (L 211 (8 + (76800 + q))))), (9, .int (1 : Int32)), (7, .long (I 206 (76800 + r)).toInt64), (5, .long (L 211 (8 + (76800 + q)))), (4, .int (vl_I (8 + (76800 + q)))), (3, .int (I 205 (76800 + r))), (0, .ref 196), (1, .int (vl_I r)), (2, .int (vl_I q))]) (st' := [.int (2 : Int32)]) rfl Kz) ?_
                  refine jv_Wp.of (jv_Ev.ret jv_i286 rfl rfl) ?_
                  rw [hQ]
                  have e5 : I 205 (76800 + r) = 3 := (Classical.not_not.mp h10)
                  have bs : (vr_T I L (76800 + r)).sort = 3 := (vr_is 3 (by decide) ok).mpr e5
                  have c2 : ¬ ((vr_T I L (76800 + r)).sort = 4 ∨ (vr_T I L (76800 + r)).sort = 7) := by omega
                  have es : ¬ (vb_toS (vr_S L (8 + (76800 + q)))).low ≠ (vb_toS (vr_S L (8 + (76800 + q)))).high := fun z => z (of_decide_eq_true (vr_b_t h13))
                  have xl : (vb_toS (vr_S L (8 + (76800 + q)))).low.toInt = (L 211 (8 + (76800 + q))).toInt := rfl
                  have dt : (vr_T I L (76800 + r)).det = (I 206 (76800 + r)).toInt := rfl
                  have far := gg.1 (by omega)
                  have n0 : f.n = 0 := (vr_sm (v := 0) (by omega) (by decide) rfl).mp (Classical.not_not.mp h16)
                  have W := vx_wrap (n := f.n) (I 206 (76800 + r)).toInt64 (L 211 (8 + (76800 + q))) (by rw [Int32.toInt_toInt64]; exact far) ((I 206 (76800 + r)).toInt64 + (L 211 (8 + (76800 + q)))) (if_pos n0).symm
                  rw [Int32.toInt_toInt64, ← dt, ← xl] at W
                  have e : (vx_mq f.n (vr_T I L (76800 + r)) (vb_toS (vr_S L (8 + (76800 + q))))) = (2, (vr_T I L (76800 + r))) := (if_neg c2).trans ((if_neg es).trans (if_pos (W.1.mp (Or.inr (Int.not_le.mp ((not_congr Int64.le_iff_toInt_le).mp h20))))))
                  exact ⟨_, _, by rw [e]; rfl, fun z => by rw [e] at z; exact absurd (show (2 : Nat) = 0 from z) (by decide), vr_fr_refl hf⟩
theorem vq_moveI {K : Nat → Option (Nat × Nat)} {I : Nat → Nat → Int32} {L : Nat → Nat → Int64} {R : Nat → Nat → Value} (f : vf_F) (r : Nat) (hW : jv_rW K R) (hf : vr_fl I) (D : vr_dec I f) (hn01 : f.n = 0 ∨ f.n = 1) (hr : r < 75) (ok : vr_ok I (76800 + r) r) (tt : vt_ok (vr_T I L (76800 + r))) (gg : vt_g (vr_T I L (76800 + r))) (hs : I 205 (76800 + r) = 2 ∨ I 205 (76800 + r) = 3 ∨ I 205 (76800 + r) = 4 ∨ I 205 (76800 + r) = 7) (hx : vb_tight (vb_toS (vr_S L 5))) {n sl : Nat} : ∃ I1 L1, jv_Ms 286 [.ref 196, .int (vl_I r), .int (-1 : Int32)] (jv_H K I L R) n sl (some (.int (vl_I (vx_mq f.n (vr_T I L (76800 + r)) (vb_toS (vr_S L 5))).1)), jv_H K I1 L1 R, n, sl) ∧ ((vx_mq f.n (vr_T I L (76800 + r)) (vb_toS (vr_S L 5))).1 = 0 → vr_T I1 L1 (76800 + f.d) = (vx_mq f.n (vr_T I L (76800 + r)) (vb_toS (vr_S L 5))).2 ∧ vr_ok I1 (76800 + f.d) f.d) ∧ vr_fr (fun x => x = 76800 + f.d) noE I L I1 L1 := by
  obtain ⟨Q, hQ⟩ : ∃ Q : jv_R → Prop, Q = fun X => ∃ I1 L1, X = (some (.int (vl_I (vx_mq f.n (vr_T I L (76800 + r)) (vb_toS (vr_S L 5))).1)), jv_H K I1 L1 R, n, sl) ∧ ((vx_mq f.n (vr_T I L (76800 + r)) (vb_toS (vr_S L 5))).1 = 0 → vr_T I1 L1 (76800 + f.d) = (vx_mq f.n (vr_T I L (76800 + r)) (vb_toS (vr_S L 5))).2 ∧ vr_ok I1 (76800 + f.d) f.d) ∧ vr_fr (fun x => x = 76800 + f.d) noE I L I1 L1 := ⟨_, rfl⟩
  suffices h : jv_Wp 286 0 [(0, .ref 196), (1, .int (vl_I r)), (2, .int (-1 : Int32))] [] (jv_H K I L R) n sl Q by
    rw [hQ] at h
    obtain ⟨X, h, I1, L1, e, h'⟩ := h
    subst e
    exact ⟨I1, L1, h, h'⟩
  have hn16 := vr_dn D
  have hd16 := vr_dd D
  refine jv_Wp.lift (fun _ Kz => jv_Ev.steps jv_i286 2 (pc' := 2) (l' := [(0, .ref 196), (1, .int (vl_I r)), (2, .int (-1 : Int32))]) (st' := [.int (vl_I r), .ref 196]) rfl Kz) ?_
  refine jv_Wp.lift (fun _ Kz => jv_Ev.c jv_i286 (pc' := 5) (S' := [.int (I 205 (76800 + r))]) jv_i271 [.ref 196, .int (vl_I r)] rfl rfl rfl rfl (jv_cal rfl (jv_H_at (jv_rwK hW 196 12 24 (by decide))) rfl rfl) rfl (vq_sortOf r hW (by omega)) rfl rfl Kz) ?_
  refine jv_Wp.lift (fun _ Kz => jv_Ev.steps jv_i286 2 (pc' := 7) (l' := [(3, .int (I 205 (76800 + r))), (0, .ref 196), (1, .int (vl_I r)), (2, .int (-1 : Int32))]) (st' := [.int (-1 : Int32)]) rfl Kz) ?_
  refine jv_Wp.lift (fun _ Kz => jv_Ev.br jv_i286 (pc' := 10) (st' := []) rfl (by rfl) Kz) ?_
  refine jv_Wp.lift (fun _ Kz => jv_Ev.steps jv_i286 5 (pc' := 25) (l' := [(4, .int (5 : Int32)), (3, .int (I 205 (76800 + r))), (0, .ref 196), (1, .int (vl_I r)), (2, .int (-1 : Int32))]) (st' := [.int (2 : Int32), .int (I 205 (76800 + r))]) rfl Kz) ?_
  refine jv_Wp.cnd jv_i286 (pt := 33) (pe := 28) (p := ((I 205 (76800 + r)) = (2 : Int32))) (q := ((I 205 (76800 + r)) = (2 : Int32))) rfl jv_bc_eq rfl rfl Iff.rfl (fun h1 => ?_) (fun h1 => ?_)
  · refine jv_Wp.lift (fun _ Kz => jv_Ev.steps jv_i286 1 (pc' := 34) (l' := [(4, .int (5 : Int32)), (3, .int (I 205 (76800 + r))), (0, .ref 196), (1, .int (vl_I r)), (2, .int (-1 : Int32))]) (st' := [.ref 196]) rfl Kz) ?_
    refine jv_Wp.lift (fun _ Kz => jv_Ev.m jv_i286 (pc' := 37) (st' := [.ref 208]) (G' := (jv_H K I L R)) rfl rfl (jv_m_getR (jv_rwK hW 196 12 24 (by decide)) rfl rfl (jv_rwR hW 196 16 208 (by decide))) Kz) ?_
    refine jv_Wp.lift (fun _ Kz => jv_Ev.m jv_i286 (pc' := 40) (st' := [.ref 211]) (G' := (jv_H K I L R)) rfl rfl (jv_m_getR (jv_rwK hW 208 11 7 (by decide)) rfl rfl (jv_rwR hW 208 2 211 (by decide))) Kz) ?_
    refine jv_Wp.lift (fun _ Kz => jv_Ev.steps jv_i286 1 (pc' := 42) (l' := [(4, .int (5 : Int32)), (3, .int (I 205 (76800 + r))), (0, .ref 196), (1, .int (vl_I r)), (2, .int (-1 : Int32))]) (st' := [.int (5 : Int32), .ref 211]) rfl Kz) ?_
    refine jv_Wp.lift (fun _ Kz => jv_Ev.m jv_i286 (pc' := 43) (st' := [.long (L 211 5)]) (G' := (jv_H K I L R)) rfl rfl (jv_m_laldv (jv_rwK hW 211 103 77200 (by decide)) rfl (by decide) rfl rfl) Kz) ?_
    refine jv_Wp.lift (fun _ Kz => jv_Ev.steps jv_i286 2 (pc' := 46) (l' := [(5, .long (L 211 5)), (4, .int (5 : Int32)), (3, .int (I 205 (76800 + r))), (0, .ref 196), (1, .int (vl_I r)), (2, .int (-1 : Int32))]) (st' := [.ref 196]) rfl Kz) ?_
    refine jv_Wp.lift (fun _ Kz => jv_Ev.m jv_i286 (pc' := 49) (st' := [.ref 206]) (G' := (jv_H K I L R)) rfl rfl (jv_m_getR (jv_rwK hW 196 12 24 (by decide)) rfl rfl (jv_rwR hW 196 14 206 (by decide))) Kz) ?_
    refine jv_Wp.lift (fun _ Kz => jv_Ev.steps jv_i286 2 (pc' := 53) (l' := [(5, .long (L 211 5)), (4, .int (5 : Int32)), (3, .int (I 205 (76800 + r))), (0, .ref 196), (1, .int (vl_I r)), (2, .int (-1 : Int32))]) (st' := [.int (vl_I r), .int (1024 : Int32), .ref 206]) rfl Kz) ?_
    refine jv_Wp.lift (fun _ Kz => jv_Ev.c jv_i286 (pc' := 56) (S' := [.int (vl_I (76800 + r)), .ref 206]) jv_i253 [.int (1024 : Int32), .int (vl_I r)] rfl rfl rfl rfl rfl rfl (vq_thing 1024 r) rfl rfl Kz) ?_
    refine jv_Wp.lift (fun _ Kz => jv_Ev.m jv_i286 (pc' := 57) (st' := [.int (I 206 (76800 + r))]) (G' := (jv_H K I L R)) rfl rfl (jv_m_ialdv (jv_rwK hW 206 102 77100 (by decide)) rfl (vl_I_ix (by omega) (by decide)) rfl ((congrArg (I 206) (vl_I_nat (by omega))).trans rfl)) Kz) ?_
    refine jv_Wp.lift (fun _ Kz => jv_Ev.steps jv_i286 3 (pc' := 61) (l' := [(7, .long (I 206 (76800 + r)).toInt64), (5, .long (L 211 5)), (4, .int (5 : Int32)), (3, .int (I 205 (76800 + r))), (0, .ref 196), (1, .int (vl_I r)), (2, .int (-1 : Int32))]) (st' := [.ref 196]) rfl Kz) ?_
    refine jv_Wp.lift (fun _ Kz => jv_Ev.m jv_i286 (pc' := 64) (st' := [.ref 208]) (G' := (jv_H K I L R)) rfl rfl (jv_m_getR (jv_rwK hW 196 12 24 (by decide)) rfl rfl (jv_rwR hW 196 16 208 (by decide))) Kz) ?_
    refine jv_Wp.lift (fun _ Kz => jv_Ev.steps jv_i286 1 (pc' := 66) (l' := [(7, .long (I 206 (76800 + r)).toInt64), (5, .long (L 211 5)), (4, .int (5 : Int32)), (3, .int (I 205 (76800 + r))), (0, .ref 196), (1, .int (vl_I r)), (2, .int (-1 : Int32))]) (st' := [.int (5 : Int32), .ref 208]) rfl Kz) ?_
    refine jv_Wp.lift (fun _ Kz => jv_Ev.c jv_i286 (pc' := 69) (S' := [.int (vr_b (decide ((vr_S L 5).low = (vr_S L 5).high)))]) jv_i209 [.ref 208, .int (5 : Int32)] rfl rfl rfl rfl (jv_cal rfl (jv_H_at (jv_rwK hW 208 11 7 (by decide))) rfl rfl) rfl (vq_isSingle (a := 5) hW (by omega)) rfl rfl Kz) ?_
    refine jv_Wp.cnd jv_i286 (pt := 94) (pe := 72) (p := ((vr_b (decide ((vr_S L 5).low = (vr_S L 5).high))) = 0)) (q := ((vr_b (decide ((vr_S L 5).low = (vr_S L 5).high))) = 0)) rfl jv_bi_eq rfl rfl Iff.rfl (fun h2 => ?_) (fun h2 => ?_)
    · refine jv_Wp.lift (fun _ Kz => jv_Ev.steps jv_i286 3 (pc' := 99) (l' := [(9, .int (0 : Int32)), (7, .long (I 206 (76800 + r)).toInt64), (5, .long (L 211 5)), (4, .int (5 : Int32)), (3, .int (I 205 (76800 + r))), (0, .ref 196), (1, .int (vl_I r)), (2, .int (-1 : Int32))]) (st' := [.int (0 : Int32)]) rfl Kz) ?_
      refine jv_Wp.lift (fun _ Kz => jv_Ev.br jv_i286 (pc' := 125) (st' := []) rfl (by rfl) Kz) ?_
      refine jv_Wp.lift (fun _ Kz => jv_Ev.steps jv_i286 5 (pc' := 136) (l' := [(10, .long (1073741824 : Int64)), (9, .int (0 : Int32)), (7, .long (I 206 (76800 + r)).toInt64), (5, .long (L 211 5)), (4, .int (5 : Int32)), (3, .int (I 205 (76800 + r))), (0, .ref 196), (1, .int (vl_I r)), (2, .int (-1 : Int32))]) (st' := [.int (lg_cmp (1073741824 : Int64) (-536870912 : Int64))]) rfl Kz) ?_
      refine jv_Wp.cnd jv_i286 (pt := 148) (pe := 139) (p := ((lg_cmp (1073741824 : Int64) (-536870912 : Int64)) < 0)) (q := ((1073741824 : Int64) < (-536870912 : Int64))) rfl jv_bi_lt rfl rfl (lg_cmp_lt (1073741824 : Int64) (-536870912 : Int64)) (fun hz => absurd hz (by decide)) (fun _ => ?_)
      refine jv_Wp.lift (fun _ Kz => jv_Ev.steps jv_i286 3 (pc' := 145) (l' := [(10, .long (1073741824 : Int64)), (9, .int (0 : Int32)), (7, .long (I 206 (76800 + r)).toInt64), (5, .long (L 211 5)), (4, .int (5 : Int32)), (3, .int (I 205 (76800 + r))), (0, .ref 196), (1, .int (vl_I r)), (2, .int (-1 : Int32))]) (st' := [.int (lg_cmp (1073741824 : Int64) (536870912 : Int64))]) rfl Kz) ?_
      refine jv_Wp.cnd jv_i286 (pt := 150) (pe := 148) (p := ((lg_cmp (1073741824 : Int64) (536870912 : Int64)) ≤ 0)) (q := ((1073741824 : Int64) ≤ (536870912 : Int64))) rfl jv_bi_le rfl rfl (lg_cmp_le (1073741824 : Int64) (536870912 : Int64)) (fun hz => absurd hz (by decide)) (fun _ => ?_)
      refine jv_Wp.lift (fun _ Kz => jv_Ev.steps jv_i286 1 (pc' := 149) (l' := [(10, .long (1073741824 : Int64)), (9, .int (0 : Int32)), (7, .long (I 206 (76800 + r)).toInt64), (5, .long (L 211 5)), (4, .int (5 : Int32)), (3, .int (I 205 (76800 + r))), (0, .ref 196), (1, .int (vl_I r)), (2, .int (-1 : Int32))]) (st' := [.int (2 : Int32)]) rfl Kz) ?_
      refine jv_Wp.of (jv_Ev.ret jv_i286 rfl rfl) ?_
      rw [hQ]
      have e5 : I 205 (76800 + r) = 2 := h1
      have bs : (vr_T I L (76800 + r)).sort = 2 := (vr_is 2 (by decide) ok).mpr e5
      have c2 : ¬ ((vr_T I L (76800 + r)).sort = 4 ∨ (vr_T I L (76800 + r)).sort = 7) := by omega
      have ns : (vb_toS (vr_S L 5)).low ≠ (vb_toS (vr_S L 5)).high := of_decide_eq_false (vr_b_f h2)
      have e : (vx_mq f.n (vr_T I L (76800 + r)) (vb_toS (vr_S L 5))) = (2, (vr_T I L (76800 + r))) := (if_neg c2).trans (if_pos ns)
      exact ⟨_, _, by rw [e]; rfl, fun z => by rw [e] at z; exact absurd (show (2 : Nat) = 0 from z) (by decide), vr_fr_refl hf⟩
    · refine jv_Wp.lift (fun _ Kz => jv_Ev.steps jv_i286 3 (pc' := 78) (l' := [(7, .long (I 206 (76800 + r)).toInt64), (5, .long (L 211 5)), (4, .int (5 : Int32)), (3, .int (I 205 (76800 + r))), (0, .ref 196), (1, .int (vl_I r)), (2, .int (-1 : Int32))]) (st' := [.int (lg_cmp (L 211 5) (-1073741824 : Int64))]) rfl Kz) ?_
      refine jv_Wp.cnd jv_i286 (pt := 94) (pe := 81) (p := ((lg_cmp (L 211 5) (-1073741824 : Int64)) < 0)) (q := ((L 211 5) < (-1073741824 : Int64))) rfl jv_bi_lt rfl rfl (lg_cmp_lt (L 211 5) (-1073741824 : Int64)) (fun h3 => ?_) (fun h3 => ?_)
      · refine jv_Wp.lift (fun _ Kz => jv_Ev.steps jv_i286 3 (pc' := 99) (l' := [(9, .int (0 : Int32)), (7, .long (I 206 (76800 + r)).toInt64), (5, .long (L 211 5)), (4, .int (5 : Int32)), (3, .int (I 205 (76800 + r))), (0, .ref 196), (1, .int (vl_I r)), (2, .int (-1 : Int32))]) (st' := [.int (0 : Int32)]) rfl Kz) ?_
        refine jv_Wp.lift (fun _ Kz => jv_Ev.br jv_i286 (pc' := 125) (st' := []) rfl (by rfl) Kz) ?_
        refine jv_Wp.lift (fun _ Kz => jv_Ev.steps jv_i286 5 (pc' := 136) (l' := [(10, .long (1073741824 : Int64)), (9, .int (0 : Int32)), (7, .long (I 206 (76800 + r)).toInt64), (5, .long (L 211 5)), (4, .int (5 : Int32)), (3, .int (I 205 (76800 + r))), (0, .ref 196), (1, .int (vl_I r)), (2, .int (-1 : Int32))]) (st' := [.int (lg_cmp (1073741824 : Int64) (-536870912 : Int64))]) rfl Kz) ?_
        refine jv_Wp.cnd jv_i286 (pt := 148) (pe := 139) (p := ((lg_cmp (1073741824 : Int64) (-536870912 : Int64)) < 0)) (q := ((1073741824 : Int64) < (-536870912 : Int64))) rfl jv_bi_lt rfl rfl (lg_cmp_lt (1073741824 : Int64) (-536870912 : Int64)) (fun hz => absurd hz (by decide)) (fun _ => ?_)
        refine jv_Wp.lift (fun _ Kz => jv_Ev.steps jv_i286 3 (pc' := 145) (l' := [(10, .long (1073741824 : Int64)), (9, .int (0 : Int32)), (7, .long (I 206 (76800 + r)).toInt64), (5, .long (L 211 5)), (4, .int (5 : Int32)), (3, .int (I 205 (76800 + r))), (0, .ref 196), (1, .int (vl_I r)), (2, .int (-1 : Int32))]) (st' := [.int (lg_cmp (1073741824 : Int64) (536870912 : Int64))]) rfl Kz) ?_
        refine jv_Wp.cnd jv_i286 (pt := 150) (pe := 148) (p := ((lg_cmp (1073741824 : Int64) (536870912 : Int64)) ≤ 0)) (q := ((1073741824 : Int64) ≤ (536870912 : Int64))) rfl jv_bi_le rfl rfl (lg_cmp_le (1073741824 : Int64) (536870912 : Int64)) (fun hz => absurd hz (by decide)) (fun _ => ?_)
        refine jv_Wp.lift (fun _ Kz => jv_Ev.steps jv_i286 1 (pc' := 149) (l' := [(10, .long (1073741824 : Int64)), (9, .int (0 : Int32)), (7, .long (I 206 (76800 + r)).toInt64), (5, .long (L 211 5)), (4, .int (5 : Int32)), (3, .int (I 205 (76800 + r))), (0, .ref 196), (1, .int (vl_I r)), (2, .int (-1 : Int32))]) (st' := [.int (2 : Int32)]) rfl Kz) ?_
        refine jv_Wp.of (jv_Ev.ret jv_i286 rfl rfl) ?_
        rw [hQ]
        have e5 : I 205 (76800 + r) = 2 := h1
        have bs : (vr_T I L (76800 + r)).sort = 2 := (vr_is 2 (by decide) ok).mpr e5
        have c2 : ¬ ((vr_T I L (76800 + r)).sort = 4 ∨ (vr_T I L (76800 + r)).sort = 7) := by omega
        have es : ¬ (vb_toS (vr_S L 5)).low ≠ (vb_toS (vr_S L 5)).high := fun z => z (of_decide_eq_true (vr_b_t h2))
        have xl : (vb_toS (vr_S L 5)).low.toInt = (L 211 5).toInt := rfl
        have dt : (vr_T I L (76800 + r)).det = (I 206 (76800 + r)).toInt := rfl
        have far := gg.1 (by omega)
        have vv : (L 211 5).toInt < -1073741824 := Int64.lt_iff_toInt_lt.mp h3
        have c4 : (vx_mvc f.n (vr_T I L (76800 + r)).det (vb_toS (vr_S L 5)).low.toInt) < -vx_far ∨ vx_far < (vx_mvc f.n (vr_T I L (76800 + r)).det (vb_toS (vr_S L 5)).low.toInt) := by
          rw [xl]; unfold vx_mvc vx_far; split <;> omega
        have e : (vx_mq f.n (vr_T I L (76800 + r)) (vb_toS (vr_S L 5))) = (2, (vr_T I L (76800 + r))) := (if_neg c2).trans ((if_neg es).trans (if_pos c4))
        exact ⟨_, _, by rw [e]; rfl, fun z => by rw [e] at z; exact absurd (show (2 : Nat) = 0 from z) (by decide), vr_fr_refl hf⟩
      · refine jv_Wp.lift (fun _ Kz => jv_Ev.steps jv_i286 3 (pc' := 87) (l' := [(7, .long (I 206 (76800 + r)).toInt64), (5, .long (L 211 5)), (4, .int (5 : Int32)), (3, .int (I 205 (76800 + r))), (0, .ref 196), (1, .int (vl_I r)), (2, .int (-1 : Int32))]) (st' := [.int (lg_cmp (L 211 5) (1073741824 : Int64))]) rfl Kz) ?_
        refine jv_Wp.cnd jv_i286 (pt := 94) (pe := 90) (p := (0 < (lg_cmp (L 211 5) (1073741824 : Int64)))) (q := ((1073741824 : Int64) < (L 211 5))) rfl jv_bi_gt rfl rfl (lg_cmp_gt (L 211 5) (1073741824 : Int64)) (fun h4 => ?_) (fun h4 => ?_)
        · refine jv_Wp.lift (fun _ Kz => jv_Ev.steps jv_i286 3 (pc' := 99) (l' := [(9, .int (0 : Int32)), (7, .long (I 206 (76800 + r)).toInt64), (5, .long (L 211 5)), (4, .int (5 : Int32)), (3, .int (I 205 (76800 + r))), (0, .ref 196), (1, .int (vl_I r)), (2, .int (-1 : Int32))]) (st' := [.int (0 : Int32)]) rfl Kz) ?_
          refine jv_Wp.lift (fun _ Kz => jv_Ev.br jv_i286 (pc' := 125) (st' := []) rfl (by rfl) Kz) ?_
          refine jv_Wp.lift (fun _ Kz => jv_Ev.steps jv_i286 5 (pc' := 136) (l' := [(10, .long (1073741824 : Int64)), (9, .int (0 : Int32)), (7, .long (I 206 (76800 + r)).toInt64), (5, .long (L 211 5)), (4, .int (5 : Int32)), (3, .int (I 205 (76800 + r))), (0, .ref 196), (1, .int (vl_I r)), (2, .int (-1 : Int32))]) (st' := [.int (lg_cmp (1073741824 : Int64) (-536870912 : Int64))]) rfl Kz) ?_
          refine jv_Wp.cnd jv_i286 (pt := 148) (pe := 139) (p := ((lg_cmp (1073741824 : Int64) (-536870912 : Int64)) < 0)) (q := ((1073741824 : Int64) < (-536870912 : Int64))) rfl jv_bi_lt rfl rfl (lg_cmp_lt (1073741824 : Int64) (-536870912 : Int64)) (fun hz => absurd hz (by decide)) (fun _ => ?_)
          refine jv_Wp.lift (fun _ Kz => jv_Ev.steps jv_i286 3 (pc' := 145) (l' := [(10, .long (1073741824 : Int64)), (9, .int (0 : Int32)), (7, .long (I 206 (76800 + r)).toInt64), (5, .long (L 211 5)), (4, .int (5 : Int32)), (3, .int (I 205 (76800 + r))), (0, .ref 196), (1, .int (vl_I r)), (2, .int (-1 : Int32))]) (st' := [.int (lg_cmp (1073741824 : Int64) (536870912 : Int64))]) rfl Kz) ?_
          refine jv_Wp.cnd jv_i286 (pt := 150) (pe := 148) (p := ((lg_cmp (1073741824 : Int64) (536870912 : Int64)) ≤ 0)) (q := ((1073741824 : Int64) ≤ (536870912 : Int64))) rfl jv_bi_le rfl rfl (lg_cmp_le (1073741824 : Int64) (536870912 : Int64)) (fun hz => absurd hz (by decide)) (fun _ => ?_)
          refine jv_Wp.lift (fun _ Kz => jv_Ev.steps jv_i286 1 (pc' := 149) (l' := [(10, .long (1073741824 : Int64)), (9, .int (0 : Int32)), (7, .long (I 206 (76800 + r)).toInt64), (5, .long (L 211 5)), (4, .int (5 : Int32)), (3, .int (I 205 (76800 + r))), (0, .ref 196), (1, .int (vl_I r)), (2, .int (-1 : Int32))]) (st' := [.int (2 : Int32)]) rfl Kz) ?_
          refine jv_Wp.of (jv_Ev.ret jv_i286 rfl rfl) ?_
          rw [hQ]
          have e5 : I 205 (76800 + r) = 2 := h1
          have bs : (vr_T I L (76800 + r)).sort = 2 := (vr_is 2 (by decide) ok).mpr e5
          have c2 : ¬ ((vr_T I L (76800 + r)).sort = 4 ∨ (vr_T I L (76800 + r)).sort = 7) := by omega
          have es : ¬ (vb_toS (vr_S L 5)).low ≠ (vb_toS (vr_S L 5)).high := fun z => z (of_decide_eq_true (vr_b_t h2))
          have xl : (vb_toS (vr_S L 5)).low.toInt = (L 211 5).toInt := rfl
          have dt : (vr_T I L (76800 + r)).det = (I 206 (76800 + r)).toInt := rfl
          have far := gg.1 (by omega)
          have vv : 1073741824 < (L 211 5).toInt := Int64.lt_iff_toInt_lt.mp h4
          have c4 : (vx_mvc f.n (vr_T I L (76800 + r)).det (vb_toS (vr_S L 5)).low.toInt) < -vx_far ∨ vx_far < (vx_mvc f.n (vr_T I L (76800 + r)).det (vb_toS (vr_S L 5)).low.toInt) := by
            rw [xl]; unfold vx_mvc vx_far; split <;> omega
          have e : (vx_mq f.n (vr_T I L (76800 + r)) (vb_toS (vr_S L 5))) = (2, (vr_T I L (76800 + r))) := (if_neg c2).trans ((if_neg es).trans (if_pos c4))
          exact ⟨_, _, by rw [e]; rfl, fun z => by rw [e] at z; exact absurd (show (2 : Nat) = 0 from z) (by decide), vr_fr_refl hf⟩
        · refine jv_Wp.lift (fun _ Kz => jv_Ev.steps jv_i286 4 (pc' := 99) (l' := [(9, .int (1 : Int32)), (7, .long (I 206 (76800 + r)).toInt64), (5, .long (L 211 5)), (4, .int (5 : Int32)), (3, .int (I 205 (76800 + r))), (0, .ref 196), (1, .int (vl_I r)), (2, .int (-1 : Int32))]) (st' := [.int (1 : Int32)]) rfl Kz) ?_
          refine jv_Wp.lift (fun _ Kz => jv_Ev.br jv_i286 (pc' := 102) (st' := []) rfl (by rfl) Kz) ?_
          refine jv_Wp.lift (fun _ Kz => jv_Ev.steps jv_i286 1 (pc' := 103) (l' := [(9, .int (1 : Int32)), (7, .long (I 206 (76800 + r)).toInt64), (5, .long (L 211 5)), (4, .int (5 : Int32)), (3, .int (I 205 (76800 + r))), (0, .ref 196), (1, .int (vl_I r)), (2, .int (-1 : Int32))]) (st' := [.ref 196]) rfl Kz) ?_
          refine jv_Wp.lift (fun _ Kz => jv_Ev.c jv_i286 (pc' := 106) (S' := [.int (vl_I f.n)]) jv_i258 [.ref 196] rfl rfl rfl rfl (jv_cal rfl (jv_H_at (jv_rwK hW 196 12 24 (by decide))) rfl rfl) rfl (vq_n f hW D) rfl rfl Kz) ?_
          refine jv_Wp.cnd jv_i286 (pt := 117) (pe := 109) (p := (¬ (vl_I f.n) = 0)) (q := (¬ (vl_I f.n) = 0)) rfl jv_bi_ne rfl rfl Iff.rfl (fun h5 => ?_) (fun h5 => ?_)
          · refine jv_Wp.lift (fun _ Kz => jv_Ev.steps jv_i286 8 (pc' := 136) (l' := [(10, .long ((I 206 (76800 + r)).toInt64 - (L 211 5))), (9, .int (1 : Int32)), (7, .long (I 206 (76800 + r)).toInt64), (5, .long (L 211 5)), (4, .int (5 : Int32)), (3, .int (I 205 (76800 + r))), (0, .ref 196), (1, .int (vl_I r)), (2, .int (-1 : Int32))]) (st' := [.int (lg_cmp ((I 206 (76800 + r)).toInt64 - (L 211 5)) (-536870912 : Int64))]) rfl Kz) ?_
            refine jv_Wp.cnd jv_i286 (pt := 148) (pe := 139) (p := ((lg_cmp ((I 206 (76800 + r)).toInt64 - (L 211 5)) (-536870912 : Int64)) < 0)) (q := (((I 206 (76800 + r)).toInt64 - (L 211 5)) < (-536870912 : Int64))) rfl jv_bi_lt rfl rfl (lg_cmp_lt ((I 206 (76800 + r)).toInt64 - (L 211 5)) (-536870912 : Int64)) (fun h6 => ?_) (fun h6 => ?_)
            · refine jv_Wp.lift (fun _ Kz => jv_Ev.steps jv_i286 1 (pc' := 149) (l' := [(10, .long ((I 206 (76800 + r)).toInt64 - (L 211 5))), (9, .int (1 : Int32)), (7, .long (I 206 (76800 + r)).toInt64), (5, .long (L 211 5)), (4, .int (5 : Int32)), (3, .int (I 205 (76800 + r))), (0, .ref 196), (1, .int (vl_I r)), (2, .int (-1 : Int32))]) (st' := [.int (2 : Int32)]) rfl Kz) ?_
              refine jv_Wp.of (jv_Ev.ret jv_i286 rfl rfl) ?_
              rw [hQ]
              have e5 : I 205 (76800 + r) = 2 := h1
              have bs : (vr_T I L (76800 + r)).sort = 2 := (vr_is 2 (by decide) ok).mpr e5
              have c2 : ¬ ((vr_T I L (76800 + r)).sort = 4 ∨ (vr_T I L (76800 + r)).sort = 7) := by omega
              have es : ¬ (vb_toS (vr_S L 5)).low ≠ (vb_toS (vr_S L 5)).high := fun z => z (of_decide_eq_true (vr_b_t h2))
              have xl : (vb_toS (vr_S L 5)).low.toInt = (L 211 5).toInt := rfl
              have dt : (vr_T I L (76800 + r)).det = (I 206 (76800 + r)).toInt := rfl
              have far := gg.1 (by omega)
              have n0 : ¬ f.n = 0 := fun z => h5 ((vr_sm (v := 0) (by omega) (by decide) rfl).mpr z)
              have W := vx_wrap (n := f.n) (I 206 (76800 + r)).toInt64 (L 211 5) (by rw [Int32.toInt_toInt64]; exact far) ((I 206 (76800 + r)).toInt64 - (L 211 5)) (if_neg n0).symm
              rw [Int32.toInt_toInt64, ← dt, ← xl] at W
              have e : (vx_mq f.n (vr_T I L (76800 + r)) (vb_toS (vr_S L 5))) = (2, (vr_T I L (76800 + r))) := (if_neg c2).trans ((if_neg es).trans (if_pos (W.1.mp (Or.inl (Int64.lt_iff_toInt_lt.mp h6)))))
              exact ⟨_, _, by rw [e]; rfl, fun z => by rw [e] at z; exact absurd (show (2 : Nat) = 0 from z) (by decide), vr_fr_refl hf⟩
            · refine jv_Wp.lift (fun _ Kz => jv_Ev.steps jv_i286 3 (pc' := 145) (l' := [(10, .long ((I 206 (76800 + r)).toInt64 - (L 211 5))), (9, .int (1 : Int32)), (7, .long (I 206 (76800 + r)).toInt64), (5, .long (L 211 5)), (4, .int (5 : Int32)), (3, .int (I 205 (76800 + r))), (0, .ref 196), (1, .int (vl_I r)), (2, .int (-1 : Int32))]) (st' := [.int (lg_cmp ((I 206 (76800 + r)).toInt64 - (L 211 5)) (536870912 : Int64))]) rfl Kz) ?_
              refine jv_Wp.cnd jv_i286 (pt := 150) (pe := 148) (p := ((lg_cmp ((I 206 (76800 + r)).toInt64 - (L 211 5)) (536870912 : Int64)) ≤ 0)) (q := (((I 206 (76800 + r)).toInt64 - (L 211 5)) ≤ (536870912 : Int64))) rfl jv_bi_le rfl rfl (lg_cmp_le ((I 206 (76800 + r)).toInt64 - (L 211 5)) (536870912 : Int64)) (fun h7 => ?_) (fun h7 => ?_)
              · refine jv_Wp.lift (fun _ Kz => jv_Ev.steps jv_i286 3 (pc' := 155) (l' := [(10, .long ((I 206 (76800 + r)).toInt64 - (L 211 5))), (9, .int (1 : Int32)), (7, .long (I 206 (76800 + r)).toInt64), (5, .long (L 211 5)), (4, .int (5 : Int32)), (3, .int (I 205 (76800 + r))), (0, .ref 196), (1, .int (vl_I r)), (2, .int (-1 : Int32))]) (st' := [.ref 196, .int (1024 : Int32), .ref 196]) rfl Kz) ?_
                refine jv_Wp.lift (fun _ Kz => jv_Ev.m jv_i286 (pc' := 158) (st' := [.int (vl_I f.d), .int (1024 : Int32), .ref 196]) (G' := (jv_H K I L R)) rfl rfl (jv_m_getI (jv_rwK hW 196 12 24 (by decide)) rfl rfl D.2.1) Kz) ?_
                refine jv_Wp.lift (fun _ Kz => jv_Ev.steps jv_i286 3 (pc' := 162) (l' := [(10, .long ((I 206 (76800 + r)).toInt64 - (L 211 5))), (9, .int (1 : Int32)), (7, .long (I 206 (76800 + r)).toInt64), (5, .long (L 211 5)), (4, .int (5 : Int32)), (3, .int (I 205 (76800 + r))), (0, .ref 196), (1, .int (vl_I r)), (2, .int (-1 : Int32))]) (st' := [.int ((I 206 (76800 + r)).toInt64 - (L 211 5)).toInt32, .int (I 205 (76800 + r)), .int (vl_I f.d), .int (1024 : Int32), .ref 196]) rfl Kz) ?_
                obtain ⟨I8, L8, H8, A8, B8, C8, F8, eL8⟩ := vq_setx (I := I) (L := L) (R := R) (n := n) (sl := sl) 1024 f.d (I 205 (76800 + r)) ((I 206 (76800 + r)).toInt64 - (L 211 5)).toInt32 hW hf (by omega)
                have Z8 := vr_fl_of F8
                have D8 := vr_dec_n F8 D
                refine jv_Wp.lift (fun _ Kz => jv_Ev.c jv_i286 (pc' := 165) (S' := []) (G1 := (jv_H K I8 L8 R)) jv_i272 [.ref 196, .int (1024 : Int32), .int (vl_I f.d), .int (I 205 (76800 + r)), .int ((I 206 (76800 + r)).toInt64 - (L 211 5)).toInt32] rfl rfl rfl rfl (jv_cal rfl (jv_H_at (jv_rwK hW 196 12 24 (by decide))) rfl rfl) rfl H8 rfl rfl Kz) ?_
                refine jv_Wp.lift (fun _ Kz => jv_Ev.steps jv_i286 1 (pc' := 166) (l' := [(10, .long ((I 206 (76800 + r)).toInt64 - (L 211 5))), (9, .int (1 : Int32)), (7, .long (I 206 (76800 + r)).toInt64), (5, .long (L 211 5)), (4, .int (5 : Int32)), (3, .int (I 205 (76800 + r))), (0, .ref 196), (1, .int (vl_I r)), (2, .int (-1 : Int32))]) (st' := [.int (0 : Int32)]) rfl Kz) ?_
                refine jv_Wp.of (jv_Ev.ret jv_i286 rfl rfl) ?_
                rw [hQ]
                have e5 : I 205 (76800 + r) = 2 := h1
                have bs : (vr_T I L (76800 + r)).sort = 2 := (vr_is 2 (by decide) ok).mpr e5
                have c2 : ¬ ((vr_T I L (76800 + r)).sort = 4 ∨ (vr_T I L (76800 + r)).sort = 7) := by omega
                have es : ¬ (vb_toS (vr_S L 5)).low ≠ (vb_toS (vr_S L 5)).high := fun z => z (of_decide_eq_true (vr_b_t h2))
                have xl : (vb_toS (vr_S L 5)).low.toInt = (L 211 5).toInt := rfl
                have dt : (vr_T I L (76800 + r)).det = (I 206 (76800 + r)).toInt := rfl
                have far := gg.1 (by omega)
                have n0 : ¬ f.n = 0 := fun z => h5 ((vr_sm (v := 0) (by omega) (by decide) rfl).mpr z)
                have W := vx_wrap (n := f.n) (I 206 (76800 + r)).toInt64 (L 211 5) (by rw [Int32.toInt_toInt64]; exact far) ((I 206 (76800 + r)).toInt64 - (L 211 5)) (if_neg n0).symm
                rw [Int32.toInt_toInt64, ← dt, ← xl] at W
                have c4 : ¬ ((vx_mvc f.n (vr_T I L (76800 + r)).det (vb_toS (vr_S L 5)).low.toInt) < -vx_far ∨ vx_far < (vx_mvc f.n (vr_T I L (76800 + r)).det (vb_toS (vr_S L 5)).low.toInt)) := fun z => (W.1.mpr z).elim (fun z => h6 (Int64.lt_iff_toInt_lt.mpr z)) (fun z => Int.not_le.mpr z (Int64.le_iff_toInt_le.mp h7))
                have e : (vx_mq f.n (vr_T I L (76800 + r)) (vb_toS (vr_S L 5))) = (0, ((vr_T I L (76800 + r)).sort, (vx_mvc f.n (vr_T I L (76800 + r)).det (vb_toS (vr_S L 5)).low.toInt), -1, vb_any)) := (if_neg c2).trans ((if_neg es).trans (if_neg c4))
                have e32 : (((I 206 (76800 + r)).toInt64 - (L 211 5)).toInt32).toInt = (vx_mvc f.n (vr_T I L (76800 + r)).det (vb_toS (vr_S L 5)).low.toInt) := by
                  rw [Int64.toInt_toInt32, W.2 c4]; unfold vx_far at c4; generalize (vx_mvc f.n (vr_T I L (76800 + r)).det (vb_toS (vr_S L 5)).low.toInt) = y at c4; rw [Int.bmod_def]; split <;> omega
                refine ⟨_, _, by rw [e]; rfl, fun _ => ⟨?_, ?_⟩, F8⟩
                · rw [vr_T_set A8 B8 C8, e, bs, ← e32, e5]; rfl
                · unfold vr_ok; rw [A8, B8, C8, e5]; exact Or.inr (Or.inr (Or.inr (Or.inl ⟨Or.inl rfl, rfl⟩)))
              · refine jv_Wp.lift (fun _ Kz => jv_Ev.steps jv_i286 1 (pc' := 149) (l' := [(10, .long ((I 206 (76800 + r)).toInt64 - (L 211 5))), (9, .int (1 : Int32)), (7, .long (I 206 (76800 + r)).toInt64), (5, .long (L 211 5)), (4, .int (5 : Int32)), (3, .int (I 205 (76800 + r))), (0, .ref 196), (1, .int (vl_I r)), (2, .int (-1 : Int32))]) (st' := [.int (2 : Int32)]) rfl Kz) ?_
                refine jv_Wp.of (jv_Ev.ret jv_i286 rfl rfl) ?_
                rw [hQ]
                have e5 : I 205 (76800 + r) = 2 := h1
                have bs : (vr_T I L (76800 + r)).sort = 2 := (vr_is 2 (by decide) ok).mpr e5
                have c2 : ¬ ((vr_T I L (76800 + r)).sort = 4 ∨ (vr_T I L (76800 + r)).sort = 7) := by omega
                have es : ¬ (vb_toS (vr_S L 5)).low ≠ (vb_toS (vr_S L 5)).high := fun z => z (of_decide_eq_true (vr_b_t h2))
                have xl : (vb_toS (vr_S L 5)).low.toInt = (L 211 5).toInt := rfl
                have dt : (vr_T I L (76800 + r)).det = (I 206 (76800 + r)).toInt := rfl
                have far := gg.1 (by omega)
                have n0 : ¬ f.n = 0 := fun z => h5 ((vr_sm (v := 0) (by omega) (by decide) rfl).mpr z)
                have W := vx_wrap (n := f.n) (I 206 (76800 + r)).toInt64 (L 211 5) (by rw [Int32.toInt_toInt64]; exact far) ((I 206 (76800 + r)).toInt64 - (L 211 5)) (if_neg n0).symm
                rw [Int32.toInt_toInt64, ← dt, ← xl] at W
                have e : (vx_mq f.n (vr_T I L (76800 + r)) (vb_toS (vr_S L 5))) = (2, (vr_T I L (76800 + r))) := (if_neg c2).trans ((if_neg es).trans (if_pos (W.1.mp (Or.inr (Int.not_le.mp ((not_congr Int64.le_iff_toInt_le).mp h7))))))
                exact ⟨_, _, by rw [e]; rfl, fun z => by rw [e] at z; exact absurd (show (2 : Nat) = 0 from z) (by decide), vr_fr_refl hf⟩
          · refine jv_Wp.lift (fun _ Kz => jv_Ev.steps jv_i286 8 (pc' := 136) (l' := [(10, .long ((I 206 (76800 + r)).toInt64 + (L 211 5))), (9, .int (1 : Int32)), (7, .long (I 206 (76800 + r)).toInt64), (5, .long (L 211 5)), (4, .int (5 : Int32)), (3, .int (I 205 (76800 + r))), (0, .ref 196), (1, .int (vl_I r)), (2, .int (-1 : Int32))]) (st' := [.int (lg_cmp ((I 206 (76800 + r)).toInt64 + (L 211 5)) (-536870912 : Int64))]) rfl Kz) ?_
            refine jv_Wp.cnd jv_i286 (pt := 148) (pe := 139) (p := ((lg_cmp ((I 206 (76800 + r)).toInt64 + (L 211 5)) (-536870912 : Int64)) < 0)) (q := (((I 206 (76800 + r)).toInt64 + (L 211 5)) < (-536870912 : Int64))) rfl jv_bi_lt rfl rfl (lg_cmp_lt ((I 206 (76800 + r)).toInt64 + (L 211 5)) (-536870912 : Int64)) (fun h8 => ?_) (fun h8 => ?_)
            · refine jv_Wp.lift (fun _ Kz => jv_Ev.steps jv_i286 1 (pc' := 149) (l' := [(10, .long ((I 206 (76800 + r)).toInt64 + (L 211 5))), (9, .int (1 : Int32)), (7, .long (I 206 (76800 + r)).toInt64), (5, .long (L 211 5)), (4, .int (5 : Int32)), (3, .int (I 205 (76800 + r))), (0, .ref 196), (1, .int (vl_I r)), (2, .int (-1 : Int32))]) (st' := [.int (2 : Int32)]) rfl Kz) ?_
              refine jv_Wp.of (jv_Ev.ret jv_i286 rfl rfl) ?_
              rw [hQ]
              have e5 : I 205 (76800 + r) = 2 := h1
              have bs : (vr_T I L (76800 + r)).sort = 2 := (vr_is 2 (by decide) ok).mpr e5
              have c2 : ¬ ((vr_T I L (76800 + r)).sort = 4 ∨ (vr_T I L (76800 + r)).sort = 7) := by omega
              have es : ¬ (vb_toS (vr_S L 5)).low ≠ (vb_toS (vr_S L 5)).high := fun z => z (of_decide_eq_true (vr_b_t h2))
              have xl : (vb_toS (vr_S L 5)).low.toInt = (L 211 5).toInt := rfl
              have dt : (vr_T I L (76800 + r)).det = (I 206 (76800 + r)).toInt := rfl
              have far := gg.1 (by omega)
              have n0 : f.n = 0 := (vr_sm (v := 0) (by omega) (by decide) rfl).mp (Classical.not_not.mp h5)
              have W := vx_wrap (n := f.n) (I 206 (76800 + r)).toInt64 (L 211 5) (by rw [Int32.toInt_toInt64]; exact far) ((I 206 (76800 + r)).toInt64 + (L 211 5)) (if_pos n0).symm
              rw [Int32.toInt_toInt64, ← dt, ← xl] at W
              have e : (vx_mq f.n (vr_T I L (76800 + r)) (vb_toS (vr_S L 5))) = (2, (vr_T I L (76800 + r))) := (if_neg c2).trans ((if_neg es).trans (if_pos (W.1.mp (Or.inl (Int64.lt_iff_toInt_lt.mp h8)))))
              exact ⟨_, _, by rw [e]; rfl, fun z => by rw [e] at z; exact absurd (show (2 : Nat) = 0 from z) (by decide), vr_fr_refl hf⟩
            · refine jv_Wp.lift (fun _ Kz => jv_Ev.steps jv_i286 3 (pc' := 145) (l' := [(10, .long ((I 206 (76800 + r)).toInt64 + (L 211 5))), (9, .int (1 : Int32)), (7, .long (I 206 (76800 + r)).toInt64), (5, .long (L 211 5)), (4, .int (5 : Int32)), (3, .int (I 205 (76800 + r))), (0, .ref 196), (1, .int (vl_I r)), (2, .int (-1 : Int32))]) (st' := [.int (lg_cmp ((I 206 (76800 + r)).toInt64 + (L 211 5)) (536870912 : Int64))]) rfl Kz) ?_
              refine jv_Wp.cnd jv_i286 (pt := 150) (pe := 148) (p := ((lg_cmp ((I 206 (76800 + r)).toInt64 + (L 211 5)) (536870912 : Int64)) ≤ 0)) (q := (((I 206 (76800 + r)).toInt64 + (L 211 5)) ≤ (536870912 : Int64))) rfl jv_bi_le rfl rfl (lg_cmp_le ((I 206 (76800 + r)).toInt64 + (L 211 5)) (536870912 : Int64)) (fun h9 => ?_) (fun h9 => ?_)
              · refine jv_Wp.lift (fun _ Kz => jv_Ev.steps jv_i286 3 (pc' := 155) (l' := [(10, .long ((I 206 (76800 + r)).toInt64 + (L 211 5))), (9, .int (1 : Int32)), (7, .long (I 206 (76800 + r)).toInt64), (5, .long (L 211 5)), (4, .int (5 : Int32)), (3, .int (I 205 (76800 + r))), (0, .ref 196), (1, .int (vl_I r)), (2, .int (-1 : Int32))]) (st' := [.ref 196, .int (1024 : Int32), .ref 196]) rfl Kz) ?_
                refine jv_Wp.lift (fun _ Kz => jv_Ev.m jv_i286 (pc' := 158) (st' := [.int (vl_I f.d), .int (1024 : Int32), .ref 196]) (G' := (jv_H K I L R)) rfl rfl (jv_m_getI (jv_rwK hW 196 12 24 (by decide)) rfl rfl D.2.1) Kz) ?_
                refine jv_Wp.lift (fun _ Kz => jv_Ev.steps jv_i286 3 (pc' := 162) (l' := [(10, .long ((I 206 (76800 + r)).toInt64 + (L 211 5))), (9, .int (1 : Int32)), (7, .long (I 206 (76800 + r)).toInt64), (5, .long (L 211 5)), (4, .int (5 : Int32)), (3, .int (I 205 (76800 + r))), (0, .ref 196), (1, .int (vl_I r)), (2, .int (-1 : Int32))]) (st' := [.int ((I 206 (76800 + r)).toInt64 + (L 211 5)).toInt32, .int (I 205 (76800 + r)), .int (vl_I f.d), .int (1024 : Int32), .ref 196]) rfl Kz) ?_
                obtain ⟨I9, L9, H9, A9, B9, C9, F9, eL9⟩ := vq_setx (I := I) (L := L) (R := R) (n := n) (sl := sl) 1024 f.d (I 205 (76800 + r)) ((I 206 (76800 + r)).toInt64 + (L 211 5)).toInt32 hW hf (by omega)
                have Z9 := vr_fl_of F9
                have D9 := vr_dec_n F9 D
                refine jv_Wp.lift (fun _ Kz => jv_Ev.c jv_i286 (pc' := 165) (S' := []) (G1 := (jv_H K I9 L9 R)) jv_i272 [.ref 196, .int (1024 : Int32), .int (vl_I f.d), .int (I 205 (76800 + r)), .int ((I 206 (76800 + r)).toInt64 + (L 211 5)).toInt32] rfl rfl rfl rfl (jv_cal rfl (jv_H_at (jv_rwK hW 196 12 24 (by decide))) rfl rfl) rfl H9 rfl rfl Kz) ?_
                refine jv_Wp.lift (fun _ Kz => jv_Ev.steps jv_i286 1 (pc' := 166) (l' := [(10, .long ((I 206 (76800 + r)).toInt64 + (L 211 5))), (9, .int (1 : Int32)), (7, .long (I 206 (76800 + r)).toInt64), (5, .long (L 211 5)), (4, .int (5 : Int32)), (3, .int (I 205 (76800 + r))), (0, .ref 196), (1, .int (vl_I r)), (2, .int (-1 : Int32))]) (st' := [.int (0 : Int32)]) rfl Kz) ?_
                refine jv_Wp.of (jv_Ev.ret jv_i286 rfl rfl) ?_
                rw [hQ]
                have e5 : I 205 (76800 + r) = 2 := h1
                have bs : (vr_T I L (76800 + r)).sort = 2 := (vr_is 2 (by decide) ok).mpr e5
                have c2 : ¬ ((vr_T I L (76800 + r)).sort = 4 ∨ (vr_T I L (76800 + r)).sort = 7) := by omega
                have es : ¬ (vb_toS (vr_S L 5)).low ≠ (vb_toS (vr_S L 5)).high := fun z => z (of_decide_eq_true (vr_b_t h2))
                have xl : (vb_toS (vr_S L 5)).low.toInt = (L 211 5).toInt := rfl
                have dt : (vr_T I L (76800 + r)).det = (I 206 (76800 + r)).toInt := rfl
                have far := gg.1 (by omega)
                have n0 : f.n = 0 := (vr_sm (v := 0) (by omega) (by decide) rfl).mp (Classical.not_not.mp h5)
                have W := vx_wrap (n := f.n) (I 206 (76800 + r)).toInt64 (L 211 5) (by rw [Int32.toInt_toInt64]; exact far) ((I 206 (76800 + r)).toInt64 + (L 211 5)) (if_pos n0).symm
                rw [Int32.toInt_toInt64, ← dt, ← xl] at W
                have c4 : ¬ ((vx_mvc f.n (vr_T I L (76800 + r)).det (vb_toS (vr_S L 5)).low.toInt) < -vx_far ∨ vx_far < (vx_mvc f.n (vr_T I L (76800 + r)).det (vb_toS (vr_S L 5)).low.toInt)) := fun z => (W.1.mpr z).elim (fun z => h8 (Int64.lt_iff_toInt_lt.mpr z)) (fun z => Int.not_le.mpr z (Int64.le_iff_toInt_le.mp h9))
                have e : (vx_mq f.n (vr_T I L (76800 + r)) (vb_toS (vr_S L 5))) = (0, ((vr_T I L (76800 + r)).sort, (vx_mvc f.n (vr_T I L (76800 + r)).det (vb_toS (vr_S L 5)).low.toInt), -1, vb_any)) := (if_neg c2).trans ((if_neg es).trans (if_neg c4))
                have e32 : (((I 206 (76800 + r)).toInt64 + (L 211 5)).toInt32).toInt = (vx_mvc f.n (vr_T I L (76800 + r)).det (vb_toS (vr_S L 5)).low.toInt) := by
                  rw [Int64.toInt_toInt32, W.2 c4]; unfold vx_far at c4; generalize (vx_mvc f.n (vr_T I L (76800 + r)).det (vb_toS (vr_S L 5)).low.toInt) = y at c4; rw [Int.bmod_def]; split <;> omega
                refine ⟨_, _, by rw [e]; rfl, fun _ => ⟨?_, ?_⟩, F9⟩
                · rw [vr_T_set A9 B9 C9, e, bs, ← e32, e5]; rfl
                · unfold vr_ok; rw [A9, B9, C9, e5]; exact Or.inr (Or.inr (Or.inr (Or.inl ⟨Or.inl rfl, rfl⟩)))
              · refine jv_Wp.lift (fun _ Kz => jv_Ev.steps jv_i286 1 (pc' := 149) (l' := [(10, .long ((I 206 (76800 + r)).toInt64 + (L 211 5))), (9, .int (1 : Int32)), (7, .long (I 206 (76800 + r)).toInt64), (5, .long (L 211 5)), (4, .int (5 : Int32)), (3, .int (I 205 (76800 + r))), (0, .ref 196), (1, .int (vl_I r)), (2, .int (-1 : Int32))]) (st' := [.int (2 : Int32)]) rfl Kz) ?_
                refine jv_Wp.of (jv_Ev.ret jv_i286 rfl rfl) ?_
                rw [hQ]
                have e5 : I 205 (76800 + r) = 2 := h1
                have bs : (vr_T I L (76800 + r)).sort = 2 := (vr_is 2 (by decide) ok).mpr e5
                have c2 : ¬ ((vr_T I L (76800 + r)).sort = 4 ∨ (vr_T I L (76800 + r)).sort = 7) := by omega
                have es : ¬ (vb_toS (vr_S L 5)).low ≠ (vb_toS (vr_S L 5)).high := fun z => z (of_decide_eq_true (vr_b_t h2))
                have xl : (vb_toS (vr_S L 5)).low.toInt = (L 211 5).toInt := rfl
                have dt : (vr_T I L (76800 + r)).det = (I 206 (76800 + r)).toInt := rfl
                have far := gg.1 (by omega)
                have n0 : f.n = 0 := (vr_sm (v := 0) (by omega) (by decide) rfl).mp (Classical.not_not.mp h5)
                have W := vx_wrap (n := f.n) (I 206 (76800 + r)).toInt64 (L 211 5) (by rw [Int32.toInt_toInt64]; exact far) ((I 206 (76800 + r)).toInt64 + (L 211 5)) (if_pos n0).symm
                rw [Int32.toInt_toInt64, ← dt, ← xl] at W
                have e : (vx_mq f.n (vr_T I L (76800 + r)) (vb_toS (vr_S L 5))) = (2, (vr_T I L (76800 + r))) := (if_neg c2).trans ((if_neg es).trans (if_pos (W.1.mp (Or.inr (Int.not_le.mp ((not_congr Int64.le_iff_toInt_le).mp h9))))))
                exact ⟨_, _, by rw [e]; rfl, fun z => by rw [e] at z; exact absurd (show (2 : Nat) = 0 from z) (by decide), vr_fr_refl hf⟩
  · refine jv_Wp.lift (fun _ Kz => jv_Ev.steps jv_i286 2 (pc' := 30) (l' := [(4, .int (5 : Int32)), (3, .int (I 205 (76800 + r))), (0, .ref 196), (1, .int (vl_I r)), (2, .int (-1 : Int32))]) (st' := [.int (3 : Int32), .int (I 205 (76800 + r))]) rfl Kz) ?_
    refine jv_Wp.cnd jv_i286 (pt := 167) (pe := 33) (p := (¬ (I 205 (76800 + r)) = (3 : Int32))) (q := (¬ (I 205 (76800 + r)) = (3 : Int32))) rfl jv_bc_ne rfl rfl Iff.rfl (fun h10 => ?_) (fun h10 => ?_)
    · refine jv_Wp.lift (fun _ Kz => jv_Ev.steps jv_i286 1 (pc' := 168) (l' := [(4, .int (5 : Int32)), (3, .int (I 205 (76800 + r))), (0, .ref 196), (1, .int (vl_I r)), (2, .int (-1 : Int32))]) (st' := [.ref 196]) rfl Kz) ?_
      refine jv_Wp.lift (fun _ Kz => jv_Ev.m jv_i286 (pc' := 171) (st' := [.ref 206]) (G' := (jv_H K I L R)) rfl rfl (jv_m_getR (jv_rwK hW 196 12 24 (by decide)) rfl rfl (jv_rwR hW 196 14 206 (by decide))) Kz) ?_
      refine jv_Wp.lift (fun _ Kz => jv_Ev.steps jv_i286 2 (pc' := 175) (l' := [(4, .int (5 : Int32)), (3, .int (I 205 (76800 + r))), (0, .ref 196), (1, .int (vl_I r)), (2, .int (-1 : Int32))]) (st' := [.int (vl_I r), .int (1024 : Int32), .ref 206]) rfl Kz) ?_
      refine jv_Wp.lift (fun _ Kz => jv_Ev.c jv_i286 (pc' := 178) (S' := [.int (vl_I (76800 + r)), .ref 206]) jv_i253 [.int (1024 : Int32), .int (vl_I r)] rfl rfl rfl rfl rfl rfl (vq_thing 1024 r) rfl rfl Kz) ?_
      refine jv_Wp.lift (fun _ Kz => jv_Ev.m jv_i286 (pc' := 179) (st' := [.int (I 206 (76800 + r))]) (G' := (jv_H K I L R)) rfl rfl (jv_m_ialdv (jv_rwK hW 206 102 77100 (by decide)) rfl (vl_I_ix (by omega) (by decide)) rfl ((congrArg (I 206) (vl_I_nat (by omega))).trans rfl)) Kz) ?_
      refine jv_Wp.lift (fun _ Kz => jv_Ev.steps jv_i286 2 (pc' := 182) (l' := [(5, .int (I 206 (76800 + r))), (4, .int (5 : Int32)), (3, .int (I 205 (76800 + r))), (0, .ref 196), (1, .int (vl_I r)), (2, .int (-1 : Int32))]) (st' := [.ref 196]) rfl Kz) ?_
      refine jv_Wp.lift (fun _ Kz => jv_Ev.m jv_i286 (pc' := 185) (st' := [.ref 208]) (G' := (jv_H K I L R)) rfl rfl (jv_m_getR (jv_rwK hW 196 12 24 (by decide)) rfl rfl (jv_rwR hW 196 16 208 (by decide))) Kz) ?_
      refine jv_Wp.lift (fun _ Kz => jv_Ev.steps jv_i286 1 (pc' := 186) (l' := [(5, .int (I 206 (76800 + r))), (4, .int (5 : Int32)), (3, .int (I 205 (76800 + r))), (0, .ref 196), (1, .int (vl_I r)), (2, .int (-1 : Int32))]) (st' := [.ref 196, .ref 208]) rfl Kz) ?_
      refine jv_Wp.lift (fun _ Kz => jv_Ev.c jv_i286 (pc' := 189) (S' := [.int (vl_I f.n), .ref 208]) jv_i258 [.ref 196] rfl rfl rfl rfl (jv_cal rfl (jv_H_at (jv_rwK hW 196 12 24 (by decide))) rfl rfl) rfl (vq_n f hW D) rfl rfl Kz) ?_
      refine jv_Wp.lift (fun _ Kz => jv_Ev.steps jv_i286 4 (pc' := 197) (l' := [(5, .int (I 206 (76800 + r))), (4, .int (5 : Int32)), (3, .int (I 205 (76800 + r))), (0, .ref 196), (1, .int (vl_I r)), (2, .int (-1 : Int32))]) (st' := [.int (vl_I r), .int (1024 : Int32), .int (7 : Int32), .int (64 : Int32), .int (vl_I f.n), .ref 208]) rfl Kz) ?_
      refine jv_Wp.lift (fun _ Kz => jv_Ev.c jv_i286 (pc' := 200) (S' := [.int (vl_I (8 + (76800 + r))), .int (7 : Int32), .int (64 : Int32), .int (vl_I f.n), .ref 208]) jv_i254 [.int (1024 : Int32), .int (vl_I r)] rfl rfl rfl rfl rfl rfl (vq_row 1024 r) rfl rfl Kz) ?_
      refine jv_Wp.lift (fun _ Kz => jv_Ev.steps jv_i286 1 (pc' := 202) (l' := [(5, .int (I 206 (76800 + r))), (4, .int (5 : Int32)), (3, .int (I 205 (76800 + r))), (0, .ref 196), (1, .int (vl_I r)), (2, .int (-1 : Int32))]) (st' := [.int (5 : Int32), .int (vl_I (8 + (76800 + r))), .int (7 : Int32), .int (64 : Int32), .int (vl_I f.n), .ref 208]) rfl Kz) ?_
      have n2 : ¬ I 205 (76800 + r) = 2 := h1
      have n3 : ¬ I 205 (76800 + r) = 3 := h10
      have c47 : I 205 (76800 + r) = 4 ∨ I 205 (76800 + r) = 7 := hs.elim (fun z => absurd z n2) (fun z => z.elim (fun z => absurd z n3) id)
      have hv : vc_hv (I 205 (76800 + r)) = true := by rcases c47 with z | z <;> (rw [z]; rfl)
      have c2 : (vr_T I L (76800 + r)).sort = 4 ∨ (vr_T I L (76800 + r)).sort = 7 := c47.imp (fun z => (vr_is 4 (by decide) ok).mpr z) (fun z => (vr_is 7 (by decide) ok).mpr z)
      have bv : (vr_T I L (76800 + r)).val = vb_toS (vr_S L (8 + (76800 + r))) := vr_valv hv
      obtain ⟨I10, L10, H10, S10, F10⟩ := vq_rn (I := I) (L := L) (R := R) (n := n) (sl := sl) f.n true (d := 7) (a := 8 + (76800 + r)) (b := 5) (by omega) (by omega) hW (by omega) (by omega) (by decide) (by decide) (by omega) (by omega) hf (vr_tight ok tt hv) hx
      rw [show vx_opn f.n = f.n by rcases hn01 with z | z <;> (rw [z]; rfl)] at H10
      rw [← bv] at S10
      have le : (L10 213 7).toInt = (vx_op f.n (vr_T I L (76800 + r)).val (vb_toS (vr_S L 5)) 63).least.toInt := congrArg (fun z => z.least.toInt) S10
      have ge : (L10 214 7).toInt = (vx_op f.n (vr_T I L (76800 + r)).val (vb_toS (vr_S L 5)) 63).greatest.toInt := congrArg (fun z => z.greatest.toInt) S10
      have Z10 := F10.1
      have D10 := vr_dec_rf F10 D
      refine jv_Wp.lift (fun _ Kz => jv_Ev.c jv_i286 (pc' := 205) (S' := []) (G1 := (jv_H K I10 L10 R)) jv_i249 [.ref 208, .int (vl_I f.n), .int (64 : Int32), .int (7 : Int32), .int (vl_I (8 + (76800 + r))), .int (5 : Int32)] rfl rfl rfl rfl (jv_cal rfl (jv_H_at (jv_rwK hW 208 11 7 (by decide))) rfl rfl) rfl H10 rfl rfl Kz) ?_
      refine jv_Wp.lift (fun _ Kz => jv_Ev.steps jv_i286 1 (pc' := 206) (l' := [(5, .int (I 206 (76800 + r))), (4, .int (5 : Int32)), (3, .int (I 205 (76800 + r))), (0, .ref 196), (1, .int (vl_I r)), (2, .int (-1 : Int32))]) (st' := [.ref 196]) rfl Kz) ?_
      refine jv_Wp.lift (fun _ Kz => jv_Ev.m jv_i286 (pc' := 209) (st' := [.ref 208]) (G' := (jv_H K I10 L10 R)) rfl rfl (jv_m_getR (jv_rwK hW 196 12 24 (by decide)) rfl rfl (jv_rwR hW 196 16 208 (by decide))) Kz) ?_
      refine jv_Wp.lift (fun _ Kz => jv_Ev.m jv_i286 (pc' := 212) (st' := [.ref 213]) (G' := (jv_H K I10 L10 R)) rfl rfl (jv_m_getR (jv_rwK hW 208 11 7 (by decide)) rfl rfl (jv_rwR hW 208 4 213 (by decide))) Kz) ?_
      refine jv_Wp.lift (fun _ Kz => jv_Ev.steps jv_i286 1 (pc' := 214) (l' := [(5, .int (I 206 (76800 + r))), (4, .int (5 : Int32)), (3, .int (I 205 (76800 + r))), (0, .ref 196), (1, .int (vl_I r)), (2, .int (-1 : Int32))]) (st' := [.int (7 : Int32), .ref 213]) rfl Kz) ?_
      refine jv_Wp.lift (fun _ Kz => jv_Ev.m jv_i286 (pc' := 215) (st' := [.long (L10 213 7)]) (G' := (jv_H K I10 L10 R)) rfl rfl (jv_m_laldv (jv_rwK hW 213 103 77200 (by decide)) rfl (by decide) rfl rfl) Kz) ?_
      refine jv_Wp.lift (fun _ Kz => jv_Ev.steps jv_i286 2 (pc' := 219) (l' := [(5, .int (I 206 (76800 + r))), (4, .int (5 : Int32)), (3, .int (I 205 (76800 + r))), (0, .ref 196), (1, .int (vl_I r)), (2, .int (-1 : Int32))]) (st' := [.int (lg_cmp (L10 213 7) (-536870912 : Int64))]) rfl Kz) ?_
      refine jv_Wp.cnd jv_i286 (pt := 239) (pe := 222) (p := ((lg_cmp (L10 213 7) (-536870912 : Int64)) < 0)) (q := ((L10 213 7) < (-536870912 : Int64))) rfl jv_bi_lt rfl rfl (lg_cmp_lt (L10 213 7) (-536870912 : Int64)) (fun h11 => ?_) (fun h11 => ?_)
      · refine jv_Wp.lift (fun _ Kz => jv_Ev.steps jv_i286 1 (pc' := 240) (l' := [(5, .int (I 206 (76800 + r))), (4, .int (5 : Int32)), (3, .int (I 205 (76800 + r))), (0, .ref 196), (1, .int (vl_I r)), (2, .int (-1 : Int32))]) (st' := [.int (2 : Int32)]) rfl Kz) ?_
        refine jv_Wp.of (jv_Ev.ret jv_i286 rfl rfl) ?_
        rw [hQ]
        have e : (vx_mq f.n (vr_T I L (76800 + r)) (vb_toS (vr_S L 5))) = (2, (vr_T I L (76800 + r))) := (if_pos c2).trans (if_pos (Or.inl (by rw [← le]; exact Int64.lt_iff_toInt_lt.mp h11)))
        exact ⟨_, _, by rw [e]; rfl, fun z => by rw [e] at z; exact absurd (show (2 : Nat) = 0 from z) (by decide), vq_rf_fr F10 (by decide)⟩
      · refine jv_Wp.lift (fun _ Kz => jv_Ev.steps jv_i286 1 (pc' := 223) (l' := [(5, .int (I 206 (76800 + r))), (4, .int (5 : Int32)), (3, .int (I 205 (76800 + r))), (0, .ref 196), (1, .int (vl_I r)), (2, .int (-1 : Int32))]) (st' := [.ref 196]) rfl Kz) ?_
        refine jv_Wp.lift (fun _ Kz => jv_Ev.m jv_i286 (pc' := 226) (st' := [.ref 208]) (G' := (jv_H K I10 L10 R)) rfl rfl (jv_m_getR (jv_rwK hW 196 12 24 (by decide)) rfl rfl (jv_rwR hW 196 16 208 (by decide))) Kz) ?_
        refine jv_Wp.lift (fun _ Kz => jv_Ev.m jv_i286 (pc' := 229) (st' := [.ref 214]) (G' := (jv_H K I10 L10 R)) rfl rfl (jv_m_getR (jv_rwK hW 208 11 7 (by decide)) rfl rfl (jv_rwR hW 208 5 214 (by decide))) Kz) ?_
        refine jv_Wp.lift (fun _ Kz => jv_Ev.steps jv_i286 1 (pc' := 231) (l' := [(5, .int (I 206 (76800 + r))), (4, .int (5 : Int32)), (3, .int (I 205 (76800 + r))), (0, .ref 196), (1, .int (vl_I r)), (2, .int (-1 : Int32))]) (st' := [.int (7 : Int32), .ref 214]) rfl Kz) ?_
        refine jv_Wp.lift (fun _ Kz => jv_Ev.m jv_i286 (pc' := 232) (st' := [.long (L10 214 7)]) (G' := (jv_H K I10 L10 R)) rfl rfl (jv_m_laldv (jv_rwK hW 214 103 77200 (by decide)) rfl (by decide) rfl rfl) Kz) ?_
        refine jv_Wp.lift (fun _ Kz => jv_Ev.steps jv_i286 2 (pc' := 236) (l' := [(5, .int (I 206 (76800 + r))), (4, .int (5 : Int32)), (3, .int (I 205 (76800 + r))), (0, .ref 196), (1, .int (vl_I r)), (2, .int (-1 : Int32))]) (st' := [.int (lg_cmp (L10 214 7) (536870912 : Int64))]) rfl Kz) ?_
        refine jv_Wp.cnd jv_i286 (pt := 241) (pe := 239) (p := ((lg_cmp (L10 214 7) (536870912 : Int64)) ≤ 0)) (q := ((L10 214 7) ≤ (536870912 : Int64))) rfl jv_bi_le rfl rfl (lg_cmp_le (L10 214 7) (536870912 : Int64)) (fun h12 => ?_) (fun h12 => ?_)
        · refine jv_Wp.lift (fun _ Kz => jv_Ev.steps jv_i286 3 (pc' := 246) (l' := [(5, .int (I 206 (76800 + r))), (4, .int (5 : Int32)), (3, .int (I 205 (76800 + r))), (0, .ref 196), (1, .int (vl_I r)), (2, .int (-1 : Int32))]) (st' := [.ref 196, .int (1024 : Int32), .ref 196]) rfl Kz) ?_
          refine jv_Wp.lift (fun _ Kz => jv_Ev.m jv_i286 (pc' := 249) (st' := [.int (vl_I f.d), .int (1024 : Int32), .ref 196]) (G' := (jv_H K I10 L10 R)) rfl rfl (jv_m_getI (jv_rwK hW 196 12 24 (by decide)) rfl rfl D10.2.1) Kz) ?_
          refine jv_Wp.lift (fun _ Kz => jv_Ev.steps jv_i286 2 (pc' := 252) (l' := [(5, .int (I 206 (76800 + r))), (4, .int (5 : Int32)), (3, .int (I 205 (76800 + r))), (0, .ref 196), (1, .int (vl_I r)), (2, .int (-1 : Int32))]) (st' := [.int (I 206 (76800 + r)), .int (I 205 (76800 + r)), .int (vl_I f.d), .int (1024 : Int32), .ref 196]) rfl Kz) ?_
          obtain ⟨I11, L11, H11, A11, B11, C11, F11, eL11⟩ := vq_setx (I := I10) (L := L10) (R := R) (n := n) (sl := sl) 1024 f.d (I 205 (76800 + r)) (I 206 (76800 + r)) hW Z10 (by omega)
          have Z11 := vr_fl_of F11
          have D11 := vr_dec_n F11 D10
          refine jv_Wp.lift (fun _ Kz => jv_Ev.c jv_i286 (pc' := 255) (S' := []) (G1 := (jv_H K I11 L11 R)) jv_i272 [.ref 196, .int (1024 : Int32), .int (vl_I f.d), .int (I 205 (76800 + r)), .int (I 206 (76800 + r))] rfl rfl rfl rfl (jv_cal rfl (jv_H_at (jv_rwK hW 196 12 24 (by decide))) rfl rfl) rfl H11 rfl rfl Kz) ?_
          refine jv_Wp.lift (fun _ Kz => jv_Ev.steps jv_i286 1 (pc' := 256) (l' := [(5, .int (I 206 (76800 + r))), (4, .int (5 : Int32)), (3, .int (I 205 (76800 + r))), (0, .ref 196), (1, .int (vl_I r)), (2, .int (-1 : Int32))]) (st' := [.ref 196]) rfl Kz) ?_
          refine jv_Wp.lift (fun _ Kz => jv_Ev.m jv_i286 (pc' := 259) (st' := [.ref 208]) (G' := (jv_H K I11 L11 R)) rfl rfl (jv_m_getR (jv_rwK hW 196 12 24 (by decide)) rfl rfl (jv_rwR hW 196 16 208 (by decide))) Kz) ?_
          refine jv_Wp.lift (fun _ Kz => jv_Ev.steps jv_i286 3 (pc' := 265) (l' := [(5, .int (I 206 (76800 + r))), (4, .int (5 : Int32)), (3, .int (I 205 (76800 + r))), (0, .ref 196), (1, .int (vl_I r)), (2, .int (-1 : Int32))]) (st' := [.ref 196, .int (1024 : Int32), .int (7 : Int32), .ref 208]) rfl Kz) ?_
          refine jv_Wp.lift (fun _ Kz => jv_Ev.m jv_i286 (pc' := 268) (st' := [.int (vl_I f.d), .int (1024 : Int32), .int (7 : Int32), .ref 208]) (G' := (jv_H K I11 L11 R)) rfl rfl (jv_m_getI (jv_rwK hW 196 12 24 (by decide)) rfl rfl D11.2.1) Kz) ?_
          refine jv_Wp.lift (fun _ Kz => jv_Ev.c jv_i286 (pc' := 271) (S' := [.int (vl_I (8 + (76800 + f.d))), .int (7 : Int32), .ref 208]) jv_i254 [.int (1024 : Int32), .int (vl_I f.d)] rfl rfl rfl rfl rfl rfl (vq_row 1024 f.d) rfl rfl Kz) ?_
          obtain ⟨I12, L12, H12, S12, F12⟩ := vq_copy (I := I11) (L := L11) (R := R) (n := n) (sl := sl) (a := 7) (d := 8 + (76800 + f.d)) hW (by decide) (by omega) Z11 (Z11 _ (by decide))
          refine jv_Wp.lift (fun _ Kz => jv_Ev.c jv_i286 (pc' := 274) (S' := []) (G1 := (jv_H K I12 L12 R)) jv_i208 [.ref 208, .int (7 : Int32), .int (vl_I (8 + (76800 + f.d)))] rfl rfl rfl rfl (jv_cal rfl (jv_H_at (jv_rwK hW 208 11 7 (by decide))) rfl rfl) rfl H12 rfl rfl Kz) ?_
          refine jv_Wp.lift (fun _ Kz => jv_Ev.steps jv_i286 1 (pc' := 275) (l' := [(5, .int (I 206 (76800 + r))), (4, .int (5 : Int32)), (3, .int (I 205 (76800 + r))), (0, .ref 196), (1, .int (vl_I r)), (2, .int (-1 : Int32))]) (st' := [.int (0 : Int32)]) rfl Kz) ?_
          refine jv_Wp.of (jv_Ev.ret jv_i286 rfl rfl) ?_
          rw [hQ]
          have c3 := (by rw [← le, ← ge]; exact fun z => z.elim (fun z => h11 (Int64.lt_iff_toInt_lt.mpr z)) (fun z => Int.not_le.mpr z (Int64.le_iff_toInt_le.mp h12)) : ¬ ((vx_op f.n (vr_T I L (76800 + r)).val (vb_toS (vr_S L 5)) 63).least.toInt < -vx_far ∨ vx_far < (vx_op f.n (vr_T I L (76800 + r)).val (vb_toS (vr_S L 5)) 63).greatest.toInt))
          have e : (vx_mq f.n (vr_T I L (76800 + r)) (vb_toS (vr_S L 5))) = (0, ((vr_T I L (76800 + r)).sort, (vr_T I L (76800 + r)).det, -1, vx_op f.n (vr_T I L (76800 + r)).val (vb_toS (vr_S L 5)) 63)) := (if_pos c2).trans (if_neg c3)
          subst eL11
          have q5 : I12 205 (76800 + f.d) = I 205 (76800 + r) := (F12.2.1 205 _ (by decide)).trans A11
          have q6 : I12 206 (76800 + f.d) = I 206 (76800 + r) := (F12.2.1 206 _ (by decide)).trans B11
          have q7 : I12 207 (76800 + f.d) = -1 := (F12.2.1 207 _ (by decide)).trans C11
          refine ⟨_, _, by rw [e]; rfl, fun _ => ⟨?_, ?_⟩, vr_fr_trans (vq_rf_fr F10 (by decide)) (vr_fr_trans F11 (vq_rf_frx F12 rfl))⟩
          · rw [vr_T_set q5 q6 q7, S12, S10, vb_toS_toR, e, vr_D_v hv]
            refine Prod.ext ?_ rfl; rcases c47 with z | z <;> (show _ = (vr_T I L (76800 + r)).sort; rw [z])
            · exact ((vr_is 4 (by decide) ok).mpr z).symm
            · exact ((vr_is 7 (by decide) ok).mpr z).symm
          · unfold vr_ok; rw [q5, q6, q7]; rcases c47 with z | z
            · exact Or.inr (Or.inr (Or.inl ⟨Or.inr (Or.inl z), (vr_okv ok (Or.inr (Or.inl z))).1, rfl⟩))
            · exact Or.inr (Or.inr (Or.inr (Or.inl ⟨Or.inr (Or.inr (Or.inr z)), rfl⟩)))
        · refine jv_Wp.lift (fun _ Kz => jv_Ev.steps jv_i286 1 (pc' := 240) (l' := [(5, .int (I 206 (76800 + r))), (4, .int (5 : Int32)), (3, .int (I 205 (76800 + r))), (0, .ref 196), (1, .int (vl_I r)), (2, .int (-1 : Int32))]) (st' := [.int (2 : Int32)]) rfl Kz) ?_
          refine jv_Wp.of (jv_Ev.ret jv_i286 rfl rfl) ?_
          rw [hQ]
          have e : (vx_mq f.n (vr_T I L (76800 + r)) (vb_toS (vr_S L 5))) = (2, (vr_T I L (76800 + r))) := (if_pos c2).trans (if_pos (Or.inr (by rw [← ge]; exact Int.not_le.mp ((not_congr Int64.le_iff_toInt_le).mp h12))))
          exact ⟨_, _, by rw [e]; rfl, fun z => by rw [e] at z; exact absurd (show (2 : Nat) = 0 from z) (by decide), vq_rf_fr F10 (by decide)⟩
    · refine jv_Wp.lift (fun _ Kz => jv_Ev.steps jv_i286 1 (pc' := 34) (l' := [(4, .int (5 : Int32)), (3, .int (I 205 (76800 + r))), (0, .ref 196), (1, .int (vl_I r)), (2, .int (-1 : Int32))]) (st' := [.ref 196]) rfl Kz) ?_
      refine jv_Wp.lift (fun _ Kz => jv_Ev.m jv_i286 (pc' := 37) (st' := [.ref 208]) (G' := (jv_H K I L R)) rfl rfl (jv_m_getR (jv_rwK hW 196 12 24 (by decide)) rfl rfl (jv_rwR hW 196 16 208 (by decide))) Kz) ?_
      refine jv_Wp.lift (fun _ Kz => jv_Ev.m jv_i286 (pc' := 40) (st' := [.ref 211]) (G' := (jv_H K I L R)) rfl rfl (jv_m_getR (jv_rwK hW 208 11 7 (by decide)) rfl rfl (jv_rwR hW 208 2 211 (by decide))) Kz) ?_
      refine jv_Wp.lift (fun _ Kz => jv_Ev.steps jv_i286 1 (pc' := 42) (l' := [(4, .int (5 : Int32)), (3, .int (I 205 (76800 + r))), (0, .ref 196), (1, .int (vl_I r)), (2, .int (-1 : Int32))]) (st' := [.int (5 : Int32), .ref 211]) rfl Kz) ?_
      refine jv_Wp.lift (fun _ Kz => jv_Ev.m jv_i286 (pc' := 43) (st' := [.long (L 211 5)]) (G' := (jv_H K I L R)) rfl rfl (jv_m_laldv (jv_rwK hW 211 103 77200 (by decide)) rfl (by decide) rfl rfl) Kz) ?_
      refine jv_Wp.lift (fun _ Kz => jv_Ev.steps jv_i286 2 (pc' := 46) (l' := [(5, .long (L 211 5)), (4, .int (5 : Int32)), (3, .int (I 205 (76800 + r))), (0, .ref 196), (1, .int (vl_I r)), (2, .int (-1 : Int32))]) (st' := [.ref 196]) rfl Kz) ?_
      refine jv_Wp.lift (fun _ Kz => jv_Ev.m jv_i286 (pc' := 49) (st' := [.ref 206]) (G' := (jv_H K I L R)) rfl rfl (jv_m_getR (jv_rwK hW 196 12 24 (by decide)) rfl rfl (jv_rwR hW 196 14 206 (by decide))) Kz) ?_
      refine jv_Wp.lift (fun _ Kz => jv_Ev.steps jv_i286 2 (pc' := 53) (l' := [(5, .long (L 211 5)), (4, .int (5 : Int32)), (3, .int (I 205 (76800 + r))), (0, .ref 196), (1, .int (vl_I r)), (2, .int (-1 : Int32))]) (st' := [.int (vl_I r), .int (1024 : Int32), .ref 206]) rfl Kz) ?_
      refine jv_Wp.lift (fun _ Kz => jv_Ev.c jv_i286 (pc' := 56) (S' := [.int (vl_I (76800 + r)), .ref 206]) jv_i253 [.int (1024 : Int32), .int (vl_I r)] rfl rfl rfl rfl rfl rfl (vq_thing 1024 r) rfl rfl Kz) ?_
      refine jv_Wp.lift (fun _ Kz => jv_Ev.m jv_i286 (pc' := 57) (st' := [.int (I 206 (76800 + r))]) (G' := (jv_H K I L R)) rfl rfl (jv_m_ialdv (jv_rwK hW 206 102 77100 (by decide)) rfl (vl_I_ix (by omega) (by decide)) rfl ((congrArg (I 206) (vl_I_nat (by omega))).trans rfl)) Kz) ?_
      refine jv_Wp.lift (fun _ Kz => jv_Ev.steps jv_i286 3 (pc' := 61) (l' := [(7, .long (I 206 (76800 + r)).toInt64), (5, .long (L 211 5)), (4, .int (5 : Int32)), (3, .int (I 205 (76800 + r))), (0, .ref 196), (1, .int (vl_I r)), (2, .int (-1 : Int32))]) (st' := [.ref 196]) rfl Kz) ?_
      refine jv_Wp.lift (fun _ Kz => jv_Ev.m jv_i286 (pc' := 64) (st' := [.ref 208]) (G' := (jv_H K I L R)) rfl rfl (jv_m_getR (jv_rwK hW 196 12 24 (by decide)) rfl rfl (jv_rwR hW 196 16 208 (by decide))) Kz) ?_
      refine jv_Wp.lift (fun _ Kz => jv_Ev.steps jv_i286 1 (pc' := 66) (l' := [(7, .long (I 206 (76800 + r)).toInt64), (5, .long (L 211 5)), (4, .int (5 : Int32)), (3, .int (I 205 (76800 + r))), (0, .ref 196), (1, .int (vl_I r)), (2, .int (-1 : Int32))]) (st' := [.int (5 : Int32), .ref 208]) rfl Kz) ?_
      refine jv_Wp.lift (fun _ Kz => jv_Ev.c jv_i286 (pc' := 69) (S' := [.int (vr_b (decide ((vr_S L 5).low = (vr_S L 5).high)))]) jv_i209 [.ref 208, .int (5 : Int32)] rfl rfl rfl rfl (jv_cal rfl (jv_H_at (jv_rwK hW 208 11 7 (by decide))) rfl rfl) rfl (vq_isSingle (a := 5) hW (by omega)) rfl rfl Kz) ?_
      refine jv_Wp.cnd jv_i286 (pt := 94) (pe := 72) (p := ((vr_b (decide ((vr_S L 5).low = (vr_S L 5).high))) = 0)) (q := ((vr_b (decide ((vr_S L 5).low = (vr_S L 5).high))) = 0)) rfl jv_bi_eq rfl rfl Iff.rfl (fun h13 => ?_) (fun h13 => ?_)
      · refine jv_Wp.lift (fun _ Kz => jv_Ev.steps jv_i286 3 (pc' := 99) (l' := [(9, .int (0 : Int32)), (7, .long (I 206 (76800 + r)).toInt64), (5, .long (L 211 5)), (4, .int (5 : Int32)), (3, .int (I 205 (76800 + r))), (0, .ref 196), (1, .int (vl_I r)), (2, .int (-1 : Int32))]) (st' := [.int (0 : Int32)]) rfl Kz) ?_
        refine jv_Wp.lift (fun _ Kz => jv_Ev.br jv_i286 (pc' := 125) (st' := []) rfl (by rfl) Kz) ?_
        refine jv_Wp.lift (fun _ Kz => jv_Ev.steps jv_i286 5 (pc' := 136) (l' := [(10, .long (1073741824 : Int64)), (9, .int (0 : Int32)), (7, .long (I 206 (76800 + r)).toInt64), (5, .long (L 211 5)), (4, .int (5 : Int32)), (3, .int (I 205 (76800 + r))), (0, .ref 196), (1, .int (vl_I r)), (2, .int (-1 : Int32))]) (st' := [.int (lg_cmp (1073741824 : Int64) (-536870912 : Int64))]) rfl Kz) ?_
        refine jv_Wp.cnd jv_i286 (pt := 148) (pe := 139) (p := ((lg_cmp (1073741824 : Int64) (-536870912 : Int64)) < 0)) (q := ((1073741824 : Int64) < (-536870912 : Int64))) rfl jv_bi_lt rfl rfl (lg_cmp_lt (1073741824 : Int64) (-536870912 : Int64)) (fun hz => absurd hz (by decide)) (fun _ => ?_)
        refine jv_Wp.lift (fun _ Kz => jv_Ev.steps jv_i286 3 (pc' := 145) (l' := [(10, .long (1073741824 : Int64)), (9, .int (0 : Int32)), (7, .long (I 206 (76800 + r)).toInt64), (5, .long (L 211 5)), (4, .int (5 : Int32)), (3, .int (I 205 (76800 + r))), (0, .ref 196), (1, .int (vl_I r)), (2, .int (-1 : Int32))]) (st' := [.int (lg_cmp (1073741824 : Int64) (536870912 : Int64))]) rfl Kz) ?_
        refine jv_Wp.cnd jv_i286 (pt := 150) (pe := 148) (p := ((lg_cmp (1073741824 : Int64) (536870912 : Int64)) ≤ 0)) (q := ((1073741824 : Int64) ≤ (536870912 : Int64))) rfl jv_bi_le rfl rfl (lg_cmp_le (1073741824 : Int64) (536870912 : Int64)) (fun hz => absurd hz (by decide)) (fun _ => ?_)
        refine jv_Wp.lift (fun _ Kz => jv_Ev.steps jv_i286 1 (pc' := 149) (l' := [(10, .long (1073741824 : Int64)), (9, .int (0 : Int32)), (7, .long (I 206 (76800 + r)).toInt64), (5, .long (L 211 5)), (4, .int (5 : Int32)), (3, .int (I 205 (76800 + r))), (0, .ref 196), (1, .int (vl_I r)), (2, .int (-1 : Int32))]) (st' := [.int (2 : Int32)]) rfl Kz) ?_
        refine jv_Wp.of (jv_Ev.ret jv_i286 rfl rfl) ?_
        rw [hQ]
        have e5 : I 205 (76800 + r) = 3 := (Classical.not_not.mp h10)
        have bs : (vr_T I L (76800 + r)).sort = 3 := (vr_is 3 (by decide) ok).mpr e5
        have c2 : ¬ ((vr_T I L (76800 + r)).sort = 4 ∨ (vr_T I L (76800 + r)).sort = 7) := by omega
        have ns : (vb_toS (vr_S L 5)).low ≠ (vb_toS (vr_S L 5)).high := of_decide_eq_false (vr_b_f h13)
        have e : (vx_mq f.n (vr_T I L (76800 + r)) (vb_toS (vr_S L 5))) = (2, (vr_T I L (76800 + r))) := (if_neg c2).trans (if_pos ns)
        exact ⟨_, _, by rw [e]; rfl, fun z => by rw [e] at z; exact absurd (show (2 : Nat) = 0 from z) (by decide), vr_fr_refl hf⟩
      · refine jv_Wp.lift (fun _ Kz => jv_Ev.steps jv_i286 3 (pc' := 78) (l' := [(7, .long (I 206 (76800 + r)).toInt64), (5, .long (L 211 5)), (4, .int (5 : Int32)), (3, .int (I 205 (76800 + r))), (0, .ref 196), (1, .int (vl_I r)), (2, .int (-1 : Int32))]) (st' := [.int (lg_cmp (L 211 5) (-1073741824 : Int64))]) rfl Kz) ?_
        refine jv_Wp.cnd jv_i286 (pt := 94) (pe := 81) (p := ((lg_cmp (L 211 5) (-1073741824 : Int64)) < 0)) (q := ((L 211 5) < (-1073741824 : Int64))) rfl jv_bi_lt rfl rfl (lg_cmp_lt (L 211 5) (-1073741824 : Int64)) (fun h14 => ?_) (fun h14 => ?_)
        · refine jv_Wp.lift (fun _ Kz => jv_Ev.steps jv_i286 3 (pc' := 99) (l' := [(9, .int (0 : Int32)), (7, .long (I 206 (76800 + r)).toInt64), (5, .long (L 211 5)), (4, .int (5 : Int32)), (3, .int (I 205 (76800 + r))), (0, .ref 196), (1, .int (vl_I r)), (2, .int (-1 : Int32))]) (st' := [.int (0 : Int32)]) rfl Kz) ?_
          refine jv_Wp.lift (fun _ Kz => jv_Ev.br jv_i286 (pc' := 125) (st' := []) rfl (by rfl) Kz) ?_
          refine jv_Wp.lift (fun _ Kz => jv_Ev.steps jv_i286 5 (pc' := 136) (l' := [(10, .long (1073741824 : Int64)), (9, .int (0 : Int32)), (7, .long (I 206 (76800 + r)).toInt64), (5, .long (L 211 5)), (4, .int (5 : Int32)), (3, .int (I 205 (76800 + r))), (0, .ref 196), (1, .int (vl_I r)), (2, .int (-1 : Int32))]) (st' := [.int (lg_cmp (1073741824 : Int64) (-536870912 : Int64))]) rfl Kz) ?_
          refine jv_Wp.cnd jv_i286 (pt := 148) (pe := 139) (p := ((lg_cmp (1073741824 : Int64) (-536870912 : Int64)) < 0)) (q := ((1073741824 : Int64) < (-536870912 : Int64))) rfl jv_bi_lt rfl rfl (lg_cmp_lt (1073741824 : Int64) (-536870912 : Int64)) (fun hz => absurd hz (by decide)) (fun _ => ?_)
          refine jv_Wp.lift (fun _ Kz => jv_Ev.steps jv_i286 3 (pc' := 145) (l' := [(10, .long (1073741824 : Int64)), (9, .int (0 : Int32)), (7, .long (I 206 (76800 + r)).toInt64), (5, .long (L 211 5)), (4, .int (5 : Int32)), (3, .int (I 205 (76800 + r))), (0, .ref 196), (1, .int (vl_I r)), (2, .int (-1 : Int32))]) (st' := [.int (lg_cmp (1073741824 : Int64) (536870912 : Int64))]) rfl Kz) ?_
          refine jv_Wp.cnd jv_i286 (pt := 150) (pe := 148) (p := ((lg_cmp (1073741824 : Int64) (536870912 : Int64)) ≤ 0)) (q := ((1073741824 : Int64) ≤ (536870912 : Int64))) rfl jv_bi_le rfl rfl (lg_cmp_le (1073741824 : Int64) (536870912 : Int64)) (fun hz => absurd hz (by decide)) (fun _ => ?_)
          refine jv_Wp.lift (fun _ Kz => jv_Ev.steps jv_i286 1 (pc' := 149) (l' := [(10, .long (1073741824 : Int64)), (9, .int (0 : Int32)), (7, .long (I 206 (76800 + r)).toInt64), (5, .long (L 211 5)), (4, .int (5 : Int32)), (3, .int (I 205 (76800 + r))), (0, .ref 196), (1, .int (vl_I r)), (2, .int (-1 : Int32))]) (st' := [.int (2 : Int32)]) rfl Kz) ?_
          refine jv_Wp.of (jv_Ev.ret jv_i286 rfl rfl) ?_
          rw [hQ]
          have e5 : I 205 (76800 + r) = 3 := (Classical.not_not.mp h10)
          have bs : (vr_T I L (76800 + r)).sort = 3 := (vr_is 3 (by decide) ok).mpr e5
          have c2 : ¬ ((vr_T I L (76800 + r)).sort = 4 ∨ (vr_T I L (76800 + r)).sort = 7) := by omega
          have es : ¬ (vb_toS (vr_S L 5)).low ≠ (vb_toS (vr_S L 5)).high := fun z => z (of_decide_eq_true (vr_b_t h13))
          have xl : (vb_toS (vr_S L 5)).low.toInt = (L 211 5).toInt := rfl
          have dt : (vr_T I L (76800 + r)).det = (I 206 (76800 + r)).toInt := rfl
          have far := gg.1 (by omega)
          have vv : (L 211 5).toInt < -1073741824 := Int64.lt_iff_toInt_lt.mp h14
          have c4 : (vx_mvc f.n (vr_T I L (76800 + r)).det (vb_toS (vr_S L 5)).low.toInt) < -vx_far ∨ vx_far < (vx_mvc f.n (vr_T I L (76800 + r)).det (vb_toS (vr_S L 5)).low.toInt) := by
            rw [xl]; unfold vx_mvc vx_far; split <;> omega
          have e : (vx_mq f.n (vr_T I L (76800 + r)) (vb_toS (vr_S L 5))) = (2, (vr_T I L (76800 + r))) := (if_neg c2).trans ((if_neg es).trans (if_pos c4))
          exact ⟨_, _, by rw [e]; rfl, fun z => by rw [e] at z; exact absurd (show (2 : Nat) = 0 from z) (by decide), vr_fr_refl hf⟩
        · refine jv_Wp.lift (fun _ Kz => jv_Ev.steps jv_i286 3 (pc' := 87) (l' := [(7, .long (I 206 (76800 + r)).toInt64), (5, .long (L 211 5)), (4, .int (5 : Int32)), (3, .int (I 205 (76800 + r))), (0, .ref 196), (1, .int (vl_I r)), (2, .int (-1 : Int32))]) (st' := [.int (lg_cmp (L 211 5) (1073741824 : Int64))]) rfl Kz) ?_
          refine jv_Wp.cnd jv_i286 (pt := 94) (pe := 90) (p := (0 < (lg_cmp (L 211 5) (1073741824 : Int64)))) (q := ((1073741824 : Int64) < (L 211 5))) rfl jv_bi_gt rfl rfl (lg_cmp_gt (L 211 5) (1073741824 : Int64)) (fun h15 => ?_) (fun h15 => ?_)
          · refine jv_Wp.lift (fun _ Kz => jv_Ev.steps jv_i286 3 (pc' := 99) (l' := [(9, .int (0 : Int32)), (7, .long (I 206 (76800 + r)).toInt64), (5, .long (L 211 5)), (4, .int (5 : Int32)), (3, .int (I 205 (76800 + r))), (0, .ref 196), (1, .int (vl_I r)), (2, .int (-1 : Int32))]) (st' := [.int (0 : Int32)]) rfl Kz) ?_
            refine jv_Wp.lift (fun _ Kz => jv_Ev.br jv_i286 (pc' := 125) (st' := []) rfl (by rfl) Kz) ?_
            refine jv_Wp.lift (fun _ Kz => jv_Ev.steps jv_i286 5 (pc' := 136) (l' := [(10, .long (1073741824 : Int64)), (9, .int (0 : Int32)), (7, .long (I 206 (76800 + r)).toInt64), (5, .long (L 211 5)), (4, .int (5 : Int32)), (3, .int (I 205 (76800 + r))), (0, .ref 196), (1, .int (vl_I r)), (2, .int (-1 : Int32))]) (st' := [.int (lg_cmp (1073741824 : Int64) (-536870912 : Int64))]) rfl Kz) ?_
            refine jv_Wp.cnd jv_i286 (pt := 148) (pe := 139) (p := ((lg_cmp (1073741824 : Int64) (-536870912 : Int64)) < 0)) (q := ((1073741824 : Int64) < (-536870912 : Int64))) rfl jv_bi_lt rfl rfl (lg_cmp_lt (1073741824 : Int64) (-536870912 : Int64)) (fun hz => absurd hz (by decide)) (fun _ => ?_)
            refine jv_Wp.lift (fun _ Kz => jv_Ev.steps jv_i286 3 (pc' := 145) (l' := [(10, .long (1073741824 : Int64)), (9, .int (0 : Int32)), (7, .long (I 206 (76800 + r)).toInt64), (5, .long (L 211 5)), (4, .int (5 : Int32)), (3, .int (I 205 (76800 + r))), (0, .ref 196), (1, .int (vl_I r)), (2, .int (-1 : Int32))]) (st' := [.int (lg_cmp (1073741824 : Int64) (536870912 : Int64))]) rfl Kz) ?_
            refine jv_Wp.cnd jv_i286 (pt := 150) (pe := 148) (p := ((lg_cmp (1073741824 : Int64) (536870912 : Int64)) ≤ 0)) (q := ((1073741824 : Int64) ≤ (536870912 : Int64))) rfl jv_bi_le rfl rfl (lg_cmp_le (1073741824 : Int64) (536870912 : Int64)) (fun hz => absurd hz (by decide)) (fun _ => ?_)
            refine jv_Wp.lift (fun _ Kz => jv_Ev.steps jv_i286 1 (pc' := 149) (l' := [(10, .long (1073741824 : Int64)), (9, .int (0 : Int32)), (7, .long (I 206 (76800 + r)).toInt64), (5, .long (L 211 5)), (4, .int (5 : Int32)), (3, .int (I 205 (76800 + r))), (0, .ref 196), (1, .int (vl_I r)), (2, .int (-1 : Int32))]) (st' := [.int (2 : Int32)]) rfl Kz) ?_
            refine jv_Wp.of (jv_Ev.ret jv_i286 rfl rfl) ?_
            rw [hQ]
            have e5 : I 205 (76800 + r) = 3 := (Classical.not_not.mp h10)
            have bs : (vr_T I L (76800 + r)).sort = 3 := (vr_is 3 (by decide) ok).mpr e5
            have c2 : ¬ ((vr_T I L (76800 + r)).sort = 4 ∨ (vr_T I L (76800 + r)).sort = 7) := by omega
            have es : ¬ (vb_toS (vr_S L 5)).low ≠ (vb_toS (vr_S L 5)).high := fun z => z (of_decide_eq_true (vr_b_t h13))
            have xl : (vb_toS (vr_S L 5)).low.toInt = (L 211 5).toInt := rfl
            have dt : (vr_T I L (76800 + r)).det = (I 206 (76800 + r)).toInt := rfl
            have far := gg.1 (by omega)
            have vv : 1073741824 < (L 211 5).toInt := Int64.lt_iff_toInt_lt.mp h15
            have c4 : (vx_mvc f.n (vr_T I L (76800 + r)).det (vb_toS (vr_S L 5)).low.toInt) < -vx_far ∨ vx_far < (vx_mvc f.n (vr_T I L (76800 + r)).det (vb_toS (vr_S L 5)).low.toInt) := by
              rw [xl]; unfold vx_mvc vx_far; split <;> omega
            have e : (vx_mq f.n (vr_T I L (76800 + r)) (vb_toS (vr_S L 5))) = (2, (vr_T I L (76800 + r))) := (if_neg c2).trans ((if_neg es).trans (if_pos c4))
            exact ⟨_, _, by rw [e]; rfl, fun z => by rw [e] at z; exact absurd (show (2 : Nat) = 0 from z) (by decide), vr_fr_refl hf⟩
          · refine jv_Wp.lift (fun _ Kz => jv_Ev.steps jv_i286 4 (pc' := 99) (l' := [(9, .int (1 : Int32)), (7, .long (I 206 (76800 + r)).toInt64), (5, .long (L 211 5)), (4, .int (5 : Int32)), (3, .int (I 205 (76800 + r))), (0, .ref 196), (1, .int (vl_I r)), (2, .int (-1 : Int32))]) (st' := [.int (1 : Int32)]) rfl Kz) ?_
            refine jv_Wp.lift (fun _ Kz => jv_Ev.br jv_i286 (pc' := 102) (st' := []) rfl (by rfl) Kz) ?_
            refine jv_Wp.lift (fun _ Kz => jv_Ev.steps jv_i286 1 (pc' := 103) (l' := [(9, .int (1 : Int32)), (7, .long (I 206 (76800 + r)).toInt64), (5, .long (L 211 5)), (4, .int (5 : Int32)), (3, .int (I 205 (76800 + r))), (0, .ref 196), (1, .int (vl_I r)), (2, .int (-1 : Int32))]) (st' := [.ref 196]) rfl Kz) ?_
            refine jv_Wp.lift (fun _ Kz => jv_Ev.c jv_i286 (pc' := 106) (S' := [.int (vl_I f.n)]) jv_i258 [.ref 196] rfl rfl rfl rfl (jv_cal rfl (jv_H_at (jv_rwK hW 196 12 24 (by decide))) rfl rfl) rfl (vq_n f hW D) rfl rfl Kz) ?_
            refine jv_Wp.cnd jv_i286 (pt := 117) (pe := 109) (p := (¬ (vl_I f.n) = 0)) (q := (¬ (vl_I f.n) = 0)) rfl jv_bi_ne rfl rfl Iff.rfl (fun h16 => ?_) (fun h16 => ?_)
            · refine jv_Wp.lift (fun _ Kz => jv_Ev.steps jv_i286 8 (pc' := 136) (l' := [(10, .long ((I 206 (76800 + r)).toInt64 - (L 211 5))), (9, .int (1 : Int32)), (7, .long (I 206 (76800 + r)).toInt64), (5, .long (L 211 5)), (4, .int (5 : Int32)), (3, .int (I 205 (76800 + r))), (0, .ref 196), (1, .int (vl_I r)), (2, .int (-1 : Int32))]) (st' := [.int (lg_cmp ((I 206 (76800 + r)).toInt64 - (L 211 5)) (-536870912 : Int64))]) rfl Kz) ?_
              refine jv_Wp.cnd jv_i286 (pt := 148) (pe := 139) (p := ((lg_cmp ((I 206 (76800 + r)).toInt64 - (L 211 5)) (-536870912 : Int64)) < 0)) (q := (((I 206 (76800 + r)).toInt64 - (L 211 5)) < (-536870912 : Int64))) rfl jv_bi_lt rfl rfl (lg_cmp_lt ((I 206 (76800 + r)).toInt64 - (L 211 5)) (-536870912 : Int64)) (fun h17 => ?_) (fun h17 => ?_)
              · refine jv_Wp.lift (fun _ Kz => jv_Ev.steps jv_i286 1 (pc' := 149) (l' := [(10, .long ((I 206 (76800 + r)).toInt64 - (L 211 5))), (9, .int (1 : Int32)), (7, .long (I 206 (76800 + r)).toInt64), (5, .long (L 211 5)), (4, .int (5 : Int32)), (3, .int (I 205 (76800 + r))), (0, .ref 196), (1, .int (vl_I r)), (2, .int (-1 : Int32))]) (st' := [.int (2 : Int32)]) rfl Kz) ?_
                refine jv_Wp.of (jv_Ev.ret jv_i286 rfl rfl) ?_
                rw [hQ]
                have e5 : I 205 (76800 + r) = 3 := (Classical.not_not.mp h10)
                have bs : (vr_T I L (76800 + r)).sort = 3 := (vr_is 3 (by decide) ok).mpr e5
                have c2 : ¬ ((vr_T I L (76800 + r)).sort = 4 ∨ (vr_T I L (76800 + r)).sort = 7) := by omega
                have es : ¬ (vb_toS (vr_S L 5)).low ≠ (vb_toS (vr_S L 5)).high := fun z => z (of_decide_eq_true (vr_b_t h13))
                have xl : (vb_toS (vr_S L 5)).low.toInt = (L 211 5).toInt := rfl
                have dt : (vr_T I L (76800 + r)).det = (I 206 (76800 + r)).toInt := rfl
                have far := gg.1 (by omega)
                have n0 : ¬ f.n = 0 := fun z => h16 ((vr_sm (v := 0) (by omega) (by decide) rfl).mpr z)
                have W := vx_wrap (n := f.n) (I 206 (76800 + r)).toInt64 (L 211 5) (by rw [Int32.toInt_toInt64]; exact far) ((I 206 (76800 + r)).toInt64 - (L 211 5)) (if_neg n0).symm
                rw [Int32.toInt_toInt64, ← dt, ← xl] at W
                have e : (vx_mq f.n (vr_T I L (76800 + r)) (vb_toS (vr_S L 5))) = (2, (vr_T I L (76800 + r))) := (if_neg c2).trans ((if_neg es).trans (if_pos (W.1.mp (Or.inl (Int64.lt_iff_toInt_lt.mp h17)))))
                exact ⟨_, _, by rw [e]; rfl, fun z => by rw [e] at z; exact absurd (show (2 : Nat) = 0 from z) (by decide), vr_fr_refl hf⟩
              · refine jv_Wp.lift (fun _ Kz => jv_Ev.steps jv_i286 3 (pc' := 145) (l' := [(10, .long ((I 206 (76800 + r)).toInt64 - (L 211 5))), (9, .int (1 : Int32)), (7, .long (I 206 (76800 + r)).toInt64), (5, .long (L 211 5)), (4, .int (5 : Int32)), (3, .int (I 205 (76800 + r))), (0, .ref 196), (1, .int (vl_I r)), (2, .int (-1 : Int32))]) (st' := [.int (lg_cmp ((I 206 (76800 + r)).toInt64 - (L 211 5)) (536870912 : Int64))]) rfl Kz) ?_
                refine jv_Wp.cnd jv_i286 (pt := 150) (pe := 148) (p := ((lg_cmp ((I 206 (76800 + r)).toInt64 - (L 211 5)) (536870912 : Int64)) ≤ 0)) (q := (((I 206 (76800 + r)).toInt64 - (L 211 5)) ≤ (536870912 : Int64))) rfl jv_bi_le rfl rfl (lg_cmp_le ((I 206 (76800 + r)).toInt64 - (L 211 5)) (536870912 : Int64)) (fun h18 => ?_) (fun h18 => ?_)
                · refine jv_Wp.lift (fun _ Kz => jv_Ev.steps jv_i286 3 (pc' := 155) (l' := [(10, .long ((I 206 (76800 + r)).toInt64 - (L 211 5))), (9, .int (1 : Int32)), (7, .long (I 206 (76800 + r)).toInt64), (5, .long (L 211 5)), (4, .int (5 : Int32)), (3, .int (I 205 (76800 + r))), (0, .ref 196), (1, .int (vl_I r)), (2, .int (-1 : Int32))]) (st' := [.ref 196, .int (1024 : Int32), .ref 196]) rfl Kz) ?_
                  refine jv_Wp.lift (fun _ Kz => jv_Ev.m jv_i286 (pc' := 158) (st' := [.int (vl_I f.d), .int (1024 : Int32), .ref 196]) (G' := (jv_H K I L R)) rfl rfl (jv_m_getI (jv_rwK hW 196 12 24 (by decide)) rfl rfl D.2.1) Kz) ?_
                  refine jv_Wp.lift (fun _ Kz => jv_Ev.steps jv_i286 3 (pc' := 162) (l' := [(10, .long ((I 206 (76800 + r)).toInt64 - (L 211 5))), (9, .int (1 : Int32)), (7, .long (I 206 (76800 + r)).toInt64), (5, .long (L 211 5)), (4, .int (5 : Int32)), (3, .int (I 205 (76800 + r))), (0, .ref 196), (1, .int (vl_I r)), (2, .int (-1 : Int32))]) (st' := [.int ((I 206 (76800 + r)).toInt64 - (L 211 5)).toInt32, .int (I 205 (76800 + r)), .int (vl_I f.d), .int (1024 : Int32), .ref 196]) rfl Kz) ?_
                  obtain ⟨I13, L13, H13, A13, B13, C13, F13, eL13⟩ := vq_setx (I := I) (L := L) (R := R) (n := n) (sl := sl) 1024 f.d (I 205 (76800 + r)) ((I 206 (76800 + r)).toInt64 - (L 211 5)).toInt32 hW hf (by omega)
                  have Z13 := vr_fl_of F13
                  have D13 := vr_dec_n F13 D
                  refine jv_Wp.lift (fun _ Kz => jv_Ev.c jv_i286 (pc' := 165) (S' := []) (G1 := (jv_H K I13 L13 R)) jv_i272 [.ref 196, .int (1024 : Int32), .int (vl_I f.d), .int (I 205 (76800 + r)), .int ((I 206 (76800 + r)).toInt64 - (L 211 5)).toInt32] rfl rfl rfl rfl (jv_cal rfl (jv_H_at (jv_rwK hW 196 12 24 (by decide))) rfl rfl) rfl H13 rfl rfl Kz) ?_
                  refine jv_Wp.lift (fun _ Kz => jv_Ev.steps jv_i286 1 (pc' := 166) (l' := [(10, .long ((I 206 (76800 + r)).toInt64 - (L 211 5))), (9, .int (1 : Int32)), (7, .long (I 206 (76800 + r)).toInt64), (5, .long (L 211 5)), (4, .int (5 : Int32)), (3, .int (I 205 (76800 + r))), (0, .ref 196), (1, .int (vl_I r)), (2, .int (-1 : Int32))]) (st' := [.int (0 : Int32)]) rfl Kz) ?_
                  refine jv_Wp.of (jv_Ev.ret jv_i286 rfl rfl) ?_
                  rw [hQ]
                  have e5 : I 205 (76800 + r) = 3 := (Classical.not_not.mp h10)
                  have bs : (vr_T I L (76800 + r)).sort = 3 := (vr_is 3 (by decide) ok).mpr e5
                  have c2 : ¬ ((vr_T I L (76800 + r)).sort = 4 ∨ (vr_T I L (76800 + r)).sort = 7) := by omega
                  have es : ¬ (vb_toS (vr_S L 5)).low ≠ (vb_toS (vr_S L 5)).high := fun z => z (of_decide_eq_true (vr_b_t h13))
                  have xl : (vb_toS (vr_S L 5)).low.toInt = (L 211 5).toInt := rfl
                  have dt : (vr_T I L (76800 + r)).det = (I 206 (76800 + r)).toInt := rfl
                  have far := gg.1 (by omega)
                  have n0 : ¬ f.n = 0 := fun z => h16 ((vr_sm (v := 0) (by omega) (by decide) rfl).mpr z)
                  have W := vx_wrap (n := f.n) (I 206 (76800 + r)).toInt64 (L 211 5) (by rw [Int32.toInt_toInt64]; exact far) ((I 206 (76800 + r)).toInt64 - (L 211 5)) (if_neg n0).symm
                  rw [Int32.toInt_toInt64, ← dt, ← xl] at W
                  have c4 : ¬ ((vx_mvc f.n (vr_T I L (76800 + r)).det (vb_toS (vr_S L 5)).low.toInt) < -vx_far ∨ vx_far < (vx_mvc f.n (vr_T I L (76800 + r)).det (vb_toS (vr_S L 5)).low.toInt)) := fun z => (W.1.mpr z).elim (fun z => h17 (Int64.lt_iff_toInt_lt.mpr z)) (fun z => Int.not_le.mpr z (Int64.le_iff_toInt_le.mp h18))
                  have e : (vx_mq f.n (vr_T I L (76800 + r)) (vb_toS (vr_S L 5))) = (0, ((vr_T I L (76800 + r)).sort, (vx_mvc f.n (vr_T I L (76800 + r)).det (vb_toS (vr_S L 5)).low.toInt), -1, vb_any)) := (if_neg c2).trans ((if_neg es).trans (if_neg c4))
                  have e32 : (((I 206 (76800 + r)).toInt64 - (L 211 5)).toInt32).toInt = (vx_mvc f.n (vr_T I L (76800 + r)).det (vb_toS (vr_S L 5)).low.toInt) := by
                    rw [Int64.toInt_toInt32, W.2 c4]; unfold vx_far at c4; generalize (vx_mvc f.n (vr_T I L (76800 + r)).det (vb_toS (vr_S L 5)).low.toInt) = y at c4; rw [Int.bmod_def]; split <;> omega
                  refine ⟨_, _, by rw [e]; rfl, fun _ => ⟨?_, ?_⟩, F13⟩
                  · rw [vr_T_set A13 B13 C13, e, bs, ← e32, e5]; rfl
                  · unfold vr_ok; rw [A13, B13, C13, e5]; exact Or.inr (Or.inr (Or.inr (Or.inl ⟨Or.inr (Or.inl rfl), rfl⟩)))
                · refine jv_Wp.lift (fun _ Kz => jv_Ev.steps jv_i286 1 (pc' := 149) (l' := [(10, .long ((I 206 (76800 + r)).toInt64 - (L 211 5))), (9, .int (1 : Int32)), (7, .long (I 206 (76800 + r)).toInt64), (5, .long (L 211 5)), (4, .int (5 : Int32)), (3, .int (I 205 (76800 + r))), (0, .ref 196), (1, .int (vl_I r)), (2, .int (-1 : Int32))]) (st' := [.int (2 : Int32)]) rfl Kz) ?_
                  refine jv_Wp.of (jv_Ev.ret jv_i286 rfl rfl) ?_
                  rw [hQ]
                  have e5 : I 205 (76800 + r) = 3 := (Classical.not_not.mp h10)
                  have bs : (vr_T I L (76800 + r)).sort = 3 := (vr_is 3 (by decide) ok).mpr e5
                  have c2 : ¬ ((vr_T I L (76800 + r)).sort = 4 ∨ (vr_T I L (76800 + r)).sort = 7) := by omega
                  have es : ¬ (vb_toS (vr_S L 5)).low ≠ (vb_toS (vr_S L 5)).high := fun z => z (of_decide_eq_true (vr_b_t h13))
                  have xl : (vb_toS (vr_S L 5)).low.toInt = (L 211 5).toInt := rfl
                  have dt : (vr_T I L (76800 + r)).det = (I 206 (76800 + r)).toInt := rfl
                  have far := gg.1 (by omega)
                  have n0 : ¬ f.n = 0 := fun z => h16 ((vr_sm (v := 0) (by omega) (by decide) rfl).mpr z)
                  have W := vx_wrap (n := f.n) (I 206 (76800 + r)).toInt64 (L 211 5) (by rw [Int32.toInt_toInt64]; exact far) ((I 206 (76800 + r)).toInt64 - (L 211 5)) (if_neg n0).symm
                  rw [Int32.toInt_toInt64, ← dt, ← xl] at W
                  have e : (vx_mq f.n (vr_T I L (76800 + r)) (vb_toS (vr_S L 5))) = (2, (vr_T I L (76800 + r))) := (if_neg c2).trans ((if_neg es).trans (if_pos (W.1.mp (Or.inr (Int.not_le.mp ((not_congr Int64.le_iff_toInt_le).mp h18))))))
                  exact ⟨_, _, by rw [e]; rfl, fun z => by rw [e] at z; exact absurd (show (2 : Nat) = 0 from z) (by decide), vr_fr_refl hf⟩
            · refine jv_Wp.lift (fun _ Kz => jv_Ev.steps jv_i286 8 (pc' := 136) (l' := [(10, .long ((I 206 (76800 + r)).toInt64 + (L 211 5))), (9, .int (1 : Int32)), (7, .long (I 206 (76800 + r)).toInt64), (5, .long (L 211 5)), (4, .int (5 : Int32)), (3, .int (I 205 (76800 + r))), (0, .ref 196), (1, .int (vl_I r)), (2, .int (-1 : Int32))]) (st' := [.int (lg_cmp ((I 206 (76800 + r)).toInt64 + (L 211 5)) (-536870912 : Int64))]) rfl Kz) ?_
              refine jv_Wp.cnd jv_i286 (pt := 148) (pe := 139) (p := ((lg_cmp ((I 206 (76800 + r)).toInt64 + (L 211 5)) (-536870912 : Int64)) < 0)) (q := (((I 206 (76800 + r)).toInt64 + (L 211 5)) < (-536870912 : Int64))) rfl jv_bi_lt rfl rfl (lg_cmp_lt ((I 206 (76800 + r)).toInt64 + (L 211 5)) (-536870912 : Int64)) (fun h19 => ?_) (fun h19 => ?_)
              · refine jv_Wp.lift (fun _ Kz => jv_Ev.steps jv_i286 1 (pc' := 149) (l' := [(10, .long ((I 206 (76800 + r)).toInt64 + (L 211 5))), (9, .int (1 : Int32)), (7, .long (I 206 (76800 + r)).toInt64), (5, .long (L 211 5)), (4, .int (5 : Int32)), (3, .int (I 205 (76800 + r))), (0, .ref 196), (1, .int (vl_I r)), (2, .int (-1 : Int32))]) (st' := [.int (2 : Int32)]) rfl Kz) ?_
                refine jv_Wp.of (jv_Ev.ret jv_i286 rfl rfl) ?_
                rw [hQ]
                have e5 : I 205 (76800 + r) = 3 := (Classical.not_not.mp h10)
                have bs : (vr_T I L (76800 + r)).sort = 3 := (vr_is 3 (by decide) ok).mpr e5
                have c2 : ¬ ((vr_T I L (76800 + r)).sort = 4 ∨ (vr_T I L (76800 + r)).sort = 7) := by omega
                have es : ¬ (vb_toS (vr_S L 5)).low ≠ (vb_toS (vr_S L 5)).high := fun z => z (of_decide_eq_true (vr_b_t h13))
                have xl : (vb_toS (vr_S L 5)).low.toInt = (L 211 5).toInt := rfl
                have dt : (vr_T I L (76800 + r)).det = (I 206 (76800 + r)).toInt := rfl
                have far := gg.1 (by omega)
                have n0 : f.n = 0 := (vr_sm (v := 0) (by omega) (by decide) rfl).mp (Classical.not_not.mp h16)
                have W := vx_wrap (n := f.n) (I 206 (76800 + r)).toInt64 (L 211 5) (by rw [Int32.toInt_toInt64]; exact far) ((I 206 (76800 + r)).toInt64 + (L 211 5)) (if_pos n0).symm
                rw [Int32.toInt_toInt64, ← dt, ← xl] at W
                have e : (vx_mq f.n (vr_T I L (76800 + r)) (vb_toS (vr_S L 5))) = (2, (vr_T I L (76800 + r))) := (if_neg c2).trans ((if_neg es).trans (if_pos (W.1.mp (Or.inl (Int64.lt_iff_toInt_lt.mp h19)))))
                exact ⟨_, _, by rw [e]; rfl, fun z => by rw [e] at z; exact absurd (show (2 : Nat) = 0 from z) (by decide), vr_fr_refl hf⟩
              · refine jv_Wp.lift (fun _ Kz => jv_Ev.steps jv_i286 3 (pc' := 145) (l' := [(10, .long ((I 206 (76800 + r)).toInt64 + (L 211 5))), (9, .int (1 : Int32)), (7, .long (I 206 (76800 + r)).toInt64), (5, .long (L 211 5)), (4, .int (5 : Int32)), (3, .int (I 205 (76800 + r))), (0, .ref 196), (1, .int (vl_I r)), (2, .int (-1 : Int32))]) (st' := [.int (lg_cmp ((I 206 (76800 + r)).toInt64 + (L 211 5)) (536870912 : Int64))]) rfl Kz) ?_
                refine jv_Wp.cnd jv_i286 (pt := 150) (pe := 148) (p := ((lg_cmp ((I 206 (76800 + r)).toInt64 + (L 211 5)) (536870912 : Int64)) ≤ 0)) (q := (((I 206 (76800 + r)).toInt64 + (L 211 5)) ≤ (536870912 : Int64))) rfl jv_bi_le rfl rfl (lg_cmp_le ((I 206 (76800 + r)).toInt64 + (L 211 5)) (536870912 : Int64)) (fun h20 => ?_) (fun h20 => ?_)
                · refine jv_Wp.lift (fun _ Kz => jv_Ev.steps jv_i286 3 (pc' := 155) (l' := [(10, .long ((I 206 (76800 + r)).toInt64 + (L 211 5))), (9, .int (1 : Int32)), (7, .long (I 206 (76800 + r)).toInt64), (5, .long (L 211 5)), (4, .int (5 : Int32)), (3, .int (I 205 (76800 + r))), (0, .ref 196), (1, .int (vl_I r)), (2, .int (-1 : Int32))]) (st' := [.ref 196, .int (1024 : Int32), .ref 196]) rfl Kz) ?_
                  refine jv_Wp.lift (fun _ Kz => jv_Ev.m jv_i286 (pc' := 158) (st' := [.int (vl_I f.d), .int (1024 : Int32), .ref 196]) (G' := (jv_H K I L R)) rfl rfl (jv_m_getI (jv_rwK hW 196 12 24 (by decide)) rfl rfl D.2.1) Kz) ?_
                  refine jv_Wp.lift (fun _ Kz => jv_Ev.steps jv_i286 3 (pc' := 162) (l' := [(10, .long ((I 206 (76800 + r)).toInt64 + (L 211 5))), (9, .int (1 : Int32)), (7, .long (I 206 (76800 + r)).toInt64), (5, .long (L 211 5)), (4, .int (5 : Int32)), (3, .int (I 205 (76800 + r))), (0, .ref 196), (1, .int (vl_I r)), (2, .int (-1 : Int32))]) (st' := [.int ((I 206 (76800 + r)).toInt64 + (L 211 5)).toInt32, .int (I 205 (76800 + r)), .int (vl_I f.d), .int (1024 : Int32), .ref 196]) rfl Kz) ?_
                  obtain ⟨I14, L14, H14, A14, B14, C14, F14, eL14⟩ := vq_setx (I := I) (L := L) (R := R) (n := n) (sl := sl) 1024 f.d (I 205 (76800 + r)) ((I 206 (76800 + r)).toInt64 + (L 211 5)).toInt32 hW hf (by omega)
                  have Z14 := vr_fl_of F14
                  have D14 := vr_dec_n F14 D
                  refine jv_Wp.lift (fun _ Kz => jv_Ev.c jv_i286 (pc' := 165) (S' := []) (G1 := (jv_H K I14 L14 R)) jv_i272 [.ref 196, .int (1024 : Int32), .int (vl_I f.d), .int (I 205 (76800 + r)), .int ((I 206 (76800 + r)).toInt64 + (L 211 5)).toInt32] rfl rfl rfl rfl (jv_cal rfl (jv_H_at (jv_rwK hW 196 12 24 (by decide))) rfl rfl) rfl H14 rfl rfl Kz) ?_
                  refine jv_Wp.lift (fun _ Kz => jv_Ev.steps jv_i286 1 (pc' := 166) (l' := [(10, .long ((I 206 (76800 + r)).toInt64 + (L 211 5))), (9, .int (1 : Int32)), (7, .long (I 206 (76800 + r)).toInt64), (5, .long (L 211 5)), (4, .int (5 : Int32)), (3, .int (I 205 (76800 + r))), (0, .ref 196), (1, .int (vl_I r)), (2, .int (-1 : Int32))]) (st' := [.int (0 : Int32)]) rfl Kz) ?_
                  refine jv_Wp.of (jv_Ev.ret jv_i286 rfl rfl) ?_
                  rw [hQ]
                  have e5 : I 205 (76800 + r) = 3 := (Classical.not_not.mp h10)
                  have bs : (vr_T I L (76800 + r)).sort = 3 := (vr_is 3 (by decide) ok).mpr e5
                  have c2 : ¬ ((vr_T I L (76800 + r)).sort = 4 ∨ (vr_T I L (76800 + r)).sort = 7) := by omega
                  have es : ¬ (vb_toS (vr_S L 5)).low ≠ (vb_toS (vr_S L 5)).high := fun z => z (of_decide_eq_true (vr_b_t h13))
                  have xl : (vb_toS (vr_S L 5)).low.toInt = (L 211 5).toInt := rfl
                  have dt : (vr_T I L (76800 + r)).det = (I 206 (76800 + r)).toInt := rfl
                  have far := gg.1 (by omega)
                  have n0 : f.n = 0 := (vr_sm (v := 0) (by omega) (by decide) rfl).mp (Classical.not_not.mp h16)
                  have W := vx_wrap (n := f.n) (I 206 (76800 + r)).toInt64 (L 211 5) (by rw [Int32.toInt_toInt64]; exact far) ((I 206 (76800 + r)).toInt64 + (L 211 5)) (if_pos n0).symm
                  rw [Int32.toInt_toInt64, ← dt, ← xl] at W
                  have c4 : ¬ ((vx_mvc f.n (vr_T I L (76800 + r)).det (vb_toS (vr_S L 5)).low.toInt) < -vx_far ∨ vx_far < (vx_mvc f.n (vr_T I L (76800 + r)).det (vb_toS (vr_S L 5)).low.toInt)) := fun z => (W.1.mpr z).elim (fun z => h19 (Int64.lt_iff_toInt_lt.mpr z)) (fun z => Int.not_le.mpr z (Int64.le_iff_toInt_le.mp h20))
                  have e : (vx_mq f.n (vr_T I L (76800 + r)) (vb_toS (vr_S L 5))) = (0, ((vr_T I L (76800 + r)).sort, (vx_mvc f.n (vr_T I L (76800 + r)).det (vb_toS (vr_S L 5)).low.toInt), -1, vb_any)) := (if_neg c2).trans ((if_neg es).trans (if_neg c4))
                  have e32 : (((I 206 (76800 + r)).toInt64 + (L 211 5)).toInt32).toInt = (vx_mvc f.n (vr_T I L (76800 + r)).det (vb_toS (vr_S L 5)).low.toInt) := by
                    rw [Int64.toInt_toInt32, W.2 c4]; unfold vx_far at c4; generalize (vx_mvc f.n (vr_T I L (76800 + r)).det (vb_toS (vr_S L 5)).low.toInt) = y at c4; rw [Int.bmod_def]; split <;> omega
                  refine ⟨_, _, by rw [e]; rfl, fun _ => ⟨?_, ?_⟩, F14⟩
                  · rw [vr_T_set A14 B14 C14, e, bs, ← e32, e5]; rfl
                  · unfold vr_ok; rw [A14, B14, C14, e5]; exact Or.inr (Or.inr (Or.inr (Or.inl ⟨Or.inr (Or.inl rfl), rfl⟩)))
                · refine jv_Wp.lift (fun _ Kz => jv_Ev.steps jv_i286 1 (pc' := 149) (l' := [(10, .long ((I 206 (76800 + r)).toInt64 + (L 211 5))), (9, .int (1 : Int32)), (7, .long (I 206 (76800 + r)).toInt64), (5, .long (L 211 5)), (4, .int (5 : Int32)), (3, .int (I 205 (76800 + r))), (0, .ref 196), (1, .int (vl_I r)), (2, .int (-1 : Int32))]) (st' := [.int (2 : Int32)]) rfl Kz) ?_
                  refine jv_Wp.of (jv_Ev.ret jv_i286 rfl rfl) ?_
                  rw [hQ]
                  have e5 : I 205 (76800 + r) = 3 := (Classical.not_not.mp h10)
                  have bs : (vr_T I L (76800 + r)).sort = 3 := (vr_is 3 (by decide) ok).mpr e5
                  have c2 : ¬ ((vr_T I L (76800 + r)).sort = 4 ∨ (vr_T I L (76800 + r)).sort = 7) := by omega
                  have es : ¬ (vb_toS (vr_S L 5)).low ≠ (vb_toS (vr_S L 5)).high := fun z => z (of_decide_eq_true (vr_b_t h13))
                  have xl : (vb_toS (vr_S L 5)).low.toInt = (L 211 5).toInt := rfl
                  have dt : (vr_T I L (76800 + r)).det = (I 206 (76800 + r)).toInt := rfl
                  have far := gg.1 (by omega)
                  have n0 : f.n = 0 := (vr_sm (v := 0) (by omega) (by decide) rfl).mp (Classical.not_not.mp h16)
                  have W := vx_wrap (n := f.n) (I 206 (76800 + r)).toInt64 (L 211 5) (by rw [Int32.toInt_toInt64]; exact far) ((I 206 (76800 + r)).toInt64 + (L 211 5)) (if_pos n0).symm
                  rw [Int32.toInt_toInt64, ← dt, ← xl] at W
                  have e : (vx_mq f.n (vr_T I L (76800 + r)) (vb_toS (vr_S L 5))) = (2, (vr_T I L (76800 + r))) := (if_neg c2).trans ((if_neg es).trans (if_pos (W.1.mp (Or.inr (Int.not_le.mp ((not_congr Int64.le_iff_toInt_le).mp h20))))))
                  exact ⟨_, _, by rw [e]; rfl, fun z => by rw [e] at z; exact absurd (show (2 : Nat) = 0 from z) (by decide), vr_fr_refl hf⟩