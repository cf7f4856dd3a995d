/-! part c06: things and states of the reference meet (gen/tc06.py) -/
theorem vr_srt_inj {I : Nat → Nat → Int32} {L : Nat → Nat → Int64} {x y n : Nat} (h : vr_ok I x n) (h' : vr_ok I y n) (ne : (vr_T I L x).sort ≠ 0) (e : (vr_T I L x).sort = (vr_T I L y).sort) : I 205 x = I 205 y := by
  have c : I 205 x ≠ 9 := fun z => ne ((vr_is0 h).mpr (Or.inr z))
  have c' : I 205 y ≠ 9 := fun z => ne (e.trans ((vr_is0 h').mpr (Or.inr z)))
  have b := vr_srt h
  have b' := vr_srt h'
  have e : (if I 205 x = 9 then 0 else (I 205 x).toInt.toNat) = (if I 205 y = 9 then 0 else (I 205 y).toInt.toNat) := e
  rw [if_neg c, if_neg c'] at e
  exact Int32.toInt_inj.mp (by omega)
theorem vt_meet_same {w : Bool} {t u : vt_T} (h : t.sort ≠ 0) (h1 : t.sort = u.sort) (h2 : t.det = u.det) (h3 : t.org = u.org) (hv : ¬ vt_has t.sort = true) : vt_meet w t u = t := (if_pos ⟨h, h1, h2, h3⟩).trans (if_neg hv)
theorem vt_meet_val {w : Bool} {t u : vt_T} (h : t.sort ≠ 0) (h1 : t.sort = u.sort) (h2 : t.det = u.det) (h3 : t.org = u.org) (hv : vt_has t.sort = true) : vt_meet w t u = (t.sort, t.det, t.org, vb_meet w t.val u.val) := (if_pos ⟨h, h1, h2, h3⟩).trans (if_pos hv)
theorem vt_meet_no {w : Bool} {t u : vt_T} (h : ¬ (t.sort ≠ 0 ∧ t.sort = u.sort ∧ t.det = u.det ∧ t.org = u.org)) : vt_meet w t u = vt_none (vt_wr t &&& vt_wr u) := if_neg h
theorem vr_srt_eq {I : Nat → Nat → Int32} {L : Nat → Nat → Int64} {x y : Nat} (h : I 205 x = I 205 y) : (vr_T I L x).sort = (vr_T I L y).sort := by
  show (if I 205 x = 9 then 0 else (I 205 x).toInt.toNat) = (if I 205 y = 9 then 0 else (I 205 y).toInt.toNat)
  rw [h]
theorem vr_D_v {s d o : Int32} {v : vb_S} (h : vc_hv s = true) : vr_D s d o v = ((if s = 9 then 0 else s.toInt.toNat), d.toInt, o.toInt, v) := by unfold vr_D; rw [if_pos h]
theorem vr_D_bytes (k : Nat) (hk : k < 256) (v : vb_S) : vr_D 9 (vl_I k) (-1) v = vt_none k := by
  have e : (vl_I k).toInt = (k : Int) := vl_I_int (by omega)
  rw [vr_D9, e]; rfl
theorem vt_meet_wr0 {I : Nat → Nat → Int32} {L : Nat → Nat → Int64} {x y n : Nat} (hn : n < 11) (h : vr_ok I x n) (h' : vr_ok I y n) (ne : ¬ ((vr_T I L x).sort ≠ 0 ∧ (vr_T I L x).sort = (vr_T I L y).sort ∧ (vr_T I L x).det = (vr_T I L y).det ∧ (vr_T I L x).org = (vr_T I L y).org)) : vt_wr (vr_T I L x) &&& vt_wr (vr_T I L y) = 0 := by
  have z : ∀ t, vr_ok I t n → ¬ (vr_T I L t).sort = 1 → vt_wr (vr_T I L t) = 0 := fun t ht n1 => by
    unfold vt_wr
    by_cases s0 : (vr_T I L t).sort = 0
    · rw [if_pos s0]
      have z := (vr_isN ht hn).mp s0
      show (I 206 t).toInt.toNat = 0
      rw [(vr_ok0 ht z).2.1]; rfl
    · rw [if_neg s0, if_neg n1]
  by_cases a : (vr_T I L x).sort = 1
  · by_cases b : (vr_T I L y).sort = 1
    · have ax := vr_okv h (Or.inl ((vr_is 1 (by decide) h).mp a))
      have ay := vr_okv h' (Or.inl ((vr_is 1 (by decide) h').mp b))
      exact absurd ⟨by omega, by omega, by show (I 206 x).toInt = (I 206 y).toInt; rw [ax.1, ay.1], by show (I 207 x).toInt = (I 207 y).toInt; rw [ax.2, ay.2]⟩ ne
    · rw [z y h' b, Nat.and_zero]
  · rw [z x h a, Nat.zero_and]
theorem jv_i280 : jv_I 280 9 none 7 206 jv_c280 := ⟨rfl, rfl, rfl, rfl, rfl⟩
theorem vq_rmeetS {K : Nat → Option (Nat × Nat)} {I : Nat → Nat → Int32} {L : Nat → Nat → Int64} {R : Nat → Nat → Value} (a m b : Nat) (w : Bool) (hW : jv_rW K R) (hf : vr_fl I) (ha : a < 1026) (hb : b < 1028) (hb2 : b ≠ 1026) (hm75 : m < 75) (hm : 11 ≤ m) (okx : vr_ok I (75 * a + m) m) (oky : vr_ok I (75 * b + m) m) (tx : vt_ok (vr_T I L (75 * a + m))) (ty : vt_ok (vr_T I L (75 * b + m))) {n sl : Nat} : ∃ I1 L1, jv_Ms 280 [.ref 196, .int (vl_I a), .int (vl_I m), .int (vl_I b), .int (vr_b w)] (jv_H K I L R) n sl (none, jv_H K I1 L1 R, n, sl) ∧ vr_T I1 L1 (76950 + m) = vt_meet w (vr_T I L (75 * a + m)) (vr_T I L (75 * b + m)) ∧ vr_ok I1 (76950 + m) m ∧ vr_fr (fun x => x = 76950 + m) noE I L I1 L1 := by
  obtain ⟨Q, hQ⟩ : ∃ Q : jv_R → Prop, Q = fun X => ∃ I1 L1, X = (none, jv_H K I1 L1 R, n, sl) ∧ vr_T I1 L1 (76950 + m) = vt_meet w (vr_T I L (75 * a + m)) (vr_T I L (75 * b + m)) ∧ vr_ok I1 (76950 + m) m ∧ vr_fr (fun x => x = 76950 + m) noE I L I1 L1 := ⟨_, rfl⟩
  suffices h : jv_Wp 280 0 [(0, .ref 196), (1, .int (vl_I a)), (2, .int (vl_I m)), (3, .int (vl_I b)), (4, .int (vr_b w))] [] (jv_H K I L R) n sl Q by
    rw [hQ] at h
    obtain ⟨X, h, I1, L1, e, h'⟩ := h
    subst e
    exact ⟨I1, L1, h, h'⟩
  refine jv_Wp.lift (fun _ Kz => jv_Ev.steps jv_i280 2 (pc' := 2) (l' := [(0, .ref 196), (1, .int (vl_I a)), (2, .int (vl_I m)), (3, .int (vl_I b)), (4, .int (vr_b w))]) (st' := [.int (vl_I m), .int (vl_I a)]) rfl Kz) ?_
  refine jv_Wp.lift (fun _ Kz => jv_Ev.c jv_i280 (pc' := 5) (S' := [.int (vl_I (75 * a + m))]) jv_i253 [.int (vl_I a), .int (vl_I m)] rfl rfl rfl rfl rfl rfl (vq_thing a m) rfl rfl Kz) ?_
  refine jv_Wp.lift (fun _ Kz => jv_Ev.steps jv_i280 3 (pc' := 9) (l' := [(5, .int (vl_I (75 * a + m))), (0, .ref 196), (1, .int (vl_I a)), (2, .int (vl_I m)), (3, .int (vl_I b)), (4, .int (vr_b w))]) (st' := [.int (vl_I m), .int (vl_I b)]) rfl Kz) ?_
  refine jv_Wp.lift (fun _ Kz => jv_Ev.c jv_i280 (pc' := 12) (S' := [.int (vl_I (75 * b + m))]) jv_i253 [.int (vl_I b), .int (vl_I m)] rfl rfl rfl rfl rfl rfl (vq_thing b m) rfl rfl Kz) ?_
  refine jv_Wp.lift (fun _ Kz => jv_Ev.steps jv_i280 3 (pc' := 17) (l' := [(6, .int (vl_I (75 * b + m))), (5, .int (vl_I (75 * a + m))), (0, .ref 196), (1, .int (vl_I a)), (2, .int (vl_I m)), (3, .int (vl_I b)), (4, .int (vr_b w))]) (st' := [.int (11 : Int32), .int (vl_I m)]) rfl Kz) ?_
  refine jv_Wp.cnd jv_i280 (pt := 24) (pe := 20) (p := ((vl_I m) < (11 : Int32))) (q := ((vl_I m) < (11 : Int32))) rfl jv_bc_lt rfl rfl Iff.rfl (fun hz => absurd hz (fun z => absurd ((vl_I_lt (b := 11) (by omega) (by decide)).mp z) (by omega))) (fun _ => ?_)
  refine jv_Wp.lift (fun _ Kz => jv_Ev.steps jv_i280 4 (pc' := 28) (l' := [(7, .int (1 : Int32)), (6, .int (vl_I (75 * b + m))), (5, .int (vl_I (75 * a + m))), (0, .ref 196), (1, .int (vl_I a)), (2, .int (vl_I m)), (3, .int (vl_I b)), (4, .int (vr_b w))]) (st' := [.ref 196]) rfl Kz) ?_
  refine jv_Wp.lift (fun _ Kz => jv_Ev.m jv_i280 (pc' := 31) (st' := [.ref 205]) (G' := (jv_H K I L R)) rfl rfl (jv_m_getR (jv_rwK hW 196 12 24 (by decide)) rfl rfl (jv_rwR hW 196 13 205 (by decide))) Kz) ?_
  refine jv_Wp.lift (fun _ Kz => jv_Ev.steps jv_i280 1 (pc' := 33) (l' := [(7, .int (1 : Int32)), (6, .int (vl_I (75 * b + m))), (5, .int (vl_I (75 * a + m))), (0, .ref 196), (1, .int (vl_I a)), (2, .int (vl_I m)), (3, .int (vl_I b)), (4, .int (vr_b w))]) (st' := [.int (vl_I (75 * a + m)), .ref 205]) rfl Kz) ?_
  refine jv_Wp.lift (fun _ Kz => jv_Ev.m jv_i280 (pc' := 34) (st' := [.int (I 205 (75 * a + m))]) (G' := (jv_H K I L R)) rfl rfl (jv_m_ialdv (jv_rwK hW 205 102 77100 (by decide)) rfl (vl_I_ix (by omega) (by decide)) rfl ((congrArg (I 205) (vl_I_nat (by omega))).trans rfl)) Kz) ?_
  refine jv_Wp.lift (fun _ Kz => jv_Ev.steps jv_i280 1 (pc' := 35) (l' := [(7, .int (1 : Int32)), (6, .int (vl_I (75 * b + m))), (5, .int (vl_I (75 * a + m))), (0, .ref 196), (1, .int (vl_I a)), (2, .int (vl_I m)), (3, .int (vl_I b)), (4, .int (vr_b w))]) (st' := [.ref 196, .int (I 205 (75 * a + m))]) rfl Kz) ?_
  refine jv_Wp.lift (fun _ Kz => jv_Ev.m jv_i280 (pc' := 38) (st' := [.ref 205, .int (I 205 (75 * a + m))]) (G' := (jv_H K I L R)) rfl rfl (jv_m_getR (jv_rwK hW 196 12 24 (by decide)) rfl rfl (jv_rwR hW 196 13 205 (by decide))) Kz) ?_
  refine jv_Wp.lift (fun _ Kz => jv_Ev.steps jv_i280 1 (pc' := 40) (l' := [(7, .int (1 : Int32)), (6, .int (vl_I (75 * b + m))), (5, .int (vl_I (75 * a + m))), (0, .ref 196), (1, .int (vl_I a)), (2, .int (vl_I m)), (3, .int (vl_I b)), (4, .int (vr_b w))]) (st' := [.int (vl_I (75 * b + m)), .ref 205, .int (I 205 (75 * a + m))]) rfl Kz) ?_
  refine jv_Wp.lift (fun _ Kz => jv_Ev.m jv_i280 (pc' := 41) (st' := [.int (I 205 (75 * b + m)), .int (I 205 (75 * a + m))]) (G' := (jv_H K I L R)) rfl rfl (jv_m_ialdv (jv_rwK hW 205 102 77100 (by decide)) rfl (vl_I_ix (by omega) (by decide)) rfl ((congrArg (I 205) (vl_I_nat (by omega))).trans rfl)) Kz) ?_
  refine jv_Wp.cnd jv_i280 (pt := 94) (pe := 44) (p := (¬ (I 205 (75 * a + m)) = (I 205 (75 * b + m)))) (q := (¬ (I 205 (75 * a + m)) = (I 205 (75 * b + m)))) rfl jv_bc_ne rfl rfl Iff.rfl (fun h1 => ?_) (fun h1 => ?_)
  · refine jv_Wp.lift (fun _ Kz => jv_Ev.steps jv_i280 3 (pc' := 99) (l' := [(8, .int (0 : Int32)), (7, .int (1 : Int32)), (6, .int (vl_I (75 * b + m))), (5, .int (vl_I (75 * a + m))), (0, .ref 196), (1, .int (vl_I a)), (2, .int (vl_I m)), (3, .int (vl_I b)), (4, .int (vr_b w))]) (st' := [.int (0 : Int32)]) rfl Kz) ?_
    refine jv_Wp.lift (fun _ Kz => jv_Ev.br jv_i280 (pc' := 162) (st' := []) rfl (by rfl) Kz) ?_
    refine jv_Wp.lift (fun _ Kz => jv_Ev.steps jv_i280 1 (pc' := 164) (l' := [(8, .int (0 : Int32)), (7, .int (1 : Int32)), (6, .int (vl_I (75 * b + m))), (5, .int (vl_I (75 * a + m))), (0, .ref 196), (1, .int (vl_I a)), (2, .int (vl_I m)), (3, .int (vl_I b)), (4, .int (vr_b w))]) (st' := [.int (1 : Int32)]) rfl Kz) ?_
    refine jv_Wp.lift (fun _ Kz => jv_Ev.br jv_i280 (pc' := 167) (st' := []) rfl (by rfl) Kz) ?_
    refine jv_Wp.lift (fun _ Kz => jv_Ev.steps jv_i280 7 (pc' := 177) (l' := [(8, .int (0 : Int32)), (7, .int (1 : Int32)), (6, .int (vl_I (75 * b + m))), (5, .int (vl_I (75 * a + m))), (0, .ref 196), (1, .int (vl_I a)), (2, .int (vl_I m)), (3, .int (vl_I b)), (4, .int (vr_b w))]) (st' := [.int (vl_I m), .int (vl_I a), .ref 196, .int (9 : Int32), .int (vl_I m), .int (1026 : Int32), .ref 196]) rfl Kz) ?_
    obtain ⟨I1, L1, H1, ei1, el1⟩ := vq_written (I := I) (L := L) (R := R) (n := n) (sl := sl) a m hW (by omega) okx
    rw [ei1, el1] at H1
    refine jv_Wp.lift (fun _ Kz => jv_Ev.c jv_i280 (pc' := 180) (S' := [.int (vl_I (vt_wr (vr_T I L (75 * a + m)))), .int (9 : Int32), .int (vl_I m), .int (1026 : Int32), .ref 196]) jv_i279 [.ref 196, .int (vl_I a), .int (vl_I m)] rfl rfl rfl rfl (jv_cal rfl (jv_H_at (jv_rwK hW 196 12 24 (by decide))) rfl rfl) rfl H1 rfl rfl Kz) ?_
    refine jv_Wp.lift (fun _ Kz => jv_Ev.steps jv_i280 3 (pc' := 183) (l' := [(8, .int (0 : Int32)), (7, .int (1 : Int32)), (6, .int (vl_I (75 * b + m))), (5, .int (vl_I (75 * a + m))), (0, .ref 196), (1, .int (vl_I a)), (2, .int (vl_I m)), (3, .int (vl_I b)), (4, .int (vr_b w))]) (st' := [.int (vl_I m), .int (vl_I b), .ref 196, .int (vl_I (vt_wr (vr_T I L (75 * a + m)))), .int (9 : Int32), .int (vl_I m), .int (1026 : Int32), .ref 196]) rfl Kz) ?_
    obtain ⟨I2, L2, H2, ei2, el2⟩ := vq_written (I := I) (L := L) (R := R) (n := n) (sl := sl) b m hW (by omega) oky
    rw [ei2, el2] at H2
    refine jv_Wp.lift (fun _ Kz => jv_Ev.c jv_i280 (pc' := 186) (S' := [.int (vl_I (vt_wr (vr_T I L (75 * b + m)))), .int (vl_I (vt_wr (vr_T I L (75 * a + m)))), .int (9 : Int32), .int (vl_I m), .int (1026 : Int32), .ref 196]) jv_i279 [.ref 196, .int (vl_I b), .int (vl_I m)] rfl rfl rfl rfl (jv_cal rfl (jv_H_at (jv_rwK hW 196 12 24 (by decide))) rfl rfl) rfl H2 rfl rfl Kz) ?_
    refine jv_Wp.lift (fun _ Kz => jv_Ev.steps jv_i280 1 (pc' := 187) (l' := [(8, .int (0 : Int32)), (7, .int (1 : Int32)), (6, .int (vl_I (75 * b + m))), (5, .int (vl_I (75 * a + m))), (0, .ref 196), (1, .int (vl_I a)), (2, .int (vl_I m)), (3, .int (vl_I b)), (4, .int (vr_b w))]) (st' := [.int ((vl_I (vt_wr (vr_T I L (75 * a + m)))) &&& (vl_I (vt_wr (vr_T I L (75 * b + m))))), .int (9 : Int32), .int (vl_I m), .int (1026 : Int32), .ref 196]) rfl Kz) ?_
    obtain ⟨I3, L3, H3, A3, B3, C3, F3, eL3⟩ := vq_setx (I := I) (L := L) (R := R) (n := n) (sl := sl) 1026 m (9 : Int32) ((vl_I (vt_wr (vr_T I L (75 * a + m)))) &&& (vl_I (vt_wr (vr_T I L (75 * b + m))))) hW hf (by omega)
    refine jv_Wp.lift (fun _ Kz => jv_Ev.c jv_i280 (pc' := 190) (S' := []) (G1 := (jv_H K I3 L3 R)) jv_i272 [.ref 196, .int (1026 : Int32), .int (vl_I m), .int (9 : Int32), .int ((vl_I (vt_wr (vr_T I L (75 * a + m)))) &&& (vl_I (vt_wr (vr_T I L (75 * b + m)))))] rfl rfl rfl rfl (jv_cal rfl (jv_H_at (jv_rwK hW 196 12 24 (by decide))) rfl rfl) rfl H3 rfl rfl Kz) ?_
    refine jv_Wp.lift (fun _ Kz => jv_Ev.steps jv_i280 1 (pc' := 203) (l' := [(8, .int (0 : Int32)), (7, .int (1 : Int32)), (6, .int (vl_I (75 * b + m))), (5, .int (vl_I (75 * a + m))), (0, .ref 196), (1, .int (vl_I a)), (2, .int (vl_I m)), (3, .int (vl_I b)), (4, .int (vr_b w))]) (st' := []) rfl Kz) ?_
    refine jv_Wp.of (jv_Ev.ret jv_i280 rfl rfl) ?_
    rw [hQ]
    have c205 : ¬ I 205 (75 * a + m) = I 205 (75 * b + m) := h1
    have ne : ¬ ((vr_T I L (75 * a + m)).sort ≠ 0 ∧ (vr_T I L (75 * a + m)).sort = (vr_T I L (75 * b + m)).sort ∧ (vr_T I L (75 * a + m)).det = (vr_T I L (75 * b + m)).det ∧ (vr_T I L (75 * a + m)).org = (vr_T I L (75 * b + m)).org) := fun z => c205 (vr_srt_inj okx oky z.1 z.2.1)
    have e := vt_meet_no (w := w) ne
    have wx := (vr_wr (L := L) okx).2
    have wy := (vr_wr (L := L) oky).2
    have wa : vt_wr (vr_T I L (75 * a + m)) &&& vt_wr (vr_T I L (75 * b + m)) < 256 := Nat.and_lt_two_pow (n := 8) _ wy
    rw [vi_and8 wx wy] at B3
    refine ⟨_, _, rfl, ?_, ?_, F3⟩
    · rw [vr_T_set A3 B3 C3, e]; exact vr_D_bytes _ wa _
    · unfold vr_ok; rw [A3, B3, C3]; have ew : (vl_I (vt_wr (vr_T I L (75 * a + m)) &&& vt_wr (vr_T I L (75 * b + m)))).toInt = ((vt_wr (vr_T I L (75 * a + m)) &&& vt_wr (vr_T I L (75 * b + m)) : Nat) : Int) := vl_I_int (by omega)
      exact Or.inl ⟨rfl, hm, rfl, by rw [ew]; omega, by rw [ew]; omega⟩
  · refine jv_Wp.lift (fun _ Kz => jv_Ev.steps jv_i280 1 (pc' := 45) (l' := [(7, .int (1 : Int32)), (6, .int (vl_I (75 * b + m))), (5, .int (vl_I (75 * a + m))), (0, .ref 196), (1, .int (vl_I a)), (2, .int (vl_I m)), (3, .int (vl_I b)), (4, .int (vr_b w))]) (st' := [.ref 196]) rfl Kz) ?_
    refine jv_Wp.lift (fun _ Kz => jv_Ev.m jv_i280 (pc' := 48) (st' := [.ref 206]) (G' := (jv_H K I L R)) rfl rfl (jv_m_getR (jv_rwK hW 196 12 24 (by decide)) rfl rfl (jv_rwR hW 196 14 206 (by decide))) Kz) ?_
    refine jv_Wp.lift (fun _ Kz => jv_Ev.steps jv_i280 1 (pc' := 50) (l' := [(7, .int (1 : Int32)), (6, .int (vl_I (75 * b + m))), (5, .int (vl_I (75 * a + m))), (0, .ref 196), (1, .int (vl_I a)), (2, .int (vl_I m)), (3, .int (vl_I b)), (4, .int (vr_b w))]) (st' := [.int (vl_I (75 * a + m)), .ref 206]) rfl Kz) ?_
    refine jv_Wp.lift (fun _ Kz => jv_Ev.m jv_i280 (pc' := 51) (st' := [.int (I 206 (75 * a + m))]) (G' := (jv_H K I L R)) rfl rfl (jv_m_ialdv (jv_rwK hW 206 102 77100 (by decide)) rfl (vl_I_ix (by omega) (by decide)) rfl ((congrArg (I 206) (vl_I_nat (by omega))).trans rfl)) Kz) ?_
    refine jv_Wp.lift (fun _ Kz => jv_Ev.steps jv_i280 1 (pc' := 52) (l' := [(7, .int (1 : Int32)), (6, .int (vl_I (75 * b + m))), (5, .int (vl_I (75 * a + m))), (0, .ref 196), (1, .int (vl_I a)), (2, .int (vl_I m)), (3, .int (vl_I b)), (4, .int (vr_b w))]) (st' := [.ref 196, .int (I 206 (75 * a + m))]) rfl Kz) ?_
    refine jv_Wp.lift (fun _ Kz => jv_Ev.m jv_i280 (pc' := 55) (st' := [.ref 206, .int (I 206 (75 * a + m))]) (G' := (jv_H K I L R)) rfl rfl (jv_m_getR (jv_rwK hW 196 12 24 (by decide)) rfl rfl (jv_rwR hW 196 14 206 (by decide))) Kz) ?_
    refine jv_Wp.lift (fun _ Kz => jv_Ev.steps jv_i280 1 (pc' := 57) (l' := [(7, .int (1 : Int32)), (6, .int (vl_I (75 * b + m))), (5, .int (vl_I (75 * a + m))), (0, .ref 196), (1, .int (vl_I a)), (2, .int (vl_I m)), (3, .int (vl_I b)), (4, .int (vr_b w))]) (st' := [.int (vl_I (75 * b + m)), .ref 206, .int (I 206 (75 * a + m))]) rfl Kz) ?_
    refine jv_Wp.lift (fun _ Kz => jv_Ev.m jv_i280 (pc' := 58) (st' := [.int (I 206 (75 * b + m)), .int (I 206 (75 * a + m))]) (G' := (jv_H K I L R)) rfl rfl (jv_m_ialdv (jv_rwK hW 206 102 77100 (by decide)) rfl (vl_I_ix (by omega) (by decide)) rfl ((congrArg (I 206) (vl_I_nat (by omega))).trans rfl)) Kz) ?_
    refine jv_Wp.cnd jv_i280 (pt := 94) (pe := 61) (p := (¬ (I 206 (75 * a + m)) = (I 206 (75 * b + m)))) (q := (¬ (I 206 (75 * a + m)) = (I 206 (75 * b + m)))) rfl jv_bc_ne rfl rfl Iff.rfl (fun h2 => ?_) (fun h2 => ?_)
    · refine jv_Wp.lift (fun _ Kz => jv_Ev.steps jv_i280 3 (pc' := 99) (l' := [(8, .int (0 : Int32)), (7, .int (1 : Int32)), (6, .int (vl_I (75 * b + m))), (5, .int (vl_I (75 * a + m))), (0, .ref 196), (1, .int (vl_I a)), (2, .int (vl_I m)), (3, .int (vl_I b)), (4, .int (vr_b w))]) (st' := [.int (0 : Int32)]) rfl Kz) ?_
      refine jv_Wp.lift (fun _ Kz => jv_Ev.br jv_i280 (pc' := 162) (st' := []) rfl (by rfl) Kz) ?_
      refine jv_Wp.lift (fun _ Kz => jv_Ev.steps jv_i280 1 (pc' := 164) (l' := [(8, .int (0 : Int32)), (7, .int (1 : Int32)), (6, .int (vl_I (75 * b + m))), (5, .int (vl_I (75 * a + m))), (0, .ref 196), (1, .int (vl_I a)), (2, .int (vl_I m)), (3, .int (vl_I b)), (4, .int (vr_b w))]) (st' := [.int (1 : Int32)]) rfl Kz) ?_
      refine jv_Wp.lift (fun _ Kz => jv_Ev.br jv_i280 (pc' := 167) (st' := []) rfl (by rfl) Kz) ?_
      refine jv_Wp.lift (fun _ Kz => jv_Ev.steps jv_i280 7 (pc' := 177) (l' := [(8, .int (0 : Int32)), (7, .int (1 : Int32)), (6, .int (vl_I (75 * b + m))), (5, .int (vl_I (75 * a + m))), (0, .ref 196), (1, .int (vl_I a)), (2, .int (vl_I m)), (3, .int (vl_I b)), (4, .int (vr_b w))]) (st' := [.int (vl_I m), .int (vl_I a), .ref 196, .int (9 : Int32), .int (vl_I m), .int (1026 : Int32), .ref 196]) rfl Kz) ?_
      obtain ⟨I4, L4, H4, ei4, el4⟩ := vq_written (I := I) (L := L) (R := R) (n := n) (sl := sl) a m hW (by omega) okx
      rw [ei4, el4] at H4
      refine jv_Wp.lift (fun _ Kz => jv_Ev.c jv_i280 (pc' := 180) (S' := [.int (vl_I (vt_wr (vr_T I L (75 * a + m)))), .int (9 : Int32), .int (vl_I m), .int (1026 : Int32), .ref 196]) jv_i279 [.ref 196, .int (vl_I a), .int (vl_I m)] rfl rfl rfl rfl (jv_cal rfl (jv_H_at (jv_rwK hW 196 12 24 (by decide))) rfl rfl) rfl H4 rfl rfl Kz) ?_
      refine jv_Wp.lift (fun _ Kz => jv_Ev.steps jv_i280 3 (pc' := 183) (l' := [(8, .int (0 : Int32)), (7, .int (1 : Int32)), (6, .int (vl_I (75 * b + m))), (5, .int (vl_I (75 * a + m))), (0, .ref 196), (1, .int (vl_I a)), (2, .int (vl_I m)), (3, .int (vl_I b)), (4, .int (vr_b w))]) (st' := [.int (vl_I m), .int (vl_I b), .ref 196, .int (vl_I (vt_wr (vr_T I L (75 * a + m)))), .int (9 : Int32), .int (vl_I m), .int (1026 : Int32), .ref 196]) rfl Kz) ?_
      obtain ⟨I5, L5, H5, ei5, el5⟩ := vq_written (I := I) (L := L) (R := R) (n := n) (sl := sl) b m hW (by omega) oky
      rw [ei5, el5] at H5
      refine jv_Wp.lift (fun _ Kz => jv_Ev.c jv_i280 (pc' := 186) (S' := [.int (vl_I (vt_wr (vr_T I L (75 * b + m)))), .int (vl_I (vt_wr (vr_T I L (75 * a + m)))), .int (9 : Int32), .int (vl_I m), .int (1026 : Int32), .ref 196]) jv_i279 [.ref 196, .int (vl_I b), .int (vl_I m)] rfl rfl rfl rfl (jv_cal rfl (jv_H_at (jv_rwK hW 196 12 24 (by decide))) rfl rfl) rfl H5 rfl rfl Kz) ?_
      refine jv_Wp.lift (fun _ Kz => jv_Ev.steps jv_i280 1 (pc' := 187) (l' := [(8, .int (0 : Int32)), (7, .int (1 : Int32)), (6, .int (vl_I (75 * b + m))), (5, .int (vl_I (75 * a + m))), (0, .ref 196), (1, .int (vl_I a)), (2, .int (vl_I m)), (3, .int (vl_I b)), (4, .int (vr_b w))]) (st' := [.int ((vl_I (vt_wr (vr_T I L (75 * a + m)))) &&& (vl_I (vt_wr (vr_T I L (75 * b + m))))), .int (9 : Int32), .int (vl_I m), .int (1026 : Int32), .ref 196]) rfl Kz) ?_
      obtain ⟨I6, L6, H6, A6, B6, C6, F6, eL6⟩ := vq_setx (I := I) (L := L) (R := R) (n := n) (sl := sl) 1026 m (9 : Int32) ((vl_I (vt_wr (vr_T I L (75 * a + m)))) &&& (vl_I (vt_wr (vr_T I L (75 * b + m))))) hW hf (by omega)
      refine jv_Wp.lift (fun _ Kz => jv_Ev.c jv_i280 (pc' := 190) (S' := []) (G1 := (jv_H K I6 L6 R)) jv_i272 [.ref 196, .int (1026 : Int32), .int (vl_I m), .int (9 : Int32), .int ((vl_I (vt_wr (vr_T I L (75 * a + m)))) &&& (vl_I (vt_wr (vr_T I L (75 * b + m)))))] rfl rfl rfl rfl (jv_cal rfl (jv_H_at (jv_rwK hW 196 12 24 (by decide))) rfl rfl) rfl H6 rfl rfl Kz) ?_
      refine jv_Wp.lift (fun _ Kz => jv_Ev.steps jv_i280 1 (pc' := 203) (l' := [(8, .int (0 : Int32)), (7, .int (1 : Int32)), (6, .int (vl_I (75 * b + m))), (5, .int (vl_I (75 * a + m))), (0, .ref 196), (1, .int (vl_I a)), (2, .int (vl_I m)), (3, .int (vl_I b)), (4, .int (vr_b w))]) (st' := []) rfl Kz) ?_
      refine jv_Wp.of (jv_Ev.ret jv_i280 rfl rfl) ?_
      rw [hQ]
      have c205 : I 205 (75 * a + m) = I 205 (75 * b + m) := (Classical.not_not.mp h1)
      have c206 : ¬ I 206 (75 * a + m) = I 206 (75 * b + m) := h2
      have ne : ¬ ((vr_T I L (75 * a + m)).sort ≠ 0 ∧ (vr_T I L (75 * a + m)).sort = (vr_T I L (75 * b + m)).sort ∧ (vr_T I L (75 * a + m)).det = (vr_T I L (75 * b + m)).det ∧ (vr_T I L (75 * a + m)).org = (vr_T I L (75 * b + m)).org) := fun z => c206 (Int32.toInt_inj.mp z.2.2.1)
      have e := vt_meet_no (w := w) ne
      have wx := (vr_wr (L := L) okx).2
      have wy := (vr_wr (L := L) oky).2
      have wa : vt_wr (vr_T I L (75 * a + m)) &&& vt_wr (vr_T I L (75 * b + m)) < 256 := Nat.and_lt_two_pow (n := 8) _ wy
      rw [vi_and8 wx wy] at B6
      refine ⟨_, _, rfl, ?_, ?_, F6⟩
      · rw [vr_T_set A6 B6 C6, e]; exact vr_D_bytes _ wa _
      · unfold vr_ok; rw [A6, B6, C6]; have ew : (vl_I (vt_wr (vr_T I L (75 * a + m)) &&& vt_wr (vr_T I L (75 * b + m)))).toInt = ((vt_wr (vr_T I L (75 * a + m)) &&& vt_wr (vr_T I L (75 * b + m)) : Nat) : Int) := vl_I_int (by omega)
        exact Or.inl ⟨rfl, hm, rfl, by rw [ew]; omega, by rw [ew]; omega⟩
    · refine jv_Wp.lift (fun _ Kz => jv_Ev.steps jv_i280 1 (pc' := 62) (l' := [(7, .int (1 : Int32)), (6, .int (vl_I (75 * b + m))), (5, .int (vl_I (75 * a + m))), (0, .ref 196), (1, .int (vl_I a)), (2, .int (vl_I m)), (3, .int (vl_I b)), (4, .int (vr_b w))]) (st' := [.ref 196]) rfl Kz) ?_
      refine jv_Wp.lift (fun _ Kz => jv_Ev.m jv_i280 (pc' := 65) (st' := [.ref 207]) (G' := (jv_H K I L R)) rfl rfl (jv_m_getR (jv_rwK hW 196 12 24 (by decide)) rfl rfl (jv_rwR hW 196 15 207 (by decide))) Kz) ?_
      refine jv_Wp.lift (fun _ Kz => jv_Ev.steps jv_i280 1 (pc' := 67) (l' := [(7, .int (1 : Int32)), (6, .int (vl_I (75 * b + m))), (5, .int (vl_I (75 * a + m))), (0, .ref 196), (1, .int (vl_I a)), (2, .int (vl_I m)), (3, .int (vl_I b)), (4, .int (vr_b w))]) (st' := [.int (vl_I (75 * a + m)), .ref 207]) rfl Kz) ?_
      refine jv_Wp.lift (fun _ Kz => jv_Ev.m jv_i280 (pc' := 68) (st' := [.int (I 207 (75 * a + m))]) (G' := (jv_H K I L R)) rfl rfl (jv_m_ialdv (jv_rwK hW 207 102 77100 (by decide)) rfl (vl_I_ix (by omega) (by decide)) rfl ((congrArg (I 207) (vl_I_nat (by omega))).trans rfl)) Kz) ?_
      refine jv_Wp.lift (fun _ Kz => jv_Ev.steps jv_i280 1 (pc' := 69) (l' := [(7, .int (1 : Int32)), (6, .int (vl_I (75 * b + m))), (5, .int (vl_I (75 * a + m))), (0, .ref 196), (1, .int (vl_I a)), (2, .int (vl_I m)), (3, .int (vl_I b)), (4, .int (vr_b w))]) (st' := [.ref 196, .int (I 207 (75 * a + m))]) rfl Kz) ?_
      refine jv_Wp.lift (fun _ Kz => jv_Ev.m jv_i280 (pc' := 72) (st' := [.ref 207, .int (I 207 (75 * a + m))]) (G' := (jv_H K I L R)) rfl rfl (jv_m_getR (jv_rwK hW 196 12 24 (by decide)) rfl rfl (jv_rwR hW 196 15 207 (by decide))) Kz) ?_
      refine jv_Wp.lift (fun _ Kz => jv_Ev.steps jv_i280 1 (pc' := 74) (l' := [(7, .int (1 : Int32)), (6, .int (vl_I (75 * b + m))), (5, .int (vl_I (75 * a + m))), (0, .ref 196), (1, .int (vl_I a)), (2, .int (vl_I m)), (3, .int (vl_I b)), (4, .int (vr_b w))]) (st' := [.int (vl_I (75 * b + m)), .ref 207, .int (I 207 (75 * a + m))]) rfl Kz) ?_
      refine jv_Wp.lift (fun _ Kz => jv_Ev.m jv_i280 (pc' := 75) (st' := [.int (I 207 (75 * b + m)), .int (I 207 (75 * a + m))]) (G' := (jv_H K I L R)) rfl rfl (jv_m_ialdv (jv_rwK hW 207 102 77100 (by decide)) rfl (vl_I_ix (by omega) (by decide)) rfl ((congrArg (I 207) (vl_I_nat (by omega))).trans rfl)) Kz) ?_
      refine jv_Wp.cnd jv_i280 (pt := 94) (pe := 78) (p := (¬ (I 207 (75 * a + m)) = (I 207 (75 * b + m)))) (q := (¬ (I 207 (75 * a + m)) = (I 207 (75 * b + m)))) rfl jv_bc_ne rfl rfl Iff.rfl (fun h3 => ?_) (fun h3 => ?_)
      · refine jv_Wp.lift (fun _ Kz => jv_Ev.steps jv_i280 3 (pc' := 99) (l' := [(8, .int (0 : Int32)), (7, .int (1 : Int32)), (6, .int (vl_I (75 * b + m))), (5, .int (vl_I (75 * a + m))), (0, .ref 196), (1, .int (vl_I a)), (2, .int (vl_I m)), (3, .int (vl_I b)), (4, .int (vr_b w))]) (st' := [.int (0 : Int32)]) rfl Kz) ?_
        refine jv_Wp.lift (fun _ Kz => jv_Ev.br jv_i280 (pc' := 162) (st' := []) rfl (by rfl) Kz) ?_
        refine jv_Wp.lift (fun _ Kz => jv_Ev.steps jv_i280 1 (pc' := 164) (l' := [(8, .int (0 : Int32)), (7, .int (1 : Int32)), (6, .int (vl_I (75 * b + m))), (5, .int (vl_I (75 * a + m))), (0, .ref 196), (1, .int (vl_I a)), (2, .int (vl_I m)), (3, .int (vl_I b)), (4, .int (vr_b w))]) (st' := [.int (1 : Int32)]) rfl Kz) ?_
        refine jv_Wp.lift (fun _ Kz => jv_Ev.br jv_i280 (pc' := 167) (st' := []) rfl (by rfl) Kz) ?_
        refine jv_Wp.lift (fun _ Kz => jv_Ev.steps jv_i280 7 (pc' := 177) (l' := [(8, .int (0 : Int32)), (7, .int (1 : Int32)), (6, .int (vl_I (75 * b + m))), (5, .int (vl_I (75 * a + m))), (0, .ref 196), (1, .int (vl_I a)), (2, .int (vl_I m)), (3, .int (vl_I b)), (4, .int (vr_b w))]) (st' := [.int (vl_I m), .int (vl_I a), .ref 196, .int (9 : Int32), .int (vl_I m), .int (1026 : Int32), .ref 196]) rfl Kz) ?_
        obtain ⟨I7, L7, H7, ei7, el7⟩ := vq_written (I := I) (L := L) (R := R) (n := n) (sl := sl) a m hW (by omega) okx
        rw [ei7, el7] at H7
        refine jv_Wp.lift (fun _ Kz => jv_Ev.c jv_i280 (pc' := 180) (S' := [.int (vl_I (vt_wr (vr_T I L (75 * a + m)))), .int (9 : Int32), .int (vl_I m), .int (1026 : Int32), .ref 196]) jv_i279 [.ref 196, .int (vl_I a), .int (vl_I m)] rfl rfl rfl rfl (jv_cal rfl (jv_H_at (jv_rwK hW 196 12 24 (by decide))) rfl rfl) rfl H7 rfl rfl Kz) ?_
        refine jv_Wp.lift (fun _ Kz => jv_Ev.steps jv_i280 3 (pc' := 183) (l' := [(8, .int (0 : Int32)), (7, .int (1 : Int32)), (6, .int (vl_I (75 * b + m))), (5, .int (vl_I (75 * a + m))), (0, .ref 196), (1, .int (vl_I a)), (2, .int (vl_I m)), (3, .int (vl_I b)), (4, .int (vr_b w))]) (st' := [.int (vl_I m), .int (vl_I b), .ref 196, .int (vl_I (vt_wr (vr_T I L (75 * a + m)))), .int (9 : Int32), .int (vl_I m), .int (1026 : Int32), .ref 196]) rfl Kz) ?_
        obtain ⟨I8, L8, H8, ei8, el8⟩ := vq_written (I := I) (L := L) (R := R) (n := n) (sl := sl) b m hW (by omega) oky
        rw [ei8, el8] at H8
        refine jv_Wp.lift (fun _ Kz => jv_Ev.c jv_i280 (pc' := 186) (S' := [.int (vl_I (vt_wr (vr_T I L (75 * b + m)))), .int (vl_I (vt_wr (vr_T I L (75 * a + m)))), .int (9 : Int32), .int (vl_I m), .int (1026 : Int32), .ref 196]) jv_i279 [.ref 196, .int (vl_I b), .int (vl_I m)] rfl rfl rfl rfl (jv_cal rfl (jv_H_at (jv_rwK hW 196 12 24 (by decide))) rfl rfl) rfl H8 rfl rfl Kz) ?_
        refine jv_Wp.lift (fun _ Kz => jv_Ev.steps jv_i280 1 (pc' := 187) (l' := [(8, .int (0 : Int32)), (7, .int (1 : Int32)), (6, .int (vl_I (75 * b + m))), (5, .int (vl_I (75 * a + m))), (0, .ref 196), (1, .int (vl_I a)), (2, .int (vl_I m)), (3, .int (vl_I b)), (4, .int (vr_b w))]) (st' := [.int ((vl_I (vt_wr (vr_T I L (75 * a + m)))) &&& (vl_I (vt_wr (vr_T I L (75 * b + m))))), .int (9 : Int32), .int (vl_I m), .int (1026 : Int32), .ref 196]) rfl Kz) ?_
        obtain ⟨I9, L9, H9, A9, B9, C9, F9, eL9⟩ := vq_setx (I := I) (L := L) (R := R) (n := n) (sl := sl) 1026 m (9 : Int32) ((vl_I (vt_wr (vr_T I L (75 * a + m)))) &&& (vl_I (vt_wr (vr_T I L (75 * b + m))))) hW hf (by omega)
        refine jv_Wp.lift (fun _ Kz => jv_Ev.c jv_i280 (pc' := 190) (S' := []) (G1 := (jv_H K I9 L9 R)) jv_i272 [.ref 196, .int (1026 : Int32), .int (vl_I m), .int (9 : Int32), .int ((vl_I (vt_wr (vr_T I L (75 * a + m)))) &&& (vl_I (vt_wr (vr_T I L (75 * b + m)))))] rfl rfl rfl rfl (jv_cal rfl (jv_H_at (jv_rwK hW 196 12 24 (by decide))) rfl rfl) rfl H9 rfl rfl Kz) ?_
        refine jv_Wp.lift (fun _ Kz => jv_Ev.steps jv_i280 1 (pc' := 203) (l' := [(8, .int (0 : Int32)), (7, .int (1 : Int32)), (6, .int (vl_I (75 * b + m))), (5, .int (vl_I (75 * a + m))), (0, .ref 196), (1, .int (vl_I a)), (2, .int (vl_I m)), (3, .int (vl_I b)), (4, .int (vr_b w))]) (st' := []) rfl Kz) ?_
        refine jv_Wp.of (jv_Ev.ret jv_i280 rfl rfl) ?_
        rw [hQ]
        have c205 : I 205 (75 * a + m) = I 205 (75 * b + m) := (Classical.not_not.mp h1)
        have c206 : I 206 (75 * a + m) = I 206 (75 * b + m) := (Classical.not_not.mp h2)
        have c207 : ¬ I 207 (75 * a + m) = I 207 (75 * b + m) := h3
        have ne : ¬ ((vr_T I L (75 * a + m)).sort ≠ 0 ∧ (vr_T I L (75 * a + m)).sort = (vr_T I L (75 * b + m)).sort ∧ (vr_T I L (75 * a + m)).det = (vr_T I L (75 * b + m)).det ∧ (vr_T I L (75 * a + m)).org = (vr_T I L (75 * b + m)).org) := fun z => c207 (Int32.toInt_inj.mp z.2.2.2)
        have e := vt_meet_no (w := w) ne
        have wx := (vr_wr (L := L) okx).2
        have wy := (vr_wr (L := L) oky).2
        have wa : vt_wr (vr_T I L (75 * a + m)) &&& vt_wr (vr_T I L (75 * b + m)) < 256 := Nat.and_lt_two_pow (n := 8) _ wy
        rw [vi_and8 wx wy] at B9
        refine ⟨_, _, rfl, ?_, ?_, F9⟩
        · rw [vr_T_set A9 B9 C9, e]; exact vr_D_bytes _ wa _
        · unfold vr_ok; rw [A9, B9, C9]; have ew : (vl_I (vt_wr (vr_T I L (75 * a + m)) &&& vt_wr (vr_T I L (75 * b + m)))).toInt = ((vt_wr (vr_T I L (75 * a + m)) &&& vt_wr (vr_T I L (75 * b + m)) : Nat) : Int) := vl_I_int (by omega)
          exact Or.inl ⟨rfl, hm, rfl, by rw [ew]; omega, by rw [ew]; omega⟩
      · refine jv_Wp.lift (fun _ Kz => jv_Ev.steps jv_i280 1 (pc' := 79) (l' := [(7, .int (1 : Int32)), (6, .int (vl_I (75 * b + m))), (5, .int (vl_I (75 * a + m))), (0, .ref 196), (1, .int (vl_I a)), (2, .int (vl_I m)), (3, .int (vl_I b)), (4, .int (vr_b w))]) (st' := [.ref 196]) rfl Kz) ?_
        refine jv_Wp.lift (fun _ Kz => jv_Ev.m jv_i280 (pc' := 82) (st' := [.ref 205]) (G' := (jv_H K I L R)) rfl rfl (jv_m_getR (jv_rwK hW 196 12 24 (by decide)) rfl rfl (jv_rwR hW 196 13 205 (by decide))) Kz) ?_
        refine jv_Wp.lift (fun _ Kz => jv_Ev.steps jv_i280 1 (pc' := 84) (l' := [(7, .int (1 : Int32)), (6, .int (vl_I (75 * b + m))), (5, .int (vl_I (75 * a + m))), (0, .ref 196), (1, .int (vl_I a)), (2, .int (vl_I m)), (3, .int (vl_I b)), (4, .int (vr_b w))]) (st' := [.int (vl_I (75 * a + m)), .ref 205]) rfl Kz) ?_
        refine jv_Wp.lift (fun _ Kz => jv_Ev.m jv_i280 (pc' := 85) (st' := [.int (I 205 (75 * a + m))]) (G' := (jv_H K I L R)) rfl rfl (jv_m_ialdv (jv_rwK hW 205 102 77100 (by decide)) rfl (vl_I_ix (by omega) (by decide)) rfl ((congrArg (I 205) (vl_I_nat (by omega))).trans rfl)) Kz) ?_
        refine jv_Wp.lift (fun _ Kz => jv_Ev.steps jv_i280 1 (pc' := 87) (l' := [(7, .int (1 : Int32)), (6, .int (vl_I (75 * b + m))), (5, .int (vl_I (75 * a + m))), (0, .ref 196), (1, .int (vl_I a)), (2, .int (vl_I m)), (3, .int (vl_I b)), (4, .int (vr_b w))]) (st' := [.int (9 : Int32), .int (I 205 (75 * a + m))]) rfl Kz) ?_
        refine jv_Wp.cnd jv_i280 (pt := 94) (pe := 90) (p := ((I 205 (75 * a + m)) = (9 : Int32))) (q := ((I 205 (75 * a + m)) = (9 : Int32))) rfl jv_bc_eq rfl rfl Iff.rfl (fun h4 => ?_) (fun h4 => ?_)
        · refine jv_Wp.lift (fun _ Kz => jv_Ev.steps jv_i280 3 (pc' := 99) (l' := [(8, .int (0 : Int32)), (7, .int (1 : Int32)), (6, .int (vl_I (75 * b + m))), (5, .int (vl_I (75 * a + m))), (0, .ref 196), (1, .int (vl_I a)), (2, .int (vl_I m)), (3, .int (vl_I b)), (4, .int (vr_b w))]) (st' := [.int (0 : Int32)]) rfl Kz) ?_
          refine jv_Wp.lift (fun _ Kz => jv_Ev.br jv_i280 (pc' := 162) (st' := []) rfl (by rfl) Kz) ?_
          refine jv_Wp.lift (fun _ Kz => jv_Ev.steps jv_i280 1 (pc' := 164) (l' := [(8, .int (0 : Int32)), (7, .int (1 : Int32)), (6, .int (vl_I (75 * b + m))), (5, .int (vl_I (75 * a + m))), (0, .ref 196), (1, .int (vl_I a)), (2, .int (vl_I m)), (3, .int (vl_I b)), (4, .int (vr_b w))]) (st' := [.int (1 : Int32)]) rfl Kz) ?_
          refine jv_Wp.lift (fun _ Kz => jv_Ev.br jv_i280 (pc' := 167) (st' := []) rfl (by rfl) Kz) ?_
          refine jv_Wp.lift (fun _ Kz => jv_Ev.steps jv_i280 7 (pc' := 177) (l' := [(8, .int (0 : Int32)), (7, .int (1 : Int32)), (6, .int (vl_I (75 * b + m))), (5, .int (vl_I (75 * a + m))), (0, .ref 196), (1, .int (vl_I a)), (2, .int (vl_I m)), (3, .int (vl_I b)), (4, .int (vr_b w))]) (st' := [.int (vl_I m), .int (vl_I a), .ref 196, .int (9 : Int32), .int (vl_I m), .int (1026 : Int32), .ref 196]) rfl Kz) ?_
          obtain ⟨I10, L10, H10, ei10, el10⟩ := vq_written (I := I) (L := L) (R := R) (n := n) (sl := sl) a m hW (by omega) okx
          rw [ei10, el10] at H10
          refine jv_Wp.lift (fun _ Kz => jv_Ev.c jv_i280 (pc' := 180) (S' := [.int (vl_I (vt_wr (vr_T I L (75 * a + m)))), .int (9 : Int32), .int (vl_I m), .int (1026 : Int32), .ref 196]) jv_i279 [.ref 196, .int (vl_I a), .int (vl_I m)] rfl rfl rfl rfl (jv_cal rfl (jv_H_at (jv_rwK hW 196 12 24 (by decide))) rfl rfl) rfl H10 rfl rfl Kz) ?_
          refine jv_Wp.lift (fun _ Kz => jv_Ev.steps jv_i280 3 (pc' := 183) (l' := [(8, .int (0 : Int32)), (7, .int (1 : Int32)), (6, .int (vl_I (75 * b + m))), (5, .int (vl_I (75 * a + m))), (0, .ref 196), (1, .int (vl_I a)), (2, .int (vl_I m)), (3, .int (vl_I b)), (4, .int (vr_b w))]) (st' := [.int (vl_I m), .int (vl_I b), .ref 196, .int (vl_I (vt_wr (vr_T I L (75 * a + m)))), .int (9 : Int32), .int (vl_I m), .int (1026 : Int32), .ref 196]) rfl Kz) ?_
          obtain ⟨I11, L11, H11, ei11, el11⟩ := vq_written (I := I) (L := L) (R := R) (n := n) (sl := sl) b m hW (by omega) oky
          rw [ei11, el11] at H11
          refine jv_Wp.lift (fun _ Kz => jv_Ev.c jv_i280 (pc' := 186) (S' := [.int (vl_I (vt_wr (vr_T I L (75 * b + m)))), .int (vl_I (vt_wr (vr_T I L (75 * a + m)))), .int (9 : Int32), .int (vl_I m), .int (1026 : Int32), .ref 196]) jv_i279 [.ref 196, .int (vl_I b), .int (vl_I m)] rfl rfl rfl rfl (jv_cal rfl (jv_H_at (jv_rwK hW 196 12 24 (by decide))) rfl rfl) rfl H11 rfl rfl Kz) ?_
          refine jv_Wp.lift (fun _ Kz => jv_Ev.steps jv_i280 1 (pc' := 187) (l' := [(8, .int (0 : Int32)), (7, .int (1 : Int32)), (6, .int (vl_I (75 * b + m))), (5, .int (vl_I (75 * a + m))), (0, .ref 196), (1, .int (vl_I a)), (2, .int (vl_I m)), (3, .int (vl_I b)), (4, .int (vr_b w))]) (st' := [.int ((vl_I (vt_wr (vr_T I L (75 * a + m)))) &&& (vl_I (vt_wr (vr_T I L (75 * b + m))))), .int (9 : Int32), .int (vl_I m), .int (1026 : Int32), .ref 196]) rfl Kz) ?_
          obtain ⟨I12, L12, H12, A12, B12, C12, F12, eL12⟩ := vq_setx (I := I) (L := L) (R := R) (n := n) (sl := sl) 1026 m (9 : Int32) ((vl_I (vt_wr (vr_T I L (75 * a + m)))) &&& (vl_I (vt_wr (vr_T I L (75 * b + m))))) hW hf (by omega)
          refine jv_Wp.lift (fun _ Kz => jv_Ev.c jv_i280 (pc' := 190) (S' := []) (G1 := (jv_H K I12 L12 R)) jv_i272 [.ref 196, .int (1026 : Int32), .int (vl_I m), .int (9 : Int32), .int ((vl_I (vt_wr (vr_T I L (75 * a + m)))) &&& (vl_I (vt_wr (vr_T I L (75 * b + m)))))] rfl rfl rfl rfl (jv_cal rfl (jv_H_at (jv_rwK hW 196 12 24 (by decide))) rfl rfl) rfl H12 rfl rfl Kz) ?_
          refine jv_Wp.lift (fun _ Kz => jv_Ev.steps jv_i280 1 (pc' := 203) (l' := [(8, .int (0 : Int32)), (7, .int (1 : Int32)), (6, .int (vl_I (75 * b + m))), (5, .int (vl_I (75 * a + m))), (0, .ref 196), (1, .int (vl_I a)), (2, .int (vl_I m)), (3, .int (vl_I b)), (4, .int (vr_b w))]) (st' := []) rfl Kz) ?_
          refine jv_Wp.of (jv_Ev.ret jv_i280 rfl rfl) ?_
          rw [hQ]
          have c205 : I 205 (75 * a + m) = I 205 (75 * b + m) := (Classical.not_not.mp h1)
          have c206 : I 206 (75 * a + m) = I 206 (75 * b + m) := (Classical.not_not.mp h2)
          have c207 : I 207 (75 * a + m) = I 207 (75 * b + m) := (Classical.not_not.mp h3)
          have c9 : I 205 (75 * a + m) = 9 := h4
          have ne : ¬ ((vr_T I L (75 * a + m)).sort ≠ 0 ∧ (vr_T I L (75 * a + m)).sort = (vr_T I L (75 * b + m)).sort ∧ (vr_T I L (75 * a + m)).det = (vr_T I L (75 * b + m)).det ∧ (vr_T I L (75 * a + m)).org = (vr_T I L (75 * b + m)).org) := fun z => z.1 ((vr_isB okx hm).mpr c9)
          have e := vt_meet_no (w := w) ne
          have wx := (vr_wr (L := L) okx).2
          have wy := (vr_wr (L := L) oky).2
          have wa : vt_wr (vr_T I L (75 * a + m)) &&& vt_wr (vr_T I L (75 * b + m)) < 256 := Nat.and_lt_two_pow (n := 8) _ wy
          rw [vi_and8 wx wy] at B12
          refine ⟨_, _, rfl, ?_, ?_, F12⟩
          · rw [vr_T_set A12 B12 C12, e]; exact vr_D_bytes _ wa _
          · unfold vr_ok; rw [A12, B12, C12]; have ew : (vl_I (vt_wr (vr_T I L (75 * a + m)) &&& vt_wr (vr_T I L (75 * b + m)))).toInt = ((vt_wr (vr_T I L (75 * a + m)) &&& vt_wr (vr_T I L (75 * b + m)) : Nat) : Int) := vl_I_int (by omega)
            exact Or.inl ⟨rfl, hm, rfl, by rw [ew]; omega, by rw [ew]; omega⟩
        · refine jv_Wp.lift (fun _ Kz => jv_Ev.steps jv_i280 4 (pc' := 99) (l' := [(8, .int (1 : Int32)), (7, .int (1 : Int32)), (6, .int (vl_I (75 * b + m))), (5, .int (vl_I (75 * a + m))), (0, .ref 196), (1, .int (vl_I a)), (2, .int (vl_I m)), (3, .int (vl_I b)), (4, .int (vr_b w))]) (st' := [.int (1 : Int32)]) rfl Kz) ?_
          refine jv_Wp.lift (fun _ Kz => jv_Ev.br jv_i280 (pc' := 102) (st' := []) rfl (by rfl) Kz) ?_
          refine jv_Wp.lift (fun _ Kz => jv_Ev.steps jv_i280 5 (pc' := 109) (l' := [(8, .int (1 : Int32)), (7, .int (1 : Int32)), (6, .int (vl_I (75 * b + m))), (5, .int (vl_I (75 * a + m))), (0, .ref 196), (1, .int (vl_I a)), (2, .int (vl_I m)), (3, .int (vl_I b)), (4, .int (vr_b w))]) (st' := [.int (vl_I m), .int (1026 : Int32), .int (vl_I m), .int (vl_I a), .ref 196]) rfl Kz) ?_
          obtain ⟨I13, L13, H13, A13, B13, C13, S13, F13⟩ := vq_copyThing (I := I) (L := L) (R := R) (n := n) (sl := sl) a m 1026 m hW hf (by omega) (by omega)
          have Z13 := vr_fl_of F13
          refine jv_Wp.lift (fun _ Kz => jv_Ev.c jv_i280 (pc' := 112) (S' := []) (G1 := (jv_H K I13 L13 R)) jv_i275 [.ref 196, .int (vl_I a), .int (vl_I m), .int (1026 : Int32), .int (vl_I m)] rfl rfl rfl rfl (jv_cal rfl (jv_H_at (jv_rwK hW 196 12 24 (by decide))) rfl rfl) rfl H13 rfl rfl Kz) ?_
          refine jv_Wp.lift (fun _ Kz => jv_Ev.steps jv_i280 1 (pc' := 113) (l' := [(8, .int (1 : Int32)), (7, .int (1 : Int32)), (6, .int (vl_I (75 * b + m))), (5, .int (vl_I (75 * a + m))), (0, .ref 196), (1, .int (vl_I a)), (2, .int (vl_I m)), (3, .int (vl_I b)), (4, .int (vr_b w))]) (st' := [.ref 196]) rfl Kz) ?_
          refine jv_Wp.lift (fun _ Kz => jv_Ev.m jv_i280 (pc' := 116) (st' := [.ref 205]) (G' := (jv_H K I13 L13 R)) rfl rfl (jv_m_getR (jv_rwK hW 196 12 24 (by decide)) rfl rfl (jv_rwR hW 196 13 205 (by decide))) Kz) ?_
          refine jv_Wp.lift (fun _ Kz => jv_Ev.steps jv_i280 1 (pc' := 118) (l' := [(8, .int (1 : Int32)), (7, .int (1 : Int32)), (6, .int (vl_I (75 * b + m))), (5, .int (vl_I (75 * a + m))), (0, .ref 196), (1, .int (vl_I a)), (2, .int (vl_I m)), (3, .int (vl_I b)), (4, .int (vr_b w))]) (st' := [.int (vl_I (75 * a + m)), .ref 205]) rfl Kz) ?_
          refine jv_Wp.lift (fun _ Kz => jv_Ev.m jv_i280 (pc' := 119) (st' := [.int (I13 205 (75 * a + m))]) (G' := (jv_H K I13 L13 R)) rfl rfl (jv_m_ialdv (jv_rwK hW 205 102 77100 (by decide)) rfl (vl_I_ix (by omega) (by decide)) rfl ((congrArg (I13 205) (vl_I_nat (by omega))).trans rfl)) Kz) ?_
          refine jv_Wp.lift (fun _ Kz => jv_Ev.c jv_i280 (pc' := 122) (S' := [.int (vr_b (vc_hv (I13 205 (75 * a + m))))]) jv_i277 [.int (I13 205 (75 * a + m))] rfl rfl rfl rfl rfl rfl (vq_hasValue (I13 205 (75 * a + m))) rfl rfl Kz) ?_
          refine jv_Wp.cnd jv_i280 (pt := 203) (pe := 125) (p := ((vr_b (vc_hv (I13 205 (75 * a + m)))) = 0)) (q := ((vr_b (vc_hv (I13 205 (75 * a + m)))) = 0)) rfl jv_bi_eq rfl rfl Iff.rfl (fun h5 => ?_) (fun h5 => ?_)
          · refine jv_Wp.of (jv_Ev.ret jv_i280 rfl rfl) ?_
            rw [hQ]
            have c205 : I 205 (75 * a + m) = I 205 (75 * b + m) := (Classical.not_not.mp h1)
            have c206 : I 206 (75 * a + m) = I 206 (75 * b + m) := (Classical.not_not.mp h2)
            have c207 : I 207 (75 * a + m) = I 207 (75 * b + m) := (Classical.not_not.mp h3)
            have c9 : ¬ I 205 (75 * a + m) = 9 := h4
            have es := vr_srt_eq (L := L) c205
            have cv : ¬ vc_hv (I 205 (75 * a + m)) = true := by rw [← (vr_fr_i F13 (x := 75 * a + m) (by omega)).1, vr_b_f h5]; decide
            have T : vr_T I13 L13 (76950 + m) = (vr_T I L (75 * a + m)) := vr_T_eq A13 B13 C13 S13
            have e : vt_meet w (vr_T I L (75 * a + m)) (vr_T I L (75 * b + m)) = (vr_T I L (75 * a + m)) := by
              by_cases s0 : (vr_T I L (75 * a + m)).sort = 0
              · exact absurd ((vr_isB okx hm).mp s0) c9
              · exact vt_meet_same s0 es (congrArg Int32.toInt c206) (congrArg Int32.toInt c207) (by rw [vr_hasT okx]; exact cv)
            exact ⟨_, _, rfl, by rw [e]; exact T, vr_okW A13 B13 C13 okx, F13⟩
          · refine jv_Wp.lift (fun _ Kz => jv_Ev.steps jv_i280 1 (pc' := 126) (l' := [(8, .int (1 : Int32)), (7, .int (1 : Int32)), (6, .int (vl_I (75 * b + m))), (5, .int (vl_I (75 * a + m))), (0, .ref 196), (1, .int (vl_I a)), (2, .int (vl_I m)), (3, .int (vl_I b)), (4, .int (vr_b w))]) (st' := [.ref 196]) rfl Kz) ?_
            refine jv_Wp.lift (fun _ Kz => jv_Ev.m jv_i280 (pc' := 129) (st' := [.ref 208]) (G' := (jv_H K I13 L13 R)) rfl rfl (jv_m_getR (jv_rwK hW 196 12 24 (by decide)) rfl rfl (jv_rwR hW 196 16 208 (by decide))) Kz) ?_
            refine jv_Wp.lift (fun _ Kz => jv_Ev.steps jv_i280 2 (pc' := 131) (l' := [(8, .int (1 : Int32)), (7, .int (1 : Int32)), (6, .int (vl_I (75 * b + m))), (5, .int (vl_I (75 * a + m))), (0, .ref 196), (1, .int (vl_I a)), (2, .int (vl_I m)), (3, .int (vl_I b)), (4, .int (vr_b w))]) (st' := [.int (vl_I m), .int (vl_I a), .ref 208]) rfl Kz) ?_
            refine jv_Wp.lift (fun _ Kz => jv_Ev.c jv_i280 (pc' := 134) (S' := [.int (vl_I (8 + (75 * a + m))), .ref 208]) jv_i254 [.int (vl_I a), .int (vl_I m)] rfl rfl rfl rfl rfl rfl (vq_row a m) rfl rfl Kz) ?_
            refine jv_Wp.lift (fun _ Kz => jv_Ev.steps jv_i280 2 (pc' := 136) (l' := [(8, .int (1 : Int32)), (7, .int (1 : Int32)), (6, .int (vl_I (75 * b + m))), (5, .int (vl_I (75 * a + m))), (0, .ref 196), (1, .int (vl_I a)), (2, .int (vl_I m)), (3, .int (vl_I b)), (4, .int (vr_b w))]) (st' := [.int (vl_I m), .int (vl_I b), .int (vl_I (8 + (75 * a + m))), .ref 208]) rfl Kz) ?_
            refine jv_Wp.lift (fun _ Kz => jv_Ev.c jv_i280 (pc' := 139) (S' := [.int (vl_I (8 + (75 * b + m))), .int (vl_I (8 + (75 * a + m))), .ref 208]) jv_i254 [.int (vl_I b), .int (vl_I m)] rfl rfl rfl rfl rfl rfl (vq_row b m) rfl rfl Kz) ?_
            refine jv_Wp.lift (fun _ Kz => jv_Ev.steps jv_i280 1 (pc' := 141) (l' := [(8, .int (1 : Int32)), (7, .int (1 : Int32)), (6, .int (vl_I (75 * b + m))), (5, .int (vl_I (75 * a + m))), (0, .ref 196), (1, .int (vl_I a)), (2, .int (vl_I m)), (3, .int (vl_I b)), (4, .int (vr_b w))]) (st' := [.int (vr_b w), .int (vl_I (8 + (75 * b + m))), .int (vl_I (8 + (75 * a + m))), .ref 208]) rfl Kz) ?_
            have c205 : I 205 (75 * a + m) = I 205 (75 * b + m) := (Classical.not_not.mp h1)
            have c206 : I 206 (75 * a + m) = I 206 (75 * b + m) := (Classical.not_not.mp h2)
            have c207 : I 207 (75 * a + m) = I 207 (75 * b + m) := (Classical.not_not.mp h3)
            have c9 : ¬ I 205 (75 * a + m) = 9 := h4
            have cv := vr_b_t h5
            rw [(vr_fr_i F13 (x := 75 * a + m) (by omega)).1] at cv
            have cy : vc_hv (I 205 (75 * b + m)) = true := by rw [← c205]; exact cv
            obtain ⟨L14, H14, S14, F14⟩ := vq_meet (I := I13) (L := L13) (R := R) (n := n) (sl := sl) (a := 8 + (75 * a + m)) (b := 8 + (75 * b + m)) w hW (by omega) (by omega) (by omega) (by omega) Z13 (by rw [vr_fr_S F13 (x := 75 * a + m) (by omega)]; exact vr_tight okx tx cv) (by rw [vr_fr_S F13 (x := 75 * b + m) (by omega)]; exact vr_tight oky ty cy)
            rw [vr_fr_S F13 (x := 75 * a + m) (by omega), vr_fr_S F13 (x := 75 * b + m) (by omega)] at S14
            refine jv_Wp.lift (fun _ Kz => jv_Ev.c jv_i280 (pc' := 144) (S' := []) (G1 := (jv_H K I13 L14 R)) jv_i250 [.ref 208, .int (vl_I (8 + (75 * a + m))), .int (vl_I (8 + (75 * b + m))), .int (vr_b w)] rfl rfl rfl rfl (jv_cal rfl (jv_H_at (jv_rwK hW 208 11 7 (by decide))) rfl rfl) rfl H14 rfl rfl Kz) ?_
            refine jv_Wp.lift (fun _ Kz => jv_Ev.steps jv_i280 1 (pc' := 145) (l' := [(8, .int (1 : Int32)), (7, .int (1 : Int32)), (6, .int (vl_I (75 * b + m))), (5, .int (vl_I (75 * a + m))), (0, .ref 196), (1, .int (vl_I a)), (2, .int (vl_I m)), (3, .int (vl_I b)), (4, .int (vr_b w))]) (st' := [.ref 196]) rfl Kz) ?_
            refine jv_Wp.lift (fun _ Kz => jv_Ev.m jv_i280 (pc' := 148) (st' := [.ref 208]) (G' := (jv_H K I13 L14 R)) rfl rfl (jv_m_getR (jv_rwK hW 196 12 24 (by decide)) rfl rfl (jv_rwR hW 196 16 208 (by decide))) Kz) ?_
            refine jv_Wp.lift (fun _ Kz => jv_Ev.steps jv_i280 3 (pc' := 153) (l' := [(8, .int (1 : Int32)), (7, .int (1 : Int32)), (6, .int (vl_I (75 * b + m))), (5, .int (vl_I (75 * a + m))), (0, .ref 196), (1, .int (vl_I a)), (2, .int (vl_I m)), (3, .int (vl_I b)), (4, .int (vr_b w))]) (st' := [.int (vl_I m), .int (1026 : Int32), .int (2 : Int32), .ref 208]) rfl Kz) ?_
            refine jv_Wp.lift (fun _ Kz => jv_Ev.c jv_i280 (pc' := 156) (S' := [.int (vl_I (8 + (76950 + m))), .int (2 : Int32), .ref 208]) jv_i254 [.int (1026 : Int32), .int (vl_I m)] rfl rfl rfl rfl rfl rfl (vq_row 1026 m) rfl rfl Kz) ?_
            obtain ⟨I15, L15, H15, S15, F15⟩ := vq_copy (I := I13) (L := L14) (R := R) (n := n) (sl := sl) (a := 2) (d := (8 + (76950 + m))) hW (by omega) (by omega) Z13 (Z13 _ (by omega))
            have Z15 := F15.1
            refine jv_Wp.lift (fun _ Kz => jv_Ev.c jv_i280 (pc' := 159) (S' := []) (G1 := (jv_H K I15 L15 R)) jv_i208 [.ref 208, .int (2 : Int32), .int (vl_I (8 + (76950 + m)))] rfl rfl rfl rfl (jv_cal rfl (jv_H_at (jv_rwK hW 208 11 7 (by decide))) rfl rfl) rfl H15 rfl rfl Kz) ?_
            refine jv_Wp.lift (fun _ Kz => jv_Ev.steps jv_i280 1 (pc' := 203) (l' := [(8, .int (1 : Int32)), (7, .int (1 : Int32)), (6, .int (vl_I (75 * b + m))), (5, .int (vl_I (75 * a + m))), (0, .ref 196), (1, .int (vl_I a)), (2, .int (vl_I m)), (3, .int (vl_I b)), (4, .int (vr_b w))]) (st' := []) rfl Kz) ?_
            refine jv_Wp.of (jv_Ev.ret jv_i280 rfl rfl) ?_
            rw [hQ]
            have c205 : I 205 (75 * a + m) = I 205 (75 * b + m) := (Classical.not_not.mp h1)
            have c206 : I 206 (75 * a + m) = I 206 (75 * b + m) := (Classical.not_not.mp h2)
            have c207 : I 207 (75 * a + m) = I 207 (75 * b + m) := (Classical.not_not.mp h3)
            have c9 : ¬ I 205 (75 * a + m) = 9 := h4
            have es := vr_srt_eq (L := L) c205
            have s0 : (vr_T I L (75 * a + m)).sort ≠ 0 := fun z => by rcases (vr_is0 okx).mp z with y | y <;> (rw [y] at cv; exact absurd cv (by decide))
            have e := vt_meet_val (w := w) s0 es (congrArg Int32.toInt c206) (congrArg Int32.toInt c207) ((vr_hasT okx).trans cv)
            rw [vr_valv cv, vr_valv cy] at e
            have q5 : I15 205 (76950 + m) = I 205 (75 * a + m) := (F15.2.1 205 _ (by decide)).trans A13
            have q6 : I15 206 (76950 + m) = I 206 (75 * a + m) := (F15.2.1 206 _ (by decide)).trans B13
            have q7 : I15 207 (76950 + m) = I 207 (75 * a + m) := (F15.2.1 207 _ (by decide)).trans C13
            refine ⟨_, _, rfl, ?_, vr_okW q5 q6 q7 okx, vr_fr_trans F13 (vr_fr_trans (vq_rf_fr F14 (by decide)) (vq_rf_frx F15 rfl))⟩
            rw [vr_T_set q5 q6 q7, S15, S14, vb_toS_toR, vr_D_v cv, e]; rfl
theorem vq_rmeetR {K : Nat → Option (Nat × Nat)} {I : Nat → Nat → Int32} {L : Nat → Nat → Int64} {R : Nat → Nat → Value} (a m b : Nat) (w : Bool) (hW : jv_rW K R) (hf : vr_fl I) (ha : a < 1026) (hb : b < 1028) (hb2 : b ≠ 1026) (hm75 : m < 75) (hm : m < 11) (okx : vr_ok I (75 * a + m) m) (oky : vr_ok I (75 * b + m) m) (tx : vt_ok (vr_T I L (75 * a + m))) (ty : vt_ok (vr_T I L (75 * b + m))) {n sl : Nat} : ∃ I1 L1, jv_Ms 280 [.ref 196, .int (vl_I a), .int (vl_I m), .int (vl_I b), .int (vr_b w)] (jv_H K I L R) n sl (none, jv_H K I1 L1 R, n, sl) ∧ vr_T I1 L1 (76950 + m) = vt_meet w (vr_T I L (75 * a + m)) (vr_T I L (75 * b + m)) ∧ vr_ok I1 (76950 + m) m ∧ vr_fr (fun x => x = 76950 + m) noE I L I1 L1 := by
  obtain ⟨Q, hQ⟩ : ∃ Q : jv_R → Prop, Q = fun X => ∃ I1 L1, X = (none, jv_H K I1 L1 R, n, sl) ∧ vr_T I1 L1 (76950 + m) = vt_meet w (vr_T I L (75 * a + m)) (vr_T I L (75 * b + m)) ∧ vr_ok I1 (76950 + m) m ∧ vr_fr (fun x => x = 76950 + m) noE I L I1 L1 := ⟨_, rfl⟩
  suffices h : jv_Wp 280 0 [(0, .ref 196), (1, .int (vl_I a)), (2, .int (vl_I m)), (3, .int (vl_I b)), (4, .int (vr_b w))] [] (jv_H K I L R) n sl Q by
    rw [hQ] at h
    obtain ⟨X, h, I1, L1, e, h'⟩ := h
    subst e
    exact ⟨I1, L1, h, h'⟩
  refine jv_Wp.lift (fun _ Kz => jv_Ev.steps jv_i280 2 (pc' := 2) (l' := [(0, .ref 196), (1, .int (vl_I a)), (2, .int (vl_I m)), (3, .int (vl_I b)), (4, .int (vr_b w))]) (st' := [.int (vl_I m), .int (vl_I a)]) rfl Kz) ?_
  refine jv_Wp.lift (fun _ Kz => jv_Ev.c jv_i280 (pc' := 5) (S' := [.int (vl_I (75 * a + m))]) jv_i253 [.int (vl_I a), .int (vl_I m)] rfl rfl rfl rfl rfl rfl (vq_thing a m) rfl rfl Kz) ?_
  refine jv_Wp.lift (fun _ Kz => jv_Ev.steps jv_i280 3 (pc' := 9) (l' := [(5, .int (vl_I (75 * a + m))), (0, .ref 196), (1, .int (vl_I a)), (2, .int (vl_I m)), (3, .int (vl_I b)), (4, .int (vr_b w))]) (st' := [.int (vl_I m), .int (vl_I b)]) rfl Kz) ?_
  refine jv_Wp.lift (fun _ Kz => jv_Ev.c jv_i280 (pc' := 12) (S' := [.int (vl_I (75 * b + m))]) jv_i253 [.int (vl_I b), .int (vl_I m)] rfl rfl rfl rfl rfl rfl (vq_thing b m) rfl rfl Kz) ?_
  refine jv_Wp.lift (fun _ Kz => jv_Ev.steps jv_i280 3 (pc' := 17) (l' := [(6, .int (vl_I (75 * b + m))), (5, .int (vl_I (75 * a + m))), (0, .ref 196), (1, .int (vl_I a)), (2, .int (vl_I m)), (3, .int (vl_I b)), (4, .int (vr_b w))]) (st' := [.int (11 : Int32), .int (vl_I m)]) rfl Kz) ?_
  refine jv_Wp.cnd jv_i280 (pt := 24) (pe := 20) (p := ((vl_I m) < (11 : Int32))) (q := ((vl_I m) < (11 : Int32))) rfl jv_bc_lt rfl rfl Iff.rfl (fun _ => ?_) (fun hz => absurd ((vl_I_lt (b := 11) (by omega) (by decide)).mpr hm) hz)
  refine jv_Wp.lift (fun _ Kz => jv_Ev.steps jv_i280 3 (pc' := 28) (l' := [(7, .int (0 : Int32)), (6, .int (vl_I (75 * b + m))), (5, .int (vl_I (75 * a + m))), (0, .ref 196), (1, .int (vl_I a)), (2, .int (vl_I m)), (3, .int (vl_I b)), (4, .int (vr_b w))]) (st' := [.ref 196]) rfl Kz) ?_
  refine jv_Wp.lift (fun _ Kz => jv_Ev.m jv_i280 (pc' := 31) (st' := [.ref 205]) (G' := (jv_H K I L R)) rfl rfl (jv_m_getR (jv_rwK hW 196 12 24 (by decide)) rfl rfl (jv_rwR hW 196 13 205 (by decide))) Kz) ?_
  refine jv_Wp.lift (fun _ Kz => jv_Ev.steps jv_i280 1 (pc' := 33) (l' := [(7, .int (0 : Int32)), (6, .int (vl_I (75 * b + m))), (5, .int (vl_I (75 * a + m))), (0, .ref 196), (1, .int (vl_I a)), (2, .int (vl_I m)), (3, .int (vl_I b)), (4, .int (vr_b w))]) (st' := [.int (vl_I (75 * a + m)), .ref 205]) rfl Kz) ?_
  refine jv_Wp.lift (fun _ Kz => jv_Ev.m jv_i280 (pc' := 34) (st' := [.int (I 205 (75 * a + m))]) (G' := (jv_H K I L R)) rfl rfl (jv_m_ialdv (jv_rwK hW 205 102 77100 (by decide)) rfl (vl_I_ix (by omega) (by decide)) rfl ((congrArg (I 205) (vl_I_nat (by omega))).trans rfl)) Kz) ?_
  refine jv_Wp.lift (fun _ Kz => jv_Ev.steps jv_i280 1 (pc' := 35) (l' := [(7, .int (0 : Int32)), (6, .int (vl_I (75 * b + m))), (5, .int (vl_I (75 * a + m))), (0, .ref 196), (1, .int (vl_I a)), (2, .int (vl_I m)), (3, .int (vl_I b)), (4, .int (vr_b w))]) (st' := [.ref 196, .int (I 205 (75 * a + m))]) rfl Kz) ?_
  refine jv_Wp.lift (fun _ Kz => jv_Ev.m jv_i280 (pc' := 38) (st' := [.ref 205, .int (I 205 (75 * a + m))]) (G' := (jv_H K I L R)) rfl rfl (jv_m_getR (jv_rwK hW 196 12 24 (by decide)) rfl rfl (jv_rwR hW 196 13 205 (by decide))) Kz) ?_
  refine jv_Wp.lift (fun _ Kz => jv_Ev.steps jv_i280 1 (pc' := 40) (l' := [(7, .int (0 : Int32)), (6, .int (vl_I (75 * b + m))), (5, .int (vl_I (75 * a + m))), (0, .ref 196), (1, .int (vl_I a)), (2, .int (vl_I m)), (3, .int (vl_I b)), (4, .int (vr_b w))]) (st' := [.int (vl_I (75 * b + m)), .ref 205, .int (I 205 (75 * a + m))]) rfl Kz) ?_
  refine jv_Wp.lift (fun _ Kz => jv_Ev.m jv_i280 (pc' := 41) (st' := [.int (I 205 (75 * b + m)), .int (I 205 (75 * a + m))]) (G' := (jv_H K I L R)) rfl rfl (jv_m_ialdv (jv_rwK hW 205 102 77100 (by decide)) rfl (vl_I_ix (by omega) (by decide)) rfl ((congrArg (I 205) (vl_I_nat (by omega))).trans rfl)) Kz) ?_
  refine jv_Wp.cnd jv_i280 (pt := 94) (pe := 44) (p := (¬ (I 205 (75 * a + m)) = (I 205 (75 * b + m)))) (q := (¬ (I 205 (75 * a + m)) = (I 205 (75 * b + m)))) rfl jv_bc_ne rfl rfl Iff.rfl (fun h1 => ?_) (fun h1 => ?_)
  · refine jv_Wp.lift (fun _ Kz => jv_Ev.steps jv_i280 3 (pc' := 99) (l' := [(8, .int (0 : Int32)), (7, .int (0 : Int32)), (6, .int (vl_I (75 * b + m))), (5, .int (vl_I (75 * a + m))), (0, .ref 196), (1, .int (vl_I a)), (2, .int (vl_I m)), (3, .int (vl_I b)), (4, .int (vr_b w))]) (st' := [.int (0 : Int32)]) rfl Kz) ?_
    refine jv_Wp.lift (fun _ Kz => jv_Ev.br jv_i280 (pc' := 162) (st' := []) rfl (by rfl) Kz) ?_
    refine jv_Wp.lift (fun _ Kz => jv_Ev.steps jv_i280 1 (pc' := 164) (l' := [(8, .int (0 : Int32)), (7, .int (0 : Int32)), (6, .int (vl_I (75 * b + m))), (5, .int (vl_I (75 * a + m))), (0, .ref 196), (1, .int (vl_I a)), (2, .int (vl_I m)), (3, .int (vl_I b)), (4, .int (vr_b w))]) (st' := [.int (0 : Int32)]) rfl Kz) ?_
    refine jv_Wp.lift (fun _ Kz => jv_Ev.br jv_i280 (pc' := 193) (st' := []) rfl (by rfl) Kz) ?_
    refine jv_Wp.lift (fun _ Kz => jv_Ev.steps jv_i280 5 (pc' := 200) (l' := [(8, .int (0 : Int32)), (7, .int (0 : Int32)), (6, .int (vl_I (75 * b + m))), (5, .int (vl_I (75 * a + m))), (0, .ref 196), (1, .int (vl_I a)), (2, .int (vl_I m)), (3, .int (vl_I b)), (4, .int (vr_b w))]) (st' := [.int (0 : Int32), .int (0 : Int32), .int (vl_I m), .int (1026 : Int32), .ref 196]) rfl Kz) ?_
    obtain ⟨I16, L16, H16, A16, B16, C16, F16, eL16⟩ := vq_setx (I := I) (L := L) (R := R) (n := n) (sl := sl) 1026 m (0 : Int32) (0 : Int32) hW hf (by omega)
    refine jv_Wp.lift (fun _ Kz => jv_Ev.c jv_i280 (pc' := 203) (S' := []) (G1 := (jv_H K I16 L16 R)) jv_i272 [.ref 196, .int (1026 : Int32), .int (vl_I m), .int (0 : Int32), .int (0 : Int32)] rfl rfl rfl rfl (jv_cal rfl (jv_H_at (jv_rwK hW 196 12 24 (by decide))) rfl rfl) rfl H16 rfl rfl Kz) ?_
    refine jv_Wp.of (jv_Ev.ret jv_i280 rfl rfl) ?_
    rw [hQ]
    have c205 : ¬ I 205 (75 * a + m) = I 205 (75 * b + m) := h1
    have ne : ¬ ((vr_T I L (75 * a + m)).sort ≠ 0 ∧ (vr_T I L (75 * a + m)).sort = (vr_T I L (75 * b + m)).sort ∧ (vr_T I L (75 * a + m)).det = (vr_T I L (75 * b + m)).det ∧ (vr_T I L (75 * a + m)).org = (vr_T I L (75 * b + m)).org) := fun z => c205 (vr_srt_inj okx oky z.1 z.2.1)
    have e := vt_meet_no (w := w) ne
    rw [vt_meet_wr0 hm okx oky ne] at e
    refine ⟨_, _, rfl, ?_, ?_, F16⟩
    · rw [vr_T_set A16 B16 C16, e]; rfl
    · unfold vr_ok; rw [A16, B16, C16]; exact Or.inr (Or.inl ⟨rfl, hm, rfl, rfl⟩)
  · refine jv_Wp.lift (fun _ Kz => jv_Ev.steps jv_i280 1 (pc' := 45) (l' := [(7, .int (0 : Int32)), (6, .int (vl_I (75 * b + m))), (5, .int (vl_I (75 * a + m))), (0, .ref 196), (1, .int (vl_I a)), (2, .int (vl_I m)), (3, .int (vl_I b)), (4, .int (vr_b w))]) (st' := [.ref 196]) rfl Kz) ?_
    refine jv_Wp.lift (fun _ Kz => jv_Ev.m jv_i280 (pc' := 48) (st' := [.ref 206]) (G' := (jv_H K I L R)) rfl rfl (jv_m_getR (jv_rwK hW 196 12 24 (by decide)) rfl rfl (jv_rwR hW 196 14 206 (by decide))) Kz) ?_
    refine jv_Wp.lift (fun _ Kz => jv_Ev.steps jv_i280 1 (pc' := 50) (l' := [(7, .int (0 : Int32)), (6, .int (vl_I (75 * b + m))), (5, .int (vl_I (75 * a + m))), (0, .ref 196), (1, .int (vl_I a)), (2, .int (vl_I m)), (3, .int (vl_I b)), (4, .int (vr_b w))]) (st' := [.int (vl_I (75 * a + m)), .ref 206]) rfl Kz) ?_
    refine jv_Wp.lift (fun _ Kz => jv_Ev.m jv_i280 (pc' := 51) (st' := [.int (I 206 (75 * a + m))]) (G' := (jv_H K I L R)) rfl rfl (jv_m_ialdv (jv_rwK hW 206 102 77100 (by decide)) rfl (vl_I_ix (by omega) (by decide)) rfl ((congrArg (I 206) (vl_I_nat (by omega))).trans rfl)) Kz) ?_
    refine jv_Wp.lift (fun _ Kz => jv_Ev.steps jv_i280 1 (pc' := 52) (l' := [(7, .int (0 : Int32)), (6, .int (vl_I (75 * b + m))), (5, .int (vl_I (75 * a + m))), (0, .ref 196), (1, .int (vl_I a)), (2, .int (vl_I m)), (3, .int (vl_I b)), (4, .int (vr_b w))]) (st' := [.ref 196, .int (I 206 (75 * a + m))]) rfl Kz) ?_
    refine jv_Wp.lift (fun _ Kz => jv_Ev.m jv_i280 (pc' := 55) (st' := [.ref 206, .int (I 206 (75 * a + m))]) (G' := (jv_H K I L R)) rfl rfl (jv_m_getR (jv_rwK hW 196 12 24 (by decide)) rfl rfl (jv_rwR hW 196 14 206 (by decide))) Kz) ?_
    refine jv_Wp.lift (fun _ Kz => jv_Ev.steps jv_i280 1 (pc' := 57) (l' := [(7, .int (0 : Int32)), (6, .int (vl_I (75 * b + m))), (5, .int (vl_I (75 * a + m))), (0, .ref 196), (1, .int (vl_I a)), (2, .int (vl_I m)), (3, .int (vl_I b)), (4, .int (vr_b w))]) (st' := [.int (vl_I (75 * b + m)), .ref 206, .int (I 206 (75 * a + m))]) rfl Kz) ?_
    refine jv_Wp.lift (fun _ Kz => jv_Ev.m jv_i280 (pc' := 58) (st' := [.int (I 206 (75 * b + m)), .int (I 206 (75 * a + m))]) (G' := (jv_H K I L R)) rfl rfl (jv_m_ialdv (jv_rwK hW 206 102 77100 (by decide)) rfl (vl_I_ix (by omega) (by decide)) rfl ((congrArg (I 206) (vl_I_nat (by omega))).trans rfl)) Kz) ?_
    refine jv_Wp.cnd jv_i280 (pt := 94) (pe := 61) (p := (¬ (I 206 (75 * a + m)) = (I 206 (75 * b + m)))) (q := (¬ (I 206 (75 * a + m)) = (I 206 (75 * b + m)))) rfl jv_bc_ne rfl rfl Iff.rfl (fun h2 => ?_) (fun h2 => ?_)
    · refine jv_Wp.lift (fun _ Kz => jv_Ev.steps jv_i280 3 (pc' := 99) (l' := [(8, .int (0 : Int32)), (7, .int (0 : Int32)), (6, .int (vl_I (75 * b + m))), (5, .int (vl_I (75 * a + m))), (0, .ref 196), (1, .int (vl_I a)), (2, .int (vl_I m)), (3, .int (vl_I b)), (4, .int (vr_b w))]) (st' := [.int (0 : Int32)]) rfl Kz) ?_
      refine jv_Wp.lift (fun _ Kz => jv_Ev.br jv_i280 (pc' := 162) (st' := []) rfl (by rfl) Kz) ?_
      refine jv_Wp.lift (fun _ Kz => jv_Ev.steps jv_i280 1 (pc' := 164) (l' := [(8, .int (0 : Int32)), (7, .int (0 : Int32)), (6, .int (vl_I (75 * b + m))), (5, .int (vl_I (75 * a + m))), (0, .ref 196), (1, .int (vl_I a)), (2, .int (vl_I m)), (3, .int (vl_I b)), (4, .int (vr_b w))]) (st' := [.int (0 : Int32)]) rfl Kz) ?_
      refine jv_Wp.lift (fun _ Kz => jv_Ev.br jv_i280 (pc' := 193) (st' := []) rfl (by rfl) Kz) ?_
      refine jv_Wp.lift (fun _ Kz => jv_Ev.steps jv_i280 5 (pc' := 200) (l' := [(8, .int (0 : Int32)), (7, .int (0 : Int32)), (6, .int (vl_I (75 * b + m))), (5, .int (vl_I (75 * a + m))), (0, .ref 196), (1, .int (vl_I a)), (2, .int (vl_I m)), (3, .int (vl_I b)), (4, .int (vr_b w))]) (st' := [.int (0 : Int32), .int (0 : Int32), .int (vl_I m), .int (1026 : Int32), .ref 196]) rfl Kz) ?_
      obtain ⟨I17, L17, H17, A17, B17, C17, F17, eL17⟩ := vq_setx (I := I) (L := L) (R := R) (n := n) (sl := sl) 1026 m (0 : Int32) (0 : Int32) hW hf (by omega)
      refine jv_Wp.lift (fun _ Kz => jv_Ev.c jv_i280 (pc' := 203) (S' := []) (G1 := (jv_H K I17 L17 R)) jv_i272 [.ref 196, .int (1026 : Int32), .int (vl_I m), .int (0 : Int32), .int (0 : Int32)] rfl rfl rfl rfl (jv_cal rfl (jv_H_at (jv_rwK hW 196 12 24 (by decide))) rfl rfl) rfl H17 rfl rfl Kz) ?_
      refine jv_Wp.of (jv_Ev.ret jv_i280 rfl rfl) ?_
      rw [hQ]
      have c205 : I 205 (75 * a + m) = I 205 (75 * b + m) := (Classical.not_not.mp h1)
      have c206 : ¬ I 206 (75 * a + m) = I 206 (75 * b + m) := h2
      have ne : ¬ ((vr_T I L (75 * a + m)).sort ≠ 0 ∧ (vr_T I L (75 * a + m)).sort = (vr_T I L (75 * b + m)).sort ∧ (vr_T I L (75 * a + m)).det = (vr_T I L (75 * b + m)).det ∧ (vr_T I L (75 * a + m)).org = (vr_T I L (75 * b + m)).org) := fun z => c206 (Int32.toInt_inj.mp z.2.2.1)
      have e := vt_meet_no (w := w) ne
      rw [vt_meet_wr0 hm okx oky ne] at e
      refine ⟨_, _, rfl, ?_, ?_, F17⟩
      · rw [vr_T_set A17 B17 C17, e]; rfl
      · unfold vr_ok; rw [A17, B17, C17]; exact Or.inr (Or.inl ⟨rfl, hm, rfl, rfl⟩)
    · refine jv_Wp.lift (fun _ Kz => jv_Ev.steps jv_i280 1 (pc' := 62) (l' := [(7, .int (0 : Int32)), (6, .int (vl_I (75 * b + m))), (5, .int (vl_I (75 * a + m))), (0, .ref 196), (1, .int (vl_I a)), (2, .int (vl_I m)), (3, .int (vl_I b)), (4, .int (vr_b w))]) (st' := [.ref 196]) rfl Kz) ?_
      refine jv_Wp.lift (fun _ Kz => jv_Ev.m jv_i280 (pc' := 65) (st' := [.ref 207]) (G' := (jv_H K I L R)) rfl rfl (jv_m_getR (jv_rwK hW 196 12 24 (by decide)) rfl rfl (jv_rwR hW 196 15 207 (by decide))) Kz) ?_
      refine jv_Wp.lift (fun _ Kz => jv_Ev.steps jv_i280 1 (pc' := 67) (l' := [(7, .int (0 : Int32)), (6, .int (vl_I (75 * b + m))), (5, .int (vl_I (75 * a + m))), (0, .ref 196), (1, .int (vl_I a)), (2, .int (vl_I m)), (3, .int (vl_I b)), (4, .int (vr_b w))]) (st' := [.int (vl_I (75 * a + m)), .ref 207]) rfl Kz) ?_
      refine jv_Wp.lift (fun _ Kz => jv_Ev.m jv_i280 (pc' := 68) (st' := [.int (I 207 (75 * a + m))]) (G' := (jv_H K I L R)) rfl rfl (jv_m_ialdv (jv_rwK hW 207 102 77100 (by decide)) rfl (vl_I_ix (by omega) (by decide)) rfl ((congrArg (I 207) (vl_I_nat (by omega))).trans rfl)) Kz) ?_
      refine jv_Wp.lift (fun _ Kz => jv_Ev.steps jv_i280 1 (pc' := 69) (l' := [(7, .int (0 : Int32)), (6, .int (vl_I (75 * b + m))), (5, .int (vl_I (75 * a + m))), (0, .ref 196), (1, .int (vl_I a)), (2, .int (vl_I m)), (3, .int (vl_I b)), (4, .int (vr_b w))]) (st' := [.ref 196, .int (I 207 (75 * a + m))]) rfl Kz) ?_
      refine jv_Wp.lift (fun _ Kz => jv_Ev.m jv_i280 (pc' := 72) (st' := [.ref 207, .int (I 207 (75 * a + m))]) (G' := (jv_H K I L R)) rfl rfl (jv_m_getR (jv_rwK hW 196 12 24 (by decide)) rfl rfl (jv_rwR hW 196 15 207 (by decide))) Kz) ?_
      refine jv_Wp.lift (fun _ Kz => jv_Ev.steps jv_i280 1 (pc' := 74) (l' := [(7, .int (0 : Int32)), (6, .int (vl_I (75 * b + m))), (5, .int (vl_I (75 * a + m))), (0, .ref 196), (1, .int (vl_I a)), (2, .int (vl_I m)), (3, .int (vl_I b)), (4, .int (vr_b w))]) (st' := [.int (vl_I (75 * b + m)), .ref 207, .int (I 207 (75 * a + m))]) rfl Kz) ?_
      refine jv_Wp.lift (fun _ Kz => jv_Ev.m jv_i280 (pc' := 75) (st' := [.int (I 207 (75 * b + m)), .int (I 207 (75 * a + m))]) (G' := (jv_H K I L R)) rfl rfl (jv_m_ialdv (jv_rwK hW 207 102 77100 (by decide)) rfl (vl_I_ix (by omega) (by decide)) rfl ((congrArg (I 207) (vl_I_nat (by omega))).trans rfl)) Kz) ?_
      refine jv_Wp.cnd jv_i280 (pt := 94) (pe := 78) (p := (¬ (I 207 (75 * a + m)) = (I 207 (75 * b + m)))) (q := (¬ (I 207 (75 * a + m)) = (I 207 (75 * b + m)))) rfl jv_bc_ne rfl rfl Iff.rfl (fun h3 => ?_) (fun h3 => ?_)
      · refine jv_Wp.lift (fun _ Kz => jv_Ev.steps jv_i280 3 (pc' := 99) (l' := [(8, .int (0 : Int32)), (7, .int (0 : Int32)), (6, .int (vl_I (75 * b + m))), (5, .int (vl_I (75 * a + m))), (0, .ref 196), (1, .int (vl_I a)), (2, .int (vl_I m)), (3, .int (vl_I b)), (4, .int (vr_b w))]) (st' := [.int (0 : Int32)]) rfl Kz) ?_
        refine jv_Wp.lift (fun _ Kz => jv_Ev.br jv_i280 (pc' := 162) (st' := []) rfl (by rfl) Kz) ?_
        refine jv_Wp.lift (fun _ Kz => jv_Ev.steps jv_i280 1 (pc' := 164) (l' := [(8, .int (0 : Int32)), (7, .int (0 : Int32)), (6, .int (vl_I (75 * b + m))), (5, .int (vl_I (75 * a + m))), (0, .ref 196), (1, .int (vl_I a)), (2, .int (vl_I m)), (3, .int (vl_I b)), (4, .int (vr_b w))]) (st' := [.int (0 : Int32)]) rfl Kz) ?_
        refine jv_Wp.lift (fun _ Kz => jv_Ev.br jv_i280 (pc' := 193) (st' := []) rfl (by rfl) Kz) ?_
        refine jv_Wp.lift (fun _ Kz => jv_Ev.steps jv_i280 5 (pc' := 200) (l' := [(8, .int (0 : Int32)), (7, .int (0 : Int32)), (6, .int (vl_I (75 * b + m))), (5, .int (vl_I (75 * a + m))), (0, .ref 196), (1, .int (vl_I a)), (2, .int (vl_I m)), (3, .int (vl_I b)), (4, .int (vr_b w))]) (st' := [.int (0 : Int32), .int (0 : Int32), .int (vl_I m), .int (1026 : Int32), .ref 196]) rfl Kz) ?_
        obtain ⟨I18, L18, H18, A18, B18, C18, F18, eL18⟩ := vq_setx (I := I) (L := L) (R := R) (n := n) (sl := sl) 1026 m (0 : Int32) (0 : Int32) hW hf (by omega)
        refine jv_Wp.lift (fun _ Kz => jv_Ev.c jv_i280 (pc' := 203) (S' := []) (G1 := (jv_H K I18 L18 R)) jv_i272 [.ref 196, .int (1026 : Int32), .int (vl_I m), .int (0 : Int32), .int (0 : Int32)] rfl rfl rfl rfl (jv_cal rfl (jv_H_at (jv_rwK hW 196 12 24 (by decide))) rfl rfl) rfl H18 rfl rfl Kz) ?_
        refine jv_Wp.of (jv_Ev.ret jv_i280 rfl rfl) ?_
        rw [hQ]
        have c205 : I 205 (75 * a + m) = I 205 (75 * b + m) := (Classical.not_not.mp h1)
        have c206 : I 206 (75 * a + m) = I 206 (75 * b + m) := (Classical.not_not.mp h2)
        have c207 : ¬ I 207 (75 * a + m) = I 207 (75 * b + m) := h3
        have ne : ¬ ((vr_T I L (75 * a + m)).sort ≠ 0 ∧ (vr_T I L (75 * a + m)).sort = (vr_T I L (75 * b + m)).sort ∧ (vr_T I L (75 * a + m)).det = (vr_T I L (75 * b + m)).det ∧ (vr_T I L (75 * a + m)).org = (vr_T I L (75 * b + m)).org) := fun z => c207 (Int32.toInt_inj.mp z.2.2.2)
        have e := vt_meet_no (w := w) ne
        rw [vt_meet_wr0 hm okx oky ne] at e
        refine ⟨_, _, rfl, ?_, ?_, F18⟩
        · rw [vr_T_set A18 B18 C18, e]; rfl
        · unfold vr_ok; rw [A18, B18, C18]; exact Or.inr (Or.inl ⟨rfl, hm, rfl, rfl⟩)
      · refine jv_Wp.lift (fun _ Kz => jv_Ev.steps jv_i280 1 (pc' := 79) (l' := [(7, .int (0 : Int32)), (6, .int (vl_I (75 * b + m))), (5, .int (vl_I (75 * a + m))), (0, .ref 196), (1, .int (vl_I a)), (2, .int (vl_I m)), (3, .int (vl_I b)), (4, .int (vr_b w))]) (st' := [.ref 196]) rfl Kz) ?_
        refine jv_Wp.lift (fun _ Kz => jv_Ev.m jv_i280 (pc' := 82) (st' := [.ref 205]) (G' := (jv_H K I L R)) rfl rfl (jv_m_getR (jv_rwK hW 196 12 24 (by decide)) rfl rfl (jv_rwR hW 196 13 205 (by decide))) Kz) ?_
        refine jv_Wp.lift (fun _ Kz => jv_Ev.steps jv_i280 1 (pc' := 84) (l' := [(7, .int (0 : Int32)), (6, .int (vl_I (75 * b + m))), (5, .int (vl_I (75 * a + m))), (0, .ref 196), (1, .int (vl_I a)), (2, .int (vl_I m)), (3, .int (vl_I b)), (4, .int (vr_b w))]) (st' := [.int (vl_I (75 * a + m)), .ref 205]) rfl Kz) ?_
        refine jv_Wp.lift (fun _ Kz => jv_Ev.m jv_i280 (pc' := 85) (st' := [.int (I 205 (75 * a + m))]) (G' := (jv_H K I L R)) rfl rfl (jv_m_ialdv (jv_rwK hW 205 102 77100 (by decide)) rfl (vl_I_ix (by omega) (by decide)) rfl ((congrArg (I 205) (vl_I_nat (by omega))).trans rfl)) Kz) ?_
        refine jv_Wp.lift (fun _ Kz => jv_Ev.steps jv_i280 1 (pc' := 87) (l' := [(7, .int (0 : Int32)), (6, .int (vl_I (75 * b + m))), (5, .int (vl_I (75 * a + m))), (0, .ref 196), (1, .int (vl_I a)), (2, .int (vl_I m)), (3, .int (vl_I b)), (4, .int (vr_b w))]) (st' := [.int (9 : Int32), .int (I 205 (75 * a + m))]) rfl Kz) ?_
        refine jv_Wp.cnd jv_i280 (pt := 94) (pe := 90) (p := ((I 205 (75 * a + m)) = (9 : Int32))) (q := ((I 205 (75 * a + m)) = (9 : Int32))) rfl jv_bc_eq rfl rfl Iff.rfl (fun hz => absurd hz (vr_reg okx hm)) (fun _ => ?_)
        refine jv_Wp.lift (fun _ Kz => jv_Ev.steps jv_i280 4 (pc' := 99) (l' := [(8, .int (1 : Int32)), (7, .int (0 : Int32)), (6, .int (vl_I (75 * b + m))), (5, .int (vl_I (75 * a + m))), (0, .ref 196), (1, .int (vl_I a)), (2, .int (vl_I m)), (3, .int (vl_I b)), (4, .int (vr_b w))]) (st' := [.int (1 : Int32)]) rfl Kz) ?_
        refine jv_Wp.lift (fun _ Kz => jv_Ev.br jv_i280 (pc' := 102) (st' := []) rfl (by rfl) Kz) ?_
        refine jv_Wp.lift (fun _ Kz => jv_Ev.steps jv_i280 5 (pc' := 109) (l' := [(8, .int (1 : Int32)), (7, .int (0 : Int32)), (6, .int (vl_I (75 * b + m))), (5, .int (vl_I (75 * a + m))), (0, .ref 196), (1, .int (vl_I a)), (2, .int (vl_I m)), (3, .int (vl_I b)), (4, .int (vr_b w))]) (st' := [.int (vl_I m), .int (1026 : Int32), .int (vl_I m), .int (vl_I a), .ref 196]) rfl Kz) ?_
        obtain ⟨I19, L19, H19, A19, B19, C19, S19, F19⟩ := vq_copyThing (I := I) (L := L) (R := R) (n := n) (sl := sl) a m 1026 m hW hf (by omega) (by omega)
        have Z19 := vr_fl_of F19
        refine jv_Wp.lift (fun _ Kz => jv_Ev.c jv_i280 (pc' := 112) (S' := []) (G1 := (jv_H K I19 L19 R)) jv_i275 [.ref 196, .int (vl_I a), .int (vl_I m), .int (1026 : Int32), .int (vl_I m)] rfl rfl rfl rfl (jv_cal rfl (jv_H_at (jv_rwK hW 196 12 24 (by decide))) rfl rfl) rfl H19 rfl rfl Kz) ?_
        refine jv_Wp.lift (fun _ Kz => jv_Ev.steps jv_i280 1 (pc' := 113) (l' := [(8, .int (1 : Int32)), (7, .int (0 : Int32)), (6, .int (vl_I (75 * b + m))), (5, .int (vl_I (75 * a + m))), (0, .ref 196), (1, .int (vl_I a)), (2, .int (vl_I m)), (3, .int (vl_I b)), (4, .int (vr_b w))]) (st' := [.ref 196]) rfl Kz) ?_
        refine jv_Wp.lift (fun _ Kz => jv_Ev.m jv_i280 (pc' := 116) (st' := [.ref 205]) (G' := (jv_H K I19 L19 R)) rfl rfl (jv_m_getR (jv_rwK hW 196 12 24 (by decide)) rfl rfl (jv_rwR hW 196 13 205 (by decide))) Kz) ?_
        refine jv_Wp.lift (fun _ Kz => jv_Ev.steps jv_i280 1 (pc' := 118) (l' := [(8, .int (1 : Int32)), (7, .int (0 : Int32)), (6, .int (vl_I (75 * b + m))), (5, .int (vl_I (75 * a + m))), (0, .ref 196), (1, .int (vl_I a)), (2, .int (vl_I m)), (3, .int (vl_I b)), (4, .int (vr_b w))]) (st' := [.int (vl_I (75 * a + m)), .ref 205]) rfl Kz) ?_
        refine jv_Wp.lift (fun _ Kz => jv_Ev.m jv_i280 (pc' := 119) (st' := [.int (I19 205 (75 * a + m))]) (G' := (jv_H K I19 L19 R)) rfl rfl (jv_m_ialdv (jv_rwK hW 205 102 77100 (by decide)) rfl (vl_I_ix (by omega) (by decide)) rfl ((congrArg (I19 205) (vl_I_nat (by omega))).trans rfl)) Kz) ?_
        refine jv_Wp.lift (fun _ Kz => jv_Ev.c jv_i280 (pc' := 122) (S' := [.int (vr_b (vc_hv (I19 205 (75 * a + m))))]) jv_i277 [.int (I19 205 (75 * a + m))] rfl rfl rfl rfl rfl rfl (vq_hasValue (I19 205 (75 * a + m))) rfl rfl Kz) ?_
        refine jv_Wp.cnd jv_i280 (pt := 203) (pe := 125) (p := ((vr_b (vc_hv (I19 205 (75 * a + m)))) = 0)) (q := ((vr_b (vc_hv (I19 205 (75 * a + m)))) = 0)) rfl jv_bi_eq rfl rfl Iff.rfl (fun h4 => ?_) (fun h4 => ?_)
        · refine jv_Wp.of (jv_Ev.ret jv_i280 rfl rfl) ?_
          rw [hQ]
          have c205 : I 205 (75 * a + m) = I 205 (75 * b + m) := (Classical.not_not.mp h1)
          have c206 : I 206 (75 * a + m) = I 206 (75 * b + m) := (Classical.not_not.mp h2)
          have c207 : I 207 (75 * a + m) = I 207 (75 * b + m) := (Classical.not_not.mp h3)
          have es := vr_srt_eq (L := L) c205
          have cv : ¬ vc_hv (I 205 (75 * a + m)) = true := by rw [← (vr_fr_i F19 (x := 75 * a + m) (by omega)).1, vr_b_f h4]; decide
          have T : vr_T I19 L19 (76950 + m) = (vr_T I L (75 * a + m)) := vr_T_eq A19 B19 C19 S19
          have e : vt_meet w (vr_T I L (75 * a + m)) (vr_T I L (75 * b + m)) = (vr_T I L (75 * a + m)) := by
            by_cases s0 : (vr_T I L (75 * a + m)).sort = 0
            · have z := (vr_isN okx hm).mp s0
              have z2 := (vr_isN (L := L) oky hm).mpr (c205 ▸ z)
              have ex := vr_ok0 okx z
              rw [vt_meet_no (fun y => y.1 s0)]
              have w0 : vt_wr (vr_T I L (75 * a + m)) = 0 := by unfold vt_wr; rw [if_pos s0]; show (I 206 (75 * a + m)).toInt.toNat = 0; rw [ex.2.1]; rfl
              rw [w0, Nat.zero_and]
              show _ = vr_D _ _ _ _
              rw [z, ex.2.1, ex.2.2]; rfl
            · exact vt_meet_same s0 es (congrArg Int32.toInt c206) (congrArg Int32.toInt c207) (by rw [vr_hasT okx]; exact cv)
          exact ⟨_, _, rfl, by rw [e]; exact T, vr_okW A19 B19 C19 okx, F19⟩
        · refine jv_Wp.lift (fun _ Kz => jv_Ev.steps jv_i280 1 (pc' := 126) (l' := [(8, .int (1 : Int32)), (7, .int (0 : Int32)), (6, .int (vl_I (75 * b + m))), (5, .int (vl_I (75 * a + m))), (0, .ref 196), (1, .int (vl_I a)), (2, .int (vl_I m)), (3, .int (vl_I b)), (4, .int (vr_b w))]) (st' := [.ref 196]) rfl Kz) ?_
          refine jv_Wp.lift (fun _ Kz => jv_Ev.m jv_i280 (pc' := 129) (st' := [.ref 208]) (G' := (jv_H K I19 L19 R)) rfl rfl (jv_m_getR (jv_rwK hW 196 12 24 (by decide)) rfl rfl (jv_rwR hW 196 16 208 (by decide))) Kz) ?_
          refine jv_Wp.lift (fun _ Kz => jv_Ev.steps jv_i280 2 (pc' := 131) (l' := [(8, .int (1 : Int32)), (7, .int (0 : Int32)), (6, .int (vl_I (75 * b + m))), (5, .int (vl_I (75 * a + m))), (0, .ref 196), (1, .int (vl_I a)), (2, .int (vl_I m)), (3, .int (vl_I b)), (4, .int (vr_b w))]) (st' := [.int (vl_I m), .int (vl_I a), .ref 208]) rfl Kz) ?_
          refine jv_Wp.lift (fun _ Kz => jv_Ev.c jv_i280 (pc' := 134) (S' := [.int (vl_I (8 + (75 * a + m))), .ref 208]) jv_i254 [.int (vl_I a), .int (vl_I m)] rfl rfl rfl rfl rfl rfl (vq_row a m) rfl rfl Kz) ?_
          refine jv_Wp.lift (fun _ Kz => jv_Ev.steps jv_i280 2 (pc' := 136) (l' := [(8, .int (1 : Int32)), (7, .int (0 : Int32)), (6, .int (vl_I (75 * b + m))), (5, .int (vl_I (75 * a + m))), (0, .ref 196), (1, .int (vl_I a)), (2, .int (vl_I m)), (3, .int (vl_I b)), (4, .int (vr_b w))]) (st' := [.int (vl_I m), .int (vl_I b), .int (vl_I (8 + (75 * a + m))), .ref 208]) rfl Kz) ?_
          refine jv_Wp.lift (fun _ Kz => jv_Ev.c jv_i280 (pc' := 139) (S' := [.int (vl_I (8 + (75 * b + m))), .int (vl_I (8 + (75 * a + m))), .ref 208]) jv_i254 [.int (vl_I b), .int (vl_I m)] rfl rfl rfl rfl rfl rfl (vq_row b m) rfl rfl Kz) ?_
          refine jv_Wp.lift (fun _ Kz => jv_Ev.steps jv_i280 1 (pc' := 141) (l' := [(8, .int (1 : Int32)), (7, .int (0 : Int32)), (6, .int (vl_I (75 * b + m))), (5, .int (vl_I (75 * a + m))), (0, .ref 196), (1, .int (vl_I a)), (2, .int (vl_I m)), (3, .int (vl_I b)), (4, .int (vr_b w))]) (st' := [.int (vr_b w), .int (vl_I (8 + (75 * b + m))), .int (vl_I (8 + (75 * a + m))), .ref 208]) rfl Kz) ?_
          have c205 : I 205 (75 * a + m) = I 205 (75 * b + m) := (Classical.not_not.mp h1)
          have c206 : I 206 (75 * a + m) = I 206 (75 * b + m) := (Classical.not_not.mp h2)
          have c207 : I 207 (75 * a + m) = I 207 (75 * b + m) := (Classical.not_not.mp h3)
          have cv := vr_b_t h4
          rw [(vr_fr_i F19 (x := 75 * a + m) (by omega)).1] at cv
          have cy : vc_hv (I 205 (75 * b + m)) = true := by rw [← c205]; exact cv
          obtain ⟨L20, H20, S20, F20⟩ := vq_meet (I := I19) (L := L19) (R := R) (n := n) (sl := sl) (a := 8 + (75 * a + m)) (b := 8 + (75 * b + m)) w hW (by omega) (by omega) (by omega) (by omega) Z19 (by rw [vr_fr_S F19 (x := 75 * a + m) (by omega)]; exact vr_tight okx tx cv) (by rw [vr_fr_S F19 (x := 75 * b + m) (by omega)]; exact vr_tight oky ty cy)
          rw [vr_fr_S F19 (x := 75 * a + m) (by omega), vr_fr_S F19 (x := 75 * b + m) (by omega)] at S20
          refine jv_Wp.lift (fun _ Kz => jv_Ev.c jv_i280 (pc' := 144) (S' := []) (G1 := (jv_H K I19 L20 R)) jv_i250 [.ref 208, .int (vl_I (8 + (75 * a + m))), .int (vl_I (8 + (75 * b + m))), .int (vr_b w)] rfl rfl rfl rfl (jv_cal rfl (jv_H_at (jv_rwK hW 208 11 7 (by decide))) rfl rfl) rfl H20 rfl rfl Kz) ?_
          refine jv_Wp.lift (fun _ Kz => jv_Ev.steps jv_i280 1 (pc' := 145) (l' := [(8, .int (1 : Int32)), (7, .int (0 : Int32)), (6, .int (vl_I (75 * b + m))), (5, .int (vl_I (75 * a + m))), (0, .ref 196), (1, .int (vl_I a)), (2, .int (vl_I m)), (3, .int (vl_I b)), (4, .int (vr_b w))]) (st' := [.ref 196]) rfl Kz) ?_
          refine jv_Wp.lift (fun _ Kz => jv_Ev.m jv_i280 (pc' := 148) (st' := [.ref 208]) (G' := (jv_H K I19 L20 R)) rfl rfl (jv_m_getR (jv_rwK hW 196 12 24 (by decide)) rfl rfl (jv_rwR hW 196 16 208 (by decide))) Kz) ?_
          refine jv_Wp.lift (fun _ Kz => jv_Ev.steps jv_i280 3 (pc' := 153) (l' := [(8, .int (1 : Int32)), (7, .int (0 : Int32)), (6, .int (vl_I (75 * b + m))), (5, .int (vl_I (75 * a + m))), (0, .ref 196), (1, .int (vl_I a)), (2, .int (vl_I m)), (3, .int (vl_I b)), (4, .int (vr_b w))]) (st' := [.int (vl_I m), .int (1026 : Int32), .int (2 : Int32), .ref 208]) rfl Kz) ?_
          refine jv_Wp.lift (fun _ Kz => jv_Ev.c jv_i280 (pc' := 156) (S' := [.int (vl_I (8 + (76950 + m))), .int (2 : Int32), .ref 208]) jv_i254 [.int (1026 : Int32), .int (vl_I m)] rfl rfl rfl rfl rfl rfl (vq_row 1026 m) rfl rfl Kz) ?_
          obtain ⟨I21, L21, H21, S21, F21⟩ := vq_copy (I := I19) (L := L20) (R := R) (n := n) (sl := sl) (a := 2) (d := (8 + (76950 + m))) hW (by omega) (by omega) Z19 (Z19 _ (by omega))
          have Z21 := F21.1
          refine jv_Wp.lift (fun _ Kz => jv_Ev.c jv_i280 (pc' := 159) (S' := []) (G1 := (jv_H K I21 L21 R)) jv_i208 [.ref 208, .int (2 : Int32), .int (vl_I (8 + (76950 + m)))] rfl rfl rfl rfl (jv_cal rfl (jv_H_at (jv_rwK hW 208 11 7 (by decide))) rfl rfl) rfl H21 rfl rfl Kz) ?_
          refine jv_Wp.lift (fun _ Kz => jv_Ev.steps jv_i280 1 (pc' := 203) (l' := [(8, .int (1 : Int32)), (7, .int (0 : Int32)), (6, .int (vl_I (75 * b + m))), (5, .int (vl_I (75 * a + m))), (0, .ref 196), (1, .int (vl_I a)), (2, .int (vl_I m)), (3, .int (vl_I b)), (4, .int (vr_b w))]) (st' := []) rfl Kz) ?_
          refine jv_Wp.of (jv_Ev.ret jv_i280 rfl rfl) ?_
          rw [hQ]
          have c205 : I 205 (75 * a + m) = I 205 (75 * b + m) := (Classical.not_not.mp h1)
          have c206 : I 206 (75 * a + m) = I 206 (75 * b + m) := (Classical.not_not.mp h2)
          have c207 : I 207 (75 * a + m) = I 207 (75 * b + m) := (Classical.not_not.mp h3)
          have es := vr_srt_eq (L := L) c205
          have s0 : (vr_T I L (75 * a + m)).sort ≠ 0 := fun z => by rcases (vr_is0 okx).mp z with y | y <;> (rw [y] at cv; exact absurd cv (by decide))
          have e := vt_meet_val (w := w) s0 es (congrArg Int32.toInt c206) (congrArg Int32.toInt c207) ((vr_hasT okx).trans cv)
          rw [vr_valv cv, vr_valv cy] at e
          have q5 : I21 205 (76950 + m) = I 205 (75 * a + m) := (F21.2.1 205 _ (by decide)).trans A19
          have q6 : I21 206 (76950 + m) = I 206 (75 * a + m) := (F21.2.1 206 _ (by decide)).trans B19
          have q7 : I21 207 (76950 + m) = I 207 (75 * a + m) := (F21.2.1 207 _ (by decide)).trans C19
          refine ⟨_, _, rfl, ?_, vr_okW q5 q6 q7 okx, vr_fr_trans F19 (vr_fr_trans (vq_rf_fr F20 (by decide)) (vq_rf_frx F21 rfl))⟩
          rw [vr_T_set q5 q6 q7, S21, S20, vb_toS_toR, vr_D_v cv, e]; rfl
theorem vq_rmeet {K : Nat → Option (Nat × Nat)} {I : Nat → Nat → Int32} {L : Nat → Nat → Int64} {R : Nat → Nat → Value} (a m b : Nat) (w : Bool) (hW : jv_rW K R) (hf : vr_fl I) (ha : a < 1026) (hb : b < 1028) (hb2 : b ≠ 1026) (hm75 : m < 75) (okx : vr_ok I (75 * a + m) m) (oky : vr_ok I (75 * b + m) m) (tx : vt_ok (vr_T I L (75 * a + m))) (ty : vt_ok (vr_T I L (75 * b + m))) {n sl : Nat} : ∃ I1 L1, jv_Ms 280 [.ref 196, .int (vl_I a), .int (vl_I m), .int (vl_I b), .int (vr_b w)] (jv_H K I L R) n sl (none, jv_H K I1 L1 R, n, sl) ∧ vr_T I1 L1 (76950 + m) = vt_meet w (vr_T I L (75 * a + m)) (vr_T I L (75 * b + m)) ∧ vr_ok I1 (76950 + m) m ∧ vr_fr (fun x => x = 76950 + m) noE I L I1 L1 := by
  by_cases hm : m < 11
  · exact vq_rmeetR a m b w hW hf ha hb hb2 hm75 hm okx oky tx ty
  · exact vq_rmeetS a m b w hW hf ha hb hb2 hm75 (by omega) okx oky tx ty