/-! part b09: states of the class: begin, know, slots, meet (gen/tb09.py) -/
theorem jv_i111 : jv_I 111 2 none 2 44 jv_c111 := ⟨rfl, rfl, rfl, rfl, rfl⟩
theorem vc_begin {K : Nat → Option (Nat × Nat)} {I : Nat → Nat → Int32} {L : Nat → Nat → Int64} {R : Nat → Nat → Value} {a : Nat} (ha : vc_St K R a) (oa : vc_okA I L a) {n sl : Nat} : ∃ I1 L1, jv_Ms 111 [.ref a] (jv_H K I L R) n sl (none, jv_H K I1 L1 R, n, sl) ∧ vc_A I1 L1 a = vt_start ∧ vc_okA I1 L1 a ∧ vc_fr (vc_in a) I L I1 L1 ∧ ∀ f, I1 a f = I a f := by
  obtain ⟨Q, hQ⟩ : ∃ Q : jv_R → Prop, Q = fun X => ∃ I1 L1, X = (none, jv_H K I1 L1 R, n, sl) ∧ vc_A I1 L1 a = vt_start ∧ vc_okA I1 L1 a ∧ vc_fr (vc_in a) I L I1 L1 ∧ ∀ f, I1 a f = I a f := ⟨_, rfl⟩
  suffices h : jv_Wp 111 0 [(0, .ref a)] [] (jv_H K I L R) n sl Q by
    rw [hQ] at h
    obtain ⟨X, h, I1, L1, e, h'⟩ := h
    subst e
    exact ⟨I1, L1, h, h'⟩
  refine jv_Wp.lift (fun _ Kz => jv_Ev.steps jv_i111 2 (pc' := 2) (l' := [(1, .int (0 : Int32)), (0, .ref a)]) (st' := []) rfl Kz) ?_
  refine jv_Wp.loc (l := [(0, .ref a), (1, .int (0 : Int32))]) ⟨List.forall_mem_cons.mpr ⟨.tail _ (.head _), List.forall_mem_cons.mpr ⟨.head _, fun _ h => absurd h List.not_mem_nil⟩⟩, by show List.Nodup [1, 0]; decide⟩ ?_
  rw [show (0 : Int32) = vl_I 0 from rfl]
  refine vc_loop0 (a := a) (I0 := I) (L0 := L) (f := fun _ _ => vt_none 0) (P := fun i Iz Lz => jv_Wp 111 2 [(0, .ref a), (1, .int (vl_I i))] [] (jv_H K Iz Lz R) n sl Q) oa (fun i hi Ia La fr ta okA k => ?_) (fun Ia La ht fr => ?_)
  · skip

    refine jv_Wp.lift (fun _ Kz => jv_Ev.steps jv_i111 2 (pc' := 4) (l' := [(0, .ref a), (1, .int (vl_I i))]) (st' := [.ref a, .int (vl_I i)]) rfl Kz) ?_
    refine jv_Wp.lift (fun _ Kz => jv_Ev.m jv_i111 (pc' := 7) (st' := [.ref (a + 1), .int (vl_I i)]) (G' := (jv_H K Ia La R)) rfl rfl (jv_m_getR ha.k rfl rfl ha.r) Kz) ?_
    refine jv_Wp.lift (fun _ Kz => jv_Ev.m jv_i111 (pc' := 8) (st' := [.int (Int32.ofNat 75), .int (vl_I i)]) (G' := (jv_H K Ia La R)) rfl rfl (jv_m_len ha.kt rfl) Kz) ?_
    refine jv_Wp.cnd jv_i111 (pt := 26) (pe := 11) (p := ((Int32.ofNat 75) ≤ (vl_I i))) (q := ((Int32.ofNat 75) ≤ (vl_I i))) rfl jv_bc_ge rfl rfl Iff.rfl (fun h1 => ?_) (fun h1 => ?_)
    · exact absurd ((vl_I_le (by decide) (by omega)).mp h1) (by omega)
    · refine jv_Wp.lift (fun _ Kz => jv_Ev.steps jv_i111 1 (pc' := 12) (l' := [(0, .ref a), (1, .int (vl_I i))]) (st' := [.ref a]) rfl Kz) ?_
      refine jv_Wp.lift (fun _ Kz => jv_Ev.m jv_i111 (pc' := 15) (st' := [.ref (a + 1)]) (G' := (jv_H K Ia La R)) rfl rfl (jv_m_getR ha.k rfl rfl ha.r) Kz) ?_
      refine jv_Wp.lift (fun _ Kz => jv_Ev.steps jv_i111 1 (pc' := 16) (l' := [(0, .ref a), (1, .int (vl_I i))]) (st' := [.int (vl_I i), .ref (a + 1)]) rfl Kz) ?_
      refine jv_Wp.lift (fun _ Kz => jv_Ev.m jv_i111 (pc' := 17) (st' := [.ref (a + 2 + i)]) (G' := (jv_H K Ia La R)) rfl rfl (jv_m_aaldR ha.kt rfl (vl_I_ix hi (by decide)) rfl (vc_St_rt ha hi)) Kz) ?_
      obtain ⟨I1, L1, H1, T1, O1, F1⟩ := vc_none (I := Ia) (L := La) (R := R) (n := n) (sl := sl) (ha.kk i hi)
      refine jv_Wp.lift (fun _ Kz => jv_Ev.c jv_i111 (pc' := 20) (S' := []) (G1 := (jv_H K I1 L1 R)) jv_i141 [.ref (a + 2 + i)] rfl rfl rfl rfl (jv_cal rfl (jv_H_at (ha.kk i hi)) rfl rfl) rfl H1 rfl rfl Kz) ?_
      refine jv_Wp.lift (fun _ Kz => jv_Ev.steps jv_i111 2 (pc' := 2) (l' := [(1, .int ((vl_I i) + Int32.ofInt 1)), (0, .ref a)]) (st' := []) rfl Kz) ?_
      refine jv_Wp.loc (l := [(0, .ref a), (1, .int ((vl_I i) + Int32.ofInt 1))]) ⟨List.forall_mem_cons.mpr ⟨.tail _ (.head _), List.forall_mem_cons.mpr ⟨.head _, fun _ h => absurd h List.not_mem_nil⟩⟩, by show List.Nodup [1, 0]; decide⟩ ?_
      rw [show vl_I i + Int32.ofInt 1 = vl_I (i + 1) from vl_I_add i 1]
      exact k I1 L1 T1 O1 F1
  · skip
    refine jv_Wp.lift (fun _ Kz => jv_Ev.steps jv_i111 2 (pc' := 4) (l' := [(0, .ref a), (1, .int (vl_I 75))]) (st' := [.ref a, .int (vl_I 75)]) rfl Kz) ?_
    refine jv_Wp.lift (fun _ Kz => jv_Ev.m jv_i111 (pc' := 7) (st' := [.ref (a + 1), .int (vl_I 75)]) (G' := (jv_H K Ia La R)) rfl rfl (jv_m_getR ha.k rfl rfl ha.r) Kz) ?_
    refine jv_Wp.lift (fun _ Kz => jv_Ev.m jv_i111 (pc' := 8) (st' := [.int (Int32.ofNat 75), .int (vl_I 75)]) (G' := (jv_H K Ia La R)) rfl rfl (jv_m_len ha.kt rfl) Kz) ?_
    refine jv_Wp.cnd jv_i111 (pt := 26) (pe := 11) (p := ((Int32.ofNat 75) ≤ (vl_I 75))) (q := ((Int32.ofNat 75) ≤ (vl_I 75))) rfl jv_bc_ge rfl rfl Iff.rfl (fun _ => ?_) (fun hz => absurd (Int32.le_refl _) hz)
    refine jv_Wp.lift (fun _ Kz => jv_Ev.steps jv_i111 1 (pc' := 27) (l' := [(0, .ref a), (1, .int (vl_I 75))]) (st' := [.ref a]) rfl Kz) ?_
    refine jv_Wp.lift (fun _ Kz => jv_Ev.m jv_i111 (pc' := 30) (st' := [.ref (a + 1)]) (G' := (jv_H K Ia La R)) rfl rfl (jv_m_getR ha.k rfl rfl ha.r) Kz) ?_
    refine jv_Wp.lift (fun _ Kz => jv_Ev.steps jv_i111 1 (pc' := 31) (l' := [(0, .ref a), (1, .int (vl_I 75))]) (st' := [.int (1 : Int32), .ref (a + 1)]) rfl Kz) ?_
    refine jv_Wp.lift (fun _ Kz => jv_Ev.m jv_i111 (pc' := 32) (st' := [.ref (a + 2 + 1)]) (G' := (jv_H K Ia La R)) rfl rfl (jv_m_aaldR ha.kt rfl (by decide) rfl (ha.rt 1 (by decide))) Kz) ?_
    refine jv_Wp.lift (fun _ Kz => jv_Ev.steps jv_i111 3 (pc' := 35) (l' := [(0, .ref a), (1, .int (vl_I 75))]) (st' := [.long (0 : Int64), .int (0 : Int32), .int (2 : Int32), .ref (a + 2 + 1)]) rfl Kz) ?_
    obtain ⟨I2, L2, H2, T2, O2, F2⟩ := vc_bec (I := Ia) (L := La) (R := R) (n := n) (sl := sl) (2 : Int32) (0 : Int32) (0 : Int64) (ha.kk 1 (by decide)) (Or.inr (Or.inr (Or.inl ⟨Or.inl rfl, rfl, rfl⟩)))
    refine jv_Wp.lift (fun _ Kz => jv_Ev.c jv_i111 (pc' := 38) (S' := []) (G1 := (jv_H K I2 L2 R)) jv_i140 [.ref (a + 2 + 1), .int (2 : Int32), .int (0 : Int32), .long (0 : Int64)] rfl rfl rfl rfl (jv_cal rfl (jv_H_at (ha.kk 1 (by decide))) rfl rfl) rfl H2 rfl rfl Kz) ?_
    refine jv_Wp.lift (fun _ Kz => jv_Ev.steps jv_i111 1 (pc' := 39) (l' := [(0, .ref a), (1, .int (vl_I 75))]) (st' := [.ref a]) rfl Kz) ?_
    refine jv_Wp.lift (fun _ Kz => jv_Ev.m jv_i111 (pc' := 42) (st' := [.ref (a + 1)]) (G' := (jv_H K I2 L2 R)) rfl rfl (jv_m_getR ha.k rfl rfl ha.r) Kz) ?_
    refine jv_Wp.lift (fun _ Kz => jv_Ev.steps jv_i111 1 (pc' := 44) (l' := [(0, .ref a), (1, .int (vl_I 75))]) (st' := [.int (10 : Int32), .ref (a + 1)]) rfl Kz) ?_
    refine jv_Wp.lift (fun _ Kz => jv_Ev.m jv_i111 (pc' := 45) (st' := [.ref (a + 2 + 10)]) (G' := (jv_H K I2 L2 R)) rfl rfl (jv_m_aaldR ha.kt rfl (by decide) rfl (ha.rt 10 (by decide))) Kz) ?_
    refine jv_Wp.lift (fun _ Kz => jv_Ev.steps jv_i111 3 (pc' := 48) (l' := [(0, .ref a), (1, .int (vl_I 75))]) (st' := [.long (0 : Int64), .int (0 : Int32), .int (3 : Int32), .ref (a + 2 + 10)]) rfl Kz) ?_
    obtain ⟨I3, L3, H3, T3, O3, F3⟩ := vc_bec (I := I2) (L := L2) (R := R) (n := n) (sl := sl) (3 : Int32) (0 : Int32) (0 : Int64) (ha.kk 10 (by decide)) (Or.inr (Or.inr (Or.inl ⟨Or.inr rfl, rfl, rfl⟩)))
    refine jv_Wp.lift (fun _ Kz => jv_Ev.c jv_i111 (pc' := 51) (S' := []) (G1 := (jv_H K I3 L3 R)) jv_i140 [.ref (a + 2 + 10), .int (3 : Int32), .int (0 : Int32), .long (0 : Int64)] rfl rfl rfl rfl (jv_cal rfl (jv_H_at (ha.kk 10 (by decide))) rfl rfl) rfl H3 rfl rfl Kz) ?_
    refine jv_Wp.lift (fun _ Kz => jv_Ev.steps jv_i111 2 (pc' := 53) (l' := [(0, .ref a), (1, .int (vl_I 75))]) (st' := [.long (0 : Int64), .ref a]) rfl Kz) ?_
    refine jv_Wp.lift (fun _ Kz => jv_Ev.m jv_i111 (pc' := 56) (st' := []) (G' := (jv_H K I3 (jv_u L3 a 1 (0 : Int64)) R)) rfl rfl (jv_m_putL ha.k rfl rfl rfl rfl) Kz) ?_
    refine jv_Wp.of (jv_Ev.ret jv_i111 rfl rfl) ?_
    rw [hQ]
    have g : ∀ p, p ≠ a + 2 + 1 ∧ p ≠ a + 2 + 10 → (∀ f, I3 p f = Ia p f) ∧ ∀ f, L3 p f = La p f := (fun p hp => ⟨fun f => ((F3 p hp.2).1 f).trans ((F2 p hp.1).1 f), fun f => ((F3 p hp.2).2 f).trans ((F2 p hp.1).2 f)⟩)
    have t1 : vc_T I3 L3 (a + 2 + 1) = vt_ctx 0 := (vc_fr_T F3 (by omega)).trans T2
    have t10 : vc_T I3 L3 (a + 2 + 10) = vt_stk 0 := T3
    have tn : ∀ n, n < 75 → n ≠ 1 → n ≠ 10 → vc_T I3 L3 (a + 2 + n) = vt_none 0 := fun n hn h1 h2 => (vc_fr_T F3 (by omega)).trans ((vc_fr_T F2 (by omega)).trans (ht n hn).1)
    refine ⟨_, _, rfl, Prod.ext (funext (fun n => ?_)) (congrArg Int64.toInt (jv_u_self _ _ _ _)), fun n hn => (vc_ok_u1 _ _ (by omega) _).mpr ?_, fun p hp => ⟨fun f => ((g p ⟨fun z => hp ⟨by omega, by omega⟩, fun z => hp ⟨by omega, by omega⟩⟩).1 f).trans ((fr p (fun z => hp (by unfold vc_th at z; exact ⟨by omega, by omega⟩))).1 f), fun f => (jv_u_o _ _ _ _ (fun z => hp (by rw [z]; exact ⟨by omega, by omega⟩))).trans (((g p ⟨fun z => hp ⟨by omega, by omega⟩, fun z => hp ⟨by omega, by omega⟩⟩).2 f).trans ((fr p (fun z => hp (by unfold vc_th at z; exact ⟨by omega, by omega⟩))).2 f))⟩, fun f => ((g a ⟨by omega, by omega⟩).1 f).trans ((fr a (fun z => by unfold vc_th at z; omega)).1 f)⟩
    · show (if n < 75 then _ else _) = if n = 1 then _ else if n = 10 then _ else _
      by_cases hn : n < 75
      · rw [if_pos hn, vc_T_u1 _ _ (by omega)]
        by_cases h1 : n = 1
        · rw [if_pos h1, h1]; exact t1
        · rw [if_neg h1]
          by_cases h10 : n = 10
          · rw [if_pos h10, h10]; exact t10
          · rw [if_neg h10]; exact tn n hn h1 h10
      · rw [if_neg hn, if_neg (by omega), if_neg (by omega)]
    · by_cases h10 : n = 10
      · rw [h10]; exact O3
      · refine (vc_fr_ok F3 (by omega)).mpr ?_
        by_cases h1 : n = 1
        · rw [h1]; exact O2
        · exact (vc_fr_ok F2 (by omega)).mpr (ht n hn).2
theorem jv_i115 : jv_I 115 3 none 1 26 jv_c115 := ⟨rfl, rfl, rfl, rfl, rfl⟩
theorem vc_know {K : Nat → Option (Nat × Nat)} {I : Nat → Nat → Int32} {L : Nat → Nat → Int64} {R : Nat → Nat → Value} {a : Nat} (x : Int64) (ha : vc_St K R a) (oa : vc_okA I L a) {n sl : Nat} : ∃ I1 L1, jv_Ms 115 [.ref a, .long x] (jv_H K I L R) n sl (none, jv_H K I1 L1 R, n, sl) ∧ vc_A I1 L1 a = vx_know (vc_A I L a) x.toInt ∧ vc_okA I1 L1 a ∧ vc_fr (vc_in a) I L I1 L1 ∧ ∀ f, I1 a f = I a f := by
  obtain ⟨Q, hQ⟩ : ∃ Q : jv_R → Prop, Q = fun X => ∃ I1 L1, X = (none, jv_H K I1 L1 R, n, sl) ∧ vc_A I1 L1 a = vx_know (vc_A I L a) x.toInt ∧ vc_okA I1 L1 a ∧ vc_fr (vc_in a) I L I1 L1 ∧ ∀ f, I1 a f = I a f := ⟨_, rfl⟩
  suffices h : jv_Wp 115 0 [(0, .ref a), (1, .long x)] [] (jv_H K I L R) n sl Q by
    rw [hQ] at h
    obtain ⟨X, h, I1, L1, e, h'⟩ := h
    subst e
    exact ⟨I1, L1, h, h'⟩
  refine jv_Wp.lift (fun _ Kz => jv_Ev.steps jv_i115 2 (pc' := 2) (l' := [(0, .ref a), (1, .long x)]) (st' := [.ref a, .ref a]) rfl Kz) ?_
  refine jv_Wp.lift (fun _ Kz => jv_Ev.m jv_i115 (pc' := 5) (st' := [.long (L a 1), .ref a]) (G' := (jv_H K I L R)) rfl rfl (jv_m_getL ha.k rfl rfl rfl) Kz) ?_
  refine jv_Wp.lift (fun _ Kz => jv_Ev.steps jv_i115 2 (pc' := 9) (l' := [(0, .ref a), (1, .long x)]) (st' := [.long (if x < (L a 1) then (L a 1) else x), .ref a]) rfl Kz) ?_
  refine jv_Wp.lift (fun _ Kz => jv_Ev.m jv_i115 (pc' := 12) (st' := []) (G' := (jv_H K I (jv_u L a 1 (if x < (L a 1) then (L a 1) else x)) R)) rfl rfl (jv_m_putL ha.k rfl rfl rfl rfl) Kz) ?_
  refine jv_Wp.of (jv_Ev.ret jv_i115 rfl rfl) ?_
  rw [hQ]
  refine ⟨_, _, rfl, (vc_A_u1 _ _ _ _).trans ?_, fun n hn => (vc_ok_u1 _ _ (by omega) _).mpr (oa n hn), fun p hp => ⟨fun _ => rfl, fun f => jv_u_o _ _ _ _ (fun z => hp (by rw [z]; exact ⟨by omega, by omega⟩))⟩, fun _ => rfl⟩
  unfold vx_know
  refine Prod.ext rfl ?_
  show (if x < L a 1 then L a 1 else x).toInt = if (L a 1).toInt < x.toInt then x.toInt else (L a 1).toInt
  by_cases h : (L a 1).toInt < x.toInt
  · rw [if_pos h, if_neg (fun z => by have := Int64.lt_iff_toInt_lt.mp z; omega)]
  · rw [if_neg h]
    by_cases h2 : x < L a 1
    · rw [if_pos h2]
    · rw [if_neg h2]; have h3 : ¬ x.toInt < (L a 1).toInt := fun z => h2 (Int64.lt_iff_toInt_lt.mpr z)
      omega
theorem jv_i113 : jv_I 113 6 (some .boolean) 4 120 jv_c113 := ⟨rfl, rfl, rfl, rfl, rfl⟩
theorem vc_smeet {K : Nat → Option (Nat × Nat)} {I : Nat → Nat → Int32} {L : Nat → Nat → Int64} {R : Nat → Nat → Value} {a b rm : Nat} (w : Bool) (ha : vc_St K R a) (hb : vc_St K R b) (hr : K rm = some (9, 6)) (hd : a + 77 ≤ b ∨ b + 77 ≤ a) (hra : ¬ vc_in a rm) (hrb : ¬ vc_in b rm) (oa : vc_okA I L a) (ob : vc_okA I L b) (tA : ∀ n, n < 75 → vt_ok (vc_T I L (a + 2 + n))) {n sl : Nat} : ∃ I1 L1 c, jv_Ms 113 [.ref a, .ref b, .int (vr_b w), .ref rm] (jv_H K I L R) n sl (some (.int (vr_b c)), jv_H K I1 L1 R, n, sl) ∧ (c = true ↔ vt_meetA w (vc_A I L a) (vc_A I L b) ≠ vc_A I L a) ∧ vc_A I1 L1 a = vt_meetA w (vc_A I L a) (vc_A I L b) ∧ vc_okA I1 L1 a ∧ vc_fr (fun p => vc_in a p ∨ p = rm) I L I1 L1 ∧ ∀ f, I1 a f = I a f := by
  obtain ⟨Q, hQ⟩ : ∃ Q : jv_R → Prop, Q = fun X => ∃ I1 L1 c, X = (some (.int (vr_b c)), jv_H K I1 L1 R, n, sl) ∧ (c = true ↔ vt_meetA w (vc_A I L a) (vc_A I L b) ≠ vc_A I L a) ∧ vc_A I1 L1 a = vt_meetA w (vc_A I L a) (vc_A I L b) ∧ vc_okA I1 L1 a ∧ vc_fr (fun p => vc_in a p ∨ p = rm) I L I1 L1 ∧ ∀ f, I1 a f = I a f := ⟨_, rfl⟩
  suffices h : jv_Wp 113 0 [(0, .ref a), (1, .ref b), (2, .int (vr_b w)), (3, .ref rm)] [] (jv_H K I L R) n sl Q by
    rw [hQ] at h
    obtain ⟨X, h, I1, L1, c, e, h'⟩ := h
    subst e
    exact ⟨I1, L1, c, h, h'⟩
  refine jv_Wp.lift (fun _ Kz => jv_Ev.steps jv_i113 1 (pc' := 1) (l' := [(0, .ref a), (1, .ref b), (2, .int (vr_b w)), (3, .ref rm)]) (st' := [.ref b]) rfl Kz) ?_
  refine jv_Wp.lift (fun _ Kz => jv_Ev.m jv_i113 (pc' := 4) (st' := [.long (L b 1)]) (G' := (jv_H K I L R)) rfl rfl (jv_m_getL hb.k rfl rfl rfl) Kz) ?_
  refine jv_Wp.lift (fun _ Kz => jv_Ev.steps jv_i113 1 (pc' := 5) (l' := [(0, .ref a), (1, .ref b), (2, .int (vr_b w)), (3, .ref rm)]) (st' := [.ref a, .long (L b 1)]) rfl Kz) ?_
  refine jv_Wp.lift (fun _ Kz => jv_Ev.m jv_i113 (pc' := 8) (st' := [.long (L a 1), .long (L b 1)]) (G' := (jv_H K I L R)) rfl rfl (jv_m_getL ha.k rfl rfl rfl) Kz) ?_
  refine jv_Wp.lift (fun _ Kz => jv_Ev.steps jv_i113 1 (pc' := 9) (l' := [(0, .ref a), (1, .ref b), (2, .int (vr_b w)), (3, .ref rm)]) (st' := [.int (lg_cmp (L b 1) (L a 1))]) rfl Kz) ?_
  refine jv_Wp.dia 17 [(0, .ref a), (1, .ref b), (2, .int (vr_b w)), (3, .ref rm)] [.int (if ((L a 1) ≤ (L b 1)) then (0 : Int32) else (1 : Int32))] (jv_H K I L R) (fun Kh1 => ?_) ?_
  · refine jv_Wp.cnd jv_i113 (pt := 16) (pe := 12) (p := (0 ≤ (lg_cmp (L b 1) (L a 1)))) (q := ((L a 1) ≤ (L b 1))) rfl jv_bi_ge rfl rfl (lg_cmp_ge (L b 1) (L a 1)) (fun h1 => ?_) (fun h1 => ?_)
    · refine jv_Wp.lift (fun _ Kz => jv_Ev.steps jv_i113 1 (pc' := 17) (l' := [(0, .ref a), (1, .ref b), (2, .int (vr_b w)), (3, .ref rm)]) (st' := [.int (0 : Int32)]) rfl Kz) ?_
      exact jv_Wp.conv rfl (by simp only [if_pos h1]) rfl Kh1
    · refine jv_Wp.lift (fun _ Kz => jv_Ev.steps jv_i113 2 (pc' := 17) (l' := [(0, .ref a), (1, .ref b), (2, .int (vr_b w)), (3, .ref rm)]) (st' := [.int (1 : Int32)]) rfl Kz) ?_
      exact jv_Wp.conv rfl (by simp only [if_neg h1]) rfl Kh1
  refine jv_Wp.lift (fun _ Kz => jv_Ev.steps jv_i113 3 (pc' := 21) (l' := [(4, .int (if ((L a 1) ≤ (L b 1)) then (0 : Int32) else (1 : Int32))), (0, .ref a), (1, .ref b), (2, .int (vr_b w)), (3, .ref rm)]) (st' := [.ref a, .ref a]) rfl Kz) ?_
  refine jv_Wp.lift (fun _ Kz => jv_Ev.m jv_i113 (pc' := 24) (st' := [.long (L a 1), .ref a]) (G' := (jv_H K I L R)) rfl rfl (jv_m_getL ha.k rfl rfl rfl) Kz) ?_
  refine jv_Wp.lift (fun _ Kz => jv_Ev.steps jv_i113 1 (pc' := 25) (l' := [(4, .int (if ((L a 1) ≤ (L b 1)) then (0 : Int32) else (1 : Int32))), (0, .ref a), (1, .ref b), (2, .int (vr_b w)), (3, .ref rm)]) (st' := [.ref b, .long (L a 1), .ref a]) rfl Kz) ?_
  refine jv_Wp.lift (fun _ Kz => jv_Ev.m jv_i113 (pc' := 28) (st' := [.long (L b 1), .long (L a 1), .ref a]) (G' := (jv_H K I L R)) rfl rfl (jv_m_getL hb.k rfl rfl rfl) Kz) ?_
  refine jv_Wp.lift (fun _ Kz => jv_Ev.steps jv_i113 1 (pc' := 31) (l' := [(4, .int (if ((L a 1) ≤ (L b 1)) then (0 : Int32) else (1 : Int32))), (0, .ref a), (1, .ref b), (2, .int (vr_b w)), (3, .ref rm)]) (st' := [.long (if (L b 1) < (L a 1) then (L b 1) else (L a 1)), .ref a]) rfl Kz) ?_
  refine jv_Wp.lift (fun _ Kz => jv_Ev.m jv_i113 (pc' := 34) (st' := []) (G' := (jv_H K I (jv_u L a 1 (if (L b 1) < (L a 1) then (L b 1) else (L a 1))) R)) rfl rfl (jv_m_putL ha.k rfl rfl rfl rfl) Kz) ?_
  refine jv_Wp.lift (fun _ Kz => jv_Ev.steps jv_i113 2 (pc' := 37) (l' := [(5, .int (0 : Int32)), (4, .int (if ((L a 1) ≤ (L b 1)) then (0 : Int32) else (1 : Int32))), (0, .ref a), (1, .ref b), (2, .int (vr_b w)), (3, .ref rm)]) (st' := []) rfl Kz) ?_
  refine jv_Wp.loc (l := [(0, .ref a), (1, .ref b), (2, .int (vr_b w)), (3, .ref rm), (4, .int (if ((L a 1) ≤ (L b 1)) then (0 : Int32) else (1 : Int32))), (5, .int (0 : Int32))]) ⟨List.forall_mem_cons.mpr ⟨.tail _ (.tail _ (.head _)), List.forall_mem_cons.mpr ⟨.tail _ (.tail _ (.tail _ (.head _))), List.forall_mem_cons.mpr ⟨.tail _ (.tail _ (.tail _ (.tail _ (.head _)))), List.forall_mem_cons.mpr ⟨.tail _ (.tail _ (.tail _ (.tail _ (.tail _ (.head _))))), List.forall_mem_cons.mpr ⟨.tail _ (.head _), List.forall_mem_cons.mpr ⟨.head _, fun _ h => absurd h List.not_mem_nil⟩⟩⟩⟩⟩⟩, by show List.Nodup [5, 4, 0, 1, 2, 3]; decide⟩ ?_
  rw [show (if ((L a 1) ≤ (L b 1)) then (0 : Int32) else (1 : Int32)) = vr_b (!decide (L a 1 ≤ L b 1)) from by by_cases z : L a 1 ≤ L b 1 <;> simp [z, vr_b]]
  rw [show (0 : Int32) = vl_I 0 from rfl]
  refine vc_loop (a := a) (rm := fun p => p = rm) (I0 := I) (L0 := (jv_u L a 1 (if (L b 1) < (L a 1) then (L b 1) else (L a 1)))) (c0 := !decide (L a 1 ≤ L b 1)) (f := fun i t => vt_meet w t (vc_T I (jv_u L a 1 (if (L b 1) < (L a 1) then (L b 1) else (L a 1))) (b + 2 + i))) (P := fun i c Iz Lz => jv_Wp 113 37 [(0, .ref a), (1, .ref b), (2, .int (vr_b w)), (3, .ref rm), (4, .int (vr_b c)), (5, .int (vl_I i))] [] (jv_H K Iz Lz R) n sl Q) (fun n hn z => hra (by rw [← z]; exact ⟨by omega, by omega⟩)) (fun n hn => (vc_ok_u1 _ _ (by omega) _).mpr (oa n hn)) (fun i hi c Ia La fr ta okA k => ?_) (fun c Ia La ht fr hc => ?_)
  · skip
    have hnb : ¬ (vc_th a (b + 2 + i) ∨ b + 2 + i = rm) := fun z => z.elim (fun z => by unfold vc_th at z; omega) (fun z => hrb (by rw [← z]; exact ⟨by omega, by omega⟩))
    have okt : vc_ok Ia La (b + 2 + i) := (vc_fr_ok fr hnb).mpr ((vc_ok_u1 _ _ (by omega) _).mpr (ob i hi))
    have et : vc_T Ia La (b + 2 + i) = vc_T I (jv_u L a 1 (if (L b 1) < (L a 1) then (L b 1) else (L a 1))) (b + 2 + i) := vc_fr_T fr hnb
    have hab : a + 2 + i ≠ b + 2 + i := by omega
    have tok : vt_ok (vc_T Ia La (a + 2 + i)) := by rw [ta, vc_T_u1 _ _ (by omega)]; exact tA i hi
    refine jv_Wp.lift (fun _ Kz => jv_Ev.steps jv_i113 2 (pc' := 40) (l' := [(0, .ref a), (1, .ref b), (2, .int (vr_b w)), (3, .ref rm), (4, .int (vr_b c)), (5, .int (vl_I i))]) (st' := [.ref a, .int (vl_I i)]) rfl Kz) ?_
    refine jv_Wp.lift (fun _ Kz => jv_Ev.m jv_i113 (pc' := 43) (st' := [.ref (a + 1), .int (vl_I i)]) (G' := (jv_H K Ia La R)) rfl rfl (jv_m_getR ha.k rfl rfl ha.r) Kz) ?_
    refine jv_Wp.lift (fun _ Kz => jv_Ev.m jv_i113 (pc' := 44) (st' := [.int (Int32.ofNat 75), .int (vl_I i)]) (G' := (jv_H K Ia La R)) rfl rfl (jv_m_len ha.kt rfl) Kz) ?_
    refine jv_Wp.cnd jv_i113 (pt := 77) (pe := 47) (p := ((Int32.ofNat 75) ≤ (vl_I i))) (q := ((Int32.ofNat 75) ≤ (vl_I i))) rfl jv_bc_ge rfl rfl Iff.rfl (fun h1 => ?_) (fun h1 => ?_)
    · exact absurd ((vl_I_le (by decide) (by omega)).mp h1) (by omega)
    · refine jv_Wp.lift (fun _ Kz => jv_Ev.steps jv_i113 2 (pc' := 50) (l' := [(0, .ref a), (1, .ref b), (2, .int (vr_b w)), (3, .ref rm), (4, .int (vr_b c)), (5, .int (vl_I i))]) (st' := [.ref a, .int (vr_b c)]) rfl Kz) ?_
      refine jv_Wp.lift (fun _ Kz => jv_Ev.m jv_i113 (pc' := 53) (st' := [.ref (a + 1), .int (vr_b c)]) (G' := (jv_H K Ia La R)) rfl rfl (jv_m_getR ha.k rfl rfl ha.r) Kz) ?_
      refine jv_Wp.lift (fun _ Kz => jv_Ev.steps jv_i113 1 (pc' := 55) (l' := [(0, .ref a), (1, .ref b), (2, .int (vr_b w)), (3, .ref rm), (4, .int (vr_b c)), (5, .int (vl_I i))]) (st' := [.int (vl_I i), .ref (a + 1), .int (vr_b c)]) rfl Kz) ?_
      refine jv_Wp.lift (fun _ Kz => jv_Ev.m jv_i113 (pc' := 56) (st' := [.ref (a + 2 + i), .int (vr_b c)]) (G' := (jv_H K Ia La R)) rfl rfl (jv_m_aaldR ha.kt rfl (vl_I_ix hi (by decide)) rfl (vc_St_rt ha hi)) Kz) ?_
      refine jv_Wp.lift (fun _ Kz => jv_Ev.steps jv_i113 1 (pc' := 57) (l' := [(0, .ref a), (1, .ref b), (2, .int (vr_b w)), (3, .ref rm), (4, .int (vr_b c)), (5, .int (vl_I i))]) (st' := [.ref b, .ref (a + 2 + i), .int (vr_b c)]) rfl Kz) ?_
      refine jv_Wp.lift (fun _ Kz => jv_Ev.m jv_i113 (pc' := 60) (st' := [.ref (b + 1), .ref (a + 2 + i), .int (vr_b c)]) (G' := (jv_H K Ia La R)) rfl rfl (jv_m_getR hb.k rfl rfl hb.r) Kz) ?_
      refine jv_Wp.lift (fun _ Kz => jv_Ev.steps jv_i113 1 (pc' := 62) (l' := [(0, .ref a), (1, .ref b), (2, .int (vr_b w)), (3, .ref rm), (4, .int (vr_b c)), (5, .int (vl_I i))]) (st' := [.int (vl_I i), .ref (b + 1), .ref (a + 2 + i), .int (vr_b c)]) rfl Kz) ?_
      refine jv_Wp.lift (fun _ Kz => jv_Ev.m jv_i113 (pc' := 63) (st' := [.ref (b + 2 + i), .ref (a + 2 + i), .int (vr_b c)]) (G' := (jv_H K Ia La R)) rfl rfl (jv_m_aaldR hb.kt rfl (vl_I_ix hi (by decide)) rfl (vc_St_rt hb hi)) Kz) ?_
      refine jv_Wp.lift (fun _ Kz => jv_Ev.steps jv_i113 2 (pc' := 65) (l' := [(0, .ref a), (1, .ref b), (2, .int (vr_b w)), (3, .ref rm), (4, .int (vr_b c)), (5, .int (vl_I i))]) (st' := [.ref rm, .int (vr_b w), .ref (b + 2 + i), .ref (a + 2 + i), .int (vr_b c)]) rfl Kz) ?_
      obtain ⟨I4, L4, b4, H4, E4, T4, O4, F4⟩ := vc_meet (I := Ia) (L := La) (R := R) (n := n) (sl := sl) w (ha.kk i hi) (hb.kk i hi) hr hab okA okt tok
      refine jv_Wp.lift (fun _ Kz => jv_Ev.c jv_i113 (pc' := 68) (S' := [.int (vr_b b4), .int (vr_b c)]) (G1 := (jv_H K I4 L4 R)) jv_i147 [.ref (a + 2 + i), .ref (b + 2 + i), .int (vr_b w), .ref rm] rfl rfl rfl rfl (jv_cal rfl (jv_H_at (ha.kk i hi)) rfl rfl) rfl H4 rfl rfl Kz) ?_
      refine jv_Wp.lift (fun _ Kz => jv_Ev.steps jv_i113 4 (pc' := 37) (l' := [(5, .int ((vl_I i) + Int32.ofInt 1)), (4, .int ((vr_b c) ||| (vr_b b4))), (0, .ref a), (1, .ref b), (2, .int (vr_b w)), (3, .ref rm)]) (st' := []) rfl Kz) ?_
      refine jv_Wp.loc (l := [(0, .ref a), (1, .ref b), (2, .int (vr_b w)), (3, .ref rm), (4, .int ((vr_b c) ||| (vr_b b4))), (5, .int ((vl_I i) + Int32.ofInt 1))]) ⟨List.forall_mem_cons.mpr ⟨.tail _ (.tail _ (.head _)), List.forall_mem_cons.mpr ⟨.tail _ (.tail _ (.tail _ (.head _))), List.forall_mem_cons.mpr ⟨.tail _ (.tail _ (.tail _ (.tail _ (.head _)))), List.forall_mem_cons.mpr ⟨.tail _ (.tail _ (.tail _ (.tail _ (.tail _ (.head _))))), List.forall_mem_cons.mpr ⟨.tail _ (.head _), List.forall_mem_cons.mpr ⟨.head _, fun _ h => absurd h List.not_mem_nil⟩⟩⟩⟩⟩⟩, by show List.Nodup [5, 4, 0, 1, 2, 3]; decide⟩ ?_
      rw [show vl_I i + Int32.ofInt 1 = vl_I (i + 1) from vl_I_add i 1]
      rw [show ((vr_b c) ||| (vr_b b4)) = vr_b (c || b4) from by cases c <;> cases b4 <;> rfl]
      refine k I4 L4 (c || b4) (T4.trans (by rw [ta, et])) O4 F4 ?_
      rw [Bool.or_eq_true]
      refine or_congr Iff.rfl ?_
      rw [ta, et] at E4
      cases b4
      · exact ⟨fun z => absurd z (by decide), fun z => absurd (E4.mp rfl) z⟩
      · exact ⟨fun _ z => absurd (E4.mpr z) (by decide), fun _ => rfl⟩
  · skip
    refine jv_Wp.lift (fun _ Kz => jv_Ev.steps jv_i113 2 (pc' := 40) (l' := [(0, .ref a), (1, .ref b), (2, .int (vr_b w)), (3, .ref rm), (4, .int (vr_b c)), (5, .int (vl_I 75))]) (st' := [.ref a, .int (vl_I 75)]) rfl Kz) ?_
    refine jv_Wp.lift (fun _ Kz => jv_Ev.m jv_i113 (pc' := 43) (st' := [.ref (a + 1), .int (vl_I 75)]) (G' := (jv_H K Ia La R)) rfl rfl (jv_m_getR ha.k rfl rfl ha.r) Kz) ?_
    refine jv_Wp.lift (fun _ Kz => jv_Ev.m jv_i113 (pc' := 44) (st' := [.int (Int32.ofNat 75), .int (vl_I 75)]) (G' := (jv_H K Ia La R)) rfl rfl (jv_m_len ha.kt rfl) Kz) ?_
    refine jv_Wp.cnd jv_i113 (pt := 77) (pe := 47) (p := ((Int32.ofNat 75) ≤ (vl_I 75))) (q := ((Int32.ofNat 75) ≤ (vl_I 75))) rfl jv_bc_ge rfl rfl Iff.rfl (fun _ => ?_) (fun hz => absurd (Int32.le_refl _) hz)
    refine jv_Wp.lift (fun _ Kz => jv_Ev.steps jv_i113 1 (pc' := 79) (l' := [(0, .ref a), (1, .ref b), (2, .int (vr_b w)), (3, .ref rm), (4, .int (vr_b c)), (5, .int (vl_I 75))]) (st' := [.int (vr_b c)]) rfl Kz) ?_
    refine jv_Wp.of (jv_Ev.ret jv_i113 rfl (jv_ret_b (vr_b01 _))) ?_
    rw [hQ]
    have eM : ∀ o, o ≠ a → vc_T I (jv_u L a 1 (if (L b 1) < (L a 1) then (L b 1) else (L a 1))) o = vc_T I L o := fun o ho => vc_T_u1 _ _ ho _
    have ek : La a 1 = if L b 1 < L a 1 then L b 1 else L a 1 := ((fr a (fun z => z.elim (fun z => by unfold vc_th at z; omega) (fun z => hra (by rw [← z]; exact ⟨by omega, by omega⟩)))).2 1).trans (jv_u_self _ _ _ _)
    have e2 : (La a 1).toInt = if (L b 1).toInt < (L a 1).toInt then (L b 1).toInt else (L a 1).toInt := by
      rw [ek]
      by_cases h : L b 1 < L a 1
      · rw [if_pos h, if_pos (Int64.lt_iff_toInt_lt.mp h)]
      · rw [if_neg h, if_neg (fun z => h (Int64.lt_iff_toInt_lt.mpr z))]
    have en : ∀ n, n < 75 → vc_T Ia La (a + 2 + n) = vt_meet w (vc_T I L (a + 2 + n)) (vc_T I L (b + 2 + n)) := fun n hn => by rw [(ht n hn).1, eM _ (by omega), eM _ (by omega)]
    have eA : vc_A Ia La a = vt_meetA w (vc_A I L a) (vc_A I L b) := by
      refine Prod.ext (funext (fun n => ?_)) e2
      show (if n < 75 then vc_T Ia La (a + 2 + n) else vt_none 0) = if n < 75 then vt_meet w ((vc_A I L a).1 n) ((vc_A I L b).1 n) else (vc_A I L a).1 n
      by_cases hn : n < 75
      · rw [if_pos hn, if_pos hn, en n hn, show (vc_A I L a).1 n = vc_T I L (a + 2 + n) from if_pos hn, show (vc_A I L b).1 n = vc_T I L (b + 2 + n) from if_pos hn]
      · rw [if_neg hn, if_neg hn]; exact (if_neg hn).symm
    refine ⟨_, _, c, rfl, ?_, eA, fun n hn => (ht n hn).2, fun p hp => ⟨fun f => (fr p (fun z => hp (z.imp (fun z => by unfold vc_th at z; exact ⟨by omega, by omega⟩) id))).1 f, fun f => ((fr p (fun z => hp (z.imp (fun z => by unfold vc_th at z; exact ⟨by omega, by omega⟩) id))).2 f).trans (jv_u_o _ _ _ _ (fun z => hp (Or.inl (by rw [z]; exact ⟨by omega, by omega⟩))))⟩, fun f => (fr a (fun z => z.elim (fun z => by unfold vc_th at z; omega) (fun z => hra (by rw [← z]; exact ⟨by omega, by omega⟩)))).1 f⟩
    have h0 : (!decide (L a 1 ≤ L b 1)) = true ↔ (L b 1).toInt < (L a 1).toInt := by
      rw [Bool.not_eq_true', decide_eq_false_iff_not, Int64.le_iff_toInt_le]; omega
    rw [hc, h0]
    have k2 : (vt_meetA w (vc_A I L a) (vc_A I L b)).2 = if (L b 1).toInt < (L a 1).toInt then (L b 1).toInt else (L a 1).toInt := rfl
    have k1 : ∀ n, n < 75 → (vt_meetA w (vc_A I L a) (vc_A I L b)).1 n = vt_meet w (vc_T I L (a + 2 + n)) (vc_T I L (b + 2 + n)) := fun n hn => (if_pos hn).trans (by rw [show (vc_A I L a).1 n = vc_T I L (a + 2 + n) from if_pos hn, show (vc_A I L b).1 n = vc_T I L (b + 2 + n) from if_pos hn])
    constructor
    · rintro (z | ⟨n, hn, z⟩) e
      · have e9 := congrArg Prod.snd e
        rw [k2, if_pos z] at e9
        have e8 : (L b 1).toInt = (L a 1).toInt := e9
        omega
      · apply z
        rw [eM _ (by omega), eM _ (by omega), ← k1 n hn, e]; exact if_pos hn
    · intro ne
      refine Classical.byContradiction (fun no => ne (Prod.ext (funext (fun n => ?_)) ?_))
      · by_cases hn : n < 75
        · rw [k1 n hn, show (vc_A I L a).1 n = vc_T I L (a + 2 + n) from if_pos hn]
          refine Classical.byContradiction (fun z => no (Or.inr ⟨n, hn, ?_⟩))
          rw [eM _ (by omega), eM _ (by omega)]; exact z
        · exact if_neg hn
      · rw [k2, if_neg (fun z => no (Or.inl z))]; rfl