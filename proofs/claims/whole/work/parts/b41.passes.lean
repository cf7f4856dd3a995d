/-! part b41: the checker looks at a program (gen/tb41.py) -/
/-- a loop over things that asks nothing of them -/
theorem vc_loop0n {a : Nat} {f : Nat → vt_T → vt_T} {I0 : Nat → Nat → Int32} {L0 : Nat → Nat → Int64} {P : Nat → (Nat → Nat → Int32) → (Nat → Nat → Int64) → Prop} (_ : True)
    (turn : ∀ i, i < 75 → ∀ I L, vc_fr (vc_th a) I0 L0 I L → vc_T I L (a + 2 + i) = vc_T I0 L0 (a + 2 + i) → True → (∀ I1 L1, vc_T I1 L1 (a + 2 + i) = f i (vc_T I0 L0 (a + 2 + i)) → vc_ok I1 L1 (a + 2 + i) → vc_fr (fun p => p = a + 2 + i) I L I1 L1 → P (i + 1) I1 L1) → P i I L)
    (fin : ∀ I L, (∀ n, n < 75 → vc_T I L (a + 2 + n) = f n (vc_T I0 L0 (a + 2 + n)) ∧ vc_ok I L (a + 2 + n)) → vc_fr (vc_th a) I0 L0 I L → P 75 I L) : P 0 I0 L0 := by
  have go : ∀ d i, i + d = 75 → ∀ I L, (∀ n, n < i → vc_T I L (a + 2 + n) = f n (vc_T I0 L0 (a + 2 + n)) ∧ vc_ok I L (a + 2 + n)) → (∀ n, i ≤ n → n < 75 → vc_T I L (a + 2 + n) = vc_T I0 L0 (a + 2 + n)) → vc_fr (vc_th a) I0 L0 I L → P i I L := by
    intro d
    induction d with
    | zero =>
      intro i hi I L h1 h2 h3
      have e : i = 75 := by omega
      subst e
      exact fin I L h1 h3
    | succ d ih =>
      intro i hi I L h1 h2 h3
      refine turn i (by omega) I L h3 (h2 i (Nat.le_refl _) (by omega)) trivial (fun I1 L1 t1 o1 f1 => ih (i + 1) (by omega) I1 L1 (fun n hn => ?_) (fun n hn hn2 => ?_) ?_)
      · by_cases e : n = i
        · subst e; exact ⟨t1, o1⟩
        · exact ⟨(vc_fr_T f1 (by omega)).trans (h1 n (by omega)).1, (vc_fr_ok f1 (by omega)).mpr (h1 n (by omega)).2⟩
      · exact (vc_fr_T f1 (by omega)).trans (h2 n (by omega) hn2)
      · exact vc_fr_trans h3 (vc_fr_mono f1 (fun p z => ⟨by omega, by omega⟩))
  exact go 75 0 rfl I0 L0 (fun n hn => absurd hn (Nat.not_lt_zero n)) (fun _ _ _ => rfl) (vc_fr_refl _ _)
theorem vc_begin9 {K : Nat → Option (Nat × Nat)} {I : Nat → Nat → Int32} {L : Nat → Nat → Int64} {R : Nat → Nat → Value} {a : Nat} (ha : vc_St K R a) {n sl : Nat} : ∃ I1 L1, jv_Ms 111 [.ref a] (jv_H K I L R) n sl (none, jv_H K I1 L1 R, n, sl) ∧ vc_A I1 L1 a = vt_start ∧ vc_okA I1 L1 a ∧ vc_fr (vc_in a) I L I1 L1 ∧ ∀ f, I1 a f = I a f := by
  obtain ⟨Q, hQ⟩ : ∃ Q : jv_R → Prop, Q = fun X => ∃ I1 L1, X = (none, jv_H K I1 L1 R, n, sl) ∧ vc_A I1 L1 a = vt_start ∧ vc_okA I1 L1 a ∧ vc_fr (vc_in a) I L I1 L1 ∧ ∀ f, I1 a f = I a f := ⟨_, rfl⟩
  suffices h : jv_Wp 111 0 [(0, .ref a)] [] (jv_H K I L R) n sl Q by
    rw [hQ] at h
    obtain ⟨X, h, I1, L1, e, h'⟩ := h
    subst e
    exact ⟨I1, L1, h, h'⟩
  refine jv_Wp.lift (fun _ Kz => jv_Ev.steps jv_i111 2 (pc' := 2) (l' := [(1, .int (0 : Int32)), (0, .ref a)]) (st' := []) rfl Kz) ?_
  refine jv_Wp.loc (l := [(0, .ref a), (1, .int (0 : Int32))]) ⟨List.forall_mem_cons.mpr ⟨.tail _ (.head _), List.forall_mem_cons.mpr ⟨.head _, fun _ h => absurd h List.not_mem_nil⟩⟩, by show List.Nodup [1, 0]; decide⟩ ?_
  rw [show (0 : Int32) = vl_I 0 from rfl]
  refine vc_loop0n (a := a) (I0 := I) (L0 := L) (f := fun _ _ => vt_none 0) (P := fun i Iz Lz => jv_Wp 111 2 [(0, .ref a), (1, .int (vl_I i))] [] (jv_H K Iz Lz R) n sl Q) trivial (fun i hi Ia La fr ta okA k => ?_) (fun Ia La ht fr => ?_)
  · skip

    refine jv_Wp.lift (fun _ Kz => jv_Ev.steps jv_i111 2 (pc' := 4) (l' := [(0, .ref a), (1, .int (vl_I i))]) (st' := [.ref a, .int (vl_I i)]) rfl Kz) ?_
    refine jv_Wp.lift (fun _ Kz => jv_Ev.m jv_i111 (pc' := 7) (st' := [.ref (a + 1), .int (vl_I i)]) (G' := (jv_H K Ia La R)) rfl rfl (jv_m_getR ha.k rfl rfl ha.r) Kz) ?_
    refine jv_Wp.lift (fun _ Kz => jv_Ev.m jv_i111 (pc' := 8) (st' := [.int (Int32.ofNat 75), .int (vl_I i)]) (G' := (jv_H K Ia La R)) rfl rfl (jv_m_len ha.kt rfl) Kz) ?_
    refine jv_Wp.cnd jv_i111 (pt := 26) (pe := 11) (p := ((Int32.ofNat 75) ≤ (vl_I i))) (q := ((Int32.ofNat 75) ≤ (vl_I i))) rfl jv_bc_ge rfl rfl Iff.rfl (fun h1 => ?_) (fun h1 => ?_)
    · exact absurd ((vl_I_le (by decide) (by omega)).mp h1) (by omega)
    · refine jv_Wp.lift (fun _ Kz => jv_Ev.steps jv_i111 1 (pc' := 12) (l' := [(0, .ref a), (1, .int (vl_I i))]) (st' := [.ref a]) rfl Kz) ?_
      refine jv_Wp.lift (fun _ Kz => jv_Ev.m jv_i111 (pc' := 15) (st' := [.ref (a + 1)]) (G' := (jv_H K Ia La R)) rfl rfl (jv_m_getR ha.k rfl rfl ha.r) Kz) ?_
      refine jv_Wp.lift (fun _ Kz => jv_Ev.steps jv_i111 1 (pc' := 16) (l' := [(0, .ref a), (1, .int (vl_I i))]) (st' := [.int (vl_I i), .ref (a + 1)]) rfl Kz) ?_
      refine jv_Wp.lift (fun _ Kz => jv_Ev.m jv_i111 (pc' := 17) (st' := [.ref (a + 2 + i)]) (G' := (jv_H K Ia La R)) rfl rfl (jv_m_aaldR ha.kt rfl (vl_I_ix hi (by decide)) rfl (vc_St_rt ha hi)) Kz) ?_
      obtain ⟨I1, L1, H1, T1, O1, F1⟩ := vc_none (I := Ia) (L := La) (R := R) (n := n) (sl := sl) (ha.kk i hi)
      refine jv_Wp.lift (fun _ Kz => jv_Ev.c jv_i111 (pc' := 20) (S' := []) (G1 := (jv_H K I1 L1 R)) jv_i141 [.ref (a + 2 + i)] rfl rfl rfl rfl (jv_cal rfl (jv_H_at (ha.kk i hi)) rfl rfl) rfl H1 rfl rfl Kz) ?_
      refine jv_Wp.lift (fun _ Kz => jv_Ev.steps jv_i111 2 (pc' := 2) (l' := [(1, .int ((vl_I i) + Int32.ofInt 1)), (0, .ref a)]) (st' := []) rfl Kz) ?_
      refine jv_Wp.loc (l := [(0, .ref a), (1, .int ((vl_I i) + Int32.ofInt 1))]) ⟨List.forall_mem_cons.mpr ⟨.tail _ (.head _), List.forall_mem_cons.mpr ⟨.head _, fun _ h => absurd h List.not_mem_nil⟩⟩, by show List.Nodup [1, 0]; decide⟩ ?_
      rw [show vl_I i + Int32.ofInt 1 = vl_I (i + 1) from vl_I_add i 1]
      exact k I1 L1 T1 O1 F1
  · skip
    refine jv_Wp.lift (fun _ Kz => jv_Ev.steps jv_i111 2 (pc' := 4) (l' := [(0, .ref a), (1, .int (vl_I 75))]) (st' := [.ref a, .int (vl_I 75)]) rfl Kz) ?_
    refine jv_Wp.lift (fun _ Kz => jv_Ev.m jv_i111 (pc' := 7) (st' := [.ref (a + 1), .int (vl_I 75)]) (G' := (jv_H K Ia La R)) rfl rfl (jv_m_getR ha.k rfl rfl ha.r) Kz) ?_
    refine jv_Wp.lift (fun _ Kz => jv_Ev.m jv_i111 (pc' := 8) (st' := [.int (Int32.ofNat 75), .int (vl_I 75)]) (G' := (jv_H K Ia La R)) rfl rfl (jv_m_len ha.kt rfl) Kz) ?_
    refine jv_Wp.cnd jv_i111 (pt := 26) (pe := 11) (p := ((Int32.ofNat 75) ≤ (vl_I 75))) (q := ((Int32.ofNat 75) ≤ (vl_I 75))) rfl jv_bc_ge rfl rfl Iff.rfl (fun _ => ?_) (fun hz => absurd (Int32.le_refl _) hz)
    refine jv_Wp.lift (fun _ Kz => jv_Ev.steps jv_i111 1 (pc' := 27) (l' := [(0, .ref a), (1, .int (vl_I 75))]) (st' := [.ref a]) rfl Kz) ?_
    refine jv_Wp.lift (fun _ Kz => jv_Ev.m jv_i111 (pc' := 30) (st' := [.ref (a + 1)]) (G' := (jv_H K Ia La R)) rfl rfl (jv_m_getR ha.k rfl rfl ha.r) Kz) ?_
    refine jv_Wp.lift (fun _ Kz => jv_Ev.steps jv_i111 1 (pc' := 31) (l' := [(0, .ref a), (1, .int (vl_I 75))]) (st' := [.int (1 : Int32), .ref (a + 1)]) rfl Kz) ?_
    refine jv_Wp.lift (fun _ Kz => jv_Ev.m jv_i111 (pc' := 32) (st' := [.ref (a + 2 + 1)]) (G' := (jv_H K Ia La R)) rfl rfl (jv_m_aaldR ha.kt rfl (by decide) rfl (ha.rt 1 (by decide))) Kz) ?_
    refine jv_Wp.lift (fun _ Kz => jv_Ev.steps jv_i111 3 (pc' := 35) (l' := [(0, .ref a), (1, .int (vl_I 75))]) (st' := [.long (0 : Int64), .int (0 : Int32), .int (2 : Int32), .ref (a + 2 + 1)]) rfl Kz) ?_
    obtain ⟨I2, L2, H2, T2, O2, F2⟩ := vc_bec (I := Ia) (L := La) (R := R) (n := n) (sl := sl) (2 : Int32) (0 : Int32) (0 : Int64) (ha.kk 1 (by decide)) (Or.inr (Or.inr (Or.inl ⟨Or.inl rfl, rfl, rfl⟩)))
    refine jv_Wp.lift (fun _ Kz => jv_Ev.c jv_i111 (pc' := 38) (S' := []) (G1 := (jv_H K I2 L2 R)) jv_i140 [.ref (a + 2 + 1), .int (2 : Int32), .int (0 : Int32), .long (0 : Int64)] rfl rfl rfl rfl (jv_cal rfl (jv_H_at (ha.kk 1 (by decide))) rfl rfl) rfl H2 rfl rfl Kz) ?_
    refine jv_Wp.lift (fun _ Kz => jv_Ev.steps jv_i111 1 (pc' := 39) (l' := [(0, .ref a), (1, .int (vl_I 75))]) (st' := [.ref a]) rfl Kz) ?_
    refine jv_Wp.lift (fun _ Kz => jv_Ev.m jv_i111 (pc' := 42) (st' := [.ref (a + 1)]) (G' := (jv_H K I2 L2 R)) rfl rfl (jv_m_getR ha.k rfl rfl ha.r) Kz) ?_
    refine jv_Wp.lift (fun _ Kz => jv_Ev.steps jv_i111 1 (pc' := 44) (l' := [(0, .ref a), (1, .int (vl_I 75))]) (st' := [.int (10 : Int32), .ref (a + 1)]) rfl Kz) ?_
    refine jv_Wp.lift (fun _ Kz => jv_Ev.m jv_i111 (pc' := 45) (st' := [.ref (a + 2 + 10)]) (G' := (jv_H K I2 L2 R)) rfl rfl (jv_m_aaldR ha.kt rfl (by decide) rfl (ha.rt 10 (by decide))) Kz) ?_
    refine jv_Wp.lift (fun _ Kz => jv_Ev.steps jv_i111 3 (pc' := 48) (l' := [(0, .ref a), (1, .int (vl_I 75))]) (st' := [.long (0 : Int64), .int (0 : Int32), .int (3 : Int32), .ref (a + 2 + 10)]) rfl Kz) ?_
    obtain ⟨I3, L3, H3, T3, O3, F3⟩ := vc_bec (I := I2) (L := L2) (R := R) (n := n) (sl := sl) (3 : Int32) (0 : Int32) (0 : Int64) (ha.kk 10 (by decide)) (Or.inr (Or.inr (Or.inl ⟨Or.inr rfl, rfl, rfl⟩)))
    refine jv_Wp.lift (fun _ Kz => jv_Ev.c jv_i111 (pc' := 51) (S' := []) (G1 := (jv_H K I3 L3 R)) jv_i140 [.ref (a + 2 + 10), .int (3 : Int32), .int (0 : Int32), .long (0 : Int64)] rfl rfl rfl rfl (jv_cal rfl (jv_H_at (ha.kk 10 (by decide))) rfl rfl) rfl H3 rfl rfl Kz) ?_
    refine jv_Wp.lift (fun _ Kz => jv_Ev.steps jv_i111 2 (pc' := 53) (l' := [(0, .ref a), (1, .int (vl_I 75))]) (st' := [.long (0 : Int64), .ref a]) rfl Kz) ?_
    refine jv_Wp.lift (fun _ Kz => jv_Ev.m jv_i111 (pc' := 56) (st' := []) (G' := (jv_H K I3 (jv_u L3 a 1 (0 : Int64)) R)) rfl rfl (jv_m_putL ha.k rfl rfl rfl rfl) Kz) ?_
    refine jv_Wp.of (jv_Ev.ret jv_i111 rfl rfl) ?_
    rw [hQ]
    have g : ∀ p, p ≠ a + 2 + 1 ∧ p ≠ a + 2 + 10 → (∀ f, I3 p f = Ia p f) ∧ ∀ f, L3 p f = La p f := (fun p hp => ⟨fun f => ((F3 p hp.2).1 f).trans ((F2 p hp.1).1 f), fun f => ((F3 p hp.2).2 f).trans ((F2 p hp.1).2 f)⟩)
    have t1 : vc_T I3 L3 (a + 2 + 1) = vt_ctx 0 := (vc_fr_T F3 (by omega)).trans T2
    have t10 : vc_T I3 L3 (a + 2 + 10) = vt_stk 0 := T3
    have tn : ∀ n, n < 75 → n ≠ 1 → n ≠ 10 → vc_T I3 L3 (a + 2 + n) = vt_none 0 := fun n hn h1 h2 => (vc_fr_T F3 (by omega)).trans ((vc_fr_T F2 (by omega)).trans (ht n hn).1)
    refine ⟨_, _, rfl, Prod.ext (funext (fun n => ?_)) (congrArg Int64.toInt (jv_u_self _ _ _ _)), fun n hn => (vc_ok_u1 _ _ (by omega) _).mpr ?_, fun p hp => ⟨fun f => ((g p ⟨fun z => hp ⟨by omega, by omega⟩, fun z => hp ⟨by omega, by omega⟩⟩).1 f).trans ((fr p (fun z => hp (by unfold vc_th at z; exact ⟨by omega, by omega⟩))).1 f), fun f => (jv_u_o _ _ _ _ (fun z => hp (by rw [z]; exact ⟨by omega, by omega⟩))).trans (((g p ⟨fun z => hp ⟨by omega, by omega⟩, fun z => hp ⟨by omega, by omega⟩⟩).2 f).trans ((fr p (fun z => hp (by unfold vc_th at z; exact ⟨by omega, by omega⟩))).2 f))⟩, fun f => ((g a ⟨by omega, by omega⟩).1 f).trans ((fr a (fun z => by unfold vc_th at z; omega)).1 f)⟩
    · show (if n < 75 then _ else _) = if n = 1 then _ else if n = 10 then _ else _
      by_cases hn : n < 75
      · rw [if_pos hn, vc_T_u1 _ _ (by omega)]
        by_cases h1 : n = 1
        · rw [if_pos h1, h1]; exact t1
        · rw [if_neg h1]
          by_cases h10 : n = 10
          · rw [if_pos h10, h10]; exact t10
          · rw [if_neg h10]; exact tn n hn h1 h10
      · rw [if_neg hn, if_neg (by omega), if_neg (by omega)]
    · by_cases h10 : n = 10
      · rw [h10]; exact O3
      · refine (vc_fr_ok F3 (by omega)).mpr ?_
        by_cases h1 : n = 1
        · rw [h1]; exact O2
        · exact (vc_fr_ok F2 (by omega)).mpr (ht n hn).2
theorem vc_oA {K : Nat → Option (Nat × Nat)} {I : Nat → Nat → Int32} {L : Nat → Nat → Int64} {R : Nat → Nat → Value} {pr N n sl : Nat} {Q : jv_R → Prop} (hC : vc_C K R) (HQ : ∀ I1, I1 = jv_u I 10 11 (0 : Int32) → Q (some (.int 10), jv_H K I1 L R, n, sl)) : jv_Wp 23 114 [(0, .ref 10), (1, .ref pr), (2, .int (vl_I N)), (3, .int (vr_b true)), (4, .int (vl_I 256))] [] (jv_H K I L R) n sl Q := by
  refine jv_Wp.lift (fun _ Kz => jv_Ev.steps jv_i23 2 (pc' := 119) (l' := [(0, .ref 10), (1, .ref pr), (2, .int (vl_I N)), (3, .int (vr_b true)), (4, .int (vl_I 256))]) (st' := [.int (256 : Int32), .int (vl_I 256)]) rfl Kz) ?_
  refine jv_Wp.cnd jv_i23 (pt := 247) (pe := 122) (p := ((256 : Int32) ≤ (vl_I 256))) (q := ((256 : Int32) ≤ (vl_I 256))) rfl jv_bc_ge rfl rfl Iff.rfl (fun _ => ?_) (fun hz => absurd (Int32.le_refl _) hz)
  refine jv_Wp.lift (fun _ Kz => jv_Ev.steps jv_i23 2 (pc' := 249) (l' := [(0, .ref 10), (1, .ref pr), (2, .int (vl_I N)), (3, .int (vr_b true)), (4, .int (vl_I 256))]) (st' := [.int (0 : Int32), .ref 10]) rfl Kz) ?_
  refine jv_Wp.lift (fun _ Kz => jv_Ev.m jv_i23 (pc' := 252) (st' := []) (G' := (jv_H K (jv_u I 10 11 (0 : Int32)) L R)) rfl rfl (jv_m_putI hC.k rfl rfl rfl rfl) Kz) ?_
  refine jv_Wp.lift (fun _ Kz => jv_Ev.steps jv_i23 1 (pc' := 253) (l' := [(0, .ref 10), (1, .ref pr), (2, .int (vl_I N)), (3, .int (vr_b true)), (4, .int (vl_I 256))]) (st' := [.int (vr_b true)]) rfl Kz) ?_
  refine jv_Wp.cnd jv_i23 (pt := 261) (pe := 256) (p := ((vr_b true) = 0)) (q := ((vr_b true) = 0)) rfl jv_bi_eq rfl rfl Iff.rfl (fun hz => absurd hz (by decide)) (fun _ => ?_)
  refine jv_Wp.lift (fun _ Kz => jv_Ev.steps jv_i23 2 (pc' := 262) (l' := [(0, .ref 10), (1, .ref pr), (2, .int (vl_I N)), (3, .int (vr_b true)), (4, .int (vl_I 256))]) (st' := [.int (10 : Int32)]) rfl Kz) ?_
  refine jv_Wp.of (jv_Ev.ret jv_i23 rfl rfl) ?_
  exact HQ _ rfl
theorem vc_oB {K : Nat → Option (Nat × Nat)} {I : Nat → Nat → Int32} {L : Nat → Nat → Int64} {R : Nat → Nat → Value} {pr N n sl : Nat} {Q : jv_R → Prop} (hC : vc_C K R) {g : Nat} (HQ : ∀ I1, I1 = jv_u I 10 11 (0 : Int32) → Q (some (.int 0), jv_H K I1 L R, n, sl)) : jv_Wp 23 114 [(0, .ref 10), (1, .ref pr), (2, .int (vl_I N)), (3, .int (vr_b false)), (4, .int (vl_I g))] [] (jv_H K I L R) n sl Q := by
  refine jv_Wp.lift (fun _ Kz => jv_Ev.steps jv_i23 2 (pc' := 119) (l' := [(0, .ref 10), (1, .ref pr), (2, .int (vl_I N)), (3, .int (vr_b false)), (4, .int (vl_I g))]) (st' := [.int (256 : Int32), .int (vl_I g)]) rfl Kz) ?_
  refine jv_Wp.cnd jv_i23 (pt := 247) (pe := 122) (p := ((256 : Int32) ≤ (vl_I g))) (q := ((256 : Int32) ≤ (vl_I g))) rfl jv_bc_ge rfl rfl Iff.rfl (fun h1 => ?_) (fun h1 => ?_)
  · refine jv_Wp.lift (fun _ Kz => jv_Ev.steps jv_i23 2 (pc' := 249) (l' := [(0, .ref 10), (1, .ref pr), (2, .int (vl_I N)), (3, .int (vr_b false)), (4, .int (vl_I g))]) (st' := [.int (0 : Int32), .ref 10]) rfl Kz) ?_
    refine jv_Wp.lift (fun _ Kz => jv_Ev.m jv_i23 (pc' := 252) (st' := []) (G' := (jv_H K (jv_u I 10 11 (0 : Int32)) L R)) rfl rfl (jv_m_putI hC.k rfl rfl rfl rfl) Kz) ?_
    refine jv_Wp.lift (fun _ Kz => jv_Ev.steps jv_i23 1 (pc' := 253) (l' := [(0, .ref 10), (1, .ref pr), (2, .int (vl_I N)), (3, .int (vr_b false)), (4, .int (vl_I g))]) (st' := [.int (vr_b false)]) rfl Kz) ?_
    refine jv_Wp.cnd jv_i23 (pt := 261) (pe := 256) (p := ((vr_b false) = 0)) (q := ((vr_b false) = 0)) rfl jv_bi_eq rfl rfl Iff.rfl (fun _ => ?_) (fun hz => absurd rfl hz)
    refine jv_Wp.lift (fun _ Kz => jv_Ev.steps jv_i23 1 (pc' := 262) (l' := [(0, .ref 10), (1, .ref pr), (2, .int (vl_I N)), (3, .int (vr_b false)), (4, .int (vl_I g))]) (st' := [.int (0 : Int32)]) rfl Kz) ?_
    refine jv_Wp.of (jv_Ev.ret jv_i23 rfl rfl) ?_
    exact HQ _ rfl
  · refine jv_Wp.lift (fun _ Kz => jv_Ev.steps jv_i23 1 (pc' := 123) (l' := [(0, .ref 10), (1, .ref pr), (2, .int (vl_I N)), (3, .int (vr_b false)), (4, .int (vl_I g))]) (st' := [.int (vr_b false)]) rfl Kz) ?_
    refine jv_Wp.cnd jv_i23 (pt := 247) (pe := 126) (p := ((vr_b false) = 0)) (q := ((vr_b false) = 0)) rfl jv_bi_eq rfl rfl Iff.rfl (fun _ => ?_) (fun hz => absurd rfl hz)
    refine jv_Wp.lift (fun _ Kz => jv_Ev.steps jv_i23 2 (pc' := 249) (l' := [(0, .ref 10), (1, .ref pr), (2, .int (vl_I N)), (3, .int (vr_b false)), (4, .int (vl_I g))]) (st' := [.int (0 : Int32), .ref 10]) rfl Kz) ?_
    refine jv_Wp.lift (fun _ Kz => jv_Ev.m jv_i23 (pc' := 252) (st' := []) (G' := (jv_H K (jv_u I 10 11 (0 : Int32)) L R)) rfl rfl (jv_m_putI hC.k rfl rfl rfl rfl) Kz) ?_
    refine jv_Wp.lift (fun _ Kz => jv_Ev.steps jv_i23 1 (pc' := 253) (l' := [(0, .ref 10), (1, .ref pr), (2, .int (vl_I N)), (3, .int (vr_b false)), (4, .int (vl_I g))]) (st' := [.int (vr_b false)]) rfl Kz) ?_
    refine jv_Wp.cnd jv_i23 (pt := 261) (pe := 256) (p := ((vr_b false) = 0)) (q := ((vr_b false) = 0)) rfl jv_bi_eq rfl rfl Iff.rfl (fun _ => ?_) (fun hz => absurd rfl hz)
    refine jv_Wp.lift (fun _ Kz => jv_Ev.steps jv_i23 1 (pc' := 262) (l' := [(0, .ref 10), (1, .ref pr), (2, .int (vl_I N)), (3, .int (vr_b false)), (4, .int (vl_I g))]) (st' := [.int (0 : Int32)]) rfl Kz) ?_
    refine jv_Wp.of (jv_Ev.ret jv_i23 rfl rfl) ?_
    exact HQ _ rfl
theorem vc_oC {K : Nat → Option (Nat × Nat)} {I : Nat → Nat → Int32} {L : Nat → Nat → Int64} {R : Nat → Nat → Value} {pr N n sl g : Nat} {Q : jv_R → Prop} (hg : g < 256) (HE : jv_Wp 23 131 [(0, .ref 10), (1, .ref pr), (2, .int (vl_I N)), (3, .int (vr_b false)), (4, .int (vl_I g)), (5, .int (vl_I 0))] [] (jv_H K I L R) n sl Q) : jv_Wp 23 114 [(0, .ref 10), (1, .ref pr), (2, .int (vl_I N)), (3, .int (vr_b true)), (4, .int (vl_I g))] [] (jv_H K I L R) n sl Q := by
  refine jv_Wp.lift (fun _ Kz => jv_Ev.steps jv_i23 2 (pc' := 119) (l' := [(0, .ref 10), (1, .ref pr), (2, .int (vl_I N)), (3, .int (vr_b true)), (4, .int (vl_I g))]) (st' := [.int (256 : Int32), .int (vl_I g)]) rfl Kz) ?_
  refine jv_Wp.cnd jv_i23 (pt := 247) (pe := 122) (p := ((256 : Int32) ≤ (vl_I g))) (q := ((256 : Int32) ≤ (vl_I g))) rfl jv_bc_ge rfl rfl Iff.rfl (fun hz => absurd hz (fun z => absurd ((vl_I_le (a := 256) (by decide) (by omega)).mp z) (by omega))) (fun _ => ?_)
  refine jv_Wp.lift (fun _ Kz => jv_Ev.steps jv_i23 1 (pc' := 123) (l' := [(0, .ref 10), (1, .ref pr), (2, .int (vl_I N)), (3, .int (vr_b true)), (4, .int (vl_I g))]) (st' := [.int (vr_b true)]) rfl Kz) ?_
  refine jv_Wp.cnd jv_i23 (pt := 247) (pe := 126) (p := ((vr_b true) = 0)) (q := ((vr_b true) = 0)) rfl jv_bi_eq rfl rfl Iff.rfl (fun hz => absurd hz (by decide)) (fun _ => ?_)
  refine jv_Wp.lift (fun _ Kz => jv_Ev.steps jv_i23 4 (pc' := 131) (l' := [(5, .int (0 : Int32)), (3, .int (0 : Int32)), (0, .ref 10), (1, .ref pr), (2, .int (vl_I N)), (4, .int (vl_I g))]) (st' := []) rfl Kz) ?_
  refine jv_Wp.loc (l := [(0, .ref 10), (1, .ref pr), (2, .int (vl_I N)), (3, .int (0 : Int32)), (4, .int (vl_I g)), (5, .int (0 : Int32))]) ⟨List.forall_mem_cons.mpr ⟨.tail _ (.tail _ (.head _)), List.forall_mem_cons.mpr ⟨.tail _ (.tail _ (.tail _ (.head _))), List.forall_mem_cons.mpr ⟨.tail _ (.tail _ (.tail _ (.tail _ (.head _)))), List.forall_mem_cons.mpr ⟨.tail _ (.head _), List.forall_mem_cons.mpr ⟨.tail _ (.tail _ (.tail _ (.tail _ (.tail _ (.head _))))), List.forall_mem_cons.mpr ⟨.head _, fun _ h => absurd h List.not_mem_nil⟩⟩⟩⟩⟩⟩, by show List.Nodup [5, 3, 0, 1, 2, 4]; decide⟩ ?_
  exact HE
theorem vc_oD {K : Nat → Option (Nat × Nat)} {I : Nat → Nat → Int32} {L : Nat → Nat → Int64} {R : Nat → Nat → Value} {pr N n sl g : Nat} {c : Bool} {Q : jv_R → Prop} (HE : jv_Wp 23 114 [(0, .ref 10), (1, .ref pr), (2, .int (vl_I N)), (3, .int (vr_b c)), (4, .int (vl_I (g + 1)))] [] (jv_H K I L R) n sl Q) : jv_Wp 23 241 [(0, .ref 10), (1, .ref pr), (2, .int (vl_I N)), (3, .int (vr_b c)), (4, .int (vl_I g))] [] (jv_H K I L R) n sl Q := by
  refine jv_Wp.lift (fun _ Kz => jv_Ev.steps jv_i23 2 (pc' := 114) (l' := [(4, .int ((vl_I g) + Int32.ofInt 1)), (0, .ref 10), (1, .ref pr), (2, .int (vl_I N)), (3, .int (vr_b c))]) (st' := []) rfl Kz) ?_
  refine jv_Wp.loc (l := [(0, .ref 10), (1, .ref pr), (2, .int (vl_I N)), (3, .int (vr_b c)), (4, .int ((vl_I g) + Int32.ofInt 1))]) ⟨List.forall_mem_cons.mpr ⟨.tail _ (.head _), List.forall_mem_cons.mpr ⟨.tail _ (.tail _ (.head _)), List.forall_mem_cons.mpr ⟨.tail _ (.tail _ (.tail _ (.head _))), List.forall_mem_cons.mpr ⟨.tail _ (.tail _ (.tail _ (.tail _ (.head _)))), List.forall_mem_cons.mpr ⟨.head _, fun _ h => absurd h List.not_mem_nil⟩⟩⟩⟩⟩, by show List.Nodup [4, 0, 1, 2, 3]; decide⟩ ?_
  rw [show vl_I g + Int32.ofInt 1 = vl_I (g + 1) from vl_I_add g 1]
  exact HE
theorem vc_oS {K : Nat → Option (Nat × Nat)} {I : Nat → Nat → Int32} {L : Nat → Nat → Int64} {R : Nat → Nat → Value} {pr N n sl sc : Nat} {sa : Nat → Nat} {Q : jv_R → Prop} (hC : vc_C K R) (hCs : R 10 1 = .ref 11) (hS : vc_SS K R sc sa n) (h0 : 0 < sc) (oks : vc_okA I L (sa 0)) (f3 : I (sa 0) 3 = 0) (HE : ∀ I1 L1, vc_A I1 L1 (sa 0) = vt_start → vc_okA I1 L1 (sa 0) → I1 (sa 0) 2 = 0 → I1 (sa 0) 3 = 1 → I1 (sa 0) 4 = 1 → vc_fr (fun q => vc_in 12 q ∨ vc_in (sa 0) q) I L I1 L1 → vc_okA I1 L1 12 → jv_Wp 23 114 [(0, .ref 10), (1, .ref pr), (2, .int (vl_I N)), (3, .int (vr_b true)), (4, .int (vl_I 0))] [] (jv_H K I1 L1 R) n sl Q) : jv_Wp 23 91 [(0, .ref 10), (1, .ref pr), (2, .int (vl_I N))] [] (jv_H K I L R) n sl Q := by
  obtain ⟨r1, r2, r3, r4⟩ := hS.2.2.2.1 0 h0
  refine jv_Wp.lift (fun _ Kz => jv_Ev.steps jv_i23 1 (pc' := 92) (l' := [(0, .ref 10), (1, .ref pr), (2, .int (vl_I N))]) (st' := [.ref 10]) rfl Kz) ?_
  refine jv_Wp.lift (fun _ Kz => jv_Ev.m jv_i23 (pc' := 95) (st' := [.ref 12]) (G' := (jv_H K I L R)) rfl rfl (jv_m_getR hC.k rfl rfl hC.rnow) Kz) ?_
  obtain ⟨I4, L4, H4, T4, O4, F4, G4⟩ := vc_begin9 (I := I) (L := L) (R := R) (n := n) (sl := sl) hC.now
  refine jv_Wp.lift (fun _ Kz => jv_Ev.c jv_i23 (pc' := 98) (S' := []) (G1 := (jv_H K I4 L4 R)) jv_i111 [.ref 12] rfl rfl rfl rfl (jv_cal rfl (jv_H_at hC.now.k) rfl rfl) rfl H4 rfl rfl Kz) ?_
  refine jv_Wp.lift (fun _ Kz => jv_Ev.steps jv_i23 2 (pc' := 100) (l' := [(0, .ref 10), (1, .ref pr), (2, .int (vl_I N))]) (st' := [.ref 10, .ref 10]) rfl Kz) ?_
  refine jv_Wp.lift (fun _ Kz => jv_Ev.m jv_i23 (pc' := 103) (st' := [.ref 12, .ref 10]) (G' := (jv_H K I4 L4 R)) rfl rfl (jv_m_getR hC.k rfl rfl hC.rnow) Kz) ?_
  refine jv_Wp.lift (fun _ Kz => jv_Ev.steps jv_i23 2 (pc' := 105) (l' := [(0, .ref 10), (1, .ref pr), (2, .int (vl_I N))]) (st' := [.int (0 : Int32), .int (-1 : Int32), .ref 12, .ref 10]) rfl Kz) ?_
  obtain ⟨I5, L5, H5, a1, a2, a3, a4, a5, a6⟩ := vc_arrA (I := I4) (L := L4) (R := R) (n := n) (sl := sl) (q := 0) (b := 12) (-1 : Int32) hC hCs hS.1 (by decide) r1 r2 hC.now (by decide) r3 (vc_fr_okA F4 (fun q z => by unfold vc_in at *; omega) oks) O4 (((F4 (sa 0) (by unfold vc_in; omega)).1 3).trans f3)
  refine jv_Wp.lift (fun _ Kz => jv_Ev.c jv_i23 (pc' := 108) (S' := [.int (1 : Int32)]) (G1 := (jv_H K I5 L5 R)) jv_i24 [.ref 10, .ref 12, .int (-1 : Int32), .int (0 : Int32)] rfl rfl rfl rfl (jv_cal rfl (jv_H_at hC.k) rfl rfl) rfl H5 rfl rfl Kz) ?_
  refine jv_Wp.lift (fun _ Kz => jv_Ev.steps jv_i23 5 (pc' := 114) (l' := [(4, .int (0 : Int32)), (3, .int (1 : Int32)), (0, .ref 10), (1, .ref pr), (2, .int (vl_I N))]) (st' := []) rfl Kz) ?_
  refine jv_Wp.loc (l := [(0, .ref 10), (1, .ref pr), (2, .int (vl_I N)), (3, .int (1 : Int32)), (4, .int (0 : Int32))]) ⟨List.forall_mem_cons.mpr ⟨.tail _ (.tail _ (.head _)), List.forall_mem_cons.mpr ⟨.tail _ (.tail _ (.tail _ (.head _))), List.forall_mem_cons.mpr ⟨.tail _ (.tail _ (.tail _ (.tail _ (.head _)))), List.forall_mem_cons.mpr ⟨.tail _ (.head _), List.forall_mem_cons.mpr ⟨.head _, fun _ h => absurd h List.not_mem_nil⟩⟩⟩⟩⟩, by show List.Nodup [4, 3, 0, 1, 2]; decide⟩ ?_
  exact HE I5 L5 (a1.trans T4) a2 a3 a4 a5 (vc_fr_trans (vc_fr_mono F4 (fun _ z => Or.inl z)) (vc_fr_mono a6 (fun _ z => Or.inr z))) (vc_fr_okA a6 (fun q z => by unfold vc_in at *; omega) O4)
section
variable {D : vz_D} {k p : Nat} {st : vz_F} {c : Bool}
theorem vz_passF_skip (h : st.2 p = false) : vz_passF D (k + 1) p st c = vz_passF D k (p + 1) st c := by
  show (if st.2 p = true then _ else _) = _
  rw [if_neg (by rw [h]; decide)]
theorem vz_passF_no {A : vt_A} (h : st.2 p = true) (hA : st.1.1 p = some A) (hr : (D p A).1 ≠ 0) : vz_passF D (k + 1) p st c = (((D p A).1, p), (st.1, vz_u st.2 p false), c) := by
  show (if st.2 p = true then _ else _) = _
  rw [if_pos h, hA]
  exact if_pos hr
theorem vz_passF_go {A : vt_A} (h : st.2 p = true) (hA : st.1.1 p = some A) (hr : (D p A).1 = 0) : vz_passF D (k + 1) p st c = vz_passF D k (p + 1) (vz_gosF p (D p A).2 (st.1, vz_u st.2 p false)).1 (c || (vz_gosF p (D p A).2 (st.1, vz_u st.2 p false)).2) := by
  show (if st.2 p = true then _ else _) = _
  rw [if_pos h, hA]
  exact if_neg (fun z => z hr)
end
/-- a pass, from place p on -/
theorem vc_inner {K : Nat → Option (Nat × Nat)} {R : Nat → Nat → Value} {M : vf_M} {pr ws N : Nat} {W : Nat → Int64} {fst : Nat → Bool} {sc : Nat} {sa : Nat → Nat} {n : Nat} {I0 : Nat → Nat → Int32} {L0 : Nat → Nat → Int64} (hW : vc_Wd K R M pr ws N W fst sc sa n I0 L0) {g sl : Nat} {Q : jv_R → Prop} : ∀ d p (I : Nat → Nat → Int32) (L : Nat → Nat → Int64) (st : vz_F) (c : Bool) (bnd : Nat), p + d = N → bnd + 2 * d < 2000000000 → vc_V K R sc sa N fst bnd I L st → vc_fr (vc_ck sc sa) I0 L0 I L → vc_okA I L 12 → vc_okA I L 89 →
    ((vz_passF (vx_D M (fun p => vc_F (W p))) d p st c).1.1 ≠ 0 → ∀ I1 L1, I1 10 11 = vl_I (vz_passF (vx_D M (fun p => vc_F (W p))) d p st c).1.2 → vc_fr (vc_ck sc sa) I0 L0 I1 L1 → vc_okA I1 L1 89 → (∀ k, k < sc → vc_okA I1 L1 (sa k)) → Q (some (.int (vl_I (vz_passF (vx_D M (fun p => vc_F (W p))) d p st c).1.1)), jv_H K I1 L1 R, n, sl)) →
    ((vz_passF (vx_D M (fun p => vc_F (W p))) d p st c).1.1 = 0 → ∀ I1 L1, vc_V K R sc sa N fst (bnd + 2 * d) I1 L1 (vz_passF (vx_D M (fun p => vc_F (W p))) d p st c).2.1 → vc_fr (vc_ck sc sa) I0 L0 I1 L1 → vc_okA I1 L1 12 → vc_okA I1 L1 89 → jv_Wp 23 241 [(0, .ref 10), (1, .ref pr), (2, .int (vl_I N)), (3, .int (vr_b (vz_passF (vx_D M (fun p => vc_F (W p))) d p st c).2.2)), (4, .int (vl_I g))] [] (jv_H K I1 L1 R) n sl Q) →
    jv_Wp 23 131 [(0, .ref 10), (1, .ref pr), (2, .int (vl_I N)), (3, .int (vr_b c)), (4, .int (vl_I g)), (5, .int (vl_I p))] [] (jv_H K I L R) n sl Q := by
  intro d
  induction d with
  | zero =>
    intro p I L st c bnd hp hb hV hF o12 o89 kr ke
    have hp : p = N := by omega
    subst hp
    exact vc_pend (ke rfl I L hV hF o12 o89)
  | succ d ih =>
    intro p I L st c bnd hp hb hV hF o12 o89 kr ke
    have hlt : p < N := by omega
    have W := hW
    obtain ⟨hC, hCs, hS, hNs, _⟩ := W
    obtain ⟨r1, r2, r3, r4⟩ := hS.2.2.2.1 p (by omega)
    have h1024 := hS.2.1
    cases hf : st.2 p with
    | false =>
      rw [vz_passF_skip hf] at kr ke
      have h4 : I (sa p) 4 = 0 := by
        rw [(hV.1.2.2.1 p (sa p) (by omega) (vs_S_lt (by omega))).2.2.2.2.2.1, hf]; rfl
      refine vc_pskip (sc := sc) hC hCs hS.1 hlt (by omega) r2 r1 h4 (ih (p + 1) I L st c bnd (by omega) (by omega) hV hF o12 o89 kr (fun z I1 L1 v => ?_))
      obtain ⟨v1, v2, v3, v4, v5, v6⟩ := v
      exact ke z I1 L1 ⟨v1, v2, v3, v4, fun q => Nat.le_trans (v5 q) (by omega), v6⟩
    | true =>
      have hs := hV.2.2.2.2.2 p hf
      cases hA : st.1.1 p with
      | none => rw [hA] at hs; cases hs
      | some A =>
        refine vc_pgo (bnd := bnd) hW hlt hV (by omega) hF o12 o89 hf hA (fun I1 L1 z e fr a1 a2 => ?_) (fun I1 L1 z v fr a1 a2 => ?_)
        · rw [vz_passF_no hf hA z] at kr
          exact kr z I1 L1 e (vc_fr_trans hF fr) a1 a2
        · rw [vz_passF_go hf hA z] at kr ke
          refine ih (p + 1) I1 L1 _ _ (bnd + 2) (by omega) (by omega) v (vc_fr_trans hF fr) a1 a2 kr (fun z I1 L1 v => ?_)
          rw [show bnd + 2 + 2 * d = bnd + 2 * (d + 1) by omega] at v
          exact ke z I1 L1 v
/-- the passes -/
theorem vc_outer {K : Nat → Option (Nat × Nat)} {R : Nat → Nat → Value} {M : vf_M} {pr ws N : Nat} {W : Nat → Int64} {fst : Nat → Bool} {sc : Nat} {sa : Nat → Nat} {n : Nat} {I0 : Nat → Nat → Int32} {L0 : Nat → Nat → Int64} (hW : vc_Wd K R M pr ws N W fst sc sa n I0 L0) {sl : Nat} {Q : jv_R → Prop} : ∀ k g (I : Nat → Nat → Int32) (L : Nat → Nat → Int64) (st : vz_F) (bnd : Nat), g + k = 256 → bnd + 2 * N * k < 2000000000 → vc_V K R sc sa N fst bnd I L st → vc_fr (vc_ck sc sa) I0 L0 I L → vc_okA I L 12 → vc_okA I L 89 →
    (∀ I1 L1, I1 10 11 = vl_I (vz_passesF (vx_D M (fun p => vc_F (W p))) N k st).1.2 → vc_fr (vc_ck sc sa) I0 L0 I1 L1 → vc_okA I1 L1 89 → (∀ k, k < sc → vc_okA I1 L1 (sa k)) → Q (some (.int (vl_I (vz_passesF (vx_D M (fun p => vc_F (W p))) N k st).1.1)), jv_H K I1 L1 R, n, sl)) →
    jv_Wp 23 114 [(0, .ref 10), (1, .ref pr), (2, .int (vl_I N)), (3, .int (vr_b true)), (4, .int (vl_I g))] [] (jv_H K I L R) n sl Q := by
  have hC := hW.1
  have hS := hW.2.2.1
  have fin : ∀ I L bnd st, vc_V K R sc sa N fst bnd I L st → vc_fr (vc_ck sc sa) I0 L0 I L → vc_okA I L 89 → vc_fr (vc_ck sc sa) I0 L0 (jv_u I 10 11 (0 : Int32)) L ∧ vc_okA (jv_u I 10 11 (0 : Int32)) L 89 ∧ ∀ k, k < sc → vc_okA (jv_u I 10 11 (0 : Int32)) L (sa k) := fun I L bnd st hV hF o89 =>
    ⟨vc_fr_trans hF (vc_fr_mono (vc_fr_u10 I L 11 _) (fun q z => Or.inr (Or.inr (Or.inr (Or.inl z))))), vc_fr_okA (vc_fr_u10 I L 11 _) (fun q z => by unfold vc_in at z; omega) o89, fun k hk => vc_fr_okA (vc_fr_u10 I L 11 _) (fun q z => by have := (hS.2.2.2.1 k hk).2.2.1; unfold vc_in at z; omega) (hV.1.2.2.1 k (sa k) (by have := hS.2.1; omega) (vs_S_lt hk)).2.2.2.1⟩
  intro k
  induction k with
  | zero =>
    intro g I L st bnd hg hb hV hF o12 o89 hq
    have hg : g = 256 := by omega
    subst hg
    obtain ⟨f1, f2, f3⟩ := fin I L bnd st hV hF o89
    exact vc_oA hC (fun I1 e => by subst e; exact hq _ L (jv_u_self _ _ _ _) f1 f2 f3)
  | succ k ih =>
    intro g I L st bnd hg hb hV hF o12 o89 hq
    have e0 : vz_passesF (vx_D M (fun p => vc_F (W p))) N (k + 1) st = if (vz_passF (vx_D M (fun p => vc_F (W p))) N 0 st false).1.1 ≠ 0 then ((vz_passF (vx_D M (fun p => vc_F (W p))) N 0 st false).1, (vz_passF (vx_D M (fun p => vc_F (W p))) N 0 st false).2.1) else if (vz_passF (vx_D M (fun p => vc_F (W p))) N 0 st false).2.2 = true then vz_passesF (vx_D M (fun p => vc_F (W p))) N k (vz_passF (vx_D M (fun p => vc_F (W p))) N 0 st false).2.1 else ((0, 0), (vz_passF (vx_D M (fun p => vc_F (W p))) N 0 st false).2.1) := rfl
    have hb2 : 2 * N * (k + 1) = 2 * N * k + 2 * N := Nat.mul_succ _ _
    refine vc_oC (by omega) (vc_inner hW N 0 I L st false bnd (by omega) (by omega) hV hF o12 o89 (fun z I1 L1 e f a1 a2 => ?_) (fun z I1 L1 v f a1 a2 => vc_oD ?_))
    · rw [e0, if_pos z] at hq
      exact hq I1 L1 e f a1 a2
    · rw [e0, if_neg (fun y => y z)] at hq
      cases c : (vz_passF (vx_D M (fun p => vc_F (W p))) N 0 st false).2.2 with
      | true =>
        rw [if_pos c] at hq
        exact ih (g + 1) I1 L1 _ _ (by omega) (by omega) v f a1 a2 hq
      | false =>
        rw [if_neg (by rw [c]; decide)] at hq
        obtain ⟨f1, f2, f3⟩ := fin I1 L1 _ _ v f a2
        exact vc_oB hC (fun I2 e => by subst e; exact hq _ L1 (jv_u_self _ _ _ _) f1 f2 f3)