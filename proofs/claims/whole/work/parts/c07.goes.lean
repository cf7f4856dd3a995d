/-! part c07: a state of the reference goes to a place (gen/tc07.py) -/
theorem vr_u2 (J : Nat → Nat → Int32) (v w : Int32) : ∀ r f, ¬ ((r = 202 ∨ r = 203) ∧ f = 1026) → jv_u (jv_u J 203 1026 v) 202 1026 w r f = J r f := fun r f z => by
  have t : ∀ o, o = 202 ∨ o = 203 → ∀ (J : Nat → Nat → Int32) (w : Int32), jv_u J o 1026 w r f = J r f := fun o ho J w => by
    by_cases e : r = o
    · rw [e]; exact jv_u_j _ _ _ _ (fun y => z ⟨by omega, y⟩)
    · exact jv_u_o _ _ _ _ e
  exact (t 202 (Or.inl rfl) _ _).trans (t 203 (Or.inr rfl) _ _)
theorem jv_i281 : jv_I 281 6 none 8 234 jv_c281 := ⟨rfl, rfl, rfl, rfl, rfl⟩
theorem vq_goT {K : Nat → Option (Nat × Nat)} {I : Nat → Nat → Int32} {L : Nat → Nat → Int64} {R : Nat → Nat → Value} (b q : Nat) (w c0 : Bool) (hW : jv_rW K R) (hf : vr_fl I) (hb : b < 1028) (hb2 : b ≠ 1026) (hq : q < 1024) (hbq : b ≠ q) (oq : vr_okA I q) (ob : vr_okA I b) (tq : ∀ n, n < 75 → vt_ok (vr_T I L (75 * q + n))) (tb : ∀ n, n < 75 → vt_ok (vr_T I L (75 * b + n))) (hc0 : c0 = true ↔ (I 203 b).toInt < (I 203 q).toInt) {n sl : Nat} {Q : jv_R → Prop} (hQ : Q = fun X => ∃ I1 L1 c, X = (none, jv_H K I1 L1 R, n, sl) ∧ (c = true ↔ (vt_meetA w (vr_A I L q) (vr_A I L b)) ≠ vr_A I L q) ∧ (c = true → vr_A I1 L1 q = (vt_meetA w (vr_A I L q) (vr_A I L b)) ∧ vr_okA I1 q ∧ I1 202 q = vr_b true ∧ I1 204 q = I 204 q + (1 : Int32) ∧ I1 196 17 = 1) ∧ (c = false → vr_fr (vr_th 1026) noE I L I1 L1) ∧ vr_fr (fun x => vr_th q x ∨ vr_th 1026 x) (fun r f => ((r = 202 ∨ r = 203 ∨ r = 204) ∧ (f = q ∨ f = 1026)) ∨ (r = 196 ∧ f = 17)) I L I1 L1) : jv_Wp 281 84 [(0, .ref 196), (1, .int (vl_I b)), (2, .int (vl_I q)), (3, .int (vr_b w)), (4, .int (vr_b c0)), (5, .int (vl_I 0))] [] (jv_H K I L R) n sl Q := by
  refine vr_loop (j := 1026) (c0 := c0) (I0 := I) (L0 := L) (f := fun i _ => vt_meet w (vr_T I L (75 * q + i)) (vr_T I L (75 * b + i))) (d := fun i => vt_meet w (vr_T I L (75 * q + i)) (vr_T I L (75 * b + i)) ≠ (vr_A I L q).1 i) (P := fun i c Iz Lz => jv_Wp 281 84 [(0, .ref 196), (1, .int (vl_I b)), (2, .int (vl_I q)), (3, .int (vr_b w)), (4, .int (vr_b c)), (5, .int (vl_I i))] [] (jv_H K Iz Lz R) n sl Q) hf (fun i hi c Ia La fr ta okA k => ?_) (fun c Ia La ht fr hc => ?_)
  · have Za := vr_fl_of fr
    have Tq : ∀ i, i < 75 → vr_T Ia La (75 * q + i) = vr_T I L (75 * q + i) := fun i hi => vr_fr_T fr (by unfold vr_th; omega)
    have Tb : ∀ i, i < 75 → vr_T Ia La (75 * b + i) = vr_T I L (75 * b + i) := fun i hi => vr_fr_T fr (by unfold vr_th; omega)
    refine jv_Wp.lift (fun _ Kz => jv_Ev.steps jv_i281 2 (pc' := 88) (l' := [(0, .ref 196), (1, .int (vl_I b)), (2, .int (vl_I q)), (3, .int (vr_b w)), (4, .int (vr_b c)), (5, .int (vl_I i))]) (st' := [.int (75 : Int32), .int (vl_I i)]) rfl Kz) ?_
    refine jv_Wp.cnd jv_i281 (pt := 131) (pe := 91) (p := ((75 : Int32) ≤ (vl_I i))) (q := ((75 : Int32) ≤ (vl_I i))) rfl jv_bc_ge rfl rfl Iff.rfl (fun h1 => ?_) (fun h1 => ?_)
    · exact absurd ((vl_I_le (a := 75) (by decide) (by omega)).mp h1) (by omega)
    · refine jv_Wp.lift (fun _ Kz => jv_Ev.steps jv_i281 5 (pc' := 97) (l' := [(0, .ref 196), (1, .int (vl_I b)), (2, .int (vl_I q)), (3, .int (vr_b w)), (4, .int (vr_b c)), (5, .int (vl_I i))]) (st' := [.int (vr_b w), .int (vl_I b), .int (vl_I i), .int (vl_I q), .ref 196]) rfl Kz) ?_
      obtain ⟨I1, L1, H1, T1, O1, F1⟩ := vq_rmeet (I := Ia) (L := La) (R := R) (n := n) (sl := sl) q i b w hW Za (by omega) (by omega) (by omega) hi ((vr_fr_ok fr (by unfold vr_th; omega)).mpr (oq i hi)) ((vr_fr_ok fr (by unfold vr_th; omega)).mpr (ob i hi)) (by rw [Tq i hi]; exact tq i hi) (by rw [Tb i hi]; exact tb i hi)
      rw [Tq i hi, Tb i hi] at T1
      refine jv_Wp.lift (fun _ Kz => jv_Ev.c jv_i281 (pc' := 100) (S' := []) (G1 := (jv_H K I1 L1 R)) jv_i280 [.ref 196, .int (vl_I q), .int (vl_I i), .int (vl_I b), .int (vr_b w)] rfl rfl rfl rfl (jv_cal rfl (jv_H_at (jv_rwK hW 196 12 24 (by decide))) rfl rfl) rfl H1 rfl rfl Kz) ?_
      refine jv_Wp.lift (fun _ Kz => jv_Ev.steps jv_i281 1 (pc' := 102) (l' := [(0, .ref 196), (1, .int (vl_I b)), (2, .int (vl_I q)), (3, .int (vr_b w)), (4, .int (vr_b c)), (5, .int (vl_I i))]) (st' := [.int (vr_b c)]) rfl Kz) ?_
      refine jv_Wp.cnd jv_i281 (pt := 118) (pe := 105) (p := (¬ (vr_b c) = 0)) (q := (¬ (vr_b c) = 0)) rfl jv_bi_ne rfl rfl Iff.rfl (fun h2 => ?_) (fun h2 => ?_)
      · refine jv_Wp.lift (fun _ Kz => jv_Ev.steps jv_i281 5 (pc' := 84) (l' := [(5, .int ((vl_I i) + Int32.ofInt 1)), (4, .int (1 : Int32)), (0, .ref 196), (1, .int (vl_I b)), (2, .int (vl_I q)), (3, .int (vr_b w))]) (st' := []) rfl Kz) ?_
        refine jv_Wp.loc (l := [(0, .ref 196), (1, .int (vl_I b)), (2, .int (vl_I q)), (3, .int (vr_b w)), (4, .int (1 : Int32)), (5, .int ((vl_I i) + Int32.ofInt 1))]) ⟨List.forall_mem_cons.mpr ⟨.tail _ (.tail _ (.head _)), List.forall_mem_cons.mpr ⟨.tail _ (.tail _ (.tail _ (.head _))), List.forall_mem_cons.mpr ⟨.tail _ (.tail _ (.tail _ (.tail _ (.head _)))), List.forall_mem_cons.mpr ⟨.tail _ (.tail _ (.tail _ (.tail _ (.tail _ (.head _))))), List.forall_mem_cons.mpr ⟨.tail _ (.head _), List.forall_mem_cons.mpr ⟨.head _, fun _ h => absurd h List.not_mem_nil⟩⟩⟩⟩⟩⟩, by show List.Nodup [5, 4, 0, 1, 2, 3]; decide⟩ ?_
        rw [show vl_I i + Int32.ofInt 1 = vl_I (i + 1) from vl_I_add i 1]
        exact k I1 L1 true T1 O1 F1 ⟨fun _ => Or.inl (vr_b_t h2), fun _ => rfl⟩
      · refine jv_Wp.lift (fun _ Kz => jv_Ev.steps jv_i281 4 (pc' := 112) (l' := [(0, .ref 196), (1, .int (vl_I b)), (2, .int (vl_I q)), (3, .int (vr_b w)), (4, .int (vr_b c)), (5, .int (vl_I i))]) (st' := [.int (vl_I q), .int (vl_I i), .int (1026 : Int32), .ref 196]) rfl Kz) ?_
        have okq : vr_ok I1 (75 * q + i) i := (vr_fr_ok F1 (by omega)).mpr ((vr_fr_ok fr (by unfold vr_th; omega)).mpr (oq i hi))
        have Tq2 : vr_T I1 L1 (75 * q + i) = (vr_A I L q).1 i := (vr_fr_T F1 (by omega)).trans ((Tq i hi).trans (vr_A1 hi).symm)
        obtain ⟨I2, L2, c2, H2, E2, ei2, el2⟩ := vq_isSameThing (I := I1) (L := L1) (R := R) (n := n) (sl := sl) 1026 i q hW (by omega) (by omega) O1 okq
        rw [ei2, el2] at H2
        rw [T1, Tq2] at E2
        refine jv_Wp.lift (fun _ Kz => jv_Ev.c jv_i281 (pc' := 115) (S' := [.int (vr_b c2)]) jv_i278 [.ref 196, .int (1026 : Int32), .int (vl_I i), .int (vl_I q)] rfl rfl rfl rfl (jv_cal rfl (jv_H_at (jv_rwK hW 196 12 24 (by decide))) rfl rfl) rfl H2 rfl rfl Kz) ?_
        refine jv_Wp.cnd jv_i281 (pt := 122) (pe := 118) (p := (¬ (vr_b c2) = 0)) (q := (¬ (vr_b c2) = 0)) rfl jv_bi_ne rfl rfl Iff.rfl (fun h3 => ?_) (fun h3 => ?_)
        · refine jv_Wp.lift (fun _ Kz => jv_Ev.steps jv_i281 4 (pc' := 84) (l' := [(5, .int ((vl_I i) + Int32.ofInt 1)), (4, .int (0 : Int32)), (0, .ref 196), (1, .int (vl_I b)), (2, .int (vl_I q)), (3, .int (vr_b w))]) (st' := []) rfl Kz) ?_
          refine jv_Wp.loc (l := [(0, .ref 196), (1, .int (vl_I b)), (2, .int (vl_I q)), (3, .int (vr_b w)), (4, .int (0 : Int32)), (5, .int ((vl_I i) + Int32.ofInt 1))]) ⟨List.forall_mem_cons.mpr ⟨.tail _ (.tail _ (.head _)), List.forall_mem_cons.mpr ⟨.tail _ (.tail _ (.tail _ (.head _))), List.forall_mem_cons.mpr ⟨.tail _ (.tail _ (.tail _ (.tail _ (.head _)))), List.forall_mem_cons.mpr ⟨.tail _ (.tail _ (.tail _ (.tail _ (.tail _ (.head _))))), List.forall_mem_cons.mpr ⟨.tail _ (.head _), List.forall_mem_cons.mpr ⟨.head _, fun _ h => absurd h List.not_mem_nil⟩⟩⟩⟩⟩⟩, by show List.Nodup [5, 4, 0, 1, 2, 3]; decide⟩ ?_
          rw [show vl_I i + Int32.ofInt 1 = vl_I (i + 1) from vl_I_add i 1]
          exact k I1 L1 false T1 O1 F1 ⟨fun z => absurd z (by decide), fun z => z.elim (fun z => absurd (z.symm.trans (vr_b_f (Classical.not_not.mp h2))) (by decide)) (fun z => absurd (E2.mp (vr_b_t h3)) z)⟩
        · refine jv_Wp.lift (fun _ Kz => jv_Ev.steps jv_i281 5 (pc' := 84) (l' := [(5, .int ((vl_I i) + Int32.ofInt 1)), (4, .int (1 : Int32)), (0, .ref 196), (1, .int (vl_I b)), (2, .int (vl_I q)), (3, .int (vr_b w))]) (st' := []) rfl Kz) ?_
          refine jv_Wp.loc (l := [(0, .ref 196), (1, .int (vl_I b)), (2, .int (vl_I q)), (3, .int (vr_b w)), (4, .int (1 : Int32)), (5, .int ((vl_I i) + Int32.ofInt 1))]) ⟨List.forall_mem_cons.mpr ⟨.tail _ (.tail _ (.head _)), List.forall_mem_cons.mpr ⟨.tail _ (.tail _ (.tail _ (.head _))), List.forall_mem_cons.mpr ⟨.tail _ (.tail _ (.tail _ (.tail _ (.head _)))), List.forall_mem_cons.mpr ⟨.tail _ (.tail _ (.tail _ (.tail _ (.tail _ (.head _))))), List.forall_mem_cons.mpr ⟨.tail _ (.head _), List.forall_mem_cons.mpr ⟨.head _, fun _ h => absurd h List.not_mem_nil⟩⟩⟩⟩⟩⟩, by show List.Nodup [5, 4, 0, 1, 2, 3]; decide⟩ ?_
          rw [show vl_I i + Int32.ofInt 1 = vl_I (i + 1) from vl_I_add i 1]
          exact k I1 L1 true T1 O1 F1 ⟨fun _ => Or.inr (fun z => absurd ((E2.mpr z).symm.trans (vr_b_f (Classical.not_not.mp h3))) (by decide)), fun _ => rfl⟩
  · have hcM : c = true ↔ (vt_meetA w (vr_A I L q) (vr_A I L b)) ≠ vr_A I L q := by
      have k1 : ∀ n, n < 75 → (vt_meetA w (vr_A I L q) (vr_A I L b)).1 n = vt_meet w (vr_T I L (75 * q + n)) (vr_T I L (75 * b + n)) := fun n hn => (if_pos hn).trans (by rw [vr_A1 hn, vr_A1 hn])
      have k2 : (vt_meetA w (vr_A I L q) (vr_A I L b)).2 = if (I 203 b).toInt < (I 203 q).toInt then (I 203 b).toInt else (I 203 q).toInt := rfl
      have k3 : (vr_A I L q).2 = (I 203 q).toInt := rfl
      rw [hc, hc0]
      constructor
      · rintro (z | ⟨n, hn, z⟩) e
        · have e9 := congrArg Prod.snd e
          rw [k2, if_pos z, k3] at e9
          omega
        · exact z (by rw [← k1 n hn, e])
      · intro ne
        refine Classical.byContradiction (fun no => ne (Prod.ext (funext (fun n => ?_)) ?_))
        · by_cases hn : n < 75
          · exact Classical.byContradiction (fun z => no (Or.inr ⟨n, hn, by rw [← k1 n hn]; exact z⟩))
          · exact if_neg hn
        · rw [k2, if_neg (fun z => no (Or.inl z))]; exact k3.symm
    refine jv_Wp.lift (fun _ Kz => jv_Ev.steps jv_i281 2 (pc' := 88) (l' := [(0, .ref 196), (1, .int (vl_I b)), (2, .int (vl_I q)), (3, .int (vr_b w)), (4, .int (vr_b c)), (5, .int (vl_I 75))]) (st' := [.int (75 : Int32), .int (vl_I 75)]) rfl Kz) ?_
    refine jv_Wp.cnd jv_i281 (pt := 131) (pe := 91) (p := ((75 : Int32) ≤ (vl_I 75))) (q := ((75 : Int32) ≤ (vl_I 75))) rfl jv_bc_ge rfl rfl Iff.rfl (fun _ => ?_) (fun hz => absurd (Int32.le_refl _) hz)
    refine jv_Wp.lift (fun _ Kz => jv_Ev.steps jv_i281 1 (pc' := 133) (l' := [(0, .ref 196), (1, .int (vl_I b)), (2, .int (vl_I q)), (3, .int (vr_b w)), (4, .int (vr_b c)), (5, .int (vl_I 75))]) (st' := [.int (vr_b c)]) rfl Kz) ?_
    refine jv_Wp.cnd jv_i281 (pt := 206) (pe := 136) (p := ((vr_b c) = 0)) (q := ((vr_b c) = 0)) rfl jv_bi_eq rfl rfl Iff.rfl (fun h1 => ?_) (fun h1 => ?_)
    · refine jv_Wp.of (jv_Ev.ret jv_i281 rfl rfl) ?_
      rw [hQ]
      exact ⟨_, _, c, rfl, hcM, fun z => absurd (z.symm.trans (vr_b_f h1)) (by decide), fun _ => vr_fr_P fr (fun x z => z), vr_fr_mono fr (fun x z => Or.inr z) (fun _ _ z => False.elim z)⟩
    · refine jv_Wp.lift (fun _ Kz => jv_Ev.steps jv_i281 1 (pc' := 137) (l' := [(0, .ref 196), (1, .int (vl_I b)), (2, .int (vl_I q)), (3, .int (vr_b w)), (4, .int (vr_b c)), (5, .int (vl_I 75))]) (st' := [.ref 196]) rfl Kz) ?_
      refine jv_Wp.lift (fun _ Kz => jv_Ev.m jv_i281 (pc' := 140) (st' := [.ref 203]) (G' := (jv_H K Ia La R)) rfl rfl (jv_m_getR (jv_rwK hW 196 12 24 (by decide)) rfl rfl (jv_rwR hW 196 11 203 (by decide))) Kz) ?_
      refine jv_Wp.lift (fun _ Kz => jv_Ev.steps jv_i281 2 (pc' := 144) (l' := [(0, .ref 196), (1, .int (vl_I b)), (2, .int (vl_I q)), (3, .int (vr_b w)), (4, .int (vr_b c)), (5, .int (vl_I 75))]) (st' := [.ref 196, .int (1026 : Int32), .ref 203]) rfl Kz) ?_
      refine jv_Wp.lift (fun _ Kz => jv_Ev.m jv_i281 (pc' := 147) (st' := [.ref 203, .int (1026 : Int32), .ref 203]) (G' := (jv_H K Ia La R)) rfl rfl (jv_m_getR (jv_rwK hW 196 12 24 (by decide)) rfl rfl (jv_rwR hW 196 11 203 (by decide))) Kz) ?_
      refine jv_Wp.lift (fun _ Kz => jv_Ev.steps jv_i281 1 (pc' := 148) (l' := [(0, .ref 196), (1, .int (vl_I b)), (2, .int (vl_I q)), (3, .int (vr_b w)), (4, .int (vr_b c)), (5, .int (vl_I 75))]) (st' := [.int (vl_I b), .ref 203, .int (1026 : Int32), .ref 203]) rfl Kz) ?_
      refine jv_Wp.lift (fun _ Kz => jv_Ev.m jv_i281 (pc' := 149) (st' := [.int (Ia 203 b), .int (1026 : Int32), .ref 203]) (G' := (jv_H K Ia La R)) rfl rfl (jv_m_ialdv (jv_rwK hW 203 102 1028 (by decide)) rfl (vl_I_ix (by omega) (by decide)) rfl ((congrArg (Ia 203) (vl_I_nat (by omega))).trans rfl)) Kz) ?_
      refine jv_Wp.lift (fun _ Kz => jv_Ev.steps jv_i281 1 (pc' := 150) (l' := [(0, .ref 196), (1, .int (vl_I b)), (2, .int (vl_I q)), (3, .int (vr_b w)), (4, .int (vr_b c)), (5, .int (vl_I 75))]) (st' := [.ref 196, .int (Ia 203 b), .int (1026 : Int32), .ref 203]) rfl Kz) ?_
      refine jv_Wp.lift (fun _ Kz => jv_Ev.m jv_i281 (pc' := 153) (st' := [.ref 203, .int (Ia 203 b), .int (1026 : Int32), .ref 203]) (G' := (jv_H K Ia La R)) rfl rfl (jv_m_getR (jv_rwK hW 196 12 24 (by decide)) rfl rfl (jv_rwR hW 196 11 203 (by decide))) Kz) ?_
      refine jv_Wp.lift (fun _ Kz => jv_Ev.steps jv_i281 1 (pc' := 154) (l' := [(0, .ref 196), (1, .int (vl_I b)), (2, .int (vl_I q)), (3, .int (vr_b w)), (4, .int (vr_b c)), (5, .int (vl_I 75))]) (st' := [.int (vl_I q), .ref 203, .int (Ia 203 b), .int (1026 : Int32), .ref 203]) rfl Kz) ?_
      refine jv_Wp.lift (fun _ Kz => jv_Ev.m jv_i281 (pc' := 155) (st' := [.int (Ia 203 q), .int (Ia 203 b), .int (1026 : Int32), .ref 203]) (G' := (jv_H K Ia La R)) rfl rfl (jv_m_ialdv (jv_rwK hW 203 102 1028 (by decide)) rfl (vl_I_ix (by omega) (by decide)) rfl ((congrArg (Ia 203) (vl_I_nat (by omega))).trans rfl)) Kz) ?_
      refine jv_Wp.cnd jv_i281 (pt := 167) (pe := 158) (p := ((Ia 203 q) ≤ (Ia 203 b))) (q := ((Ia 203 q) ≤ (Ia 203 b))) rfl jv_bc_ge rfl rfl Iff.rfl (fun h2 => ?_) (fun h2 => ?_)
      · refine jv_Wp.lift (fun _ Kz => jv_Ev.steps jv_i281 1 (pc' := 168) (l' := [(0, .ref 196), (1, .int (vl_I b)), (2, .int (vl_I q)), (3, .int (vr_b w)), (4, .int (vr_b c)), (5, .int (vl_I 75))]) (st' := [.ref 196, .int (1026 : Int32), .ref 203]) rfl Kz) ?_
        refine jv_Wp.lift (fun _ Kz => jv_Ev.m jv_i281 (pc' := 171) (st' := [.ref 203, .int (1026 : Int32), .ref 203]) (G' := (jv_H K Ia La R)) rfl rfl (jv_m_getR (jv_rwK hW 196 12 24 (by decide)) rfl rfl (jv_rwR hW 196 11 203 (by decide))) Kz) ?_
        refine jv_Wp.lift (fun _ Kz => jv_Ev.steps jv_i281 1 (pc' := 172) (l' := [(0, .ref 196), (1, .int (vl_I b)), (2, .int (vl_I q)), (3, .int (vr_b w)), (4, .int (vr_b c)), (5, .int (vl_I 75))]) (st' := [.int (vl_I q), .ref 203, .int (1026 : Int32), .ref 203]) rfl Kz) ?_
        refine jv_Wp.lift (fun _ Kz => jv_Ev.m jv_i281 (pc' := 173) (st' := [.int (Ia 203 q), .int (1026 : Int32), .ref 203]) (G' := (jv_H K Ia La R)) rfl rfl (jv_m_ialdv (jv_rwK hW 203 102 1028 (by decide)) rfl (vl_I_ix (by omega) (by decide)) rfl ((congrArg (Ia 203) (vl_I_nat (by omega))).trans rfl)) Kz) ?_
        refine jv_Wp.lift (fun _ Kz => jv_Ev.m jv_i281 (pc' := 174) (st' := []) (G' := (jv_H K (jv_u Ia 203 1026 (Ia 203 q)) La R)) rfl rfl (jv_m_iast (jv_rwK hW 203 102 1028 (by decide)) (by decide)) Kz) ?_
        refine jv_Wp.lift (fun _ Kz => jv_Ev.steps jv_i281 1 (pc' := 175) (l' := [(0, .ref 196), (1, .int (vl_I b)), (2, .int (vl_I q)), (3, .int (vr_b w)), (4, .int (vr_b c)), (5, .int (vl_I 75))]) (st' := [.ref 196]) rfl Kz) ?_
        refine jv_Wp.lift (fun _ Kz => jv_Ev.m jv_i281 (pc' := 178) (st' := [.ref 202]) (G' := (jv_H K (jv_u Ia 203 1026 (Ia 203 q)) La R)) rfl rfl (jv_m_getR (jv_rwK hW 196 12 24 (by decide)) rfl rfl (jv_rwR hW 196 10 202 (by decide))) Kz) ?_
        refine jv_Wp.lift (fun _ Kz => jv_Ev.steps jv_i281 2 (pc' := 182) (l' := [(0, .ref 196), (1, .int (vl_I b)), (2, .int (vl_I q)), (3, .int (vr_b w)), (4, .int (vr_b c)), (5, .int (vl_I 75))]) (st' := [.int (1 : Int32), .int (1026 : Int32), .ref 202]) rfl Kz) ?_
        refine jv_Wp.lift (fun _ Kz => jv_Ev.m jv_i281 (pc' := 183) (st' := []) (G' := (jv_H K (jv_u (jv_u Ia 203 1026 (Ia 203 q)) 202 1026 ((1 : Int32) &&& 1)) La R)) rfl rfl (jv_m_zast (jv_rwK hW 202 100 1028 (by decide)) (by decide)) Kz) ?_
        refine jv_Wp.lift (fun _ Kz => jv_Ev.steps jv_i281 3 (pc' := 188) (l' := [(0, .ref 196), (1, .int (vl_I b)), (2, .int (vl_I q)), (3, .int (vr_b w)), (4, .int (vr_b c)), (5, .int (vl_I 75))]) (st' := [.int (vl_I q), .int (1026 : Int32), .ref 196]) rfl Kz) ?_
        have u0 := vr_u2 Ia (Ia 203 q) ((1 : Int32) &&& 1)
        have hfu : vr_fl (jv_u (jv_u Ia 203 1026 (Ia 203 q)) 202 1026 ((1 : Int32) &&& 1)) := fun r hr => (u0 215 r (fun z => by omega)).trans (fr.1 r hr)
        have okM : vr_okA (jv_u (jv_u Ia 203 1026 (Ia 203 q)) 202 1026 ((1 : Int32) &&& 1)) 1026 := fun i hi => vr_okW (u0 205 _ (fun z => by omega)) (u0 206 _ (fun z => by omega)) (u0 207 _ (fun z => by omega)) (ht i hi).2
        have hz2 : (jv_u (jv_u Ia 203 1026 (Ia 203 q)) 202 1026 ((1 : Int32) &&& 1)) 202 1026 = vr_b true := jv_u_self _ _ _ _
        obtain ⟨I3, L3, H3, T3, O3, B3, F3⟩ := vq_copyState (I := (jv_u (jv_u Ia 203 1026 (Ia 203 q)) 202 1026 ((1 : Int32) &&& 1))) (L := La) (R := R) (n := n) (sl := sl) 1026 q true hW hfu (by decide) (by omega) (by omega) okM hz2
        refine jv_Wp.lift (fun _ Kz => jv_Ev.c jv_i281 (pc' := 191) (S' := []) (G1 := (jv_H K I3 L3 R)) jv_i276 [.ref 196, .int (1026 : Int32), .int (vl_I q)] rfl rfl rfl rfl (jv_cal rfl (jv_H_at (jv_rwK hW 196 12 24 (by decide))) rfl rfl) rfl H3 rfl rfl Kz) ?_
        refine jv_Wp.lift (fun _ Kz => jv_Ev.steps jv_i281 1 (pc' := 192) (l' := [(0, .ref 196), (1, .int (vl_I b)), (2, .int (vl_I q)), (3, .int (vr_b w)), (4, .int (vr_b c)), (5, .int (vl_I 75))]) (st' := [.ref 196]) rfl Kz) ?_
        refine jv_Wp.lift (fun _ Kz => jv_Ev.m jv_i281 (pc' := 195) (st' := [.ref 204]) (G' := (jv_H K I3 L3 R)) rfl rfl (jv_m_getR (jv_rwK hW 196 12 24 (by decide)) rfl rfl (jv_rwR hW 196 12 204 (by decide))) Kz) ?_
        refine jv_Wp.lift (fun _ Kz => jv_Ev.steps jv_i281 2 (pc' := 197) (l' := [(0, .ref 196), (1, .int (vl_I b)), (2, .int (vl_I q)), (3, .int (vr_b w)), (4, .int (vr_b c)), (5, .int (vl_I 75))]) (st' := [.int (vl_I q), .ref 204, .int (vl_I q), .ref 204]) rfl Kz) ?_
        refine jv_Wp.lift (fun _ Kz => jv_Ev.m jv_i281 (pc' := 198) (st' := [.int (I3 204 q), .int (vl_I q), .ref 204]) (G' := (jv_H K I3 L3 R)) rfl rfl (jv_m_ialdv (jv_rwK hW 204 102 1028 (by decide)) rfl (vl_I_ix (by omega) (by decide)) rfl ((congrArg (I3 204) (vl_I_nat (by omega))).trans rfl)) Kz) ?_
        refine jv_Wp.lift (fun _ Kz => jv_Ev.steps jv_i281 2 (pc' := 200) (l' := [(0, .ref 196), (1, .int (vl_I b)), (2, .int (vl_I q)), (3, .int (vr_b w)), (4, .int (vr_b c)), (5, .int (vl_I 75))]) (st' := [.int ((I3 204 q) + (1 : Int32)), .int (vl_I q), .ref 204]) rfl Kz) ?_
        refine jv_Wp.lift (fun _ Kz => jv_Ev.m jv_i281 (pc' := 201) (st' := []) (G' := (jv_H K (jv_u I3 204 q ((I3 204 q) + (1 : Int32))) L3 R)) rfl rfl (by rw [jv_m_iast (jv_rwK hW 204 102 1028 (by decide)) (vl_I_ix (by omega) (by decide)), (vl_I_nat (by omega))]) Kz) ?_
        refine jv_Wp.lift (fun _ Kz => jv_Ev.steps jv_i281 2 (pc' := 203) (l' := [(0, .ref 196), (1, .int (vl_I b)), (2, .int (vl_I q)), (3, .int (vr_b w)), (4, .int (vr_b c)), (5, .int (vl_I 75))]) (st' := [.int (1 : Int32), .ref 196]) rfl Kz) ?_
        refine jv_Wp.lift (fun _ Kz => jv_Ev.m jv_i281 (pc' := 206) (st' := []) (G' := (jv_H K (jv_u (jv_u I3 204 q ((I3 204 q) + (1 : Int32))) 196 17 (1 : Int32)) L3 R)) rfl rfl (jv_m_putI (jv_rwK hW 196 12 24 (by decide)) rfl rfl rfl (jv_fit_b (Or.inr rfl))) Kz) ?_
        refine jv_Wp.of (jv_Ev.ret jv_i281 rfl rfl) ?_
        rw [hQ]
        have ec : c = true := vr_b_t h1
        have k203 : ∀ f, Ia 203 f = I 203 f := fun f => vr_fr_c fr (by decide) (by decide)
        have lt := h2
        rw [k203, k203] at lt
        have em : vr_A (jv_u (jv_u Ia 203 1026 (Ia 203 q)) 202 1026 ((1 : Int32) &&& 1)) La 1026 = vt_meetA w (vr_A I L q) (vr_A I L b) := by
          refine Prod.ext (funext (fun n => ?_)) ?_
          · show (if n < 75 then vr_T (jv_u (jv_u Ia 203 1026 (Ia 203 q)) 202 1026 ((1 : Int32) &&& 1)) La (75 * 1026 + n) else vt_none 0) = if n < 75 then vt_meet w ((vr_A I L q).1 n) ((vr_A I L b).1 n) else (vr_A I L q).1 n
            by_cases hn : n < 75
            · rw [if_pos hn, if_pos hn]; exact (vr_T_eq (u0 205 _ (fun z => by omega)) (u0 206 _ (fun z => by omega)) (u0 207 _ (fun z => by omega)) rfl).trans ((ht n hn).1.trans (by rw [vr_A1 hn, vr_A1 hn]))
            · rw [if_neg hn, if_neg hn]; exact (if_neg hn).symm
          · show ((jv_u (jv_u Ia 203 1026 (Ia 203 q)) 202 1026 ((1 : Int32) &&& 1)) 203 1026).toInt = if (I 203 b).toInt < (I 203 q).toInt then (I 203 b).toInt else (I 203 q).toInt
            rw [show (jv_u (jv_u Ia 203 1026 (Ia 203 q)) 202 1026 ((1 : Int32) &&& 1)) 203 1026 = (Ia 203 q) from (jv_u_o _ _ _ _ (by decide)).trans (jv_u_self _ _ _ _)]
            rw [if_neg (Int.not_lt.mpr (Int32.le_iff_toInt_le.mp lt)), k203]
        have FE : ∀ r f, ¬ (r = 204 ∧ f = q) → ¬ (r = 196 ∧ f = 17) → (jv_u (jv_u I3 204 q ((I3 204 q) + (1 : Int32))) 196 17 (1 : Int32)) r f = I3 r f := fun r f z1 z2 => by
          have t1 : ∀ (J : Nat → Nat → Int32) (w : Int32), jv_u J 196 17 w r f = J r f := fun J w => by
            by_cases e : r = 196
            · rw [e]; exact jv_u_j _ _ _ _ (fun y => z2 ⟨e, y⟩)
            · exact jv_u_o _ _ _ _ e
          have t2 : ∀ (J : Nat → Nat → Int32) (w : Int32), jv_u J 204 q w r f = J r f := fun J w => by
            by_cases e : r = 204
            · rw [e]; exact jv_u_j _ _ _ _ (fun y => z1 ⟨e, y⟩)
            · exact jv_u_o _ _ _ _ e
          exact (t1 _ _).trans (t2 _ _)
        refine ⟨_, _, c, rfl, hcM, fun _ => ⟨?_, ?_, ?_, ?_, jv_u_self _ _ _ _⟩, fun z => absurd (ec.symm.trans z) (by decide), ?_⟩
        · rw [← em, ← T3]; refine Prod.ext (funext (fun n => ?_)) (congrArg Int32.toInt (FE 203 q (fun z => by omega) (fun z => by omega)))
          show (if n < 75 then _ else _) = if n < 75 then _ else _
          by_cases hn : n < 75
          · rw [if_pos hn, if_pos hn]; exact vr_T_eq (FE 205 _ (fun z => by omega) (fun z => by omega)) (FE 206 _ (fun z => by omega) (fun z => by omega)) (FE 207 _ (fun z => by omega) (fun z => by omega)) rfl
          · rw [if_neg hn, if_neg hn]
        · exact fun i hi => vr_okW (FE 205 _ (fun z => by omega) (fun z => by omega)) (FE 206 _ (fun z => by omega) (fun z => by omega)) (FE 207 _ (fun z => by omega) (fun z => by omega)) (O3 i hi)
        · exact (FE 202 q (fun z => by omega) (fun z => by omega)).trans B3
        · refine (jv_u_o _ _ _ _ (by decide)).trans ((jv_u_self _ _ _ _).trans ?_)
          rw [show I3 204 q = I 204 q from (F3.2.1 204 q (fun z => by omega) (by decide) (fun z => by omega)).trans ((u0 204 q (fun z => by omega)).trans (vr_fr_c fr (by decide) (by decide)))]
        · refine ⟨fun r hr => (FE 215 r (fun z => by omega) (fun z => by omega)).trans (F3.1 r hr), fun r f z1 z2 z3 => ?_, fun r f z => (F3.2.2 r f (fun y => z ⟨y.1, y.2.1, y.2.2.imp id (fun y => ⟨y.1, Or.inl y.2⟩)⟩)).trans (fr.2.2 r f (fun y => z ⟨y.1, y.2.1, y.2.2.imp id (fun y => ⟨y.1, Or.inr y.2⟩)⟩))⟩
          refine (FE r f (fun y => z3 ⟨by omega, Or.inl ⟨by omega, Or.inl y.2⟩⟩) (fun y => z3 ⟨by omega, Or.inr y⟩)).trans ((F3.2.1 r f (fun y => z1 ⟨y.1, y.2.1, Or.inl y.2.2⟩) z2 (fun y => z3 ⟨y.1, Or.inl ⟨by omega, Or.inl y.2.2⟩⟩)).trans ((u0 r f (fun y => z3 ⟨by omega, Or.inl ⟨by omega, Or.inr y.2⟩⟩)).trans (fr.2.1 r f (fun y => z1 ⟨y.1, y.2.1, Or.inr y.2.2⟩) z2 (fun y => y.2))))
      · refine jv_Wp.lift (fun _ Kz => jv_Ev.steps jv_i281 1 (pc' := 159) (l' := [(0, .ref 196), (1, .int (vl_I b)), (2, .int (vl_I q)), (3, .int (vr_b w)), (4, .int (vr_b c)), (5, .int (vl_I 75))]) (st' := [.ref 196, .int (1026 : Int32), .ref 203]) rfl Kz) ?_
        refine jv_Wp.lift (fun _ Kz => jv_Ev.m jv_i281 (pc' := 162) (st' := [.ref 203, .int (1026 : Int32), .ref 203]) (G' := (jv_H K Ia La R)) rfl rfl (jv_m_getR (jv_rwK hW 196 12 24 (by decide)) rfl rfl (jv_rwR hW 196 11 203 (by decide))) Kz) ?_
        refine jv_Wp.lift (fun _ Kz => jv_Ev.steps jv_i281 1 (pc' := 163) (l' := [(0, .ref 196), (1, .int (vl_I b)), (2, .int (vl_I q)), (3, .int (vr_b w)), (4, .int (vr_b c)), (5, .int (vl_I 75))]) (st' := [.int (vl_I b), .ref 203, .int (1026 : Int32), .ref 203]) rfl Kz) ?_
        refine jv_Wp.lift (fun _ Kz => jv_Ev.m jv_i281 (pc' := 164) (st' := [.int (Ia 203 b), .int (1026 : Int32), .ref 203]) (G' := (jv_H K Ia La R)) rfl rfl (jv_m_ialdv (jv_rwK hW 203 102 1028 (by decide)) rfl (vl_I_ix (by omega) (by decide)) rfl ((congrArg (Ia 203) (vl_I_nat (by omega))).trans rfl)) Kz) ?_
        refine jv_Wp.lift (fun _ Kz => jv_Ev.steps jv_i281 1 (pc' := 173) (l' := [(0, .ref 196), (1, .int (vl_I b)), (2, .int (vl_I q)), (3, .int (vr_b w)), (4, .int (vr_b c)), (5, .int (vl_I 75))]) (st' := [.int (Ia 203 b), .int (1026 : Int32), .ref 203]) rfl Kz) ?_
        refine jv_Wp.lift (fun _ Kz => jv_Ev.m jv_i281 (pc' := 174) (st' := []) (G' := (jv_H K (jv_u Ia 203 1026 (Ia 203 b)) La R)) rfl rfl (jv_m_iast (jv_rwK hW 203 102 1028 (by decide)) (by decide)) Kz) ?_
        refine jv_Wp.lift (fun _ Kz => jv_Ev.steps jv_i281 1 (pc' := 175) (l' := [(0, .ref 196), (1, .int (vl_I b)), (2, .int (vl_I q)), (3, .int (vr_b w)), (4, .int (vr_b c)), (5, .int (vl_I 75))]) (st' := [.ref 196]) rfl Kz) ?_
        refine jv_Wp.lift (fun _ Kz => jv_Ev.m jv_i281 (pc' := 178) (st' := [.ref 202]) (G' := (jv_H K (jv_u Ia 203 1026 (Ia 203 b)) La R)) rfl rfl (jv_m_getR (jv_rwK hW 196 12 24 (by decide)) rfl rfl (jv_rwR hW 196 10 202 (by decide))) Kz) ?_
        refine jv_Wp.lift (fun _ Kz => jv_Ev.steps jv_i281 2 (pc' := 182) (l' := [(0, .ref 196), (1, .int (vl_I b)), (2, .int (vl_I q)), (3, .int (vr_b w)), (4, .int (vr_b c)), (5, .int (vl_I 75))]) (st' := [.int (1 : Int32), .int (1026 : Int32), .ref 202]) rfl Kz) ?_
        refine jv_Wp.lift (fun _ Kz => jv_Ev.m jv_i281 (pc' := 183) (st' := []) (G' := (jv_H K (jv_u (jv_u Ia 203 1026 (Ia 203 b)) 202 1026 ((1 : Int32) &&& 1)) La R)) rfl rfl (jv_m_zast (jv_rwK hW 202 100 1028 (by decide)) (by decide)) Kz) ?_
        refine jv_Wp.lift (fun _ Kz => jv_Ev.steps jv_i281 3 (pc' := 188) (l' := [(0, .ref 196), (1, .int (vl_I b)), (2, .int (vl_I q)), (3, .int (vr_b w)), (4, .int (vr_b c)), (5, .int (vl_I 75))]) (st' := [.int (vl_I q), .int (1026 : Int32), .ref 196]) rfl Kz) ?_
        have u0 := vr_u2 Ia (Ia 203 b) ((1 : Int32) &&& 1)
        have hfu : vr_fl (jv_u (jv_u Ia 203 1026 (Ia 203 b)) 202 1026 ((1 : Int32) &&& 1)) := fun r hr => (u0 215 r (fun z => by omega)).trans (fr.1 r hr)
        have okM : vr_okA (jv_u (jv_u Ia 203 1026 (Ia 203 b)) 202 1026 ((1 : Int32) &&& 1)) 1026 := fun i hi => vr_okW (u0 205 _ (fun z => by omega)) (u0 206 _ (fun z => by omega)) (u0 207 _ (fun z => by omega)) (ht i hi).2
        have hz2 : (jv_u (jv_u Ia 203 1026 (Ia 203 b)) 202 1026 ((1 : Int32) &&& 1)) 202 1026 = vr_b true := jv_u_self _ _ _ _
        obtain ⟨I4, L4, H4, T4, O4, B4, F4⟩ := vq_copyState (I := (jv_u (jv_u Ia 203 1026 (Ia 203 b)) 202 1026 ((1 : Int32) &&& 1))) (L := La) (R := R) (n := n) (sl := sl) 1026 q true hW hfu (by decide) (by omega) (by omega) okM hz2
        refine jv_Wp.lift (fun _ Kz => jv_Ev.c jv_i281 (pc' := 191) (S' := []) (G1 := (jv_H K I4 L4 R)) jv_i276 [.ref 196, .int (1026 : Int32), .int (vl_I q)] rfl rfl rfl rfl (jv_cal rfl (jv_H_at (jv_rwK hW 196 12 24 (by decide))) rfl rfl) rfl H4 rfl rfl Kz) ?_
        refine jv_Wp.lift (fun _ Kz => jv_Ev.steps jv_i281 1 (pc' := 192) (l' := [(0, .ref 196), (1, .int (vl_I b)), (2, .int (vl_I q)), (3, .int (vr_b w)), (4, .int (vr_b c)), (5, .int (vl_I 75))]) (st' := [.ref 196]) rfl Kz) ?_
        refine jv_Wp.lift (fun _ Kz => jv_Ev.m jv_i281 (pc' := 195) (st' := [.ref 204]) (G' := (jv_H K I4 L4 R)) rfl rfl (jv_m_getR (jv_rwK hW 196 12 24 (by decide)) rfl rfl (jv_rwR hW 196 12 204 (by decide))) Kz) ?_
        refine jv_Wp.lift (fun _ Kz => jv_Ev.steps jv_i281 2 (pc' := 197) (l' := [(0, .ref 196), (1, .int (vl_I b)), (2, .int (vl_I q)), (3, .int (vr_b w)), (4, .int (vr_b c)), (5, .int (vl_I 75))]) (st' := [.int (vl_I q), .ref 204, .int (vl_I q), .ref 204]) rfl Kz) ?_
        refine jv_Wp.lift (fun _ Kz => jv_Ev.m jv_i281 (pc' := 198) (st' := [.int (I4 204 q), .int (vl_I q), .ref 204]) (G' := (jv_H K I4 L4 R)) rfl rfl (jv_m_ialdv (jv_rwK hW 204 102 1028 (by decide)) rfl (vl_I_ix (by omega) (by decide)) rfl ((congrArg (I4 204) (vl_I_nat (by omega))).trans rfl)) Kz) ?_
        refine jv_Wp.lift (fun _ Kz => jv_Ev.steps jv_i281 2 (pc' := 200) (l' := [(0, .ref 196), (1, .int (vl_I b)), (2, .int (vl_I q)), (3, .int (vr_b w)), (4, .int (vr_b c)), (5, .int (vl_I 75))]) (st' := [.int ((I4 204 q) + (1 : Int32)), .int (vl_I q), .ref 204]) rfl Kz) ?_
        refine jv_Wp.lift (fun _ Kz => jv_Ev.m jv_i281 (pc' := 201) (st' := []) (G' := (jv_H K (jv_u I4 204 q ((I4 204 q) + (1 : Int32))) L4 R)) rfl rfl (by rw [jv_m_iast (jv_rwK hW 204 102 1028 (by decide)) (vl_I_ix (by omega) (by decide)), (vl_I_nat (by omega))]) Kz) ?_
        refine jv_Wp.lift (fun _ Kz => jv_Ev.steps jv_i281 2 (pc' := 203) (l' := [(0, .ref 196), (1, .int (vl_I b)), (2, .int (vl_I q)), (3, .int (vr_b w)), (4, .int (vr_b c)), (5, .int (vl_I 75))]) (st' := [.int (1 : Int32), .ref 196]) rfl Kz) ?_
        refine jv_Wp.lift (fun _ Kz => jv_Ev.m jv_i281 (pc' := 206) (st' := []) (G' := (jv_H K (jv_u (jv_u I4 204 q ((I4 204 q) + (1 : Int32))) 196 17 (1 : Int32)) L4 R)) rfl rfl (jv_m_putI (jv_rwK hW 196 12 24 (by decide)) rfl rfl rfl (jv_fit_b (Or.inr rfl))) Kz) ?_
        refine jv_Wp.of (jv_Ev.ret jv_i281 rfl rfl) ?_
        rw [hQ]
        have ec : c = true := vr_b_t h1
        have k203 : ∀ f, Ia 203 f = I 203 f := fun f => vr_fr_c fr (by decide) (by decide)
        have lt := h2
        rw [k203, k203] at lt
        have em : vr_A (jv_u (jv_u Ia 203 1026 (Ia 203 b)) 202 1026 ((1 : Int32) &&& 1)) La 1026 = vt_meetA w (vr_A I L q) (vr_A I L b) := by
          refine Prod.ext (funext (fun n => ?_)) ?_
          · show (if n < 75 then vr_T (jv_u (jv_u Ia 203 1026 (Ia 203 b)) 202 1026 ((1 : Int32) &&& 1)) La (75 * 1026 + n) else vt_none 0) = if n < 75 then vt_meet w ((vr_A I L q).1 n) ((vr_A I L b).1 n) else (vr_A I L q).1 n
            by_cases hn : n < 75
            · rw [if_pos hn, if_pos hn]; exact (vr_T_eq (u0 205 _ (fun z => by omega)) (u0 206 _ (fun z => by omega)) (u0 207 _ (fun z => by omega)) rfl).trans ((ht n hn).1.trans (by rw [vr_A1 hn, vr_A1 hn]))
            · rw [if_neg hn, if_neg hn]; exact (if_neg hn).symm
          · show ((jv_u (jv_u Ia 203 1026 (Ia 203 b)) 202 1026 ((1 : Int32) &&& 1)) 203 1026).toInt = if (I 203 b).toInt < (I 203 q).toInt then (I 203 b).toInt else (I 203 q).toInt
            rw [show (jv_u (jv_u Ia 203 1026 (Ia 203 b)) 202 1026 ((1 : Int32) &&& 1)) 203 1026 = (Ia 203 b) from (jv_u_o _ _ _ _ (by decide)).trans (jv_u_self _ _ _ _)]
            rw [if_pos (Int.not_le.mp ((not_congr Int32.le_iff_toInt_le).mp lt)), k203]
        have FE : ∀ r f, ¬ (r = 204 ∧ f = q) → ¬ (r = 196 ∧ f = 17) → (jv_u (jv_u I4 204 q ((I4 204 q) + (1 : Int32))) 196 17 (1 : Int32)) r f = I4 r f := fun r f z1 z2 => by
          have t1 : ∀ (J : Nat → Nat → Int32) (w : Int32), jv_u J 196 17 w r f = J r f := fun J w => by
            by_cases e : r = 196
            · rw [e]; exact jv_u_j _ _ _ _ (fun y => z2 ⟨e, y⟩)
            · exact jv_u_o _ _ _ _ e
          have t2 : ∀ (J : Nat → Nat → Int32) (w : Int32), jv_u J 204 q w r f = J r f := fun J w => by
            by_cases e : r = 204
            · rw [e]; exact jv_u_j _ _ _ _ (fun y => z1 ⟨e, y⟩)
            · exact jv_u_o _ _ _ _ e
          exact (t1 _ _).trans (t2 _ _)
        refine ⟨_, _, c, rfl, hcM, fun _ => ⟨?_, ?_, ?_, ?_, jv_u_self _ _ _ _⟩, fun z => absurd (ec.symm.trans z) (by decide), ?_⟩
        · rw [← em, ← T4]; refine Prod.ext (funext (fun n => ?_)) (congrArg Int32.toInt (FE 203 q (fun z => by omega) (fun z => by omega)))
          show (if n < 75 then _ else _) = if n < 75 then _ else _
          by_cases hn : n < 75
          · rw [if_pos hn, if_pos hn]; exact vr_T_eq (FE 205 _ (fun z => by omega) (fun z => by omega)) (FE 206 _ (fun z => by omega) (fun z => by omega)) (FE 207 _ (fun z => by omega) (fun z => by omega)) rfl
          · rw [if_neg hn, if_neg hn]
        · exact fun i hi => vr_okW (FE 205 _ (fun z => by omega) (fun z => by omega)) (FE 206 _ (fun z => by omega) (fun z => by omega)) (FE 207 _ (fun z => by omega) (fun z => by omega)) (O4 i hi)
        · exact (FE 202 q (fun z => by omega) (fun z => by omega)).trans B4
        · refine (jv_u_o _ _ _ _ (by decide)).trans ((jv_u_self _ _ _ _).trans ?_)
          rw [show I4 204 q = I 204 q from (F4.2.1 204 q (fun z => by omega) (by decide) (fun z => by omega)).trans ((u0 204 q (fun z => by omega)).trans (vr_fr_c fr (by decide) (by decide)))]
        · refine ⟨fun r hr => (FE 215 r (fun z => by omega) (fun z => by omega)).trans (F4.1 r hr), fun r f z1 z2 z3 => ?_, fun r f z => (F4.2.2 r f (fun y => z ⟨y.1, y.2.1, y.2.2.imp id (fun y => ⟨y.1, Or.inl y.2⟩)⟩)).trans (fr.2.2 r f (fun y => z ⟨y.1, y.2.1, y.2.2.imp id (fun y => ⟨y.1, Or.inr y.2⟩)⟩))⟩
          refine (FE r f (fun y => z3 ⟨by omega, Or.inl ⟨by omega, Or.inl y.2⟩⟩) (fun y => z3 ⟨by omega, Or.inr y⟩)).trans ((F4.2.1 r f (fun y => z1 ⟨y.1, y.2.1, Or.inl y.2.2⟩) z2 (fun y => z3 ⟨y.1, Or.inl ⟨by omega, Or.inl y.2.2⟩⟩)).trans ((u0 r f (fun y => z3 ⟨by omega, Or.inl ⟨by omega, Or.inr y.2⟩⟩)).trans (fr.2.1 r f (fun y => z1 ⟨y.1, y.2.1, Or.inr y.2.2⟩) z2 (fun y => y.2))))