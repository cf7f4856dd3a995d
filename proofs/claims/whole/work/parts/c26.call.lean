/-! part c26: calls, as the reference checks them (gen/tc26.py) -/
theorem vr_known {I : Nat → Nat → Int32} {L : Nat → Nat → Int64} (v : Int32) (k : Nat) : vr_A (jv_u I 203 k v) L k = ((vr_A I L k).1, v.toInt) ∧ (vr_okA I k → vr_okA (jv_u I 203 k v) k) ∧ (vr_fl I → vr_fr noP (fun q f => q = 203 ∧ f = k) I L (jv_u I 203 k v) L) := by
  refine ⟨?_, fun o n hn => ?_, fun h => ⟨fun q hq => (jv_u_o _ _ _ _ (by decide)).trans (h q hq), fun q f a b c => ?_, fun _ _ _ => rfl⟩⟩
  · refine Prod.ext (funext (fun n => ?_)) (congrArg Int32.toInt (jv_u_self _ _ _ _))
    show (if n < 75 then _ else _) = if n < 75 then _ else _
    by_cases hn : n < 75
    · rw [if_pos hn, if_pos hn]; exact vr_T_eq (jv_u_o _ _ _ _ (by decide)) (jv_u_o _ _ _ _ (by decide)) (jv_u_o _ _ _ _ (by decide)) rfl
    · rw [if_neg hn, if_neg hn]
  · exact vr_okW (jv_u_o _ _ _ _ (by decide)) (jv_u_o _ _ _ _ (by decide)) (jv_u_o _ _ _ _ (by decide)) (o n hn)
  · by_cases e : q = 203
    · rw [e]; exact jv_u_j _ _ _ _ (fun y => c ⟨by omega, e, y⟩)
    · exact jv_u_o _ _ _ _ e
theorem vx_clear_eq (A : vt_A) : vt_up (vt_up (vt_up (vt_up (vt_up A 1 (vt_none 0)) 2 (vt_none 0)) 3 (vt_none 0)) 4 (vt_none 0)) 5 (vt_none 0) = vx_clear A := by
  refine Prod.ext (funext (fun n => ?_)) rfl
  show (if n = 5 then vt_none 0 else if n = 4 then vt_none 0 else if n = 3 then vt_none 0 else if n = 2 then vt_none 0 else if n = 1 then vt_none 0 else A.1 n) = if 1 ≤ n ∧ n ≤ 5 then vt_none 0 else A.1 n
  by_cases c : 1 ≤ n ∧ n ≤ 5
  · rw [if_pos c]
    by_cases a : n = 5
    · rw [if_pos a]
    · rw [if_neg a]
      by_cases a : n = 4
      · rw [if_pos a]
      · rw [if_neg a]
        by_cases a : n = 3
        · rw [if_pos a]
        · rw [if_neg a]
          by_cases a : n = 2
          · rw [if_pos a]
          · rw [if_neg a, if_pos (by omega)]
  · rw [if_neg c, if_neg (by omega), if_neg (by omega), if_neg (by omega), if_neg (by omega), if_neg (by omega)]
def vr_dr (what : Nat) (fr : Int32) (t : vt_T) : vt_T := if t.sort = what ∧ (fr = -1 ∨ t.org = fr.toInt) then vt_none 0 else t
def vr_drA (what : Nat) (fr : Int32) (A : vt_A) : vt_A := (fun n => if n < 75 then vr_dr what fr (A.1 n) else A.1 n, A.2)
theorem vr_drA_p (A : vt_A) (p : Nat) (hp : p < 2147483648) : vr_drA 8 (vl_I p) A = vx_drop A (fun t => decide (t.sort = 8) && decide (t.org = (p : Int))) := by
  have e : (vl_I p).toInt = (p : Int) := vl_I_int hp
  have n1 : ¬ vl_I p = -1 := fun z => by have := congrArg Int32.toInt z; rw [e, show (-1 : Int32).toInt = -1 from rfl] at this; omega
  refine Prod.ext (funext (fun n => ?_)) rfl
  show (if n < 75 then vr_dr 8 (vl_I p) (A.1 n) else A.1 n) = if n < 75 ∧ (decide ((A.1 n).sort = 8) && decide ((A.1 n).org = (p : Int))) = true then vt_none 0 else A.1 n
  unfold vr_dr
  have eb : (decide ((A.1 n).sort = 8) && decide ((A.1 n).org = (p : Int))) = true ↔ (A.1 n).sort = 8 ∧ (A.1 n).org = (p : Int) := by rw [Bool.and_eq_true, decide_eq_true_eq, decide_eq_true_eq]
  by_cases hn : n < 75
  · rw [if_pos hn]
    by_cases c : (A.1 n).sort = 8 ∧ (A.1 n).org = (p : Int)
    · rw [if_pos ⟨c.1, Or.inr (c.2.trans e.symm)⟩, if_pos ⟨hn, eb.mpr c⟩]
    · rw [if_neg (fun z => c ⟨z.1, (z.2.resolve_left n1).trans e⟩), if_neg (fun z => c (eb.mp z.2))]
  · rw [if_neg hn, if_neg (fun z => hn z.1)]
theorem vr_fr207 {I : Nat → Nat → Int32} {L : Nat → Nat → Int64} (hf : vr_fl I) (x : Nat) (v : Int32) : vr_fr (fun y => y = x) noE I L (jv_u I 207 x v) L := by
  refine ⟨fun q hq => (jv_u_o _ _ _ _ (by decide)).trans (hf q hq), fun q f a b c => ?_, fun _ _ _ => rfl⟩
  by_cases e : q = 207
  · rw [e]; exact jv_u_j _ _ _ _ (fun y => a ⟨by omega, by omega, y⟩)
  · exact jv_u_o _ _ _ _ e
theorem vr_drA_45 (A : vt_A) : vr_drA 5 (-1) (vr_drA 4 (-1) A) = vx_drop A (fun t => decide (t.sort = 4) || decide (t.sort = 5)) := by
  refine Prod.ext (funext (fun n => ?_)) rfl
  show (if n < 75 then vr_dr 5 (-1) (if n < 75 then vr_dr 4 (-1) (A.1 n) else A.1 n) else (if n < 75 then vr_dr 4 (-1) (A.1 n) else A.1 n)) = if n < 75 ∧ (decide ((A.1 n).sort = 4) || decide ((A.1 n).sort = 5)) = true then vt_none 0 else A.1 n
  have eb : (decide ((A.1 n).sort = 4) || decide ((A.1 n).sort = 5)) = true ↔ (A.1 n).sort = 4 ∨ (A.1 n).sort = 5 := by rw [Bool.or_eq_true, decide_eq_true_eq, decide_eq_true_eq]
  by_cases hn : n < 75
  · rw [if_pos hn, if_pos hn]
    unfold vr_dr
    by_cases c : (A.1 n).sort = 4
    · rw [if_pos (show (A.1 n).sort = 4 ∧ ((-1 : Int32) = -1 ∨ (A.1 n).org = (-1 : Int32).toInt) from ⟨c, Or.inl rfl⟩), if_neg (show ¬ ((vt_none 0).sort = 5 ∧ ((-1 : Int32) = -1 ∨ (vt_none 0).org = (-1 : Int32).toInt)) from fun z => absurd (show (0 : Nat) = 5 from z.1) (by decide)), if_pos ⟨hn, eb.mpr (Or.inl c)⟩]
    · rw [if_neg (show ¬ ((A.1 n).sort = 4 ∧ ((-1 : Int32) = -1 ∨ (A.1 n).org = (-1 : Int32).toInt)) from fun z => c z.1)]
      by_cases d : (A.1 n).sort = 5
      · rw [if_pos ⟨d, Or.inl rfl⟩, if_pos ⟨hn, eb.mpr (Or.inr d)⟩]
      · rw [if_neg (fun z => d z.1), if_neg (fun z => (eb.mp z.2).elim c d)]
  · rw [if_neg hn, if_neg hn, if_neg (fun z => hn z.1)]
theorem jv_i301 : jv_I 301 5 none 2 45 jv_c301 := ⟨rfl, rfl, rfl, rfl, rfl⟩
theorem vq_drop {K : Nat → Option (Nat × Nat)} {I : Nat → Nat → Int32} {L : Nat → Nat → Int64} {R : Nat → Nat → Value} (what : Nat) (fr : Int32) (hW : jv_rW K R) (hf : vr_fl I) (hw : 1 ≤ what ∧ what ≤ 8) (oa : vr_okA I 1024) {n sl : Nat} : ∃ I1 L1, jv_Ms 301 [.ref 196, .int (vl_I what), .int fr] (jv_H K I L R) n sl (none, jv_H K I1 L1 R, n, sl) ∧ vr_A I1 L1 1024 = vr_drA what fr (vr_A I L 1024) ∧ vr_okA I1 1024 ∧ vr_fr (vr_th 1024) noE I L I1 L1 := by
  obtain ⟨Q, hQ⟩ : ∃ Q : jv_R → Prop, Q = fun X => ∃ I1 L1, X = (none, jv_H K I1 L1 R, n, sl) ∧ vr_A I1 L1 1024 = vr_drA what fr (vr_A I L 1024) ∧ vr_okA I1 1024 ∧ vr_fr (vr_th 1024) noE I L I1 L1 := ⟨_, rfl⟩
  suffices h : jv_Wp 301 0 [(0, .ref 196), (1, .int (vl_I what)), (2, .int fr)] [] (jv_H K I L R) n sl Q by
    rw [hQ] at h
    obtain ⟨X, h, I1, L1, e, h'⟩ := h
    subst e
    exact ⟨I1, L1, h, h'⟩
  refine jv_Wp.lift (fun _ Kz => jv_Ev.steps jv_i301 2 (pc' := 2) (l' := [(3, .int (0 : Int32)), (0, .ref 196), (1, .int (vl_I what)), (2, .int fr)]) (st' := []) rfl Kz) ?_
  refine jv_Wp.loc (l := [(0, .ref 196), (1, .int (vl_I what)), (2, .int fr), (3, .int (0 : Int32))]) ⟨List.forall_mem_cons.mpr ⟨.tail _ (.head _), List.forall_mem_cons.mpr ⟨.tail _ (.tail _ (.head _)), List.forall_mem_cons.mpr ⟨.tail _ (.tail _ (.tail _ (.head _))), List.forall_mem_cons.mpr ⟨.head _, fun _ h => absurd h List.not_mem_nil⟩⟩⟩⟩, by show List.Nodup [3, 0, 1, 2]; decide⟩ ?_
  rw [show (0 : Int32) = vl_I 0 from rfl]
  refine vr_loop0 (j := 1024) (I0 := I) (L0 := L) (f := fun _ t => vr_dr what fr t) (P := fun i Iz Lz => jv_Wp 301 2 [(0, .ref 196), (1, .int (vl_I what)), (2, .int fr), (3, .int (vl_I i))] [] (jv_H K Iz Lz R) n sl Q) hf (fun i hi Ia La fr1 ta okA k0 => ?_) (fun Ia La ht fr1 => ?_)
  · have Za := vr_fl_of fr1
    refine jv_Wp.lift (fun _ Kz => jv_Ev.steps jv_i301 2 (pc' := 5) (l' := [(0, .ref 196), (1, .int (vl_I what)), (2, .int fr), (3, .int (vl_I i))]) (st' := [.int (75 : Int32), .int (vl_I i)]) rfl Kz) ?_
    refine jv_Wp.cnd jv_i301 (pt := 77) (pe := 8) (p := ((75 : Int32) ≤ (vl_I i))) (q := ((75 : Int32) ≤ (vl_I i))) rfl jv_bc_ge rfl rfl Iff.rfl (fun h1 => ?_) (fun h1 => ?_)
    · exact absurd ((vl_I_le (a := 75) (by decide) (by omega)).mp h1) (by omega)
    · refine jv_Wp.lift (fun _ Kz => jv_Ev.steps jv_i301 2 (pc' := 10) (l' := [(0, .ref 196), (1, .int (vl_I what)), (2, .int fr), (3, .int (vl_I i))]) (st' := [.int (vl_I i), .ref 196]) rfl Kz) ?_
      refine jv_Wp.lift (fun _ Kz => jv_Ev.c jv_i301 (pc' := 13) (S' := [.int (Ia 205 (76800 + i))]) jv_i271 [.ref 196, .int (vl_I i)] rfl rfl rfl rfl (jv_cal rfl (jv_H_at (jv_rwK hW 196 12 24 (by decide))) rfl rfl) rfl (vq_sortOf i hW (by omega)) rfl rfl Kz) ?_
      refine jv_Wp.lift (fun _ Kz => jv_Ev.steps jv_i301 1 (pc' := 14) (l' := [(0, .ref 196), (1, .int (vl_I what)), (2, .int fr), (3, .int (vl_I i))]) (st' := [.int (vl_I what), .int (Ia 205 (76800 + i))]) rfl Kz) ?_
      refine jv_Wp.cnd jv_i301 (pt := 42) (pe := 17) (p := (¬ (Ia 205 (76800 + i)) = (vl_I what))) (q := (¬ (Ia 205 (76800 + i)) = (vl_I what))) rfl jv_bc_ne rfl rfl Iff.rfl (fun h2 => ?_) (fun h2 => ?_)
      · refine jv_Wp.lift (fun _ Kz => jv_Ev.steps jv_i301 3 (pc' := 47) (l' := [(4, .int (0 : Int32)), (0, .ref 196), (1, .int (vl_I what)), (2, .int fr), (3, .int (vl_I i))]) (st' := [.int (0 : Int32)]) rfl Kz) ?_
        refine jv_Wp.lift (fun _ Kz => jv_Ev.br jv_i301 (pc' := 71) (st' := []) rfl (by rfl) Kz) ?_
        refine jv_Wp.lift (fun _ Kz => jv_Ev.steps jv_i301 2 (pc' := 2) (l' := [(3, .int ((vl_I i) + Int32.ofInt 1)), (4, .int (0 : Int32)), (0, .ref 196), (1, .int (vl_I what)), (2, .int fr)]) (st' := []) rfl Kz) ?_
        refine jv_Wp.loc (l := [(0, .ref 196), (1, .int (vl_I what)), (2, .int fr), (3, .int ((vl_I i) + Int32.ofInt 1))]) ⟨List.forall_mem_cons.mpr ⟨.tail _ (.tail _ (.head _)), List.forall_mem_cons.mpr ⟨.tail _ (.tail _ (.tail _ (.head _))), List.forall_mem_cons.mpr ⟨.tail _ (.tail _ (.tail _ (.tail _ (.head _)))), List.forall_mem_cons.mpr ⟨.head _, fun _ h => absurd h List.not_mem_nil⟩⟩⟩⟩, by show List.Nodup [3, 4, 0, 1, 2]; decide⟩ ?_
        have oki := okA oa
        have so : (vr_T I L (75 * 1024 + i)).sort = what ↔ Ia 205 (76800 + i) = vl_I what := by rw [← ta]; exact vr_is what hw oki
        have og : (vr_T I L (75 * 1024 + i)).org = (Ia 207 (76800 + i)).toInt := by rw [← ta]; rfl
        rw [show vl_I i + Int32.ofInt 1 = vl_I (i + 1) from vl_I_add i 1]
        exact k0 Ia La (ta.trans (if_neg (fun z => h2 (so.mp z.1))).symm) oki (vr_fr_refl Za)
      · refine jv_Wp.lift (fun _ Kz => jv_Ev.steps jv_i301 2 (pc' := 19) (l' := [(0, .ref 196), (1, .int (vl_I what)), (2, .int fr), (3, .int (vl_I i))]) (st' := [.int (-1 : Int32), .int fr]) rfl Kz) ?_
        refine jv_Wp.cnd jv_i301 (pt := 38) (pe := 22) (p := (fr = (-1 : Int32))) (q := (fr = (-1 : Int32))) rfl jv_bc_eq rfl rfl Iff.rfl (fun h3 => ?_) (fun h3 => ?_)
        · refine jv_Wp.lift (fun _ Kz => jv_Ev.steps jv_i301 4 (pc' := 47) (l' := [(4, .int (1 : Int32)), (0, .ref 196), (1, .int (vl_I what)), (2, .int fr), (3, .int (vl_I i))]) (st' := [.int (1 : Int32)]) rfl Kz) ?_
          refine jv_Wp.lift (fun _ Kz => jv_Ev.br jv_i301 (pc' := 50) (st' := []) rfl (by rfl) Kz) ?_
          refine jv_Wp.lift (fun _ Kz => jv_Ev.steps jv_i301 5 (pc' := 58) (l' := [(4, .int (1 : Int32)), (0, .ref 196), (1, .int (vl_I what)), (2, .int fr), (3, .int (vl_I i))]) (st' := [.int (11 : Int32), .int (vl_I i), .int (vl_I i), .int (1024 : Int32), .ref 196]) rfl Kz) ?_
          refine jv_Wp.cnd jv_i301 (pt := 65) (pe := 61) (p := ((11 : Int32) ≤ (vl_I i))) (q := ((11 : Int32) ≤ (vl_I i))) rfl jv_bc_ge rfl rfl Iff.rfl (fun h4 => ?_) (fun h4 => ?_)
          · refine jv_Wp.lift (fun _ Kz => jv_Ev.steps jv_i301 2 (pc' := 68) (l' := [(4, .int (1 : Int32)), (0, .ref 196), (1, .int (vl_I what)), (2, .int fr), (3, .int (vl_I i))]) (st' := [.int (0 : Int32), .int (9 : Int32), .int (vl_I i), .int (1024 : Int32), .ref 196]) rfl Kz) ?_
            obtain ⟨I1, L1, H1, A1, B1, C1, F1, eL1⟩ := vq_setx (I := Ia) (L := La) (R := R) (n := n) (sl := sl) 1024 i (9 : Int32) (0 : Int32) hW Za (by omega)
            refine jv_Wp.lift (fun _ Kz => jv_Ev.c jv_i301 (pc' := 71) (S' := []) (G1 := (jv_H K I1 L1 R)) jv_i272 [.ref 196, .int (1024 : Int32), .int (vl_I i), .int (9 : Int32), .int (0 : Int32)] rfl rfl rfl rfl (jv_cal rfl (jv_H_at (jv_rwK hW 196 12 24 (by decide))) rfl rfl) rfl H1 rfl rfl Kz) ?_
            refine jv_Wp.lift (fun _ Kz => jv_Ev.steps jv_i301 2 (pc' := 2) (l' := [(3, .int ((vl_I i) + Int32.ofInt 1)), (4, .int (1 : Int32)), (0, .ref 196), (1, .int (vl_I what)), (2, .int fr)]) (st' := []) rfl Kz) ?_
            refine jv_Wp.loc (l := [(0, .ref 196), (1, .int (vl_I what)), (2, .int fr), (3, .int ((vl_I i) + Int32.ofInt 1))]) ⟨List.forall_mem_cons.mpr ⟨.tail _ (.tail _ (.head _)), List.forall_mem_cons.mpr ⟨.tail _ (.tail _ (.tail _ (.head _))), List.forall_mem_cons.mpr ⟨.tail _ (.tail _ (.tail _ (.tail _ (.head _)))), List.forall_mem_cons.mpr ⟨.head _, fun _ h => absurd h List.not_mem_nil⟩⟩⟩⟩, by show List.Nodup [3, 4, 0, 1, 2]; decide⟩ ?_
            have oki := okA oa
            have so : (vr_T I L (75 * 1024 + i)).sort = what ↔ Ia 205 (76800 + i) = vl_I what := by rw [← ta]; exact vr_is what hw oki
            have og : (vr_T I L (75 * 1024 + i)).org = (Ia 207 (76800 + i)).toInt := by rw [← ta]; rfl
            have i11 : 11 ≤ i := (vl_I_le (a := 11) (by decide) (by omega)).mp h4
            rw [show vl_I i + Int32.ofInt 1 = vl_I (i + 1) from vl_I_add i 1]
            refine k0 I1 L1 (((vr_T_set A1 B1 C1).trans ?_).trans (if_pos ⟨so.mpr (Classical.not_not.mp h2), Or.inl h3⟩).symm) (by unfold vr_ok; rw [A1, B1, C1]; exact Or.inl ⟨rfl, i11, rfl, by decide, by decide⟩) F1
            rfl
          · refine jv_Wp.lift (fun _ Kz => jv_Ev.steps jv_i301 3 (pc' := 68) (l' := [(4, .int (1 : Int32)), (0, .ref 196), (1, .int (vl_I what)), (2, .int fr), (3, .int (vl_I i))]) (st' := [.int (0 : Int32), .int (0 : Int32), .int (vl_I i), .int (1024 : Int32), .ref 196]) rfl Kz) ?_
            obtain ⟨I2, L2, H2, A2, B2, C2, F2, eL2⟩ := vq_setx (I := Ia) (L := La) (R := R) (n := n) (sl := sl) 1024 i (0 : Int32) (0 : Int32) hW Za (by omega)
            refine jv_Wp.lift (fun _ Kz => jv_Ev.c jv_i301 (pc' := 71) (S' := []) (G1 := (jv_H K I2 L2 R)) jv_i272 [.ref 196, .int (1024 : Int32), .int (vl_I i), .int (0 : Int32), .int (0 : Int32)] rfl rfl rfl rfl (jv_cal rfl (jv_H_at (jv_rwK hW 196 12 24 (by decide))) rfl rfl) rfl H2 rfl rfl Kz) ?_
            refine jv_Wp.lift (fun _ Kz => jv_Ev.steps jv_i301 2 (pc' := 2) (l' := [(3, .int ((vl_I i) + Int32.ofInt 1)), (4, .int (1 : Int32)), (0, .ref 196), (1, .int (vl_I what)), (2, .int fr)]) (st' := []) rfl Kz) ?_
            refine jv_Wp.loc (l := [(0, .ref 196), (1, .int (vl_I what)), (2, .int fr), (3, .int ((vl_I i) + Int32.ofInt 1))]) ⟨List.forall_mem_cons.mpr ⟨.tail _ (.tail _ (.head _)), List.forall_mem_cons.mpr ⟨.tail _ (.tail _ (.tail _ (.head _))), List.forall_mem_cons.mpr ⟨.tail _ (.tail _ (.tail _ (.tail _ (.head _)))), List.forall_mem_cons.mpr ⟨.head _, fun _ h => absurd h List.not_mem_nil⟩⟩⟩⟩, by show List.Nodup [3, 4, 0, 1, 2]; decide⟩ ?_
            have oki := okA oa
            have so : (vr_T I L (75 * 1024 + i)).sort = what ↔ Ia 205 (76800 + i) = vl_I what := by rw [← ta]; exact vr_is what hw oki
            have og : (vr_T I L (75 * 1024 + i)).org = (Ia 207 (76800 + i)).toInt := by rw [← ta]; rfl
            have i11 : i < 11 := Nat.lt_of_not_le (fun z => h4 ((vl_I_le (a := 11) (by decide) (by omega)).mpr z))
            rw [show vl_I i + Int32.ofInt 1 = vl_I (i + 1) from vl_I_add i 1]
            refine k0 I2 L2 (((vr_T_set A2 B2 C2).trans ?_).trans (if_pos ⟨so.mpr (Classical.not_not.mp h2), Or.inl h3⟩).symm) (by unfold vr_ok; rw [A2, B2, C2]; exact Or.inr (Or.inl ⟨rfl, i11, rfl, rfl⟩)) F2
            rfl
        · refine jv_Wp.lift (fun _ Kz => jv_Ev.steps jv_i301 1 (pc' := 23) (l' := [(0, .ref 196), (1, .int (vl_I what)), (2, .int fr), (3, .int (vl_I i))]) (st' := [.ref 196]) rfl Kz) ?_
          refine jv_Wp.lift (fun _ Kz => jv_Ev.m jv_i301 (pc' := 26) (st' := [.ref 207]) (G' := (jv_H K Ia La R)) rfl rfl (jv_m_getR (jv_rwK hW 196 12 24 (by decide)) rfl rfl (jv_rwR hW 196 15 207 (by decide))) Kz) ?_
          refine jv_Wp.lift (fun _ Kz => jv_Ev.steps jv_i301 2 (pc' := 30) (l' := [(0, .ref 196), (1, .int (vl_I what)), (2, .int fr), (3, .int (vl_I i))]) (st' := [.int (vl_I i), .int (1024 : Int32), .ref 207]) rfl Kz) ?_
          refine jv_Wp.lift (fun _ Kz => jv_Ev.c jv_i301 (pc' := 33) (S' := [.int (vl_I (76800 + i)), .ref 207]) jv_i253 [.int (1024 : Int32), .int (vl_I i)] rfl rfl rfl rfl rfl rfl (vq_thing 1024 i) rfl rfl Kz) ?_
          refine jv_Wp.lift (fun _ Kz => jv_Ev.m jv_i301 (pc' := 34) (st' := [.int (Ia 207 (76800 + i))]) (G' := (jv_H K Ia La R)) rfl rfl (jv_m_ialdv (jv_rwK hW 207 102 77100 (by decide)) rfl (vl_I_ix (by omega) (by decide)) rfl ((congrArg (Ia 207) (vl_I_nat (by omega))).trans rfl)) Kz) ?_
          refine jv_Wp.lift (fun _ Kz => jv_Ev.steps jv_i301 1 (pc' := 35) (l' := [(0, .ref 196), (1, .int (vl_I what)), (2, .int fr), (3, .int (vl_I i))]) (st' := [.int fr, .int (Ia 207 (76800 + i))]) rfl Kz) ?_
          refine jv_Wp.cnd jv_i301 (pt := 42) (pe := 38) (p := (¬ (Ia 207 (76800 + i)) = fr)) (q := (¬ (Ia 207 (76800 + i)) = fr)) rfl jv_bc_ne rfl rfl Iff.rfl (fun h5 => ?_) (fun h5 => ?_)
          · refine jv_Wp.lift (fun _ Kz => jv_Ev.steps jv_i301 3 (pc' := 47) (l' := [(4, .int (0 : Int32)), (0, .ref 196), (1, .int (vl_I what)), (2, .int fr), (3, .int (vl_I i))]) (st' := [.int (0 : Int32)]) rfl Kz) ?_
            refine jv_Wp.lift (fun _ Kz => jv_Ev.br jv_i301 (pc' := 71) (st' := []) rfl (by rfl) Kz) ?_
            refine jv_Wp.lift (fun _ Kz => jv_Ev.steps jv_i301 2 (pc' := 2) (l' := [(3, .int ((vl_I i) + Int32.ofInt 1)), (4, .int (0 : Int32)), (0, .ref 196), (1, .int (vl_I what)), (2, .int fr)]) (st' := []) rfl Kz) ?_
            refine jv_Wp.loc (l := [(0, .ref 196), (1, .int (vl_I what)), (2, .int fr), (3, .int ((vl_I i) + Int32.ofInt 1))]) ⟨List.forall_mem_cons.mpr ⟨.tail _ (.tail _ (.head _)), List.forall_mem_cons.mpr ⟨.tail _ (.tail _ (.tail _ (.head _))), List.forall_mem_cons.mpr ⟨.tail _ (.tail _ (.tail _ (.tail _ (.head _)))), List.forall_mem_cons.mpr ⟨.head _, fun _ h => absurd h List.not_mem_nil⟩⟩⟩⟩, by show List.Nodup [3, 4, 0, 1, 2]; decide⟩ ?_
            have oki := okA oa
            have so : (vr_T I L (75 * 1024 + i)).sort = what ↔ Ia 205 (76800 + i) = vl_I what := by rw [← ta]; exact vr_is what hw oki
            have og : (vr_T I L (75 * 1024 + i)).org = (Ia 207 (76800 + i)).toInt := by rw [← ta]; rfl
            rw [show vl_I i + Int32.ofInt 1 = vl_I (i + 1) from vl_I_add i 1]
            exact k0 Ia La (ta.trans (if_neg (fun z => z.2.elim h3 (fun z => h5 (Int32.toInt_inj.mp (og.symm.trans z))))).symm) oki (vr_fr_refl Za)
          · refine jv_Wp.lift (fun _ Kz => jv_Ev.steps jv_i301 4 (pc' := 47) (l' := [(4, .int (1 : Int32)), (0, .ref 196), (1, .int (vl_I what)), (2, .int fr), (3, .int (vl_I i))]) (st' := [.int (1 : Int32)]) rfl Kz) ?_
            refine jv_Wp.lift (fun _ Kz => jv_Ev.br jv_i301 (pc' := 50) (st' := []) rfl (by rfl) Kz) ?_
            refine jv_Wp.lift (fun _ Kz => jv_Ev.steps jv_i301 5 (pc' := 58) (l' := [(4, .int (1 : Int32)), (0, .ref 196), (1, .int (vl_I what)), (2, .int fr), (3, .int (vl_I i))]) (st' := [.int (11 : Int32), .int (vl_I i), .int (vl_I i), .int (1024 : Int32), .ref 196]) rfl Kz) ?_
            refine jv_Wp.cnd jv_i301 (pt := 65) (pe := 61) (p := ((11 : Int32) ≤ (vl_I i))) (q := ((11 : Int32) ≤ (vl_I i))) rfl jv_bc_ge rfl rfl Iff.rfl (fun h6 => ?_) (fun h6 => ?_)
            · refine jv_Wp.lift (fun _ Kz => jv_Ev.steps jv_i301 2 (pc' := 68) (l' := [(4, .int (1 : Int32)), (0, .ref 196), (1, .int (vl_I what)), (2, .int fr), (3, .int (vl_I i))]) (st' := [.int (0 : Int32), .int (9 : Int32), .int (vl_I i), .int (1024 : Int32), .ref 196]) rfl Kz) ?_
              obtain ⟨I3, L3, H3, A3, B3, C3, F3, eL3⟩ := vq_setx (I := Ia) (L := La) (R := R) (n := n) (sl := sl) 1024 i (9 : Int32) (0 : Int32) hW Za (by omega)
              refine jv_Wp.lift (fun _ Kz => jv_Ev.c jv_i301 (pc' := 71) (S' := []) (G1 := (jv_H K I3 L3 R)) jv_i272 [.ref 196, .int (1024 : Int32), .int (vl_I i), .int (9 : Int32), .int (0 : Int32)] rfl rfl rfl rfl (jv_cal rfl (jv_H_at (jv_rwK hW 196 12 24 (by decide))) rfl rfl) rfl H3 rfl rfl Kz) ?_
              refine jv_Wp.lift (fun _ Kz => jv_Ev.steps jv_i301 2 (pc' := 2) (l' := [(3, .int ((vl_I i) + Int32.ofInt 1)), (4, .int (1 : Int32)), (0, .ref 196), (1, .int (vl_I what)), (2, .int fr)]) (st' := []) rfl Kz) ?_
              refine jv_Wp.loc (l := [(0, .ref 196), (1, .int (vl_I what)), (2, .int fr), (3, .int ((vl_I i) + Int32.ofInt 1))]) ⟨List.forall_mem_cons.mpr ⟨.tail _ (.tail _ (.head _)), List.forall_mem_cons.mpr ⟨.tail _ (.tail _ (.tail _ (.head _))), List.forall_mem_cons.mpr ⟨.tail _ (.tail _ (.tail _ (.tail _ (.head _)))), List.forall_mem_cons.mpr ⟨.head _, fun _ h => absurd h List.not_mem_nil⟩⟩⟩⟩, by show List.Nodup [3, 4, 0, 1, 2]; decide⟩ ?_
              have oki := okA oa
              have so : (vr_T I L (75 * 1024 + i)).sort = what ↔ Ia 205 (76800 + i) = vl_I what := by rw [← ta]; exact vr_is what hw oki
              have og : (vr_T I L (75 * 1024 + i)).org = (Ia 207 (76800 + i)).toInt := by rw [← ta]; rfl
              have i11 : 11 ≤ i := (vl_I_le (a := 11) (by decide) (by omega)).mp h6
              rw [show vl_I i + Int32.ofInt 1 = vl_I (i + 1) from vl_I_add i 1]
              refine k0 I3 L3 (((vr_T_set A3 B3 C3).trans ?_).trans (if_pos ⟨so.mpr (Classical.not_not.mp h2), Or.inr (og.trans (congrArg Int32.toInt (Classical.not_not.mp h5)))⟩).symm) (by unfold vr_ok; rw [A3, B3, C3]; exact Or.inl ⟨rfl, i11, rfl, by decide, by decide⟩) F3
              rfl
            · refine jv_Wp.lift (fun _ Kz => jv_Ev.steps jv_i301 3 (pc' := 68) (l' := [(4, .int (1 : Int32)), (0, .ref 196), (1, .int (vl_I what)), (2, .int fr), (3, .int (vl_I i))]) (st' := [.int (0 : Int32), .int (0 : Int32), .int (vl_I i), .int (1024 : Int32), .ref 196]) rfl Kz) ?_
              obtain ⟨I4, L4, H4, A4, B4, C4, F4, eL4⟩ := vq_setx (I := Ia) (L := La) (R := R) (n := n) (sl := sl) 1024 i (0 : Int32) (0 : Int32) hW Za (by omega)
              refine jv_Wp.lift (fun _ Kz => jv_Ev.c jv_i301 (pc' := 71) (S' := []) (G1 := (jv_H K I4 L4 R)) jv_i272 [.ref 196, .int (1024 : Int32), .int (vl_I i), .int (0 : Int32), .int (0 : Int32)] rfl rfl rfl rfl (jv_cal rfl (jv_H_at (jv_rwK hW 196 12 24 (by decide))) rfl rfl) rfl H4 rfl rfl Kz) ?_
              refine jv_Wp.lift (fun _ Kz => jv_Ev.steps jv_i301 2 (pc' := 2) (l' := [(3, .int ((vl_I i) + Int32.ofInt 1)), (4, .int (1 : Int32)), (0, .ref 196), (1, .int (vl_I what)), (2, .int fr)]) (st' := []) rfl Kz) ?_
              refine jv_Wp.loc (l := [(0, .ref 196), (1, .int (vl_I what)), (2, .int fr), (3, .int ((vl_I i) + Int32.ofInt 1))]) ⟨List.forall_mem_cons.mpr ⟨.tail _ (.tail _ (.head _)), List.forall_mem_cons.mpr ⟨.tail _ (.tail _ (.tail _ (.head _))), List.forall_mem_cons.mpr ⟨.tail _ (.tail _ (.tail _ (.tail _ (.head _)))), List.forall_mem_cons.mpr ⟨.head _, fun _ h => absurd h List.not_mem_nil⟩⟩⟩⟩, by show List.Nodup [3, 4, 0, 1, 2]; decide⟩ ?_
              have oki := okA oa
              have so : (vr_T I L (75 * 1024 + i)).sort = what ↔ Ia 205 (76800 + i) = vl_I what := by rw [← ta]; exact vr_is what hw oki
              have og : (vr_T I L (75 * 1024 + i)).org = (Ia 207 (76800 + i)).toInt := by rw [← ta]; rfl
              have i11 : i < 11 := Nat.lt_of_not_le (fun z => h6 ((vl_I_le (a := 11) (by decide) (by omega)).mpr z))
              rw [show vl_I i + Int32.ofInt 1 = vl_I (i + 1) from vl_I_add i 1]
              refine k0 I4 L4 (((vr_T_set A4 B4 C4).trans ?_).trans (if_pos ⟨so.mpr (Classical.not_not.mp h2), Or.inr (og.trans (congrArg Int32.toInt (Classical.not_not.mp h5)))⟩).symm) (by unfold vr_ok; rw [A4, B4, C4]; exact Or.inr (Or.inl ⟨rfl, i11, rfl, rfl⟩)) F4
              rfl
  · skip
    refine jv_Wp.lift (fun _ Kz => jv_Ev.steps jv_i301 2 (pc' := 5) (l' := [(0, .ref 196), (1, .int (vl_I what)), (2, .int fr), (3, .int (vl_I 75))]) (st' := [.int (75 : Int32), .int (vl_I 75)]) rfl Kz) ?_
    refine jv_Wp.cnd jv_i301 (pt := 77) (pe := 8) (p := ((75 : Int32) ≤ (vl_I 75))) (q := ((75 : Int32) ≤ (vl_I 75))) rfl jv_bc_ge rfl rfl Iff.rfl (fun _ => ?_) (fun hz => absurd (Int32.le_refl _) hz)
    refine jv_Wp.of (jv_Ev.ret jv_i301 rfl rfl) ?_
    rw [hQ]
    refine ⟨_, _, rfl, ?_, fun n hn => (ht n hn).2, fr1⟩
    refine Prod.ext (funext (fun n => ?_)) (congrArg Int32.toInt (vr_fr_c fr1 (by decide) (by decide)))
    show (if n < 75 then _ else _) = if n < 75 then vr_dr what fr ((vr_A I L 1024).1 n) else (vr_A I L 1024).1 n
    by_cases hn : n < 75
    · rw [if_pos hn, if_pos hn, vr_A1 hn]; exact (ht n hn).1
    · rw [if_neg hn, if_neg hn]; exact (if_neg hn).symm
theorem jv_i302 : jv_I 302 5 (some .int) 8 230 jv_c302 := ⟨rfl, rfl, rfl, rfl, rfl⟩
theorem vq_call0 {K : Nat → Option (Nat × Nat)} {I : Nat → Nat → Int32} {L : Nat → Nat → Int64} {R : Nat → Nat → Value} (M : vf_M) (f : vf_F) (p : Nat) (hW : jv_rW K R) (hf : vr_fl I) (hM : vr_M I M) (D : vr_dec I f) (oa : vr_okA I 1024) (hj : vr_j10 I) (tA : ∀ n, n < 75 → vt_ok (vr_T I L (76800 + n))) (gA : ∀ n, n < 75 → vt_g (vr_T I L (76800 + n))) (hp : p < 1024) (hi1 : f.i ≠ 1) (hi6 : f.i ≠ 6) {n sl : Nat} : ∃ I1 L1, jv_Ms 302 [.ref 196, .int (vl_I p)] (jv_H K I L R) n sl (some (.int (vl_I (vx_call M f.i p (vr_A I L 1024)).1)), jv_H K I1 L1 R, n, sl) ∧ ((vx_call M f.i p (vr_A I L 1024)).1 = 0 → vr_A I1 L1 1024 = (vx_call M f.i p (vr_A I L 1024)).2 ∧ vr_okA I1 1024) ∧ vr_fr (fun x => 76800 ≤ x ∧ x < 76875) (fun q f => q = 203 ∧ f = 1024) I L I1 L1 := by
  obtain ⟨Q, hQ⟩ : ∃ Q : jv_R → Prop, Q = fun X => ∃ I1 L1, X = (some (.int (vl_I (vx_call M f.i p (vr_A I L 1024)).1)), jv_H K I1 L1 R, n, sl) ∧ ((vx_call M f.i p (vr_A I L 1024)).1 = 0 → vr_A I1 L1 1024 = (vx_call M f.i p (vr_A I L 1024)).2 ∧ vr_okA I1 1024) ∧ vr_fr (fun x => 76800 ≤ x ∧ x < 76875) (fun q f => q = 203 ∧ f = 1024) I L I1 L1 := ⟨_, rfl⟩
  suffices h : jv_Wp 302 0 [(0, .ref 196), (1, .int (vl_I p))] [] (jv_H K I L R) n sl Q by
    rw [hQ] at h
    obtain ⟨X, h, I1, L1, e, h'⟩ := h
    subst e
    exact ⟨I1, L1, h, h'⟩
  obtain ⟨bd, hbd⟩ : ∃ x : Nat, ∀ _ : Unit, vx_allowed M (vr_A I L 1024) f.i = x := ⟨_, fun _ => rfl⟩
  have bd9 : bd < 9 := by rw [← hbd ()]; exact vx_allowed_lt
  have hp : p < 2147483648 := by omega
  have hn1 : ¬ Int32.ofInt f.i = (1 : Int32) := fun z => hi1 ((vr_dQ D).symm.trans (congrArg Int32.toInt z))
  have hn6 : ¬ Int32.ofInt f.i = (6 : Int32) := fun z => hi6 ((vr_dQ D).symm.trans (congrArg Int32.toInt z))
  refine jv_Wp.lift (fun _ Kz => jv_Ev.steps jv_i302 2 (pc' := 2) (l' := [(0, .ref 196), (1, .int (vl_I p))]) (st' := [.ref 196, .ref 196]) rfl Kz) ?_
  refine jv_Wp.lift (fun _ Kz => jv_Ev.m jv_i302 (pc' := 5) (st' := [.int (Int32.ofInt f.i), .ref 196]) (G' := (jv_H K I L R)) rfl rfl (jv_m_getI (jv_rwK hW 196 12 24 (by decide)) rfl rfl (vr_dJ D)) Kz) ?_
  have Hb := vq_args (I := I) (L := L) (n := n) (sl := sl) M f hW hM D oa hj tA gA
  rw [hbd ()] at Hb
  refine jv_Wp.lift (fun _ Kz => jv_Ev.c jv_i302 (pc' := 8) (S' := [.int (vl_I bd)]) jv_i300 [.ref 196, .int (Int32.ofInt f.i)] rfl rfl rfl rfl (jv_cal rfl (jv_H_at (jv_rwK hW 196 12 24 (by decide))) rfl rfl) rfl Hb rfl rfl Kz) ?_
  refine jv_Wp.lift (fun _ Kz => jv_Ev.steps jv_i302 2 (pc' := 10) (l' := [(2, .int (vl_I bd)), (0, .ref 196), (1, .int (vl_I p))]) (st' := [.int (vl_I bd)]) rfl Kz) ?_
  refine jv_Wp.cnd jv_i302 (pt := 15) (pe := 13) (p := ((vl_I bd) ≤ 0)) (q := ((vl_I bd) ≤ 0)) rfl jv_bi_le rfl rfl Iff.rfl (fun h1 => ?_) (fun h1 => ?_)
  · refine jv_Wp.lift (fun _ Kz => jv_Ev.steps jv_i302 1 (pc' := 16) (l' := [(2, .int (vl_I bd)), (0, .ref 196), (1, .int (vl_I p))]) (st' := [.ref 196]) rfl Kz) ?_
    refine jv_Wp.lift (fun _ Kz => jv_Ev.m jv_i302 (pc' := 19) (st' := [.ref 206]) (G' := (jv_H K I L R)) rfl rfl (jv_m_getR (jv_rwK hW 196 12 24 (by decide)) rfl rfl (jv_rwR hW 196 14 206 (by decide))) Kz) ?_
    refine jv_Wp.lift (fun _ Kz => jv_Ev.steps jv_i302 2 (pc' := 23) (l' := [(2, .int (vl_I bd)), (0, .ref 196), (1, .int (vl_I p))]) (st' := [.int (1 : Int32), .int (1024 : Int32), .ref 206]) rfl Kz) ?_
    refine jv_Wp.lift (fun _ Kz => jv_Ev.c jv_i302 (pc' := 26) (S' := [.int (vl_I (76800 + 1)), .ref 206]) jv_i253 [.int (1024 : Int32), .int (1 : Int32)] rfl rfl rfl rfl rfl rfl (vq_thing 1024 1) rfl rfl Kz) ?_
    refine jv_Wp.lift (fun _ Kz => jv_Ev.m jv_i302 (pc' := 27) (st' := [.int (I 206 (76800 + 1))]) (G' := (jv_H K I L R)) rfl rfl (jv_m_ialdv (jv_rwK hW 206 102 77100 (by decide)) rfl (vl_I_ix (by omega) (by decide)) rfl ((congrArg (I 206) (vl_I_nat (by omega))).trans rfl)) Kz) ?_
    refine jv_Wp.lift (fun _ Kz => jv_Ev.steps jv_i302 2 (pc' := 29) (l' := [(3, .int (I 206 (76800 + 1))), (2, .int (vl_I bd)), (0, .ref 196), (1, .int (vl_I p))]) (st' := [.ref 196]) rfl Kz) ?_
    refine jv_Wp.lift (fun _ Kz => jv_Ev.m jv_i302 (pc' := 32) (st' := [.int (Int32.ofInt f.i)]) (G' := (jv_H K I L R)) rfl rfl (jv_m_getI (jv_rwK hW 196 12 24 (by decide)) rfl rfl (vr_dJ D)) Kz) ?_
    refine jv_Wp.lift (fun _ Kz => jv_Ev.steps jv_i302 1 (pc' := 34) (l' := [(3, .int (I 206 (76800 + 1))), (2, .int (vl_I bd)), (0, .ref 196), (1, .int (vl_I p))]) (st' := [.int (6 : Int32), .int (Int32.ofInt f.i)]) rfl Kz) ?_
    refine jv_Wp.cnd jv_i302 (pt := 58) (pe := 37) (p := (¬ (Int32.ofInt f.i) = (6 : Int32))) (q := (¬ (Int32.ofInt f.i) = (6 : Int32))) rfl jv_bc_ne rfl rfl Iff.rfl (fun _ => ?_) (fun hz => absurd hn6 hz)
    refine jv_Wp.lift (fun _ Kz => jv_Ev.steps jv_i302 1 (pc' := 59) (l' := [(3, .int (I 206 (76800 + 1))), (2, .int (vl_I bd)), (0, .ref 196), (1, .int (vl_I p))]) (st' := [.ref 196]) rfl Kz) ?_
    refine jv_Wp.lift (fun _ Kz => jv_Ev.m jv_i302 (pc' := 62) (st' := [.int (Int32.ofInt f.i)]) (G' := (jv_H K I L R)) rfl rfl (jv_m_getI (jv_rwK hW 196 12 24 (by decide)) rfl rfl (vr_dJ D)) Kz) ?_
    refine jv_Wp.lift (fun _ Kz => jv_Ev.steps jv_i302 1 (pc' := 63) (l' := [(3, .int (I 206 (76800 + 1))), (2, .int (vl_I bd)), (0, .ref 196), (1, .int (vl_I p))]) (st' := [.int (1 : Int32), .int (Int32.ofInt f.i)]) rfl Kz) ?_
    refine jv_Wp.cnd jv_i302 (pt := 73) (pe := 66) (p := (¬ (Int32.ofInt f.i) = (1 : Int32))) (q := (¬ (Int32.ofInt f.i) = (1 : Int32))) rfl jv_bc_ne rfl rfl Iff.rfl (fun _ => ?_) (fun hz => absurd hn1 hz)
    refine jv_Wp.lift (fun _ Kz => jv_Ev.steps jv_i302 4 (pc' := 80) (l' := [(4, .int (1 : Int32)), (3, .int (I 206 (76800 + 1))), (2, .int (vl_I bd)), (0, .ref 196), (1, .int (vl_I p))]) (st' := [.int (6 : Int32), .int (1 : Int32)]) rfl Kz) ?_
    refine jv_Wp.lift (fun _ Kz => jv_Ev.br jv_i302 (pc' := 83) (st' := []) rfl (by rfl) Kz) ?_
    refine jv_Wp.lift (fun _ Kz => jv_Ev.steps jv_i302 5 (pc' := 91) (l' := [(4, .int (1 : Int32)), (3, .int (I 206 (76800 + 1))), (2, .int (vl_I bd)), (0, .ref 196), (1, .int (vl_I p))]) (st' := [.int (0 : Int32), .int (0 : Int32), .int (1 : Int32), .int (1024 : Int32), .ref 196]) rfl Kz) ?_
    obtain ⟨I5, L5, H5, A5, B5, C5, F5, eL5⟩ := vq_setx (I := I) (L := L) (R := R) (n := n) (sl := sl) 1024 1 (0 : Int32) (0 : Int32) hW hf (by decide)
    have Z5 := vr_fl_of F5
    have D5 := vr_dec_n F5 D
    have U5 := vr_upA (I := I) (L := L) (k := 1024) (r := 1) (t := vt_none 0) (by decide) ((vr_T_set A5 B5 C5).trans rfl) (by unfold vr_ok; rw [A5, B5, C5]; exact Or.inr (Or.inl ⟨rfl, by decide, rfl, rfl⟩)) F5 (fun n hn e q => e (by omega)) oa
    have O5 := U5.2
    refine jv_Wp.lift (fun _ Kz => jv_Ev.c jv_i302 (pc' := 94) (S' := []) (G1 := (jv_H K I5 L5 R)) jv_i272 [.ref 196, .int (1024 : Int32), .int (1 : Int32), .int (0 : Int32), .int (0 : Int32)] rfl rfl rfl rfl (jv_cal rfl (jv_H_at (jv_rwK hW 196 12 24 (by decide))) rfl rfl) rfl H5 rfl rfl Kz) ?_
    refine jv_Wp.lift (fun _ Kz => jv_Ev.steps jv_i302 4 (pc' := 80) (l' := [(4, .int (2 : Int32)), (3, .int (I 206 (76800 + 1))), (2, .int (vl_I bd)), (0, .ref 196), (1, .int (vl_I p))]) (st' := [.int (6 : Int32), .int (2 : Int32)]) rfl Kz) ?_
    refine jv_Wp.lift (fun _ Kz => jv_Ev.br jv_i302 (pc' := 83) (st' := []) rfl (by rfl) Kz) ?_
    refine jv_Wp.lift (fun _ Kz => jv_Ev.steps jv_i302 5 (pc' := 91) (l' := [(4, .int (2 : Int32)), (3, .int (I 206 (76800 + 1))), (2, .int (vl_I bd)), (0, .ref 196), (1, .int (vl_I p))]) (st' := [.int (0 : Int32), .int (0 : Int32), .int (2 : Int32), .int (1024 : Int32), .ref 196]) rfl Kz) ?_
    obtain ⟨I6, L6, H6, A6, B6, C6, F6, eL6⟩ := vq_setx (I := I5) (L := L5) (R := R) (n := n) (sl := sl) 1024 2 (0 : Int32) (0 : Int32) hW Z5 (by decide)
    have Z6 := vr_fl_of F6
    have D6 := vr_dec_n F6 D5
    have U6 := vr_upA (I := I5) (L := L5) (k := 1024) (r := 2) (t := vt_none 0) (by decide) ((vr_T_set A6 B6 C6).trans rfl) (by unfold vr_ok; rw [A6, B6, C6]; exact Or.inr (Or.inl ⟨rfl, by decide, rfl, rfl⟩)) F6 (fun n hn e q => e (by omega)) O5
    have O6 := U6.2
    refine jv_Wp.lift (fun _ Kz => jv_Ev.c jv_i302 (pc' := 94) (S' := []) (G1 := (jv_H K I6 L6 R)) jv_i272 [.ref 196, .int (1024 : Int32), .int (2 : Int32), .int (0 : Int32), .int (0 : Int32)] rfl rfl rfl rfl (jv_cal rfl (jv_H_at (jv_rwK hW 196 12 24 (by decide))) rfl rfl) rfl H6 rfl rfl Kz) ?_
    refine jv_Wp.lift (fun _ Kz => jv_Ev.steps jv_i302 4 (pc' := 80) (l' := [(4, .int (3 : Int32)), (3, .int (I 206 (76800 + 1))), (2, .int (vl_I bd)), (0, .ref 196), (1, .int (vl_I p))]) (st' := [.int (6 : Int32), .int (3 : Int32)]) rfl Kz) ?_
    refine jv_Wp.lift (fun _ Kz => jv_Ev.br jv_i302 (pc' := 83) (st' := []) rfl (by rfl) Kz) ?_
    refine jv_Wp.lift (fun _ Kz => jv_Ev.steps jv_i302 5 (pc' := 91) (l' := [(4, .int (3 : Int32)), (3, .int (I 206 (76800 + 1))), (2, .int (vl_I bd)), (0, .ref 196), (1, .int (vl_I p))]) (st' := [.int (0 : Int32), .int (0 : Int32), .int (3 : Int32), .int (1024 : Int32), .ref 196]) rfl Kz) ?_
    obtain ⟨I7, L7, H7, A7, B7, C7, F7, eL7⟩ := vq_setx (I := I6) (L := L6) (R := R) (n := n) (sl := sl) 1024 3 (0 : Int32) (0 : Int32) hW Z6 (by decide)
    have Z7 := vr_fl_of F7
    have D7 := vr_dec_n F7 D6
    have U7 := vr_upA (I := I6) (L := L6) (k := 1024) (r := 3) (t := vt_none 0) (by decide) ((vr_T_set A7 B7 C7).trans rfl) (by unfold vr_ok; rw [A7, B7, C7]; exact Or.inr (Or.inl ⟨rfl, by decide, rfl, rfl⟩)) F7 (fun n hn e q => e (by omega)) O6
    have O7 := U7.2
    refine jv_Wp.lift (fun _ Kz => jv_Ev.c jv_i302 (pc' := 94) (S' := []) (G1 := (jv_H K I7 L7 R)) jv_i272 [.ref 196, .int (1024 : Int32), .int (3 : Int32), .int (0 : Int32), .int (0 : Int32)] rfl rfl rfl rfl (jv_cal rfl (jv_H_at (jv_rwK hW 196 12 24 (by decide))) rfl rfl) rfl H7 rfl rfl Kz) ?_
    refine jv_Wp.lift (fun _ Kz => jv_Ev.steps jv_i302 4 (pc' := 80) (l' := [(4, .int (4 : Int32)), (3, .int (I 206 (76800 + 1))), (2, .int (vl_I bd)), (0, .ref 196), (1, .int (vl_I p))]) (st' := [.int (6 : Int32), .int (4 : Int32)]) rfl Kz) ?_
    refine jv_Wp.lift (fun _ Kz => jv_Ev.br jv_i302 (pc' := 83) (st' := []) rfl (by rfl) Kz) ?_
    refine jv_Wp.lift (fun _ Kz => jv_Ev.steps jv_i302 5 (pc' := 91) (l' := [(4, .int (4 : Int32)), (3, .int (I 206 (76800 + 1))), (2, .int (vl_I bd)), (0, .ref 196), (1, .int (vl_I p))]) (st' := [.int (0 : Int32), .int (0 : Int32), .int (4 : Int32), .int (1024 : Int32), .ref 196]) rfl Kz) ?_
    obtain ⟨I8, L8, H8, A8, B8, C8, F8, eL8⟩ := vq_setx (I := I7) (L := L7) (R := R) (n := n) (sl := sl) 1024 4 (0 : Int32) (0 : Int32) hW Z7 (by decide)
    have Z8 := vr_fl_of F8
    have D8 := vr_dec_n F8 D7
    have U8 := vr_upA (I := I7) (L := L7) (k := 1024) (r := 4) (t := vt_none 0) (by decide) ((vr_T_set A8 B8 C8).trans rfl) (by unfold vr_ok; rw [A8, B8, C8]; exact Or.inr (Or.inl ⟨rfl, by decide, rfl, rfl⟩)) F8 (fun n hn e q => e (by omega)) O7
    have O8 := U8.2
    refine jv_Wp.lift (fun _ Kz => jv_Ev.c jv_i302 (pc' := 94) (S' := []) (G1 := (jv_H K I8 L8 R)) jv_i272 [.ref 196, .int (1024 : Int32), .int (4 : Int32), .int (0 : Int32), .int (0 : Int32)] rfl rfl rfl rfl (jv_cal rfl (jv_H_at (jv_rwK hW 196 12 24 (by decide))) rfl rfl) rfl H8 rfl rfl Kz) ?_
    refine jv_Wp.lift (fun _ Kz => jv_Ev.steps jv_i302 4 (pc' := 80) (l' := [(4, .int (5 : Int32)), (3, .int (I 206 (76800 + 1))), (2, .int (vl_I bd)), (0, .ref 196), (1, .int (vl_I p))]) (st' := [.int (6 : Int32), .int (5 : Int32)]) rfl Kz) ?_
    refine jv_Wp.lift (fun _ Kz => jv_Ev.br jv_i302 (pc' := 83) (st' := []) rfl (by rfl) Kz) ?_
    refine jv_Wp.lift (fun _ Kz => jv_Ev.steps jv_i302 5 (pc' := 91) (l' := [(4, .int (5 : Int32)), (3, .int (I 206 (76800 + 1))), (2, .int (vl_I bd)), (0, .ref 196), (1, .int (vl_I p))]) (st' := [.int (0 : Int32), .int (0 : Int32), .int (5 : Int32), .int (1024 : Int32), .ref 196]) rfl Kz) ?_
    obtain ⟨I9, L9, H9, A9, B9, C9, F9, eL9⟩ := vq_setx (I := I8) (L := L8) (R := R) (n := n) (sl := sl) 1024 5 (0 : Int32) (0 : Int32) hW Z8 (by decide)
    have Z9 := vr_fl_of F9
    have D9 := vr_dec_n F9 D8
    have U9 := vr_upA (I := I8) (L := L8) (k := 1024) (r := 5) (t := vt_none 0) (by decide) ((vr_T_set A9 B9 C9).trans rfl) (by unfold vr_ok; rw [A9, B9, C9]; exact Or.inr (Or.inl ⟨rfl, by decide, rfl, rfl⟩)) F9 (fun n hn e q => e (by omega)) O8
    have O9 := U9.2
    refine jv_Wp.lift (fun _ Kz => jv_Ev.c jv_i302 (pc' := 94) (S' := []) (G1 := (jv_H K I9 L9 R)) jv_i272 [.ref 196, .int (1024 : Int32), .int (5 : Int32), .int (0 : Int32), .int (0 : Int32)] rfl rfl rfl rfl (jv_cal rfl (jv_H_at (jv_rwK hW 196 12 24 (by decide))) rfl rfl) rfl H9 rfl rfl Kz) ?_
    refine jv_Wp.lift (fun _ Kz => jv_Ev.steps jv_i302 4 (pc' := 80) (l' := [(4, .int (6 : Int32)), (3, .int (I 206 (76800 + 1))), (2, .int (vl_I bd)), (0, .ref 196), (1, .int (vl_I p))]) (st' := [.int (6 : Int32), .int (6 : Int32)]) rfl Kz) ?_
    refine jv_Wp.lift (fun _ Kz => jv_Ev.br jv_i302 (pc' := 100) (st' := []) rfl (by rfl) Kz) ?_
    refine jv_Wp.lift (fun _ Kz => jv_Ev.steps jv_i302 1 (pc' := 101) (l' := [(4, .int (6 : Int32)), (3, .int (I 206 (76800 + 1))), (2, .int (vl_I bd)), (0, .ref 196), (1, .int (vl_I p))]) (st' := [.ref 196]) rfl Kz) ?_
    refine jv_Wp.lift (fun _ Kz => jv_Ev.m jv_i302 (pc' := 104) (st' := [.int (Int32.ofInt f.i)]) (G' := (jv_H K I9 L9 R)) rfl rfl (jv_m_getI (jv_rwK hW 196 12 24 (by decide)) rfl rfl (vr_dJ D9)) Kz) ?_
    refine jv_Wp.lift (fun _ Kz => jv_Ev.steps jv_i302 1 (pc' := 105) (l' := [(4, .int (6 : Int32)), (3, .int (I 206 (76800 + 1))), (2, .int (vl_I bd)), (0, .ref 196), (1, .int (vl_I p))]) (st' := [.int (1 : Int32), .int (Int32.ofInt f.i)]) rfl Kz) ?_
    refine jv_Wp.cnd jv_i302 (pt := 135) (pe := 108) (p := (¬ (Int32.ofInt f.i) = (1 : Int32))) (q := (¬ (Int32.ofInt f.i) = (1 : Int32))) rfl jv_bc_ne rfl rfl Iff.rfl (fun _ => ?_) (fun hz => absurd hn1 hz)
    refine jv_Wp.lift (fun _ Kz => jv_Ev.steps jv_i302 3 (pc' := 139) (l' := [(4, .int (6 : Int32)), (3, .int (I 206 (76800 + 1))), (2, .int (vl_I bd)), (0, .ref 196), (1, .int (vl_I p))]) (st' := [.int (8 : Int32), .int (0 : Int32), .ref 196]) rfl Kz) ?_
    obtain ⟨I10, L10, H10, T10, O10, F10⟩ := vq_setAny8 (I := I9) (L := L9) (R := R) (n := n) (sl := sl) 0 hW Z9 (by decide)
    have U10 := vr_upA (I := I9) (L := L9) (k := 1024) (r := 0) (t := vt_num vb_any) (by decide) (T10.trans (congrArg vt_num vx_anyz8)) O10 F10 (fun n hn e q => e (by omega)) O9
    refine jv_Wp.lift (fun _ Kz => jv_Ev.c jv_i302 (pc' := 142) (S' := []) (G1 := (jv_H K I10 L10 R)) jv_i274 [.ref 196, .int (0 : Int32), .int (8 : Int32)] rfl rfl rfl rfl (jv_cal rfl (jv_H_at (jv_rwK hW 196 12 24 (by decide))) rfl rfl) rfl H10 rfl rfl Kz) ?_
    refine jv_Wp.lift (fun _ Kz => jv_Ev.steps jv_i302 1 (pc' := 143) (l' := [(4, .int (6 : Int32)), (3, .int (I 206 (76800 + 1))), (2, .int (vl_I bd)), (0, .ref 196), (1, .int (vl_I p))]) (st' := [.int (0 : Int32)]) rfl Kz) ?_
    refine jv_Wp.of (jv_Ev.ret jv_i302 rfl rfl) ?_
    rw [hQ]
    have b0 : vx_allowed M (vr_A I L 1024) f.i = 0 := (hbd ()).trans (Nat.le_zero.mp ((vl_I_le (b := 0) (by omega) (by decide)).mp h1))
    have e5 : vr_A I9 L9 1024 = vx_clear (vr_A I L 1024) := by rw [U9.1, U8.1, U7.1, U6.1, U5.1, vx_clear_eq]
    have Uz := U10
    rw [e5] at Uz
    have e : vx_call M f.i p (vr_A I L 1024) = (0, (vt_up (vx_clear (vr_A I L 1024)) 0 (vt_num vb_any))) := vx_clp b0 hi1 hi6
    exact ⟨_, _, by rw [e]; rfl, fun _ => by rw [e]; exact Uz, (vr_fr_trans (vr_fr_mono F5 (Q := (fun x => 76800 ≤ x ∧ x < 76875)) (E' := (fun q f => q = 203 ∧ f = 1024)) (fun x z => by omega) (fun _ _ z => z.elim)) (vr_fr_trans (vr_fr_mono F6 (Q := (fun x => 76800 ≤ x ∧ x < 76875)) (E' := (fun q f => q = 203 ∧ f = 1024)) (fun x z => by omega) (fun _ _ z => z.elim)) (vr_fr_trans (vr_fr_mono F7 (Q := (fun x => 76800 ≤ x ∧ x < 76875)) (E' := (fun q f => q = 203 ∧ f = 1024)) (fun x z => by omega) (fun _ _ z => z.elim)) (vr_fr_trans (vr_fr_mono F8 (Q := (fun x => 76800 ≤ x ∧ x < 76875)) (E' := (fun q f => q = 203 ∧ f = 1024)) (fun x z => by omega) (fun _ _ z => z.elim)) (vr_fr_trans (vr_fr_mono F9 (Q := (fun x => 76800 ≤ x ∧ x < 76875)) (E' := (fun q f => q = 203 ∧ f = 1024)) (fun x z => by omega) (fun _ _ z => z.elim)) (vr_fr_mono F10 (Q := (fun x => 76800 ≤ x ∧ x < 76875)) (E' := (fun q f => q = 203 ∧ f = 1024)) (fun x z => by omega) (fun _ _ z => z.elim)))))))⟩
  · refine jv_Wp.lift (fun _ Kz => jv_Ev.steps jv_i302 1 (pc' := 14) (l' := [(2, .int (vl_I bd)), (0, .ref 196), (1, .int (vl_I p))]) (st' := [.int (vl_I bd)]) rfl Kz) ?_
    refine jv_Wp.of (jv_Ev.ret jv_i302 rfl rfl) ?_
    rw [hQ]
    have b0 : ¬ bd = 0 := fun z => h1 ((vl_I_le (b := 0) (by omega) (by decide)).mpr (Nat.le_of_eq z))
    have e : vx_call M f.i p (vr_A I L 1024) = (bd, (vr_A I L 1024)) := by have q := vx_cl0 (M := M) (A := (vr_A I L 1024)) (c := f.i) (p := p) (by rw [hbd ()]; exact b0); rw [hbd ()] at q; exact q
    exact ⟨_, _, by rw [e], fun z => by rw [e] at z; exact absurd (show bd = 0 from z) b0, vr_fr_refl hf⟩
theorem vq_call1 {K : Nat → Option (Nat × Nat)} {I : Nat → Nat → Int32} {L : Nat → Nat → Int64} {R : Nat → Nat → Value} (M : vf_M) (f : vf_F) (p : Nat) (hW : jv_rW K R) (hf : vr_fl I) (hM : vr_M I M) (D : vr_dec I f) (oa : vr_okA I 1024) (hj : vr_j10 I) (tA : ∀ n, n < 75 → vt_ok (vr_T I L (76800 + n))) (gA : ∀ n, n < 75 → vt_g (vr_T I L (76800 + n))) (hp : p < 1024) (hiv : f.i = 1) {n sl : Nat} : ∃ I1 L1, jv_Ms 302 [.ref 196, .int (vl_I p)] (jv_H K I L R) n sl (some (.int (vl_I (vx_call M f.i p (vr_A I L 1024)).1)), jv_H K I1 L1 R, n, sl) ∧ ((vx_call M f.i p (vr_A I L 1024)).1 = 0 → vr_A I1 L1 1024 = (vx_call M f.i p (vr_A I L 1024)).2 ∧ vr_okA I1 1024) ∧ vr_fr (fun x => 76800 ≤ x ∧ x < 76875) (fun q f => q = 203 ∧ f = 1024) I L I1 L1 := by
  obtain ⟨Q, hQ⟩ : ∃ Q : jv_R → Prop, Q = fun X => ∃ I1 L1, X = (some (.int (vl_I (vx_call M f.i p (vr_A I L 1024)).1)), jv_H K I1 L1 R, n, sl) ∧ ((vx_call M f.i p (vr_A I L 1024)).1 = 0 → vr_A I1 L1 1024 = (vx_call M f.i p (vr_A I L 1024)).2 ∧ vr_okA I1 1024) ∧ vr_fr (fun x => 76800 ≤ x ∧ x < 76875) (fun q f => q = 203 ∧ f = 1024) I L I1 L1 := ⟨_, rfl⟩
  suffices h : jv_Wp 302 0 [(0, .ref 196), (1, .int (vl_I p))] [] (jv_H K I L R) n sl Q by
    rw [hQ] at h
    obtain ⟨X, h, I1, L1, e, h'⟩ := h
    subst e
    exact ⟨I1, L1, h, h'⟩
  obtain ⟨bd, hbd⟩ : ∃ x : Nat, ∀ _ : Unit, vx_allowed M (vr_A I L 1024) f.i = x := ⟨_, fun _ => rfl⟩
  have bd9 : bd < 9 := by rw [← hbd ()]; exact vx_allowed_lt
  have hp : p < 2147483648 := by omega
  have hii : Int32.ofInt f.i = (1 : Int32) := by rw [hiv]; rfl
  have hn6 : ¬ Int32.ofInt f.i = (6 : Int32) := fun z => absurd (hiv.symm.trans ((vr_dQ D).symm.trans (congrArg Int32.toInt z))) (by decide)
  refine jv_Wp.lift (fun _ Kz => jv_Ev.steps jv_i302 2 (pc' := 2) (l' := [(0, .ref 196), (1, .int (vl_I p))]) (st' := [.ref 196, .ref 196]) rfl Kz) ?_
  refine jv_Wp.lift (fun _ Kz => jv_Ev.m jv_i302 (pc' := 5) (st' := [.int (Int32.ofInt f.i), .ref 196]) (G' := (jv_H K I L R)) rfl rfl (jv_m_getI (jv_rwK hW 196 12 24 (by decide)) rfl rfl (vr_dJ D)) Kz) ?_
  have Hb := vq_args (I := I) (L := L) (n := n) (sl := sl) M f hW hM D oa hj tA gA
  rw [hbd ()] at Hb
  refine jv_Wp.lift (fun _ Kz => jv_Ev.c jv_i302 (pc' := 8) (S' := [.int (vl_I bd)]) jv_i300 [.ref 196, .int (Int32.ofInt f.i)] rfl rfl rfl rfl (jv_cal rfl (jv_H_at (jv_rwK hW 196 12 24 (by decide))) rfl rfl) rfl Hb rfl rfl Kz) ?_
  refine jv_Wp.lift (fun _ Kz => jv_Ev.steps jv_i302 2 (pc' := 10) (l' := [(2, .int (vl_I bd)), (0, .ref 196), (1, .int (vl_I p))]) (st' := [.int (vl_I bd)]) rfl Kz) ?_
  refine jv_Wp.cnd jv_i302 (pt := 15) (pe := 13) (p := ((vl_I bd) ≤ 0)) (q := ((vl_I bd) ≤ 0)) rfl jv_bi_le rfl rfl Iff.rfl (fun h1 => ?_) (fun h1 => ?_)
  · refine jv_Wp.lift (fun _ Kz => jv_Ev.steps jv_i302 1 (pc' := 16) (l' := [(2, .int (vl_I bd)), (0, .ref 196), (1, .int (vl_I p))]) (st' := [.ref 196]) rfl Kz) ?_
    refine jv_Wp.lift (fun _ Kz => jv_Ev.m jv_i302 (pc' := 19) (st' := [.ref 206]) (G' := (jv_H K I L R)) rfl rfl (jv_m_getR (jv_rwK hW 196 12 24 (by decide)) rfl rfl (jv_rwR hW 196 14 206 (by decide))) Kz) ?_
    refine jv_Wp.lift (fun _ Kz => jv_Ev.steps jv_i302 2 (pc' := 23) (l' := [(2, .int (vl_I bd)), (0, .ref 196), (1, .int (vl_I p))]) (st' := [.int (1 : Int32), .int (1024 : Int32), .ref 206]) rfl Kz) ?_
    refine jv_Wp.lift (fun _ Kz => jv_Ev.c jv_i302 (pc' := 26) (S' := [.int (vl_I (76800 + 1)), .ref 206]) jv_i253 [.int (1024 : Int32), .int (1 : Int32)] rfl rfl rfl rfl rfl rfl (vq_thing 1024 1) rfl rfl Kz) ?_
    refine jv_Wp.lift (fun _ Kz => jv_Ev.m jv_i302 (pc' := 27) (st' := [.int (I 206 (76800 + 1))]) (G' := (jv_H K I L R)) rfl rfl (jv_m_ialdv (jv_rwK hW 206 102 77100 (by decide)) rfl (vl_I_ix (by omega) (by decide)) rfl ((congrArg (I 206) (vl_I_nat (by omega))).trans rfl)) Kz) ?_
    refine jv_Wp.lift (fun _ Kz => jv_Ev.steps jv_i302 2 (pc' := 29) (l' := [(3, .int (I 206 (76800 + 1))), (2, .int (vl_I bd)), (0, .ref 196), (1, .int (vl_I p))]) (st' := [.ref 196]) rfl Kz) ?_
    refine jv_Wp.lift (fun _ Kz => jv_Ev.m jv_i302 (pc' := 32) (st' := [.int (Int32.ofInt f.i)]) (G' := (jv_H K I L R)) rfl rfl (jv_m_getI (jv_rwK hW 196 12 24 (by decide)) rfl rfl (vr_dJ D)) Kz) ?_
    refine jv_Wp.lift (fun _ Kz => jv_Ev.steps jv_i302 1 (pc' := 34) (l' := [(3, .int (I 206 (76800 + 1))), (2, .int (vl_I bd)), (0, .ref 196), (1, .int (vl_I p))]) (st' := [.int (6 : Int32), .int (Int32.ofInt f.i)]) rfl Kz) ?_
    refine jv_Wp.cnd jv_i302 (pt := 58) (pe := 37) (p := (¬ (Int32.ofInt f.i) = (6 : Int32))) (q := (¬ (Int32.ofInt f.i) = (6 : Int32))) rfl jv_bc_ne rfl rfl Iff.rfl (fun _ => ?_) (fun hz => absurd hn6 hz)
    refine jv_Wp.lift (fun _ Kz => jv_Ev.steps jv_i302 1 (pc' := 59) (l' := [(3, .int (I 206 (76800 + 1))), (2, .int (vl_I bd)), (0, .ref 196), (1, .int (vl_I p))]) (st' := [.ref 196]) rfl Kz) ?_
    refine jv_Wp.lift (fun _ Kz => jv_Ev.m jv_i302 (pc' := 62) (st' := [.int (Int32.ofInt f.i)]) (G' := (jv_H K I L R)) rfl rfl (jv_m_getI (jv_rwK hW 196 12 24 (by decide)) rfl rfl (vr_dJ D)) Kz) ?_
    refine jv_Wp.lift (fun _ Kz => jv_Ev.steps jv_i302 1 (pc' := 63) (l' := [(3, .int (I 206 (76800 + 1))), (2, .int (vl_I bd)), (0, .ref 196), (1, .int (vl_I p))]) (st' := [.int (1 : Int32), .int (Int32.ofInt f.i)]) rfl Kz) ?_
    refine jv_Wp.cnd jv_i302 (pt := 73) (pe := 66) (p := (¬ (Int32.ofInt f.i) = (1 : Int32))) (q := (¬ (Int32.ofInt f.i) = (1 : Int32))) rfl jv_bc_ne rfl rfl Iff.rfl (fun hz => absurd hz (fun z => z hii)) (fun _ => ?_)
    refine jv_Wp.lift (fun _ Kz => jv_Ev.steps jv_i302 3 (pc' := 70) (l' := [(3, .int (I 206 (76800 + 1))), (2, .int (vl_I bd)), (0, .ref 196), (1, .int (vl_I p))]) (st' := [.int (vl_I p), .int (8 : Int32), .ref 196]) rfl Kz) ?_
    obtain ⟨I11, L11, H11, E11, O11, F11⟩ := vq_drop (I := I) (L := L) (R := R) (n := n) (sl := sl) 8 (vl_I p) hW hf (by decide) oa
    have Z11 := vr_fl_of F11
    have D11 := vr_dec_n F11 D
    refine jv_Wp.lift (fun _ Kz => jv_Ev.c jv_i302 (pc' := 73) (S' := []) (G1 := (jv_H K I11 L11 R)) jv_i301 [.ref 196, .int (8 : Int32), .int (vl_I p)] rfl rfl rfl rfl (jv_cal rfl (jv_H_at (jv_rwK hW 196 12 24 (by decide))) rfl rfl) rfl H11 rfl rfl Kz) ?_
    refine jv_Wp.lift (fun _ Kz => jv_Ev.steps jv_i302 4 (pc' := 80) (l' := [(4, .int (1 : Int32)), (3, .int (I 206 (76800 + 1))), (2, .int (vl_I bd)), (0, .ref 196), (1, .int (vl_I p))]) (st' := [.int (6 : Int32), .int (1 : Int32)]) rfl Kz) ?_
    refine jv_Wp.lift (fun _ Kz => jv_Ev.br jv_i302 (pc' := 83) (st' := []) rfl (by rfl) Kz) ?_
    refine jv_Wp.lift (fun _ Kz => jv_Ev.steps jv_i302 5 (pc' := 91) (l' := [(4, .int (1 : Int32)), (3, .int (I 206 (76800 + 1))), (2, .int (vl_I bd)), (0, .ref 196), (1, .int (vl_I p))]) (st' := [.int (0 : Int32), .int (0 : Int32), .int (1 : Int32), .int (1024 : Int32), .ref 196]) rfl Kz) ?_
    obtain ⟨I12, L12, H12, A12, B12, C12, F12, eL12⟩ := vq_setx (I := I11) (L := L11) (R := R) (n := n) (sl := sl) 1024 1 (0 : Int32) (0 : Int32) hW Z11 (by decide)
    have Z12 := vr_fl_of F12
    have D12 := vr_dec_n F12 D11
    have U12 := vr_upA (I := I11) (L := L11) (k := 1024) (r := 1) (t := vt_none 0) (by decide) ((vr_T_set A12 B12 C12).trans rfl) (by unfold vr_ok; rw [A12, B12, C12]; exact Or.inr (Or.inl ⟨rfl, by decide, rfl, rfl⟩)) F12 (fun n hn e q => e (by omega)) O11
    have O12 := U12.2
    refine jv_Wp.lift (fun _ Kz => jv_Ev.c jv_i302 (pc' := 94) (S' := []) (G1 := (jv_H K I12 L12 R)) jv_i272 [.ref 196, .int (1024 : Int32), .int (1 : Int32), .int (0 : Int32), .int (0 : Int32)] rfl rfl rfl rfl (jv_cal rfl (jv_H_at (jv_rwK hW 196 12 24 (by decide))) rfl rfl) rfl H12 rfl rfl Kz) ?_
    refine jv_Wp.lift (fun _ Kz => jv_Ev.steps jv_i302 4 (pc' := 80) (l' := [(4, .int (2 : Int32)), (3, .int (I 206 (76800 + 1))), (2, .int (vl_I bd)), (0, .ref 196), (1, .int (vl_I p))]) (st' := [.int (6 : Int32), .int (2 : Int32)]) rfl Kz) ?_
    refine jv_Wp.lift (fun _ Kz => jv_Ev.br jv_i302 (pc' := 83) (st' := []) rfl (by rfl) Kz) ?_
    refine jv_Wp.lift (fun _ Kz => jv_Ev.steps jv_i302 5 (pc' := 91) (l' := [(4, .int (2 : Int32)), (3, .int (I 206 (76800 + 1))), (2, .int (vl_I bd)), (0, .ref 196), (1, .int (vl_I p))]) (st' := [.int (0 : Int32), .int (0 : Int32), .int (2 : Int32), .int (1024 : Int32), .ref 196]) rfl Kz) ?_
    obtain ⟨I13, L13, H13, A13, B13, C13, F13, eL13⟩ := vq_setx (I := I12) (L := L12) (R := R) (n := n) (sl := sl) 1024 2 (0 : Int32) (0 : Int32) hW Z12 (by decide)
    have Z13 := vr_fl_of F13
    have D13 := vr_dec_n F13 D12
    have U13 := vr_upA (I := I12) (L := L12) (k := 1024) (r := 2) (t := vt_none 0) (by decide) ((vr_T_set A13 B13 C13).trans rfl) (by unfold vr_ok; rw [A13, B13, C13]; exact Or.inr (Or.inl ⟨rfl, by decide, rfl, rfl⟩)) F13 (fun n hn e q => e (by omega)) O12
    have O13 := U13.2
    refine jv_Wp.lift (fun _ Kz => jv_Ev.c jv_i302 (pc' := 94) (S' := []) (G1 := (jv_H K I13 L13 R)) jv_i272 [.ref 196, .int (1024 : Int32), .int (2 : Int32), .int (0 : Int32), .int (0 : Int32)] rfl rfl rfl rfl (jv_cal rfl (jv_H_at (jv_rwK hW 196 12 24 (by decide))) rfl rfl) rfl H13 rfl rfl Kz) ?_
    refine jv_Wp.lift (fun _ Kz => jv_Ev.steps jv_i302 4 (pc' := 80) (l' := [(4, .int (3 : Int32)), (3, .int (I 206 (76800 + 1))), (2, .int (vl_I bd)), (0, .ref 196), (1, .int (vl_I p))]) (st' := [.int (6 : Int32), .int (3 : Int32)]) rfl Kz) ?_
    refine jv_Wp.lift (fun _ Kz => jv_Ev.br jv_i302 (pc' := 83) (st' := []) rfl (by rfl) Kz) ?_
    refine jv_Wp.lift (fun _ Kz => jv_Ev.steps jv_i302 5 (pc' := 91) (l' := [(4, .int (3 : Int32)), (3, .int (I 206 (76800 + 1))), (2, .int (vl_I bd)), (0, .ref 196), (1, .int (vl_I p))]) (st' := [.int (0 : Int32), .int (0 : Int32), .int (3 : Int32), .int (1024 : Int32), .ref 196]) rfl Kz) ?_
    obtain ⟨I14, L14, H14, A14, B14, C14, F14, eL14⟩ := vq_setx (I := I13) (L := L13) (R := R) (n := n) (sl := sl) 1024 3 (0 : Int32) (0 : Int32) hW Z13 (by decide)
    have Z14 := vr_fl_of F14
    have D14 := vr_dec_n F14 D13
    have U14 := vr_upA (I := I13) (L := L13) (k := 1024) (r := 3) (t := vt_none 0) (by decide) ((vr_T_set A14 B14 C14).trans rfl) (by unfold vr_ok; rw [A14, B14, C14]; exact Or.inr (Or.inl ⟨rfl, by decide, rfl, rfl⟩)) F14 (fun n hn e q => e (by omega)) O13
    have O14 := U14.2
    refine jv_Wp.lift (fun _ Kz => jv_Ev.c jv_i302 (pc' := 94) (S' := []) (G1 := (jv_H K I14 L14 R)) jv_i272 [.ref 196, .int (1024 : Int32), .int (3 : Int32), .int (0 : Int32), .int (0 : Int32)] rfl rfl rfl rfl (jv_cal rfl (jv_H_at (jv_rwK hW 196 12 24 (by decide))) rfl rfl) rfl H14 rfl rfl Kz) ?_
    refine jv_Wp.lift (fun _ Kz => jv_Ev.steps jv_i302 4 (pc' := 80) (l' := [(4, .int (4 : Int32)), (3, .int (I 206 (76800 + 1))), (2, .int (vl_I bd)), (0, .ref 196), (1, .int (vl_I p))]) (st' := [.int (6 : Int32), .int (4 : Int32)]) rfl Kz) ?_
    refine jv_Wp.lift (fun _ Kz => jv_Ev.br jv_i302 (pc' := 83) (st' := []) rfl (by rfl) Kz) ?_
    refine jv_Wp.lift (fun _ Kz => jv_Ev.steps jv_i302 5 (pc' := 91) (l' := [(4, .int (4 : Int32)), (3, .int (I 206 (76800 + 1))), (2, .int (vl_I bd)), (0, .ref 196), (1, .int (vl_I p))]) (st' := [.int (0 : Int32), .int (0 : Int32), .int (4 : Int32), .int (1024 : Int32), .ref 196]) rfl Kz) ?_
    obtain ⟨I15, L15, H15, A15, B15, C15, F15, eL15⟩ := vq_setx (I := I14) (L := L14) (R := R) (n := n) (sl := sl) 1024 4 (0 : Int32) (0 : Int32) hW Z14 (by decide)
    have Z15 := vr_fl_of F15
    have D15 := vr_dec_n F15 D14
    have U15 := vr_upA (I := I14) (L := L14) (k := 1024) (r := 4) (t := vt_none 0) (by decide) ((vr_T_set A15 B15 C15).trans rfl) (by unfold vr_ok; rw [A15, B15, C15]; exact Or.inr (Or.inl ⟨rfl, by decide, rfl, rfl⟩)) F15 (fun n hn e q => e (by omega)) O14
    have O15 := U15.2
    refine jv_Wp.lift (fun _ Kz => jv_Ev.c jv_i302 (pc' := 94) (S' := []) (G1 := (jv_H K I15 L15 R)) jv_i272 [.ref 196, .int (1024 : Int32), .int (4 : Int32), .int (0 : Int32), .int (0 : Int32)] rfl rfl rfl rfl (jv_cal rfl (jv_H_at (jv_rwK hW 196 12 24 (by decide))) rfl rfl) rfl H15 rfl rfl Kz) ?_
    refine jv_Wp.lift (fun _ Kz => jv_Ev.steps jv_i302 4 (pc' := 80) (l' := [(4, .int (5 : Int32)), (3, .int (I 206 (76800 + 1))), (2, .int (vl_I bd)), (0, .ref 196), (1, .int (vl_I p))]) (st' := [.int (6 : Int32), .int (5 : Int32)]) rfl Kz) ?_
    refine jv_Wp.lift (fun _ Kz => jv_Ev.br jv_i302 (pc' := 83) (st' := []) rfl (by rfl) Kz) ?_
    refine jv_Wp.lift (fun _ Kz => jv_Ev.steps jv_i302 5 (pc' := 91) (l' := [(4, .int (5 : Int32)), (3, .int (I 206 (76800 + 1))), (2, .int (vl_I bd)), (0, .ref 196), (1, .int (vl_I p))]) (st' := [.int (0 : Int32), .int (0 : Int32), .int (5 : Int32), .int (1024 : Int32), .ref 196]) rfl Kz) ?_
    obtain ⟨I16, L16, H16, A16, B16, C16, F16, eL16⟩ := vq_setx (I := I15) (L := L15) (R := R) (n := n) (sl := sl) 1024 5 (0 : Int32) (0 : Int32) hW Z15 (by decide)
    have Z16 := vr_fl_of F16
    have D16 := vr_dec_n F16 D15
    have U16 := vr_upA (I := I15) (L := L15) (k := 1024) (r := 5) (t := vt_none 0) (by decide) ((vr_T_set A16 B16 C16).trans rfl) (by unfold vr_ok; rw [A16, B16, C16]; exact Or.inr (Or.inl ⟨rfl, by decide, rfl, rfl⟩)) F16 (fun n hn e q => e (by omega)) O15
    have O16 := U16.2
    refine jv_Wp.lift (fun _ Kz => jv_Ev.c jv_i302 (pc' := 94) (S' := []) (G1 := (jv_H K I16 L16 R)) jv_i272 [.ref 196, .int (1024 : Int32), .int (5 : Int32), .int (0 : Int32), .int (0 : Int32)] rfl rfl rfl rfl (jv_cal rfl (jv_H_at (jv_rwK hW 196 12 24 (by decide))) rfl rfl) rfl H16 rfl rfl Kz) ?_
    refine jv_Wp.lift (fun _ Kz => jv_Ev.steps jv_i302 4 (pc' := 80) (l' := [(4, .int (6 : Int32)), (3, .int (I 206 (76800 + 1))), (2, .int (vl_I bd)), (0, .ref 196), (1, .int (vl_I p))]) (st' := [.int (6 : Int32), .int (6 : Int32)]) rfl Kz) ?_
    refine jv_Wp.lift (fun _ Kz => jv_Ev.br jv_i302 (pc' := 100) (st' := []) rfl (by rfl) Kz) ?_
    refine jv_Wp.lift (fun _ Kz => jv_Ev.steps jv_i302 1 (pc' := 101) (l' := [(4, .int (6 : Int32)), (3, .int (I 206 (76800 + 1))), (2, .int (vl_I bd)), (0, .ref 196), (1, .int (vl_I p))]) (st' := [.ref 196]) rfl Kz) ?_
    refine jv_Wp.lift (fun _ Kz => jv_Ev.m jv_i302 (pc' := 104) (st' := [.int (Int32.ofInt f.i)]) (G' := (jv_H K I16 L16 R)) rfl rfl (jv_m_getI (jv_rwK hW 196 12 24 (by decide)) rfl rfl (vr_dJ D16)) Kz) ?_
    refine jv_Wp.lift (fun _ Kz => jv_Ev.steps jv_i302 1 (pc' := 105) (l' := [(4, .int (6 : Int32)), (3, .int (I 206 (76800 + 1))), (2, .int (vl_I bd)), (0, .ref 196), (1, .int (vl_I p))]) (st' := [.int (1 : Int32), .int (Int32.ofInt f.i)]) rfl Kz) ?_
    refine jv_Wp.cnd jv_i302 (pt := 135) (pe := 108) (p := (¬ (Int32.ofInt f.i) = (1 : Int32))) (q := (¬ (Int32.ofInt f.i) = (1 : Int32))) rfl jv_bc_ne rfl rfl Iff.rfl (fun hz => absurd hz (fun z => z hii)) (fun _ => ?_)
    refine jv_Wp.lift (fun _ Kz => jv_Ev.steps jv_i302 5 (pc' := 116) (l' := [(4, .int (6 : Int32)), (3, .int (I 206 (76800 + 1))), (2, .int (vl_I bd)), (0, .ref 196), (1, .int (vl_I p))]) (st' := [.int (I 206 (76800 + 1)), .int (8 : Int32), .int (0 : Int32), .int (1024 : Int32), .ref 196]) rfl Kz) ?_
    obtain ⟨I17, L17, H17, A17, B17, C17, F17, eL17⟩ := vq_setx (I := I16) (L := L16) (R := R) (n := n) (sl := sl) 1024 0 (8 : Int32) (I 206 (76800 + 1)) hW Z16 (by decide)
    have Z17 := vr_fl_of F17
    have D17 := vr_dec_n F17 D16
    refine jv_Wp.lift (fun _ Kz => jv_Ev.c jv_i302 (pc' := 119) (S' := []) (G1 := (jv_H K I17 L17 R)) jv_i272 [.ref 196, .int (1024 : Int32), .int (0 : Int32), .int (8 : Int32), .int (I 206 (76800 + 1))] rfl rfl rfl rfl (jv_cal rfl (jv_H_at (jv_rwK hW 196 12 24 (by decide))) rfl rfl) rfl H17 rfl rfl Kz) ?_
    refine jv_Wp.lift (fun _ Kz => jv_Ev.steps jv_i302 1 (pc' := 120) (l' := [(4, .int (6 : Int32)), (3, .int (I 206 (76800 + 1))), (2, .int (vl_I bd)), (0, .ref 196), (1, .int (vl_I p))]) (st' := [.ref 196]) rfl Kz) ?_
    refine jv_Wp.lift (fun _ Kz => jv_Ev.m jv_i302 (pc' := 123) (st' := [.ref 207]) (G' := (jv_H K I17 L17 R)) rfl rfl (jv_m_getR (jv_rwK hW 196 12 24 (by decide)) rfl rfl (jv_rwR hW 196 15 207 (by decide))) Kz) ?_
    refine jv_Wp.lift (fun _ Kz => jv_Ev.steps jv_i302 2 (pc' := 127) (l' := [(4, .int (6 : Int32)), (3, .int (I 206 (76800 + 1))), (2, .int (vl_I bd)), (0, .ref 196), (1, .int (vl_I p))]) (st' := [.int (0 : Int32), .int (1024 : Int32), .ref 207]) rfl Kz) ?_
    refine jv_Wp.lift (fun _ Kz => jv_Ev.c jv_i302 (pc' := 130) (S' := [.int (vl_I (76800 + 0)), .ref 207]) jv_i253 [.int (1024 : Int32), .int (0 : Int32)] rfl rfl rfl rfl rfl rfl (vq_thing 1024 0) rfl rfl Kz) ?_
    refine jv_Wp.lift (fun _ Kz => jv_Ev.steps jv_i302 1 (pc' := 131) (l' := [(4, .int (6 : Int32)), (3, .int (I 206 (76800 + 1))), (2, .int (vl_I bd)), (0, .ref 196), (1, .int (vl_I p))]) (st' := [.int (vl_I p), .int (vl_I (76800 + 0)), .ref 207]) rfl Kz) ?_
    refine jv_Wp.lift (fun _ Kz => jv_Ev.m jv_i302 (pc' := 132) (st' := []) (G' := (jv_H K (jv_u I17 207 (76800 + 0) (vl_I p)) L17 R)) rfl rfl (by rw [jv_m_iast (jv_rwK hW 207 102 77100 (by decide)) (vl_I_ix (by omega) (by decide)), (vl_I_nat (by omega))]) Kz) ?_
    refine jv_Wp.lift (fun _ Kz => jv_Ev.steps jv_i302 2 (pc' := 143) (l' := [(4, .int (6 : Int32)), (3, .int (I 206 (76800 + 1))), (2, .int (vl_I bd)), (0, .ref 196), (1, .int (vl_I p))]) (st' := [.int (0 : Int32)]) rfl Kz) ?_
    refine jv_Wp.of (jv_Ev.ret jv_i302 rfl rfl) ?_
    rw [hQ]
    have b0 : vx_allowed M (vr_A I L 1024) f.i = 0 := (hbd ()).trans (Nat.le_zero.mp ((vl_I_le (b := 0) (by omega) (by decide)).mp h1))
    obtain ⟨Iz, hIz⟩ : ∃ J, J = (jv_u I17 207 (76800 + 0) (vl_I p)) := ⟨_, rfl⟩
    rw [← hIz]
    have eB : vr_A I11 L11 1024 = vx_drop (vr_A I L 1024) (fun t => decide (t.sort = 8) && decide (t.org = (p : Int))) := by rw [E11]; exact vr_drA_p _ p hp
    have e5 : vr_A I16 L16 1024 = vx_clear (vr_A I11 L11 1024) := by rw [U16.1, U15.1, U14.1, U13.1, U12.1, vx_clear_eq]
    rw [eB] at e5
    have i5 : Iz 205 76800 = 8 := by rw [hIz]; exact (jv_u_o _ _ _ _ (by decide)).trans A17
    have i6 : Iz 206 76800 = I 206 (76800 + 1) := by rw [hIz]; exact (jv_u_o _ _ _ _ (by decide)).trans B17
    have i7 : Iz 207 76800 = vl_I p := by rw [hIz]; exact jv_u_self _ _ _ _
    have Fz : vr_fr (fun x => x = 76800) noE I17 L17 Iz L17 := by rw [hIz]; exact vr_fr207 Z17 _ _
    have Fy : vr_fr (fun x => x = 76800) noE I16 L16 Iz L17 := vr_fr_trans (vr_fr_P F17 (fun x z => z)) Fz
    have Uz := vr_upA (I := I16) (L := L16) (k := 1024) (r := 0) (t := vt_maybe ((vr_A I L 1024).1 1).det p) (by decide) ((vr_T_set i5 i6 i7).trans (by rw [show ((vr_A I L 1024).1 1).det = (I 206 (76800 + 1)).toInt from congrArg vt_T.det (vr_A1 (by decide))]; refine Prod.ext rfl (Prod.ext rfl (Prod.ext ?_ rfl)); exact vl_I_int hp)) (by unfold vr_ok; rw [i5]; exact Or.inr (Or.inr (Or.inr (Or.inr rfl)))) Fy (fun n hn e q => e (by omega)) O16
    have e : vx_call M f.i p (vr_A I L 1024) = (0, vt_up (vx_clear (vx_drop (vr_A I L 1024) (fun t => decide (t.sort = 8) && decide (t.org = (p : Int))))) 0 (vt_maybe ((vr_A I L 1024).1 1).det p)) := by rw [hiv] at b0 ⊢; exact vx_cl1 b0
    rw [e5] at Uz
    exact ⟨_, _, by rw [e]; rfl, fun _ => by rw [e]; exact Uz, (vr_fr_trans (vr_fr_mono F11 (Q := (fun x => 76800 ≤ x ∧ x < 76875)) (E' := (fun q f => q = 203 ∧ f = 1024)) (fun x z => by unfold vr_th at z; omega) (fun _ _ z => z.elim)) (vr_fr_trans (vr_fr_mono F12 (Q := (fun x => 76800 ≤ x ∧ x < 76875)) (E' := (fun q f => q = 203 ∧ f = 1024)) (fun x z => by omega) (fun _ _ z => z.elim)) (vr_fr_trans (vr_fr_mono F13 (Q := (fun x => 76800 ≤ x ∧ x < 76875)) (E' := (fun q f => q = 203 ∧ f = 1024)) (fun x z => by omega) (fun _ _ z => z.elim)) (vr_fr_trans (vr_fr_mono F14 (Q := (fun x => 76800 ≤ x ∧ x < 76875)) (E' := (fun q f => q = 203 ∧ f = 1024)) (fun x z => by omega) (fun _ _ z => z.elim)) (vr_fr_trans (vr_fr_mono F15 (Q := (fun x => 76800 ≤ x ∧ x < 76875)) (E' := (fun q f => q = 203 ∧ f = 1024)) (fun x z => by omega) (fun _ _ z => z.elim)) (vr_fr_trans (vr_fr_mono F16 (Q := (fun x => 76800 ≤ x ∧ x < 76875)) (E' := (fun q f => q = 203 ∧ f = 1024)) (fun x z => by omega) (fun _ _ z => z.elim)) (vr_fr_trans (vr_fr_mono F17 (Q := (fun x => 76800 ≤ x ∧ x < 76875)) (E' := (fun q f => q = 203 ∧ f = 1024)) (fun x z => by omega) (fun _ _ z => z.elim)) (vr_fr_mono Fz (Q := (fun x => 76800 ≤ x ∧ x < 76875)) (E' := (fun q f => q = 203 ∧ f = 1024)) (fun x z => by omega) (fun _ _ z => z.elim)))))))))⟩
  · refine jv_Wp.lift (fun _ Kz => jv_Ev.steps jv_i302 1 (pc' := 14) (l' := [(2, .int (vl_I bd)), (0, .ref 196), (1, .int (vl_I p))]) (st' := [.int (vl_I bd)]) rfl Kz) ?_
    refine jv_Wp.of (jv_Ev.ret jv_i302 rfl rfl) ?_
    rw [hQ]
    have b0 : ¬ bd = 0 := fun z => h1 ((vl_I_le (b := 0) (by omega) (by decide)).mpr (Nat.le_of_eq z))
    have e : vx_call M f.i p (vr_A I L 1024) = (bd, (vr_A I L 1024)) := by have q := vx_cl0 (M := M) (A := (vr_A I L 1024)) (c := f.i) (p := p) (by rw [hbd ()]; exact b0); rw [hbd ()] at q; exact q
    exact ⟨_, _, by rw [e], fun z => by rw [e] at z; exact absurd (show bd = 0 from z) b0, vr_fr_refl hf⟩
theorem vq_call6 {K : Nat → Option (Nat × Nat)} {I : Nat → Nat → Int32} {L : Nat → Nat → Int64} {R : Nat → Nat → Value} (M : vf_M) (f : vf_F) (p : Nat) (hW : jv_rW K R) (hf : vr_fl I) (hM : vr_M I M) (D : vr_dec I f) (oa : vr_okA I 1024) (hj : vr_j10 I) (tA : ∀ n, n < 75 → vt_ok (vr_T I L (76800 + n))) (gA : ∀ n, n < 75 → vt_g (vr_T I L (76800 + n))) (hp : p < 1024) (hiv : f.i = 6) {n sl : Nat} : ∃ I1 L1, jv_Ms 302 [.ref 196, .int (vl_I p)] (jv_H K I L R) n sl (some (.int (vl_I (vx_call M f.i p (vr_A I L 1024)).1)), jv_H K I1 L1 R, n, sl) ∧ ((vx_call M f.i p (vr_A I L 1024)).1 = 0 → vr_A I1 L1 1024 = (vx_call M f.i p (vr_A I L 1024)).2 ∧ vr_okA I1 1024) ∧ vr_fr (fun x => 76800 ≤ x ∧ x < 76875) (fun q f => q = 203 ∧ f = 1024) I L I1 L1 := by
  obtain ⟨Q, hQ⟩ : ∃ Q : jv_R → Prop, Q = fun X => ∃ I1 L1, X = (some (.int (vl_I (vx_call M f.i p (vr_A I L 1024)).1)), jv_H K I1 L1 R, n, sl) ∧ ((vx_call M f.i p (vr_A I L 1024)).1 = 0 → vr_A I1 L1 1024 = (vx_call M f.i p (vr_A I L 1024)).2 ∧ vr_okA I1 1024) ∧ vr_fr (fun x => 76800 ≤ x ∧ x < 76875) (fun q f => q = 203 ∧ f = 1024) I L I1 L1 := ⟨_, rfl⟩
  suffices h : jv_Wp 302 0 [(0, .ref 196), (1, .int (vl_I p))] [] (jv_H K I L R) n sl Q by
    rw [hQ] at h
    obtain ⟨X, h, I1, L1, e, h'⟩ := h
    subst e
    exact ⟨I1, L1, h, h'⟩
  obtain ⟨bd, hbd⟩ : ∃ x : Nat, ∀ _ : Unit, vx_allowed M (vr_A I L 1024) f.i = x := ⟨_, fun _ => rfl⟩
  have bd9 : bd < 9 := by rw [← hbd ()]; exact vx_allowed_lt
  have hp : p < 2147483648 := by omega
  have hii : Int32.ofInt f.i = (6 : Int32) := by rw [hiv]; rfl
  have hn1 : ¬ Int32.ofInt f.i = (1 : Int32) := fun z => absurd (hiv.symm.trans ((vr_dQ D).symm.trans (congrArg Int32.toInt z))) (by decide)
  refine jv_Wp.lift (fun _ Kz => jv_Ev.steps jv_i302 2 (pc' := 2) (l' := [(0, .ref 196), (1, .int (vl_I p))]) (st' := [.ref 196, .ref 196]) rfl Kz) ?_
  refine jv_Wp.lift (fun _ Kz => jv_Ev.m jv_i302 (pc' := 5) (st' := [.int (Int32.ofInt f.i), .ref 196]) (G' := (jv_H K I L R)) rfl rfl (jv_m_getI (jv_rwK hW 196 12 24 (by decide)) rfl rfl (vr_dJ D)) Kz) ?_
  have Hb := vq_args (I := I) (L := L) (n := n) (sl := sl) M f hW hM D oa hj tA gA
  rw [hbd ()] at Hb
  refine jv_Wp.lift (fun _ Kz => jv_Ev.c jv_i302 (pc' := 8) (S' := [.int (vl_I bd)]) jv_i300 [.ref 196, .int (Int32.ofInt f.i)] rfl rfl rfl rfl (jv_cal rfl (jv_H_at (jv_rwK hW 196 12 24 (by decide))) rfl rfl) rfl Hb rfl rfl Kz) ?_
  refine jv_Wp.lift (fun _ Kz => jv_Ev.steps jv_i302 2 (pc' := 10) (l' := [(2, .int (vl_I bd)), (0, .ref 196), (1, .int (vl_I p))]) (st' := [.int (vl_I bd)]) rfl Kz) ?_
  refine jv_Wp.cnd jv_i302 (pt := 15) (pe := 13) (p := ((vl_I bd) ≤ 0)) (q := ((vl_I bd) ≤ 0)) rfl jv_bi_le rfl rfl Iff.rfl (fun h1 => ?_) (fun h1 => ?_)
  · refine jv_Wp.lift (fun _ Kz => jv_Ev.steps jv_i302 1 (pc' := 16) (l' := [(2, .int (vl_I bd)), (0, .ref 196), (1, .int (vl_I p))]) (st' := [.ref 196]) rfl Kz) ?_
    refine jv_Wp.lift (fun _ Kz => jv_Ev.m jv_i302 (pc' := 19) (st' := [.ref 206]) (G' := (jv_H K I L R)) rfl rfl (jv_m_getR (jv_rwK hW 196 12 24 (by decide)) rfl rfl (jv_rwR hW 196 14 206 (by decide))) Kz) ?_
    refine jv_Wp.lift (fun _ Kz => jv_Ev.steps jv_i302 2 (pc' := 23) (l' := [(2, .int (vl_I bd)), (0, .ref 196), (1, .int (vl_I p))]) (st' := [.int (1 : Int32), .int (1024 : Int32), .ref 206]) rfl Kz) ?_
    refine jv_Wp.lift (fun _ Kz => jv_Ev.c jv_i302 (pc' := 26) (S' := [.int (vl_I (76800 + 1)), .ref 206]) jv_i253 [.int (1024 : Int32), .int (1 : Int32)] rfl rfl rfl rfl rfl rfl (vq_thing 1024 1) rfl rfl Kz) ?_
    refine jv_Wp.lift (fun _ Kz => jv_Ev.m jv_i302 (pc' := 27) (st' := [.int (I 206 (76800 + 1))]) (G' := (jv_H K I L R)) rfl rfl (jv_m_ialdv (jv_rwK hW 206 102 77100 (by decide)) rfl (vl_I_ix (by omega) (by decide)) rfl ((congrArg (I 206) (vl_I_nat (by omega))).trans rfl)) Kz) ?_
    refine jv_Wp.lift (fun _ Kz => jv_Ev.steps jv_i302 2 (pc' := 29) (l' := [(3, .int (I 206 (76800 + 1))), (2, .int (vl_I bd)), (0, .ref 196), (1, .int (vl_I p))]) (st' := [.ref 196]) rfl Kz) ?_
    refine jv_Wp.lift (fun _ Kz => jv_Ev.m jv_i302 (pc' := 32) (st' := [.int (Int32.ofInt f.i)]) (G' := (jv_H K I L R)) rfl rfl (jv_m_getI (jv_rwK hW 196 12 24 (by decide)) rfl rfl (vr_dJ D)) Kz) ?_
    refine jv_Wp.lift (fun _ Kz => jv_Ev.steps jv_i302 1 (pc' := 34) (l' := [(3, .int (I 206 (76800 + 1))), (2, .int (vl_I bd)), (0, .ref 196), (1, .int (vl_I p))]) (st' := [.int (6 : Int32), .int (Int32.ofInt f.i)]) rfl Kz) ?_
    refine jv_Wp.cnd jv_i302 (pt := 58) (pe := 37) (p := (¬ (Int32.ofInt f.i) = (6 : Int32))) (q := (¬ (Int32.ofInt f.i) = (6 : Int32))) rfl jv_bc_ne rfl rfl Iff.rfl (fun hz => absurd hz (fun z => z hii)) (fun _ => ?_)
    refine jv_Wp.lift (fun _ Kz => jv_Ev.steps jv_i302 3 (pc' := 40) (l' := [(3, .int (I 206 (76800 + 1))), (2, .int (vl_I bd)), (0, .ref 196), (1, .int (vl_I p))]) (st' := [.int (-1 : Int32), .int (4 : Int32), .ref 196]) rfl Kz) ?_
    obtain ⟨I18, L18, H18, E18, O18, F18⟩ := vq_drop (I := I) (L := L) (R := R) (n := n) (sl := sl) 4 (-1 : Int32) hW hf (by decide) oa
    have Z18 := vr_fl_of F18
    have D18 := vr_dec_n F18 D
    refine jv_Wp.lift (fun _ Kz => jv_Ev.c jv_i302 (pc' := 43) (S' := []) (G1 := (jv_H K I18 L18 R)) jv_i301 [.ref 196, .int (4 : Int32), .int (-1 : Int32)] rfl rfl rfl rfl (jv_cal rfl (jv_H_at (jv_rwK hW 196 12 24 (by decide))) rfl rfl) rfl H18 rfl rfl Kz) ?_
    refine jv_Wp.lift (fun _ Kz => jv_Ev.steps jv_i302 3 (pc' := 46) (l' := [(3, .int (I 206 (76800 + 1))), (2, .int (vl_I bd)), (0, .ref 196), (1, .int (vl_I p))]) (st' := [.int (-1 : Int32), .int (5 : Int32), .ref 196]) rfl Kz) ?_
    obtain ⟨I19, L19, H19, E19, O19, F19⟩ := vq_drop (I := I18) (L := L18) (R := R) (n := n) (sl := sl) 5 (-1 : Int32) hW Z18 (by decide) O18
    have Z19 := vr_fl_of F19
    have D19 := vr_dec_n F19 D18
    refine jv_Wp.lift (fun _ Kz => jv_Ev.c jv_i302 (pc' := 49) (S' := []) (G1 := (jv_H K I19 L19 R)) jv_i301 [.ref 196, .int (5 : Int32), .int (-1 : Int32)] rfl rfl rfl rfl (jv_cal rfl (jv_H_at (jv_rwK hW 196 12 24 (by decide))) rfl rfl) rfl H19 rfl rfl Kz) ?_
    refine jv_Wp.lift (fun _ Kz => jv_Ev.steps jv_i302 1 (pc' := 50) (l' := [(3, .int (I 206 (76800 + 1))), (2, .int (vl_I bd)), (0, .ref 196), (1, .int (vl_I p))]) (st' := [.ref 196]) rfl Kz) ?_
    refine jv_Wp.lift (fun _ Kz => jv_Ev.m jv_i302 (pc' := 53) (st' := [.ref 203]) (G' := (jv_H K I19 L19 R)) rfl rfl (jv_m_getR (jv_rwK hW 196 12 24 (by decide)) rfl rfl (jv_rwR hW 196 11 203 (by decide))) Kz) ?_
    refine jv_Wp.lift (fun _ Kz => jv_Ev.steps jv_i302 2 (pc' := 57) (l' := [(3, .int (I 206 (76800 + 1))), (2, .int (vl_I bd)), (0, .ref 196), (1, .int (vl_I p))]) (st' := [.int (0 : Int32), .int (1024 : Int32), .ref 203]) rfl Kz) ?_
    refine jv_Wp.lift (fun _ Kz => jv_Ev.m jv_i302 (pc' := 58) (st' := []) (G' := (jv_H K (jv_u I19 203 1024 (0 : Int32)) L19 R)) rfl rfl (jv_m_iast (jv_rwK hW 203 102 1028 (by decide)) (by decide)) Kz) ?_
    refine jv_Wp.lift (fun _ Kz => jv_Ev.steps jv_i302 1 (pc' := 59) (l' := [(3, .int (I 206 (76800 + 1))), (2, .int (vl_I bd)), (0, .ref 196), (1, .int (vl_I p))]) (st' := [.ref 196]) rfl Kz) ?_
    refine jv_Wp.lift (fun _ Kz => jv_Ev.m jv_i302 (pc' := 62) (st' := [.int (Int32.ofInt f.i)]) (G' := (jv_H K (jv_u I19 203 1024 (0 : Int32)) L19 R)) rfl rfl (jv_m_getI (jv_rwK hW 196 12 24 (by decide)) rfl rfl ((jv_u_j _ _ _ _ (by decide)).trans (vr_dJ D19))) Kz) ?_
    refine jv_Wp.lift (fun _ Kz => jv_Ev.steps jv_i302 1 (pc' := 63) (l' := [(3, .int (I 206 (76800 + 1))), (2, .int (vl_I bd)), (0, .ref 196), (1, .int (vl_I p))]) (st' := [.int (1 : Int32), .int (Int32.ofInt f.i)]) rfl Kz) ?_
    refine jv_Wp.cnd jv_i302 (pt := 73) (pe := 66) (p := (¬ (Int32.ofInt f.i) = (1 : Int32))) (q := (¬ (Int32.ofInt f.i) = (1 : Int32))) rfl jv_bc_ne rfl rfl Iff.rfl (fun _ => ?_) (fun hz => absurd hn1 hz)
    refine jv_Wp.lift (fun _ Kz => jv_Ev.steps jv_i302 4 (pc' := 80) (l' := [(4, .int (1 : Int32)), (3, .int (I 206 (76800 + 1))), (2, .int (vl_I bd)), (0, .ref 196), (1, .int (vl_I p))]) (st' := [.int (6 : Int32), .int (1 : Int32)]) rfl Kz) ?_
    refine jv_Wp.lift (fun _ Kz => jv_Ev.br jv_i302 (pc' := 83) (st' := []) rfl (by rfl) Kz) ?_
    refine jv_Wp.lift (fun _ Kz => jv_Ev.steps jv_i302 5 (pc' := 91) (l' := [(4, .int (1 : Int32)), (3, .int (I 206 (76800 + 1))), (2, .int (vl_I bd)), (0, .ref 196), (1, .int (vl_I p))]) (st' := [.int (0 : Int32), .int (0 : Int32), .int (1 : Int32), .int (1024 : Int32), .ref 196]) rfl Kz) ?_
    obtain ⟨I20, hI20⟩ : ∃ J, J = (jv_u I19 203 1024 (0 : Int32)) := ⟨_, rfl⟩
    rw [← hI20]
    have u20 := vr_known (I := I19) (L := L19) (0 : Int32) 1024
    rw [← hI20] at u20
    have O20 := u20.2.1 O19
    have F20 := u20.2.2 Z19
    have Z20 := vr_fl_of F20
    have D20 := vr_dec_fr F20 (fun j hj z => by omega) D19
    obtain ⟨I21, L21, H21, A21, B21, C21, F21, eL21⟩ := vq_setx (I := I20) (L := L19) (R := R) (n := n) (sl := sl) 1024 1 (0 : Int32) (0 : Int32) hW Z20 (by decide)
    have Z21 := vr_fl_of F21
    have D21 := vr_dec_n F21 D20
    have U21 := vr_upA (I := I20) (L := L19) (k := 1024) (r := 1) (t := vt_none 0) (by decide) ((vr_T_set A21 B21 C21).trans rfl) (by unfold vr_ok; rw [A21, B21, C21]; exact Or.inr (Or.inl ⟨rfl, by decide, rfl, rfl⟩)) F21 (fun n hn e q => e (by omega)) O20
    have O21 := U21.2
    refine jv_Wp.lift (fun _ Kz => jv_Ev.c jv_i302 (pc' := 94) (S' := []) (G1 := (jv_H K I21 L21 R)) jv_i272 [.ref 196, .int (1024 : Int32), .int (1 : Int32), .int (0 : Int32), .int (0 : Int32)] rfl rfl rfl rfl (jv_cal rfl (jv_H_at (jv_rwK hW 196 12 24 (by decide))) rfl rfl) rfl H21 rfl rfl Kz) ?_
    refine jv_Wp.lift (fun _ Kz => jv_Ev.steps jv_i302 4 (pc' := 80) (l' := [(4, .int (2 : Int32)), (3, .int (I 206 (76800 + 1))), (2, .int (vl_I bd)), (0, .ref 196), (1, .int (vl_I p))]) (st' := [.int (6 : Int32), .int (2 : Int32)]) rfl Kz) ?_
    refine jv_Wp.lift (fun _ Kz => jv_Ev.br jv_i302 (pc' := 83) (st' := []) rfl (by rfl) Kz) ?_
    refine jv_Wp.lift (fun _ Kz => jv_Ev.steps jv_i302 5 (pc' := 91) (l' := [(4, .int (2 : Int32)), (3, .int (I 206 (76800 + 1))), (2, .int (vl_I bd)), (0, .ref 196), (1, .int (vl_I p))]) (st' := [.int (0 : Int32), .int (0 : Int32), .int (2 : Int32), .int (1024 : Int32), .ref 196]) rfl Kz) ?_
    obtain ⟨I22, L22, H22, A22, B22, C22, F22, eL22⟩ := vq_setx (I := I21) (L := L21) (R := R) (n := n) (sl := sl) 1024 2 (0 : Int32) (0 : Int32) hW Z21 (by decide)
    have Z22 := vr_fl_of F22
    have D22 := vr_dec_n F22 D21
    have U22 := vr_upA (I := I21) (L := L21) (k := 1024) (r := 2) (t := vt_none 0) (by decide) ((vr_T_set A22 B22 C22).trans rfl) (by unfold vr_ok; rw [A22, B22, C22]; exact Or.inr (Or.inl ⟨rfl, by decide, rfl, rfl⟩)) F22 (fun n hn e q => e (by omega)) O21
    have O22 := U22.2
    refine jv_Wp.lift (fun _ Kz => jv_Ev.c jv_i302 (pc' := 94) (S' := []) (G1 := (jv_H K I22 L22 R)) jv_i272 [.ref 196, .int (1024 : Int32), .int (2 : Int32), .int (0 : Int32), .int (0 : Int32)] rfl rfl rfl rfl (jv_cal rfl (jv_H_at (jv_rwK hW 196 12 24 (by decide))) rfl rfl) rfl H22 rfl rfl Kz) ?_
    refine jv_Wp.lift (fun _ Kz => jv_Ev.steps jv_i302 4 (pc' := 80) (l' := [(4, .int (3 : Int32)), (3, .int (I 206 (76800 + 1))), (2, .int (vl_I bd)), (0, .ref 196), (1, .int (vl_I p))]) (st' := [.int (6 : Int32), .int (3 : Int32)]) rfl Kz) ?_
    refine jv_Wp.lift (fun _ Kz => jv_Ev.br jv_i302 (pc' := 83) (st' := []) rfl (by rfl) Kz) ?_
    refine jv_Wp.lift (fun _ Kz => jv_Ev.steps jv_i302 5 (pc' := 91) (l' := [(4, .int (3 : Int32)), (3, .int (I 206 (76800 + 1))), (2, .int (vl_I bd)), (0, .ref 196), (1, .int (vl_I p))]) (st' := [.int (0 : Int32), .int (0 : Int32), .int (3 : Int32), .int (1024 : Int32), .ref 196]) rfl Kz) ?_
    obtain ⟨I23, L23, H23, A23, B23, C23, F23, eL23⟩ := vq_setx (I := I22) (L := L22) (R := R) (n := n) (sl := sl) 1024 3 (0 : Int32) (0 : Int32) hW Z22 (by decide)
    have Z23 := vr_fl_of F23
    have D23 := vr_dec_n F23 D22
    have U23 := vr_upA (I := I22) (L := L22) (k := 1024) (r := 3) (t := vt_none 0) (by decide) ((vr_T_set A23 B23 C23).trans rfl) (by unfold vr_ok; rw [A23, B23, C23]; exact Or.inr (Or.inl ⟨rfl, by decide, rfl, rfl⟩)) F23 (fun n hn e q => e (by omega)) O22
    have O23 := U23.2
    refine jv_Wp.lift (fun _ Kz => jv_Ev.c jv_i302 (pc' := 94) (S' := []) (G1 := (jv_H K I23 L23 R)) jv_i272 [.ref 196, .int (1024 : Int32), .int (3 : Int32), .int (0 : Int32), .int (0 : Int32)] rfl rfl rfl rfl (jv_cal rfl (jv_H_at (jv_rwK hW 196 12 24 (by decide))) rfl rfl) rfl H23 rfl rfl Kz) ?_
    refine jv_Wp.lift (fun _ Kz => jv_Ev.steps jv_i302 4 (pc' := 80) (l' := [(4, .int (4 : Int32)), (3, .int (I 206 (76800 + 1))), (2, .int (vl_I bd)), (0, .ref 196), (1, .int (vl_I p))]) (st' := [.int (6 : Int32), .int (4 : Int32)]) rfl Kz) ?_
    refine jv_Wp.lift (fun _ Kz => jv_Ev.br jv_i302 (pc' := 83) (st' := []) rfl (by rfl) Kz) ?_
    refine jv_Wp.lift (fun _ Kz => jv_Ev.steps jv_i302 5 (pc' := 91) (l' := [(4, .int (4 : Int32)), (3, .int (I 206 (76800 + 1))), (2, .int (vl_I bd)), (0, .ref 196), (1, .int (vl_I p))]) (st' := [.int (0 : Int32), .int (0 : Int32), .int (4 : Int32), .int (1024 : Int32), .ref 196]) rfl Kz) ?_
    obtain ⟨I24, L24, H24, A24, B24, C24, F24, eL24⟩ := vq_setx (I := I23) (L := L23) (R := R) (n := n) (sl := sl) 1024 4 (0 : Int32) (0 : Int32) hW Z23 (by decide)
    have Z24 := vr_fl_of F24
    have D24 := vr_dec_n F24 D23
    have U24 := vr_upA (I := I23) (L := L23) (k := 1024) (r := 4) (t := vt_none 0) (by decide) ((vr_T_set A24 B24 C24).trans rfl) (by unfold vr_ok; rw [A24, B24, C24]; exact Or.inr (Or.inl ⟨rfl, by decide, rfl, rfl⟩)) F24 (fun n hn e q => e (by omega)) O23
    have O24 := U24.2
    refine jv_Wp.lift (fun _ Kz => jv_Ev.c jv_i302 (pc' := 94) (S' := []) (G1 := (jv_H K I24 L24 R)) jv_i272 [.ref 196, .int (1024 : Int32), .int (4 : Int32), .int (0 : Int32), .int (0 : Int32)] rfl rfl rfl rfl (jv_cal rfl (jv_H_at (jv_rwK hW 196 12 24 (by decide))) rfl rfl) rfl H24 rfl rfl Kz) ?_
    refine jv_Wp.lift (fun _ Kz => jv_Ev.steps jv_i302 4 (pc' := 80) (l' := [(4, .int (5 : Int32)), (3, .int (I 206 (76800 + 1))), (2, .int (vl_I bd)), (0, .ref 196), (1, .int (vl_I p))]) (st' := [.int (6 : Int32), .int (5 : Int32)]) rfl Kz) ?_
    refine jv_Wp.lift (fun _ Kz => jv_Ev.br jv_i302 (pc' := 83) (st' := []) rfl (by rfl) Kz) ?_
    refine jv_Wp.lift (fun _ Kz => jv_Ev.steps jv_i302 5 (pc' := 91) (l' := [(4, .int (5 : Int32)), (3, .int (I 206 (76800 + 1))), (2, .int (vl_I bd)), (0, .ref 196), (1, .int (vl_I p))]) (st' := [.int (0 : Int32), .int (0 : Int32), .int (5 : Int32), .int (1024 : Int32), .ref 196]) rfl Kz) ?_
    obtain ⟨I25, L25, H25, A25, B25, C25, F25, eL25⟩ := vq_setx (I := I24) (L := L24) (R := R) (n := n) (sl := sl) 1024 5 (0 : Int32) (0 : Int32) hW Z24 (by decide)
    have Z25 := vr_fl_of F25
    have D25 := vr_dec_n F25 D24
    have U25 := vr_upA (I := I24) (L := L24) (k := 1024) (r := 5) (t := vt_none 0) (by decide) ((vr_T_set A25 B25 C25).trans rfl) (by unfold vr_ok; rw [A25, B25, C25]; exact Or.inr (Or.inl ⟨rfl, by decide, rfl, rfl⟩)) F25 (fun n hn e q => e (by omega)) O24
    have O25 := U25.2
    refine jv_Wp.lift (fun _ Kz => jv_Ev.c jv_i302 (pc' := 94) (S' := []) (G1 := (jv_H K I25 L25 R)) jv_i272 [.ref 196, .int (1024 : Int32), .int (5 : Int32), .int (0 : Int32), .int (0 : Int32)] rfl rfl rfl rfl (jv_cal rfl (jv_H_at (jv_rwK hW 196 12 24 (by decide))) rfl rfl) rfl H25 rfl rfl Kz) ?_
    refine jv_Wp.lift (fun _ Kz => jv_Ev.steps jv_i302 4 (pc' := 80) (l' := [(4, .int (6 : Int32)), (3, .int (I 206 (76800 + 1))), (2, .int (vl_I bd)), (0, .ref 196), (1, .int (vl_I p))]) (st' := [.int (6 : Int32), .int (6 : Int32)]) rfl Kz) ?_
    refine jv_Wp.lift (fun _ Kz => jv_Ev.br jv_i302 (pc' := 100) (st' := []) rfl (by rfl) Kz) ?_
    refine jv_Wp.lift (fun _ Kz => jv_Ev.steps jv_i302 1 (pc' := 101) (l' := [(4, .int (6 : Int32)), (3, .int (I 206 (76800 + 1))), (2, .int (vl_I bd)), (0, .ref 196), (1, .int (vl_I p))]) (st' := [.ref 196]) rfl Kz) ?_
    refine jv_Wp.lift (fun _ Kz => jv_Ev.m jv_i302 (pc' := 104) (st' := [.int (Int32.ofInt f.i)]) (G' := (jv_H K I25 L25 R)) rfl rfl (jv_m_getI (jv_rwK hW 196 12 24 (by decide)) rfl rfl (vr_dJ D25)) Kz) ?_
    refine jv_Wp.lift (fun _ Kz => jv_Ev.steps jv_i302 1 (pc' := 105) (l' := [(4, .int (6 : Int32)), (3, .int (I 206 (76800 + 1))), (2, .int (vl_I bd)), (0, .ref 196), (1, .int (vl_I p))]) (st' := [.int (1 : Int32), .int (Int32.ofInt f.i)]) rfl Kz) ?_
    refine jv_Wp.cnd jv_i302 (pt := 135) (pe := 108) (p := (¬ (Int32.ofInt f.i) = (1 : Int32))) (q := (¬ (Int32.ofInt f.i) = (1 : Int32))) rfl jv_bc_ne rfl rfl Iff.rfl (fun _ => ?_) (fun hz => absurd hn1 hz)
    refine jv_Wp.lift (fun _ Kz => jv_Ev.steps jv_i302 3 (pc' := 139) (l' := [(4, .int (6 : Int32)), (3, .int (I 206 (76800 + 1))), (2, .int (vl_I bd)), (0, .ref 196), (1, .int (vl_I p))]) (st' := [.int (8 : Int32), .int (0 : Int32), .ref 196]) rfl Kz) ?_
    obtain ⟨I26, L26, H26, T26, O26, F26⟩ := vq_setAny8 (I := I25) (L := L25) (R := R) (n := n) (sl := sl) 0 hW Z25 (by decide)
    have U26 := vr_upA (I := I25) (L := L25) (k := 1024) (r := 0) (t := vt_num vb_any) (by decide) (T26.trans (congrArg vt_num vx_anyz8)) O26 F26 (fun n hn e q => e (by omega)) O25
    refine jv_Wp.lift (fun _ Kz => jv_Ev.c jv_i302 (pc' := 142) (S' := []) (G1 := (jv_H K I26 L26 R)) jv_i274 [.ref 196, .int (0 : Int32), .int (8 : Int32)] rfl rfl rfl rfl (jv_cal rfl (jv_H_at (jv_rwK hW 196 12 24 (by decide))) rfl rfl) rfl H26 rfl rfl Kz) ?_
    refine jv_Wp.lift (fun _ Kz => jv_Ev.steps jv_i302 1 (pc' := 143) (l' := [(4, .int (6 : Int32)), (3, .int (I 206 (76800 + 1))), (2, .int (vl_I bd)), (0, .ref 196), (1, .int (vl_I p))]) (st' := [.int (0 : Int32)]) rfl Kz) ?_
    refine jv_Wp.of (jv_Ev.ret jv_i302 rfl rfl) ?_
    rw [hQ]
    have b0 : vx_allowed M (vr_A I L 1024) f.i = 0 := (hbd ()).trans (Nat.le_zero.mp ((vl_I_le (b := 0) (by omega) (by decide)).mp h1))
    have eB : vr_A I20 L19 1024 = ((vx_drop (vr_A I L 1024) (fun t => decide (t.sort = 4) || decide (t.sort = 5))).1, 0) := by rw [u20.1, E19, E18, vr_drA_45]; rfl
    have e5 : vr_A I25 L25 1024 = vx_clear (vr_A I20 L19 1024) := by rw [U25.1, U24.1, U23.1, U22.1, U21.1, vx_clear_eq]
    rw [eB] at e5
    have Uz := U26
    rw [e5] at Uz
    have e : vx_call M f.i p (vr_A I L 1024) = (0, (vt_up (vx_clear ((vx_drop (vr_A I L 1024) (fun t => decide (t.sort = 4) || decide (t.sort = 5))).1, 0)) 0 (vt_num vb_any))) := by rw [hiv] at b0 ⊢; exact vx_cl6 b0
    exact ⟨_, _, by rw [e]; rfl, fun _ => by rw [e]; exact Uz, (vr_fr_trans (vr_fr_mono F18 (Q := (fun x => 76800 ≤ x ∧ x < 76875)) (E' := (fun q f => q = 203 ∧ f = 1024)) (fun x z => by unfold vr_th at z; omega) (fun _ _ z => z.elim)) (vr_fr_trans (vr_fr_mono F19 (Q := (fun x => 76800 ≤ x ∧ x < 76875)) (E' := (fun q f => q = 203 ∧ f = 1024)) (fun x z => by unfold vr_th at z; omega) (fun _ _ z => z.elim)) (vr_fr_trans (vr_fr_mono F20 (Q := (fun x => 76800 ≤ x ∧ x < 76875)) (E' := (fun q f => q = 203 ∧ f = 1024)) (fun x z => z.elim) (fun _ _ z => z)) (vr_fr_trans (vr_fr_mono F21 (Q := (fun x => 76800 ≤ x ∧ x < 76875)) (E' := (fun q f => q = 203 ∧ f = 1024)) (fun x z => by omega) (fun _ _ z => z.elim)) (vr_fr_trans (vr_fr_mono F22 (Q := (fun x => 76800 ≤ x ∧ x < 76875)) (E' := (fun q f => q = 203 ∧ f = 1024)) (fun x z => by omega) (fun _ _ z => z.elim)) (vr_fr_trans (vr_fr_mono F23 (Q := (fun x => 76800 ≤ x ∧ x < 76875)) (E' := (fun q f => q = 203 ∧ f = 1024)) (fun x z => by omega) (fun _ _ z => z.elim)) (vr_fr_trans (vr_fr_mono F24 (Q := (fun x => 76800 ≤ x ∧ x < 76875)) (E' := (fun q f => q = 203 ∧ f = 1024)) (fun x z => by omega) (fun _ _ z => z.elim)) (vr_fr_trans (vr_fr_mono F25 (Q := (fun x => 76800 ≤ x ∧ x < 76875)) (E' := (fun q f => q = 203 ∧ f = 1024)) (fun x z => by omega) (fun _ _ z => z.elim)) (vr_fr_mono F26 (Q := (fun x => 76800 ≤ x ∧ x < 76875)) (E' := (fun q f => q = 203 ∧ f = 1024)) (fun x z => by omega) (fun _ _ z => z.elim))))))))))⟩
  · refine jv_Wp.lift (fun _ Kz => jv_Ev.steps jv_i302 1 (pc' := 14) (l' := [(2, .int (vl_I bd)), (0, .ref 196), (1, .int (vl_I p))]) (st' := [.int (vl_I bd)]) rfl Kz) ?_
    refine jv_Wp.of (jv_Ev.ret jv_i302 rfl rfl) ?_
    rw [hQ]
    have b0 : ¬ bd = 0 := fun z => h1 ((vl_I_le (b := 0) (by omega) (by decide)).mpr (Nat.le_of_eq z))
    have e : vx_call M f.i p (vr_A I L 1024) = (bd, (vr_A I L 1024)) := by have q := vx_cl0 (M := M) (A := (vr_A I L 1024)) (c := f.i) (p := p) (by rw [hbd ()]; exact b0); rw [hbd ()] at q; exact q
    exact ⟨_, _, by rw [e], fun z => by rw [e] at z; exact absurd (show bd = 0 from z) b0, vr_fr_refl hf⟩