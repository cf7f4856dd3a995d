/-! part c28: what a jump tells of MAYBE and of the packet (gen/tc28.py) -/
theorem vr_fr_Ak {P : Nat → Prop} {E : Nat → Nat → Prop} {I I1 : Nat → Nat → Int32} {L L1 : Nat → Nat → Int64} (h : vr_fr P E I L I1 L1) {k : Nat} (hP : ∀ n, n < 75 → ¬ P (75 * k + n)) (hE : ¬ E 203 k) : vr_A I1 L1 k = vr_A I L k := by
  refine Prod.ext (funext (fun n => ?_)) (congrArg Int32.toInt (h.2.1 203 k (fun z => by omega) (by decide) (fun z => hE z.2)))
  show (if n < 75 then _ else _) = if n < 75 then _ else _
  by_cases hn : n < 75
  · rw [if_pos hn, if_pos hn]; exact vr_fr_T h (hP n hn)
  · rw [if_neg hn, if_neg hn]
def vr_lrn (A : vt_A) (v : vb_S) (b : Bool) : vt_A := if v.low ≠ v.high ∨ v.low.toInt < 0 then A else vx_know A (v.low.toInt + (if b = true then 1 else 0))
def vr_set8 (place : Int) (z : Bool) (t : vt_T) : vt_T := if t.sort = 8 ∧ t.org = place then (if (!z) = true then vt_item t.det (vb_just 0) else vt_num (vb_just 0)) else t
theorem vr_set8_A (A : vt_A) (place : Int) (z : Bool) : (fun n => if n < 75 then vr_set8 place z (A.1 n) else A.1 n, A.2) = vx_settle A place (!z) := by
  refine Prod.ext (funext (fun n => ?_)) rfl
  show (if n < 75 then vr_set8 place z (A.1 n) else A.1 n) = if n < 75 ∧ (A.1 n).sort = 8 ∧ (A.1 n).org = place then _ else _
  by_cases hn : n < 75
  · rw [if_pos hn]
    unfold vr_set8
    by_cases c : (A.1 n).sort = 8 ∧ (A.1 n).org = place
    · exact (if_pos c).trans (if_pos (show n < 75 ∧ (A.1 n).sort = 8 ∧ (A.1 n).org = place from ⟨hn, c⟩)).symm
    · exact (if_neg c).trans (if_neg (show ¬ (n < 75 ∧ (A.1 n).sort = 8 ∧ (A.1 n).org = place) from fun z => c z.2)).symm
  · rw [if_neg hn, if_neg (fun z => hn z.1)]
theorem vx_ms2t (v : vb_S) (A B : vt_A) : vx_ms 2 true v A B = (vr_lrn A v false, B) := by
  unfold vx_ms vr_lrn
  by_cases c : v.low ≠ v.high ∨ v.low.toInt < 0
  · rw [if_pos c, if_pos c]
  · rw [if_neg c, if_neg c]
    show (vx_know A v.low.toInt, B) = _
    rw [show v.low.toInt + (if (false = true) then (1 : Int) else 0) = v.low.toInt + 0 from rfl, Int.add_zero]
theorem vx_ms2f (v : vb_S) (A B : vt_A) : vx_ms 2 false v A B = (A, vr_lrn B v true) := by
  unfold vx_ms vr_lrn
  by_cases c : v.low ≠ v.high ∨ v.low.toInt < 0
  · rw [if_pos c, if_pos c]
  · rw [if_neg c, if_neg c]
    show (A, vx_know B (v.low.toInt + 1)) = _
    rfl
theorem vx_ms3t (v : vb_S) (A B : vt_A) : vx_ms 3 true v A B = (vr_lrn A v true, B) := by
  unfold vx_ms vr_lrn
  by_cases c : v.low ≠ v.high ∨ v.low.toInt < 0
  · rw [if_pos c, if_pos c]
  · rw [if_neg c, if_neg c]
    show (vx_know A (v.low.toInt + 1), B) = _
    rfl
theorem vx_ms3f (v : vb_S) (A B : vt_A) : vx_ms 3 false v A B = (A, vr_lrn B v false) := by
  unfold vx_ms vr_lrn
  by_cases c : v.low ≠ v.high ∨ v.low.toInt < 0
  · rw [if_pos c, if_pos c]
  · rw [if_neg c, if_neg c]
    show (A, vx_know B v.low.toInt) = _
    rw [show v.low.toInt + (if (false = true) then (1 : Int) else 0) = v.low.toInt + 0 from rfl, Int.add_zero]
theorem vx_ms10t (v : vb_S) (A B : vt_A) : vx_ms 10 true v A B = (A, vr_lrn B v true) := by
  unfold vx_ms vr_lrn
  by_cases c : v.low ≠ v.high ∨ v.low.toInt < 0
  · rw [if_pos c, if_pos c]
  · rw [if_neg c, if_neg c]
    show (A, vx_know B (v.low.toInt + 1)) = _
    rfl
theorem vx_ms10f (v : vb_S) (A B : vt_A) : vx_ms 10 false v A B = (vr_lrn A v false, B) := by
  unfold vx_ms vr_lrn
  by_cases c : v.low ≠ v.high ∨ v.low.toInt < 0
  · rw [if_pos c, if_pos c]
  · rw [if_neg c, if_neg c]
    show (vx_know A v.low.toInt, B) = _
    rw [show v.low.toInt + (if (false = true) then (1 : Int) else 0) = v.low.toInt + 0 from rfl, Int.add_zero]
theorem vx_ms11t (v : vb_S) (A B : vt_A) : vx_ms 11 true v A B = (A, vr_lrn B v false) := by
  unfold vx_ms vr_lrn
  by_cases c : v.low ≠ v.high ∨ v.low.toInt < 0
  · rw [if_pos c, if_pos c]
  · rw [if_neg c, if_neg c]
    show (A, vx_know B v.low.toInt) = _
    rw [show v.low.toInt + (if (false = true) then (1 : Int) else 0) = v.low.toInt + 0 from rfl, Int.add_zero]
theorem vx_ms11f (v : vb_S) (A B : vt_A) : vx_ms 11 false v A B = (vr_lrn A v true, B) := by
  unfold vx_ms vr_lrn
  by_cases c : v.low ≠ v.high ∨ v.low.toInt < 0
  · rw [if_pos c, if_pos c]
  · rw [if_neg c, if_neg c]
    show (vx_know A (v.low.toInt + 1), B) = _
    rfl
theorem jv_i306 : jv_I 306 5 none 2 45 jv_c306 := ⟨rfl, rfl, rfl, rfl, rfl⟩
theorem vq_settle {K : Nat → Option (Nat × Nat)} {I : Nat → Nat → Int32} {L : Nat → Nat → Int64} {R : Nat → Nat → Value} (f : vf_F) (j : Nat) (z : Bool) (hW : jv_rW K R) (hf : vr_fl I) (D : vr_dec I f) (hd11 : f.d < 11) (hj28 : j < 1028) (hZ6 : vb_toS (vr_S L 6) = vb_just 0) (oj : vr_okA I j) {n sl : Nat} : ∃ I1 L1, jv_Ms 306 [.ref 196, .int (vl_I j), .int (vr_b z)] (jv_H K I L R) n sl (none, jv_H K I1 L1 R, n, sl) ∧ vr_A I1 L1 j = vx_settle (vr_A I L j) (I 207 (76800 + f.d)).toInt (!z) ∧ vr_okA I1 j ∧ vr_fr (vr_th j) noE I L I1 L1 := by
  obtain ⟨Q, hQ⟩ : ∃ Q : jv_R → Prop, Q = fun X => ∃ I1 L1, X = (none, jv_H K I1 L1 R, n, sl) ∧ vr_A I1 L1 j = vx_settle (vr_A I L j) (I 207 (76800 + f.d)).toInt (!z) ∧ vr_okA I1 j ∧ vr_fr (vr_th j) noE I L I1 L1 := ⟨_, rfl⟩
  suffices h : jv_Wp 306 0 [(0, .ref 196), (1, .int (vl_I j)), (2, .int (vr_b z))] [] (jv_H K I L R) n sl Q by
    rw [hQ] at h
    obtain ⟨X, h, I1, L1, e, h'⟩ := h
    subst e
    exact ⟨I1, L1, h, h'⟩
  refine jv_Wp.lift (fun _ Kz => jv_Ev.steps jv_i306 1 (pc' := 1) (l' := [(0, .ref 196), (1, .int (vl_I j)), (2, .int (vr_b z))]) (st' := [.ref 196]) rfl Kz) ?_
  refine jv_Wp.lift (fun _ Kz => jv_Ev.m jv_i306 (pc' := 4) (st' := [.ref 207]) (G' := (jv_H K I L R)) rfl rfl (jv_m_getR (jv_rwK hW 196 12 24 (by decide)) rfl rfl (jv_rwR hW 196 15 207 (by decide))) Kz) ?_
  refine jv_Wp.lift (fun _ Kz => jv_Ev.steps jv_i306 2 (pc' := 8) (l' := [(0, .ref 196), (1, .int (vl_I j)), (2, .int (vr_b z))]) (st' := [.ref 196, .int (1024 : Int32), .ref 207]) rfl Kz) ?_
  refine jv_Wp.lift (fun _ Kz => jv_Ev.m jv_i306 (pc' := 11) (st' := [.int (vl_I f.d), .int (1024 : Int32), .ref 207]) (G' := (jv_H K I L R)) rfl rfl (jv_m_getI (jv_rwK hW 196 12 24 (by decide)) rfl rfl D.2.1) Kz) ?_
  refine jv_Wp.lift (fun _ Kz => jv_Ev.c jv_i306 (pc' := 14) (S' := [.int (vl_I (76800 + f.d)), .ref 207]) jv_i253 [.int (1024 : Int32), .int (vl_I f.d)] rfl rfl rfl rfl rfl rfl (vq_thing 1024 f.d) rfl rfl Kz) ?_
  refine jv_Wp.lift (fun _ Kz => jv_Ev.m jv_i306 (pc' := 15) (st' := [.int (I 207 (76800 + f.d))]) (G' := (jv_H K I L R)) rfl rfl (jv_m_ialdv (jv_rwK hW 207 102 77100 (by decide)) rfl (vl_I_ix (by omega) (by decide)) rfl ((congrArg (I 207) (vl_I_nat (by omega))).trans rfl)) Kz) ?_
  refine jv_Wp.lift (fun _ Kz => jv_Ev.steps jv_i306 3 (pc' := 19) (l' := [(4, .int (0 : Int32)), (3, .int (I 207 (76800 + f.d))), (0, .ref 196), (1, .int (vl_I j)), (2, .int (vr_b z))]) (st' := []) rfl Kz) ?_
  refine jv_Wp.loc (l := [(0, .ref 196), (1, .int (vl_I j)), (2, .int (vr_b z)), (3, .int (I 207 (76800 + f.d))), (4, .int (0 : Int32))]) ⟨List.forall_mem_cons.mpr ⟨.tail _ (.tail _ (.head _)), List.forall_mem_cons.mpr ⟨.tail _ (.tail _ (.tail _ (.head _))), List.forall_mem_cons.mpr ⟨.tail _ (.tail _ (.tail _ (.tail _ (.head _)))), List.forall_mem_cons.mpr ⟨.tail _ (.head _), List.forall_mem_cons.mpr ⟨.head _, fun _ h => absurd h List.not_mem_nil⟩⟩⟩⟩⟩, by show List.Nodup [4, 3, 0, 1, 2]; decide⟩ ?_
  rw [show (0 : Int32) = vl_I 0 from rfl]
  refine vr_loop0 (j := j) (I0 := I) (L0 := L) (f := fun _ t => vr_set8 (I 207 (76800 + f.d)).toInt z t) (P := fun i Iz Lz => jv_Wp 306 19 [(0, .ref 196), (1, .int (vl_I j)), (2, .int (vr_b z)), (3, .int (I 207 (76800 + f.d))), (4, .int (vl_I i))] [] (jv_H K Iz Lz R) n sl Q) hf (fun i hi Ia La fr1 ta okA k0 => ?_) (fun Ia La ht fr1 => ?_)
  · have Za := vr_fl_of fr1
    refine jv_Wp.lift (fun _ Kz => jv_Ev.steps jv_i306 2 (pc' := 23) (l' := [(0, .ref 196), (1, .int (vl_I j)), (2, .int (vr_b z)), (3, .int (I 207 (76800 + f.d))), (4, .int (vl_I i))]) (st' := [.int (75 : Int32), .int (vl_I i)]) rfl Kz) ?_
    refine jv_Wp.cnd jv_i306 (pt := 114) (pe := 26) (p := ((75 : Int32) ≤ (vl_I i))) (q := ((75 : Int32) ≤ (vl_I i))) rfl jv_bc_ge rfl rfl Iff.rfl (fun h1 => ?_) (fun h1 => ?_)
    · exact absurd ((vl_I_le (a := 75) (by decide) (by omega)).mp h1) (by omega)
    · refine jv_Wp.lift (fun _ Kz => jv_Ev.steps jv_i306 1 (pc' := 27) (l' := [(0, .ref 196), (1, .int (vl_I j)), (2, .int (vr_b z)), (3, .int (I 207 (76800 + f.d))), (4, .int (vl_I i))]) (st' := [.ref 196]) rfl Kz) ?_
      refine jv_Wp.lift (fun _ Kz => jv_Ev.m jv_i306 (pc' := 30) (st' := [.ref 205]) (G' := (jv_H K Ia La R)) rfl rfl (jv_m_getR (jv_rwK hW 196 12 24 (by decide)) rfl rfl (jv_rwR hW 196 13 205 (by decide))) Kz) ?_
      refine jv_Wp.lift (fun _ Kz => jv_Ev.steps jv_i306 2 (pc' := 33) (l' := [(0, .ref 196), (1, .int (vl_I j)), (2, .int (vr_b z)), (3, .int (I 207 (76800 + f.d))), (4, .int (vl_I i))]) (st' := [.int (vl_I i), .int (vl_I j), .ref 205]) rfl Kz) ?_
      refine jv_Wp.lift (fun _ Kz => jv_Ev.c jv_i306 (pc' := 36) (S' := [.int (vl_I (75 * j + i)), .ref 205]) jv_i253 [.int (vl_I j), .int (vl_I i)] rfl rfl rfl rfl rfl rfl (vq_thing j i) rfl rfl Kz) ?_
      refine jv_Wp.lift (fun _ Kz => jv_Ev.m jv_i306 (pc' := 37) (st' := [.int (Ia 205 (75 * j + i))]) (G' := (jv_H K Ia La R)) rfl rfl (jv_m_ialdv (jv_rwK hW 205 102 77100 (by decide)) rfl (vl_I_ix (by omega) (by decide)) rfl ((congrArg (Ia 205) (vl_I_nat (by omega))).trans rfl)) Kz) ?_
      refine jv_Wp.lift (fun _ Kz => jv_Ev.steps jv_i306 1 (pc' := 39) (l' := [(0, .ref 196), (1, .int (vl_I j)), (2, .int (vr_b z)), (3, .int (I 207 (76800 + f.d))), (4, .int (vl_I i))]) (st' := [.int (8 : Int32), .int (Ia 205 (75 * j + i))]) rfl Kz) ?_
      refine jv_Wp.cnd jv_i306 (pt := 108) (pe := 42) (p := (¬ (Ia 205 (75 * j + i)) = (8 : Int32))) (q := (¬ (Ia 205 (75 * j + i)) = (8 : Int32))) rfl jv_bc_ne rfl rfl Iff.rfl (fun h2 => ?_) (fun h2 => ?_)
      · refine jv_Wp.lift (fun _ Kz => jv_Ev.steps jv_i306 2 (pc' := 19) (l' := [(4, .int ((vl_I i) + Int32.ofInt 1)), (0, .ref 196), (1, .int (vl_I j)), (2, .int (vr_b z)), (3, .int (I 207 (76800 + f.d)))]) (st' := []) rfl Kz) ?_
        refine jv_Wp.loc (l := [(0, .ref 196), (1, .int (vl_I j)), (2, .int (vr_b z)), (3, .int (I 207 (76800 + f.d))), (4, .int ((vl_I i) + Int32.ofInt 1))]) ⟨List.forall_mem_cons.mpr ⟨.tail _ (.head _), List.forall_mem_cons.mpr ⟨.tail _ (.tail _ (.head _)), List.forall_mem_cons.mpr ⟨.tail _ (.tail _ (.tail _ (.head _))), List.forall_mem_cons.mpr ⟨.tail _ (.tail _ (.tail _ (.tail _ (.head _)))), List.forall_mem_cons.mpr ⟨.head _, fun _ h => absurd h List.not_mem_nil⟩⟩⟩⟩⟩, by show List.Nodup [4, 0, 1, 2, 3]; decide⟩ ?_
        have oki := okA oj
        have so : (vr_T I L (75 * j + i)).sort = 8 ↔ Ia 205 (75 * j + i) = 8 := by rw [← ta]; exact vr_is 8 (by decide) oki
        have og : (vr_T I L (75 * j + i)).org = (Ia 207 (75 * j + i)).toInt := by rw [← ta]; rfl
        have od : (vr_T I L (75 * j + i)).det = (Ia 206 (75 * j + i)).toInt := by rw [← ta]; rfl
        rw [show vl_I i + Int32.ofInt 1 = vl_I (i + 1) from vl_I_add i 1]
        exact k0 Ia La (ta.trans (if_neg (fun z => h2 (so.mp z.1))).symm) oki (vr_fr_refl Za)
      · refine jv_Wp.lift (fun _ Kz => jv_Ev.steps jv_i306 1 (pc' := 43) (l' := [(0, .ref 196), (1, .int (vl_I j)), (2, .int (vr_b z)), (3, .int (I 207 (76800 + f.d))), (4, .int (vl_I i))]) (st' := [.ref 196]) rfl Kz) ?_
        refine jv_Wp.lift (fun _ Kz => jv_Ev.m jv_i306 (pc' := 46) (st' := [.ref 207]) (G' := (jv_H K Ia La R)) rfl rfl (jv_m_getR (jv_rwK hW 196 12 24 (by decide)) rfl rfl (jv_rwR hW 196 15 207 (by decide))) Kz) ?_
        refine jv_Wp.lift (fun _ Kz => jv_Ev.steps jv_i306 2 (pc' := 49) (l' := [(0, .ref 196), (1, .int (vl_I j)), (2, .int (vr_b z)), (3, .int (I 207 (76800 + f.d))), (4, .int (vl_I i))]) (st' := [.int (vl_I i), .int (vl_I j), .ref 207]) rfl Kz) ?_
        refine jv_Wp.lift (fun _ Kz => jv_Ev.c jv_i306 (pc' := 52) (S' := [.int (vl_I (75 * j + i)), .ref 207]) jv_i253 [.int (vl_I j), .int (vl_I i)] rfl rfl rfl rfl rfl rfl (vq_thing j i) rfl rfl Kz) ?_
        refine jv_Wp.lift (fun _ Kz => jv_Ev.m jv_i306 (pc' := 53) (st' := [.int (Ia 207 (75 * j + i))]) (G' := (jv_H K Ia La R)) rfl rfl (jv_m_ialdv (jv_rwK hW 207 102 77100 (by decide)) rfl (vl_I_ix (by omega) (by decide)) rfl ((congrArg (Ia 207) (vl_I_nat (by omega))).trans rfl)) Kz) ?_
        refine jv_Wp.lift (fun _ Kz => jv_Ev.steps jv_i306 1 (pc' := 54) (l' := [(0, .ref 196), (1, .int (vl_I j)), (2, .int (vr_b z)), (3, .int (I 207 (76800 + f.d))), (4, .int (vl_I i))]) (st' := [.int (I 207 (76800 + f.d)), .int (Ia 207 (75 * j + i))]) rfl Kz) ?_
        refine jv_Wp.cnd jv_i306 (pt := 108) (pe := 57) (p := (¬ (Ia 207 (75 * j + i)) = (I 207 (76800 + f.d)))) (q := (¬ (Ia 207 (75 * j + i)) = (I 207 (76800 + f.d)))) rfl jv_bc_ne rfl rfl Iff.rfl (fun h3 => ?_) (fun h3 => ?_)
        · refine jv_Wp.lift (fun _ Kz => jv_Ev.steps jv_i306 2 (pc' := 19) (l' := [(4, .int ((vl_I i) + Int32.ofInt 1)), (0, .ref 196), (1, .int (vl_I j)), (2, .int (vr_b z)), (3, .int (I 207 (76800 + f.d)))]) (st' := []) rfl Kz) ?_
          refine jv_Wp.loc (l := [(0, .ref 196), (1, .int (vl_I j)), (2, .int (vr_b z)), (3, .int (I 207 (76800 + f.d))), (4, .int ((vl_I i) + Int32.ofInt 1))]) ⟨List.forall_mem_cons.mpr ⟨.tail _ (.head _), List.forall_mem_cons.mpr ⟨.tail _ (.tail _ (.head _)), List.forall_mem_cons.mpr ⟨.tail _ (.tail _ (.tail _ (.head _))), List.forall_mem_cons.mpr ⟨.tail _ (.tail _ (.tail _ (.tail _ (.head _)))), List.forall_mem_cons.mpr ⟨.head _, fun _ h => absurd h List.not_mem_nil⟩⟩⟩⟩⟩, by show List.Nodup [4, 0, 1, 2, 3]; decide⟩ ?_
          have oki := okA oj
          have so : (vr_T I L (75 * j + i)).sort = 8 ↔ Ia 205 (75 * j + i) = 8 := by rw [← ta]; exact vr_is 8 (by decide) oki
          have og : (vr_T I L (75 * j + i)).org = (Ia 207 (75 * j + i)).toInt := by rw [← ta]; rfl
          have od : (vr_T I L (75 * j + i)).det = (Ia 206 (75 * j + i)).toInt := by rw [← ta]; rfl
          rw [show vl_I i + Int32.ofInt 1 = vl_I (i + 1) from vl_I_add i 1]
          exact k0 Ia La (ta.trans (if_neg (fun z => h3 (Int32.toInt_inj.mp (og.symm.trans z.2)))).symm) oki (vr_fr_refl Za)
        · refine jv_Wp.lift (fun _ Kz => jv_Ev.steps jv_i306 4 (pc' := 62) (l' := [(0, .ref 196), (1, .int (vl_I j)), (2, .int (vr_b z)), (3, .int (I 207 (76800 + f.d))), (4, .int (vl_I i))]) (st' := [.int (vr_b z), .int (vl_I i), .int (vl_I j), .ref 196]) rfl Kz) ?_
          refine jv_Wp.cnd jv_i306 (pt := 69) (pe := 65) (p := ((vr_b z) = 0)) (q := ((vr_b z) = 0)) rfl jv_bi_eq rfl rfl Iff.rfl (fun h4 => ?_) (fun h4 => ?_)
          · refine jv_Wp.lift (fun _ Kz => jv_Ev.steps jv_i306 2 (pc' := 72) (l' := [(0, .ref 196), (1, .int (vl_I j)), (2, .int (vr_b z)), (3, .int (I 207 (76800 + f.d))), (4, .int (vl_I i))]) (st' := [.int (vr_b z), .int (7 : Int32), .int (vl_I i), .int (vl_I j), .ref 196]) rfl Kz) ?_
            refine jv_Wp.cnd jv_i306 (pt := 79) (pe := 75) (p := ((vr_b z) = 0)) (q := ((vr_b z) = 0)) rfl jv_bi_eq rfl rfl Iff.rfl (fun _ => ?_) (fun hz => absurd h4 hz)
            refine jv_Wp.lift (fun _ Kz => jv_Ev.steps jv_i306 1 (pc' := 80) (l' := [(0, .ref 196), (1, .int (vl_I j)), (2, .int (vr_b z)), (3, .int (I 207 (76800 + f.d))), (4, .int (vl_I i))]) (st' := [.ref 196, .int (7 : Int32), .int (vl_I i), .int (vl_I j), .ref 196]) rfl Kz) ?_
            refine jv_Wp.lift (fun _ Kz => jv_Ev.m jv_i306 (pc' := 83) (st' := [.ref 206, .int (7 : Int32), .int (vl_I i), .int (vl_I j), .ref 196]) (G' := (jv_H K Ia La R)) rfl rfl (jv_m_getR (jv_rwK hW 196 12 24 (by decide)) rfl rfl (jv_rwR hW 196 14 206 (by decide))) Kz) ?_
            refine jv_Wp.lift (fun _ Kz => jv_Ev.steps jv_i306 2 (pc' := 86) (l' := [(0, .ref 196), (1, .int (vl_I j)), (2, .int (vr_b z)), (3, .int (I 207 (76800 + f.d))), (4, .int (vl_I i))]) (st' := [.int (vl_I i), .int (vl_I j), .ref 206, .int (7 : Int32), .int (vl_I i), .int (vl_I j), .ref 196]) rfl Kz) ?_
            refine jv_Wp.lift (fun _ Kz => jv_Ev.c jv_i306 (pc' := 89) (S' := [.int (vl_I (75 * j + i)), .ref 206, .int (7 : Int32), .int (vl_I i), .int (vl_I j), .ref 196]) jv_i253 [.int (vl_I j), .int (vl_I i)] rfl rfl rfl rfl rfl rfl (vq_thing j i) rfl rfl Kz) ?_
            refine jv_Wp.lift (fun _ Kz => jv_Ev.m jv_i306 (pc' := 90) (st' := [.int (Ia 206 (75 * j + i)), .int (7 : Int32), .int (vl_I i), .int (vl_I j), .ref 196]) (G' := (jv_H K Ia La R)) rfl rfl (jv_m_ialdv (jv_rwK hW 206 102 77100 (by decide)) rfl (vl_I_ix (by omega) (by decide)) rfl ((congrArg (Ia 206) (vl_I_nat (by omega))).trans rfl)) Kz) ?_
            obtain ⟨I1, L1, H1, A1, B1, C1, F1, eL1⟩ := vq_setx (I := Ia) (L := La) (R := R) (n := n) (sl := sl) j i (7 : Int32) (Ia 206 (75 * j + i)) hW Za (by omega)
            have Z1 := vr_fl_of F1
            refine jv_Wp.lift (fun _ Kz => jv_Ev.c jv_i306 (pc' := 93) (S' := []) (G1 := (jv_H K I1 L1 R)) jv_i272 [.ref 196, .int (vl_I j), .int (vl_I i), .int (7 : Int32), .int (Ia 206 (75 * j + i))] rfl rfl rfl rfl (jv_cal rfl (jv_H_at (jv_rwK hW 196 12 24 (by decide))) rfl rfl) rfl H1 rfl rfl Kz) ?_
            refine jv_Wp.lift (fun _ Kz => jv_Ev.steps jv_i306 1 (pc' := 94) (l' := [(0, .ref 196), (1, .int (vl_I j)), (2, .int (vr_b z)), (3, .int (I 207 (76800 + f.d))), (4, .int (vl_I i))]) (st' := [.ref 196]) rfl Kz) ?_
            refine jv_Wp.lift (fun _ Kz => jv_Ev.m jv_i306 (pc' := 97) (st' := [.ref 208]) (G' := (jv_H K I1 L1 R)) rfl rfl (jv_m_getR (jv_rwK hW 196 12 24 (by decide)) rfl rfl (jv_rwR hW 196 16 208 (by decide))) Kz) ?_
            refine jv_Wp.lift (fun _ Kz => jv_Ev.steps jv_i306 3 (pc' := 102) (l' := [(0, .ref 196), (1, .int (vl_I j)), (2, .int (vr_b z)), (3, .int (I 207 (76800 + f.d))), (4, .int (vl_I i))]) (st' := [.int (vl_I i), .int (vl_I j), .int (6 : Int32), .ref 208]) rfl Kz) ?_
            refine jv_Wp.lift (fun _ Kz => jv_Ev.c jv_i306 (pc' := 105) (S' := [.int (vl_I (8 + (75 * j + i))), .int (6 : Int32), .ref 208]) jv_i254 [.int (vl_I j), .int (vl_I i)] rfl rfl rfl rfl rfl rfl (vq_row j i) rfl rfl Kz) ?_
            obtain ⟨I2, L2, H2, S2, F2⟩ := vq_copy (I := I1) (L := L1) (R := R) (n := n) (sl := sl) (a := 6) (d := 8 + (75 * j + i)) hW (by decide) (by omega) Z1 (Z1 _ (by decide))
            refine jv_Wp.lift (fun _ Kz => jv_Ev.c jv_i306 (pc' := 108) (S' := []) (G1 := (jv_H K I2 L2 R)) jv_i208 [.ref 208, .int (6 : Int32), .int (vl_I (8 + (75 * j + i)))] rfl rfl rfl rfl (jv_cal rfl (jv_H_at (jv_rwK hW 208 11 7 (by decide))) rfl rfl) rfl H2 rfl rfl Kz) ?_
            refine jv_Wp.lift (fun _ Kz => jv_Ev.steps jv_i306 2 (pc' := 19) (l' := [(4, .int ((vl_I i) + Int32.ofInt 1)), (0, .ref 196), (1, .int (vl_I j)), (2, .int (vr_b z)), (3, .int (I 207 (76800 + f.d)))]) (st' := []) rfl Kz) ?_
            refine jv_Wp.loc (l := [(0, .ref 196), (1, .int (vl_I j)), (2, .int (vr_b z)), (3, .int (I 207 (76800 + f.d))), (4, .int ((vl_I i) + Int32.ofInt 1))]) ⟨List.forall_mem_cons.mpr ⟨.tail _ (.head _), List.forall_mem_cons.mpr ⟨.tail _ (.tail _ (.head _)), List.forall_mem_cons.mpr ⟨.tail _ (.tail _ (.tail _ (.head _))), List.forall_mem_cons.mpr ⟨.tail _ (.tail _ (.tail _ (.tail _ (.head _)))), List.forall_mem_cons.mpr ⟨.head _, fun _ h => absurd h List.not_mem_nil⟩⟩⟩⟩⟩, by show List.Nodup [4, 0, 1, 2, 3]; decide⟩ ?_
            have oki := okA oj
            have so : (vr_T I L (75 * j + i)).sort = 8 ↔ Ia 205 (75 * j + i) = 8 := by rw [← ta]; exact vr_is 8 (by decide) oki
            have og : (vr_T I L (75 * j + i)).org = (Ia 207 (75 * j + i)).toInt := by rw [← ta]; rfl
            have od : (vr_T I L (75 * j + i)).det = (Ia 206 (75 * j + i)).toInt := by rw [← ta]; rfl
            have zz : z = false := vr_b_f h4
            have q5 : I2 205 (75 * j + i) = 7 := (F2.2.1 205 _ (by decide)).trans A1
            have q6 : I2 206 (75 * j + i) = Ia 206 (75 * j + i) := (F2.2.1 206 _ (by decide)).trans B1
            have q7 : I2 207 (75 * j + i) = -1 := (F2.2.1 207 _ (by decide)).trans C1
            have q8 : vb_toS (vr_S L2 (8 + (75 * j + i))) = vb_just 0 := by rw [S2, eL1, vr_fr_6 fr1]; exact hZ6
            have cc : (vr_T I L (75 * j + i)).sort = 8 ∧ (vr_T I L (75 * j + i)).org = (I 207 (76800 + f.d)).toInt := ⟨so.mpr (Classical.not_not.mp h2), og.trans (congrArg Int32.toInt (Classical.not_not.mp h3))⟩
            rw [show vl_I i + Int32.ofInt 1 = vl_I (i + 1) from vl_I_add i 1]
            refine k0 I2 L2 (((vr_T_set q5 q6 q7).trans ?_).trans (if_pos cc).symm) (by unfold vr_ok; rw [q5, q6, q7]; exact Or.inr (Or.inr (Or.inr (Or.inl ⟨Or.inr (Or.inr (Or.inr rfl)), rfl⟩)))) (vr_fr_trans F1 (vq_rf_frx F2 rfl))
            rw [q8, zz, od]
            rfl
          · refine jv_Wp.lift (fun _ Kz => jv_Ev.steps jv_i306 3 (pc' := 72) (l' := [(0, .ref 196), (1, .int (vl_I j)), (2, .int (vr_b z)), (3, .int (I 207 (76800 + f.d))), (4, .int (vl_I i))]) (st' := [.int (vr_b z), .int (1 : Int32), .int (vl_I i), .int (vl_I j), .ref 196]) rfl Kz) ?_
            refine jv_Wp.cnd jv_i306 (pt := 79) (pe := 75) (p := ((vr_b z) = 0)) (q := ((vr_b z) = 0)) rfl jv_bi_eq rfl rfl Iff.rfl (fun hz => absurd hz h4) (fun _ => ?_)
            refine jv_Wp.lift (fun _ Kz => jv_Ev.steps jv_i306 2 (pc' := 90) (l' := [(0, .ref 196), (1, .int (vl_I j)), (2, .int (vr_b z)), (3, .int (I 207 (76800 + f.d))), (4, .int (vl_I i))]) (st' := [.int (0 : Int32), .int (1 : Int32), .int (vl_I i), .int (vl_I j), .ref 196]) rfl Kz) ?_
            obtain ⟨I3, L3, H3, A3, B3, C3, F3, eL3⟩ := vq_setx (I := Ia) (L := La) (R := R) (n := n) (sl := sl) j i (1 : Int32) (0 : Int32) hW Za (by omega)
            have Z3 := vr_fl_of F3
            refine jv_Wp.lift (fun _ Kz => jv_Ev.c jv_i306 (pc' := 93) (S' := []) (G1 := (jv_H K I3 L3 R)) jv_i272 [.ref 196, .int (vl_I j), .int (vl_I i), .int (1 : Int32), .int (0 : Int32)] rfl rfl rfl rfl (jv_cal rfl (jv_H_at (jv_rwK hW 196 12 24 (by decide))) rfl rfl) rfl H3 rfl rfl Kz) ?_
            refine jv_Wp.lift (fun _ Kz => jv_Ev.steps jv_i306 1 (pc' := 94) (l' := [(0, .ref 196), (1, .int (vl_I j)), (2, .int (vr_b z)), (3, .int (I 207 (76800 + f.d))), (4, .int (vl_I i))]) (st' := [.ref 196]) rfl Kz) ?_
            refine jv_Wp.lift (fun _ Kz => jv_Ev.m jv_i306 (pc' := 97) (st' := [.ref 208]) (G' := (jv_H K I3 L3 R)) rfl rfl (jv_m_getR (jv_rwK hW 196 12 24 (by decide)) rfl rfl (jv_rwR hW 196 16 208 (by decide))) Kz) ?_
            refine jv_Wp.lift (fun _ Kz => jv_Ev.steps jv_i306 3 (pc' := 102) (l' := [(0, .ref 196), (1, .int (vl_I j)), (2, .int (vr_b z)), (3, .int (I 207 (76800 + f.d))), (4, .int (vl_I i))]) (st' := [.int (vl_I i), .int (vl_I j), .int (6 : Int32), .ref 208]) rfl Kz) ?_
            refine jv_Wp.lift (fun _ Kz => jv_Ev.c jv_i306 (pc' := 105) (S' := [.int (vl_I (8 + (75 * j + i))), .int (6 : Int32), .ref 208]) jv_i254 [.int (vl_I j), .int (vl_I i)] rfl rfl rfl rfl rfl rfl (vq_row j i) rfl rfl Kz) ?_
            obtain ⟨I4, L4, H4, S4, F4⟩ := vq_copy (I := I3) (L := L3) (R := R) (n := n) (sl := sl) (a := 6) (d := 8 + (75 * j + i)) hW (by decide) (by omega) Z3 (Z3 _ (by decide))
            refine jv_Wp.lift (fun _ Kz => jv_Ev.c jv_i306 (pc' := 108) (S' := []) (G1 := (jv_H K I4 L4 R)) jv_i208 [.ref 208, .int (6 : Int32), .int (vl_I (8 + (75 * j + i)))] rfl rfl rfl rfl (jv_cal rfl (jv_H_at (jv_rwK hW 208 11 7 (by decide))) rfl rfl) rfl H4 rfl rfl Kz) ?_
            refine jv_Wp.lift (fun _ Kz => jv_Ev.steps jv_i306 2 (pc' := 19) (l' := [(4, .int ((vl_I i) + Int32.ofInt 1)), (0, .ref 196), (1, .int (vl_I j)), (2, .int (vr_b z)), (3, .int (I 207 (76800 + f.d)))]) (st' := []) rfl Kz) ?_
            refine jv_Wp.loc (l := [(0, .ref 196), (1, .int (vl_I j)), (2, .int (vr_b z)), (3, .int (I 207 (76800 + f.d))), (4, .int ((vl_I i) + Int32.ofInt 1))]) ⟨List.forall_mem_cons.mpr ⟨.tail _ (.head _), List.forall_mem_cons.mpr ⟨.tail _ (.tail _ (.head _)), List.forall_mem_cons.mpr ⟨.tail _ (.tail _ (.tail _ (.head _))), List.forall_mem_cons.mpr ⟨.tail _ (.tail _ (.tail _ (.tail _ (.head _)))), List.forall_mem_cons.mpr ⟨.head _, fun _ h => absurd h List.not_mem_nil⟩⟩⟩⟩⟩, by show List.Nodup [4, 0, 1, 2, 3]; decide⟩ ?_
            have oki := okA oj
            have so : (vr_T I L (75 * j + i)).sort = 8 ↔ Ia 205 (75 * j + i) = 8 := by rw [← ta]; exact vr_is 8 (by decide) oki
            have og : (vr_T I L (75 * j + i)).org = (Ia 207 (75 * j + i)).toInt := by rw [← ta]; rfl
            have od : (vr_T I L (75 * j + i)).det = (Ia 206 (75 * j + i)).toInt := by rw [← ta]; rfl
            have zz : z = true := vr_b_t h4
            have q5 : I4 205 (75 * j + i) = 1 := (F4.2.1 205 _ (by decide)).trans A3
            have q6 : I4 206 (75 * j + i) = 0 := (F4.2.1 206 _ (by decide)).trans B3
            have q7 : I4 207 (75 * j + i) = -1 := (F4.2.1 207 _ (by decide)).trans C3
            have q8 : vb_toS (vr_S L4 (8 + (75 * j + i))) = vb_just 0 := by rw [S4, eL3, vr_fr_6 fr1]; exact hZ6
            have cc : (vr_T I L (75 * j + i)).sort = 8 ∧ (vr_T I L (75 * j + i)).org = (I 207 (76800 + f.d)).toInt := ⟨so.mpr (Classical.not_not.mp h2), og.trans (congrArg Int32.toInt (Classical.not_not.mp h3))⟩
            rw [show vl_I i + Int32.ofInt 1 = vl_I (i + 1) from vl_I_add i 1]
            refine k0 I4 L4 (((vr_T_set q5 q6 q7).trans ?_).trans (if_pos cc).symm) (by unfold vr_ok; rw [q5, q6, q7]; exact Or.inr (Or.inr (Or.inl ⟨Or.inl rfl, rfl, rfl⟩))) (vr_fr_trans F3 (vq_rf_frx F4 rfl))
            rw [q8, zz]
            rfl
  · skip
    refine jv_Wp.lift (fun _ Kz => jv_Ev.steps jv_i306 2 (pc' := 23) (l' := [(0, .ref 196), (1, .int (vl_I j)), (2, .int (vr_b z)), (3, .int (I 207 (76800 + f.d))), (4, .int (vl_I 75))]) (st' := [.int (75 : Int32), .int (vl_I 75)]) rfl Kz) ?_
    refine jv_Wp.cnd jv_i306 (pt := 114) (pe := 26) (p := ((75 : Int32) ≤ (vl_I 75))) (q := ((75 : Int32) ≤ (vl_I 75))) rfl jv_bc_ge rfl rfl Iff.rfl (fun _ => ?_) (fun hz => absurd (Int32.le_refl _) hz)
    refine jv_Wp.of (jv_Ev.ret jv_i306 rfl rfl) ?_
    rw [hQ]
    refine ⟨_, _, rfl, ?_, fun n hn => (ht n hn).2, fr1⟩
    rw [← vr_set8_A]
    refine Prod.ext (funext (fun n => ?_)) (congrArg Int32.toInt (vr_fr_c fr1 (by decide) (by decide)))
    show (if n < 75 then _ else _) = if n < 75 then vr_set8 (I 207 (76800 + f.d)).toInt z ((vr_A I L j).1 n) else (vr_A I L j).1 n
    by_cases hn : n < 75
    · rw [if_pos hn, if_pos hn, vr_A1 hn]; exact (ht n hn).1
    · rw [if_neg hn, if_neg hn]; exact (if_neg hn).symm
theorem jv_i307 : jv_I 307 7 none 2 42 jv_c307 := ⟨rfl, rfl, rfl, rfl, rfl⟩
theorem vq_learnT {K : Nat → Option (Nat × Nat)} {I : Nat → Nat → Int32} {L : Nat → Nat → Int64} {R : Nat → Nat → Value} (f : vf_F) (j : Nat) (b : Bool) (hW : jv_rW K R) (hf : vr_fl I) (D : vr_dec I f) (hd11 : f.d < 11) (hs11 : f.s < 11) (hj28 : j < 1028) (hp : I 205 (76800 + f.d) = 4) (hb : (vb_toS (vr_S L (8 + (76800 + f.d)))).low = (vb_toS (vr_S L (8 + (76800 + f.d)))).high → (vb_toS (vr_S L (8 + (76800 + f.d)))).low.toInt ≤ 536870912) {n sl : Nat} : ∃ I1 L1, jv_Ms 307 [.ref 196, .int (vl_I j), .int (vr_b b)] (jv_H K I L R) n sl (none, jv_H K I1 L1 R, n, sl) ∧ vr_A I1 L1 j = vr_lrn (vr_A I L j) (vb_toS (vr_S L (8 + (76800 + f.d)))) b ∧ (vr_okA I j → vr_okA I1 j) ∧ L1 = L ∧ vr_fr noP (fun q g => q = 203 ∧ g = j) I L I1 L1 := by
  obtain ⟨Q, hQ⟩ : ∃ Q : jv_R → Prop, Q = fun X => ∃ I1 L1, X = (none, jv_H K I1 L1 R, n, sl) ∧ vr_A I1 L1 j = vr_lrn (vr_A I L j) (vb_toS (vr_S L (8 + (76800 + f.d)))) b ∧ (vr_okA I j → vr_okA I1 j) ∧ L1 = L ∧ vr_fr noP (fun q g => q = 203 ∧ g = j) I L I1 L1 := ⟨_, rfl⟩
  suffices h : jv_Wp 307 0 [(0, .ref 196), (1, .int (vl_I j)), (2, .int (vr_b b))] [] (jv_H K I L R) n sl Q by
    rw [hQ] at h
    obtain ⟨X, h, I1, L1, e, h'⟩ := h
    subst e
    exact ⟨I1, L1, h, h'⟩
  refine jv_Wp.lift (fun _ Kz => jv_Ev.steps jv_i307 3 (pc' := 5) (l' := [(0, .ref 196), (1, .int (vl_I j)), (2, .int (vr_b b))]) (st' := [.ref 196, .ref 196, .int (1024 : Int32)]) rfl Kz) ?_
  refine jv_Wp.lift (fun _ Kz => jv_Ev.m jv_i307 (pc' := 8) (st' := [.int (vl_I f.d), .ref 196, .int (1024 : Int32)]) (G' := (jv_H K I L R)) rfl rfl (jv_m_getI (jv_rwK hW 196 12 24 (by decide)) rfl rfl D.2.1) Kz) ?_
  refine jv_Wp.lift (fun _ Kz => jv_Ev.c jv_i307 (pc' := 11) (S' := [.int (I 205 (76800 + f.d)), .int (1024 : Int32)]) jv_i271 [.ref 196, .int (vl_I f.d)] rfl rfl rfl rfl (jv_cal rfl (jv_H_at (jv_rwK hW 196 12 24 (by decide))) rfl rfl) rfl (vq_sortOf f.d hW (by omega)) rfl rfl Kz) ?_
  refine jv_Wp.lift (fun _ Kz => jv_Ev.steps jv_i307 1 (pc' := 12) (l' := [(0, .ref 196), (1, .int (vl_I j)), (2, .int (vr_b b))]) (st' := [.int (4 : Int32), .int (I 205 (76800 + f.d)), .int (1024 : Int32)]) rfl Kz) ?_
  refine jv_Wp.cnd jv_i307 (pt := 22) (pe := 15) (p := (¬ (I 205 (76800 + f.d)) = (4 : Int32))) (q := (¬ (I 205 (76800 + f.d)) = (4 : Int32))) rfl jv_bc_ne rfl rfl Iff.rfl (fun hz => absurd hz (fun z => z hp)) (fun _ => ?_)
  refine jv_Wp.lift (fun _ Kz => jv_Ev.steps jv_i307 1 (pc' := 16) (l' := [(0, .ref 196), (1, .int (vl_I j)), (2, .int (vr_b b))]) (st' := [.ref 196, .int (1024 : Int32)]) rfl Kz) ?_
  refine jv_Wp.lift (fun _ Kz => jv_Ev.m jv_i307 (pc' := 19) (st' := [.int (vl_I f.d), .int (1024 : Int32)]) (G' := (jv_H K I L R)) rfl rfl (jv_m_getI (jv_rwK hW 196 12 24 (by decide)) rfl rfl D.2.1) Kz) ?_
  refine jv_Wp.lift (fun _ Kz => jv_Ev.steps jv_i307 1 (pc' := 26) (l' := [(0, .ref 196), (1, .int (vl_I j)), (2, .int (vr_b b))]) (st' := [.int (vl_I f.d), .int (1024 : Int32)]) rfl Kz) ?_
  refine jv_Wp.lift (fun _ Kz => jv_Ev.c jv_i307 (pc' := 29) (S' := [.int (vl_I (8 + (76800 + f.d)))]) jv_i254 [.int (1024 : Int32), .int (vl_I f.d)] rfl rfl rfl rfl rfl rfl (vq_row 1024 f.d) rfl rfl Kz) ?_
  refine jv_Wp.lift (fun _ Kz => jv_Ev.steps jv_i307 2 (pc' := 31) (l' := [(3, .int (vl_I (8 + (76800 + f.d)))), (0, .ref 196), (1, .int (vl_I j)), (2, .int (vr_b b))]) (st' := [.ref 196]) rfl Kz) ?_
  refine jv_Wp.lift (fun _ Kz => jv_Ev.m jv_i307 (pc' := 34) (st' := [.ref 208]) (G' := (jv_H K I L R)) rfl rfl (jv_m_getR (jv_rwK hW 196 12 24 (by decide)) rfl rfl (jv_rwR hW 196 16 208 (by decide))) Kz) ?_
  refine jv_Wp.lift (fun _ Kz => jv_Ev.m jv_i307 (pc' := 37) (st' := [.ref 211]) (G' := (jv_H K I L R)) rfl rfl (jv_m_getR (jv_rwK hW 208 11 7 (by decide)) rfl rfl (jv_rwR hW 208 2 211 (by decide))) Kz) ?_
  refine jv_Wp.lift (fun _ Kz => jv_Ev.steps jv_i307 1 (pc' := 38) (l' := [(3, .int (vl_I (8 + (76800 + f.d)))), (0, .ref 196), (1, .int (vl_I j)), (2, .int (vr_b b))]) (st' := [.int (vl_I (8 + (76800 + f.d))), .ref 211]) rfl Kz) ?_
  refine jv_Wp.lift (fun _ Kz => jv_Ev.m jv_i307 (pc' := 39) (st' := [.long (L 211 (8 + (76800 + f.d)))]) (G' := (jv_H K I L R)) rfl rfl (jv_m_laldv (jv_rwK hW 211 103 77200 (by decide)) rfl (vl_I_ix (by omega) (by decide)) rfl ((congrArg (L 211) (vl_I_nat (by omega))).trans rfl)) Kz) ?_
  refine jv_Wp.lift (fun _ Kz => jv_Ev.steps jv_i307 2 (pc' := 42) (l' := [(4, .long (L 211 (8 + (76800 + f.d)))), (3, .int (vl_I (8 + (76800 + f.d)))), (0, .ref 196), (1, .int (vl_I j)), (2, .int (vr_b b))]) (st' := [.ref 196]) rfl Kz) ?_
  refine jv_Wp.lift (fun _ Kz => jv_Ev.m jv_i307 (pc' := 45) (st' := [.ref 208]) (G' := (jv_H K I L R)) rfl rfl (jv_m_getR (jv_rwK hW 196 12 24 (by decide)) rfl rfl (jv_rwR hW 196 16 208 (by decide))) Kz) ?_
  refine jv_Wp.lift (fun _ Kz => jv_Ev.steps jv_i307 1 (pc' := 46) (l' := [(4, .long (L 211 (8 + (76800 + f.d)))), (3, .int (vl_I (8 + (76800 + f.d)))), (0, .ref 196), (1, .int (vl_I j)), (2, .int (vr_b b))]) (st' := [.int (vl_I (8 + (76800 + f.d))), .ref 208]) rfl Kz) ?_
  refine jv_Wp.lift (fun _ Kz => jv_Ev.c jv_i307 (pc' := 49) (S' := [.int (vr_b (decide ((vr_S L (8 + (76800 + f.d))).low = (vr_S L (8 + (76800 + f.d))).high)))]) jv_i209 [.ref 208, .int (vl_I (8 + (76800 + f.d)))] rfl rfl rfl rfl (jv_cal rfl (jv_H_at (jv_rwK hW 208 11 7 (by decide))) rfl rfl) rfl (vq_isSingle (a := (8 + (76800 + f.d))) hW (by omega)) rfl rfl Kz) ?_
  refine jv_Wp.cnd jv_i307 (pt := 102) (pe := 52) (p := ((vr_b (decide ((vr_S L (8 + (76800 + f.d))).low = (vr_S L (8 + (76800 + f.d))).high))) = 0)) (q := ((vr_b (decide ((vr_S L (8 + (76800 + f.d))).low = (vr_S L (8 + (76800 + f.d))).high))) = 0)) rfl jv_bi_eq rfl rfl Iff.rfl (fun h1 => ?_) (fun h1 => ?_)
  · refine jv_Wp.of (jv_Ev.ret jv_i307 rfl rfl) ?_
    rw [hQ]
    have el : (L 211 (8 + (76800 + f.d))).toInt = (vb_toS (vr_S L (8 + (76800 + f.d)))).low.toInt := rfl
    have es : ¬ (vb_toS (vr_S L (8 + (76800 + f.d)))).low = (vb_toS (vr_S L (8 + (76800 + f.d)))).high := of_decide_eq_false (vr_b_f h1)
    exact ⟨_, _, rfl, by unfold vr_lrn; rw [if_pos (Or.inl es)], fun z => z, rfl, vr_fr_refl hf⟩
  · refine jv_Wp.lift (fun _ Kz => jv_Ev.steps jv_i307 3 (pc' := 56) (l' := [(4, .long (L 211 (8 + (76800 + f.d)))), (3, .int (vl_I (8 + (76800 + f.d)))), (0, .ref 196), (1, .int (vl_I j)), (2, .int (vr_b b))]) (st' := [.int (lg_cmp (L 211 (8 + (76800 + f.d))) (0 : Int64))]) rfl Kz) ?_
    refine jv_Wp.cnd jv_i307 (pt := 102) (pe := 59) (p := ((lg_cmp (L 211 (8 + (76800 + f.d))) (0 : Int64)) < 0)) (q := ((L 211 (8 + (76800 + f.d))) < (0 : Int64))) rfl jv_bi_lt rfl rfl (lg_cmp_lt (L 211 (8 + (76800 + f.d))) (0 : Int64)) (fun h2 => ?_) (fun h2 => ?_)
    · refine jv_Wp.of (jv_Ev.ret jv_i307 rfl rfl) ?_
      rw [hQ]
      have el : (L 211 (8 + (76800 + f.d))).toInt = (vb_toS (vr_S L (8 + (76800 + f.d)))).low.toInt := rfl
      have es : (vb_toS (vr_S L (8 + (76800 + f.d)))).low = (vb_toS (vr_S L (8 + (76800 + f.d)))).high := of_decide_eq_true (vr_b_t h1)
      have l0 : (0 : Int64).toInt = 0 := rfl
      have y1 : (L 211 (8 + (76800 + f.d))).toInt < (0 : Int64).toInt := Int64.lt_iff_toInt_lt.mp h2
      exact ⟨_, _, rfl, by unfold vr_lrn; rw [if_pos (Or.inr (by omega))], fun z => z, rfl, vr_fr_refl hf⟩
    · refine jv_Wp.lift (fun _ Kz => jv_Ev.steps jv_i307 3 (pc' := 63) (l' := [(4, .long (L 211 (8 + (76800 + f.d)))), (3, .int (vl_I (8 + (76800 + f.d)))), (0, .ref 196), (1, .int (vl_I j)), (2, .int (vr_b b))]) (st' := [.int (vr_b b), .int (L 211 (8 + (76800 + f.d))).toInt32]) rfl Kz) ?_
      refine jv_Wp.cnd jv_i307 (pt := 70) (pe := 66) (p := ((vr_b b) = 0)) (q := ((vr_b b) = 0)) rfl jv_bi_eq rfl rfl Iff.rfl (fun h3 => ?_) (fun h3 => ?_)
      · refine jv_Wp.lift (fun _ Kz => jv_Ev.steps jv_i307 4 (pc' := 75) (l' := [(6, .int ((L 211 (8 + (76800 + f.d))).toInt32 + (0 : Int32))), (4, .long (L 211 (8 + (76800 + f.d)))), (3, .int (vl_I (8 + (76800 + f.d)))), (0, .ref 196), (1, .int (vl_I j)), (2, .int (vr_b b))]) (st' := [.ref 196]) rfl Kz) ?_
        refine jv_Wp.lift (fun _ Kz => jv_Ev.m jv_i307 (pc' := 78) (st' := [.ref 203]) (G' := (jv_H K I L R)) rfl rfl (jv_m_getR (jv_rwK hW 196 12 24 (by decide)) rfl rfl (jv_rwR hW 196 11 203 (by decide))) Kz) ?_
        refine jv_Wp.lift (fun _ Kz => jv_Ev.steps jv_i307 3 (pc' := 82) (l' := [(6, .int ((L 211 (8 + (76800 + f.d))).toInt32 + (0 : Int32))), (4, .long (L 211 (8 + (76800 + f.d)))), (3, .int (vl_I (8 + (76800 + f.d)))), (0, .ref 196), (1, .int (vl_I j)), (2, .int (vr_b b))]) (st' := [.ref 196, .int ((L 211 (8 + (76800 + f.d))).toInt32 + (0 : Int32)), .int (vl_I j), .ref 203]) rfl Kz) ?_
        refine jv_Wp.lift (fun _ Kz => jv_Ev.m jv_i307 (pc' := 85) (st' := [.ref 203, .int ((L 211 (8 + (76800 + f.d))).toInt32 + (0 : Int32)), .int (vl_I j), .ref 203]) (G' := (jv_H K I L R)) rfl rfl (jv_m_getR (jv_rwK hW 196 12 24 (by decide)) rfl rfl (jv_rwR hW 196 11 203 (by decide))) Kz) ?_
        refine jv_Wp.lift (fun _ Kz => jv_Ev.steps jv_i307 1 (pc' := 86) (l' := [(6, .int ((L 211 (8 + (76800 + f.d))).toInt32 + (0 : Int32))), (4, .long (L 211 (8 + (76800 + f.d)))), (3, .int (vl_I (8 + (76800 + f.d)))), (0, .ref 196), (1, .int (vl_I j)), (2, .int (vr_b b))]) (st' := [.int (vl_I j), .ref 203, .int ((L 211 (8 + (76800 + f.d))).toInt32 + (0 : Int32)), .int (vl_I j), .ref 203]) rfl Kz) ?_
        refine jv_Wp.lift (fun _ Kz => jv_Ev.m jv_i307 (pc' := 87) (st' := [.int (I 203 j), .int ((L 211 (8 + (76800 + f.d))).toInt32 + (0 : Int32)), .int (vl_I j), .ref 203]) (G' := (jv_H K I L R)) rfl rfl (jv_m_ialdv (jv_rwK hW 203 102 1028 (by decide)) rfl (vl_I_ix (by omega) (by decide)) rfl ((congrArg (I 203) (vl_I_nat (by omega))).trans rfl)) Kz) ?_
        refine jv_Wp.cnd jv_i307 (pt := 95) (pe := 90) (p := (((L 211 (8 + (76800 + f.d))).toInt32 + (0 : Int32)) ≤ (I 203 j))) (q := (((L 211 (8 + (76800 + f.d))).toInt32 + (0 : Int32)) ≤ (I 203 j))) rfl jv_bc_le rfl rfl Iff.rfl (fun h4 => ?_) (fun h4 => ?_)
        · refine jv_Wp.lift (fun _ Kz => jv_Ev.steps jv_i307 1 (pc' := 96) (l' := [(6, .int ((L 211 (8 + (76800 + f.d))).toInt32 + (0 : Int32))), (4, .long (L 211 (8 + (76800 + f.d)))), (3, .int (vl_I (8 + (76800 + f.d)))), (0, .ref 196), (1, .int (vl_I j)), (2, .int (vr_b b))]) (st' := [.ref 196, .int (vl_I j), .ref 203]) rfl Kz) ?_
          refine jv_Wp.lift (fun _ Kz => jv_Ev.m jv_i307 (pc' := 99) (st' := [.ref 203, .int (vl_I j), .ref 203]) (G' := (jv_H K I L R)) rfl rfl (jv_m_getR (jv_rwK hW 196 12 24 (by decide)) rfl rfl (jv_rwR hW 196 11 203 (by decide))) Kz) ?_
          refine jv_Wp.lift (fun _ Kz => jv_Ev.steps jv_i307 1 (pc' := 100) (l' := [(6, .int ((L 211 (8 + (76800 + f.d))).toInt32 + (0 : Int32))), (4, .long (L 211 (8 + (76800 + f.d)))), (3, .int (vl_I (8 + (76800 + f.d)))), (0, .ref 196), (1, .int (vl_I j)), (2, .int (vr_b b))]) (st' := [.int (vl_I j), .ref 203, .int (vl_I j), .ref 203]) rfl Kz) ?_
          refine jv_Wp.lift (fun _ Kz => jv_Ev.m jv_i307 (pc' := 101) (st' := [.int (I 203 j), .int (vl_I j), .ref 203]) (G' := (jv_H K I L R)) rfl rfl (jv_m_ialdv (jv_rwK hW 203 102 1028 (by decide)) rfl (vl_I_ix (by omega) (by decide)) rfl ((congrArg (I 203) (vl_I_nat (by omega))).trans rfl)) Kz) ?_
          refine jv_Wp.lift (fun _ Kz => jv_Ev.m jv_i307 (pc' := 102) (st' := []) (G' := (jv_H K (jv_u I 203 j (I 203 j)) L R)) rfl rfl (by rw [jv_m_iast (jv_rwK hW 203 102 1028 (by decide)) (vl_I_ix (by omega) (by decide)), (vl_I_nat (by omega))]) Kz) ?_
          refine jv_Wp.of (jv_Ev.ret jv_i307 rfl rfl) ?_
          rw [hQ]
          have el : (L 211 (8 + (76800 + f.d))).toInt = (vb_toS (vr_S L (8 + (76800 + f.d)))).low.toInt := rfl
          have es : (vb_toS (vr_S L (8 + (76800 + f.d)))).low = (vb_toS (vr_S L (8 + (76800 + f.d)))).high := of_decide_eq_true (vr_b_t h1)
          have l0 : (0 : Int64).toInt = 0 := rfl
          have y1 : ¬ (L 211 (8 + (76800 + f.d))).toInt < (0 : Int64).toInt := fun z => h2 (Int64.lt_iff_toInt_lt.mpr z)
          have hb2 := hb es
          have e32 : ((L 211 (8 + (76800 + f.d))).toInt32).toInt = (vb_toS (vr_S L (8 + (76800 + f.d)))).low.toInt := by rw [Int64.toInt_toInt32, el]; exact vi_bm32 (by omega) (by omega)
          have eb : b = false := vr_b_f h3
          have en : ((L 211 (8 + (76800 + f.d))).toInt32 + (0 : Int32)).toInt = (vb_toS (vr_S L (8 + (76800 + f.d)))).low.toInt + 0 := by rw [Int32.toInt_add, e32]; exact vi_bm32 (by show _ ≤ (vb_toS (vr_S L (8 + (76800 + f.d)))).low.toInt + 0; omega) (by show (vb_toS (vr_S L (8 + (76800 + f.d)))).low.toInt + 0 < _; omega)
          have yc : (((L 211 (8 + (76800 + f.d))).toInt32 + (0 : Int32))).toInt ≤ ((I 203 j)).toInt := Int32.le_iff_toInt_le.mp h4
          have K := vr_known (I := I) (L := L) (I 203 j) j
          refine ⟨_, _, rfl, K.1.trans ?_, K.2.1, rfl, vr_fr_mono (K.2.2 hf) (fun _ z => z) (fun _ _ z => z)⟩
          unfold vr_lrn; rw [if_neg (fun z => z.elim (fun z => z es) (fun z => by omega)), eb]
          show _ = ((vr_A I L j).1, if (I 203 j).toInt < (vb_toS (vr_S L (8 + (76800 + f.d)))).low.toInt + (if (false = true) then (1 : Int) else 0) then (vb_toS (vr_S L (8 + (76800 + f.d)))).low.toInt + (if (false = true) then (1 : Int) else 0) else (I 203 j).toInt)
          rw [show (if (false = true) then (1 : Int) else 0) = 0 from rfl]
          rw [if_neg (by omega)]
        · refine jv_Wp.lift (fun _ Kz => jv_Ev.steps jv_i307 2 (pc' := 101) (l' := [(6, .int ((L 211 (8 + (76800 + f.d))).toInt32 + (0 : Int32))), (4, .long (L 211 (8 + (76800 + f.d)))), (3, .int (vl_I (8 + (76800 + f.d)))), (0, .ref 196), (1, .int (vl_I j)), (2, .int (vr_b b))]) (st' := [.int ((L 211 (8 + (76800 + f.d))).toInt32 + (0 : Int32)), .int (vl_I j), .ref 203]) rfl Kz) ?_
          refine jv_Wp.lift (fun _ Kz => jv_Ev.m jv_i307 (pc' := 102) (st' := []) (G' := (jv_H K (jv_u I 203 j ((L 211 (8 + (76800 + f.d))).toInt32 + (0 : Int32))) L R)) rfl rfl (by rw [jv_m_iast (jv_rwK hW 203 102 1028 (by decide)) (vl_I_ix (by omega) (by decide)), (vl_I_nat (by omega))]) Kz) ?_
          refine jv_Wp.of (jv_Ev.ret jv_i307 rfl rfl) ?_
          rw [hQ]
          have el : (L 211 (8 + (76800 + f.d))).toInt = (vb_toS (vr_S L (8 + (76800 + f.d)))).low.toInt := rfl
          have es : (vb_toS (vr_S L (8 + (76800 + f.d)))).low = (vb_toS (vr_S L (8 + (76800 + f.d)))).high := of_decide_eq_true (vr_b_t h1)
          have l0 : (0 : Int64).toInt = 0 := rfl
          have y1 : ¬ (L 211 (8 + (76800 + f.d))).toInt < (0 : Int64).toInt := fun z => h2 (Int64.lt_iff_toInt_lt.mpr z)
          have hb2 := hb es
          have e32 : ((L 211 (8 + (76800 + f.d))).toInt32).toInt = (vb_toS (vr_S L (8 + (76800 + f.d)))).low.toInt := by rw [Int64.toInt_toInt32, el]; exact vi_bm32 (by omega) (by omega)
          have eb : b = false := vr_b_f h3
          have en : ((L 211 (8 + (76800 + f.d))).toInt32 + (0 : Int32)).toInt = (vb_toS (vr_S L (8 + (76800 + f.d)))).low.toInt + 0 := by rw [Int32.toInt_add, e32]; exact vi_bm32 (by show _ ≤ (vb_toS (vr_S L (8 + (76800 + f.d)))).low.toInt + 0; omega) (by show (vb_toS (vr_S L (8 + (76800 + f.d)))).low.toInt + 0 < _; omega)
          have yc : ¬ (((L 211 (8 + (76800 + f.d))).toInt32 + (0 : Int32))).toInt ≤ ((I 203 j)).toInt := fun z => h4 (Int32.le_iff_toInt_le.mpr z)
          have K := vr_known (I := I) (L := L) ((L 211 (8 + (76800 + f.d))).toInt32 + (0 : Int32)) j
          refine ⟨_, _, rfl, K.1.trans ?_, K.2.1, rfl, vr_fr_mono (K.2.2 hf) (fun _ z => z) (fun _ _ z => z)⟩
          unfold vr_lrn; rw [if_neg (fun z => z.elim (fun z => z es) (fun z => by omega)), eb]
          show _ = ((vr_A I L j).1, if (I 203 j).toInt < (vb_toS (vr_S L (8 + (76800 + f.d)))).low.toInt + (if (false = true) then (1 : Int) else 0) then (vb_toS (vr_S L (8 + (76800 + f.d)))).low.toInt + (if (false = true) then (1 : Int) else 0) else (I 203 j).toInt)
          rw [show (if (false = true) then (1 : Int) else 0) = 0 from rfl]
          rw [if_pos (by omega), en]
      · refine jv_Wp.lift (fun _ Kz => jv_Ev.steps jv_i307 5 (pc' := 75) (l' := [(6, .int ((L 211 (8 + (76800 + f.d))).toInt32 + (1 : Int32))), (4, .long (L 211 (8 + (76800 + f.d)))), (3, .int (vl_I (8 + (76800 + f.d)))), (0, .ref 196), (1, .int (vl_I j)), (2, .int (vr_b b))]) (st' := [.ref 196]) rfl Kz) ?_
        refine jv_Wp.lift (fun _ Kz => jv_Ev.m jv_i307 (pc' := 78) (st' := [.ref 203]) (G' := (jv_H K I L R)) rfl rfl (jv_m_getR (jv_rwK hW 196 12 24 (by decide)) rfl rfl (jv_rwR hW 196 11 203 (by decide))) Kz) ?_
        refine jv_Wp.lift (fun _ Kz => jv_Ev.steps jv_i307 3 (pc' := 82) (l' := [(6, .int ((L 211 (8 + (76800 + f.d))).toInt32 + (1 : Int32))), (4, .long (L 211 (8 + (76800 + f.d)))), (3, .int (vl_I (8 + (76800 + f.d)))), (0, .ref 196), (1, .int (vl_I j)), (2, .int (vr_b b))]) (st' := [.ref 196, .int ((L 211 (8 + (76800 + f.d))).toInt32 + (1 : Int32)), .int (vl_I j), .ref 203]) rfl Kz) ?_
        refine jv_Wp.lift (fun _ Kz => jv_Ev.m jv_i307 (pc' := 85) (st' := [.ref 203, .int ((L 211 (8 + (76800 + f.d))).toInt32 + (1 : Int32)), .int (vl_I j), .ref 203]) (G' := (jv_H K I L R)) rfl rfl (jv_m_getR (jv_rwK hW 196 12 24 (by decide)) rfl rfl (jv_rwR hW 196 11 203 (by decide))) Kz) ?_
        refine jv_Wp.lift (fun _ Kz => jv_Ev.steps jv_i307 1 (pc' := 86) (l' := [(6, .int ((L 211 (8 + (76800 + f.d))).toInt32 + (1 : Int32))), (4, .long (L 211 (8 + (76800 + f.d)))), (3, .int (vl_I (8 + (76800 + f.d)))), (0, .ref 196), (1, .int (vl_I j)), (2, .int (vr_b b))]) (st' := [.int (vl_I j), .ref 203, .int ((L 211 (8 + (76800 + f.d))).toInt32 + (1 : Int32)), .int (vl_I j), .ref 203]) rfl Kz) ?_
        refine jv_Wp.lift (fun _ Kz => jv_Ev.m jv_i307 (pc' := 87) (st' := [.int (I 203 j), .int ((L 211 (8 + (76800 + f.d))).toInt32 + (1 : Int32)), .int (vl_I j), .ref 203]) (G' := (jv_H K I L R)) rfl rfl (jv_m_ialdv (jv_rwK hW 203 102 1028 (by decide)) rfl (vl_I_ix (by omega) (by decide)) rfl ((congrArg (I 203) (vl_I_nat (by omega))).trans rfl)) Kz) ?_
        refine jv_Wp.cnd jv_i307 (pt := 95) (pe := 90) (p := (((L 211 (8 + (76800 + f.d))).toInt32 + (1 : Int32)) ≤ (I 203 j))) (q := (((L 211 (8 + (76800 + f.d))).toInt32 + (1 : Int32)) ≤ (I 203 j))) rfl jv_bc_le rfl rfl Iff.rfl (fun h5 => ?_) (fun h5 => ?_)
        · refine jv_Wp.lift (fun _ Kz => jv_Ev.steps jv_i307 1 (pc' := 96) (l' := [(6, .int ((L 211 (8 + (76800 + f.d))).toInt32 + (1 : Int32))), (4, .long (L 211 (8 + (76800 + f.d)))), (3, .int (vl_I (8 + (76800 + f.d)))), (0, .ref 196), (1, .int (vl_I j)), (2, .int (vr_b b))]) (st' := [.ref 196, .int (vl_I j), .ref 203]) rfl Kz) ?_
          refine jv_Wp.lift (fun _ Kz => jv_Ev.m jv_i307 (pc' := 99) (st' := [.ref 203, .int (vl_I j), .ref 203]) (G' := (jv_H K I L R)) rfl rfl (jv_m_getR (jv_rwK hW 196 12 24 (by decide)) rfl rfl (jv_rwR hW 196 11 203 (by decide))) Kz) ?_
          refine jv_Wp.lift (fun _ Kz => jv_Ev.steps jv_i307 1 (pc' := 100) (l' := [(6, .int ((L 211 (8 + (76800 + f.d))).toInt32 + (1 : Int32))), (4, .long (L 211 (8 + (76800 + f.d)))), (3, .int (vl_I (8 + (76800 + f.d)))), (0, .ref 196), (1, .int (vl_I j)), (2, .int (vr_b b))]) (st' := [.int (vl_I j), .ref 203, .int (vl_I j), .ref 203]) rfl Kz) ?_
          refine jv_Wp.lift (fun _ Kz => jv_Ev.m jv_i307 (pc' := 101) (st' := [.int (I 203 j), .int (vl_I j), .ref 203]) (G' := (jv_H K I L R)) rfl rfl (jv_m_ialdv (jv_rwK hW 203 102 1028 (by decide)) rfl (vl_I_ix (by omega) (by decide)) rfl ((congrArg (I 203) (vl_I_nat (by omega))).trans rfl)) Kz) ?_
          refine jv_Wp.lift (fun _ Kz => jv_Ev.m jv_i307 (pc' := 102) (st' := []) (G' := (jv_H K (jv_u I 203 j (I 203 j)) L R)) rfl rfl (by rw [jv_m_iast (jv_rwK hW 203 102 1028 (by decide)) (vl_I_ix (by omega) (by decide)), (vl_I_nat (by omega))]) Kz) ?_
          refine jv_Wp.of (jv_Ev.ret jv_i307 rfl rfl) ?_
          rw [hQ]
          have el : (L 211 (8 + (76800 + f.d))).toInt = (vb_toS (vr_S L (8 + (76800 + f.d)))).low.toInt := rfl
          have es : (vb_toS (vr_S L (8 + (76800 + f.d)))).low = (vb_toS (vr_S L (8 + (76800 + f.d)))).high := of_decide_eq_true (vr_b_t h1)
          have l0 : (0 : Int64).toInt = 0 := rfl
          have y1 : ¬ (L 211 (8 + (76800 + f.d))).toInt < (0 : Int64).toInt := fun z => h2 (Int64.lt_iff_toInt_lt.mpr z)
          have hb2 := hb es
          have e32 : ((L 211 (8 + (76800 + f.d))).toInt32).toInt = (vb_toS (vr_S L (8 + (76800 + f.d)))).low.toInt := by rw [Int64.toInt_toInt32, el]; exact vi_bm32 (by omega) (by omega)
          have eb : b = true := vr_b_t h3
          have en : ((L 211 (8 + (76800 + f.d))).toInt32 + (1 : Int32)).toInt = (vb_toS (vr_S L (8 + (76800 + f.d)))).low.toInt + 1 := by rw [Int32.toInt_add, e32]; exact vi_bm32 (by show _ ≤ (vb_toS (vr_S L (8 + (76800 + f.d)))).low.toInt + 1; omega) (by show (vb_toS (vr_S L (8 + (76800 + f.d)))).low.toInt + 1 < _; omega)
          have yc : (((L 211 (8 + (76800 + f.d))).toInt32 + (1 : Int32))).toInt ≤ ((I 203 j)).toInt := Int32.le_iff_toInt_le.mp h5
          have K := vr_known (I := I) (L := L) (I 203 j) j
          refine ⟨_, _, rfl, K.1.trans ?_, K.2.1, rfl, vr_fr_mono (K.2.2 hf) (fun _ z => z) (fun _ _ z => z)⟩
          unfold vr_lrn; rw [if_neg (fun z => z.elim (fun z => z es) (fun z => by omega)), eb]
          show _ = ((vr_A I L j).1, if (I 203 j).toInt < (vb_toS (vr_S L (8 + (76800 + f.d)))).low.toInt + (if (true = true) then (1 : Int) else 0) then (vb_toS (vr_S L (8 + (76800 + f.d)))).low.toInt + (if (true = true) then (1 : Int) else 0) else (I 203 j).toInt)
          rw [show (if (true = true) then (1 : Int) else 0) = 1 from rfl]
          rw [if_neg (by omega)]
        · refine jv_Wp.lift (fun _ Kz => jv_Ev.steps jv_i307 2 (pc' := 101) (l' := [(6, .int ((L 211 (8 + (76800 + f.d))).toInt32 + (1 : Int32))), (4, .long (L 211 (8 + (76800 + f.d)))), (3, .int (vl_I (8 + (76800 + f.d)))), (0, .ref 196), (1, .int (vl_I j)), (2, .int (vr_b b))]) (st' := [.int ((L 211 (8 + (76800 + f.d))).toInt32 + (1 : Int32)), .int (vl_I j), .ref 203]) rfl Kz) ?_
          refine jv_Wp.lift (fun _ Kz => jv_Ev.m jv_i307 (pc' := 102) (st' := []) (G' := (jv_H K (jv_u I 203 j ((L 211 (8 + (76800 + f.d))).toInt32 + (1 : Int32))) L R)) rfl rfl (by rw [jv_m_iast (jv_rwK hW 203 102 1028 (by decide)) (vl_I_ix (by omega) (by decide)), (vl_I_nat (by omega))]) Kz) ?_
          refine jv_Wp.of (jv_Ev.ret jv_i307 rfl rfl) ?_
          rw [hQ]
          have el : (L 211 (8 + (76800 + f.d))).toInt = (vb_toS (vr_S L (8 + (76800 + f.d)))).low.toInt := rfl
          have es : (vb_toS (vr_S L (8 + (76800 + f.d)))).low = (vb_toS (vr_S L (8 + (76800 + f.d)))).high := of_decide_eq_true (vr_b_t h1)
          have l0 : (0 : Int64).toInt = 0 := rfl
          have y1 : ¬ (L 211 (8 + (76800 + f.d))).toInt < (0 : Int64).toInt := fun z => h2 (Int64.lt_iff_toInt_lt.mpr z)
          have hb2 := hb es
          have e32 : ((L 211 (8 + (76800 + f.d))).toInt32).toInt = (vb_toS (vr_S L (8 + (76800 + f.d)))).low.toInt := by rw [Int64.toInt_toInt32, el]; exact vi_bm32 (by omega) (by omega)
          have eb : b = true := vr_b_t h3
          have en : ((L 211 (8 + (76800 + f.d))).toInt32 + (1 : Int32)).toInt = (vb_toS (vr_S L (8 + (76800 + f.d)))).low.toInt + 1 := by rw [Int32.toInt_add, e32]; exact vi_bm32 (by show _ ≤ (vb_toS (vr_S L (8 + (76800 + f.d)))).low.toInt + 1; omega) (by show (vb_toS (vr_S L (8 + (76800 + f.d)))).low.toInt + 1 < _; omega)
          have yc : ¬ (((L 211 (8 + (76800 + f.d))).toInt32 + (1 : Int32))).toInt ≤ ((I 203 j)).toInt := fun z => h5 (Int32.le_iff_toInt_le.mpr z)
          have K := vr_known (I := I) (L := L) ((L 211 (8 + (76800 + f.d))).toInt32 + (1 : Int32)) j
          refine ⟨_, _, rfl, K.1.trans ?_, K.2.1, rfl, vr_fr_mono (K.2.2 hf) (fun _ z => z) (fun _ _ z => z)⟩
          unfold vr_lrn; rw [if_neg (fun z => z.elim (fun z => z es) (fun z => by omega)), eb]
          show _ = ((vr_A I L j).1, if (I 203 j).toInt < (vb_toS (vr_S L (8 + (76800 + f.d)))).low.toInt + (if (true = true) then (1 : Int) else 0) then (vb_toS (vr_S L (8 + (76800 + f.d)))).low.toInt + (if (true = true) then (1 : Int) else 0) else (I 203 j).toInt)
          rw [show (if (true = true) then (1 : Int) else 0) = 1 from rfl]
          rw [if_pos (by omega), en]
theorem vq_learnF {K : Nat → Option (Nat × Nat)} {I : Nat → Nat → Int32} {L : Nat → Nat → Int64} {R : Nat → Nat → Value} (f : vf_F) (j : Nat) (b : Bool) (hW : jv_rW K R) (hf : vr_fl I) (D : vr_dec I f) (hd11 : f.d < 11) (hs11 : f.s < 11) (hj28 : j < 1028) (hp : ¬ I 205 (76800 + f.d) = 4) (hb : (vb_toS (vr_S L (8 + (76800 + f.s)))).low = (vb_toS (vr_S L (8 + (76800 + f.s)))).high → (vb_toS (vr_S L (8 + (76800 + f.s)))).low.toInt ≤ 536870912) {n sl : Nat} : ∃ I1 L1, jv_Ms 307 [.ref 196, .int (vl_I j), .int (vr_b b)] (jv_H K I L R) n sl (none, jv_H K I1 L1 R, n, sl) ∧ vr_A I1 L1 j = vr_lrn (vr_A I L j) (vb_toS (vr_S L (8 + (76800 + f.s)))) b ∧ (vr_okA I j → vr_okA I1 j) ∧ L1 = L ∧ vr_fr noP (fun q g => q = 203 ∧ g = j) I L I1 L1 := by
  obtain ⟨Q, hQ⟩ : ∃ Q : jv_R → Prop, Q = fun X => ∃ I1 L1, X = (none, jv_H K I1 L1 R, n, sl) ∧ vr_A I1 L1 j = vr_lrn (vr_A I L j) (vb_toS (vr_S L (8 + (76800 + f.s)))) b ∧ (vr_okA I j → vr_okA I1 j) ∧ L1 = L ∧ vr_fr noP (fun q g => q = 203 ∧ g = j) I L I1 L1 := ⟨_, rfl⟩
  suffices h : jv_Wp 307 0 [(0, .ref 196), (1, .int (vl_I j)), (2, .int (vr_b b))] [] (jv_H K I L R) n sl Q by
    rw [hQ] at h
    obtain ⟨X, h, I1, L1, e, h'⟩ := h
    subst e
    exact ⟨I1, L1, h, h'⟩
  refine jv_Wp.lift (fun _ Kz => jv_Ev.steps jv_i307 3 (pc' := 5) (l' := [(0, .ref 196), (1, .int (vl_I j)), (2, .int (vr_b b))]) (st' := [.ref 196, .ref 196, .int (1024 : Int32)]) rfl Kz) ?_
  refine jv_Wp.lift (fun _ Kz => jv_Ev.m jv_i307 (pc' := 8) (st' := [.int (vl_I f.d), .ref 196, .int (1024 : Int32)]) (G' := (jv_H K I L R)) rfl rfl (jv_m_getI (jv_rwK hW 196 12 24 (by decide)) rfl rfl D.2.1) Kz) ?_
  refine jv_Wp.lift (fun _ Kz => jv_Ev.c jv_i307 (pc' := 11) (S' := [.int (I 205 (76800 + f.d)), .int (1024 : Int32)]) jv_i271 [.ref 196, .int (vl_I f.d)] rfl rfl rfl rfl (jv_cal rfl (jv_H_at (jv_rwK hW 196 12 24 (by decide))) rfl rfl) rfl (vq_sortOf f.d hW (by omega)) rfl rfl Kz) ?_
  refine jv_Wp.lift (fun _ Kz => jv_Ev.steps jv_i307 1 (pc' := 12) (l' := [(0, .ref 196), (1, .int (vl_I j)), (2, .int (vr_b b))]) (st' := [.int (4 : Int32), .int (I 205 (76800 + f.d)), .int (1024 : Int32)]) rfl Kz) ?_
  refine jv_Wp.cnd jv_i307 (pt := 22) (pe := 15) (p := (¬ (I 205 (76800 + f.d)) = (4 : Int32))) (q := (¬ (I 205 (76800 + f.d)) = (4 : Int32))) rfl jv_bc_ne rfl rfl Iff.rfl (fun _ => ?_) (fun hz => absurd hp hz)
  refine jv_Wp.lift (fun _ Kz => jv_Ev.steps jv_i307 1 (pc' := 23) (l' := [(0, .ref 196), (1, .int (vl_I j)), (2, .int (vr_b b))]) (st' := [.ref 196, .int (1024 : Int32)]) rfl Kz) ?_
  refine jv_Wp.lift (fun _ Kz => jv_Ev.m jv_i307 (pc' := 26) (st' := [.int (vl_I f.s), .int (1024 : Int32)]) (G' := (jv_H K I L R)) rfl rfl (jv_m_getI (jv_rwK hW 196 12 24 (by decide)) rfl rfl D.2.2.1) Kz) ?_
  refine jv_Wp.lift (fun _ Kz => jv_Ev.c jv_i307 (pc' := 29) (S' := [.int (vl_I (8 + (76800 + f.s)))]) jv_i254 [.int (1024 : Int32), .int (vl_I f.s)] rfl rfl rfl rfl rfl rfl (vq_row 1024 f.s) rfl rfl Kz) ?_
  refine jv_Wp.lift (fun _ Kz => jv_Ev.steps jv_i307 2 (pc' := 31) (l' := [(3, .int (vl_I (8 + (76800 + f.s)))), (0, .ref 196), (1, .int (vl_I j)), (2, .int (vr_b b))]) (st' := [.ref 196]) rfl Kz) ?_
  refine jv_Wp.lift (fun _ Kz => jv_Ev.m jv_i307 (pc' := 34) (st' := [.ref 208]) (G' := (jv_H K I L R)) rfl rfl (jv_m_getR (jv_rwK hW 196 12 24 (by decide)) rfl rfl (jv_rwR hW 196 16 208 (by decide))) Kz) ?_
  refine jv_Wp.lift (fun _ Kz => jv_Ev.m jv_i307 (pc' := 37) (st' := [.ref 211]) (G' := (jv_H K I L R)) rfl rfl (jv_m_getR (jv_rwK hW 208 11 7 (by decide)) rfl rfl (jv_rwR hW 208 2 211 (by decide))) Kz) ?_
  refine jv_Wp.lift (fun _ Kz => jv_Ev.steps jv_i307 1 (pc' := 38) (l' := [(3, .int (vl_I (8 + (76800 + f.s)))), (0, .ref 196), (1, .int (vl_I j)), (2, .int (vr_b b))]) (st' := [.int (vl_I (8 + (76800 + f.s))), .ref 211]) rfl Kz) ?_
  refine jv_Wp.lift (fun _ Kz => jv_Ev.m jv_i307 (pc' := 39) (st' := [.long (L 211 (8 + (76800 + f.s)))]) (G' := (jv_H K I L R)) rfl rfl (jv_m_laldv (jv_rwK hW 211 103 77200 (by decide)) rfl (vl_I_ix (by omega) (by decide)) rfl ((congrArg (L 211) (vl_I_nat (by omega))).trans rfl)) Kz) ?_
  refine jv_Wp.lift (fun _ Kz => jv_Ev.steps jv_i307 2 (pc' := 42) (l' := [(4, .long (L 211 (8 + (76800 + f.s)))), (3, .int (vl_I (8 + (76800 + f.s)))), (0, .ref 196), (1, .int (vl_I j)), (2, .int (vr_b b))]) (st' := [.ref 196]) rfl Kz) ?_
  refine jv_Wp.lift (fun _ Kz => jv_Ev.m jv_i307 (pc' := 45) (st' := [.ref 208]) (G' := (jv_H K I L R)) rfl rfl (jv_m_getR (jv_rwK hW 196 12 24 (by decide)) rfl rfl (jv_rwR hW 196 16 208 (by decide))) Kz) ?_
  refine jv_Wp.lift (fun _ Kz => jv_Ev.steps jv_i307 1 (pc' := 46) (l' := [(4, .long (L 211 (8 + (76800 + f.s)))), (3, .int (vl_I (8 + (76800 + f.s)))), (0, .ref 196), (1, .int (vl_I j)), (2, .int (vr_b b))]) (st' := [.int (vl_I (8 + (76800 + f.s))), .ref 208]) rfl Kz) ?_
  refine jv_Wp.lift (fun _ Kz => jv_Ev.c jv_i307 (pc' := 49) (S' := [.int (vr_b (decide ((vr_S L (8 + (76800 + f.s))).low = (vr_S L (8 + (76800 + f.s))).high)))]) jv_i209 [.ref 208, .int (vl_I (8 + (76800 + f.s)))] rfl rfl rfl rfl (jv_cal rfl (jv_H_at (jv_rwK hW 208 11 7 (by decide))) rfl rfl) rfl (vq_isSingle (a := (8 + (76800 + f.s))) hW (by omega)) rfl rfl Kz) ?_
  refine jv_Wp.cnd jv_i307 (pt := 102) (pe := 52) (p := ((vr_b (decide ((vr_S L (8 + (76800 + f.s))).low = (vr_S L (8 + (76800 + f.s))).high))) = 0)) (q := ((vr_b (decide ((vr_S L (8 + (76800 + f.s))).low = (vr_S L (8 + (76800 + f.s))).high))) = 0)) rfl jv_bi_eq rfl rfl Iff.rfl (fun h1 => ?_) (fun h1 => ?_)
  · refine jv_Wp.of (jv_Ev.ret jv_i307 rfl rfl) ?_
    rw [hQ]
    have el : (L 211 (8 + (76800 + f.s))).toInt = (vb_toS (vr_S L (8 + (76800 + f.s)))).low.toInt := rfl
    have es : ¬ (vb_toS (vr_S L (8 + (76800 + f.s)))).low = (vb_toS (vr_S L (8 + (76800 + f.s)))).high := of_decide_eq_false (vr_b_f h1)
    exact ⟨_, _, rfl, by unfold vr_lrn; rw [if_pos (Or.inl es)], fun z => z, rfl, vr_fr_refl hf⟩
  · refine jv_Wp.lift (fun _ Kz => jv_Ev.steps jv_i307 3 (pc' := 56) (l' := [(4, .long (L 211 (8 + (76800 + f.s)))), (3, .int (vl_I (8 + (76800 + f.s)))), (0, .ref 196), (1, .int (vl_I j)), (2, .int (vr_b b))]) (st' := [.int (lg_cmp (L 211 (8 + (76800 + f.s))) (0 : Int64))]) rfl Kz) ?_
    refine jv_Wp.cnd jv_i307 (pt := 102) (pe := 59) (p := ((lg_cmp (L 211 (8 + (76800 + f.s))) (0 : Int64)) < 0)) (q := ((L 211 (8 + (76800 + f.s))) < (0 : Int64))) rfl jv_bi_lt rfl rfl (lg_cmp_lt (L 211 (8 + (76800 + f.s))) (0 : Int64)) (fun h2 => ?_) (fun h2 => ?_)
    · refine jv_Wp.of (jv_Ev.ret jv_i307 rfl rfl) ?_
      rw [hQ]
      have el : (L 211 (8 + (76800 + f.s))).toInt = (vb_toS (vr_S L (8 + (76800 + f.s)))).low.toInt := rfl
      have es : (vb_toS (vr_S L (8 + (76800 + f.s)))).low = (vb_toS (vr_S L (8 + (76800 + f.s)))).high := of_decide_eq_true (vr_b_t h1)
      have l0 : (0 : Int64).toInt = 0 := rfl
      have y1 : (L 211 (8 + (76800 + f.s))).toInt < (0 : Int64).toInt := Int64.lt_iff_toInt_lt.mp h2
      exact ⟨_, _, rfl, by unfold vr_lrn; rw [if_pos (Or.inr (by omega))], fun z => z, rfl, vr_fr_refl hf⟩
    · refine jv_Wp.lift (fun _ Kz => jv_Ev.steps jv_i307 3 (pc' := 63) (l' := [(4, .long (L 211 (8 + (76800 + f.s)))), (3, .int (vl_I (8 + (76800 + f.s)))), (0, .ref 196), (1, .int (vl_I j)), (2, .int (vr_b b))]) (st' := [.int (vr_b b), .int (L 211 (8 + (76800 + f.s))).toInt32]) rfl Kz) ?_
      refine jv_Wp.cnd jv_i307 (pt := 70) (pe := 66) (p := ((vr_b b) = 0)) (q := ((vr_b b) = 0)) rfl jv_bi_eq rfl rfl Iff.rfl (fun h3 => ?_) (fun h3 => ?_)
      · refine jv_Wp.lift (fun _ Kz => jv_Ev.steps jv_i307 4 (pc' := 75) (l' := [(6, .int ((L 211 (8 + (76800 + f.s))).toInt32 + (0 : Int32))), (4, .long (L 211 (8 + (76800 + f.s)))), (3, .int (vl_I (8 + (76800 + f.s)))), (0, .ref 196), (1, .int (vl_I j)), (2, .int (vr_b b))]) (st' := [.ref 196]) rfl Kz) ?_
        refine jv_Wp.lift (fun _ Kz => jv_Ev.m jv_i307 (pc' := 78) (st' := [.ref 203]) (G' := (jv_H K I L R)) rfl rfl (jv_m_getR (jv_rwK hW 196 12 24 (by decide)) rfl rfl (jv_rwR hW 196 11 203 (by decide))) Kz) ?_
        refine jv_Wp.lift (fun _ Kz => jv_Ev.steps jv_i307 3 (pc' := 82) (l' := [(6, .int ((L 211 (8 + (76800 + f.s))).toInt32 + (0 : Int32))), (4, .long (L 211 (8 + (76800 + f.s)))), (3, .int (vl_I (8 + (76800 + f.s)))), (0, .ref 196), (1, .int (vl_I j)), (2, .int (vr_b b))]) (st' := [.ref 196, .int ((L 211 (8 + (76800 + f.s))).toInt32 + (0 : Int32)), .int (vl_I j), .ref 203]) rfl Kz) ?_
        refine jv_Wp.lift (fun _ Kz => jv_Ev.m jv_i307 (pc' := 85) (st' := [.ref 203, .int ((L 211 (8 + (76800 + f.s))).toInt32 + (0 : Int32)), .int (vl_I j), .ref 203]) (G' := (jv_H K I L R)) rfl rfl (jv_m_getR (jv_rwK hW 196 12 24 (by decide)) rfl rfl (jv_rwR hW 196 11 203 (by decide))) Kz) ?_
        refine jv_Wp.lift (fun _ Kz => jv_Ev.steps jv_i307 1 (pc' := 86) (l' := [(6, .int ((L 211 (8 + (76800 + f.s))).toInt32 + (0 : Int32))), (4, .long (L 211 (8 + (76800 + f.s)))), (3, .int (vl_I (8 + (76800 + f.s)))), (0, .ref 196), (1, .int (vl_I j)), (2, .int (vr_b b))]) (st' := [.int (vl_I j), .ref 203, .int ((L 211 (8 + (76800 + f.s))).toInt32 + (0 : Int32)), .int (vl_I j), .ref 203]) rfl Kz) ?_
        refine jv_Wp.lift (fun _ Kz => jv_Ev.m jv_i307 (pc' := 87) (st' := [.int (I 203 j), .int ((L 211 (8 + (76800 + f.s))).toInt32 + (0 : Int32)), .int (vl_I j), .ref 203]) (G' := (jv_H K I L R)) rfl rfl (jv_m_ialdv (jv_rwK hW 203 102 1028 (by decide)) rfl (vl_I_ix (by omega) (by decide)) rfl ((congrArg (I 203) (vl_I_nat (by omega))).trans rfl)) Kz) ?_
        refine jv_Wp.cnd jv_i307 (pt := 95) (pe := 90) (p := (((L 211 (8 + (76800 + f.s))).toInt32 + (0 : Int32)) ≤ (I 203 j))) (q := (((L 211 (8 + (76800 + f.s))).toInt32 + (0 : Int32)) ≤ (I 203 j))) rfl jv_bc_le rfl rfl Iff.rfl (fun h4 => ?_) (fun h4 => ?_)
        · refine jv_Wp.lift (fun _ Kz => jv_Ev.steps jv_i307 1 (pc' := 96) (l' := [(6, .int ((L 211 (8 + (76800 + f.s))).toInt32 + (0 : Int32))), (4, .long (L 211 (8 + (76800 + f.s)))), (3, .int (vl_I (8 + (76800 + f.s)))), (0, .ref 196), (1, .int (vl_I j)), (2, .int (vr_b b))]) (st' := [.ref 196, .int (vl_I j), .ref 203]) rfl Kz) ?_
          refine jv_Wp.lift (fun _ Kz => jv_Ev.m jv_i307 (pc' := 99) (st' := [.ref 203, .int (vl_I j), .ref 203]) (G' := (jv_H K I L R)) rfl rfl (jv_m_getR (jv_rwK hW 196 12 24 (by decide)) rfl rfl (jv_rwR hW 196 11 203 (by decide))) Kz) ?_
          refine jv_Wp.lift (fun _ Kz => jv_Ev.steps jv_i307 1 (pc' := 100) (l' := [(6, .int ((L 211 (8 + (76800 + f.s))).toInt32 + (0 : Int32))), (4, .long (L 211 (8 + (76800 + f.s)))), (3, .int (vl_I (8 + (76800 + f.s)))), (0, .ref 196), (1, .int (vl_I j)), (2, .int (vr_b b))]) (st' := [.int (vl_I j), .ref 203, .int (vl_I j), .ref 203]) rfl Kz) ?_
          refine jv_Wp.lift (fun _ Kz => jv_Ev.m jv_i307 (pc' := 101) (st' := [.int (I 203 j), .int (vl_I j), .ref 203]) (G' := (jv_H K I L R)) rfl rfl (jv_m_ialdv (jv_rwK hW 203 102 1028 (by decide)) rfl (vl_I_ix (by omega) (by decide)) rfl ((congrArg (I 203) (vl_I_nat (by omega))).trans rfl)) Kz) ?_
          refine jv_Wp.lift (fun _ Kz => jv_Ev.m jv_i307 (pc' := 102) (st' := []) (G' := (jv_H K (jv_u I 203 j (I 203 j)) L R)) rfl rfl (by rw [jv_m_iast (jv_rwK hW 203 102 1028 (by decide)) (vl_I_ix (by omega) (by decide)), (vl_I_nat (by omega))]) Kz) ?_
          refine jv_Wp.of (jv_Ev.ret jv_i307 rfl rfl) ?_
          rw [hQ]
          have el : (L 211 (8 + (76800 + f.s))).toInt = (vb_toS (vr_S L (8 + (76800 + f.s)))).low.toInt := rfl
          have es : (vb_toS (vr_S L (8 + (76800 + f.s)))).low = (vb_toS (vr_S L (8 + (76800 + f.s)))).high := of_decide_eq_true (vr_b_t h1)
          have l0 : (0 : Int64).toInt = 0 := rfl
          have y1 : ¬ (L 211 (8 + (76800 + f.s))).toInt < (0 : Int64).toInt := fun z => h2 (Int64.lt_iff_toInt_lt.mpr z)
          have hb2 := hb es
          have e32 : ((L 211 (8 + (76800 + f.s))).toInt32).toInt = (vb_toS (vr_S L (8 + (76800 + f.s)))).low.toInt := by rw [Int64.toInt_toInt32, el]; exact vi_bm32 (by omega) (by omega)
          have eb : b = false := vr_b_f h3
          have en : ((L 211 (8 + (76800 + f.s))).toInt32 + (0 : Int32)).toInt = (vb_toS (vr_S L (8 + (76800 + f.s)))).low.toInt + 0 := by rw [Int32.toInt_add, e32]; exact vi_bm32 (by show _ ≤ (vb_toS (vr_S L (8 + (76800 + f.s)))).low.toInt + 0; omega) (by show (vb_toS (vr_S L (8 + (76800 + f.s)))).low.toInt + 0 < _; omega)
          have yc : (((L 211 (8 + (76800 + f.s))).toInt32 + (0 : Int32))).toInt ≤ ((I 203 j)).toInt := Int32.le_iff_toInt_le.mp h4
          have K := vr_known (I := I) (L := L) (I 203 j) j
          refine ⟨_, _, rfl, K.1.trans ?_, K.2.1, rfl, vr_fr_mono (K.2.2 hf) (fun _ z => z) (fun _ _ z => z)⟩
          unfold vr_lrn; rw [if_neg (fun z => z.elim (fun z => z es) (fun z => by omega)), eb]
          show _ = ((vr_A I L j).1, if (I 203 j).toInt < (vb_toS (vr_S L (8 + (76800 + f.s)))).low.toInt + (if (false = true) then (1 : Int) else 0) then (vb_toS (vr_S L (8 + (76800 + f.s)))).low.toInt + (if (false = true) then (1 : Int) else 0) else (I 203 j).toInt)
          rw [show (if (false = true) then (1 : Int) else 0) = 0 from rfl]
          rw [if_neg (by omega)]
        · refine jv_Wp.lift (fun _ Kz => jv_Ev.steps jv_i307 2 (pc' := 101) (l' := [(6, .int ((L 211 (8 + (76800 + f.s))).toInt32 + (0 : Int32))), (4, .long (L 211 (8 + (76800 + f.s)))), (3, .int (vl_I (8 + (76800 + f.s)))), (0, .ref 196), (1, .int (vl_I j)), (2, .int (vr_b b))]) (st' := [.int ((L 211 (8 + (76800 + f.s))).toInt32 + (0 : Int32)), .int (vl_I j), .ref 203]) rfl Kz) ?_
          refine jv_Wp.lift (fun _ Kz => jv_Ev.m jv_i307 (pc' := 102) (st' := []) (G' := (jv_H K (jv_u I 203 j ((L 211 (8 + (76800 + f.s))).toInt32 + (0 : Int32))) L R)) rfl rfl (by rw [jv_m_iast (jv_rwK hW 203 102 1028 (by decide)) (vl_I_ix (by omega) (by decide)), (vl_I_nat (by omega))]) Kz) ?_
          refine jv_Wp.of (jv_Ev.ret jv_i307 rfl rfl) ?_
          rw [hQ]
          have el : (L 211 (8 + (76800 + f.s))).toInt = (vb_toS (vr_S L (8 + (76800 + f.s)))).low.toInt := rfl
          have es : (vb_toS (vr_S L (8 + (76800 + f.s)))).low = (vb_toS (vr_S L (8 + (76800 + f.s)))).high := of_decide_eq_true (vr_b_t h1)
          have l0 : (0 : Int64).toInt = 0 := rfl
          have y1 : ¬ (L 211 (8 + (76800 + f.s))).toInt < (0 : Int64).toInt := fun z => h2 (Int64.lt_iff_toInt_lt.mpr z)
          have hb2 := hb es
          have e32 : ((L 211 (8 + (76800 + f.s))).toInt32).toInt = (vb_toS (vr_S L (8 + (76800 + f.s)))).low.toInt := by rw [Int64.toInt_toInt32, el]; exact vi_bm32 (by omega) (by omega)
          have eb : b = false := vr_b_f h3
          have en : ((L 211 (8 + (76800 + f.s))).toInt32 + (0 : Int32)).toInt = (vb_toS (vr_S L (8 + (76800 + f.s)))).low.toInt + 0 := by rw [Int32.toInt_add, e32]; exact vi_bm32 (by show _ ≤ (vb_toS (vr_S L (8 + (76800 + f.s)))).low.toInt + 0; omega) (by show (vb_toS (vr_S L (8 + (76800 + f.s)))).low.toInt + 0 < _; omega)
          have yc : ¬ (((L 211 (8 + (76800 + f.s))).toInt32 + (0 : Int32))).toInt ≤ ((I 203 j)).toInt := fun z => h4 (Int32.le_iff_toInt_le.mpr z)
          have K := vr_known (I := I) (L := L) ((L 211 (8 + (76800 + f.s))).toInt32 + (0 : Int32)) j
          refine ⟨_, _, rfl, K.1.trans ?_, K.2.1, rfl, vr_fr_mono (K.2.2 hf) (fun _ z => z) (fun _ _ z => z)⟩
          unfold vr_lrn; rw [if_neg (fun z => z.elim (fun z => z es) (fun z => by omega)), eb]
          show _ = ((vr_A I L j).1, if (I 203 j).toInt < (vb_toS (vr_S L (8 + (76800 + f.s)))).low.toInt + (if (false = true) then (1 : Int) else 0) then (vb_toS (vr_S L (8 + (76800 + f.s)))).low.toInt + (if (false = true) then (1 : Int) else 0) else (I 203 j).toInt)
          rw [show (if (false = true) then (1 : Int) else 0) = 0 from rfl]
          rw [if_pos (by omega), en]
      · refine jv_Wp.lift (fun _ Kz => jv_Ev.steps jv_i307 5 (pc' := 75) (l' := [(6, .int ((L 211 (8 + (76800 + f.s))).toInt32 + (1 : Int32))), (4, .long (L 211 (8 + (76800 + f.s)))), (3, .int (vl_I (8 + (76800 + f.s)))), (0, .ref 196), (1, .int (vl_I j)), (2, .int (vr_b b))]) (st' := [.ref 196]) rfl Kz) ?_
        refine jv_Wp.lift (fun _ Kz => jv_Ev.m jv_i307 (pc' := 78) (st' := [.ref 203]) (G' := (jv_H K I L R)) rfl rfl (jv_m_getR (jv_rwK hW 196 12 24 (by decide)) rfl rfl (jv_rwR hW 196 11 203 (by decide))) Kz) ?_
        refine jv_Wp.lift (fun _ Kz => jv_Ev.steps jv_i307 3 (pc' := 82) (l' := [(6, .int ((L 211 (8 + (76800 + f.s))).toInt32 + (1 : Int32))), (4, .long (L 211 (8 + (76800 + f.s)))), (3, .int (vl_I (8 + (76800 + f.s)))), (0, .ref 196), (1, .int (vl_I j)), (2, .int (vr_b b))]) (st' := [.ref 196, .int ((L 211 (8 + (76800 + f.s))).toInt32 + (1 : Int32)), .int (vl_I j), .ref 203]) rfl Kz) ?_
        refine jv_Wp.lift (fun _ Kz => jv_Ev.m jv_i307 (pc' := 85) (st' := [.ref 203, .int ((L 211 (8 + (76800 + f.s))).toInt32 + (1 : Int32)), .int (vl_I j), .ref 203]) (G' := (jv_H K I L R)) rfl rfl (jv_m_getR (jv_rwK hW 196 12 24 (by decide)) rfl rfl (jv_rwR hW 196 11 203 (by decide))) Kz) ?_
        refine jv_Wp.lift (fun _ Kz => jv_Ev.steps jv_i307 1 (pc' := 86) (l' := [(6, .int ((L 211 (8 + (76800 + f.s))).toInt32 + (1 : Int32))), (4, .long (L 211 (8 + (76800 + f.s)))), (3, .int (vl_I (8 + (76800 + f.s)))), (0, .ref 196), (1, .int (vl_I j)), (2, .int (vr_b b))]) (st' := [.int (vl_I j), .ref 203, .int ((L 211 (8 + (76800 + f.s))).toInt32 + (1 : Int32)), .int (vl_I j), .ref 203]) rfl Kz) ?_
        refine jv_Wp.lift (fun _ Kz => jv_Ev.m jv_i307 (pc' := 87) (st' := [.int (I 203 j), .int ((L 211 (8 + (76800 + f.s))).toInt32 + (1 : Int32)), .int (vl_I j), .ref 203]) (G' := (jv_H K I L R)) rfl rfl (jv_m_ialdv (jv_rwK hW 203 102 1028 (by decide)) rfl (vl_I_ix (by omega) (by decide)) rfl ((congrArg (I 203) (vl_I_nat (by omega))).trans rfl)) Kz) ?_
        refine jv_Wp.cnd jv_i307 (pt := 95) (pe := 90) (p := (((L 211 (8 + (76800 + f.s))).toInt32 + (1 : Int32)) ≤ (I 203 j))) (q := (((L 211 (8 + (76800 + f.s))).toInt32 + (1 : Int32)) ≤ (I 203 j))) rfl jv_bc_le rfl rfl Iff.rfl (fun h5 => ?_) (fun h5 => ?_)
        · refine jv_Wp.lift (fun _ Kz => jv_Ev.steps jv_i307 1 (pc' := 96) (l' := [(6, .int ((L 211 (8 + (76800 + f.s))).toInt32 + (1 : Int32))), (4, .long (L 211 (8 + (76800 + f.s)))), (3, .int (vl_I (8 + (76800 + f.s)))), (0, .ref 196), (1, .int (vl_I j)), (2, .int (vr_b b))]) (st' := [.ref 196, .int (vl_I j), .ref 203]) rfl Kz) ?_
          refine jv_Wp.lift (fun _ Kz => jv_Ev.m jv_i307 (pc' := 99) (st' := [.ref 203, .int (vl_I j), .ref 203]) (G' := (jv_H K I L R)) rfl rfl (jv_m_getR (jv_rwK hW 196 12 24 (by decide)) rfl rfl (jv_rwR hW 196 11 203 (by decide))) Kz) ?_
          refine jv_Wp.lift (fun _ Kz => jv_Ev.steps jv_i307 1 (pc' := 100) (l' := [(6, .int ((L 211 (8 + (76800 + f.s))).toInt32 + (1 : Int32))), (4, .long (L 211 (8 + (76800 + f.s)))), (3, .int (vl_I (8 + (76800 + f.s)))), (0, .ref 196), (1, .int (vl_I j)), (2, .int (vr_b b))]) (st' := [.int (vl_I j), .ref 203, .int (vl_I j), .ref 203]) rfl Kz) ?_
          refine jv_Wp.lift (fun _ Kz => jv_Ev.m jv_i307 (pc' := 101) (st' := [.int (I 203 j), .int (vl_I j), .ref 203]) (G' := (jv_H K I L R)) rfl rfl (jv_m_ialdv (jv_rwK hW 203 102 1028 (by decide)) rfl (vl_I_ix (by omega) (by decide)) rfl ((congrArg (I 203) (vl_I_nat (by omega))).trans rfl)) Kz) ?_
          refine jv_Wp.lift (fun _ Kz => jv_Ev.m jv_i307 (pc' := 102) (st' := []) (G' := (jv_H K (jv_u I 203 j (I 203 j)) L R)) rfl rfl (by rw [jv_m_iast (jv_rwK hW 203 102 1028 (by decide)) (vl_I_ix (by omega) (by decide)), (vl_I_nat (by omega))]) Kz) ?_
          refine jv_Wp.of (jv_Ev.ret jv_i307 rfl rfl) ?_
          rw [hQ]
          have el : (L 211 (8 + (76800 + f.s))).toInt = (vb_toS (vr_S L (8 + (76800 + f.s)))).low.toInt := rfl
          have es : (vb_toS (vr_S L (8 + (76800 + f.s)))).low = (vb_toS (vr_S L (8 + (76800 + f.s)))).high := of_decide_eq_true (vr_b_t h1)
          have l0 : (0 : Int64).toInt = 0 := rfl
          have y1 : ¬ (L 211 (8 + (76800 + f.s))).toInt < (0 : Int64).toInt := fun z => h2 (Int64.lt_iff_toInt_lt.mpr z)
          have hb2 := hb es
          have e32 : ((L 211 (8 + (76800 + f.s))).toInt32).toInt = (vb_toS (vr_S L (8 + (76800 + f.s)))).low.toInt := by rw [Int64.toInt_toInt32, el]; exact vi_bm32 (by omega) (by omega)
          have eb : b = true := vr_b_t h3
          have en : ((L 211 (8 + (76800 + f.s))).toInt32 + (1 : Int32)).toInt = (vb_toS (vr_S L (8 + (76800 + f.s)))).low.toInt + 1 := by rw [Int32.toInt_add, e32]; exact vi_bm32 (by show _ ≤ (vb_toS (vr_S L (8 + (76800 + f.s)))).low.toInt + 1; omega) (by show (vb_toS (vr_S L (8 + (76800 + f.s)))).low.toInt + 1 < _; omega)
          have yc : (((L 211 (8 + (76800 + f.s))).toInt32 + (1 : Int32))).toInt ≤ ((I 203 j)).toInt := Int32.le_iff_toInt_le.mp h5
          have K := vr_known (I := I) (L := L) (I 203 j) j
          refine ⟨_, _, rfl, K.1.trans ?_, K.2.1, rfl, vr_fr_mono (K.2.2 hf) (fun _ z => z) (fun _ _ z => z)⟩
          unfold vr_lrn; rw [if_neg (fun z => z.elim (fun z => z es) (fun z => by omega)), eb]
          show _ = ((vr_A I L j).1, if (I 203 j).toInt < (vb_toS (vr_S L (8 + (76800 + f.s)))).low.toInt + (if (true = true) then (1 : Int) else 0) then (vb_toS (vr_S L (8 + (76800 + f.s)))).low.toInt + (if (true = true) then (1 : Int) else 0) else (I 203 j).toInt)
          rw [show (if (true = true) then (1 : Int) else 0) = 1 from rfl]
          rw [if_neg (by omega)]
        · refine jv_Wp.lift (fun _ Kz => jv_Ev.steps jv_i307 2 (pc' := 101) (l' := [(6, .int ((L 211 (8 + (76800 + f.s))).toInt32 + (1 : Int32))), (4, .long (L 211 (8 + (76800 + f.s)))), (3, .int (vl_I (8 + (76800 + f.s)))), (0, .ref 196), (1, .int (vl_I j)), (2, .int (vr_b b))]) (st' := [.int ((L 211 (8 + (76800 + f.s))).toInt32 + (1 : Int32)), .int (vl_I j), .ref 203]) rfl Kz) ?_
          refine jv_Wp.lift (fun _ Kz => jv_Ev.m jv_i307 (pc' := 102) (st' := []) (G' := (jv_H K (jv_u I 203 j ((L 211 (8 + (76800 + f.s))).toInt32 + (1 : Int32))) L R)) rfl rfl (by rw [jv_m_iast (jv_rwK hW 203 102 1028 (by decide)) (vl_I_ix (by omega) (by decide)), (vl_I_nat (by omega))]) Kz) ?_
          refine jv_Wp.of (jv_Ev.ret jv_i307 rfl rfl) ?_
          rw [hQ]
          have el : (L 211 (8 + (76800 + f.s))).toInt = (vb_toS (vr_S L (8 + (76800 + f.s)))).low.toInt := rfl
          have es : (vb_toS (vr_S L (8 + (76800 + f.s)))).low = (vb_toS (vr_S L (8 + (76800 + f.s)))).high := of_decide_eq_true (vr_b_t h1)
          have l0 : (0 : Int64).toInt = 0 := rfl
          have y1 : ¬ (L 211 (8 + (76800 + f.s))).toInt < (0 : Int64).toInt := fun z => h2 (Int64.lt_iff_toInt_lt.mpr z)
          have hb2 := hb es
          have e32 : ((L 211 (8 + (76800 + f.s))).toInt32).toInt = (vb_toS (vr_S L (8 + (76800 + f.s)))).low.toInt := by rw [Int64.toInt_toInt32, el]; exact vi_bm32 (by omega) (by omega)
          have eb : b = true := vr_b_t h3
          have en : ((L 211 (8 + (76800 + f.s))).toInt32 + (1 : Int32)).toInt = (vb_toS (vr_S L (8 + (76800 + f.s)))).low.toInt + 1 := by rw [Int32.toInt_add, e32]; exact vi_bm32 (by show _ ≤ (vb_toS (vr_S L (8 + (76800 + f.s)))).low.toInt + 1; omega) (by show (vb_toS (vr_S L (8 + (76800 + f.s)))).low.toInt + 1 < _; omega)
          have yc : ¬ (((L 211 (8 + (76800 + f.s))).toInt32 + (1 : Int32))).toInt ≤ ((I 203 j)).toInt := fun z => h5 (Int32.le_iff_toInt_le.mpr z)
          have K := vr_known (I := I) (L := L) ((L 211 (8 + (76800 + f.s))).toInt32 + (1 : Int32)) j
          refine ⟨_, _, rfl, K.1.trans ?_, K.2.1, rfl, vr_fr_mono (K.2.2 hf) (fun _ z => z) (fun _ _ z => z)⟩
          unfold vr_lrn; rw [if_neg (fun z => z.elim (fun z => z es) (fun z => by omega)), eb]
          show _ = ((vr_A I L j).1, if (I 203 j).toInt < (vb_toS (vr_S L (8 + (76800 + f.s)))).low.toInt + (if (true = true) then (1 : Int) else 0) then (vb_toS (vr_S L (8 + (76800 + f.s)))).low.toInt + (if (true = true) then (1 : Int) else 0) else (I 203 j).toInt)
          rw [show (if (true = true) then (1 : Int) else 0) = 1 from rfl]
          rw [if_pos (by omega), en]
theorem jv_i308 : jv_I 308 5 none 3 68 jv_c308 := ⟨rfl, rfl, rfl, rfl, rfl⟩
theorem vq_learnBothT {K : Nat → Option (Nat × Nat)} {I : Nat → Nat → Int32} {L : Nat → Nat → Int64} {R : Nat → Nat → Value} (f : vf_F) (hW : jv_rW K R) (hf : vr_fl I) (D : vr_dec I f) (hn : f.n = 2 ∨ f.n = 3 ∨ f.n = 10 ∨ f.n = 11) (hd11 : f.d < 11) (hs11 : f.s < 11) (o25 : vr_okA I 1025) (o27 : vr_okA I 1027) (hp : I 205 (76800 + f.d) = 4) (hb : (vb_toS (vr_S L (8 + (76800 + f.d)))).low = (vb_toS (vr_S L (8 + (76800 + f.d)))).high → (vb_toS (vr_S L (8 + (76800 + f.d)))).low.toInt ≤ 536870912) {n sl : Nat} : ∃ I1 L1, jv_Ms 308 [.ref 196] (jv_H K I L R) n sl (none, jv_H K I1 L1 R, n, sl) ∧ vr_A I1 L1 1027 = (vx_ms f.n true (vb_toS (vr_S L (8 + (76800 + f.d)))) (vr_A I L 1027) (vr_A I L 1025)).1 ∧ vr_A I1 L1 1025 = (vx_ms f.n true (vb_toS (vr_S L (8 + (76800 + f.d)))) (vr_A I L 1027) (vr_A I L 1025)).2 ∧ vr_okA I1 1027 ∧ vr_okA I1 1025 ∧ L1 = L ∧ vr_fr noP (fun q g => q = 203 ∧ (g = 1025 ∨ g = 1027)) I L I1 L1 := by
  obtain ⟨Q, hQ⟩ : ∃ Q : jv_R → Prop, Q = fun X => ∃ I1 L1, X = (none, jv_H K I1 L1 R, n, sl) ∧ vr_A I1 L1 1027 = (vx_ms f.n true (vb_toS (vr_S L (8 + (76800 + f.d)))) (vr_A I L 1027) (vr_A I L 1025)).1 ∧ vr_A I1 L1 1025 = (vx_ms f.n true (vb_toS (vr_S L (8 + (76800 + f.d)))) (vr_A I L 1027) (vr_A I L 1025)).2 ∧ vr_okA I1 1027 ∧ vr_okA I1 1025 ∧ L1 = L ∧ vr_fr noP (fun q g => q = 203 ∧ (g = 1025 ∨ g = 1027)) I L I1 L1 := ⟨_, rfl⟩
  suffices h : jv_Wp 308 0 [(0, .ref 196)] [] (jv_H K I L R) n sl Q by
    rw [hQ] at h
    obtain ⟨X, h, I1, L1, e, h'⟩ := h
    subst e
    exact ⟨I1, L1, h, h'⟩
  refine jv_Wp.lift (fun _ Kz => jv_Ev.steps jv_i308 2 (pc' := 2) (l' := [(0, .ref 196)]) (st' := [.ref 196, .ref 196]) rfl Kz) ?_
  refine jv_Wp.lift (fun _ Kz => jv_Ev.m jv_i308 (pc' := 5) (st' := [.int (vl_I f.d), .ref 196]) (G' := (jv_H K I L R)) rfl rfl (jv_m_getI (jv_rwK hW 196 12 24 (by decide)) rfl rfl D.2.1) Kz) ?_
  refine jv_Wp.lift (fun _ Kz => jv_Ev.c jv_i308 (pc' := 8) (S' := [.int (I 205 (76800 + f.d))]) jv_i271 [.ref 196, .int (vl_I f.d)] rfl rfl rfl rfl (jv_cal rfl (jv_H_at (jv_rwK hW 196 12 24 (by decide))) rfl rfl) rfl (vq_sortOf f.d hW (by omega)) rfl rfl Kz) ?_
  refine jv_Wp.lift (fun _ Kz => jv_Ev.steps jv_i308 1 (pc' := 9) (l' := [(0, .ref 196)]) (st' := [.int (4 : Int32), .int (I 205 (76800 + f.d))]) rfl Kz) ?_
  refine jv_Wp.cnd jv_i308 (pt := 16) (pe := 12) (p := (¬ (I 205 (76800 + f.d)) = (4 : Int32))) (q := (¬ (I 205 (76800 + f.d)) = (4 : Int32))) rfl jv_bc_ne rfl rfl Iff.rfl (fun hz => absurd hz (fun z => z hp)) (fun _ => ?_)
  refine jv_Wp.lift (fun _ Kz => jv_Ev.steps jv_i308 4 (pc' := 19) (l' := [(1, .int (1 : Int32)), (0, .ref 196)]) (st' := [.ref 196]) rfl Kz) ?_
  refine jv_Wp.lift (fun _ Kz => jv_Ev.c jv_i308 (pc' := 22) (S' := [.int (vl_I f.n)]) jv_i258 [.ref 196] rfl rfl rfl rfl (jv_cal rfl (jv_H_at (jv_rwK hW 196 12 24 (by decide))) rfl rfl) rfl (vq_n f hW D) rfl rfl Kz) ?_
  refine jv_Wp.lift (fun _ Kz => jv_Ev.steps jv_i308 2 (pc' := 24) (l' := [(2, .int (vl_I f.n)), (1, .int (1 : Int32)), (0, .ref 196)]) (st' := [.int (1 : Int32)]) rfl Kz) ?_
  refine jv_Wp.lift (fun _ Kz => jv_Ev.br jv_i308 (pc' := 27) (st' := []) rfl (by rfl) Kz) ?_
  refine jv_Wp.lift (fun _ Kz => jv_Ev.steps jv_i308 2 (pc' := 30) (l' := [(2, .int (vl_I f.n)), (1, .int (1 : Int32)), (0, .ref 196)]) (st' := [.int (10 : Int32), .int (vl_I f.n)]) rfl Kz) ?_
  refine jv_Wp.cnd jv_i308 (pt := 39) (pe := 33) (p := ((vl_I f.n) = (10 : Int32))) (q := ((vl_I f.n) = (10 : Int32))) rfl jv_bc_eq rfl rfl Iff.rfl (fun h1 => ?_) (fun h1 => ?_)
  · refine jv_Wp.lift (fun _ Kz => jv_Ev.steps jv_i308 4 (pc' := 64) (l' := [(3, .int (1 : Int32)), (2, .int (vl_I f.n)), (1, .int (1 : Int32)), (0, .ref 196)]) (st' := [.int (1 : Int32)]) rfl Kz) ?_
    refine jv_Wp.lift (fun _ Kz => jv_Ev.br jv_i308 (pc' := 67) (st' := []) rfl (by rfl) Kz) ?_
    refine jv_Wp.lift (fun _ Kz => jv_Ev.steps jv_i308 2 (pc' := 70) (l' := [(3, .int (1 : Int32)), (2, .int (vl_I f.n)), (1, .int (1 : Int32)), (0, .ref 196)]) (st' := [.int (10 : Int32), .int (vl_I f.n)]) rfl Kz) ?_
    refine jv_Wp.cnd jv_i308 (pt := 78) (pe := 73) (p := ((vl_I f.n) = (10 : Int32))) (q := ((vl_I f.n) = (10 : Int32))) rfl jv_bc_eq rfl rfl Iff.rfl (fun _ => ?_) (fun hz => absurd h1 hz)
    refine jv_Wp.lift (fun _ Kz => jv_Ev.steps jv_i308 5 (pc' := 118) (l' := [(4, .int (1 : Int32)), (3, .int (1 : Int32)), (2, .int (vl_I f.n)), (1, .int (1 : Int32)), (0, .ref 196)]) (st' := [.int (1 : Int32), .ref 196]) rfl Kz) ?_
    refine jv_Wp.lift (fun _ Kz => jv_Ev.br jv_i308 (pc' := 121) (st' := [.ref 196]) rfl (by rfl) Kz) ?_
    refine jv_Wp.lift (fun _ Kz => jv_Ev.steps jv_i308 3 (pc' := 132) (l' := [(4, .int (1 : Int32)), (3, .int (1 : Int32)), (2, .int (vl_I f.n)), (1, .int (1 : Int32)), (0, .ref 196)]) (st' := [.int (1 : Int32), .int (1025 : Int32), .ref 196]) rfl Kz) ?_
    obtain ⟨I5, L5, H5, E5, O5, eL5, F5⟩ := vq_learnT (I := I) (L := L) (R := R) (n := n) (sl := sl) f 1025 true hW hf D hd11 hs11 (by decide) hp hb
    refine jv_Wp.lift (fun _ Kz => jv_Ev.c jv_i308 (pc' := 135) (S' := []) (G1 := (jv_H K I5 L5 R)) jv_i307 [.ref 196, .int (1025 : Int32), .int (1 : Int32)] rfl rfl rfl rfl (jv_cal rfl (jv_H_at (jv_rwK hW 196 12 24 (by decide))) rfl rfl) rfl H5 rfl rfl Kz) ?_
    refine jv_Wp.of (jv_Ev.ret jv_i308 rfl rfl) ?_
    rw [hQ]
    have mn10 : f.n = 10 := (vr_sm (v := 10) (by omega) (by decide) rfl).mp h1
    have en : f.n = 10 := by omega
    have ms := vx_ms10t (vb_toS (vr_S L (8 + (76800 + f.d)))) (vr_A I L 1027) (vr_A I L 1025)
    have Eo : vr_A I5 L5 1027 = vr_A I L 1027 := vr_fr_Ak F5 (fun _ _ z => z) (fun z => absurd z.2 (by decide))
    have Oo : vr_okA I 1027 → vr_okA I5 1027 := vr_fr_okA F5 (fun _ _ z => z)
    skip
    exact ⟨_, _, rfl, by rw [en, ms]; exact Eo, by rw [en, ms]; exact E5, Oo o27, O5 o25, eL5, vr_fr_mono F5 (fun _ z => z) (fun _ _ z => ⟨z.1, by omega⟩)⟩
  · refine jv_Wp.lift (fun _ Kz => jv_Ev.steps jv_i308 2 (pc' := 36) (l' := [(2, .int (vl_I f.n)), (1, .int (1 : Int32)), (0, .ref 196)]) (st' := [.int (11 : Int32), .int (vl_I f.n)]) rfl Kz) ?_
    refine jv_Wp.cnd jv_i308 (pt := 43) (pe := 39) (p := (¬ (vl_I f.n) = (11 : Int32))) (q := (¬ (vl_I f.n) = (11 : Int32))) rfl jv_bc_ne rfl rfl Iff.rfl (fun h2 => ?_) (fun h2 => ?_)
    · refine jv_Wp.lift (fun _ Kz => jv_Ev.steps jv_i308 4 (pc' := 64) (l' := [(3, .int (0 : Int32)), (2, .int (vl_I f.n)), (1, .int (1 : Int32)), (0, .ref 196)]) (st' := [.int (0 : Int32)]) rfl Kz) ?_
      refine jv_Wp.lift (fun _ Kz => jv_Ev.br jv_i308 (pc' := 86) (st' := []) rfl (by rfl) Kz) ?_
      refine jv_Wp.lift (fun _ Kz => jv_Ev.steps jv_i308 1 (pc' := 87) (l' := [(3, .int (0 : Int32)), (2, .int (vl_I f.n)), (1, .int (1 : Int32)), (0, .ref 196)]) (st' := [.int (1 : Int32)]) rfl Kz) ?_
      refine jv_Wp.lift (fun _ Kz => jv_Ev.br jv_i308 (pc' := 90) (st' := []) rfl (by rfl) Kz) ?_
      refine jv_Wp.lift (fun _ Kz => jv_Ev.steps jv_i308 2 (pc' := 92) (l' := [(3, .int (0 : Int32)), (2, .int (vl_I f.n)), (1, .int (1 : Int32)), (0, .ref 196)]) (st' := [.int (3 : Int32), .int (vl_I f.n)]) rfl Kz) ?_
      refine jv_Wp.cnd jv_i308 (pt := 99) (pe := 95) (p := (¬ (vl_I f.n) = (3 : Int32))) (q := (¬ (vl_I f.n) = (3 : Int32))) rfl jv_bc_ne rfl rfl Iff.rfl (fun h3 => ?_) (fun h3 => ?_)
      · refine jv_Wp.lift (fun _ Kz => jv_Ev.steps jv_i308 5 (pc' := 118) (l' := [(4, .int (0 : Int32)), (3, .int (0 : Int32)), (2, .int (vl_I f.n)), (1, .int (1 : Int32)), (0, .ref 196)]) (st' := [.int (0 : Int32), .ref 196]) rfl Kz) ?_
        refine jv_Wp.lift (fun _ Kz => jv_Ev.br jv_i308 (pc' := 127) (st' := [.ref 196]) rfl (by rfl) Kz) ?_
        refine jv_Wp.lift (fun _ Kz => jv_Ev.steps jv_i308 2 (pc' := 132) (l' := [(4, .int (0 : Int32)), (3, .int (0 : Int32)), (2, .int (vl_I f.n)), (1, .int (1 : Int32)), (0, .ref 196)]) (st' := [.int (0 : Int32), .int (1027 : Int32), .ref 196]) rfl Kz) ?_
        obtain ⟨I6, L6, H6, E6, O6, eL6, F6⟩ := vq_learnT (I := I) (L := L) (R := R) (n := n) (sl := sl) f 1027 false hW hf D hd11 hs11 (by decide) hp hb
        refine jv_Wp.lift (fun _ Kz => jv_Ev.c jv_i308 (pc' := 135) (S' := []) (G1 := (jv_H K I6 L6 R)) jv_i307 [.ref 196, .int (1027 : Int32), .int (0 : Int32)] rfl rfl rfl rfl (jv_cal rfl (jv_H_at (jv_rwK hW 196 12 24 (by decide))) rfl rfl) rfl H6 rfl rfl Kz) ?_
        refine jv_Wp.of (jv_Ev.ret jv_i308 rfl rfl) ?_
        rw [hQ]
        have mn10 : ¬ f.n = 10 := (fun z => h1 ((vr_sm (v := 10) (by omega) (by decide) rfl).mpr z))
        have mn11 : ¬ f.n = 11 := (fun z => h2 ((vr_sm (v := 11) (by omega) (by decide) rfl).mpr z))
        have mn3 : ¬ f.n = 3 := (fun z => h3 ((vr_sm (v := 3) (by omega) (by decide) rfl).mpr z))
        have en : f.n = 2 := by omega
        have ms := vx_ms2t (vb_toS (vr_S L (8 + (76800 + f.d)))) (vr_A I L 1027) (vr_A I L 1025)
        have Eo : vr_A I6 L6 1025 = vr_A I L 1025 := vr_fr_Ak F6 (fun _ _ z => z) (fun z => absurd z.2 (by decide))
        have Oo : vr_okA I 1025 → vr_okA I6 1025 := vr_fr_okA F6 (fun _ _ z => z)
        skip
        exact ⟨_, _, rfl, by rw [en, ms]; exact E6, by rw [en, ms]; exact Eo, O6 o27, Oo o25, eL6, vr_fr_mono F6 (fun _ z => z) (fun _ _ z => ⟨z.1, by omega⟩)⟩
      · refine jv_Wp.lift (fun _ Kz => jv_Ev.steps jv_i308 5 (pc' := 118) (l' := [(4, .int (1 : Int32)), (3, .int (0 : Int32)), (2, .int (vl_I f.n)), (1, .int (1 : Int32)), (0, .ref 196)]) (st' := [.int (0 : Int32), .ref 196]) rfl Kz) ?_
        refine jv_Wp.lift (fun _ Kz => jv_Ev.br jv_i308 (pc' := 127) (st' := [.ref 196]) rfl (by rfl) Kz) ?_
        refine jv_Wp.lift (fun _ Kz => jv_Ev.steps jv_i308 2 (pc' := 132) (l' := [(4, .int (1 : Int32)), (3, .int (0 : Int32)), (2, .int (vl_I f.n)), (1, .int (1 : Int32)), (0, .ref 196)]) (st' := [.int (1 : Int32), .int (1027 : Int32), .ref 196]) rfl Kz) ?_
        obtain ⟨I7, L7, H7, E7, O7, eL7, F7⟩ := vq_learnT (I := I) (L := L) (R := R) (n := n) (sl := sl) f 1027 true hW hf D hd11 hs11 (by decide) hp hb
        refine jv_Wp.lift (fun _ Kz => jv_Ev.c jv_i308 (pc' := 135) (S' := []) (G1 := (jv_H K I7 L7 R)) jv_i307 [.ref 196, .int (1027 : Int32), .int (1 : Int32)] rfl rfl rfl rfl (jv_cal rfl (jv_H_at (jv_rwK hW 196 12 24 (by decide))) rfl rfl) rfl H7 rfl rfl Kz) ?_
        refine jv_Wp.of (jv_Ev.ret jv_i308 rfl rfl) ?_
        rw [hQ]
        have mn10 : ¬ f.n = 10 := (fun z => h1 ((vr_sm (v := 10) (by omega) (by decide) rfl).mpr z))
        have mn11 : ¬ f.n = 11 := (fun z => h2 ((vr_sm (v := 11) (by omega) (by decide) rfl).mpr z))
        have mn3 : f.n = 3 := (vr_sm (v := 3) (by omega) (by decide) rfl).mp (Classical.not_not.mp h3)
        have en : f.n = 3 := by omega
        have ms := vx_ms3t (vb_toS (vr_S L (8 + (76800 + f.d)))) (vr_A I L 1027) (vr_A I L 1025)
        have Eo : vr_A I7 L7 1025 = vr_A I L 1025 := vr_fr_Ak F7 (fun _ _ z => z) (fun z => absurd z.2 (by decide))
        have Oo : vr_okA I 1025 → vr_okA I7 1025 := vr_fr_okA F7 (fun _ _ z => z)
        skip
        exact ⟨_, _, rfl, by rw [en, ms]; exact E7, by rw [en, ms]; exact Eo, O7 o27, Oo o25, eL7, vr_fr_mono F7 (fun _ z => z) (fun _ _ z => ⟨z.1, by omega⟩)⟩
    · refine jv_Wp.lift (fun _ Kz => jv_Ev.steps jv_i308 4 (pc' := 64) (l' := [(3, .int (1 : Int32)), (2, .int (vl_I f.n)), (1, .int (1 : Int32)), (0, .ref 196)]) (st' := [.int (1 : Int32)]) rfl Kz) ?_
      refine jv_Wp.lift (fun _ Kz => jv_Ev.br jv_i308 (pc' := 67) (st' := []) rfl (by rfl) Kz) ?_
      refine jv_Wp.lift (fun _ Kz => jv_Ev.steps jv_i308 2 (pc' := 70) (l' := [(3, .int (1 : Int32)), (2, .int (vl_I f.n)), (1, .int (1 : Int32)), (0, .ref 196)]) (st' := [.int (10 : Int32), .int (vl_I f.n)]) rfl Kz) ?_
      refine jv_Wp.cnd jv_i308 (pt := 78) (pe := 73) (p := ((vl_I f.n) = (10 : Int32))) (q := ((vl_I f.n) = (10 : Int32))) rfl jv_bc_eq rfl rfl Iff.rfl (fun hz => absurd hz h1) (fun _ => ?_)
      refine jv_Wp.lift (fun _ Kz => jv_Ev.steps jv_i308 2 (pc' := 75) (l' := [(3, .int (1 : Int32)), (2, .int (vl_I f.n)), (1, .int (1 : Int32)), (0, .ref 196)]) (st' := [.int (2 : Int32), .int (vl_I f.n)]) rfl Kz) ?_
      refine jv_Wp.cnd jv_i308 (pt := 82) (pe := 78) (p := (¬ (vl_I f.n) = (2 : Int32))) (q := (¬ (vl_I f.n) = (2 : Int32))) rfl jv_bc_ne rfl rfl Iff.rfl (fun _ => ?_) (fun hz => absurd (fun z => absurd (z.symm.trans (Classical.not_not.mp h2)) (by decide)) hz)
      refine jv_Wp.lift (fun _ Kz => jv_Ev.steps jv_i308 5 (pc' := 118) (l' := [(4, .int (0 : Int32)), (3, .int (1 : Int32)), (2, .int (vl_I f.n)), (1, .int (1 : Int32)), (0, .ref 196)]) (st' := [.int (1 : Int32), .ref 196]) rfl Kz) ?_
      refine jv_Wp.lift (fun _ Kz => jv_Ev.br jv_i308 (pc' := 121) (st' := [.ref 196]) rfl (by rfl) Kz) ?_
      refine jv_Wp.lift (fun _ Kz => jv_Ev.steps jv_i308 3 (pc' := 132) (l' := [(4, .int (0 : Int32)), (3, .int (1 : Int32)), (2, .int (vl_I f.n)), (1, .int (1 : Int32)), (0, .ref 196)]) (st' := [.int (0 : Int32), .int (1025 : Int32), .ref 196]) rfl Kz) ?_
      obtain ⟨I8, L8, H8, E8, O8, eL8, F8⟩ := vq_learnT (I := I) (L := L) (R := R) (n := n) (sl := sl) f 1025 false hW hf D hd11 hs11 (by decide) hp hb
      refine jv_Wp.lift (fun _ Kz => jv_Ev.c jv_i308 (pc' := 135) (S' := []) (G1 := (jv_H K I8 L8 R)) jv_i307 [.ref 196, .int (1025 : Int32), .int (0 : Int32)] rfl rfl rfl rfl (jv_cal rfl (jv_H_at (jv_rwK hW 196 12 24 (by decide))) rfl rfl) rfl H8 rfl rfl Kz) ?_
      refine jv_Wp.of (jv_Ev.ret jv_i308 rfl rfl) ?_
      rw [hQ]
      have mn10 : ¬ f.n = 10 := (fun z => h1 ((vr_sm (v := 10) (by omega) (by decide) rfl).mpr z))
      have mn11 : f.n = 11 := (vr_sm (v := 11) (by omega) (by decide) rfl).mp (Classical.not_not.mp h2)
      have en : f.n = 11 := by omega
      have ms := vx_ms11t (vb_toS (vr_S L (8 + (76800 + f.d)))) (vr_A I L 1027) (vr_A I L 1025)
      have Eo : vr_A I8 L8 1027 = vr_A I L 1027 := vr_fr_Ak F8 (fun _ _ z => z) (fun z => absurd z.2 (by decide))
      have Oo : vr_okA I 1027 → vr_okA I8 1027 := vr_fr_okA F8 (fun _ _ z => z)
      skip
      exact ⟨_, _, rfl, by rw [en, ms]; exact Eo, by rw [en, ms]; exact E8, Oo o27, O8 o25, eL8, vr_fr_mono F8 (fun _ z => z) (fun _ _ z => ⟨z.1, by omega⟩)⟩
theorem vq_learnBothF {K : Nat → Option (Nat × Nat)} {I : Nat → Nat → Int32} {L : Nat → Nat → Int64} {R : Nat → Nat → Value} (f : vf_F) (hW : jv_rW K R) (hf : vr_fl I) (D : vr_dec I f) (hn : f.n = 2 ∨ f.n = 3 ∨ f.n = 10 ∨ f.n = 11) (hd11 : f.d < 11) (hs11 : f.s < 11) (o25 : vr_okA I 1025) (o27 : vr_okA I 1027) (hp : ¬ I 205 (76800 + f.d) = 4) (hb : (vb_toS (vr_S L (8 + (76800 + f.s)))).low = (vb_toS (vr_S L (8 + (76800 + f.s)))).high → (vb_toS (vr_S L (8 + (76800 + f.s)))).low.toInt ≤ 536870912) {n sl : Nat} : ∃ I1 L1, jv_Ms 308 [.ref 196] (jv_H K I L R) n sl (none, jv_H K I1 L1 R, n, sl) ∧ vr_A I1 L1 1027 = (vx_ms f.n false (vb_toS (vr_S L (8 + (76800 + f.s)))) (vr_A I L 1027) (vr_A I L 1025)).1 ∧ vr_A I1 L1 1025 = (vx_ms f.n false (vb_toS (vr_S L (8 + (76800 + f.s)))) (vr_A I L 1027) (vr_A I L 1025)).2 ∧ vr_okA I1 1027 ∧ vr_okA I1 1025 ∧ L1 = L ∧ vr_fr noP (fun q g => q = 203 ∧ (g = 1025 ∨ g = 1027)) I L I1 L1 := by
  obtain ⟨Q, hQ⟩ : ∃ Q : jv_R → Prop, Q = fun X => ∃ I1 L1, X = (none, jv_H K I1 L1 R, n, sl) ∧ vr_A I1 L1 1027 = (vx_ms f.n false (vb_toS (vr_S L (8 + (76800 + f.s)))) (vr_A I L 1027) (vr_A I L 1025)).1 ∧ vr_A I1 L1 1025 = (vx_ms f.n false (vb_toS (vr_S L (8 + (76800 + f.s)))) (vr_A I L 1027) (vr_A I L 1025)).2 ∧ vr_okA I1 1027 ∧ vr_okA I1 1025 ∧ L1 = L ∧ vr_fr noP (fun q g => q = 203 ∧ (g = 1025 ∨ g = 1027)) I L I1 L1 := ⟨_, rfl⟩
  suffices h : jv_Wp 308 0 [(0, .ref 196)] [] (jv_H K I L R) n sl Q by
    rw [hQ] at h
    obtain ⟨X, h, I1, L1, e, h'⟩ := h
    subst e
    exact ⟨I1, L1, h, h'⟩
  refine jv_Wp.lift (fun _ Kz => jv_Ev.steps jv_i308 2 (pc' := 2) (l' := [(0, .ref 196)]) (st' := [.ref 196, .ref 196]) rfl Kz) ?_
  refine jv_Wp.lift (fun _ Kz => jv_Ev.m jv_i308 (pc' := 5) (st' := [.int (vl_I f.d), .ref 196]) (G' := (jv_H K I L R)) rfl rfl (jv_m_getI (jv_rwK hW 196 12 24 (by decide)) rfl rfl D.2.1) Kz) ?_
  refine jv_Wp.lift (fun _ Kz => jv_Ev.c jv_i308 (pc' := 8) (S' := [.int (I 205 (76800 + f.d))]) jv_i271 [.ref 196, .int (vl_I f.d)] rfl rfl rfl rfl (jv_cal rfl (jv_H_at (jv_rwK hW 196 12 24 (by decide))) rfl rfl) rfl (vq_sortOf f.d hW (by omega)) rfl rfl Kz) ?_
  refine jv_Wp.lift (fun _ Kz => jv_Ev.steps jv_i308 1 (pc' := 9) (l' := [(0, .ref 196)]) (st' := [.int (4 : Int32), .int (I 205 (76800 + f.d))]) rfl Kz) ?_
  refine jv_Wp.cnd jv_i308 (pt := 16) (pe := 12) (p := (¬ (I 205 (76800 + f.d)) = (4 : Int32))) (q := (¬ (I 205 (76800 + f.d)) = (4 : Int32))) rfl jv_bc_ne rfl rfl Iff.rfl (fun _ => ?_) (fun hz => absurd hp hz)
  refine jv_Wp.lift (fun _ Kz => jv_Ev.steps jv_i308 3 (pc' := 19) (l' := [(1, .int (0 : Int32)), (0, .ref 196)]) (st' := [.ref 196]) rfl Kz) ?_
  refine jv_Wp.lift (fun _ Kz => jv_Ev.c jv_i308 (pc' := 22) (S' := [.int (vl_I f.n)]) jv_i258 [.ref 196] rfl rfl rfl rfl (jv_cal rfl (jv_H_at (jv_rwK hW 196 12 24 (by decide))) rfl rfl) rfl (vq_n f hW D) rfl rfl Kz) ?_
  refine jv_Wp.lift (fun _ Kz => jv_Ev.steps jv_i308 2 (pc' := 24) (l' := [(2, .int (vl_I f.n)), (1, .int (0 : Int32)), (0, .ref 196)]) (st' := [.int (0 : Int32)]) rfl Kz) ?_
  refine jv_Wp.lift (fun _ Kz => jv_Ev.br jv_i308 (pc' := 47) (st' := []) rfl (by rfl) Kz) ?_
  refine jv_Wp.lift (fun _ Kz => jv_Ev.steps jv_i308 2 (pc' := 49) (l' := [(2, .int (vl_I f.n)), (1, .int (0 : Int32)), (0, .ref 196)]) (st' := [.int (2 : Int32), .int (vl_I f.n)]) rfl Kz) ?_
  refine jv_Wp.cnd jv_i308 (pt := 57) (pe := 52) (p := ((vl_I f.n) = (2 : Int32))) (q := ((vl_I f.n) = (2 : Int32))) rfl jv_bc_eq rfl rfl Iff.rfl (fun h1 => ?_) (fun h1 => ?_)
  · refine jv_Wp.lift (fun _ Kz => jv_Ev.steps jv_i308 4 (pc' := 64) (l' := [(3, .int (1 : Int32)), (2, .int (vl_I f.n)), (1, .int (0 : Int32)), (0, .ref 196)]) (st' := [.int (1 : Int32)]) rfl Kz) ?_
    refine jv_Wp.lift (fun _ Kz => jv_Ev.br jv_i308 (pc' := 67) (st' := []) rfl (by rfl) Kz) ?_
    refine jv_Wp.lift (fun _ Kz => jv_Ev.steps jv_i308 2 (pc' := 70) (l' := [(3, .int (1 : Int32)), (2, .int (vl_I f.n)), (1, .int (0 : Int32)), (0, .ref 196)]) (st' := [.int (10 : Int32), .int (vl_I f.n)]) rfl Kz) ?_
    refine jv_Wp.cnd jv_i308 (pt := 78) (pe := 73) (p := ((vl_I f.n) = (10 : Int32))) (q := ((vl_I f.n) = (10 : Int32))) rfl jv_bc_eq rfl rfl Iff.rfl (fun hz => absurd hz (fun z => absurd (z.symm.trans h1) (by decide))) (fun _ => ?_)
    refine jv_Wp.lift (fun _ Kz => jv_Ev.steps jv_i308 2 (pc' := 75) (l' := [(3, .int (1 : Int32)), (2, .int (vl_I f.n)), (1, .int (0 : Int32)), (0, .ref 196)]) (st' := [.int (2 : Int32), .int (vl_I f.n)]) rfl Kz) ?_
    refine jv_Wp.cnd jv_i308 (pt := 82) (pe := 78) (p := (¬ (vl_I f.n) = (2 : Int32))) (q := (¬ (vl_I f.n) = (2 : Int32))) rfl jv_bc_ne rfl rfl Iff.rfl (fun hz => absurd hz (fun z => z h1)) (fun _ => ?_)
    refine jv_Wp.lift (fun _ Kz => jv_Ev.steps jv_i308 5 (pc' := 118) (l' := [(4, .int (1 : Int32)), (3, .int (1 : Int32)), (2, .int (vl_I f.n)), (1, .int (0 : Int32)), (0, .ref 196)]) (st' := [.int (1 : Int32), .ref 196]) rfl Kz) ?_
    refine jv_Wp.lift (fun _ Kz => jv_Ev.br jv_i308 (pc' := 121) (st' := [.ref 196]) rfl (by rfl) Kz) ?_
    refine jv_Wp.lift (fun _ Kz => jv_Ev.steps jv_i308 3 (pc' := 132) (l' := [(4, .int (1 : Int32)), (3, .int (1 : Int32)), (2, .int (vl_I f.n)), (1, .int (0 : Int32)), (0, .ref 196)]) (st' := [.int (1 : Int32), .int (1025 : Int32), .ref 196]) rfl Kz) ?_
    obtain ⟨I9, L9, H9, E9, O9, eL9, F9⟩ := vq_learnF (I := I) (L := L) (R := R) (n := n) (sl := sl) f 1025 true hW hf D hd11 hs11 (by decide) hp hb
    refine jv_Wp.lift (fun _ Kz => jv_Ev.c jv_i308 (pc' := 135) (S' := []) (G1 := (jv_H K I9 L9 R)) jv_i307 [.ref 196, .int (1025 : Int32), .int (1 : Int32)] rfl rfl rfl rfl (jv_cal rfl (jv_H_at (jv_rwK hW 196 12 24 (by decide))) rfl rfl) rfl H9 rfl rfl Kz) ?_
    refine jv_Wp.of (jv_Ev.ret jv_i308 rfl rfl) ?_
    rw [hQ]
    have mn2 : f.n = 2 := (vr_sm (v := 2) (by omega) (by decide) rfl).mp h1
    have en : f.n = 2 := by omega
    have ms := vx_ms2f (vb_toS (vr_S L (8 + (76800 + f.s)))) (vr_A I L 1027) (vr_A I L 1025)
    have Eo : vr_A I9 L9 1027 = vr_A I L 1027 := vr_fr_Ak F9 (fun _ _ z => z) (fun z => absurd z.2 (by decide))
    have Oo : vr_okA I 1027 → vr_okA I9 1027 := vr_fr_okA F9 (fun _ _ z => z)
    skip
    exact ⟨_, _, rfl, by rw [en, ms]; exact Eo, by rw [en, ms]; exact E9, Oo o27, O9 o25, eL9, vr_fr_mono F9 (fun _ z => z) (fun _ _ z => ⟨z.1, by omega⟩)⟩
  · refine jv_Wp.lift (fun _ Kz => jv_Ev.steps jv_i308 2 (pc' := 54) (l' := [(2, .int (vl_I f.n)), (1, .int (0 : Int32)), (0, .ref 196)]) (st' := [.int (3 : Int32), .int (vl_I f.n)]) rfl Kz) ?_
    refine jv_Wp.cnd jv_i308 (pt := 61) (pe := 57) (p := (¬ (vl_I f.n) = (3 : Int32))) (q := (¬ (vl_I f.n) = (3 : Int32))) rfl jv_bc_ne rfl rfl Iff.rfl (fun h2 => ?_) (fun h2 => ?_)
    · refine jv_Wp.lift (fun _ Kz => jv_Ev.steps jv_i308 3 (pc' := 64) (l' := [(3, .int (0 : Int32)), (2, .int (vl_I f.n)), (1, .int (0 : Int32)), (0, .ref 196)]) (st' := [.int (0 : Int32)]) rfl Kz) ?_
      refine jv_Wp.lift (fun _ Kz => jv_Ev.br jv_i308 (pc' := 86) (st' := []) rfl (by rfl) Kz) ?_
      refine jv_Wp.lift (fun _ Kz => jv_Ev.steps jv_i308 1 (pc' := 87) (l' := [(3, .int (0 : Int32)), (2, .int (vl_I f.n)), (1, .int (0 : Int32)), (0, .ref 196)]) (st' := [.int (0 : Int32)]) rfl Kz) ?_
      refine jv_Wp.lift (fun _ Kz => jv_Ev.br jv_i308 (pc' := 103) (st' := []) rfl (by rfl) Kz) ?_
      refine jv_Wp.lift (fun _ Kz => jv_Ev.steps jv_i308 2 (pc' := 106) (l' := [(3, .int (0 : Int32)), (2, .int (vl_I f.n)), (1, .int (0 : Int32)), (0, .ref 196)]) (st' := [.int (11 : Int32), .int (vl_I f.n)]) rfl Kz) ?_
      refine jv_Wp.cnd jv_i308 (pt := 113) (pe := 109) (p := (¬ (vl_I f.n) = (11 : Int32))) (q := (¬ (vl_I f.n) = (11 : Int32))) rfl jv_bc_ne rfl rfl Iff.rfl (fun h3 => ?_) (fun h3 => ?_)
      · refine jv_Wp.lift (fun _ Kz => jv_Ev.steps jv_i308 4 (pc' := 118) (l' := [(4, .int (0 : Int32)), (3, .int (0 : Int32)), (2, .int (vl_I f.n)), (1, .int (0 : Int32)), (0, .ref 196)]) (st' := [.int (0 : Int32), .ref 196]) rfl Kz) ?_
        refine jv_Wp.lift (fun _ Kz => jv_Ev.br jv_i308 (pc' := 127) (st' := [.ref 196]) rfl (by rfl) Kz) ?_
        refine jv_Wp.lift (fun _ Kz => jv_Ev.steps jv_i308 2 (pc' := 132) (l' := [(4, .int (0 : Int32)), (3, .int (0 : Int32)), (2, .int (vl_I f.n)), (1, .int (0 : Int32)), (0, .ref 196)]) (st' := [.int (0 : Int32), .int (1027 : Int32), .ref 196]) rfl Kz) ?_
        obtain ⟨I10, L10, H10, E10, O10, eL10, F10⟩ := vq_learnF (I := I) (L := L) (R := R) (n := n) (sl := sl) f 1027 false hW hf D hd11 hs11 (by decide) hp hb
        refine jv_Wp.lift (fun _ Kz => jv_Ev.c jv_i308 (pc' := 135) (S' := []) (G1 := (jv_H K I10 L10 R)) jv_i307 [.ref 196, .int (1027 : Int32), .int (0 : Int32)] rfl rfl rfl rfl (jv_cal rfl (jv_H_at (jv_rwK hW 196 12 24 (by decide))) rfl rfl) rfl H10 rfl rfl Kz) ?_
        refine jv_Wp.of (jv_Ev.ret jv_i308 rfl rfl) ?_
        rw [hQ]
        have mn2 : ¬ f.n = 2 := (fun z => h1 ((vr_sm (v := 2) (by omega) (by decide) rfl).mpr z))
        have mn3 : ¬ f.n = 3 := (fun z => h2 ((vr_sm (v := 3) (by omega) (by decide) rfl).mpr z))
        have mn11 : ¬ f.n = 11 := (fun z => h3 ((vr_sm (v := 11) (by omega) (by decide) rfl).mpr z))
        have en : f.n = 10 := by omega
        have ms := vx_ms10f (vb_toS (vr_S L (8 + (76800 + f.s)))) (vr_A I L 1027) (vr_A I L 1025)
        have Eo : vr_A I10 L10 1025 = vr_A I L 1025 := vr_fr_Ak F10 (fun _ _ z => z) (fun z => absurd z.2 (by decide))
        have Oo : vr_okA I 1025 → vr_okA I10 1025 := vr_fr_okA F10 (fun _ _ z => z)
        skip
        exact ⟨_, _, rfl, by rw [en, ms]; exact E10, by rw [en, ms]; exact Eo, O10 o27, Oo o25, eL10, vr_fr_mono F10 (fun _ z => z) (fun _ _ z => ⟨z.1, by omega⟩)⟩
      · refine jv_Wp.lift (fun _ Kz => jv_Ev.steps jv_i308 5 (pc' := 118) (l' := [(4, .int (1 : Int32)), (3, .int (0 : Int32)), (2, .int (vl_I f.n)), (1, .int (0 : Int32)), (0, .ref 196)]) (st' := [.int (0 : Int32), .ref 196]) rfl Kz) ?_
        refine jv_Wp.lift (fun _ Kz => jv_Ev.br jv_i308 (pc' := 127) (st' := [.ref 196]) rfl (by rfl) Kz) ?_
        refine jv_Wp.lift (fun _ Kz => jv_Ev.steps jv_i308 2 (pc' := 132) (l' := [(4, .int (1 : Int32)), (3, .int (0 : Int32)), (2, .int (vl_I f.n)), (1, .int (0 : Int32)), (0, .ref 196)]) (st' := [.int (1 : Int32), .int (1027 : Int32), .ref 196]) rfl Kz) ?_
        obtain ⟨I11, L11, H11, E11, O11, eL11, F11⟩ := vq_learnF (I := I) (L := L) (R := R) (n := n) (sl := sl) f 1027 true hW hf D hd11 hs11 (by decide) hp hb
        refine jv_Wp.lift (fun _ Kz => jv_Ev.c jv_i308 (pc' := 135) (S' := []) (G1 := (jv_H K I11 L11 R)) jv_i307 [.ref 196, .int (1027 : Int32), .int (1 : Int32)] rfl rfl rfl rfl (jv_cal rfl (jv_H_at (jv_rwK hW 196 12 24 (by decide))) rfl rfl) rfl H11 rfl rfl Kz) ?_
        refine jv_Wp.of (jv_Ev.ret jv_i308 rfl rfl) ?_
        rw [hQ]
        have mn2 : ¬ f.n = 2 := (fun z => h1 ((vr_sm (v := 2) (by omega) (by decide) rfl).mpr z))
        have mn3 : ¬ f.n = 3 := (fun z => h2 ((vr_sm (v := 3) (by omega) (by decide) rfl).mpr z))
        have mn11 : f.n = 11 := (vr_sm (v := 11) (by omega) (by decide) rfl).mp (Classical.not_not.mp h3)
        have en : f.n = 11 := by omega
        have ms := vx_ms11f (vb_toS (vr_S L (8 + (76800 + f.s)))) (vr_A I L 1027) (vr_A I L 1025)
        have Eo : vr_A I11 L11 1025 = vr_A I L 1025 := vr_fr_Ak F11 (fun _ _ z => z) (fun z => absurd z.2 (by decide))
        have Oo : vr_okA I 1025 → vr_okA I11 1025 := vr_fr_okA F11 (fun _ _ z => z)
        skip
        exact ⟨_, _, rfl, by rw [en, ms]; exact E11, by rw [en, ms]; exact Eo, O11 o27, Oo o25, eL11, vr_fr_mono F11 (fun _ z => z) (fun _ _ z => ⟨z.1, by omega⟩)⟩
    · refine jv_Wp.lift (fun _ Kz => jv_Ev.steps jv_i308 4 (pc' := 64) (l' := [(3, .int (1 : Int32)), (2, .int (vl_I f.n)), (1, .int (0 : Int32)), (0, .ref 196)]) (st' := [.int (1 : Int32)]) rfl Kz) ?_
      refine jv_Wp.lift (fun _ Kz => jv_Ev.br jv_i308 (pc' := 67) (st' := []) rfl (by rfl) Kz) ?_
      refine jv_Wp.lift (fun _ Kz => jv_Ev.steps jv_i308 2 (pc' := 70) (l' := [(3, .int (1 : Int32)), (2, .int (vl_I f.n)), (1, .int (0 : Int32)), (0, .ref 196)]) (st' := [.int (10 : Int32), .int (vl_I f.n)]) rfl Kz) ?_
      refine jv_Wp.cnd jv_i308 (pt := 78) (pe := 73) (p := ((vl_I f.n) = (10 : Int32))) (q := ((vl_I f.n) = (10 : Int32))) rfl jv_bc_eq rfl rfl Iff.rfl (fun hz => absurd hz (fun z => absurd (z.symm.trans (Classical.not_not.mp h2)) (by decide))) (fun _ => ?_)
      refine jv_Wp.lift (fun _ Kz => jv_Ev.steps jv_i308 2 (pc' := 75) (l' := [(3, .int (1 : Int32)), (2, .int (vl_I f.n)), (1, .int (0 : Int32)), (0, .ref 196)]) (st' := [.int (2 : Int32), .int (vl_I f.n)]) rfl Kz) ?_
      refine jv_Wp.cnd jv_i308 (pt := 82) (pe := 78) (p := (¬ (vl_I f.n) = (2 : Int32))) (q := (¬ (vl_I f.n) = (2 : Int32))) rfl jv_bc_ne rfl rfl Iff.rfl (fun _ => ?_) (fun hz => absurd h1 hz)
      refine jv_Wp.lift (fun _ Kz => jv_Ev.steps jv_i308 5 (pc' := 118) (l' := [(4, .int (0 : Int32)), (3, .int (1 : Int32)), (2, .int (vl_I f.n)), (1, .int (0 : Int32)), (0, .ref 196)]) (st' := [.int (1 : Int32), .ref 196]) rfl Kz) ?_
      refine jv_Wp.lift (fun _ Kz => jv_Ev.br jv_i308 (pc' := 121) (st' := [.ref 196]) rfl (by rfl) Kz) ?_
      refine jv_Wp.lift (fun _ Kz => jv_Ev.steps jv_i308 3 (pc' := 132) (l' := [(4, .int (0 : Int32)), (3, .int (1 : Int32)), (2, .int (vl_I f.n)), (1, .int (0 : Int32)), (0, .ref 196)]) (st' := [.int (0 : Int32), .int (1025 : Int32), .ref 196]) rfl Kz) ?_
      obtain ⟨I12, L12, H12, E12, O12, eL12, F12⟩ := vq_learnF (I := I) (L := L) (R := R) (n := n) (sl := sl) f 1025 false hW hf D hd11 hs11 (by decide) hp hb
      refine jv_Wp.lift (fun _ Kz => jv_Ev.c jv_i308 (pc' := 135) (S' := []) (G1 := (jv_H K I12 L12 R)) jv_i307 [.ref 196, .int (1025 : Int32), .int (0 : Int32)] rfl rfl rfl rfl (jv_cal rfl (jv_H_at (jv_rwK hW 196 12 24 (by decide))) rfl rfl) rfl H12 rfl rfl Kz) ?_
      refine jv_Wp.of (jv_Ev.ret jv_i308 rfl rfl) ?_
      rw [hQ]
      have mn2 : ¬ f.n = 2 := (fun z => h1 ((vr_sm (v := 2) (by omega) (by decide) rfl).mpr z))
      have mn3 : f.n = 3 := (vr_sm (v := 3) (by omega) (by decide) rfl).mp (Classical.not_not.mp h2)
      have en : f.n = 3 := by omega
      have ms := vx_ms3f (vb_toS (vr_S L (8 + (76800 + f.s)))) (vr_A I L 1027) (vr_A I L 1025)
      have Eo : vr_A I12 L12 1027 = vr_A I L 1027 := vr_fr_Ak F12 (fun _ _ z => z) (fun z => absurd z.2 (by decide))
      have Oo : vr_okA I 1027 → vr_okA I12 1027 := vr_fr_okA F12 (fun _ _ z => z)
      skip
      exact ⟨_, _, rfl, by rw [en, ms]; exact Eo, by rw [en, ms]; exact E12, Oo o27, O12 o25, eL12, vr_fr_mono F12 (fun _ z => z) (fun _ _ z => ⟨z.1, by omega⟩)⟩