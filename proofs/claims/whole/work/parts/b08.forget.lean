/-! part b08: what the class forgets of a state, and settles (gen/tb08.py) -/
theorem vc_is0 {I : Nat → Nat → Int32} {L : Nat → Nat → Int64} {o : Nat} (h : vc_ok I L o) : (vc_T I L o).sort = 0 ↔ I o 6 = (0 : Int32) := by
  constructor
  · intro z
    have a := vc_W_nn h
    have b : (I o 6).toInt.toNat = 0 := z
    exact Int32.toInt_inj.mp (show (I o 6).toInt = 0 by omega)
  · intro z
    show (I o 6).toInt.toNat = 0
    rw [z]; rfl
theorem vc_is1 {I : Nat → Nat → Int32} {L : Nat → Nat → Int64} {o : Nat} (h : vc_ok I L o) : (vc_T I L o).sort = 1 ↔ I o 6 = (1 : Int32) := by
  constructor
  · intro z
    have a := vc_W_nn h
    have b : (I o 6).toInt.toNat = 1 := z
    exact Int32.toInt_inj.mp (show (I o 6).toInt = 1 by omega)
  · intro z
    show (I o 6).toInt.toNat = 1
    rw [z]; rfl
theorem vc_is2 {I : Nat → Nat → Int32} {L : Nat → Nat → Int64} {o : Nat} (h : vc_ok I L o) : (vc_T I L o).sort = 2 ↔ I o 6 = (2 : Int32) := by
  constructor
  · intro z
    have a := vc_W_nn h
    have b : (I o 6).toInt.toNat = 2 := z
    exact Int32.toInt_inj.mp (show (I o 6).toInt = 2 by omega)
  · intro z
    show (I o 6).toInt.toNat = 2
    rw [z]; rfl
theorem vc_is3 {I : Nat → Nat → Int32} {L : Nat → Nat → Int64} {o : Nat} (h : vc_ok I L o) : (vc_T I L o).sort = 3 ↔ I o 6 = (3 : Int32) := by
  constructor
  · intro z
    have a := vc_W_nn h
    have b : (I o 6).toInt.toNat = 3 := z
    exact Int32.toInt_inj.mp (show (I o 6).toInt = 3 by omega)
  · intro z
    show (I o 6).toInt.toNat = 3
    rw [z]; rfl
theorem vc_is4 {I : Nat → Nat → Int32} {L : Nat → Nat → Int64} {o : Nat} (h : vc_ok I L o) : (vc_T I L o).sort = 4 ↔ I o 6 = (4 : Int32) := by
  constructor
  · intro z
    have a := vc_W_nn h
    have b : (I o 6).toInt.toNat = 4 := z
    exact Int32.toInt_inj.mp (show (I o 6).toInt = 4 by omega)
  · intro z
    show (I o 6).toInt.toNat = 4
    rw [z]; rfl
theorem vc_is5 {I : Nat → Nat → Int32} {L : Nat → Nat → Int64} {o : Nat} (h : vc_ok I L o) : (vc_T I L o).sort = 5 ↔ I o 6 = (5 : Int32) := by
  constructor
  · intro z
    have a := vc_W_nn h
    have b : (I o 6).toInt.toNat = 5 := z
    exact Int32.toInt_inj.mp (show (I o 6).toInt = 5 by omega)
  · intro z
    show (I o 6).toInt.toNat = 5
    rw [z]; rfl
theorem vc_is6 {I : Nat → Nat → Int32} {L : Nat → Nat → Int64} {o : Nat} (h : vc_ok I L o) : (vc_T I L o).sort = 6 ↔ I o 6 = (6 : Int32) := by
  constructor
  · intro z
    have a := vc_W_nn h
    have b : (I o 6).toInt.toNat = 6 := z
    exact Int32.toInt_inj.mp (show (I o 6).toInt = 6 by omega)
  · intro z
    show (I o 6).toInt.toNat = 6
    rw [z]; rfl
theorem vc_is7 {I : Nat → Nat → Int32} {L : Nat → Nat → Int64} {o : Nat} (h : vc_ok I L o) : (vc_T I L o).sort = 7 ↔ I o 6 = (7 : Int32) := by
  constructor
  · intro z
    have a := vc_W_nn h
    have b : (I o 6).toInt.toNat = 7 := z
    exact Int32.toInt_inj.mp (show (I o 6).toInt = 7 by omega)
  · intro z
    show (I o 6).toInt.toNat = 7
    rw [z]; rfl
theorem vc_is8 {I : Nat → Nat → Int32} {L : Nat → Nat → Int64} {o : Nat} (h : vc_ok I L o) : (vc_T I L o).sort = 8 ↔ I o 6 = (8 : Int32) := by
  constructor
  · intro z
    have a := vc_W_nn h
    have b : (I o 6).toInt.toNat = 8 := z
    exact Int32.toInt_inj.mp (show (I o 6).toInt = 8 by omega)
  · intro z
    show (I o 6).toInt.toNat = 8
    rw [z]; rfl
theorem vc_org8 {I : Nat → Nat → Int32} {L : Nat → Nat → Int64} {o : Nat} (z : I o 6 = 8) : (vc_T I L o).org = (L o 8).toInt := if_pos z
theorem vc_org_ {I : Nat → Nat → Int32} {L : Nat → Nat → Int64} {o : Nat} (z : ¬ I o 6 = 8) : (vc_T I L o).org = -1 := if_neg z
theorem vc_det0 {I : Nat → Nat → Int32} {L : Nat → Nat → Int64} {o : Nat} (z : I o 6 = 0) : (vc_T I L o).det = ((I o 9).toBitVec.toNat : Int) := if_pos z
theorem vc_detk {I : Nat → Nat → Int32} {L : Nat → Nat → Int64} {o : Nat} (z : I o 6 = 2 ∨ I o 6 = 3) : (vc_T I L o).det = (L o 8).toInt := by
  show (if I o 6 = 0 then _ else if I o 6 = 2 ∨ I o 6 = 3 then _ else _ : Int) = _
  rw [if_neg (by rcases z with z | z <;> rw [z] <;> decide), if_pos z]
theorem vc_detm {I : Nat → Nat → Int32} {L : Nat → Nat → Int64} {o : Nat} (z : I o 6 = 6 ∨ I o 6 = 7 ∨ I o 6 = 8) : (vc_T I L o).det = (I o 7).toInt := by
  show (if I o 6 = 0 then _ else if I o 6 = 2 ∨ I o 6 = 3 then _ else _ : Int) = _
  rw [if_neg (by rcases z with z | z | z <;> rw [z] <;> decide), if_neg (by rcases z with z | z | z <;> rw [z] <;> decide)]
theorem vc_valv {I : Nat → Nat → Int32} {L : Nat → Nat → Int64} {o : Nat} (z : I o 6 = 1 ∨ I o 6 = 4 ∨ I o 6 = 7) : (vc_T I L o).val = vl_S L o := by
  refine vc_D_val ?_
  rcases z with z | z | z <;> rw [z] <;> decide
theorem vc_drop_eq {I I1 : Nat → Nat → Int32} {L L1 : Nat → Nat → Int64} {a : Nat} {q : vt_T → Bool} (ht : ∀ n, n < 75 → vc_T I1 L1 (a + 2 + n) = if q (vc_T I L (a + 2 + n)) = true then vt_none 0 else vc_T I L (a + 2 + n)) (hk : L1 a 1 = L a 1) : vc_A I1 L1 a = vx_drop (vc_A I L a) q := by
  refine Prod.ext (funext (fun n => ?_)) (congrArg Int64.toInt hk)
  show (if n < 75 then vc_T I1 L1 (a + 2 + n) else vt_none 0) = if n < 75 ∧ q ((vc_A I L a).1 n) = true then vt_none 0 else (vc_A I L a).1 n
  by_cases hn : n < 75
  · have e : (vc_A I L a).1 n = vc_T I L (a + 2 + n) := if_pos hn
    rw [if_pos hn, ht n hn, e]
    by_cases hq : q (vc_T I L (a + 2 + n)) = true
    · rw [if_pos hq, if_pos ⟨hn, hq⟩]
    · rw [if_neg hq, if_neg (fun z => hq z.2)]
  · have e : (vc_A I L a).1 n = vt_none 0 := if_neg hn
    rw [if_neg hn, if_neg (fun z => hn z.1), e]
theorem vc_settle_eq {I I1 : Nat → Nat → Int32} {L L1 : Nat → Nat → Int64} {a : Nat} {place : Int} {found : Bool} (ht : ∀ n, n < 75 → vc_T I1 L1 (a + 2 + n) = if (vc_T I L (a + 2 + n)).sort = 8 ∧ (vc_T I L (a + 2 + n)).org = place then (if found = true then vt_item (vc_T I L (a + 2 + n)).det (vb_just 0) else vt_num (vb_just 0)) else vc_T I L (a + 2 + n)) (hk : L1 a 1 = L a 1) : vc_A I1 L1 a = vx_settle (vc_A I L a) place found := by
  refine Prod.ext (funext (fun n => ?_)) (congrArg Int64.toInt hk)
  show (if n < 75 then vc_T I1 L1 (a + 2 + n) else vt_none 0) = if n < 75 ∧ ((vc_A I L a).1 n).sort = 8 ∧ ((vc_A I L a).1 n).org = place then (if found = true then vt_item ((vc_A I L a).1 n).det (vb_just 0) else vt_num (vb_just 0)) else (vc_A I L a).1 n
  by_cases hn : n < 75
  · have e : (vc_A I L a).1 n = vc_T I L (a + 2 + n) := if_pos hn
    rw [if_pos hn, ht n hn, e]
    by_cases hq : (vc_T I L (a + 2 + n)).sort = 8 ∧ (vc_T I L (a + 2 + n)).org = place
    · have hz : n < 75 ∧ (vc_T I L (a + 2 + n)).sort = 8 ∧ (vc_T I L (a + 2 + n)).org = place := ⟨hn, hq⟩
      rw [if_pos hq, if_pos hz]
    · rw [if_neg hq, if_neg (fun z => hq z.2)]
  · have e : (vc_A I L a).1 n = vt_none 0 := if_neg hn
    rw [if_neg hn, if_neg (fun z => hn z.1), e]
theorem vc_set_T (I : Nat → Nat → Int32) (L : Nat → Nat → Int64) (o : Nat) (v : vb_S) : vc_T I (vl_set L o v) o = vc_D (I o 6) (I o 7) (L o 8) (I o 9) v := by
  unfold vc_T; rw [vl_set_S, vl_set_out (fun z => absurd z.2 (by decide))]
theorem vc_set_ok {I : Nat → Nat → Int32} {L : Nat → Nat → Int64} {o : Nat} {v : vb_S} (h : vc_ok I L o) : vc_ok I (vl_set L o v) o := by
  unfold vc_ok; rw [vl_set_out (fun z => absurd z.2 (by decide))]; exact h
theorem vc_set_fr (I : Nat → Nat → Int32) (L : Nat → Nat → Int64) (o : Nat) (v : vb_S) : vc_fr (fun p => p = o) I L I (vl_set L o v) := fun p hp => ⟨fun _ => rfl, fun f => vl_set_out (fun z => hp z.1)⟩
/-- a thing with a value, by its sort -/
theorem vc_T_v {I : Nat → Nat → Int32} {L : Nat → Nat → Int64} {o : Nat} {t : vt_T} (hok : vc_ok I L o) (h : vc_T I L o = t) (hs : t.sort = 1 ∨ t.sort = 4 ∨ t.sort = 7) (v : vb_S) : vc_T I (vl_set L o v) o = (t.sort, t.det, t.org, v) := by
  rw [vc_set_T, ← h]
  refine vc_D_v ?_
  rw [← h] at hs
  rcases hs with z | z | z
  · rw [(vc_is1 hok).mp z]; decide
  · rw [(vc_is4 hok).mp z]; decide
  · rw [(vc_is7 hok).mp z]; decide
theorem vc_A_u1 (I : Nat → Nat → Int32) (L : Nat → Nat → Int64) (a : Nat) (x : Int64) : vc_A I (jv_u L a 1 x) a = ((vc_A I L a).1, x.toInt) := by
  unfold vc_A
  rw [jv_u_self]
  refine Prod.ext (funext (fun n => ?_)) rfl
  dsimp only
  by_cases hn : n < 75
  · rw [if_pos hn, if_pos hn]; exact vc_T_u1 _ _ (by omega) _
  · rw [if_neg hn, if_neg hn]
theorem jv_i116 : jv_I 116 3 none 2 44 jv_c116 := ⟨rfl, rfl, rfl, rfl, rfl⟩
theorem vc_forgetM {K : Nat → Option (Nat × Nat)} {I : Nat → Nat → Int32} {L : Nat → Nat → Int64} {R : Nat → Nat → Value} {a : Nat} (pl : Int32) (ha : vc_St K R a) (oa : vc_okA I L a) {n sl : Nat} : ∃ I1 L1, jv_Ms 116 [.ref a, .int pl] (jv_H K I L R) n sl (none, jv_H K I1 L1 R, n, sl) ∧ vc_A I1 L1 a = vx_drop (vc_A I L a) (fun t => decide (t.sort = 8) && decide (t.org = pl.toInt)) ∧ vc_okA I1 L1 a ∧ vc_fr (vc_in a) I L I1 L1 ∧ ∀ f, I1 a f = I a f := by
  obtain ⟨Q, hQ⟩ : ∃ Q : jv_R → Prop, Q = fun X => ∃ I1 L1, X = (none, jv_H K I1 L1 R, n, sl) ∧ vc_A I1 L1 a = vx_drop (vc_A I L a) (fun t => decide (t.sort = 8) && decide (t.org = pl.toInt)) ∧ vc_okA I1 L1 a ∧ vc_fr (vc_in a) I L I1 L1 ∧ ∀ f, I1 a f = I a f := ⟨_, rfl⟩
  suffices h : jv_Wp 116 0 [(0, .ref a), (1, .int pl)] [] (jv_H K I L R) n sl Q by
    rw [hQ] at h
    obtain ⟨X, h, I1, L1, e, h'⟩ := h
    subst e
    exact ⟨I1, L1, h, h'⟩
  refine jv_Wp.lift (fun _ Kz => jv_Ev.steps jv_i116 2 (pc' := 2) (l' := [(2, .int (0 : Int32)), (0, .ref a), (1, .int pl)]) (st' := []) rfl Kz) ?_
  refine jv_Wp.loc (l := [(0, .ref a), (1, .int pl), (2, .int (0 : Int32))]) ⟨List.forall_mem_cons.mpr ⟨.tail _ (.head _), List.forall_mem_cons.mpr ⟨.tail _ (.tail _ (.head _)), List.forall_mem_cons.mpr ⟨.head _, fun _ h => absurd h List.not_mem_nil⟩⟩⟩, by show List.Nodup [2, 0, 1]; decide⟩ ?_
  rw [show (0 : Int32) = vl_I 0 from rfl]
  refine vc_loop0 (a := a) (I0 := I) (L0 := L) (f := fun _ t => if (decide (t.sort = 8) && decide (t.org = pl.toInt)) = true then vt_none 0 else t) (P := fun i Iz Lz => jv_Wp 116 2 [(0, .ref a), (1, .int pl), (2, .int (vl_I i))] [] (jv_H K Iz Lz R) n sl Q) oa (fun i hi Ia La fr ta okA k => ?_) (fun Ia La ht fr => ?_)
  · skip

    refine jv_Wp.lift (fun _ Kz => jv_Ev.steps jv_i116 2 (pc' := 4) (l' := [(0, .ref a), (1, .int pl), (2, .int (vl_I i))]) (st' := [.ref a, .int (vl_I i)]) rfl Kz) ?_
    refine jv_Wp.lift (fun _ Kz => jv_Ev.m jv_i116 (pc' := 7) (st' := [.ref (a + 1), .int (vl_I i)]) (G' := (jv_H K Ia La R)) rfl rfl (jv_m_getR ha.k rfl rfl ha.r) Kz) ?_
    refine jv_Wp.lift (fun _ Kz => jv_Ev.m jv_i116 (pc' := 8) (st' := [.int (Int32.ofNat 75), .int (vl_I i)]) (G' := (jv_H K Ia La R)) rfl rfl (jv_m_len ha.kt rfl) Kz) ?_
    refine jv_Wp.cnd jv_i116 (pt := 55) (pe := 11) (p := ((Int32.ofNat 75) ≤ (vl_I i))) (q := ((Int32.ofNat 75) ≤ (vl_I i))) rfl jv_bc_ge rfl rfl Iff.rfl (fun h1 => ?_) (fun h1 => ?_)
    · exact absurd ((vl_I_le (by decide) (by omega)).mp h1) (by omega)
    · refine jv_Wp.lift (fun _ Kz => jv_Ev.steps jv_i116 1 (pc' := 12) (l' := [(0, .ref a), (1, .int pl), (2, .int (vl_I i))]) (st' := [.ref a]) rfl Kz) ?_
      refine jv_Wp.lift (fun _ Kz => jv_Ev.m jv_i116 (pc' := 15) (st' := [.ref (a + 1)]) (G' := (jv_H K Ia La R)) rfl rfl (jv_m_getR ha.k rfl rfl ha.r) Kz) ?_
      refine jv_Wp.lift (fun _ Kz => jv_Ev.steps jv_i116 1 (pc' := 16) (l' := [(0, .ref a), (1, .int pl), (2, .int (vl_I i))]) (st' := [.int (vl_I i), .ref (a + 1)]) rfl Kz) ?_
      refine jv_Wp.lift (fun _ Kz => jv_Ev.m jv_i116 (pc' := 17) (st' := [.ref (a + 2 + i)]) (G' := (jv_H K Ia La R)) rfl rfl (jv_m_aaldR ha.kt rfl (vl_I_ix hi (by decide)) rfl (vc_St_rt ha hi)) Kz) ?_
      refine jv_Wp.lift (fun _ Kz => jv_Ev.m jv_i116 (pc' := 20) (st' := [.int (Ia (a + 2 + i) 6)]) (G' := (jv_H K Ia La R)) rfl rfl (jv_m_getI (ha.kk i hi) rfl rfl rfl) Kz) ?_
      refine jv_Wp.lift (fun _ Kz => jv_Ev.steps jv_i116 1 (pc' := 22) (l' := [(0, .ref a), (1, .int pl), (2, .int (vl_I i))]) (st' := [.int (8 : Int32), .int (Ia (a + 2 + i) 6)]) rfl Kz) ?_
      refine jv_Wp.cnd jv_i116 (pt := 49) (pe := 25) (p := (¬ (Ia (a + 2 + i) 6) = (8 : Int32))) (q := (¬ (Ia (a + 2 + i) 6) = (8 : Int32))) rfl jv_bc_ne rfl rfl Iff.rfl (fun h2 => ?_) (fun h2 => ?_)
      · refine jv_Wp.lift (fun _ Kz => jv_Ev.steps jv_i116 2 (pc' := 2) (l' := [(2, .int ((vl_I i) + Int32.ofInt 1)), (0, .ref a), (1, .int pl)]) (st' := []) rfl Kz) ?_
        refine jv_Wp.loc (l := [(0, .ref a), (1, .int pl), (2, .int ((vl_I i) + Int32.ofInt 1))]) ⟨List.forall_mem_cons.mpr ⟨.tail _ (.head _), List.forall_mem_cons.mpr ⟨.tail _ (.tail _ (.head _)), List.forall_mem_cons.mpr ⟨.head _, fun _ h => absurd h List.not_mem_nil⟩⟩⟩, by show List.Nodup [2, 0, 1]; decide⟩ ?_
        rw [show vl_I i + Int32.ofInt 1 = vl_I (i + 1) from vl_I_add i 1]
        have c : ¬ ((decide ((vc_T I L (a + 2 + i)).sort = 8) && decide ((vc_T I L (a + 2 + i)).org = pl.toInt)) = true) := by
          rw [← ta, Bool.and_eq_true, decide_eq_true_eq, decide_eq_true_eq]
          rintro ⟨z1, z2⟩
          exact h2 ((vc_is8 okA).mp z1)
        exact k Ia La (ta.trans (if_neg c).symm) okA (vc_fr_refl _ _)
      · refine jv_Wp.lift (fun _ Kz => jv_Ev.steps jv_i116 1 (pc' := 26) (l' := [(0, .ref a), (1, .int pl), (2, .int (vl_I i))]) (st' := [.ref a]) rfl Kz) ?_
        refine jv_Wp.lift (fun _ Kz => jv_Ev.m jv_i116 (pc' := 29) (st' := [.ref (a + 1)]) (G' := (jv_H K Ia La R)) rfl rfl (jv_m_getR ha.k rfl rfl ha.r) Kz) ?_
        refine jv_Wp.lift (fun _ Kz => jv_Ev.steps jv_i116 1 (pc' := 30) (l' := [(0, .ref a), (1, .int pl), (2, .int (vl_I i))]) (st' := [.int (vl_I i), .ref (a + 1)]) rfl Kz) ?_
        refine jv_Wp.lift (fun _ Kz => jv_Ev.m jv_i116 (pc' := 31) (st' := [.ref (a + 2 + i)]) (G' := (jv_H K Ia La R)) rfl rfl (jv_m_aaldR ha.kt rfl (vl_I_ix hi (by decide)) rfl (vc_St_rt ha hi)) Kz) ?_
        refine jv_Wp.lift (fun _ Kz => jv_Ev.m jv_i116 (pc' := 34) (st' := [.long (La (a + 2 + i) 8)]) (G' := (jv_H K Ia La R)) rfl rfl (jv_m_getL (ha.kk i hi) rfl rfl rfl) Kz) ?_
        refine jv_Wp.lift (fun _ Kz => jv_Ev.steps jv_i116 3 (pc' := 37) (l' := [(0, .ref a), (1, .int pl), (2, .int (vl_I i))]) (st' := [.int (lg_cmp (La (a + 2 + i) 8) pl.toInt64)]) rfl Kz) ?_
        refine jv_Wp.cnd jv_i116 (pt := 49) (pe := 40) (p := (¬ (lg_cmp (La (a + 2 + i) 8) pl.toInt64) = 0)) (q := (¬ (La (a + 2 + i) 8) = pl.toInt64)) rfl jv_bi_ne rfl rfl (not_congr (lg_cmp_eq (La (a + 2 + i) 8) pl.toInt64)) (fun h3 => ?_) (fun h3 => ?_)
        · refine jv_Wp.lift (fun _ Kz => jv_Ev.steps jv_i116 2 (pc' := 2) (l' := [(2, .int ((vl_I i) + Int32.ofInt 1)), (0, .ref a), (1, .int pl)]) (st' := []) rfl Kz) ?_
          refine jv_Wp.loc (l := [(0, .ref a), (1, .int pl), (2, .int ((vl_I i) + Int32.ofInt 1))]) ⟨List.forall_mem_cons.mpr ⟨.tail _ (.head _), List.forall_mem_cons.mpr ⟨.tail _ (.tail _ (.head _)), List.forall_mem_cons.mpr ⟨.head _, fun _ h => absurd h List.not_mem_nil⟩⟩⟩, by show List.Nodup [2, 0, 1]; decide⟩ ?_
          rw [show vl_I i + Int32.ofInt 1 = vl_I (i + 1) from vl_I_add i 1]
          have c : ¬ ((decide ((vc_T I L (a + 2 + i)).sort = 8) && decide ((vc_T I L (a + 2 + i)).org = pl.toInt)) = true) := by
            rw [← ta, Bool.and_eq_true, decide_eq_true_eq, decide_eq_true_eq]
            rintro ⟨z1, z2⟩
            rw [vc_org8 ((vc_is8 okA).mp z1)] at z2; exact h3 (Int64.toInt_inj.mp (z2.trans (Int32.toInt_toInt64 pl).symm))
          exact k Ia La (ta.trans (if_neg c).symm) okA (vc_fr_refl _ _)
        · refine jv_Wp.lift (fun _ Kz => jv_Ev.steps jv_i116 1 (pc' := 41) (l' := [(0, .ref a), (1, .int pl), (2, .int (vl_I i))]) (st' := [.ref a]) rfl Kz) ?_
          refine jv_Wp.lift (fun _ Kz => jv_Ev.m jv_i116 (pc' := 44) (st' := [.ref (a + 1)]) (G' := (jv_H K Ia La R)) rfl rfl (jv_m_getR ha.k rfl rfl ha.r) Kz) ?_
          refine jv_Wp.lift (fun _ Kz => jv_Ev.steps jv_i116 1 (pc' := 45) (l' := [(0, .ref a), (1, .int pl), (2, .int (vl_I i))]) (st' := [.int (vl_I i), .ref (a + 1)]) rfl Kz) ?_
          refine jv_Wp.lift (fun _ Kz => jv_Ev.m jv_i116 (pc' := 46) (st' := [.ref (a + 2 + i)]) (G' := (jv_H K Ia La R)) rfl rfl (jv_m_aaldR ha.kt rfl (vl_I_ix hi (by decide)) rfl (vc_St_rt ha hi)) Kz) ?_
          obtain ⟨I1, L1, H1, T1, O1, F1⟩ := vc_none (I := Ia) (L := La) (R := R) (n := n) (sl := sl) (ha.kk i hi)
          refine jv_Wp.lift (fun _ Kz => jv_Ev.c jv_i116 (pc' := 49) (S' := []) (G1 := (jv_H K I1 L1 R)) jv_i141 [.ref (a + 2 + i)] rfl rfl rfl rfl (jv_cal rfl (jv_H_at (ha.kk i hi)) rfl rfl) rfl H1 rfl rfl Kz) ?_
          refine jv_Wp.lift (fun _ Kz => jv_Ev.steps jv_i116 2 (pc' := 2) (l' := [(2, .int ((vl_I i) + Int32.ofInt 1)), (0, .ref a), (1, .int pl)]) (st' := []) rfl Kz) ?_
          refine jv_Wp.loc (l := [(0, .ref a), (1, .int pl), (2, .int ((vl_I i) + Int32.ofInt 1))]) ⟨List.forall_mem_cons.mpr ⟨.tail _ (.head _), List.forall_mem_cons.mpr ⟨.tail _ (.tail _ (.head _)), List.forall_mem_cons.mpr ⟨.head _, fun _ h => absurd h List.not_mem_nil⟩⟩⟩, by show List.Nodup [2, 0, 1]; decide⟩ ?_
          rw [show vl_I i + Int32.ofInt 1 = vl_I (i + 1) from vl_I_add i 1]
          have c : ((decide ((vc_T I L (a + 2 + i)).sort = 8) && decide ((vc_T I L (a + 2 + i)).org = pl.toInt)) = true) := by
            rw [← ta, Bool.and_eq_true, decide_eq_true_eq, decide_eq_true_eq]
            exact ⟨(vc_is8 okA).mpr (Classical.not_not.mp h2), (vc_org8 (Classical.not_not.mp h2)).trans ((congrArg Int64.toInt (Classical.not_not.mp h3)).trans (Int32.toInt_toInt64 pl))⟩
          exact k I1 L1 (T1.trans (if_pos c).symm) O1 F1
  · skip
    refine jv_Wp.lift (fun _ Kz => jv_Ev.steps jv_i116 2 (pc' := 4) (l' := [(0, .ref a), (1, .int pl), (2, .int (vl_I 75))]) (st' := [.ref a, .int (vl_I 75)]) rfl Kz) ?_
    refine jv_Wp.lift (fun _ Kz => jv_Ev.m jv_i116 (pc' := 7) (st' := [.ref (a + 1), .int (vl_I 75)]) (G' := (jv_H K Ia La R)) rfl rfl (jv_m_getR ha.k rfl rfl ha.r) Kz) ?_
    refine jv_Wp.lift (fun _ Kz => jv_Ev.m jv_i116 (pc' := 8) (st' := [.int (Int32.ofNat 75), .int (vl_I 75)]) (G' := (jv_H K Ia La R)) rfl rfl (jv_m_len ha.kt rfl) Kz) ?_
    refine jv_Wp.cnd jv_i116 (pt := 55) (pe := 11) (p := ((Int32.ofNat 75) ≤ (vl_I 75))) (q := ((Int32.ofNat 75) ≤ (vl_I 75))) rfl jv_bc_ge rfl rfl Iff.rfl (fun _ => ?_) (fun hz => absurd (Int32.le_refl _) hz)
    refine jv_Wp.of (jv_Ev.ret jv_i116 rfl rfl) ?_
    rw [hQ]
    refine ⟨_, _, rfl, vc_drop_eq (fun n hn => (ht n hn).1) ((fr a (fun z => by unfold vc_th at z; omega)).2 1), fun n hn => (ht n hn).2, vc_fr_mono fr (fun p z => by unfold vc_th at z; exact ⟨by omega, by omega⟩), fun f => (fr a (fun z => by unfold vc_th at z; omega)).1 f⟩
theorem jv_i117 : jv_I 117 6 none 1 24 jv_c117 := ⟨rfl, rfl, rfl, rfl, rfl⟩
theorem vc_settle {K : Nat → Option (Nat × Nat)} {I : Nat → Nat → Int32} {L : Nat → Nat → Int64} {R : Nat → Nat → Value} {a : Nat} (pl : Int64) (fd : Bool) (ha : vc_St K R a) (oa : vc_okA I L a) {n sl : Nat} : ∃ I1 L1, jv_Ms 117 [.ref a, .long pl, .int (vr_b fd)] (jv_H K I L R) n sl (none, jv_H K I1 L1 R, n, sl) ∧ vc_A I1 L1 a = vx_settle (vc_A I L a) pl.toInt fd ∧ vc_okA I1 L1 a ∧ vc_fr (vc_in a) I L I1 L1 ∧ ∀ f, I1 a f = I a f := by
  obtain ⟨Q, hQ⟩ : ∃ Q : jv_R → Prop, Q = fun X => ∃ I1 L1, X = (none, jv_H K I1 L1 R, n, sl) ∧ vc_A I1 L1 a = vx_settle (vc_A I L a) pl.toInt fd ∧ vc_okA I1 L1 a ∧ vc_fr (vc_in a) I L I1 L1 ∧ ∀ f, I1 a f = I a f := ⟨_, rfl⟩
  suffices h : jv_Wp 117 0 [(0, .ref a), (1, .long pl), (3, .int (vr_b fd))] [] (jv_H K I L R) n sl Q by
    rw [hQ] at h
    obtain ⟨X, h, I1, L1, e, h'⟩ := h
    subst e
    exact ⟨I1, L1, h, h'⟩
  refine jv_Wp.lift (fun _ Kz => jv_Ev.steps jv_i117 2 (pc' := 3) (l' := [(4, .int (0 : Int32)), (0, .ref a), (1, .long pl), (3, .int (vr_b fd))]) (st' := []) rfl Kz) ?_
  refine jv_Wp.loc (l := [(0, .ref a), (1, .long pl), (3, .int (vr_b fd)), (4, .int (0 : Int32))]) ⟨List.forall_mem_cons.mpr ⟨.tail _ (.head _), List.forall_mem_cons.mpr ⟨.tail _ (.tail _ (.head _)), List.forall_mem_cons.mpr ⟨.tail _ (.tail _ (.tail _ (.head _))), List.forall_mem_cons.mpr ⟨.head _, fun _ h => absurd h List.not_mem_nil⟩⟩⟩⟩, by show List.Nodup [4, 0, 1, 3]; decide⟩ ?_
  rw [show (0 : Int32) = vl_I 0 from rfl]
  refine vc_loop0 (a := a) (I0 := I) (L0 := L) (f := fun _ t => if t.sort = 8 ∧ t.org = pl.toInt then (if fd = true then vt_item t.det (vb_just 0) else vt_num (vb_just 0)) else t) (P := fun i Iz Lz => jv_Wp 117 3 [(0, .ref a), (1, .long pl), (3, .int (vr_b fd)), (4, .int (vl_I i))] [] (jv_H K Iz Lz R) n sl Q) oa (fun i hi Ia La fr ta okA k => ?_) (fun Ia La ht fr => ?_)
  · skip

    refine jv_Wp.lift (fun _ Kz => jv_Ev.steps jv_i117 2 (pc' := 6) (l' := [(0, .ref a), (1, .long pl), (3, .int (vr_b fd)), (4, .int (vl_I i))]) (st' := [.ref a, .int (vl_I i)]) rfl Kz) ?_
    refine jv_Wp.lift (fun _ Kz => jv_Ev.m jv_i117 (pc' := 9) (st' := [.ref (a + 1), .int (vl_I i)]) (G' := (jv_H K Ia La R)) rfl rfl (jv_m_getR ha.k rfl rfl ha.r) Kz) ?_
    refine jv_Wp.lift (fun _ Kz => jv_Ev.m jv_i117 (pc' := 10) (st' := [.int (Int32.ofNat 75), .int (vl_I i)]) (G' := (jv_H K Ia La R)) rfl rfl (jv_m_len ha.kt rfl) Kz) ?_
    refine jv_Wp.cnd jv_i117 (pt := 83) (pe := 13) (p := ((Int32.ofNat 75) ≤ (vl_I i))) (q := ((Int32.ofNat 75) ≤ (vl_I i))) rfl jv_bc_ge rfl rfl Iff.rfl (fun h1 => ?_) (fun h1 => ?_)
    · exact absurd ((vl_I_le (by decide) (by omega)).mp h1) (by omega)
    · refine jv_Wp.lift (fun _ Kz => jv_Ev.steps jv_i117 1 (pc' := 14) (l' := [(0, .ref a), (1, .long pl), (3, .int (vr_b fd)), (4, .int (vl_I i))]) (st' := [.ref a]) rfl Kz) ?_
      refine jv_Wp.lift (fun _ Kz => jv_Ev.m jv_i117 (pc' := 17) (st' := [.ref (a + 1)]) (G' := (jv_H K Ia La R)) rfl rfl (jv_m_getR ha.k rfl rfl ha.r) Kz) ?_
      refine jv_Wp.lift (fun _ Kz => jv_Ev.steps jv_i117 1 (pc' := 19) (l' := [(0, .ref a), (1, .long pl), (3, .int (vr_b fd)), (4, .int (vl_I i))]) (st' := [.int (vl_I i), .ref (a + 1)]) rfl Kz) ?_
      refine jv_Wp.lift (fun _ Kz => jv_Ev.m jv_i117 (pc' := 20) (st' := [.ref (a + 2 + i)]) (G' := (jv_H K Ia La R)) rfl rfl (jv_m_aaldR ha.kt rfl (vl_I_ix hi (by decide)) rfl (vc_St_rt ha hi)) Kz) ?_
      refine jv_Wp.lift (fun _ Kz => jv_Ev.steps jv_i117 2 (pc' := 24) (l' := [(5, .ref (a + 2 + i)), (0, .ref a), (1, .long pl), (3, .int (vr_b fd)), (4, .int (vl_I i))]) (st' := [.ref (a + 2 + i)]) rfl Kz) ?_
      refine jv_Wp.lift (fun _ Kz => jv_Ev.m jv_i117 (pc' := 27) (st' := [.int (Ia (a + 2 + i) 6)]) (G' := (jv_H K Ia La R)) rfl rfl (jv_m_getI (ha.kk i hi) rfl rfl rfl) Kz) ?_
      refine jv_Wp.lift (fun _ Kz => jv_Ev.steps jv_i117 1 (pc' := 29) (l' := [(5, .ref (a + 2 + i)), (0, .ref a), (1, .long pl), (3, .int (vr_b fd)), (4, .int (vl_I i))]) (st' := [.int (8 : Int32), .int (Ia (a + 2 + i) 6)]) rfl Kz) ?_
      refine jv_Wp.cnd jv_i117 (pt := 77) (pe := 32) (p := (¬ (Ia (a + 2 + i) 6) = (8 : Int32))) (q := (¬ (Ia (a + 2 + i) 6) = (8 : Int32))) rfl jv_bc_ne rfl rfl Iff.rfl (fun h2 => ?_) (fun h2 => ?_)
      · refine jv_Wp.lift (fun _ Kz => jv_Ev.steps jv_i117 2 (pc' := 3) (l' := [(4, .int ((vl_I i) + Int32.ofInt 1)), (5, .ref (a + 2 + i)), (0, .ref a), (1, .long pl), (3, .int (vr_b fd))]) (st' := []) rfl Kz) ?_
        refine jv_Wp.loc (l := [(0, .ref a), (1, .long pl), (3, .int (vr_b fd)), (4, .int ((vl_I i) + Int32.ofInt 1))]) ⟨List.forall_mem_cons.mpr ⟨.tail _ (.tail _ (.head _)), List.forall_mem_cons.mpr ⟨.tail _ (.tail _ (.tail _ (.head _))), List.forall_mem_cons.mpr ⟨.tail _ (.tail _ (.tail _ (.tail _ (.head _)))), List.forall_mem_cons.mpr ⟨.head _, fun _ h => absurd h List.not_mem_nil⟩⟩⟩⟩, by show List.Nodup [4, 5, 0, 1, 3]; decide⟩ ?_
        rw [show vl_I i + Int32.ofInt 1 = vl_I (i + 1) from vl_I_add i 1]
        have c : ¬ ((vc_T I L (a + 2 + i)).sort = 8 ∧ (vc_T I L (a + 2 + i)).org = pl.toInt) := by
          rw [← ta]
          rintro ⟨z1, z2⟩
          exact h2 ((vc_is8 okA).mp z1)
        exact k Ia La (ta.trans (if_neg c).symm) okA (vc_fr_refl _ _)
      · refine jv_Wp.lift (fun _ Kz => jv_Ev.steps jv_i117 1 (pc' := 34) (l' := [(5, .ref (a + 2 + i)), (0, .ref a), (1, .long pl), (3, .int (vr_b fd)), (4, .int (vl_I i))]) (st' := [.ref (a + 2 + i)]) rfl Kz) ?_
        refine jv_Wp.lift (fun _ Kz => jv_Ev.m jv_i117 (pc' := 37) (st' := [.long (La (a + 2 + i) 8)]) (G' := (jv_H K Ia La R)) rfl rfl (jv_m_getL (ha.kk i hi) rfl rfl rfl) Kz) ?_
        refine jv_Wp.lift (fun _ Kz => jv_Ev.steps jv_i117 2 (pc' := 39) (l' := [(5, .ref (a + 2 + i)), (0, .ref a), (1, .long pl), (3, .int (vr_b fd)), (4, .int (vl_I i))]) (st' := [.int (lg_cmp (La (a + 2 + i) 8) pl)]) rfl Kz) ?_
        refine jv_Wp.cnd jv_i117 (pt := 77) (pe := 42) (p := (¬ (lg_cmp (La (a + 2 + i) 8) pl) = 0)) (q := (¬ (La (a + 2 + i) 8) = pl)) rfl jv_bi_ne rfl rfl (not_congr (lg_cmp_eq (La (a + 2 + i) 8) pl)) (fun h3 => ?_) (fun h3 => ?_)
        · refine jv_Wp.lift (fun _ Kz => jv_Ev.steps jv_i117 2 (pc' := 3) (l' := [(4, .int ((vl_I i) + Int32.ofInt 1)), (5, .ref (a + 2 + i)), (0, .ref a), (1, .long pl), (3, .int (vr_b fd))]) (st' := []) rfl Kz) ?_
          refine jv_Wp.loc (l := [(0, .ref a), (1, .long pl), (3, .int (vr_b fd)), (4, .int ((vl_I i) + Int32.ofInt 1))]) ⟨List.forall_mem_cons.mpr ⟨.tail _ (.tail _ (.head _)), List.forall_mem_cons.mpr ⟨.tail _ (.tail _ (.tail _ (.head _))), List.forall_mem_cons.mpr ⟨.tail _ (.tail _ (.tail _ (.tail _ (.head _)))), List.forall_mem_cons.mpr ⟨.head _, fun _ h => absurd h List.not_mem_nil⟩⟩⟩⟩, by show List.Nodup [4, 5, 0, 1, 3]; decide⟩ ?_
          rw [show vl_I i + Int32.ofInt 1 = vl_I (i + 1) from vl_I_add i 1]
          have c : ¬ ((vc_T I L (a + 2 + i)).sort = 8 ∧ (vc_T I L (a + 2 + i)).org = pl.toInt) := by
            rw [← ta]
            rintro ⟨z1, z2⟩
            rw [vc_org8 ((vc_is8 okA).mp z1)] at z2; exact h3 (Int64.toInt_inj.mp z2)
          exact k Ia La (ta.trans (if_neg c).symm) okA (vc_fr_refl _ _)
        · refine jv_Wp.lift (fun _ Kz => jv_Ev.steps jv_i117 2 (pc' := 45) (l' := [(5, .ref (a + 2 + i)), (0, .ref a), (1, .long pl), (3, .int (vr_b fd)), (4, .int (vl_I i))]) (st' := [.int (vr_b fd), .ref (a + 2 + i)]) rfl Kz) ?_
          refine jv_Wp.cnd jv_i117 (pt := 53) (pe := 48) (p := ((vr_b fd) = 0)) (q := ((vr_b fd) = 0)) rfl jv_bi_eq rfl rfl Iff.rfl (fun h4 => ?_) (fun h4 => ?_)
          · refine jv_Wp.lift (fun _ Kz => jv_Ev.steps jv_i117 2 (pc' := 55) (l' := [(5, .ref (a + 2 + i)), (0, .ref a), (1, .long pl), (3, .int (vr_b fd)), (4, .int (vl_I i))]) (st' := [.int (vr_b fd), .int (1 : Int32), .ref (a + 2 + i)]) rfl Kz) ?_
            refine jv_Wp.cnd jv_i117 (pt := 66) (pe := 58) (p := ((vr_b fd) = 0)) (q := ((vr_b fd) = 0)) rfl jv_bi_eq rfl rfl Iff.rfl (fun _ => ?_) (fun hz => absurd h4 hz)
            refine jv_Wp.lift (fun _ Kz => jv_Ev.steps jv_i117 2 (pc' := 68) (l' := [(5, .ref (a + 2 + i)), (0, .ref a), (1, .long pl), (3, .int (vr_b fd)), (4, .int (vl_I i))]) (st' := [.long (0 : Int64), .int (0 : Int32), .int (1 : Int32), .ref (a + 2 + i)]) rfl Kz) ?_
            obtain ⟨I2, L2, H2, T2, O2, F2⟩ := vc_bec (I := Ia) (L := La) (R := R) (n := n) (sl := sl) (1 : Int32) (0 : Int32) (0 : Int64) (ha.kk i hi) (Or.inr (Or.inl ⟨Or.inl rfl, rfl, rfl, rfl⟩))
            refine jv_Wp.lift (fun _ Kz => jv_Ev.c jv_i117 (pc' := 71) (S' := []) (G1 := (jv_H K I2 L2 R)) jv_i140 [.ref (a + 2 + i), .int (1 : Int32), .int (0 : Int32), .long (0 : Int64)] rfl rfl rfl rfl (jv_cal rfl (jv_H_at (ha.kk i hi)) rfl rfl) rfl H2 rfl rfl Kz) ?_
            refine jv_Wp.lift (fun _ Kz => jv_Ev.steps jv_i117 2 (pc' := 74) (l' := [(5, .ref (a + 2 + i)), (0, .ref a), (1, .long pl), (3, .int (vr_b fd)), (4, .int (vl_I i))]) (st' := [.long (0 : Int64), .ref (a + 2 + i)]) rfl Kz) ?_
            refine jv_Wp.lift (fun _ Kz => jv_Ev.c jv_i117 (pc' := 77) (S' := []) (G1 := (jv_H K I2 (vl_set L2 (a + 2 + i) (vb_just (0 : Int64).toBitVec)) R)) jv_i150 [.ref (a + 2 + i), .long (0 : Int64)] rfl rfl rfl rfl (jv_cal rfl (jv_H_at (ha.kk i hi)) rfl rfl) rfl (vl_just (v := (0 : Int64)) (Or.inr (ha.kk i hi))) rfl rfl Kz) ?_
            refine jv_Wp.lift (fun _ Kz => jv_Ev.steps jv_i117 2 (pc' := 3) (l' := [(4, .int ((vl_I i) + Int32.ofInt 1)), (5, .ref (a + 2 + i)), (0, .ref a), (1, .long pl), (3, .int (vr_b fd))]) (st' := []) rfl Kz) ?_
            refine jv_Wp.loc (l := [(0, .ref a), (1, .long pl), (3, .int (vr_b fd)), (4, .int ((vl_I i) + Int32.ofInt 1))]) ⟨List.forall_mem_cons.mpr ⟨.tail _ (.tail _ (.head _)), List.forall_mem_cons.mpr ⟨.tail _ (.tail _ (.tail _ (.head _))), List.forall_mem_cons.mpr ⟨.tail _ (.tail _ (.tail _ (.tail _ (.head _)))), List.forall_mem_cons.mpr ⟨.head _, fun _ h => absurd h List.not_mem_nil⟩⟩⟩⟩, by show List.Nodup [4, 5, 0, 1, 3]; decide⟩ ?_
            rw [show vl_I i + Int32.ofInt 1 = vl_I (i + 1) from vl_I_add i 1]
            have c : ((vc_T I L (a + 2 + i)).sort = 8 ∧ (vc_T I L (a + 2 + i)).org = pl.toInt) := by
              rw [← ta]
              exact ⟨(vc_is8 okA).mpr (Classical.not_not.mp h2), (vc_org8 (Classical.not_not.mp h2)).trans (congrArg Int64.toInt (Classical.not_not.mp h3))⟩
            have ef : fd = false := by cases fd <;> first | rfl | exact absurd rfl h4 | exact absurd h4 (by decide)
            refine k I2 (vl_set L2 (a + 2 + i) (vb_just (0 : Int64).toBitVec)) (Eq.trans ?_ (if_pos c).symm) (vc_set_ok O2) (vc_fr_trans F2 (vc_set_fr _ _ _ _))
            rw [vc_T_v O2 T2 (Or.inl rfl) _, ef, ← ta, vc_detm (Or.inr (Or.inr (Classical.not_not.mp h2)))]
            rfl
          · refine jv_Wp.lift (fun _ Kz => jv_Ev.steps jv_i117 3 (pc' := 55) (l' := [(5, .ref (a + 2 + i)), (0, .ref a), (1, .long pl), (3, .int (vr_b fd)), (4, .int (vl_I i))]) (st' := [.int (vr_b fd), .int (7 : Int32), .ref (a + 2 + i)]) rfl Kz) ?_
            refine jv_Wp.cnd jv_i117 (pt := 66) (pe := 58) (p := ((vr_b fd) = 0)) (q := ((vr_b fd) = 0)) rfl jv_bi_eq rfl rfl Iff.rfl (fun hz => absurd hz h4) (fun _ => ?_)
            refine jv_Wp.lift (fun _ Kz => jv_Ev.steps jv_i117 1 (pc' := 60) (l' := [(5, .ref (a + 2 + i)), (0, .ref a), (1, .long pl), (3, .int (vr_b fd)), (4, .int (vl_I i))]) (st' := [.ref (a + 2 + i), .int (7 : Int32), .ref (a + 2 + i)]) rfl Kz) ?_
            refine jv_Wp.lift (fun _ Kz => jv_Ev.m jv_i117 (pc' := 63) (st' := [.int (Ia (a + 2 + i) 7), .int (7 : Int32), .ref (a + 2 + i)]) (G' := (jv_H K Ia La R)) rfl rfl (jv_m_getI (ha.kk i hi) rfl rfl rfl) Kz) ?_
            refine jv_Wp.lift (fun _ Kz => jv_Ev.steps jv_i117 2 (pc' := 68) (l' := [(5, .ref (a + 2 + i)), (0, .ref a), (1, .long pl), (3, .int (vr_b fd)), (4, .int (vl_I i))]) (st' := [.long (0 : Int64), .int (Ia (a + 2 + i) 7), .int (7 : Int32), .ref (a + 2 + i)]) rfl Kz) ?_
            obtain ⟨I3, L3, H3, T3, O3, F3⟩ := vc_bec (I := Ia) (L := La) (R := R) (n := n) (sl := sl) (7 : Int32) (Ia (a + 2 + i) 7) (0 : Int64) (ha.kk i hi) (Or.inr (Or.inr (Or.inr (Or.inl ⟨Or.inr rfl, rfl, rfl⟩))))
            refine jv_Wp.lift (fun _ Kz => jv_Ev.c jv_i117 (pc' := 71) (S' := []) (G1 := (jv_H K I3 L3 R)) jv_i140 [.ref (a + 2 + i), .int (7 : Int32), .int (Ia (a + 2 + i) 7), .long (0 : Int64)] rfl rfl rfl rfl (jv_cal rfl (jv_H_at (ha.kk i hi)) rfl rfl) rfl H3 rfl rfl Kz) ?_
            refine jv_Wp.lift (fun _ Kz => jv_Ev.steps jv_i117 2 (pc' := 74) (l' := [(5, .ref (a + 2 + i)), (0, .ref a), (1, .long pl), (3, .int (vr_b fd)), (4, .int (vl_I i))]) (st' := [.long (0 : Int64), .ref (a + 2 + i)]) rfl Kz) ?_
            refine jv_Wp.lift (fun _ Kz => jv_Ev.c jv_i117 (pc' := 77) (S' := []) (G1 := (jv_H K I3 (vl_set L3 (a + 2 + i) (vb_just (0 : Int64).toBitVec)) R)) jv_i150 [.ref (a + 2 + i), .long (0 : Int64)] rfl rfl rfl rfl (jv_cal rfl (jv_H_at (ha.kk i hi)) rfl rfl) rfl (vl_just (v := (0 : Int64)) (Or.inr (ha.kk i hi))) rfl rfl Kz) ?_
            refine jv_Wp.lift (fun _ Kz => jv_Ev.steps jv_i117 2 (pc' := 3) (l' := [(4, .int ((vl_I i) + Int32.ofInt 1)), (5, .ref (a + 2 + i)), (0, .ref a), (1, .long pl), (3, .int (vr_b fd))]) (st' := []) rfl Kz) ?_
            refine jv_Wp.loc (l := [(0, .ref a), (1, .long pl), (3, .int (vr_b fd)), (4, .int ((vl_I i) + Int32.ofInt 1))]) ⟨List.forall_mem_cons.mpr ⟨.tail _ (.tail _ (.head _)), List.forall_mem_cons.mpr ⟨.tail _ (.tail _ (.tail _ (.head _))), List.forall_mem_cons.mpr ⟨.tail _ (.tail _ (.tail _ (.tail _ (.head _)))), List.forall_mem_cons.mpr ⟨.head _, fun _ h => absurd h List.not_mem_nil⟩⟩⟩⟩, by show List.Nodup [4, 5, 0, 1, 3]; decide⟩ ?_
            rw [show vl_I i + Int32.ofInt 1 = vl_I (i + 1) from vl_I_add i 1]
            have c : ((vc_T I L (a + 2 + i)).sort = 8 ∧ (vc_T I L (a + 2 + i)).org = pl.toInt) := by
              rw [← ta]
              exact ⟨(vc_is8 okA).mpr (Classical.not_not.mp h2), (vc_org8 (Classical.not_not.mp h2)).trans (congrArg Int64.toInt (Classical.not_not.mp h3))⟩
            have ef : fd = true := by cases fd <;> first | rfl | exact absurd rfl h4 | exact absurd h4 (by decide)
            refine k I3 (vl_set L3 (a + 2 + i) (vb_just (0 : Int64).toBitVec)) (Eq.trans ?_ (if_pos c).symm) (vc_set_ok O3) (vc_fr_trans F3 (vc_set_fr _ _ _ _))
            rw [vc_T_v O3 T3 (Or.inr (Or.inr rfl)) _, ef, ← ta, vc_detm (Or.inr (Or.inr (Classical.not_not.mp h2)))]
            rfl
  · skip
    refine jv_Wp.lift (fun _ Kz => jv_Ev.steps jv_i117 2 (pc' := 6) (l' := [(0, .ref a), (1, .long pl), (3, .int (vr_b fd)), (4, .int (vl_I 75))]) (st' := [.ref a, .int (vl_I 75)]) rfl Kz) ?_
    refine jv_Wp.lift (fun _ Kz => jv_Ev.m jv_i117 (pc' := 9) (st' := [.ref (a + 1), .int (vl_I 75)]) (G' := (jv_H K Ia La R)) rfl rfl (jv_m_getR ha.k rfl rfl ha.r) Kz) ?_
    refine jv_Wp.lift (fun _ Kz => jv_Ev.m jv_i117 (pc' := 10) (st' := [.int (Int32.ofNat 75), .int (vl_I 75)]) (G' := (jv_H K Ia La R)) rfl rfl (jv_m_len ha.kt rfl) Kz) ?_
    refine jv_Wp.cnd jv_i117 (pt := 83) (pe := 13) (p := ((Int32.ofNat 75) ≤ (vl_I 75))) (q := ((Int32.ofNat 75) ≤ (vl_I 75))) rfl jv_bc_ge rfl rfl Iff.rfl (fun _ => ?_) (fun hz => absurd (Int32.le_refl _) hz)
    refine jv_Wp.of (jv_Ev.ret jv_i117 rfl rfl) ?_
    rw [hQ]
    refine ⟨_, _, rfl, vc_settle_eq (fun n hn => (ht n hn).1) ((fr a (fun z => by unfold vc_th at z; omega)).2 1), fun n hn => (ht n hn).2, vc_fr_mono fr (fun p z => by unfold vc_th at z; exact ⟨by omega, by omega⟩), fun f => (fr a (fun z => by unfold vc_th at z; omega)).1 f⟩
theorem jv_i118 : jv_I 118 2 none 2 44 jv_c118 := ⟨rfl, rfl, rfl, rfl, rfl⟩
theorem vc_forgetP {K : Nat → Option (Nat × Nat)} {I : Nat → Nat → Int32} {L : Nat → Nat → Int64} {R : Nat → Nat → Value} {a : Nat} (ha : vc_St K R a) (oa : vc_okA I L a) {n sl : Nat} : ∃ I1 L1, jv_Ms 118 [.ref a] (jv_H K I L R) n sl (none, jv_H K I1 L1 R, n, sl) ∧ vc_A I1 L1 a = ((vx_drop (vc_A I L a) (fun t => decide (t.sort = 4) || decide (t.sort = 5))).1, 0) ∧ vc_okA I1 L1 a ∧ vc_fr (vc_in a) I L I1 L1 ∧ ∀ f, I1 a f = I a f := by
  obtain ⟨Q, hQ⟩ : ∃ Q : jv_R → Prop, Q = fun X => ∃ I1 L1, X = (none, jv_H K I1 L1 R, n, sl) ∧ vc_A I1 L1 a = ((vx_drop (vc_A I L a) (fun t => decide (t.sort = 4) || decide (t.sort = 5))).1, 0) ∧ vc_okA I1 L1 a ∧ vc_fr (vc_in a) I L I1 L1 ∧ ∀ f, I1 a f = I a f := ⟨_, rfl⟩
  suffices h : jv_Wp 118 0 [(0, .ref a)] [] (jv_H K I L R) n sl Q by
    rw [hQ] at h
    obtain ⟨X, h, I1, L1, e, h'⟩ := h
    subst e
    exact ⟨I1, L1, h, h'⟩
  refine jv_Wp.lift (fun _ Kz => jv_Ev.steps jv_i118 2 (pc' := 2) (l' := [(1, .int (0 : Int32)), (0, .ref a)]) (st' := []) rfl Kz) ?_
  refine jv_Wp.loc (l := [(0, .ref a), (1, .int (0 : Int32))]) ⟨List.forall_mem_cons.mpr ⟨.tail _ (.head _), List.forall_mem_cons.mpr ⟨.head _, fun _ h => absurd h List.not_mem_nil⟩⟩, by show List.Nodup [1, 0]; decide⟩ ?_
  rw [show (0 : Int32) = vl_I 0 from rfl]
  refine vc_loop0 (a := a) (I0 := I) (L0 := L) (f := fun _ t => if (decide (t.sort = 4) || decide (t.sort = 5)) = true then vt_none 0 else t) (P := fun i Iz Lz => jv_Wp 118 2 [(0, .ref a), (1, .int (vl_I i))] [] (jv_H K Iz Lz R) n sl Q) oa (fun i hi Ia La fr ta okA k => ?_) (fun Ia La ht fr => ?_)
  · skip

    refine jv_Wp.lift (fun _ Kz => jv_Ev.steps jv_i118 2 (pc' := 4) (l' := [(0, .ref a), (1, .int (vl_I i))]) (st' := [.ref a, .int (vl_I i)]) rfl Kz) ?_
    refine jv_Wp.lift (fun _ Kz => jv_Ev.m jv_i118 (pc' := 7) (st' := [.ref (a + 1), .int (vl_I i)]) (G' := (jv_H K Ia La R)) rfl rfl (jv_m_getR ha.k rfl rfl ha.r) Kz) ?_
    refine jv_Wp.lift (fun _ Kz => jv_Ev.m jv_i118 (pc' := 8) (st' := [.int (Int32.ofNat 75), .int (vl_I i)]) (G' := (jv_H K Ia La R)) rfl rfl (jv_m_len ha.kt rfl) Kz) ?_
    refine jv_Wp.cnd jv_i118 (pt := 52) (pe := 11) (p := ((Int32.ofNat 75) ≤ (vl_I i))) (q := ((Int32.ofNat 75) ≤ (vl_I i))) rfl jv_bc_ge rfl rfl Iff.rfl (fun h1 => ?_) (fun h1 => ?_)
    · exact absurd ((vl_I_le (by decide) (by omega)).mp h1) (by omega)
    · refine jv_Wp.lift (fun _ Kz => jv_Ev.steps jv_i118 1 (pc' := 12) (l' := [(0, .ref a), (1, .int (vl_I i))]) (st' := [.ref a]) rfl Kz) ?_
      refine jv_Wp.lift (fun _ Kz => jv_Ev.m jv_i118 (pc' := 15) (st' := [.ref (a + 1)]) (G' := (jv_H K Ia La R)) rfl rfl (jv_m_getR ha.k rfl rfl ha.r) Kz) ?_
      refine jv_Wp.lift (fun _ Kz => jv_Ev.steps jv_i118 1 (pc' := 16) (l' := [(0, .ref a), (1, .int (vl_I i))]) (st' := [.int (vl_I i), .ref (a + 1)]) rfl Kz) ?_
      refine jv_Wp.lift (fun _ Kz => jv_Ev.m jv_i118 (pc' := 17) (st' := [.ref (a + 2 + i)]) (G' := (jv_H K Ia La R)) rfl rfl (jv_m_aaldR ha.kt rfl (vl_I_ix hi (by decide)) rfl (vc_St_rt ha hi)) Kz) ?_
      refine jv_Wp.lift (fun _ Kz => jv_Ev.m jv_i118 (pc' := 20) (st' := [.int (Ia (a + 2 + i) 6)]) (G' := (jv_H K Ia La R)) rfl rfl (jv_m_getI (ha.kk i hi) rfl rfl rfl) Kz) ?_
      refine jv_Wp.lift (fun _ Kz => jv_Ev.steps jv_i118 1 (pc' := 21) (l' := [(0, .ref a), (1, .int (vl_I i))]) (st' := [.int (4 : Int32), .int (Ia (a + 2 + i) 6)]) rfl Kz) ?_
      refine jv_Wp.cnd jv_i118 (pt := 37) (pe := 24) (p := ((Ia (a + 2 + i) 6) = (4 : Int32))) (q := ((Ia (a + 2 + i) 6) = (4 : Int32))) rfl jv_bc_eq rfl rfl Iff.rfl (fun h2 => ?_) (fun h2 => ?_)
      · refine jv_Wp.lift (fun _ Kz => jv_Ev.steps jv_i118 1 (pc' := 38) (l' := [(0, .ref a), (1, .int (vl_I i))]) (st' := [.ref a]) rfl Kz) ?_
        refine jv_Wp.lift (fun _ Kz => jv_Ev.m jv_i118 (pc' := 41) (st' := [.ref (a + 1)]) (G' := (jv_H K Ia La R)) rfl rfl (jv_m_getR ha.k rfl rfl ha.r) Kz) ?_
        refine jv_Wp.lift (fun _ Kz => jv_Ev.steps jv_i118 1 (pc' := 42) (l' := [(0, .ref a), (1, .int (vl_I i))]) (st' := [.int (vl_I i), .ref (a + 1)]) rfl Kz) ?_
        refine jv_Wp.lift (fun _ Kz => jv_Ev.m jv_i118 (pc' := 43) (st' := [.ref (a + 2 + i)]) (G' := (jv_H K Ia La R)) rfl rfl (jv_m_aaldR ha.kt rfl (vl_I_ix hi (by decide)) rfl (vc_St_rt ha hi)) Kz) ?_
        obtain ⟨I4, L4, H4, T4, O4, F4⟩ := vc_none (I := Ia) (L := La) (R := R) (n := n) (sl := sl) (ha.kk i hi)
        refine jv_Wp.lift (fun _ Kz => jv_Ev.c jv_i118 (pc' := 46) (S' := []) (G1 := (jv_H K I4 L4 R)) jv_i141 [.ref (a + 2 + i)] rfl rfl rfl rfl (jv_cal rfl (jv_H_at (ha.kk i hi)) rfl rfl) rfl H4 rfl rfl Kz) ?_
        refine jv_Wp.lift (fun _ Kz => jv_Ev.steps jv_i118 2 (pc' := 2) (l' := [(1, .int ((vl_I i) + Int32.ofInt 1)), (0, .ref a)]) (st' := []) rfl Kz) ?_
        refine jv_Wp.loc (l := [(0, .ref a), (1, .int ((vl_I i) + Int32.ofInt 1))]) ⟨List.forall_mem_cons.mpr ⟨.tail _ (.head _), List.forall_mem_cons.mpr ⟨.head _, fun _ h => absurd h List.not_mem_nil⟩⟩, by show List.Nodup [1, 0]; decide⟩ ?_
        rw [show vl_I i + Int32.ofInt 1 = vl_I (i + 1) from vl_I_add i 1]
        have c : ((decide ((vc_T I L (a + 2 + i)).sort = 4) || decide ((vc_T I L (a + 2 + i)).sort = 5)) = true) := by
          rw [← ta, Bool.or_eq_true, decide_eq_true_eq, decide_eq_true_eq]
          exact Or.inl ((vc_is4 okA).mpr h2)
        exact k I4 L4 (T4.trans (if_pos c).symm) O4 F4
      · refine jv_Wp.lift (fun _ Kz => jv_Ev.steps jv_i118 1 (pc' := 25) (l' := [(0, .ref a), (1, .int (vl_I i))]) (st' := [.ref a]) rfl Kz) ?_
        refine jv_Wp.lift (fun _ Kz => jv_Ev.m jv_i118 (pc' := 28) (st' := [.ref (a + 1)]) (G' := (jv_H K Ia La R)) rfl rfl (jv_m_getR ha.k rfl rfl ha.r) Kz) ?_
        refine jv_Wp.lift (fun _ Kz => jv_Ev.steps jv_i118 1 (pc' := 29) (l' := [(0, .ref a), (1, .int (vl_I i))]) (st' := [.int (vl_I i), .ref (a + 1)]) rfl Kz) ?_
        refine jv_Wp.lift (fun _ Kz => jv_Ev.m jv_i118 (pc' := 30) (st' := [.ref (a + 2 + i)]) (G' := (jv_H K Ia La R)) rfl rfl (jv_m_aaldR ha.kt rfl (vl_I_ix hi (by decide)) rfl (vc_St_rt ha hi)) Kz) ?_
        refine jv_Wp.lift (fun _ Kz => jv_Ev.m jv_i118 (pc' := 33) (st' := [.int (Ia (a + 2 + i) 6)]) (G' := (jv_H K Ia La R)) rfl rfl (jv_m_getI (ha.kk i hi) rfl rfl rfl) Kz) ?_
        refine jv_Wp.lift (fun _ Kz => jv_Ev.steps jv_i118 1 (pc' := 34) (l' := [(0, .ref a), (1, .int (vl_I i))]) (st' := [.int (5 : Int32), .int (Ia (a + 2 + i) 6)]) rfl Kz) ?_
        refine jv_Wp.cnd jv_i118 (pt := 46) (pe := 37) (p := (¬ (Ia (a + 2 + i) 6) = (5 : Int32))) (q := (¬ (Ia (a + 2 + i) 6) = (5 : Int32))) rfl jv_bc_ne rfl rfl Iff.rfl (fun h3 => ?_) (fun h3 => ?_)
        · refine jv_Wp.lift (fun _ Kz => jv_Ev.steps jv_i118 2 (pc' := 2) (l' := [(1, .int ((vl_I i) + Int32.ofInt 1)), (0, .ref a)]) (st' := []) rfl Kz) ?_
          refine jv_Wp.loc (l := [(0, .ref a), (1, .int ((vl_I i) + Int32.ofInt 1))]) ⟨List.forall_mem_cons.mpr ⟨.tail _ (.head _), List.forall_mem_cons.mpr ⟨.head _, fun _ h => absurd h List.not_mem_nil⟩⟩, by show List.Nodup [1, 0]; decide⟩ ?_
          rw [show vl_I i + Int32.ofInt 1 = vl_I (i + 1) from vl_I_add i 1]
          have c : ¬ ((decide ((vc_T I L (a + 2 + i)).sort = 4) || decide ((vc_T I L (a + 2 + i)).sort = 5)) = true) := by
            rw [← ta, Bool.or_eq_true, decide_eq_true_eq, decide_eq_true_eq]
            exact fun z => z.elim (fun z => h2 ((vc_is4 okA).mp z)) (fun z => h3 ((vc_is5 okA).mp z))
          exact k Ia La (ta.trans (if_neg c).symm) okA (vc_fr_refl _ _)
        · refine jv_Wp.lift (fun _ Kz => jv_Ev.steps jv_i118 1 (pc' := 38) (l' := [(0, .ref a), (1, .int (vl_I i))]) (st' := [.ref a]) rfl Kz) ?_
          refine jv_Wp.lift (fun _ Kz => jv_Ev.m jv_i118 (pc' := 41) (st' := [.ref (a + 1)]) (G' := (jv_H K Ia La R)) rfl rfl (jv_m_getR ha.k rfl rfl ha.r) Kz) ?_
          refine jv_Wp.lift (fun _ Kz => jv_Ev.steps jv_i118 1 (pc' := 42) (l' := [(0, .ref a), (1, .int (vl_I i))]) (st' := [.int (vl_I i), .ref (a + 1)]) rfl Kz) ?_
          refine jv_Wp.lift (fun _ Kz => jv_Ev.m jv_i118 (pc' := 43) (st' := [.ref (a + 2 + i)]) (G' := (jv_H K Ia La R)) rfl rfl (jv_m_aaldR ha.kt rfl (vl_I_ix hi (by decide)) rfl (vc_St_rt ha hi)) Kz) ?_
          obtain ⟨I5, L5, H5, T5, O5, F5⟩ := vc_none (I := Ia) (L := La) (R := R) (n := n) (sl := sl) (ha.kk i hi)
          refine jv_Wp.lift (fun _ Kz => jv_Ev.c jv_i118 (pc' := 46) (S' := []) (G1 := (jv_H K I5 L5 R)) jv_i141 [.ref (a + 2 + i)] rfl rfl rfl rfl (jv_cal rfl (jv_H_at (ha.kk i hi)) rfl rfl) rfl H5 rfl rfl Kz) ?_
          refine jv_Wp.lift (fun _ Kz => jv_Ev.steps jv_i118 2 (pc' := 2) (l' := [(1, .int ((vl_I i) + Int32.ofInt 1)), (0, .ref a)]) (st' := []) rfl Kz) ?_
          refine jv_Wp.loc (l := [(0, .ref a), (1, .int ((vl_I i) + Int32.ofInt 1))]) ⟨List.forall_mem_cons.mpr ⟨.tail _ (.head _), List.forall_mem_cons.mpr ⟨.head _, fun _ h => absurd h List.not_mem_nil⟩⟩, by show List.Nodup [1, 0]; decide⟩ ?_
          rw [show vl_I i + Int32.ofInt 1 = vl_I (i + 1) from vl_I_add i 1]
          have c : ((decide ((vc_T I L (a + 2 + i)).sort = 4) || decide ((vc_T I L (a + 2 + i)).sort = 5)) = true) := by
            rw [← ta, Bool.or_eq_true, decide_eq_true_eq, decide_eq_true_eq]
            exact Or.inr ((vc_is5 okA).mpr (Classical.not_not.mp h3))
          exact k I5 L5 (T5.trans (if_pos c).symm) O5 F5
  · skip
    refine jv_Wp.lift (fun _ Kz => jv_Ev.steps jv_i118 2 (pc' := 4) (l' := [(0, .ref a), (1, .int (vl_I 75))]) (st' := [.ref a, .int (vl_I 75)]) rfl Kz) ?_
    refine jv_Wp.lift (fun _ Kz => jv_Ev.m jv_i118 (pc' := 7) (st' := [.ref (a + 1), .int (vl_I 75)]) (G' := (jv_H K Ia La R)) rfl rfl (jv_m_getR ha.k rfl rfl ha.r) Kz) ?_
    refine jv_Wp.lift (fun _ Kz => jv_Ev.m jv_i118 (pc' := 8) (st' := [.int (Int32.ofNat 75), .int (vl_I 75)]) (G' := (jv_H K Ia La R)) rfl rfl (jv_m_len ha.kt rfl) Kz) ?_
    refine jv_Wp.cnd jv_i118 (pt := 52) (pe := 11) (p := ((Int32.ofNat 75) ≤ (vl_I 75))) (q := ((Int32.ofNat 75) ≤ (vl_I 75))) rfl jv_bc_ge rfl rfl Iff.rfl (fun _ => ?_) (fun hz => absurd (Int32.le_refl _) hz)
    refine jv_Wp.lift (fun _ Kz => jv_Ev.steps jv_i118 2 (pc' := 54) (l' := [(0, .ref a), (1, .int (vl_I 75))]) (st' := [.long (0 : Int64), .ref a]) rfl Kz) ?_
    refine jv_Wp.lift (fun _ Kz => jv_Ev.m jv_i118 (pc' := 57) (st' := []) (G' := (jv_H K Ia (jv_u La a 1 (0 : Int64)) R)) rfl rfl (jv_m_putL ha.k rfl rfl rfl rfl) Kz) ?_
    refine jv_Wp.of (jv_Ev.ret jv_i118 rfl rfl) ?_
    rw [hQ]
    refine ⟨_, _, rfl, Prod.ext (congrArg Prod.fst ((vc_A_u1 _ _ _ _).trans (congrArg (fun A : vt_A => (A.1, (0 : Int))) (vc_drop_eq (q := fun t => decide (t.sort = 4) || decide (t.sort = 5)) (fun n hn => (ht n hn).1) ((fr a (fun z => by unfold vc_th at z; omega)).2 1))))) (congrArg Int64.toInt (jv_u_self _ _ _ _)), fun n hn => (vc_ok_u1 _ _ (by omega) _).mpr (ht n hn).2, fun p hp => ⟨fun f => (fr p (fun z => hp (by unfold vc_th at z; exact ⟨by omega, by omega⟩))).1 f, fun f => (jv_u_o _ _ _ _ (fun z => hp (by rw [z]; exact ⟨by omega, by omega⟩))).trans ((fr p (fun z => hp (by unfold vc_th at z; exact ⟨by omega, by omega⟩))).2 f)⟩, fun f => (fr a (fun z => by unfold vc_th at z; omega)).1 f⟩