/-! part b25: the packet measured (gen/tb25.py) -/
def vx_ms (n : Nat) (pf : Bool) (v : vb_S) (A B : vt_A) : vt_A × vt_A :=
  if v.low ≠ v.high ∨ v.low.toInt < 0 then (A, B)
  else if n = 2 then (if pf = true then (vx_know A v.low.toInt, B) else (A, vx_know B (v.low.toInt + 1)))
  else if n = 3 then (if pf = true then (vx_know A (v.low.toInt + 1), B) else (A, vx_know B v.low.toInt))
  else if n = 10 then (if pf = true then (A, vx_know B (v.low.toInt + 1)) else (vx_know A v.low.toInt, B))
  else (if pf = true then (A, vx_know B v.low.toInt) else (vx_know A (v.low.toInt + 1), B))
theorem vi_add1 {a : Int64} (ha : -1 ≤ a.toInt ∧ a.toInt ≤ 4611686018427387904) : (a + (1 : Int64)).toInt = a.toInt + 1 := by
  rw [Int64.toInt_add]
  exact Int.bmod_eq_of_le (by have : (1 : Int64).toInt = 1 := rfl; omega) (by have : (1 : Int64).toInt = 1 := rfl; omega)
theorem vc_fr_A {P : Nat → Prop} {I I1 : Nat → Nat → Int32} {L L1 : Nat → Nat → Int64} {a : Nat} (h : vc_fr P I L I1 L1) (hP : ∀ p, vc_in a p → ¬ P p) : vc_A I1 L1 a = vc_A I L a := vc_A_eq (fun n hn => vc_fr_T h (hP _ ⟨by omega, by omega⟩)) ((h a (hP _ ⟨by omega, by omega⟩)).2 1)
theorem vc_fr_okA {P : Nat → Prop} {I I1 : Nat → Nat → Int32} {L L1 : Nat → Nat → Int64} {a : Nat} (h : vc_fr P I L I1 L1) (hP : ∀ p, vc_in a p → ¬ P p) (o : vc_okA I L a) : vc_okA I1 L1 a := fun n hn => (vc_fr_ok h (hP _ ⟨by omega, by omega⟩)).mpr (o n hn)
theorem vc_apart {p : Nat} (h : vc_in 12 p) : ¬ vc_in 89 p := fun z => by unfold vc_in at h z; omega
theorem vc_apart' {p : Nat} (h : vc_in 89 p) : ¬ vc_in 12 p := fun z => by unfold vc_in at h z; omega
theorem jv_i44 : jv_I 44 8 none 2 48 jv_c44 := ⟨rfl, rfl, rfl, rfl, rfl⟩
theorem vc_measure {K : Nat → Option (Nat × Nat)} {I : Nat → Nat → Int32} {L : Nat → Nat → Int64} {R : Nat → Nat → Value} (k : Nat) (pf : Bool) {d y : Nat} (hC : vc_C K R) (od : vc_ok I L d) (hk : k = 2 ∨ k = 3 ∨ k = 10 ∨ k = 11) (hd : K d = some (8, 10)) (hy : K y = some (8, 10)) (hp : pf = decide (I d 6 = 4)) (hbd : I d 6 = 4 → (vl_S L d).low = (vl_S L d).high → (L d 2).toInt ≤ 1073000000) (hby : ¬ I d 6 = 4 → (vl_S L y).low = (vl_S L y).high → (L y 2).toInt ≤ 1073000000) (o12 : vc_okA I L 12) (o89 : vc_okA I L 89) {n sl : Nat} : ∃ I1 L1, jv_Ms 44 [.ref 10, .int (vl_I k), .ref d, .ref y] (jv_H K I L R) n sl (none, jv_H K I1 L1 R, n, sl) ∧ vc_A I1 L1 12 = (vx_ms k pf (vl_S L (if pf = true then d else y)) (vc_A I L 12) (vc_A I L 89)).1 ∧ vc_A I1 L1 89 = (vx_ms k pf (vl_S L (if pf = true then d else y)) (vc_A I L 12) (vc_A I L 89)).2 ∧ vc_okA I1 L1 12 ∧ vc_okA I1 L1 89 ∧ vc_fr (fun p => vc_in 12 p ∨ vc_in 89 p) I L I1 L1 ∧ ∀ f, I1 12 f = I 12 f ∧ I1 89 f = I 89 f := by
  obtain ⟨Q, hQ⟩ : ∃ Q : jv_R → Prop, Q = fun X => ∃ I1 L1, X = (none, jv_H K I1 L1 R, n, sl) ∧ vc_A I1 L1 12 = (vx_ms k pf (vl_S L (if pf = true then d else y)) (vc_A I L 12) (vc_A I L 89)).1 ∧ vc_A I1 L1 89 = (vx_ms k pf (vl_S L (if pf = true then d else y)) (vc_A I L 12) (vc_A I L 89)).2 ∧ vc_okA I1 L1 12 ∧ vc_okA I1 L1 89 ∧ vc_fr (fun p => vc_in 12 p ∨ vc_in 89 p) I L I1 L1 ∧ ∀ f, I1 12 f = I 12 f ∧ I1 89 f = I 89 f := ⟨_, rfl⟩
  suffices h : jv_Wp 44 0 [(0, .ref 10), (1, .int (vl_I k)), (2, .ref d), (3, .ref y)] [] (jv_H K I L R) n sl Q by
    rw [hQ] at h
    obtain ⟨X, h, I1, L1, e, h'⟩ := h
    subst e
    exact ⟨I1, L1, h, h'⟩
  refine jv_Wp.lift (fun _ Kz => jv_Ev.steps jv_i44 1 (pc' := 1) (l' := [(0, .ref 10), (1, .int (vl_I k)), (2, .ref d), (3, .ref y)]) (st' := [.ref d]) rfl Kz) ?_
  refine jv_Wp.lift (fun _ Kz => jv_Ev.m jv_i44 (pc' := 4) (st' := [.int (I d 6)]) (G' := (jv_H K I L R)) rfl rfl (jv_m_getI hd rfl rfl rfl) Kz) ?_
  refine jv_Wp.lift (fun _ Kz => jv_Ev.steps jv_i44 1 (pc' := 5) (l' := [(0, .ref 10), (1, .int (vl_I k)), (2, .ref d), (3, .ref y)]) (st' := [.int (4 : Int32), .int (I d 6)]) rfl Kz) ?_
  refine jv_Wp.cnd jv_i44 (pt := 12) (pe := 8) (p := (¬ (I d 6) = (4 : Int32))) (q := (¬ (I d 6) = (4 : Int32))) rfl jv_bc_ne rfl rfl Iff.rfl (fun h1 => ?_) (fun h1 => ?_)
  · refine jv_Wp.lift (fun _ Kz => jv_Ev.steps jv_i44 3 (pc' := 17) (l' := [(4, .int (0 : Int32)), (0, .ref 10), (1, .int (vl_I k)), (2, .ref d), (3, .ref y)]) (st' := [.int (0 : Int32)]) rfl Kz) ?_
    refine jv_Wp.lift (fun _ Kz => jv_Ev.br jv_i44 (pc' := 24) (st' := []) rfl (by rfl) Kz) ?_
    refine jv_Wp.lift (fun _ Kz => jv_Ev.steps jv_i44 3 (pc' := 29) (l' := [(5, .ref y), (4, .int (0 : Int32)), (0, .ref 10), (1, .int (vl_I k)), (2, .ref d), (3, .ref y)]) (st' := [.ref y]) rfl Kz) ?_
    refine jv_Wp.lift (fun _ Kz => jv_Ev.c jv_i44 (pc' := 32) (S' := [.int (vr_b (decide ((vl_S L y).low = (vl_S L y).high)))]) jv_i153 [.ref y] rfl rfl rfl rfl (jv_cal rfl (jv_H_at hy) rfl rfl) rfl (vl_single (Or.inr hy)) rfl rfl Kz) ?_
    refine jv_Wp.cnd jv_i44 (pt := 45) (pe := 35) (p := ((vr_b (decide ((vl_S L y).low = (vl_S L y).high))) = 0)) (q := ((vr_b (decide ((vl_S L y).low = (vl_S L y).high))) = 0)) rfl jv_bi_eq rfl rfl Iff.rfl (fun h2 => ?_) (fun h2 => ?_)
    · refine jv_Wp.of (jv_Ev.ret jv_i44 rfl rfl) ?_
      rw [hQ]
      have ep : pf = false := hp.trans (decide_eq_false h1)
      have ev : (vl_S L (if pf = true then d else y)) = vl_S L y := by rw [ep]; rfl
      have c : (vl_S L y).low ≠ (vl_S L y).high ∨ (vl_S L y).low.toInt < 0 := Or.inl (fun z => by have q := h2; rw [decide_eq_true z] at q; exact absurd q (by decide))
      have e : vx_ms k pf (vl_S L (if pf = true then d else y)) (vc_A I L 12) (vc_A I L 89) = (vc_A I L 12, vc_A I L 89) := by rw [ev]; exact if_pos c
      exact ⟨_, _, rfl, by rw [e], by rw [e], o12, o89, vc_fr_refl _ _, fun _ => ⟨rfl, rfl⟩⟩
    · refine jv_Wp.lift (fun _ Kz => jv_Ev.steps jv_i44 1 (pc' := 37) (l' := [(5, .ref y), (4, .int (0 : Int32)), (0, .ref 10), (1, .int (vl_I k)), (2, .ref d), (3, .ref y)]) (st' := [.ref y]) rfl Kz) ?_
      refine jv_Wp.lift (fun _ Kz => jv_Ev.m jv_i44 (pc' := 40) (st' := [.long (L y 2)]) (G' := (jv_H K I L R)) rfl rfl (jv_m_getL hy rfl rfl rfl) Kz) ?_
      refine jv_Wp.lift (fun _ Kz => jv_Ev.steps jv_i44 2 (pc' := 42) (l' := [(5, .ref y), (4, .int (0 : Int32)), (0, .ref 10), (1, .int (vl_I k)), (2, .ref d), (3, .ref y)]) (st' := [.int (lg_cmp (L y 2) (0 : Int64))]) rfl Kz) ?_
      refine jv_Wp.cnd jv_i44 (pt := 46) (pe := 45) (p := (0 ≤ (lg_cmp (L y 2) (0 : Int64)))) (q := ((0 : Int64) ≤ (L y 2))) rfl jv_bi_ge rfl rfl (lg_cmp_ge (L y 2) (0 : Int64)) (fun h3 => ?_) (fun h3 => ?_)
      · refine jv_Wp.lift (fun _ Kz => jv_Ev.steps jv_i44 1 (pc' := 48) (l' := [(5, .ref y), (4, .int (0 : Int32)), (0, .ref 10), (1, .int (vl_I k)), (2, .ref d), (3, .ref y)]) (st' := [.ref y]) rfl Kz) ?_
        refine jv_Wp.lift (fun _ Kz => jv_Ev.m jv_i44 (pc' := 51) (st' := [.long (L y 2)]) (G' := (jv_H K I L R)) rfl rfl (jv_m_getL hy rfl rfl rfl) Kz) ?_
        refine jv_Wp.lift (fun _ Kz => jv_Ev.steps jv_i44 2 (pc' := 54) (l' := [(6, .long (L y 2)), (5, .ref y), (4, .int (0 : Int32)), (0, .ref 10), (1, .int (vl_I k)), (2, .ref d), (3, .ref y)]) (st' := [.int (vl_I k)]) rfl Kz) ?_
        refine jv_Wp.bys (q := ((vl_I k) = Int32.ofInt 2)) (fun h4 => ?_) (fun h4 => ?_)
        · refine jv_Wp.lift (fun _ Kz => jv_Ev.br jv_i44 (pc' := 88) (st' := []) rfl (by rw [h4]; rfl) Kz) ?_
          refine jv_Wp.lift (fun _ Kz => jv_Ev.steps jv_i44 1 (pc' := 90) (l' := [(6, .long (L y 2)), (5, .ref y), (4, .int (0 : Int32)), (0, .ref 10), (1, .int (vl_I k)), (2, .ref d), (3, .ref y)]) (st' := [.int (0 : Int32)]) rfl Kz) ?_
          refine jv_Wp.lift (fun _ Kz => jv_Ev.br jv_i44 (pc' := 105) (st' := []) rfl (by rfl) Kz) ?_
          refine jv_Wp.lift (fun _ Kz => jv_Ev.steps jv_i44 1 (pc' := 106) (l' := [(6, .long (L y 2)), (5, .ref y), (4, .int (0 : Int32)), (0, .ref 10), (1, .int (vl_I k)), (2, .ref d), (3, .ref y)]) (st' := [.ref 10]) rfl Kz) ?_
          refine jv_Wp.lift (fun _ Kz => jv_Ev.m jv_i44 (pc' := 109) (st' := [.ref 89]) (G' := (jv_H K I L R)) rfl rfl (jv_m_getR hC.k rfl rfl hC.rjumped) Kz) ?_
          refine jv_Wp.lift (fun _ Kz => jv_Ev.steps jv_i44 3 (pc' := 113) (l' := [(6, .long (L y 2)), (5, .ref y), (4, .int (0 : Int32)), (0, .ref 10), (1, .int (vl_I k)), (2, .ref d), (3, .ref y)]) (st' := [.long ((L y 2) + (1 : Int64)), .ref 89]) rfl Kz) ?_
          have f1 : ¬ (vc_T I L d).sort = 4 := fun z => h1 ((vc_is4 od).mp z)
          obtain ⟨I1, L1, H1, T1, O1, F1, G1⟩ := vc_know (I := I) (L := L) (R := R) (n := n) (sl := sl) ((L y 2) + (1 : Int64)) hC.jumped o89
          refine jv_Wp.lift (fun _ Kz => jv_Ev.c jv_i44 (pc' := 116) (S' := []) (G1 := (jv_H K I1 L1 R)) jv_i115 [.ref 89, .long ((L y 2) + (1 : Int64))] rfl rfl rfl rfl (jv_cal rfl (jv_H_at hC.jumped.k) rfl rfl) rfl H1 rfl rfl Kz) ?_
          refine jv_Wp.lift (fun _ Kz => jv_Ev.steps jv_i44 1 (pc' := 209) (l' := [(6, .long (L y 2)), (5, .ref y), (4, .int (0 : Int32)), (0, .ref 10), (1, .int (vl_I k)), (2, .ref d), (3, .ref y)]) (st' := []) rfl Kz) ?_
          refine jv_Wp.of (jv_Ev.ret jv_i44 rfl rfl) ?_
          rw [hQ]
          have ep : pf = false := hp.trans (decide_eq_false h1)
          have ev : (vl_S L (if pf = true then d else y)) = vl_S L y := by rw [ep]; rfl
          have es : (vl_S L y).low = (vl_S L y).high := of_decide_eq_true (vr_b_t h2)
          have nl : ¬ (L y 2).toInt < 0 := Int.not_lt.mpr (Int64.le_iff_toInt_le.mp h3)
          have c : ¬ ((vl_S L y).low ≠ (vl_S L y).high ∨ (vl_S L y).low.toInt < 0) := fun z => z.elim (fun z => z es) nl
          have bb : (L y 2).toInt ≤ 1073000000 := hby h1 es
          have a1 := vi_add1 (a := L y 2) (by omega)
          have k2 : k = 2 := (vl_I_inj (by omega) (by decide)).mp h4
          have e : vx_ms k pf (vl_S L (if pf = true then d else y)) (vc_A I L 12) (vc_A I L 89) = (vc_A I L 12, vx_know (vc_A I L 89) ((vl_S L y).low.toInt + 1)) := by
            rw [ev, ep]; unfold vx_ms; rw [if_neg c, if_pos k2, if_neg (by decide)]
          exact ⟨_, _, rfl, by rw [e]; exact vc_fr_A F1 (fun p z => vc_apart z), by rw [e]; exact T1.trans (by rw [a1]; rfl), vc_fr_okA F1 (fun p z => vc_apart z) o12, O1, vc_fr_mono F1 (fun p z => Or.inr z), fun f => ⟨(F1 12 (vc_apart ⟨by decide, by decide⟩)).1 f, G1 f⟩⟩
        · refine jv_Wp.bys (q := ((vl_I k) = Int32.ofInt 3)) (fun h5 => ?_) (fun h5 => ?_)
          · refine jv_Wp.lift (fun _ Kz => jv_Ev.br jv_i44 (pc' := 119) (st' := []) rfl (by rw [h5]; rfl) Kz) ?_
            refine jv_Wp.lift (fun _ Kz => jv_Ev.steps jv_i44 1 (pc' := 121) (l' := [(6, .long (L y 2)), (5, .ref y), (4, .int (0 : Int32)), (0, .ref 10), (1, .int (vl_I k)), (2, .ref d), (3, .ref y)]) (st' := [.int (0 : Int32)]) rfl Kz) ?_
            refine jv_Wp.lift (fun _ Kz => jv_Ev.br jv_i44 (pc' := 138) (st' := []) rfl (by rfl) Kz) ?_
            refine jv_Wp.lift (fun _ Kz => jv_Ev.steps jv_i44 1 (pc' := 139) (l' := [(6, .long (L y 2)), (5, .ref y), (4, .int (0 : Int32)), (0, .ref 10), (1, .int (vl_I k)), (2, .ref d), (3, .ref y)]) (st' := [.ref 10]) rfl Kz) ?_
            refine jv_Wp.lift (fun _ Kz => jv_Ev.m jv_i44 (pc' := 142) (st' := [.ref 89]) (G' := (jv_H K I L R)) rfl rfl (jv_m_getR hC.k rfl rfl hC.rjumped) Kz) ?_
            refine jv_Wp.lift (fun _ Kz => jv_Ev.steps jv_i44 1 (pc' := 144) (l' := [(6, .long (L y 2)), (5, .ref y), (4, .int (0 : Int32)), (0, .ref 10), (1, .int (vl_I k)), (2, .ref d), (3, .ref y)]) (st' := [.long (L y 2), .ref 89]) rfl Kz) ?_
            have f1 : ¬ (vc_T I L d).sort = 4 := fun z => h1 ((vc_is4 od).mp z)
            obtain ⟨I2, L2, H2, T2, O2, F2, G2⟩ := vc_know (I := I) (L := L) (R := R) (n := n) (sl := sl) (L y 2) hC.jumped o89
            refine jv_Wp.lift (fun _ Kz => jv_Ev.c jv_i44 (pc' := 147) (S' := []) (G1 := (jv_H K I2 L2 R)) jv_i115 [.ref 89, .long (L y 2)] rfl rfl rfl rfl (jv_cal rfl (jv_H_at hC.jumped.k) rfl rfl) rfl H2 rfl rfl Kz) ?_
            refine jv_Wp.lift (fun _ Kz => jv_Ev.steps jv_i44 1 (pc' := 209) (l' := [(6, .long (L y 2)), (5, .ref y), (4, .int (0 : Int32)), (0, .ref 10), (1, .int (vl_I k)), (2, .ref d), (3, .ref y)]) (st' := []) rfl Kz) ?_
            refine jv_Wp.of (jv_Ev.ret jv_i44 rfl rfl) ?_
            rw [hQ]
            have ep : pf = false := hp.trans (decide_eq_false h1)
            have ev : (vl_S L (if pf = true then d else y)) = vl_S L y := by rw [ep]; rfl
            have es : (vl_S L y).low = (vl_S L y).high := of_decide_eq_true (vr_b_t h2)
            have nl : ¬ (L y 2).toInt < 0 := Int.not_lt.mpr (Int64.le_iff_toInt_le.mp h3)
            have c : ¬ ((vl_S L y).low ≠ (vl_S L y).high ∨ (vl_S L y).low.toInt < 0) := fun z => z.elim (fun z => z es) nl
            have bb : (L y 2).toInt ≤ 1073000000 := hby h1 es
            have a1 := vi_add1 (a := L y 2) (by omega)
            have k2 : ¬ k = 2 := fun z => h4 (by rw [z]; rfl)
            have k3 : k = 3 := (vl_I_inj (by omega) (by decide)).mp h5
            have e : vx_ms k pf (vl_S L (if pf = true then d else y)) (vc_A I L 12) (vc_A I L 89) = (vc_A I L 12, vx_know (vc_A I L 89) ((vl_S L y).low.toInt)) := by
              rw [ev, ep]; unfold vx_ms; rw [if_neg c, if_neg k2, if_pos k3, if_neg (by decide)]
            exact ⟨_, _, rfl, by rw [e]; exact vc_fr_A F2 (fun p z => vc_apart z), by rw [e]; exact T2, vc_fr_okA F2 (fun p z => vc_apart z) o12, O2, vc_fr_mono F2 (fun p z => Or.inr z), fun f => ⟨(F2 12 (vc_apart ⟨by decide, by decide⟩)).1 f, G2 f⟩⟩
          · refine jv_Wp.bys (q := ((vl_I k) = Int32.ofInt 10)) (fun h6 => ?_) (fun h6 => ?_)
            · refine jv_Wp.lift (fun _ Kz => jv_Ev.br jv_i44 (pc' := 150) (st' := []) rfl (by rw [h6]; rfl) Kz) ?_
              refine jv_Wp.lift (fun _ Kz => jv_Ev.steps jv_i44 1 (pc' := 152) (l' := [(6, .long (L y 2)), (5, .ref y), (4, .int (0 : Int32)), (0, .ref 10), (1, .int (vl_I k)), (2, .ref d), (3, .ref y)]) (st' := [.int (0 : Int32)]) rfl Kz) ?_
              refine jv_Wp.lift (fun _ Kz => jv_Ev.br jv_i44 (pc' := 169) (st' := []) rfl (by rfl) Kz) ?_
              refine jv_Wp.lift (fun _ Kz => jv_Ev.steps jv_i44 1 (pc' := 170) (l' := [(6, .long (L y 2)), (5, .ref y), (4, .int (0 : Int32)), (0, .ref 10), (1, .int (vl_I k)), (2, .ref d), (3, .ref y)]) (st' := [.ref 10]) rfl Kz) ?_
              refine jv_Wp.lift (fun _ Kz => jv_Ev.m jv_i44 (pc' := 173) (st' := [.ref 12]) (G' := (jv_H K I L R)) rfl rfl (jv_m_getR hC.k rfl rfl hC.rnow) Kz) ?_
              refine jv_Wp.lift (fun _ Kz => jv_Ev.steps jv_i44 1 (pc' := 175) (l' := [(6, .long (L y 2)), (5, .ref y), (4, .int (0 : Int32)), (0, .ref 10), (1, .int (vl_I k)), (2, .ref d), (3, .ref y)]) (st' := [.long (L y 2), .ref 12]) rfl Kz) ?_
              have f1 : ¬ (vc_T I L d).sort = 4 := fun z => h1 ((vc_is4 od).mp z)
              obtain ⟨I3, L3, H3, T3, O3, F3, G3⟩ := vc_know (I := I) (L := L) (R := R) (n := n) (sl := sl) (L y 2) hC.now o12
              refine jv_Wp.lift (fun _ Kz => jv_Ev.c jv_i44 (pc' := 178) (S' := []) (G1 := (jv_H K I3 L3 R)) jv_i115 [.ref 12, .long (L y 2)] rfl rfl rfl rfl (jv_cal rfl (jv_H_at hC.now.k) rfl rfl) rfl H3 rfl rfl Kz) ?_
              refine jv_Wp.lift (fun _ Kz => jv_Ev.steps jv_i44 1 (pc' := 209) (l' := [(6, .long (L y 2)), (5, .ref y), (4, .int (0 : Int32)), (0, .ref 10), (1, .int (vl_I k)), (2, .ref d), (3, .ref y)]) (st' := []) rfl Kz) ?_
              refine jv_Wp.of (jv_Ev.ret jv_i44 rfl rfl) ?_
              rw [hQ]
              have ep : pf = false := hp.trans (decide_eq_false h1)
              have ev : (vl_S L (if pf = true then d else y)) = vl_S L y := by rw [ep]; rfl
              have es : (vl_S L y).low = (vl_S L y).high := of_decide_eq_true (vr_b_t h2)
              have nl : ¬ (L y 2).toInt < 0 := Int.not_lt.mpr (Int64.le_iff_toInt_le.mp h3)
              have c : ¬ ((vl_S L y).low ≠ (vl_S L y).high ∨ (vl_S L y).low.toInt < 0) := fun z => z.elim (fun z => z es) nl
              have bb : (L y 2).toInt ≤ 1073000000 := hby h1 es
              have a1 := vi_add1 (a := L y 2) (by omega)
              have k2 : ¬ k = 2 := fun z => h4 (by rw [z]; rfl)
              have k3 : ¬ k = 3 := fun z => h5 (by rw [z]; rfl)
              have k10 : k = 10 := (vl_I_inj (by omega) (by decide)).mp h6
              have e : vx_ms k pf (vl_S L (if pf = true then d else y)) (vc_A I L 12) (vc_A I L 89) = (vx_know (vc_A I L 12) ((vl_S L y).low.toInt), vc_A I L 89) := by
                rw [ev, ep]; unfold vx_ms; rw [if_neg c, if_neg k2, if_neg k3, if_pos k10, if_neg (by decide)]
              exact ⟨_, _, rfl, by rw [e]; exact T3, by rw [e]; exact vc_fr_A F3 (fun p z => vc_apart' z), O3, vc_fr_okA F3 (fun p z => vc_apart' z) o89, vc_fr_mono F3 (fun p z => Or.inl z), fun f => ⟨G3 f, (F3 89 (vc_apart' ⟨by decide, by decide⟩)).1 f⟩⟩
            · refine jv_Wp.lift (fun _ Kz => jv_Ev.br jv_i44 (pc' := 181) (st' := []) rfl (jv_lsw_def (List.forall_mem_cons.mpr ⟨(jv_ne_toInt (k := 2) h4), List.forall_mem_cons.mpr ⟨(jv_ne_toInt (k := 3) h5), List.forall_mem_cons.mpr ⟨(jv_ne_toInt (k := 10) h6), fun _ h => absurd h List.not_mem_nil⟩⟩⟩)) Kz) ?_
              refine jv_Wp.lift (fun _ Kz => jv_Ev.steps jv_i44 1 (pc' := 183) (l' := [(6, .long (L y 2)), (5, .ref y), (4, .int (0 : Int32)), (0, .ref 10), (1, .int (vl_I k)), (2, .ref d), (3, .ref y)]) (st' := [.int (0 : Int32)]) rfl Kz) ?_
              refine jv_Wp.lift (fun _ Kz => jv_Ev.br jv_i44 (pc' := 198) (st' := []) rfl (by rfl) Kz) ?_
              refine jv_Wp.lift (fun _ Kz => jv_Ev.steps jv_i44 1 (pc' := 199) (l' := [(6, .long (L y 2)), (5, .ref y), (4, .int (0 : Int32)), (0, .ref 10), (1, .int (vl_I k)), (2, .ref d), (3, .ref y)]) (st' := [.ref 10]) rfl Kz) ?_
              refine jv_Wp.lift (fun _ Kz => jv_Ev.m jv_i44 (pc' := 202) (st' := [.ref 12]) (G' := (jv_H K I L R)) rfl rfl (jv_m_getR hC.k rfl rfl hC.rnow) Kz) ?_
              refine jv_Wp.lift (fun _ Kz => jv_Ev.steps jv_i44 3 (pc' := 206) (l' := [(6, .long (L y 2)), (5, .ref y), (4, .int (0 : Int32)), (0, .ref 10), (1, .int (vl_I k)), (2, .ref d), (3, .ref y)]) (st' := [.long ((L y 2) + (1 : Int64)), .ref 12]) rfl Kz) ?_
              have f1 : ¬ (vc_T I L d).sort = 4 := fun z => h1 ((vc_is4 od).mp z)
              obtain ⟨I4, L4, H4, T4, O4, F4, G4⟩ := vc_know (I := I) (L := L) (R := R) (n := n) (sl := sl) ((L y 2) + (1 : Int64)) hC.now o12
              refine jv_Wp.lift (fun _ Kz => jv_Ev.c jv_i44 (pc' := 209) (S' := []) (G1 := (jv_H K I4 L4 R)) jv_i115 [.ref 12, .long ((L y 2) + (1 : Int64))] rfl rfl rfl rfl (jv_cal rfl (jv_H_at hC.now.k) rfl rfl) rfl H4 rfl rfl Kz) ?_
              refine jv_Wp.of (jv_Ev.ret jv_i44 rfl rfl) ?_
              rw [hQ]
              have ep : pf = false := hp.trans (decide_eq_false h1)
              have ev : (vl_S L (if pf = true then d else y)) = vl_S L y := by rw [ep]; rfl
              have es : (vl_S L y).low = (vl_S L y).high := of_decide_eq_true (vr_b_t h2)
              have nl : ¬ (L y 2).toInt < 0 := Int.not_lt.mpr (Int64.le_iff_toInt_le.mp h3)
              have c : ¬ ((vl_S L y).low ≠ (vl_S L y).high ∨ (vl_S L y).low.toInt < 0) := fun z => z.elim (fun z => z es) nl
              have bb : (L y 2).toInt ≤ 1073000000 := hby h1 es
              have a1 := vi_add1 (a := L y 2) (by omega)
              have k2 : ¬ k = 2 := fun z => h4 (by rw [z]; rfl)
              have k3 : ¬ k = 3 := fun z => h5 (by rw [z]; rfl)
              have k10 : ¬ k = 10 := fun z => h6 (by rw [z]; rfl)
              have e : vx_ms k pf (vl_S L (if pf = true then d else y)) (vc_A I L 12) (vc_A I L 89) = (vx_know (vc_A I L 12) ((vl_S L y).low.toInt + 1), vc_A I L 89) := by
                rw [ev, ep]; unfold vx_ms; rw [if_neg c, if_neg k2, if_neg k3, if_neg k10, if_neg (by decide)]
              exact ⟨_, _, rfl, by rw [e]; exact T4.trans (by rw [a1]; rfl), by rw [e]; exact vc_fr_A F4 (fun p z => vc_apart' z), O4, vc_fr_okA F4 (fun p z => vc_apart' z) o89, vc_fr_mono F4 (fun p z => Or.inl z), fun f => ⟨G4 f, (F4 89 (vc_apart' ⟨by decide, by decide⟩)).1 f⟩⟩
      · refine jv_Wp.of (jv_Ev.ret jv_i44 rfl rfl) ?_
        rw [hQ]
        have ep : pf = false := hp.trans (decide_eq_false h1)
        have ev : (vl_S L (if pf = true then d else y)) = vl_S L y := by rw [ep]; rfl
        have c : (vl_S L y).low ≠ (vl_S L y).high ∨ (vl_S L y).low.toInt < 0 := Or.inr (Int.not_le.mp ((not_congr Int64.le_iff_toInt_le).mp h3))
        have e : vx_ms k pf (vl_S L (if pf = true then d else y)) (vc_A I L 12) (vc_A I L 89) = (vc_A I L 12, vc_A I L 89) := by rw [ev]; exact if_pos c
        exact ⟨_, _, rfl, by rw [e], by rw [e], o12, o89, vc_fr_refl _ _, fun _ => ⟨rfl, rfl⟩⟩
  · refine jv_Wp.lift (fun _ Kz => jv_Ev.steps jv_i44 4 (pc' := 17) (l' := [(4, .int (1 : Int32)), (0, .ref 10), (1, .int (vl_I k)), (2, .ref d), (3, .ref y)]) (st' := [.int (1 : Int32)]) rfl Kz) ?_
    refine jv_Wp.lift (fun _ Kz => jv_Ev.br jv_i44 (pc' := 20) (st' := []) rfl (by rfl) Kz) ?_
    refine jv_Wp.lift (fun _ Kz => jv_Ev.steps jv_i44 4 (pc' := 29) (l' := [(5, .ref d), (4, .int (1 : Int32)), (0, .ref 10), (1, .int (vl_I k)), (2, .ref d), (3, .ref y)]) (st' := [.ref d]) rfl Kz) ?_
    refine jv_Wp.lift (fun _ Kz => jv_Ev.c jv_i44 (pc' := 32) (S' := [.int (vr_b (decide ((vl_S L d).low = (vl_S L d).high)))]) jv_i153 [.ref d] rfl rfl rfl rfl (jv_cal rfl (jv_H_at hd) rfl rfl) rfl (vl_single (Or.inr hd)) rfl rfl Kz) ?_
    refine jv_Wp.cnd jv_i44 (pt := 45) (pe := 35) (p := ((vr_b (decide ((vl_S L d).low = (vl_S L d).high))) = 0)) (q := ((vr_b (decide ((vl_S L d).low = (vl_S L d).high))) = 0)) rfl jv_bi_eq rfl rfl Iff.rfl (fun h7 => ?_) (fun h7 => ?_)
    · refine jv_Wp.of (jv_Ev.ret jv_i44 rfl rfl) ?_
      rw [hQ]
      have ep : pf = true := hp.trans (decide_eq_true (Classical.not_not.mp h1))
      have ev : (vl_S L (if pf = true then d else y)) = vl_S L d := by rw [ep]; rfl
      have c : (vl_S L d).low ≠ (vl_S L d).high ∨ (vl_S L d).low.toInt < 0 := Or.inl (fun z => by have q := h7; rw [decide_eq_true z] at q; exact absurd q (by decide))
      have e : vx_ms k pf (vl_S L (if pf = true then d else y)) (vc_A I L 12) (vc_A I L 89) = (vc_A I L 12, vc_A I L 89) := by rw [ev]; exact if_pos c
      exact ⟨_, _, rfl, by rw [e], by rw [e], o12, o89, vc_fr_refl _ _, fun _ => ⟨rfl, rfl⟩⟩
    · refine jv_Wp.lift (fun _ Kz => jv_Ev.steps jv_i44 1 (pc' := 37) (l' := [(5, .ref d), (4, .int (1 : Int32)), (0, .ref 10), (1, .int (vl_I k)), (2, .ref d), (3, .ref y)]) (st' := [.ref d]) rfl Kz) ?_
      refine jv_Wp.lift (fun _ Kz => jv_Ev.m jv_i44 (pc' := 40) (st' := [.long (L d 2)]) (G' := (jv_H K I L R)) rfl rfl (jv_m_getL hd rfl rfl rfl) Kz) ?_
      refine jv_Wp.lift (fun _ Kz => jv_Ev.steps jv_i44 2 (pc' := 42) (l' := [(5, .ref d), (4, .int (1 : Int32)), (0, .ref 10), (1, .int (vl_I k)), (2, .ref d), (3, .ref y)]) (st' := [.int (lg_cmp (L d 2) (0 : Int64))]) rfl Kz) ?_
      refine jv_Wp.cnd jv_i44 (pt := 46) (pe := 45) (p := (0 ≤ (lg_cmp (L d 2) (0 : Int64)))) (q := ((0 : Int64) ≤ (L d 2))) rfl jv_bi_ge rfl rfl (lg_cmp_ge (L d 2) (0 : Int64)) (fun h8 => ?_) (fun h8 => ?_)
      · refine jv_Wp.lift (fun _ Kz => jv_Ev.steps jv_i44 1 (pc' := 48) (l' := [(5, .ref d), (4, .int (1 : Int32)), (0, .ref 10), (1, .int (vl_I k)), (2, .ref d), (3, .ref y)]) (st' := [.ref d]) rfl Kz) ?_
        refine jv_Wp.lift (fun _ Kz => jv_Ev.m jv_i44 (pc' := 51) (st' := [.long (L d 2)]) (G' := (jv_H K I L R)) rfl rfl (jv_m_getL hd rfl rfl rfl) Kz) ?_
        refine jv_Wp.lift (fun _ Kz => jv_Ev.steps jv_i44 2 (pc' := 54) (l' := [(6, .long (L d 2)), (5, .ref d), (4, .int (1 : Int32)), (0, .ref 10), (1, .int (vl_I k)), (2, .ref d), (3, .ref y)]) (st' := [.int (vl_I k)]) rfl Kz) ?_
        refine jv_Wp.bys (q := ((vl_I k) = Int32.ofInt 2)) (fun h9 => ?_) (fun h9 => ?_)
        · refine jv_Wp.lift (fun _ Kz => jv_Ev.br jv_i44 (pc' := 88) (st' := []) rfl (by rw [h9]; rfl) Kz) ?_
          refine jv_Wp.lift (fun _ Kz => jv_Ev.steps jv_i44 1 (pc' := 90) (l' := [(6, .long (L d 2)), (5, .ref d), (4, .int (1 : Int32)), (0, .ref 10), (1, .int (vl_I k)), (2, .ref d), (3, .ref y)]) (st' := [.int (1 : Int32)]) rfl Kz) ?_
          refine jv_Wp.lift (fun _ Kz => jv_Ev.br jv_i44 (pc' := 93) (st' := []) rfl (by rfl) Kz) ?_
          refine jv_Wp.lift (fun _ Kz => jv_Ev.steps jv_i44 1 (pc' := 94) (l' := [(6, .long (L d 2)), (5, .ref d), (4, .int (1 : Int32)), (0, .ref 10), (1, .int (vl_I k)), (2, .ref d), (3, .ref y)]) (st' := [.ref 10]) rfl Kz) ?_
          refine jv_Wp.lift (fun _ Kz => jv_Ev.m jv_i44 (pc' := 97) (st' := [.ref 12]) (G' := (jv_H K I L R)) rfl rfl (jv_m_getR hC.k rfl rfl hC.rnow) Kz) ?_
          refine jv_Wp.lift (fun _ Kz => jv_Ev.steps jv_i44 1 (pc' := 99) (l' := [(6, .long (L d 2)), (5, .ref d), (4, .int (1 : Int32)), (0, .ref 10), (1, .int (vl_I k)), (2, .ref d), (3, .ref y)]) (st' := [.long (L d 2), .ref 12]) rfl Kz) ?_
          have f1 : (vc_T I L d).sort = 4 := (vc_is4 od).mpr (Classical.not_not.mp h1)
          obtain ⟨I5, L5, H5, T5, O5, F5, G5⟩ := vc_know (I := I) (L := L) (R := R) (n := n) (sl := sl) (L d 2) hC.now o12
          refine jv_Wp.lift (fun _ Kz => jv_Ev.c jv_i44 (pc' := 102) (S' := []) (G1 := (jv_H K I5 L5 R)) jv_i115 [.ref 12, .long (L d 2)] rfl rfl rfl rfl (jv_cal rfl (jv_H_at hC.now.k) rfl rfl) rfl H5 rfl rfl Kz) ?_
          refine jv_Wp.lift (fun _ Kz => jv_Ev.steps jv_i44 1 (pc' := 209) (l' := [(6, .long (L d 2)), (5, .ref d), (4, .int (1 : Int32)), (0, .ref 10), (1, .int (vl_I k)), (2, .ref d), (3, .ref y)]) (st' := []) rfl Kz) ?_
          refine jv_Wp.of (jv_Ev.ret jv_i44 rfl rfl) ?_
          rw [hQ]
          have ep : pf = true := hp.trans (decide_eq_true (Classical.not_not.mp h1))
          have ev : (vl_S L (if pf = true then d else y)) = vl_S L d := by rw [ep]; rfl
          have es : (vl_S L d).low = (vl_S L d).high := of_decide_eq_true (vr_b_t h7)
          have nl : ¬ (L d 2).toInt < 0 := Int.not_lt.mpr (Int64.le_iff_toInt_le.mp h8)
          have c : ¬ ((vl_S L d).low ≠ (vl_S L d).high ∨ (vl_S L d).low.toInt < 0) := fun z => z.elim (fun z => z es) nl
          have bb : (L d 2).toInt ≤ 1073000000 := hbd (Classical.not_not.mp h1) es
          have a1 := vi_add1 (a := L d 2) (by omega)
          have k2 : k = 2 := (vl_I_inj (by omega) (by decide)).mp h9
          have e : vx_ms k pf (vl_S L (if pf = true then d else y)) (vc_A I L 12) (vc_A I L 89) = (vx_know (vc_A I L 12) ((vl_S L d).low.toInt), vc_A I L 89) := by
            rw [ev, ep]; unfold vx_ms; rw [if_neg c, if_pos k2, if_pos rfl]
          exact ⟨_, _, rfl, by rw [e]; exact T5, by rw [e]; exact vc_fr_A F5 (fun p z => vc_apart' z), O5, vc_fr_okA F5 (fun p z => vc_apart' z) o89, vc_fr_mono F5 (fun p z => Or.inl z), fun f => ⟨G5 f, (F5 89 (vc_apart' ⟨by decide, by decide⟩)).1 f⟩⟩
        · refine jv_Wp.bys (q := ((vl_I k) = Int32.ofInt 3)) (fun h10 => ?_) (fun h10 => ?_)
          · refine jv_Wp.lift (fun _ Kz => jv_Ev.br jv_i44 (pc' := 119) (st' := []) rfl (by rw [h10]; rfl) Kz) ?_
            refine jv_Wp.lift (fun _ Kz => jv_Ev.steps jv_i44 1 (pc' := 121) (l' := [(6, .long (L d 2)), (5, .ref d), (4, .int (1 : Int32)), (0, .ref 10), (1, .int (vl_I k)), (2, .ref d), (3, .ref y)]) (st' := [.int (1 : Int32)]) rfl Kz) ?_
            refine jv_Wp.lift (fun _ Kz => jv_Ev.br jv_i44 (pc' := 124) (st' := []) rfl (by rfl) Kz) ?_
            refine jv_Wp.lift (fun _ Kz => jv_Ev.steps jv_i44 1 (pc' := 125) (l' := [(6, .long (L d 2)), (5, .ref d), (4, .int (1 : Int32)), (0, .ref 10), (1, .int (vl_I k)), (2, .ref d), (3, .ref y)]) (st' := [.ref 10]) rfl Kz) ?_
            refine jv_Wp.lift (fun _ Kz => jv_Ev.m jv_i44 (pc' := 128) (st' := [.ref 12]) (G' := (jv_H K I L R)) rfl rfl (jv_m_getR hC.k rfl rfl hC.rnow) Kz) ?_
            refine jv_Wp.lift (fun _ Kz => jv_Ev.steps jv_i44 3 (pc' := 132) (l' := [(6, .long (L d 2)), (5, .ref d), (4, .int (1 : Int32)), (0, .ref 10), (1, .int (vl_I k)), (2, .ref d), (3, .ref y)]) (st' := [.long ((L d 2) + (1 : Int64)), .ref 12]) rfl Kz) ?_
            have f1 : (vc_T I L d).sort = 4 := (vc_is4 od).mpr (Classical.not_not.mp h1)
            obtain ⟨I6, L6, H6, T6, O6, F6, G6⟩ := vc_know (I := I) (L := L) (R := R) (n := n) (sl := sl) ((L d 2) + (1 : Int64)) hC.now o12
            refine jv_Wp.lift (fun _ Kz => jv_Ev.c jv_i44 (pc' := 135) (S' := []) (G1 := (jv_H K I6 L6 R)) jv_i115 [.ref 12, .long ((L d 2) + (1 : Int64))] rfl rfl rfl rfl (jv_cal rfl (jv_H_at hC.now.k) rfl rfl) rfl H6 rfl rfl Kz) ?_
            refine jv_Wp.lift (fun _ Kz => jv_Ev.steps jv_i44 1 (pc' := 209) (l' := [(6, .long (L d 2)), (5, .ref d), (4, .int (1 : Int32)), (0, .ref 10), (1, .int (vl_I k)), (2, .ref d), (3, .ref y)]) (st' := []) rfl Kz) ?_
            refine jv_Wp.of (jv_Ev.ret jv_i44 rfl rfl) ?_
            rw [hQ]
            have ep : pf = true := hp.trans (decide_eq_true (Classical.not_not.mp h1))
            have ev : (vl_S L (if pf = true then d else y)) = vl_S L d := by rw [ep]; rfl
            have es : (vl_S L d).low = (vl_S L d).high := of_decide_eq_true (vr_b_t h7)
            have nl : ¬ (L d 2).toInt < 0 := Int.not_lt.mpr (Int64.le_iff_toInt_le.mp h8)
            have c : ¬ ((vl_S L d).low ≠ (vl_S L d).high ∨ (vl_S L d).low.toInt < 0) := fun z => z.elim (fun z => z es) nl
            have bb : (L d 2).toInt ≤ 1073000000 := hbd (Classical.not_not.mp h1) es
            have a1 := vi_add1 (a := L d 2) (by omega)
            have k2 : ¬ k = 2 := fun z => h9 (by rw [z]; rfl)
            have k3 : k = 3 := (vl_I_inj (by omega) (by decide)).mp h10
            have e : vx_ms k pf (vl_S L (if pf = true then d else y)) (vc_A I L 12) (vc_A I L 89) = (vx_know (vc_A I L 12) ((vl_S L d).low.toInt + 1), vc_A I L 89) := by
              rw [ev, ep]; unfold vx_ms; rw [if_neg c, if_neg k2, if_pos k3, if_pos rfl]
            exact ⟨_, _, rfl, by rw [e]; exact T6.trans (by rw [a1]; rfl), by rw [e]; exact vc_fr_A F6 (fun p z => vc_apart' z), O6, vc_fr_okA F6 (fun p z => vc_apart' z) o89, vc_fr_mono F6 (fun p z => Or.inl z), fun f => ⟨G6 f, (F6 89 (vc_apart' ⟨by decide, by decide⟩)).1 f⟩⟩
          · refine jv_Wp.bys (q := ((vl_I k) = Int32.ofInt 10)) (fun h11 => ?_) (fun h11 => ?_)
            · refine jv_Wp.lift (fun _ Kz => jv_Ev.br jv_i44 (pc' := 150) (st' := []) rfl (by rw [h11]; rfl) Kz) ?_
              refine jv_Wp.lift (fun _ Kz => jv_Ev.steps jv_i44 1 (pc' := 152) (l' := [(6, .long (L d 2)), (5, .ref d), (4, .int (1 : Int32)), (0, .ref 10), (1, .int (vl_I k)), (2, .ref d), (3, .ref y)]) (st' := [.int (1 : Int32)]) rfl Kz) ?_
              refine jv_Wp.lift (fun _ Kz => jv_Ev.br jv_i44 (pc' := 155) (st' := []) rfl (by rfl) Kz) ?_
              refine jv_Wp.lift (fun _ Kz => jv_Ev.steps jv_i44 1 (pc' := 156) (l' := [(6, .long (L d 2)), (5, .ref d), (4, .int (1 : Int32)), (0, .ref 10), (1, .int (vl_I k)), (2, .ref d), (3, .ref y)]) (st' := [.ref 10]) rfl Kz) ?_
              refine jv_Wp.lift (fun _ Kz => jv_Ev.m jv_i44 (pc' := 159) (st' := [.ref 89]) (G' := (jv_H K I L R)) rfl rfl (jv_m_getR hC.k rfl rfl hC.rjumped) Kz) ?_
              refine jv_Wp.lift (fun _ Kz => jv_Ev.steps jv_i44 3 (pc' := 163) (l' := [(6, .long (L d 2)), (5, .ref d), (4, .int (1 : Int32)), (0, .ref 10), (1, .int (vl_I k)), (2, .ref d), (3, .ref y)]) (st' := [.long ((L d 2) + (1 : Int64)), .ref 89]) rfl Kz) ?_
              have f1 : (vc_T I L d).sort = 4 := (vc_is4 od).mpr (Classical.not_not.mp h1)
              obtain ⟨I7, L7, H7, T7, O7, F7, G7⟩ := vc_know (I := I) (L := L) (R := R) (n := n) (sl := sl) ((L d 2) + (1 : Int64)) hC.jumped o89
              refine jv_Wp.lift (fun _ Kz => jv_Ev.c jv_i44 (pc' := 166) (S' := []) (G1 := (jv_H K I7 L7 R)) jv_i115 [.ref 89, .long ((L d 2) + (1 : Int64))] rfl rfl rfl rfl (jv_cal rfl (jv_H_at hC.jumped.k) rfl rfl) rfl H7 rfl rfl Kz) ?_
              refine jv_Wp.lift (fun _ Kz => jv_Ev.steps jv_i44 1 (pc' := 209) (l' := [(6, .long (L d 2)), (5, .ref d), (4, .int (1 : Int32)), (0, .ref 10), (1, .int (vl_I k)), (2, .ref d), (3, .ref y)]) (st' := []) rfl Kz) ?_
              refine jv_Wp.of (jv_Ev.ret jv_i44 rfl rfl) ?_
              rw [hQ]
              have ep : pf = true := hp.trans (decide_eq_true (Classical.not_not.mp h1))
              have ev : (vl_S L (if pf = true then d else y)) = vl_S L d := by rw [ep]; rfl
              have es : (vl_S L d).low = (vl_S L d).high := of_decide_eq_true (vr_b_t h7)
              have nl : ¬ (L d 2).toInt < 0 := Int.not_lt.mpr (Int64.le_iff_toInt_le.mp h8)
              have c : ¬ ((vl_S L d).low ≠ (vl_S L d).high ∨ (vl_S L d).low.toInt < 0) := fun z => z.elim (fun z => z es) nl
              have bb : (L d 2).toInt ≤ 1073000000 := hbd (Classical.not_not.mp h1) es
              have a1 := vi_add1 (a := L d 2) (by omega)
              have k2 : ¬ k = 2 := fun z => h9 (by rw [z]; rfl)
              have k3 : ¬ k = 3 := fun z => h10 (by rw [z]; rfl)
              have k10 : k = 10 := (vl_I_inj (by omega) (by decide)).mp h11
              have e : vx_ms k pf (vl_S L (if pf = true then d else y)) (vc_A I L 12) (vc_A I L 89) = (vc_A I L 12, vx_know (vc_A I L 89) ((vl_S L d).low.toInt + 1)) := by
                rw [ev, ep]; unfold vx_ms; rw [if_neg c, if_neg k2, if_neg k3, if_pos k10, if_pos rfl]
              exact ⟨_, _, rfl, by rw [e]; exact vc_fr_A F7 (fun p z => vc_apart z), by rw [e]; exact T7.trans (by rw [a1]; rfl), vc_fr_okA F7 (fun p z => vc_apart z) o12, O7, vc_fr_mono F7 (fun p z => Or.inr z), fun f => ⟨(F7 12 (vc_apart ⟨by decide, by decide⟩)).1 f, G7 f⟩⟩
            · refine jv_Wp.lift (fun _ Kz => jv_Ev.br jv_i44 (pc' := 181) (st' := []) rfl (jv_lsw_def (List.forall_mem_cons.mpr ⟨(jv_ne_toInt (k := 2) h9), List.forall_mem_cons.mpr ⟨(jv_ne_toInt (k := 3) h10), List.forall_mem_cons.mpr ⟨(jv_ne_toInt (k := 10) h11), fun _ h => absurd h List.not_mem_nil⟩⟩⟩)) Kz) ?_
              refine jv_Wp.lift (fun _ Kz => jv_Ev.steps jv_i44 1 (pc' := 183) (l' := [(6, .long (L d 2)), (5, .ref d), (4, .int (1 : Int32)), (0, .ref 10), (1, .int (vl_I k)), (2, .ref d), (3, .ref y)]) (st' := [.int (1 : Int32)]) rfl Kz) ?_
              refine jv_Wp.lift (fun _ Kz => jv_Ev.br jv_i44 (pc' := 186) (st' := []) rfl (by rfl) Kz) ?_
              refine jv_Wp.lift (fun _ Kz => jv_Ev.steps jv_i44 1 (pc' := 187) (l' := [(6, .long (L d 2)), (5, .ref d), (4, .int (1 : Int32)), (0, .ref 10), (1, .int (vl_I k)), (2, .ref d), (3, .ref y)]) (st' := [.ref 10]) rfl Kz) ?_
              refine jv_Wp.lift (fun _ Kz => jv_Ev.m jv_i44 (pc' := 190) (st' := [.ref 89]) (G' := (jv_H K I L R)) rfl rfl (jv_m_getR hC.k rfl rfl hC.rjumped) Kz) ?_
              refine jv_Wp.lift (fun _ Kz => jv_Ev.steps jv_i44 1 (pc' := 192) (l' := [(6, .long (L d 2)), (5, .ref d), (4, .int (1 : Int32)), (0, .ref 10), (1, .int (vl_I k)), (2, .ref d), (3, .ref y)]) (st' := [.long (L d 2), .ref 89]) rfl Kz) ?_
              have f1 : (vc_T I L d).sort = 4 := (vc_is4 od).mpr (Classical.not_not.mp h1)
              obtain ⟨I8, L8, H8, T8, O8, F8, G8⟩ := vc_know (I := I) (L := L) (R := R) (n := n) (sl := sl) (L d 2) hC.jumped o89
              refine jv_Wp.lift (fun _ Kz => jv_Ev.c jv_i44 (pc' := 195) (S' := []) (G1 := (jv_H K I8 L8 R)) jv_i115 [.ref 89, .long (L d 2)] rfl rfl rfl rfl (jv_cal rfl (jv_H_at hC.jumped.k) rfl rfl) rfl H8 rfl rfl Kz) ?_
              refine jv_Wp.lift (fun _ Kz => jv_Ev.steps jv_i44 1 (pc' := 209) (l' := [(6, .long (L d 2)), (5, .ref d), (4, .int (1 : Int32)), (0, .ref 10), (1, .int (vl_I k)), (2, .ref d), (3, .ref y)]) (st' := []) rfl Kz) ?_
              refine jv_Wp.of (jv_Ev.ret jv_i44 rfl rfl) ?_
              rw [hQ]
              have ep : pf = true := hp.trans (decide_eq_true (Classical.not_not.mp h1))
              have ev : (vl_S L (if pf = true then d else y)) = vl_S L d := by rw [ep]; rfl
              have es : (vl_S L d).low = (vl_S L d).high := of_decide_eq_true (vr_b_t h7)
              have nl : ¬ (L d 2).toInt < 0 := Int.not_lt.mpr (Int64.le_iff_toInt_le.mp h8)
              have c : ¬ ((vl_S L d).low ≠ (vl_S L d).high ∨ (vl_S L d).low.toInt < 0) := fun z => z.elim (fun z => z es) nl
              have bb : (L d 2).toInt ≤ 1073000000 := hbd (Classical.not_not.mp h1) es
              have a1 := vi_add1 (a := L d 2) (by omega)
              have k2 : ¬ k = 2 := fun z => h9 (by rw [z]; rfl)
              have k3 : ¬ k = 3 := fun z => h10 (by rw [z]; rfl)
              have k10 : ¬ k = 10 := fun z => h11 (by rw [z]; rfl)
              have e : vx_ms k pf (vl_S L (if pf = true then d else y)) (vc_A I L 12) (vc_A I L 89) = (vc_A I L 12, vx_know (vc_A I L 89) ((vl_S L d).low.toInt)) := by
                rw [ev, ep]; unfold vx_ms; rw [if_neg c, if_neg k2, if_neg k3, if_neg k10, if_pos rfl]
              exact ⟨_, _, rfl, by rw [e]; exact vc_fr_A F8 (fun p z => vc_apart z), by rw [e]; exact T8, vc_fr_okA F8 (fun p z => vc_apart z) o12, O8, vc_fr_mono F8 (fun p z => Or.inr z), fun f => ⟨(F8 12 (vc_apart ⟨by decide, by decide⟩)).1 f, G8 f⟩⟩
      · refine jv_Wp.of (jv_Ev.ret jv_i44 rfl rfl) ?_
        rw [hQ]
        have ep : pf = true := hp.trans (decide_eq_true (Classical.not_not.mp h1))
        have ev : (vl_S L (if pf = true then d else y)) = vl_S L d := by rw [ep]; rfl
        have c : (vl_S L d).low ≠ (vl_S L d).high ∨ (vl_S L d).low.toInt < 0 := Or.inr (Int.not_le.mp ((not_congr Int64.le_iff_toInt_le).mp h8))
        have e : vx_ms k pf (vl_S L (if pf = true then d else y)) (vc_A I L 12) (vc_A I L 89) = (vc_A I L 12, vc_A I L 89) := by rw [ev]; exact if_pos c
        exact ⟨_, _, rfl, by rw [e], by rw [e], o12, o89, vc_fr_refl _ _, fun _ => ⟨rfl, rfl⟩⟩