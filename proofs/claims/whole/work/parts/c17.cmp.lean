/-! part c17: the comparison of a jump (gen/tc17.py) -/
theorem vx_cmp_d {n : Nat} (h1 : ¬ n = 1) (h2 : ¬ n = 2) (h3 : ¬ n = 3) (h4 : ¬ n = 4) (h5 : ¬ n = 5) (h6 : ¬ n = 6) (h7 : ¬ n = 7) (h10 : ¬ n = 10) (h11 : ¬ n = 11) (h12 : ¬ n = 12) : vx_cmp n = 7 := by
  unfold vx_cmp; split <;> first | rfl | contradiction
theorem jv_i305 : jv_I 305 2 (some .boolean) 0 0 jv_c305 := ⟨rfl, rfl, rfl, rfl, rfl⟩
theorem vq_areInts_ {K : Nat → Option (Nat × Nat)} {I : Nat → Nat → Int32} {L : Nat → Nat → Int64} {R : Nat → Nat → Value} (r : Nat) (hW : jv_rW K R) (hr : r < 77200) {n sl : Nat} : ∃ I1 L1, jv_Ms 305 [.ref 196, .int (vl_I r)] (jv_H K I L R) n sl (some (.int (vr_b (vx_small (vb_toS (vr_S L r))))), jv_H K I1 L1 R, n, sl) ∧ I1 = I ∧ L1 = L := by
  obtain ⟨Q, hQ⟩ : ∃ Q : jv_R → Prop, Q = fun X => ∃ I1 L1, X = (some (.int (vr_b (vx_small (vb_toS (vr_S L r))))), jv_H K I1 L1 R, n, sl) ∧ I1 = I ∧ L1 = L := ⟨_, rfl⟩
  suffices h : jv_Wp 305 0 [(0, .ref 196), (1, .int (vl_I r))] [] (jv_H K I L R) n sl Q by
    rw [hQ] at h
    obtain ⟨X, h, I1, L1, e, h'⟩ := h
    subst e
    exact ⟨I1, L1, h, h'⟩
  refine jv_Wp.lift (fun _ Kz => jv_Ev.steps jv_i305 1 (pc' := 1) (l' := [(0, .ref 196), (1, .int (vl_I r))]) (st' := [.ref 196]) rfl Kz) ?_
  refine jv_Wp.lift (fun _ Kz => jv_Ev.m jv_i305 (pc' := 4) (st' := [.ref 208]) (G' := (jv_H K I L R)) rfl rfl (jv_m_getR (jv_rwK hW 196 12 24 (by decide)) rfl rfl (jv_rwR hW 196 16 208 (by decide))) Kz) ?_
  refine jv_Wp.lift (fun _ Kz => jv_Ev.m jv_i305 (pc' := 7) (st' := [.ref 213]) (G' := (jv_H K I L R)) rfl rfl (jv_m_getR (jv_rwK hW 208 11 7 (by decide)) rfl rfl (jv_rwR hW 208 4 213 (by decide))) Kz) ?_
  refine jv_Wp.lift (fun _ Kz => jv_Ev.steps jv_i305 1 (pc' := 8) (l' := [(0, .ref 196), (1, .int (vl_I r))]) (st' := [.int (vl_I r), .ref 213]) rfl Kz) ?_
  refine jv_Wp.lift (fun _ Kz => jv_Ev.m jv_i305 (pc' := 9) (st' := [.long (L 213 r)]) (G' := (jv_H K I L R)) rfl rfl (jv_m_laldv (jv_rwK hW 213 103 77200 (by decide)) rfl (vl_I_ix (by omega) (by decide)) rfl ((congrArg (L 213) (vl_I_nat (by omega))).trans rfl)) Kz) ?_
  refine jv_Wp.lift (fun _ Kz => jv_Ev.steps jv_i305 2 (pc' := 11) (l' := [(0, .ref 196), (1, .int (vl_I r))]) (st' := [.int (lg_cmp (L 213 r) (0 : Int64))]) rfl Kz) ?_
  refine jv_Wp.cnd jv_i305 (pt := 34) (pe := 14) (p := ((lg_cmp (L 213 r) (0 : Int64)) < 0)) (q := ((L 213 r) < (0 : Int64))) rfl jv_bi_lt rfl rfl (lg_cmp_lt (L 213 r) (0 : Int64)) (fun h1 => ?_) (fun h1 => ?_)
  · refine jv_Wp.lift (fun _ Kz => jv_Ev.steps jv_i305 1 (pc' := 35) (l' := [(0, .ref 196), (1, .int (vl_I r))]) (st' := [.int (0 : Int32)]) rfl Kz) ?_
    refine jv_Wp.of (jv_Ev.ret jv_i305 rfl (jv_ret_b (Or.inl rfl))) ?_
    rw [hQ]
    have ev : (0 : Int32) = (vr_b (vx_small (vb_toS (vr_S L r)))) := (by have l : (L 213 r).toInt = (vb_toS (vr_S L r)).least.toInt := rfl; have g : (L 214 r).toInt = (vb_toS (vr_S L r)).greatest.toInt := rfl; have y1 : (vb_toS (vr_S L r)).least.toInt < 0 := (by have z := h1; rw [Int64.lt_iff_toInt_lt, l] at z; exact z); rw [show vx_small (vb_toS (vr_S L r)) = false from (by unfold vx_small; rw [decide_eq_false (by omega)]; rfl)]; rfl)
    exact ⟨_, _, by rw [ev], rfl, rfl⟩
  · refine jv_Wp.lift (fun _ Kz => jv_Ev.steps jv_i305 1 (pc' := 15) (l' := [(0, .ref 196), (1, .int (vl_I r))]) (st' := [.ref 196]) rfl Kz) ?_
    refine jv_Wp.lift (fun _ Kz => jv_Ev.m jv_i305 (pc' := 18) (st' := [.ref 208]) (G' := (jv_H K I L R)) rfl rfl (jv_m_getR (jv_rwK hW 196 12 24 (by decide)) rfl rfl (jv_rwR hW 196 16 208 (by decide))) Kz) ?_
    refine jv_Wp.lift (fun _ Kz => jv_Ev.m jv_i305 (pc' := 21) (st' := [.ref 214]) (G' := (jv_H K I L R)) rfl rfl (jv_m_getR (jv_rwK hW 208 11 7 (by decide)) rfl rfl (jv_rwR hW 208 5 214 (by decide))) Kz) ?_
    refine jv_Wp.lift (fun _ Kz => jv_Ev.steps jv_i305 1 (pc' := 22) (l' := [(0, .ref 196), (1, .int (vl_I r))]) (st' := [.int (vl_I r), .ref 214]) rfl Kz) ?_
    refine jv_Wp.lift (fun _ Kz => jv_Ev.m jv_i305 (pc' := 23) (st' := [.long (L 214 r)]) (G' := (jv_H K I L R)) rfl rfl (jv_m_laldv (jv_rwK hW 214 103 77200 (by decide)) rfl (vl_I_ix (by omega) (by decide)) rfl ((congrArg (L 214) (vl_I_nat (by omega))).trans rfl)) Kz) ?_
    refine jv_Wp.lift (fun _ Kz => jv_Ev.steps jv_i305 2 (pc' := 27) (l' := [(0, .ref 196), (1, .int (vl_I r))]) (st' := [.int (lg_cmp (L 214 r) (2147483647 : Int64))]) rfl Kz) ?_
    refine jv_Wp.cnd jv_i305 (pt := 34) (pe := 30) (p := (0 < (lg_cmp (L 214 r) (2147483647 : Int64)))) (q := ((2147483647 : Int64) < (L 214 r))) rfl jv_bi_gt rfl rfl (lg_cmp_gt (L 214 r) (2147483647 : Int64)) (fun h2 => ?_) (fun h2 => ?_)
    · refine jv_Wp.lift (fun _ Kz => jv_Ev.steps jv_i305 1 (pc' := 35) (l' := [(0, .ref 196), (1, .int (vl_I r))]) (st' := [.int (0 : Int32)]) rfl Kz) ?_
      refine jv_Wp.of (jv_Ev.ret jv_i305 rfl (jv_ret_b (Or.inl rfl))) ?_
      rw [hQ]
      have ev : (0 : Int32) = (vr_b (vx_small (vb_toS (vr_S L r)))) := (by have l : (L 213 r).toInt = (vb_toS (vr_S L r)).least.toInt := rfl; have g : (L 214 r).toInt = (vb_toS (vr_S L r)).greatest.toInt := rfl; have y1 : ¬ (vb_toS (vr_S L r)).least.toInt < 0 := (by have z := h1; rw [Int64.lt_iff_toInt_lt, l] at z; exact z); have y2 : 2147483647 < (vb_toS (vr_S L r)).greatest.toInt := (by have z := h2; rw [Int64.lt_iff_toInt_lt, g] at z; exact z); rw [show vx_small (vb_toS (vr_S L r)) = false from (by unfold vx_small; rw [decide_eq_true (show 0 ≤ (vb_toS (vr_S L r)).least.toInt by omega), decide_eq_false (by omega)]; rfl)]; rfl)
      exact ⟨_, _, by rw [ev], rfl, rfl⟩
    · refine jv_Wp.lift (fun _ Kz => jv_Ev.steps jv_i305 2 (pc' := 35) (l' := [(0, .ref 196), (1, .int (vl_I r))]) (st' := [.int (1 : Int32)]) rfl Kz) ?_
      refine jv_Wp.of (jv_Ev.ret jv_i305 rfl (jv_ret_b (Or.inr rfl))) ?_
      rw [hQ]
      have ev : (1 : Int32) = (vr_b (vx_small (vb_toS (vr_S L r)))) := (by have l : (L 213 r).toInt = (vb_toS (vr_S L r)).least.toInt := rfl; have g : (L 214 r).toInt = (vb_toS (vr_S L r)).greatest.toInt := rfl; have y1 : ¬ (vb_toS (vr_S L r)).least.toInt < 0 := (by have z := h1; rw [Int64.lt_iff_toInt_lt, l] at z; exact z); have y2 : ¬ 2147483647 < (vb_toS (vr_S L r)).greatest.toInt := (by have z := h2; rw [Int64.lt_iff_toInt_lt, g] at z; exact z); rw [show vx_small (vb_toS (vr_S L r)) = true from (by unfold vx_small; rw [decide_eq_true (by omega), decide_eq_true (by omega)]; rfl)]; rfl)
      exact ⟨_, _, by rw [ev], rfl, rfl⟩
theorem vq_areInts {K : Nat → Option (Nat × Nat)} {I : Nat → Nat → Int32} {L : Nat → Nat → Int64} {R : Nat → Nat → Value} (r : Nat) (hW : jv_rW K R) (hr : r < 77200) {n sl : Nat} : jv_Ms 305 [.ref 196, .int (vl_I r)] (jv_H K I L R) n sl (some (.int (vr_b (vx_small (vb_toS (vr_S L r))))), jv_H K I L R, n, sl) := by
  obtain ⟨I1, L1, H, ei, el⟩ := vq_areInts_ (n := n) (sl := sl) r hW hr
  rw [ei, el] at H
  exact H
theorem jv_i303 : jv_I 303 1 (some .int) 1 20 jv_c303 := ⟨rfl, rfl, rfl, rfl, rfl⟩
theorem vq_comparison_ {K : Nat → Option (Nat × Nat)} {I : Nat → Nat → Int32} {L : Nat → Nat → Int64} {R : Nat → Nat → Value} (f : vf_F) (hW : jv_rW K R) (D : vr_dec I f) {n sl : Nat} : ∃ I1 L1, jv_Ms 303 [.ref 196] (jv_H K I L R) n sl (some (.int (vl_I (vx_cmp f.n))), jv_H K I1 L1 R, n, sl) ∧ I1 = I ∧ L1 = L := by
  obtain ⟨Q, hQ⟩ : ∃ Q : jv_R → Prop, Q = fun X => ∃ I1 L1, X = (some (.int (vl_I (vx_cmp f.n))), jv_H K I1 L1 R, n, sl) ∧ I1 = I ∧ L1 = L := ⟨_, rfl⟩
  have hn16 := vr_dn D
  suffices h : jv_Wp 303 0 [(0, .ref 196)] [] (jv_H K I L R) n sl Q by
    rw [hQ] at h
    obtain ⟨X, h, I1, L1, e, h'⟩ := h
    subst e
    exact ⟨I1, L1, h, h'⟩
  refine jv_Wp.lift (fun _ Kz => jv_Ev.steps jv_i303 1 (pc' := 1) (l' := [(0, .ref 196)]) (st' := [.ref 196]) rfl Kz) ?_
  refine jv_Wp.lift (fun _ Kz => jv_Ev.c jv_i303 (pc' := 4) (S' := [.int (vl_I f.n)]) jv_i258 [.ref 196] rfl rfl rfl rfl (jv_cal rfl (jv_H_at (jv_rwK hW 196 12 24 (by decide))) rfl rfl) rfl (vq_n f hW D) rfl rfl Kz) ?_
  refine jv_Wp.bys (q := ((vl_I f.n) = Int32.ofInt 1)) (fun h1 => ?_) (fun h1 => ?_)
  · refine jv_Wp.lift (fun _ Kz => jv_Ev.br jv_i303 (pc' := 68) (st' := []) rfl (by rw [h1]; rfl) Kz) ?_
    refine jv_Wp.lift (fun _ Kz => jv_Ev.steps jv_i303 1 (pc' := 69) (l' := [(0, .ref 196)]) (st' := [.int (0 : Int32)]) rfl Kz) ?_
    refine jv_Wp.of (jv_Ev.ret jv_i303 rfl rfl) ?_
    rw [hQ]
    have ev : (0 : Int32) = (vl_I (vx_cmp f.n)) := by have mn1 : f.n = 1 := (vr_sm (v := 1) (by omega) (by decide) rfl).mp h1; rw [mn1]; rfl
    exact ⟨_, _, by rw [ev], rfl, rfl⟩
  · refine jv_Wp.bys (q := ((vl_I f.n) = Int32.ofInt 2)) (fun h2 => ?_) (fun h2 => ?_)
    · refine jv_Wp.lift (fun _ Kz => jv_Ev.br jv_i303 (pc' := 70) (st' := []) rfl (by rw [h2]; rfl) Kz) ?_
      refine jv_Wp.lift (fun _ Kz => jv_Ev.steps jv_i303 1 (pc' := 71) (l' := [(0, .ref 196)]) (st' := [.int (4 : Int32)]) rfl Kz) ?_
      refine jv_Wp.of (jv_Ev.ret jv_i303 rfl rfl) ?_
      rw [hQ]
      have ev : (4 : Int32) = (vl_I (vx_cmp f.n)) := by have mn1 : ¬ f.n = 1 := (fun z => h1 ((vr_sm (v := 1) (by omega) (by decide) rfl).mpr z)); have mn2 : f.n = 2 := (vr_sm (v := 2) (by omega) (by decide) rfl).mp h2; rw [mn2]; rfl
      exact ⟨_, _, by rw [ev], rfl, rfl⟩
    · refine jv_Wp.bys (q := ((vl_I f.n) = Int32.ofInt 3)) (fun h3 => ?_) (fun h3 => ?_)
      · refine jv_Wp.lift (fun _ Kz => jv_Ev.br jv_i303 (pc' := 72) (st' := []) rfl (by rw [h3]; rfl) Kz) ?_
        refine jv_Wp.lift (fun _ Kz => jv_Ev.steps jv_i303 1 (pc' := 73) (l' := [(0, .ref 196)]) (st' := [.int (5 : Int32)]) rfl Kz) ?_
        refine jv_Wp.of (jv_Ev.ret jv_i303 rfl rfl) ?_
        rw [hQ]
        have ev : (5 : Int32) = (vl_I (vx_cmp f.n)) := by have mn1 : ¬ f.n = 1 := (fun z => h1 ((vr_sm (v := 1) (by omega) (by decide) rfl).mpr z)); have mn2 : ¬ f.n = 2 := (fun z => h2 ((vr_sm (v := 2) (by omega) (by decide) rfl).mpr z)); have mn3 : f.n = 3 := (vr_sm (v := 3) (by omega) (by decide) rfl).mp h3; rw [mn3]; rfl
        exact ⟨_, _, by rw [ev], rfl, rfl⟩
      · refine jv_Wp.bys (q := ((vl_I f.n) = Int32.ofInt 4)) (fun h4 => ?_) (fun h4 => ?_)
        · refine jv_Wp.lift (fun _ Kz => jv_Ev.br jv_i303 (pc' := 74) (st' := []) rfl (by rw [h4]; rfl) Kz) ?_
          refine jv_Wp.lift (fun _ Kz => jv_Ev.steps jv_i303 1 (pc' := 76) (l' := [(0, .ref 196)]) (st' := [.int (10 : Int32)]) rfl Kz) ?_
          refine jv_Wp.of (jv_Ev.ret jv_i303 rfl rfl) ?_
          rw [hQ]
          have ev : (10 : Int32) = (vl_I (vx_cmp f.n)) := by have mn1 : ¬ f.n = 1 := (fun z => h1 ((vr_sm (v := 1) (by omega) (by decide) rfl).mpr z)); have mn2 : ¬ f.n = 2 := (fun z => h2 ((vr_sm (v := 2) (by omega) (by decide) rfl).mpr z)); have mn3 : ¬ f.n = 3 := (fun z => h3 ((vr_sm (v := 3) (by omega) (by decide) rfl).mpr z)); have mn4 : f.n = 4 := (vr_sm (v := 4) (by omega) (by decide) rfl).mp h4; rw [mn4]; rfl
          exact ⟨_, _, by rw [ev], rfl, rfl⟩
        · refine jv_Wp.bys (q := ((vl_I f.n) = Int32.ofInt 5)) (fun h5 => ?_) (fun h5 => ?_)
          · refine jv_Wp.lift (fun _ Kz => jv_Ev.br jv_i303 (pc' := 77) (st' := []) rfl (by rw [h5]; rfl) Kz) ?_
            refine jv_Wp.lift (fun _ Kz => jv_Ev.steps jv_i303 1 (pc' := 78) (l' := [(0, .ref 196)]) (st' := [.int (1 : Int32)]) rfl Kz) ?_
            refine jv_Wp.of (jv_Ev.ret jv_i303 rfl rfl) ?_
            rw [hQ]
            have ev : (1 : Int32) = (vl_I (vx_cmp f.n)) := by have mn1 : ¬ f.n = 1 := (fun z => h1 ((vr_sm (v := 1) (by omega) (by decide) rfl).mpr z)); have mn2 : ¬ f.n = 2 := (fun z => h2 ((vr_sm (v := 2) (by omega) (by decide) rfl).mpr z)); have mn3 : ¬ f.n = 3 := (fun z => h3 ((vr_sm (v := 3) (by omega) (by decide) rfl).mpr z)); have mn4 : ¬ f.n = 4 := (fun z => h4 ((vr_sm (v := 4) (by omega) (by decide) rfl).mpr z)); have mn5 : f.n = 5 := (vr_sm (v := 5) (by omega) (by decide) rfl).mp h5; rw [mn5]; rfl
            exact ⟨_, _, by rw [ev], rfl, rfl⟩
          · refine jv_Wp.bys (q := ((vl_I f.n) = Int32.ofInt 6)) (fun h6 => ?_) (fun h6 => ?_)
            · refine jv_Wp.lift (fun _ Kz => jv_Ev.br jv_i303 (pc' := 79) (st' := []) rfl (by rw [h6]; rfl) Kz) ?_
              refine jv_Wp.lift (fun _ Kz => jv_Ev.steps jv_i303 1 (pc' := 81) (l' := [(0, .ref 196)]) (st' := [.int (8 : Int32)]) rfl Kz) ?_
              refine jv_Wp.of (jv_Ev.ret jv_i303 rfl rfl) ?_
              rw [hQ]
              have ev : (8 : Int32) = (vl_I (vx_cmp f.n)) := by have mn1 : ¬ f.n = 1 := (fun z => h1 ((vr_sm (v := 1) (by omega) (by decide) rfl).mpr z)); have mn2 : ¬ f.n = 2 := (fun z => h2 ((vr_sm (v := 2) (by omega) (by decide) rfl).mpr z)); have mn3 : ¬ f.n = 3 := (fun z => h3 ((vr_sm (v := 3) (by omega) (by decide) rfl).mpr z)); have mn4 : ¬ f.n = 4 := (fun z => h4 ((vr_sm (v := 4) (by omega) (by decide) rfl).mpr z)); have mn5 : ¬ f.n = 5 := (fun z => h5 ((vr_sm (v := 5) (by omega) (by decide) rfl).mpr z)); have mn6 : f.n = 6 := (vr_sm (v := 6) (by omega) (by decide) rfl).mp h6; rw [mn6]; rfl
              exact ⟨_, _, by rw [ev], rfl, rfl⟩
            · refine jv_Wp.bys (q := ((vl_I f.n) = Int32.ofInt 7)) (fun h7 => ?_) (fun h7 => ?_)
              · refine jv_Wp.lift (fun _ Kz => jv_Ev.br jv_i303 (pc' := 82) (st' := []) rfl (by rw [h7]; rfl) Kz) ?_
                refine jv_Wp.lift (fun _ Kz => jv_Ev.steps jv_i303 1 (pc' := 84) (l' := [(0, .ref 196)]) (st' := [.int (9 : Int32)]) rfl Kz) ?_
                refine jv_Wp.of (jv_Ev.ret jv_i303 rfl rfl) ?_
                rw [hQ]
                have ev : (9 : Int32) = (vl_I (vx_cmp f.n)) := by have mn1 : ¬ f.n = 1 := (fun z => h1 ((vr_sm (v := 1) (by omega) (by decide) rfl).mpr z)); have mn2 : ¬ f.n = 2 := (fun z => h2 ((vr_sm (v := 2) (by omega) (by decide) rfl).mpr z)); have mn3 : ¬ f.n = 3 := (fun z => h3 ((vr_sm (v := 3) (by omega) (by decide) rfl).mpr z)); have mn4 : ¬ f.n = 4 := (fun z => h4 ((vr_sm (v := 4) (by omega) (by decide) rfl).mpr z)); have mn5 : ¬ f.n = 5 := (fun z => h5 ((vr_sm (v := 5) (by omega) (by decide) rfl).mpr z)); have mn6 : ¬ f.n = 6 := (fun z => h6 ((vr_sm (v := 6) (by omega) (by decide) rfl).mpr z)); have mn7 : f.n = 7 := (vr_sm (v := 7) (by omega) (by decide) rfl).mp h7; rw [mn7]; rfl
                exact ⟨_, _, by rw [ev], rfl, rfl⟩
              · refine jv_Wp.bys (q := ((vl_I f.n) = Int32.ofInt 10)) (fun h8 => ?_) (fun h8 => ?_)
                · refine jv_Wp.lift (fun _ Kz => jv_Ev.br jv_i303 (pc' := 85) (st' := []) rfl (by rw [h8]; rfl) Kz) ?_
                  refine jv_Wp.lift (fun _ Kz => jv_Ev.steps jv_i303 1 (pc' := 86) (l' := [(0, .ref 196)]) (st' := [.int (2 : Int32)]) rfl Kz) ?_
                  refine jv_Wp.of (jv_Ev.ret jv_i303 rfl rfl) ?_
                  rw [hQ]
                  have ev : (2 : Int32) = (vl_I (vx_cmp f.n)) := by have mn1 : ¬ f.n = 1 := (fun z => h1 ((vr_sm (v := 1) (by omega) (by decide) rfl).mpr z)); have mn2 : ¬ f.n = 2 := (fun z => h2 ((vr_sm (v := 2) (by omega) (by decide) rfl).mpr z)); have mn3 : ¬ f.n = 3 := (fun z => h3 ((vr_sm (v := 3) (by omega) (by decide) rfl).mpr z)); have mn4 : ¬ f.n = 4 := (fun z => h4 ((vr_sm (v := 4) (by omega) (by decide) rfl).mpr z)); have mn5 : ¬ f.n = 5 := (fun z => h5 ((vr_sm (v := 5) (by omega) (by decide) rfl).mpr z)); have mn6 : ¬ f.n = 6 := (fun z => h6 ((vr_sm (v := 6) (by omega) (by decide) rfl).mpr z)); have mn7 : ¬ f.n = 7 := (fun z => h7 ((vr_sm (v := 7) (by omega) (by decide) rfl).mpr z)); have mn10 : f.n = 10 := (vr_sm (v := 10) (by omega) (by decide) rfl).mp h8; rw [mn10]; rfl
                  exact ⟨_, _, by rw [ev], rfl, rfl⟩
                · refine jv_Wp.bys (q := ((vl_I f.n) = Int32.ofInt 11)) (fun h9 => ?_) (fun h9 => ?_)
                  · refine jv_Wp.lift (fun _ Kz => jv_Ev.br jv_i303 (pc' := 87) (st' := []) rfl (by rw [h9]; rfl) Kz) ?_
                    refine jv_Wp.lift (fun _ Kz => jv_Ev.steps jv_i303 1 (pc' := 88) (l' := [(0, .ref 196)]) (st' := [.int (3 : Int32)]) rfl Kz) ?_
                    refine jv_Wp.of (jv_Ev.ret jv_i303 rfl rfl) ?_
                    rw [hQ]
                    have ev : (3 : Int32) = (vl_I (vx_cmp f.n)) := by have mn1 : ¬ f.n = 1 := (fun z => h1 ((vr_sm (v := 1) (by omega) (by decide) rfl).mpr z)); have mn2 : ¬ f.n = 2 := (fun z => h2 ((vr_sm (v := 2) (by omega) (by decide) rfl).mpr z)); have mn3 : ¬ f.n = 3 := (fun z => h3 ((vr_sm (v := 3) (by omega) (by decide) rfl).mpr z)); have mn4 : ¬ f.n = 4 := (fun z => h4 ((vr_sm (v := 4) (by omega) (by decide) rfl).mpr z)); have mn5 : ¬ f.n = 5 := (fun z => h5 ((vr_sm (v := 5) (by omega) (by decide) rfl).mpr z)); have mn6 : ¬ f.n = 6 := (fun z => h6 ((vr_sm (v := 6) (by omega) (by decide) rfl).mpr z)); have mn7 : ¬ f.n = 7 := (fun z => h7 ((vr_sm (v := 7) (by omega) (by decide) rfl).mpr z)); have mn10 : ¬ f.n = 10 := (fun z => h8 ((vr_sm (v := 10) (by omega) (by decide) rfl).mpr z)); have mn11 : f.n = 11 := (vr_sm (v := 11) (by omega) (by decide) rfl).mp h9; rw [mn11]; rfl
                    exact ⟨_, _, by rw [ev], rfl, rfl⟩
                  · refine jv_Wp.bys (q := ((vl_I f.n) = Int32.ofInt 12)) (fun h10 => ?_) (fun h10 => ?_)
                    · refine jv_Wp.lift (fun _ Kz => jv_Ev.br jv_i303 (pc' := 89) (st' := []) rfl (by rw [h10]; rfl) Kz) ?_
                      refine jv_Wp.lift (fun _ Kz => jv_Ev.steps jv_i303 1 (pc' := 91) (l' := [(0, .ref 196)]) (st' := [.int (6 : Int32)]) rfl Kz) ?_
                      refine jv_Wp.of (jv_Ev.ret jv_i303 rfl rfl) ?_
                      rw [hQ]
                      have ev : (6 : Int32) = (vl_I (vx_cmp f.n)) := by have mn1 : ¬ f.n = 1 := (fun z => h1 ((vr_sm (v := 1) (by omega) (by decide) rfl).mpr z)); have mn2 : ¬ f.n = 2 := (fun z => h2 ((vr_sm (v := 2) (by omega) (by decide) rfl).mpr z)); have mn3 : ¬ f.n = 3 := (fun z => h3 ((vr_sm (v := 3) (by omega) (by decide) rfl).mpr z)); have mn4 : ¬ f.n = 4 := (fun z => h4 ((vr_sm (v := 4) (by omega) (by decide) rfl).mpr z)); have mn5 : ¬ f.n = 5 := (fun z => h5 ((vr_sm (v := 5) (by omega) (by decide) rfl).mpr z)); have mn6 : ¬ f.n = 6 := (fun z => h6 ((vr_sm (v := 6) (by omega) (by decide) rfl).mpr z)); have mn7 : ¬ f.n = 7 := (fun z => h7 ((vr_sm (v := 7) (by omega) (by decide) rfl).mpr z)); have mn10 : ¬ f.n = 10 := (fun z => h8 ((vr_sm (v := 10) (by omega) (by decide) rfl).mpr z)); have mn11 : ¬ f.n = 11 := (fun z => h9 ((vr_sm (v := 11) (by omega) (by decide) rfl).mpr z)); have mn12 : f.n = 12 := (vr_sm (v := 12) (by omega) (by decide) rfl).mp h10; rw [mn12]; rfl
                      exact ⟨_, _, by rw [ev], rfl, rfl⟩
                    · refine jv_Wp.lift (fun _ Kz => jv_Ev.br jv_i303 (pc' := 92) (st' := []) rfl (jv_tsw_def (fun i hi h => by match i, hi, h with 
                            | 0, _, h => exact absurd h (jv_ne_toInt (k := 1) h1) 
                            | 1, _, h => exact absurd h (jv_ne_toInt (k := 2) h2) 
                            | 2, _, h => exact absurd h (jv_ne_toInt (k := 3) h3) 
                            | 3, _, h => exact absurd h (jv_ne_toInt (k := 4) h4) 
                            | 4, _, h => exact absurd h (jv_ne_toInt (k := 5) h5) 
                            | 5, _, h => exact absurd h (jv_ne_toInt (k := 6) h6) 
                            | 6, _, h => exact absurd h (jv_ne_toInt (k := 7) h7) 
                            | 7, _, _ => rfl 
                            | 8, _, _ => rfl 
                            | 9, _, h => exact absurd h (jv_ne_toInt (k := 10) h8) 
                            | 10, _, h => exact absurd h (jv_ne_toInt (k := 11) h9) 
                            | 11, _, h => exact absurd h (jv_ne_toInt (k := 12) h10) 
                            | i + 12, hi, _ => exact absurd hi (by simp)) rfl) Kz) ?_
                      refine jv_Wp.lift (fun _ Kz => jv_Ev.steps jv_i303 1 (pc' := 94) (l' := [(0, .ref 196)]) (st' := [.int (7 : Int32)]) rfl Kz) ?_
                      refine jv_Wp.of (jv_Ev.ret jv_i303 rfl rfl) ?_
                      rw [hQ]
                      have ev : (7 : Int32) = (vl_I (vx_cmp f.n)) := by have mn1 : ¬ f.n = 1 := (fun z => h1 ((vr_sm (v := 1) (by omega) (by decide) rfl).mpr z)); have mn2 : ¬ f.n = 2 := (fun z => h2 ((vr_sm (v := 2) (by omega) (by decide) rfl).mpr z)); have mn3 : ¬ f.n = 3 := (fun z => h3 ((vr_sm (v := 3) (by omega) (by decide) rfl).mpr z)); have mn4 : ¬ f.n = 4 := (fun z => h4 ((vr_sm (v := 4) (by omega) (by decide) rfl).mpr z)); have mn5 : ¬ f.n = 5 := (fun z => h5 ((vr_sm (v := 5) (by omega) (by decide) rfl).mpr z)); have mn6 : ¬ f.n = 6 := (fun z => h6 ((vr_sm (v := 6) (by omega) (by decide) rfl).mpr z)); have mn7 : ¬ f.n = 7 := (fun z => h7 ((vr_sm (v := 7) (by omega) (by decide) rfl).mpr z)); have mn10 : ¬ f.n = 10 := (fun z => h8 ((vr_sm (v := 10) (by omega) (by decide) rfl).mpr z)); have mn11 : ¬ f.n = 11 := (fun z => h9 ((vr_sm (v := 11) (by omega) (by decide) rfl).mpr z)); have mn12 : ¬ f.n = 12 := (fun z => h10 ((vr_sm (v := 12) (by omega) (by decide) rfl).mpr z)); rw [vx_cmp_d mn1 mn2 mn3 mn4 mn5 mn6 mn7 mn10 mn11 mn12]; rfl
                      exact ⟨_, _, by rw [ev], rfl, rfl⟩
theorem vq_comparison {K : Nat → Option (Nat × Nat)} {I : Nat → Nat → Int32} {L : Nat → Nat → Int64} {R : Nat → Nat → Value} (f : vf_F) (hW : jv_rW K R) (D : vr_dec I f) {n sl : Nat} : jv_Ms 303 [.ref 196] (jv_H K I L R) n sl (some (.int (vl_I (vx_cmp f.n))), jv_H K I L R, n, sl) := by
  obtain ⟨I1, L1, H, ei, el⟩ := vq_comparison_ (n := n) (sl := sl) f hW D
  rw [ei, el] at H
  exact H