/-! part c11: what the reference makes of two numbers (gen/tc11.py) -/
/-- what the form says of arithmetic -/
def vf_ar (f : vf_F) : Prop := f.n ≤ 13 ∧ (f.n = 8 → f.bit3 = false) ∧ (f.n ≠ 13 → f.n ≠ 11 → f.o ≠ 0 → (f.n = 3 ∨ f.n = 9) ∧ f.o = 1) ∧ (f.n = 11 → f.o ≠ 0 → f.o = 8 ∨ f.o = 16 ∨ f.o = 32) ∧ (f.n = 13 → f.i = 16 ∨ f.i = 32 ∨ f.i = 64)
theorem vx_opn_id {n : Nat} (h4 : ¬ n = 4) (h5 : ¬ n = 5) (h6 : ¬ n = 6) (h7 : ¬ n = 7) (h8 : ¬ n = 8) (h9 : ¬ n = 9) (h10 : ¬ n = 10) (h12 : ¬ n = 12) : vx_opn n = n := by
  unfold vx_opn; split <;> first | rfl | contradiction
theorem vx_opn_le {n : Nat} (h : n < 13) : vx_opn n ≤ 11 := by
  match n, h with
  | 0, _ => decide | 1, _ => decide | 2, _ => decide | 3, _ => decide | 4, _ => decide | 5, _ => decide | 6, _ => decide | 7, _ => decide | 8, _ => decide | 9, _ => decide | 10, _ => decide | 11, _ => decide | 12, _ => decide
theorem vx_opn_10 {n : Nat} (h : n < 13) : vx_opn n = 10 ↔ n = 12 := by
  match n, h with
  | 0, _ => decide | 1, _ => decide | 2, _ => decide | 3, _ => decide | 4, _ => decide | 5, _ => decide | 6, _ => decide | 7, _ => decide | 8, _ => decide | 9, _ => decide | 10, _ => decide | 11, _ => decide | 12, _ => decide
theorem vq_rn {K : Nat → Option (Nat × Nat)} {I : Nat → Nat → Int32} {L : Nat → Nat → Int64} {R : Nat → Nat → Value} (k : Nat) (wd : Bool) {d a b : Nat} (hk : k < 13) (h8 : k ≠ 8) (hW : jv_rW K R) (ha : a < 77200) (hb : b < 77200) (hd : d < 77200) (hd5 : 5 ≤ d) (ha5 : 5 ≤ a) (hb5 : 5 ≤ b) (hf : vr_fl I) (hx : vb_tight (vb_toS (vr_S L a))) (hy : vb_tight (vb_toS (vr_S L b))) {n sl : Nat} : ∃ I1 L1, jv_Ms 249 [.ref 208, .int (vl_I (vx_opn k)), .int (if wd = true then 64 else 32), .int (vl_I d), .int (vl_I a), .int (vl_I b)] (jv_H K I L R) n sl (none, jv_H K I1 L1 R, n, sl) ∧ vr_S L1 d = vb_toR (vx_rn k wd (vb_toS (vr_S L a)) (vb_toS (vr_S L b))) ∧ vq_rf d I L I1 L1 := by
  cases wd with
  | true =>
    obtain ⟨I1, L1, H, S, F⟩ := vq_op64 (n := n) (sl := sl) (vx_opn_le hk) hW ha hb hd hd5 ha5 hb5 hf hx hy
    exact ⟨I1, L1, H, by rw [S, ← vx_opn_eq hk h8]; rfl, F⟩
  | false =>
    obtain ⟨I1, L1, H, S, F⟩ := vq_op32 (n := n) (sl := sl) (vx_opn_le hk) hW ha hb hd hd5 ha5 hb5 hf hx hy
    refine ⟨I1, L1, H, ?_, F⟩
    rw [S, ← vx_opn_eq hk h8]
    by_cases c : k = 12
    · rw [if_pos ((vx_opn_10 hk).mpr c)]; unfold vx_rn vx_op32; rw [if_neg (by decide), if_pos c]; rfl
    · rw [if_neg (fun z => c ((vx_opn_10 hk).mp z))]; unfold vx_rn vx_op32; rw [if_neg (by decide), if_neg c]; rfl
theorem jv_i284 : jv_I 284 1 (some .int) 1 20 jv_c284 := ⟨rfl, rfl, rfl, rfl, rfl⟩
theorem vq_opof_ {K : Nat → Option (Nat × Nat)} {I : Nat → Nat → Int32} {L : Nat → Nat → Int64} {R : Nat → Nat → Value} (f : vf_F) (hW : jv_rW K R) (D : vr_dec I f) {n sl : Nat} : ∃ I1 L1, jv_Ms 284 [.ref 196] (jv_H K I L R) n sl (some (.int (vl_I (vx_opn f.n))), jv_H K I1 L1 R, n, sl) ∧ I1 = I ∧ L1 = L := by
  obtain ⟨Q, hQ⟩ : ∃ Q : jv_R → Prop, Q = fun X => ∃ I1 L1, X = (some (.int (vl_I (vx_opn f.n))), jv_H K I1 L1 R, n, sl) ∧ I1 = I ∧ L1 = L := ⟨_, rfl⟩
  have hn16 := vr_dn D
  suffices h : jv_Wp 284 0 [(0, .ref 196)] [] (jv_H K I L R) n sl Q by
    rw [hQ] at h
    obtain ⟨X, h, I1, L1, e, h'⟩ := h
    subst e
    exact ⟨I1, L1, h, h'⟩
  refine jv_Wp.lift (fun _ Kz => jv_Ev.steps jv_i284 1 (pc' := 1) (l' := [(0, .ref 196)]) (st' := [.ref 196]) rfl Kz) ?_
  refine jv_Wp.lift (fun _ Kz => jv_Ev.c jv_i284 (pc' := 4) (S' := [.int (vl_I f.n)]) jv_i258 [.ref 196] rfl rfl rfl rfl (jv_cal rfl (jv_H_at (jv_rwK hW 196 12 24 (by decide))) rfl rfl) rfl (vq_n f hW D) rfl rfl Kz) ?_
  refine jv_Wp.bys (q := ((vl_I f.n) = Int32.ofInt 4)) (fun h1 => ?_) (fun h1 => ?_)
  · refine jv_Wp.lift (fun _ Kz => jv_Ev.br jv_i284 (pc' := 56) (st' := []) rfl (by rw [h1]; rfl) Kz) ?_
    refine jv_Wp.lift (fun _ Kz => jv_Ev.steps jv_i284 1 (pc' := 58) (l' := [(0, .ref 196)]) (st' := [.int (6 : Int32)]) rfl Kz) ?_
    refine jv_Wp.of (jv_Ev.ret jv_i284 rfl rfl) ?_
    rw [hQ]
    have ev : (6 : Int32) = (vl_I (vx_opn f.n)) := by have mn4 : f.n = 4 := (vr_sm (v := 4) (by omega) (by decide) rfl).mp h1; rw [mn4]; rfl
    exact ⟨_, _, by rw [ev], rfl, rfl⟩
  · refine jv_Wp.bys (q := ((vl_I f.n) = Int32.ofInt 5)) (fun h2 => ?_) (fun h2 => ?_)
    · refine jv_Wp.lift (fun _ Kz => jv_Ev.br jv_i284 (pc' := 59) (st' := []) rfl (by rw [h2]; rfl) Kz) ?_
      refine jv_Wp.lift (fun _ Kz => jv_Ev.steps jv_i284 1 (pc' := 60) (l' := [(0, .ref 196)]) (st' := [.int (5 : Int32)]) rfl Kz) ?_
      refine jv_Wp.of (jv_Ev.ret jv_i284 rfl rfl) ?_
      rw [hQ]
      have ev : (5 : Int32) = (vl_I (vx_opn f.n)) := by have mn4 : ¬ f.n = 4 := (fun z => h1 ((vr_sm (v := 4) (by omega) (by decide) rfl).mpr z)); have mn5 : f.n = 5 := (vr_sm (v := 5) (by omega) (by decide) rfl).mp h2; rw [mn5]; rfl
      exact ⟨_, _, by rw [ev], rfl, rfl⟩
    · refine jv_Wp.bys (q := ((vl_I f.n) = Int32.ofInt 6)) (fun h3 => ?_) (fun h3 => ?_)
      · refine jv_Wp.lift (fun _ Kz => jv_Ev.br jv_i284 (pc' := 61) (st' := []) rfl (by rw [h3]; rfl) Kz) ?_
        refine jv_Wp.lift (fun _ Kz => jv_Ev.steps jv_i284 1 (pc' := 63) (l' := [(0, .ref 196)]) (st' := [.int (8 : Int32)]) rfl Kz) ?_
        refine jv_Wp.of (jv_Ev.ret jv_i284 rfl rfl) ?_
        rw [hQ]
        have ev : (8 : Int32) = (vl_I (vx_opn f.n)) := by have mn4 : ¬ f.n = 4 := (fun z => h1 ((vr_sm (v := 4) (by omega) (by decide) rfl).mpr z)); have mn5 : ¬ f.n = 5 := (fun z => h2 ((vr_sm (v := 5) (by omega) (by decide) rfl).mpr z)); have mn6 : f.n = 6 := (vr_sm (v := 6) (by omega) (by decide) rfl).mp h3; rw [mn6]; rfl
        exact ⟨_, _, by rw [ev], rfl, rfl⟩
      · refine jv_Wp.bys (q := ((vl_I f.n) = Int32.ofInt 7)) (fun h4 => ?_) (fun h4 => ?_)
        · refine jv_Wp.lift (fun _ Kz => jv_Ev.br jv_i284 (pc' := 64) (st' := []) rfl (by rw [h4]; rfl) Kz) ?_
          refine jv_Wp.lift (fun _ Kz => jv_Ev.steps jv_i284 1 (pc' := 66) (l' := [(0, .ref 196)]) (st' := [.int (9 : Int32)]) rfl Kz) ?_
          refine jv_Wp.of (jv_Ev.ret jv_i284 rfl rfl) ?_
          rw [hQ]
          have ev : (9 : Int32) = (vl_I (vx_opn f.n)) := by have mn4 : ¬ f.n = 4 := (fun z => h1 ((vr_sm (v := 4) (by omega) (by decide) rfl).mpr z)); have mn5 : ¬ f.n = 5 := (fun z => h2 ((vr_sm (v := 5) (by omega) (by decide) rfl).mpr z)); have mn6 : ¬ f.n = 6 := (fun z => h3 ((vr_sm (v := 6) (by omega) (by decide) rfl).mpr z)); have mn7 : f.n = 7 := (vr_sm (v := 7) (by omega) (by decide) rfl).mp h4; rw [mn7]; rfl
          exact ⟨_, _, by rw [ev], rfl, rfl⟩
        · refine jv_Wp.bys (q := ((vl_I f.n) = Int32.ofInt 8)) (fun h5 => ?_) (fun h5 => ?_)
          · refine jv_Wp.lift (fun _ Kz => jv_Ev.br jv_i284 (pc' := 67) (st' := []) rfl (by rw [h5]; rfl) Kz) ?_
            refine jv_Wp.lift (fun _ Kz => jv_Ev.steps jv_i284 1 (pc' := 68) (l' := [(0, .ref 196)]) (st' := [.int (1 : Int32)]) rfl Kz) ?_
            refine jv_Wp.of (jv_Ev.ret jv_i284 rfl rfl) ?_
            rw [hQ]
            have ev : (1 : Int32) = (vl_I (vx_opn f.n)) := by have mn4 : ¬ f.n = 4 := (fun z => h1 ((vr_sm (v := 4) (by omega) (by decide) rfl).mpr z)); have mn5 : ¬ f.n = 5 := (fun z => h2 ((vr_sm (v := 5) (by omega) (by decide) rfl).mpr z)); have mn6 : ¬ f.n = 6 := (fun z => h3 ((vr_sm (v := 6) (by omega) (by decide) rfl).mpr z)); have mn7 : ¬ f.n = 7 := (fun z => h4 ((vr_sm (v := 7) (by omega) (by decide) rfl).mpr z)); have mn8 : f.n = 8 := (vr_sm (v := 8) (by omega) (by decide) rfl).mp h5; rw [mn8]; rfl
            exact ⟨_, _, by rw [ev], rfl, rfl⟩
          · refine jv_Wp.bys (q := ((vl_I f.n) = Int32.ofInt 9)) (fun h6 => ?_) (fun h6 => ?_)
            · refine jv_Wp.lift (fun _ Kz => jv_Ev.br jv_i284 (pc' := 69) (st' := []) rfl (by rw [h6]; rfl) Kz) ?_
              refine jv_Wp.lift (fun _ Kz => jv_Ev.steps jv_i284 1 (pc' := 70) (l' := [(0, .ref 196)]) (st' := [.int (4 : Int32)]) rfl Kz) ?_
              refine jv_Wp.of (jv_Ev.ret jv_i284 rfl rfl) ?_
              rw [hQ]
              have ev : (4 : Int32) = (vl_I (vx_opn f.n)) := by have mn4 : ¬ f.n = 4 := (fun z => h1 ((vr_sm (v := 4) (by omega) (by decide) rfl).mpr z)); have mn5 : ¬ f.n = 5 := (fun z => h2 ((vr_sm (v := 5) (by omega) (by decide) rfl).mpr z)); have mn6 : ¬ f.n = 6 := (fun z => h3 ((vr_sm (v := 6) (by omega) (by decide) rfl).mpr z)); have mn7 : ¬ f.n = 7 := (fun z => h4 ((vr_sm (v := 7) (by omega) (by decide) rfl).mpr z)); have mn8 : ¬ f.n = 8 := (fun z => h5 ((vr_sm (v := 8) (by omega) (by decide) rfl).mpr z)); have mn9 : f.n = 9 := (vr_sm (v := 9) (by omega) (by decide) rfl).mp h6; rw [mn9]; rfl
              exact ⟨_, _, by rw [ev], rfl, rfl⟩
            · refine jv_Wp.bys (q := ((vl_I f.n) = Int32.ofInt 10)) (fun h7 => ?_) (fun h7 => ?_)
              · refine jv_Wp.lift (fun _ Kz => jv_Ev.br jv_i284 (pc' := 71) (st' := []) rfl (by rw [h7]; rfl) Kz) ?_
                refine jv_Wp.lift (fun _ Kz => jv_Ev.steps jv_i284 1 (pc' := 73) (l' := [(0, .ref 196)]) (st' := [.int (7 : Int32)]) rfl Kz) ?_
                refine jv_Wp.of (jv_Ev.ret jv_i284 rfl rfl) ?_
                rw [hQ]
                have ev : (7 : Int32) = (vl_I (vx_opn f.n)) := by have mn4 : ¬ f.n = 4 := (fun z => h1 ((vr_sm (v := 4) (by omega) (by decide) rfl).mpr z)); have mn5 : ¬ f.n = 5 := (fun z => h2 ((vr_sm (v := 5) (by omega) (by decide) rfl).mpr z)); have mn6 : ¬ f.n = 6 := (fun z => h3 ((vr_sm (v := 6) (by omega) (by decide) rfl).mpr z)); have mn7 : ¬ f.n = 7 := (fun z => h4 ((vr_sm (v := 7) (by omega) (by decide) rfl).mpr z)); have mn8 : ¬ f.n = 8 := (fun z => h5 ((vr_sm (v := 8) (by omega) (by decide) rfl).mpr z)); have mn9 : ¬ f.n = 9 := (fun z => h6 ((vr_sm (v := 9) (by omega) (by decide) rfl).mpr z)); have mn10 : f.n = 10 := (vr_sm (v := 10) (by omega) (by decide) rfl).mp h7; rw [mn10]; rfl
                exact ⟨_, _, by rw [ev], rfl, rfl⟩
              · refine jv_Wp.bys (q := ((vl_I f.n) = Int32.ofInt 12)) (fun h8 => ?_) (fun h8 => ?_)
                · refine jv_Wp.lift (fun _ Kz => jv_Ev.br jv_i284 (pc' := 74) (st' := []) rfl (by rw [h8]; rfl) Kz) ?_
                  refine jv_Wp.lift (fun _ Kz => jv_Ev.steps jv_i284 1 (pc' := 76) (l' := [(0, .ref 196)]) (st' := [.int (10 : Int32)]) rfl Kz) ?_
                  refine jv_Wp.of (jv_Ev.ret jv_i284 rfl rfl) ?_
                  rw [hQ]
                  have ev : (10 : Int32) = (vl_I (vx_opn f.n)) := by have mn4 : ¬ f.n = 4 := (fun z => h1 ((vr_sm (v := 4) (by omega) (by decide) rfl).mpr z)); have mn5 : ¬ f.n = 5 := (fun z => h2 ((vr_sm (v := 5) (by omega) (by decide) rfl).mpr z)); have mn6 : ¬ f.n = 6 := (fun z => h3 ((vr_sm (v := 6) (by omega) (by decide) rfl).mpr z)); have mn7 : ¬ f.n = 7 := (fun z => h4 ((vr_sm (v := 7) (by omega) (by decide) rfl).mpr z)); have mn8 : ¬ f.n = 8 := (fun z => h5 ((vr_sm (v := 8) (by omega) (by decide) rfl).mpr z)); have mn9 : ¬ f.n = 9 := (fun z => h6 ((vr_sm (v := 9) (by omega) (by decide) rfl).mpr z)); have mn10 : ¬ f.n = 10 := (fun z => h7 ((vr_sm (v := 10) (by omega) (by decide) rfl).mpr z)); have mn12 : f.n = 12 := (vr_sm (v := 12) (by omega) (by decide) rfl).mp h8; rw [mn12]; rfl
                  exact ⟨_, _, by rw [ev], rfl, rfl⟩
                · refine jv_Wp.lift (fun _ Kz => jv_Ev.br jv_i284 (pc' := 77) (st' := []) rfl (jv_tsw_def (fun i hi h => by match i, hi, h with 
                        | 0, _, h => exact absurd h (jv_ne_toInt (k := 4) h1) 
                        | 1, _, h => exact absurd h (jv_ne_toInt (k := 5) h2) 
                        | 2, _, h => exact absurd h (jv_ne_toInt (k := 6) h3) 
                        | 3, _, h => exact absurd h (jv_ne_toInt (k := 7) h4) 
                        | 4, _, h => exact absurd h (jv_ne_toInt (k := 8) h5) 
                        | 5, _, h => exact absurd h (jv_ne_toInt (k := 9) h6) 
                        | 6, _, h => exact absurd h (jv_ne_toInt (k := 10) h7) 
                        | 7, _, _ => rfl 
                        | 8, _, h => exact absurd h (jv_ne_toInt (k := 12) h8) 
                        | i + 9, hi, _ => exact absurd hi (by simp)) rfl) Kz) ?_
                  refine jv_Wp.lift (fun _ Kz => jv_Ev.steps jv_i284 1 (pc' := 78) (l' := [(0, .ref 196)]) (st' := [.ref 196]) rfl Kz) ?_
                  refine jv_Wp.lift (fun _ Kz => jv_Ev.c jv_i284 (pc' := 81) (S' := [.int (vl_I f.n)]) jv_i258 [.ref 196] rfl rfl rfl rfl (jv_cal rfl (jv_H_at (jv_rwK hW 196 12 24 (by decide))) rfl rfl) rfl (vq_n f hW D) rfl rfl Kz) ?_
                  refine jv_Wp.of (jv_Ev.ret jv_i284 rfl rfl) ?_
                  rw [hQ]
                  have ev : (vl_I f.n) = (vl_I (vx_opn f.n)) := by have mn4 : ¬ f.n = 4 := (fun z => h1 ((vr_sm (v := 4) (by omega) (by decide) rfl).mpr z)); have mn5 : ¬ f.n = 5 := (fun z => h2 ((vr_sm (v := 5) (by omega) (by decide) rfl).mpr z)); have mn6 : ¬ f.n = 6 := (fun z => h3 ((vr_sm (v := 6) (by omega) (by decide) rfl).mpr z)); have mn7 : ¬ f.n = 7 := (fun z => h4 ((vr_sm (v := 7) (by omega) (by decide) rfl).mpr z)); have mn8 : ¬ f.n = 8 := (fun z => h5 ((vr_sm (v := 8) (by omega) (by decide) rfl).mpr z)); have mn9 : ¬ f.n = 9 := (fun z => h6 ((vr_sm (v := 9) (by omega) (by decide) rfl).mpr z)); have mn10 : ¬ f.n = 10 := (fun z => h7 ((vr_sm (v := 10) (by omega) (by decide) rfl).mpr z)); have mn12 : ¬ f.n = 12 := (fun z => h8 ((vr_sm (v := 12) (by omega) (by decide) rfl).mpr z)); rw [vx_opn_id mn4 mn5 mn6 mn7 mn8 mn9 mn10 mn12]
                  exact ⟨_, _, by rw [ev], rfl, rfl⟩
theorem vq_opof {K : Nat → Option (Nat × Nat)} {I : Nat → Nat → Int32} {L : Nat → Nat → Int64} {R : Nat → Nat → Value} (f : vf_F) (hW : jv_rW K R) (D : vr_dec I f) {n sl : Nat} : jv_Ms 284 [.ref 196] (jv_H K I L R) n sl (some (.int (vl_I (vx_opn f.n))), jv_H K I L R, n, sl) := by
  obtain ⟨I1, L1, H, ei, el⟩ := vq_opof_ (n := n) (sl := sl) f hW D
  rw [ei, el] at H
  exact H
theorem jv_i285 : jv_I 285 4 none 9 267 jv_c285 := ⟨rfl, rfl, rfl, rfl, rfl⟩
theorem vq_reckonA7 {K : Nat → Option (Nat × Nat)} {I : Nat → Nat → Int32} {L : Nat → Nat → Int64} {R : Nat → Nat → Value} (f : vf_F) (a b : Nat) (hW : jv_rW K R) (hf : vr_fl I) (D : vr_dec I f) (hfa : vf_ar f) (ha : 8 ≤ a) (ha2 : a < 77200) (hb : 5 ≤ b) (hb2 : b < 77200) (hb7 : b ≠ 7) (hZ6 : vb_toS (vr_S L 6) = vb_just 0) (md7 : f.kind = 7) (h0 : f.o ≠ 0) (hy : vb_tight (vb_toS (vr_S L b))) (hN11 : f.n = 11) {n sl : Nat} : ∃ I1 L1, jv_Ms 285 [.ref 196, .int (vl_I a), .int (vl_I b)] (jv_H K I L R) n sl (none, jv_H K I1 L1 R, n, sl) ∧ vr_T I1 L1 (76800 + f.d) = vt_num (vx_reckon f (vb_toS (vr_S L a)) (vb_toS (vr_S L b))) ∧ vr_ok I1 (76800 + f.d) f.d ∧ vr_fr (fun x => x = 76800 + f.d) noE I L I1 L1 := by
  obtain ⟨Q, hQ⟩ : ∃ Q : jv_R → Prop, Q = fun X => ∃ I1 L1, X = (none, jv_H K I1 L1 R, n, sl) ∧ vr_T I1 L1 (76800 + f.d) = vt_num (vx_reckon f (vb_toS (vr_S L a)) (vb_toS (vr_S L b))) ∧ vr_ok I1 (76800 + f.d) f.d ∧ vr_fr (fun x => x = 76800 + f.d) noE I L I1 L1 := ⟨_, rfl⟩
  suffices h : jv_Wp 285 0 [(0, .ref 196), (1, .int (vl_I a)), (2, .int (vl_I b))] [] (jv_H K I L R) n sl Q by
    rw [hQ] at h
    obtain ⟨X, h, I1, L1, e, h'⟩ := h
    subst e
    exact ⟨I1, L1, h, h'⟩
  have hn16 := vr_dn D
  have hk8 := vr_dk D
  have hd16 := vr_dd D
  refine jv_Wp.lift (fun _ Kz => jv_Ev.steps jv_i285 1 (pc' := 1) (l' := [(0, .ref 196), (1, .int (vl_I a)), (2, .int (vl_I b))]) (st' := [.ref 196]) rfl Kz) ?_
  refine jv_Wp.lift (fun _ Kz => jv_Ev.c jv_i285 (pc' := 4) (S' := [.int (vl_I f.kind)]) jv_i257 [.ref 196] rfl rfl rfl rfl (jv_cal rfl (jv_H_at (jv_rwK hW 196 12 24 (by decide))) rfl rfl) rfl (vq_kind f hW D) rfl rfl Kz) ?_
  refine jv_Wp.lift (fun _ Kz => jv_Ev.steps jv_i285 1 (pc' := 6) (l' := [(0, .ref 196), (1, .int (vl_I a)), (2, .int (vl_I b))]) (st' := [.int (7 : Int32), .int (vl_I f.kind)]) rfl Kz) ?_
  refine jv_Wp.cnd jv_i285 (pt := 14) (pe := 9) (p := (¬ (vl_I f.kind) = (7 : Int32))) (q := (¬ (vl_I f.kind) = (7 : Int32))) rfl jv_bc_ne rfl rfl Iff.rfl (fun hz => absurd hz (fun z => z ((vr_sm (v := 7) (by omega) (by decide) rfl).mpr md7))) (fun _ => ?_)
  refine jv_Wp.lift (fun _ Kz => jv_Ev.steps jv_i285 4 (pc' := 18) (l' := [(3, .int (64 : Int32)), (0, .ref 196), (1, .int (vl_I a)), (2, .int (vl_I b))]) (st' := [.ref 196]) rfl Kz) ?_
  refine jv_Wp.lift (fun _ Kz => jv_Ev.c jv_i285 (pc' := 21) (S' := [.int (vl_I f.n)]) jv_i258 [.ref 196] rfl rfl rfl rfl (jv_cal rfl (jv_H_at (jv_rwK hW 196 12 24 (by decide))) rfl rfl) rfl (vq_n f hW D) rfl rfl Kz) ?_
  refine jv_Wp.lift (fun _ Kz => jv_Ev.steps jv_i285 1 (pc' := 22) (l' := [(3, .int (64 : Int32)), (0, .ref 196), (1, .int (vl_I a)), (2, .int (vl_I b))]) (st' := [.int (3 : Int32), .int (vl_I f.n)]) rfl Kz) ?_
  refine jv_Wp.cnd jv_i285 (pt := 34) (pe := 25) (p := ((vl_I f.n) = (3 : Int32))) (q := ((vl_I f.n) = (3 : Int32))) rfl jv_bc_eq rfl rfl Iff.rfl (fun hz => absurd hz (fun z => by have y := (vr_sm (v := 3) (by omega) (by decide) rfl).mp z; omega)) (fun _ => ?_)
  refine jv_Wp.lift (fun _ Kz => jv_Ev.steps jv_i285 1 (pc' := 26) (l' := [(3, .int (64 : Int32)), (0, .ref 196), (1, .int (vl_I a)), (2, .int (vl_I b))]) (st' := [.ref 196]) rfl Kz) ?_
  refine jv_Wp.lift (fun _ Kz => jv_Ev.c jv_i285 (pc' := 29) (S' := [.int (vl_I f.n)]) jv_i258 [.ref 196] rfl rfl rfl rfl (jv_cal rfl (jv_H_at (jv_rwK hW 196 12 24 (by decide))) rfl rfl) rfl (vq_n f hW D) rfl rfl Kz) ?_
  refine jv_Wp.lift (fun _ Kz => jv_Ev.steps jv_i285 1 (pc' := 31) (l' := [(3, .int (64 : Int32)), (0, .ref 196), (1, .int (vl_I a)), (2, .int (vl_I b))]) (st' := [.int (9 : Int32), .int (vl_I f.n)]) rfl Kz) ?_
  refine jv_Wp.cnd jv_i285 (pt := 66) (pe := 34) (p := (¬ (vl_I f.n) = (9 : Int32))) (q := (¬ (vl_I f.n) = (9 : Int32))) rfl jv_bc_ne rfl rfl Iff.rfl (fun _ => ?_) (fun hz => absurd (fun z => by have y := (vr_sm (v := 9) (by omega) (by decide) rfl).mp z; omega) hz)
  refine jv_Wp.lift (fun _ Kz => jv_Ev.steps jv_i285 1 (pc' := 67) (l' := [(3, .int (64 : Int32)), (0, .ref 196), (1, .int (vl_I a)), (2, .int (vl_I b))]) (st' := [.ref 196]) rfl Kz) ?_
  refine jv_Wp.lift (fun _ Kz => jv_Ev.c jv_i285 (pc' := 70) (S' := [.int (vl_I f.n)]) jv_i258 [.ref 196] rfl rfl rfl rfl (jv_cal rfl (jv_H_at (jv_rwK hW 196 12 24 (by decide))) rfl rfl) rfl (vq_n f hW D) rfl rfl Kz) ?_
  refine jv_Wp.lift (fun _ Kz => jv_Ev.steps jv_i285 1 (pc' := 72) (l' := [(3, .int (64 : Int32)), (0, .ref 196), (1, .int (vl_I a)), (2, .int (vl_I b))]) (st' := [.int (11 : Int32), .int (vl_I f.n)]) rfl Kz) ?_
  refine jv_Wp.cnd jv_i285 (pt := 111) (pe := 75) (p := (¬ (vl_I f.n) = (11 : Int32))) (q := (¬ (vl_I f.n) = (11 : Int32))) rfl jv_bc_ne rfl rfl Iff.rfl (fun hz => absurd hz (fun z => z ((vr_sm (v := 11) (by omega) (by decide) rfl).mpr hN11))) (fun _ => ?_)
  refine jv_Wp.lift (fun _ Kz => jv_Ev.steps jv_i285 1 (pc' := 76) (l' := [(3, .int (64 : Int32)), (0, .ref 196), (1, .int (vl_I a)), (2, .int (vl_I b))]) (st' := [.ref 196]) rfl Kz) ?_
  refine jv_Wp.lift (fun _ Kz => jv_Ev.m jv_i285 (pc' := 79) (st' := [.int (Int32.ofInt f.o)]) (G' := (jv_H K I L R)) rfl rfl (jv_m_getI (jv_rwK hW 196 12 24 (by decide)) rfl rfl (vr_dI D)) Kz) ?_
  refine jv_Wp.cnd jv_i285 (pt := 111) (pe := 82) (p := ((Int32.ofInt f.o) ≤ 0)) (q := ((Int32.ofInt f.o) ≤ 0)) rfl jv_bi_le rfl rfl Iff.rfl (fun hz => absurd hz (fun z => by rw [Int32.le_iff_toInt_le, vr_dO D] at z; have z : f.o ≤ 0 := z; have := hfa.2.2.2.1 hN11; omega)) (fun _ => ?_)
  refine jv_Wp.lift (fun _ Kz => jv_Ev.steps jv_i285 1 (pc' := 83) (l' := [(3, .int (64 : Int32)), (0, .ref 196), (1, .int (vl_I a)), (2, .int (vl_I b))]) (st' := [.ref 196]) rfl Kz) ?_
  refine jv_Wp.lift (fun _ Kz => jv_Ev.m jv_i285 (pc' := 86) (st' := [.ref 208]) (G' := (jv_H K I L R)) rfl rfl (jv_m_getR (jv_rwK hW 196 12 24 (by decide)) rfl rfl (jv_rwR hW 196 16 208 (by decide))) Kz) ?_
  refine jv_Wp.lift (fun _ Kz => jv_Ev.steps jv_i285 3 (pc' := 90) (l' := [(3, .int (64 : Int32)), (0, .ref 196), (1, .int (vl_I a)), (2, .int (vl_I b))]) (st' := [.ref 196, .int (7 : Int32), .int (vl_I b), .ref 208]) rfl Kz) ?_
  refine jv_Wp.lift (fun _ Kz => jv_Ev.m jv_i285 (pc' := 93) (st' := [.int (Int32.ofInt f.o), .int (7 : Int32), .int (vl_I b), .ref 208]) (G' := (jv_H K I L R)) rfl rfl (jv_m_getI (jv_rwK hW 196 12 24 (by decide)) rfl rfl (vr_dI D)) Kz) ?_
  have mO : f.o.toNat = 8 ∨ f.o.toNat = 16 ∨ f.o.toNat = 32 := by have := hfa.2.2.2.1 hN11 (by omega); omega
  have eo : Int32.ofInt f.o = vl_I f.o.toNat := Int32.toInt_inj.mp ((vr_dO D).trans ((vl_I_int (by omega)).trans (by omega)).symm)
  obtain ⟨I1, L1, H1, S1, F1⟩ := vq_ext (I := I) (L := L) (R := R) (n := n) (sl := sl) (a := b) (d := 7) (m := f.o.toNat) mO hW (by omega) (by decide) (by decide) (by omega) hf hy
  rw [← eo] at H1
  have Z1 := F1.1
  have D1 := vr_dec_rf F1 D
  refine jv_Wp.lift (fun _ Kz => jv_Ev.c jv_i285 (pc' := 96) (S' := []) (G1 := (jv_H K I1 L1 R)) jv_i220 [.ref 208, .int (vl_I b), .int (7 : Int32), .int (Int32.ofInt f.o)] rfl rfl rfl rfl (jv_cal rfl (jv_H_at (jv_rwK hW 208 11 7 (by decide))) rfl rfl) rfl H1 rfl rfl Kz) ?_
  refine jv_Wp.lift (fun _ Kz => jv_Ev.steps jv_i285 1 (pc' := 97) (l' := [(3, .int (64 : Int32)), (0, .ref 196), (1, .int (vl_I a)), (2, .int (vl_I b))]) (st' := [.ref 196]) rfl Kz) ?_
  refine jv_Wp.lift (fun _ Kz => jv_Ev.m jv_i285 (pc' := 100) (st' := [.ref 208]) (G' := (jv_H K I1 L1 R)) rfl rfl (jv_m_getR (jv_rwK hW 196 12 24 (by decide)) rfl rfl (jv_rwR hW 196 16 208 (by decide))) Kz) ?_
  refine jv_Wp.lift (fun _ Kz => jv_Ev.steps jv_i285 3 (pc' := 105) (l' := [(3, .int (64 : Int32)), (0, .ref 196), (1, .int (vl_I a)), (2, .int (vl_I b))]) (st' := [.int (64 : Int32), .int (7 : Int32), .int (7 : Int32), .ref 208]) rfl Kz) ?_
  obtain ⟨I2, L2, H2, S2, F2⟩ := vq_cut (I := I1) (L := L1) (R := R) (n := n) (sl := sl) (a := 7) (d := 7) (m := 64) (by omega) hW (by omega) (by decide) (by decide) (by omega) Z1 (by rw [S1]; first | (rw [vb_toS_any]; exact vb_any_tight) | (rw [vb_toS_toR]; exact (vx_ext_in mO hy.low).1))
  have Z2 := F2.1
  have D2 := vr_dec_rf F2 D1
  refine jv_Wp.lift (fun _ Kz => jv_Ev.c jv_i285 (pc' := 108) (S' := []) (G1 := (jv_H K I2 L2 R)) jv_i219 [.ref 208, .int (7 : Int32), .int (7 : Int32), .int (64 : Int32)] rfl rfl rfl rfl (jv_cal rfl (jv_H_at (jv_rwK hW 208 11 7 (by decide))) rfl rfl) rfl H2 rfl rfl Kz) ?_
  refine jv_Wp.lift (fun _ Kz => jv_Ev.steps jv_i285 4 (pc' := 217) (l' := [(3, .int (64 : Int32)), (0, .ref 196), (1, .int (vl_I a)), (2, .int (vl_I b))]) (st' := [.ref 196, .int (1024 : Int32), .ref 196]) rfl Kz) ?_
  refine jv_Wp.lift (fun _ Kz => jv_Ev.m jv_i285 (pc' := 220) (st' := [.int (vl_I f.d), .int (1024 : Int32), .ref 196]) (G' := (jv_H K I2 L2 R)) rfl rfl (jv_m_getI (jv_rwK hW 196 12 24 (by decide)) rfl rfl D2.2.1) Kz) ?_
  refine jv_Wp.lift (fun _ Kz => jv_Ev.steps jv_i285 1 (pc' := 222) (l' := [(3, .int (64 : Int32)), (0, .ref 196), (1, .int (vl_I a)), (2, .int (vl_I b))]) (st' := [.int (7 : Int32), .int (vl_I f.d), .int (1024 : Int32), .ref 196]) rfl Kz) ?_
  obtain ⟨I3, L3, H3, T3, O3, F3⟩ := vq_setNumber (I := I2) (L := L2) (R := R) (n := n) (sl := sl) 1024 f.d 7 hW Z2 (by omega) (by decide) (by decide)
  refine jv_Wp.lift (fun _ Kz => jv_Ev.c jv_i285 (pc' := 225) (S' := []) (G1 := (jv_H K I3 L3 R)) jv_i273 [.ref 196, .int (1024 : Int32), .int (vl_I f.d), .int (7 : Int32)] rfl rfl rfl rfl (jv_cal rfl (jv_H_at (jv_rwK hW 196 12 24 (by decide))) rfl rfl) rfl H3 rfl rfl Kz) ?_
  refine jv_Wp.of (jv_Ev.ret jv_i285 rfl rfl) ?_
  rw [hQ]
  have q3 := hfa.2.2.1
  have q4 := hfa.2.2.2.1
  have e : vx_reckon f (vb_toS (vr_S L a)) (vb_toS (vr_S L b)) = vx_cut (vx_ext (vb_toS (vr_S L b)) f.o.toNat) 64 := by rw [vx_rko (by omega) (by omega), if_pos hN11, if_pos md7]
  refine ⟨_, _, rfl, ?_, O3, (vr_fr_trans (vq_rf_fr F1 (by decide)) (vr_fr_trans (vq_rf_fr F2 (by decide)) F3))⟩
  refine T3.trans (congrArg vt_num ?_)
  rw [e, S2, vb_toS_toR, S1, vb_toS_toR]
theorem vq_reckonA4 {K : Nat → Option (Nat × Nat)} {I : Nat → Nat → Int32} {L : Nat → Nat → Int64} {R : Nat → Nat → Value} (f : vf_F) (a b : Nat) (hW : jv_rW K R) (hf : vr_fl I) (D : vr_dec I f) (hfa : vf_ar f) (ha : 8 ≤ a) (ha2 : a < 77200) (hb : 5 ≤ b) (hb2 : b < 77200) (hb7 : b ≠ 7) (hZ6 : vb_toS (vr_S L 6) = vb_just 0) (md7 : ¬ f.kind = 7) (hy : vb_tight (vb_toS (vr_S L b))) (hN11 : f.n = 11) {n sl : Nat} : ∃ I1 L1, jv_Ms 285 [.ref 196, .int (vl_I a), .int (vl_I b)] (jv_H K I L R) n sl (none, jv_H K I1 L1 R, n, sl) ∧ vr_T I1 L1 (76800 + f.d) = vt_num (vx_reckon f (vb_toS (vr_S L a)) (vb_toS (vr_S L b))) ∧ vr_ok I1 (76800 + f.d) f.d ∧ vr_fr (fun x => x = 76800 + f.d) noE I L I1 L1 := by
  obtain ⟨Q, hQ⟩ : ∃ Q : jv_R → Prop, Q = fun X => ∃ I1 L1, X = (none, jv_H K I1 L1 R, n, sl) ∧ vr_T I1 L1 (76800 + f.d) = vt_num (vx_reckon f (vb_toS (vr_S L a)) (vb_toS (vr_S L b))) ∧ vr_ok I1 (76800 + f.d) f.d ∧ vr_fr (fun x => x = 76800 + f.d) noE I L I1 L1 := ⟨_, rfl⟩
  suffices h : jv_Wp 285 0 [(0, .ref 196), (1, .int (vl_I a)), (2, .int (vl_I b))] [] (jv_H K I L R) n sl Q by
    rw [hQ] at h
    obtain ⟨X, h, I1, L1, e, h'⟩ := h
    subst e
    exact ⟨I1, L1, h, h'⟩
  have hn16 := vr_dn D
  have hk8 := vr_dk D
  have hd16 := vr_dd D
  refine jv_Wp.lift (fun _ Kz => jv_Ev.steps jv_i285 1 (pc' := 1) (l' := [(0, .ref 196), (1, .int (vl_I a)), (2, .int (vl_I b))]) (st' := [.ref 196]) rfl Kz) ?_
  refine jv_Wp.lift (fun _ Kz => jv_Ev.c jv_i285 (pc' := 4) (S' := [.int (vl_I f.kind)]) jv_i257 [.ref 196] rfl rfl rfl rfl (jv_cal rfl (jv_H_at (jv_rwK hW 196 12 24 (by decide))) rfl rfl) rfl (vq_kind f hW D) rfl rfl Kz) ?_
  refine jv_Wp.lift (fun _ Kz => jv_Ev.steps jv_i285 1 (pc' := 6) (l' := [(0, .ref 196), (1, .int (vl_I a)), (2, .int (vl_I b))]) (st' := [.int (7 : Int32), .int (vl_I f.kind)]) rfl Kz) ?_
  refine jv_Wp.cnd jv_i285 (pt := 14) (pe := 9) (p := (¬ (vl_I f.kind) = (7 : Int32))) (q := (¬ (vl_I f.kind) = (7 : Int32))) rfl jv_bc_ne rfl rfl Iff.rfl (fun _ => ?_) (fun hz => absurd (fun z => md7 ((vr_sm (v := 7) (by omega) (by decide) rfl).mp z)) hz)
  refine jv_Wp.lift (fun _ Kz => jv_Ev.steps jv_i285 3 (pc' := 18) (l' := [(3, .int (32 : Int32)), (0, .ref 196), (1, .int (vl_I a)), (2, .int (vl_I b))]) (st' := [.ref 196]) rfl Kz) ?_
  refine jv_Wp.lift (fun _ Kz => jv_Ev.c jv_i285 (pc' := 21) (S' := [.int (vl_I f.n)]) jv_i258 [.ref 196] rfl rfl rfl rfl (jv_cal rfl (jv_H_at (jv_rwK hW 196 12 24 (by decide))) rfl rfl) rfl (vq_n f hW D) rfl rfl Kz) ?_
  refine jv_Wp.lift (fun _ Kz => jv_Ev.steps jv_i285 1 (pc' := 22) (l' := [(3, .int (32 : Int32)), (0, .ref 196), (1, .int (vl_I a)), (2, .int (vl_I b))]) (st' := [.int (3 : Int32), .int (vl_I f.n)]) rfl Kz) ?_
  refine jv_Wp.cnd jv_i285 (pt := 34) (pe := 25) (p := ((vl_I f.n) = (3 : Int32))) (q := ((vl_I f.n) = (3 : Int32))) rfl jv_bc_eq rfl rfl Iff.rfl (fun hz => absurd hz (fun z => by have y := (vr_sm (v := 3) (by omega) (by decide) rfl).mp z; omega)) (fun _ => ?_)
  refine jv_Wp.lift (fun _ Kz => jv_Ev.steps jv_i285 1 (pc' := 26) (l' := [(3, .int (32 : Int32)), (0, .ref 196), (1, .int (vl_I a)), (2, .int (vl_I b))]) (st' := [.ref 196]) rfl Kz) ?_
  refine jv_Wp.lift (fun _ Kz => jv_Ev.c jv_i285 (pc' := 29) (S' := [.int (vl_I f.n)]) jv_i258 [.ref 196] rfl rfl rfl rfl (jv_cal rfl (jv_H_at (jv_rwK hW 196 12 24 (by decide))) rfl rfl) rfl (vq_n f hW D) rfl rfl Kz) ?_
  refine jv_Wp.lift (fun _ Kz => jv_Ev.steps jv_i285 1 (pc' := 31) (l' := [(3, .int (32 : Int32)), (0, .ref 196), (1, .int (vl_I a)), (2, .int (vl_I b))]) (st' := [.int (9 : Int32), .int (vl_I f.n)]) rfl Kz) ?_
  refine jv_Wp.cnd jv_i285 (pt := 66) (pe := 34) (p := (¬ (vl_I f.n) = (9 : Int32))) (q := (¬ (vl_I f.n) = (9 : Int32))) rfl jv_bc_ne rfl rfl Iff.rfl (fun _ => ?_) (fun hz => absurd (fun z => by have y := (vr_sm (v := 9) (by omega) (by decide) rfl).mp z; omega) hz)
  refine jv_Wp.lift (fun _ Kz => jv_Ev.steps jv_i285 1 (pc' := 67) (l' := [(3, .int (32 : Int32)), (0, .ref 196), (1, .int (vl_I a)), (2, .int (vl_I b))]) (st' := [.ref 196]) rfl Kz) ?_
  refine jv_Wp.lift (fun _ Kz => jv_Ev.c jv_i285 (pc' := 70) (S' := [.int (vl_I f.n)]) jv_i258 [.ref 196] rfl rfl rfl rfl (jv_cal rfl (jv_H_at (jv_rwK hW 196 12 24 (by decide))) rfl rfl) rfl (vq_n f hW D) rfl rfl Kz) ?_
  refine jv_Wp.lift (fun _ Kz => jv_Ev.steps jv_i285 1 (pc' := 72) (l' := [(3, .int (32 : Int32)), (0, .ref 196), (1, .int (vl_I a)), (2, .int (vl_I b))]) (st' := [.int (11 : Int32), .int (vl_I f.n)]) rfl Kz) ?_
  refine jv_Wp.cnd jv_i285 (pt := 111) (pe := 75) (p := (¬ (vl_I f.n) = (11 : Int32))) (q := (¬ (vl_I f.n) = (11 : Int32))) rfl jv_bc_ne rfl rfl Iff.rfl (fun hz => absurd hz (fun z => z ((vr_sm (v := 11) (by omega) (by decide) rfl).mpr hN11))) (fun _ => ?_)
  refine jv_Wp.lift (fun _ Kz => jv_Ev.steps jv_i285 1 (pc' := 76) (l' := [(3, .int (32 : Int32)), (0, .ref 196), (1, .int (vl_I a)), (2, .int (vl_I b))]) (st' := [.ref 196]) rfl Kz) ?_
  refine jv_Wp.lift (fun _ Kz => jv_Ev.m jv_i285 (pc' := 79) (st' := [.int (Int32.ofInt f.o)]) (G' := (jv_H K I L R)) rfl rfl (jv_m_getI (jv_rwK hW 196 12 24 (by decide)) rfl rfl (vr_dI D)) Kz) ?_
  refine jv_Wp.cnd jv_i285 (pt := 111) (pe := 82) (p := ((Int32.ofInt f.o) ≤ 0)) (q := ((Int32.ofInt f.o) ≤ 0)) rfl jv_bi_le rfl rfl Iff.rfl (fun h1 => ?_) (fun h1 => ?_)
  · refine jv_Wp.lift (fun _ Kz => jv_Ev.steps jv_i285 1 (pc' := 112) (l' := [(3, .int (32 : Int32)), (0, .ref 196), (1, .int (vl_I a)), (2, .int (vl_I b))]) (st' := [.ref 196]) rfl Kz) ?_
    refine jv_Wp.lift (fun _ Kz => jv_Ev.c jv_i285 (pc' := 115) (S' := [.int (vl_I f.n)]) jv_i258 [.ref 196] rfl rfl rfl rfl (jv_cal rfl (jv_H_at (jv_rwK hW 196 12 24 (by decide))) rfl rfl) rfl (vq_n f hW D) rfl rfl Kz) ?_
    refine jv_Wp.lift (fun _ Kz => jv_Ev.steps jv_i285 1 (pc' := 117) (l' := [(3, .int (32 : Int32)), (0, .ref 196), (1, .int (vl_I a)), (2, .int (vl_I b))]) (st' := [.int (13 : Int32), .int (vl_I f.n)]) rfl Kz) ?_
    refine jv_Wp.cnd jv_i285 (pt := 170) (pe := 120) (p := (¬ (vl_I f.n) = (13 : Int32))) (q := (¬ (vl_I f.n) = (13 : Int32))) rfl jv_bc_ne rfl rfl Iff.rfl (fun _ => ?_) (fun hz => absurd (fun z => by have y := (vr_sm (v := 13) (by omega) (by decide) rfl).mp z; omega) hz)
    refine jv_Wp.lift (fun _ Kz => jv_Ev.steps jv_i285 1 (pc' := 171) (l' := [(3, .int (32 : Int32)), (0, .ref 196), (1, .int (vl_I a)), (2, .int (vl_I b))]) (st' := [.ref 196]) rfl Kz) ?_
    refine jv_Wp.lift (fun _ Kz => jv_Ev.c jv_i285 (pc' := 174) (S' := [.int (vl_I f.n)]) jv_i258 [.ref 196] rfl rfl rfl rfl (jv_cal rfl (jv_H_at (jv_rwK hW 196 12 24 (by decide))) rfl rfl) rfl (vq_n f hW D) rfl rfl Kz) ?_
    refine jv_Wp.lift (fun _ Kz => jv_Ev.steps jv_i285 1 (pc' := 176) (l' := [(3, .int (32 : Int32)), (0, .ref 196), (1, .int (vl_I a)), (2, .int (vl_I b))]) (st' := [.int (8 : Int32), .int (vl_I f.n)]) rfl Kz) ?_
    refine jv_Wp.cnd jv_i285 (pt := 196) (pe := 179) (p := (¬ (vl_I f.n) = (8 : Int32))) (q := (¬ (vl_I f.n) = (8 : Int32))) rfl jv_bc_ne rfl rfl Iff.rfl (fun _ => ?_) (fun hz => absurd (fun z => by have y := (vr_sm (v := 8) (by omega) (by decide) rfl).mp z; omega) hz)
    refine jv_Wp.lift (fun _ Kz => jv_Ev.steps jv_i285 1 (pc' := 197) (l' := [(3, .int (32 : Int32)), (0, .ref 196), (1, .int (vl_I a)), (2, .int (vl_I b))]) (st' := [.ref 196]) rfl Kz) ?_
    refine jv_Wp.lift (fun _ Kz => jv_Ev.m jv_i285 (pc' := 200) (st' := [.ref 208]) (G' := (jv_H K I L R)) rfl rfl (jv_m_getR (jv_rwK hW 196 12 24 (by decide)) rfl rfl (jv_rwR hW 196 16 208 (by decide))) Kz) ?_
    refine jv_Wp.lift (fun _ Kz => jv_Ev.steps jv_i285 1 (pc' := 201) (l' := [(3, .int (32 : Int32)), (0, .ref 196), (1, .int (vl_I a)), (2, .int (vl_I b))]) (st' := [.ref 196, .ref 208]) rfl Kz) ?_
    refine jv_Wp.lift (fun _ Kz => jv_Ev.c jv_i285 (pc' := 204) (S' := [.int (vl_I (vx_opn f.n)), .ref 208]) jv_i284 [.ref 196] rfl rfl rfl rfl (jv_cal rfl (jv_H_at (jv_rwK hW 196 12 24 (by decide))) rfl rfl) rfl (vq_opof f hW D) rfl rfl Kz) ?_
    refine jv_Wp.lift (fun _ Kz => jv_Ev.steps jv_i285 4 (pc' := 209) (l' := [(3, .int (32 : Int32)), (0, .ref 196), (1, .int (vl_I a)), (2, .int (vl_I b))]) (st' := [.int (vl_I b), .int (vl_I a), .int (7 : Int32), .int (32 : Int32), .int (vl_I (vx_opn f.n)), .ref 208]) rfl Kz) ?_
    have nO0 : f.o ≤ 0 := by have z := h1; rw [Int32.le_iff_toInt_le, vr_dO D] at z; exact z
    have xo : vx_opn f.n = 11 := by rw [hN11]; rfl
    obtain ⟨I4, L4, H4, S4, F4⟩ := vq_op11 (I := I) (L := L) (R := R) (n := n) (sl := sl) a b (vb_toS (vr_S L a)) hW hf (by omega) (by omega) (by omega) (by omega) hy
    rw [show (11 : Int32) = vl_I (vx_opn f.n) by rw [xo]; rfl] at H4
    have Z4 := F4.1
    have D4 := vr_dec_rf F4 D
    refine jv_Wp.lift (fun _ Kz => jv_Ev.c jv_i285 (pc' := 212) (S' := []) (G1 := (jv_H K I4 L4 R)) jv_i249 [.ref 208, .int (vl_I (vx_opn f.n)), .int (32 : Int32), .int (7 : Int32), .int (vl_I a), .int (vl_I b)] rfl rfl rfl rfl (jv_cal rfl (jv_H_at (jv_rwK hW 208 11 7 (by decide))) rfl rfl) rfl H4 rfl rfl Kz) ?_
    refine jv_Wp.lift (fun _ Kz => jv_Ev.steps jv_i285 3 (pc' := 217) (l' := [(3, .int (32 : Int32)), (0, .ref 196), (1, .int (vl_I a)), (2, .int (vl_I b))]) (st' := [.ref 196, .int (1024 : Int32), .ref 196]) rfl Kz) ?_
    refine jv_Wp.lift (fun _ Kz => jv_Ev.m jv_i285 (pc' := 220) (st' := [.int (vl_I f.d), .int (1024 : Int32), .ref 196]) (G' := (jv_H K I4 L4 R)) rfl rfl (jv_m_getI (jv_rwK hW 196 12 24 (by decide)) rfl rfl D4.2.1) Kz) ?_
    refine jv_Wp.lift (fun _ Kz => jv_Ev.steps jv_i285 1 (pc' := 222) (l' := [(3, .int (32 : Int32)), (0, .ref 196), (1, .int (vl_I a)), (2, .int (vl_I b))]) (st' := [.int (7 : Int32), .int (vl_I f.d), .int (1024 : Int32), .ref 196]) rfl Kz) ?_
    obtain ⟨I5, L5, H5, T5, O5, F5⟩ := vq_setNumber (I := I4) (L := L4) (R := R) (n := n) (sl := sl) 1024 f.d 7 hW Z4 (by omega) (by decide) (by decide)
    refine jv_Wp.lift (fun _ Kz => jv_Ev.c jv_i285 (pc' := 225) (S' := []) (G1 := (jv_H K I5 L5 R)) jv_i273 [.ref 196, .int (1024 : Int32), .int (vl_I f.d), .int (7 : Int32)] rfl rfl rfl rfl (jv_cal rfl (jv_H_at (jv_rwK hW 196 12 24 (by decide))) rfl rfl) rfl H5 rfl rfl Kz) ?_
    refine jv_Wp.of (jv_Ev.ret jv_i285 rfl rfl) ?_
    rw [hQ]
    have nO0 : f.o ≤ 0 := by have z := h1; rw [Int32.le_iff_toInt_le, vr_dO D] at z; exact z
    have q3 := hfa.2.2.1
    have q4 := hfa.2.2.2.1
    have e : vx_reckon f (vb_toS (vr_S L a)) (vb_toS (vr_S L b)) = vx_op32 11 (vb_toS (vr_S L a)) (vb_toS (vr_S L b)) := by rw [vx_rkr (by omega) (by omega) (by omega), (show decide (f.kind = 7) = false from decide_eq_false md7), hN11]; rfl
    refine ⟨_, _, rfl, ?_, O5, (vr_fr_trans (vq_rf_fr F4 (by decide)) F5)⟩
    refine T5.trans (congrArg vt_num ?_)
    rw [e, S4, vb_toS_toR]
  · refine jv_Wp.lift (fun _ Kz => jv_Ev.steps jv_i285 1 (pc' := 83) (l' := [(3, .int (32 : Int32)), (0, .ref 196), (1, .int (vl_I a)), (2, .int (vl_I b))]) (st' := [.ref 196]) rfl Kz) ?_
    refine jv_Wp.lift (fun _ Kz => jv_Ev.m jv_i285 (pc' := 86) (st' := [.ref 208]) (G' := (jv_H K I L R)) rfl rfl (jv_m_getR (jv_rwK hW 196 12 24 (by decide)) rfl rfl (jv_rwR hW 196 16 208 (by decide))) Kz) ?_
    refine jv_Wp.lift (fun _ Kz => jv_Ev.steps jv_i285 3 (pc' := 90) (l' := [(3, .int (32 : Int32)), (0, .ref 196), (1, .int (vl_I a)), (2, .int (vl_I b))]) (st' := [.ref 196, .int (7 : Int32), .int (vl_I b), .ref 208]) rfl Kz) ?_
    refine jv_Wp.lift (fun _ Kz => jv_Ev.m jv_i285 (pc' := 93) (st' := [.int (Int32.ofInt f.o), .int (7 : Int32), .int (vl_I b), .ref 208]) (G' := (jv_H K I L R)) rfl rfl (jv_m_getI (jv_rwK hW 196 12 24 (by decide)) rfl rfl (vr_dI D)) Kz) ?_
    have nO0 : ¬ f.o ≤ 0 := by have z := h1; rw [Int32.le_iff_toInt_le, vr_dO D] at z; exact z
    have mO : f.o.toNat = 8 ∨ f.o.toNat = 16 ∨ f.o.toNat = 32 := by have := hfa.2.2.2.1 hN11 (by omega); omega
    have eo : Int32.ofInt f.o = vl_I f.o.toNat := Int32.toInt_inj.mp ((vr_dO D).trans ((vl_I_int (by omega)).trans (by omega)).symm)
    obtain ⟨I6, L6, H6, S6, F6⟩ := vq_ext (I := I) (L := L) (R := R) (n := n) (sl := sl) (a := b) (d := 7) (m := f.o.toNat) mO hW (by omega) (by decide) (by decide) (by omega) hf hy
    rw [← eo] at H6
    have Z6 := F6.1
    have D6 := vr_dec_rf F6 D
    refine jv_Wp.lift (fun _ Kz => jv_Ev.c jv_i285 (pc' := 96) (S' := []) (G1 := (jv_H K I6 L6 R)) jv_i220 [.ref 208, .int (vl_I b), .int (7 : Int32), .int (Int32.ofInt f.o)] rfl rfl rfl rfl (jv_cal rfl (jv_H_at (jv_rwK hW 208 11 7 (by decide))) rfl rfl) rfl H6 rfl rfl Kz) ?_
    refine jv_Wp.lift (fun _ Kz => jv_Ev.steps jv_i285 1 (pc' := 97) (l' := [(3, .int (32 : Int32)), (0, .ref 196), (1, .int (vl_I a)), (2, .int (vl_I b))]) (st' := [.ref 196]) rfl Kz) ?_
    refine jv_Wp.lift (fun _ Kz => jv_Ev.m jv_i285 (pc' := 100) (st' := [.ref 208]) (G' := (jv_H K I6 L6 R)) rfl rfl (jv_m_getR (jv_rwK hW 196 12 24 (by decide)) rfl rfl (jv_rwR hW 196 16 208 (by decide))) Kz) ?_
    refine jv_Wp.lift (fun _ Kz => jv_Ev.steps jv_i285 3 (pc' := 105) (l' := [(3, .int (32 : Int32)), (0, .ref 196), (1, .int (vl_I a)), (2, .int (vl_I b))]) (st' := [.int (32 : Int32), .int (7 : Int32), .int (7 : Int32), .ref 208]) rfl Kz) ?_
    obtain ⟨I7, L7, H7, S7, F7⟩ := vq_cut (I := I6) (L := L6) (R := R) (n := n) (sl := sl) (a := 7) (d := 7) (m := 32) (by omega) hW (by omega) (by decide) (by decide) (by omega) Z6 (by rw [S6]; first | (rw [vb_toS_any]; exact vb_any_tight) | (rw [vb_toS_toR]; exact (vx_ext_in mO hy.low).1))
    have Z7 := F7.1
    have D7 := vr_dec_rf F7 D6
    refine jv_Wp.lift (fun _ Kz => jv_Ev.c jv_i285 (pc' := 108) (S' := []) (G1 := (jv_H K I7 L7 R)) jv_i219 [.ref 208, .int (7 : Int32), .int (7 : Int32), .int (32 : Int32)] rfl rfl rfl rfl (jv_cal rfl (jv_H_at (jv_rwK hW 208 11 7 (by decide))) rfl rfl) rfl H7 rfl rfl Kz) ?_
    refine jv_Wp.lift (fun _ Kz => jv_Ev.steps jv_i285 4 (pc' := 217) (l' := [(3, .int (32 : Int32)), (0, .ref 196), (1, .int (vl_I a)), (2, .int (vl_I b))]) (st' := [.ref 196, .int (1024 : Int32), .ref 196]) rfl Kz) ?_
    refine jv_Wp.lift (fun _ Kz => jv_Ev.m jv_i285 (pc' := 220) (st' := [.int (vl_I f.d), .int (1024 : Int32), .ref 196]) (G' := (jv_H K I7 L7 R)) rfl rfl (jv_m_getI (jv_rwK hW 196 12 24 (by decide)) rfl rfl D7.2.1) Kz) ?_
    refine jv_Wp.lift (fun _ Kz => jv_Ev.steps jv_i285 1 (pc' := 222) (l' := [(3, .int (32 : Int32)), (0, .ref 196), (1, .int (vl_I a)), (2, .int (vl_I b))]) (st' := [.int (7 : Int32), .int (vl_I f.d), .int (1024 : Int32), .ref 196]) rfl Kz) ?_
    obtain ⟨I8, L8, H8, T8, O8, F8⟩ := vq_setNumber (I := I7) (L := L7) (R := R) (n := n) (sl := sl) 1024 f.d 7 hW Z7 (by omega) (by decide) (by decide)
    refine jv_Wp.lift (fun _ Kz => jv_Ev.c jv_i285 (pc' := 225) (S' := []) (G1 := (jv_H K I8 L8 R)) jv_i273 [.ref 196, .int (1024 : Int32), .int (vl_I f.d), .int (7 : Int32)] rfl rfl rfl rfl (jv_cal rfl (jv_H_at (jv_rwK hW 196 12 24 (by decide))) rfl rfl) rfl H8 rfl rfl Kz) ?_
    refine jv_Wp.of (jv_Ev.ret jv_i285 rfl rfl) ?_
    rw [hQ]
    have nO0 : ¬ f.o ≤ 0 := by have z := h1; rw [Int32.le_iff_toInt_le, vr_dO D] at z; exact z
    have q3 := hfa.2.2.1
    have q4 := hfa.2.2.2.1
    have e : vx_reckon f (vb_toS (vr_S L a)) (vb_toS (vr_S L b)) = vx_cut (vx_ext (vb_toS (vr_S L b)) f.o.toNat) 32 := by rw [vx_rko (by omega) (by omega), if_pos hN11, if_neg md7]
    refine ⟨_, _, rfl, ?_, O8, (vr_fr_trans (vq_rf_fr F6 (by decide)) (vr_fr_trans (vq_rf_fr F7 (by decide)) F8))⟩
    refine T8.trans (congrArg vt_num ?_)
    rw [e, S7, vb_toS_toR, S6, vb_toS_toR]
theorem vq_reckonA70 {K : Nat → Option (Nat × Nat)} {I : Nat → Nat → Int32} {L : Nat → Nat → Int64} {R : Nat → Nat → Value} (f : vf_F) (a b : Nat) (hW : jv_rW K R) (hf : vr_fl I) (D : vr_dec I f) (hfa : vf_ar f) (ha : 8 ≤ a) (ha2 : a < 77200) (hb : 5 ≤ b) (hb2 : b < 77200) (hb7 : b ≠ 7) (hZ6 : vb_toS (vr_S L 6) = vb_just 0) (md7 : f.kind = 7) (h0 : f.o = 0) (hy : vb_tight (vb_toS (vr_S L b))) (hN11 : f.n = 11) {n sl : Nat} : ∃ I1 L1, jv_Ms 285 [.ref 196, .int (vl_I a), .int (vl_I b)] (jv_H K I L R) n sl (none, jv_H K I1 L1 R, n, sl) ∧ vr_T I1 L1 (76800 + f.d) = vt_num (vx_reckon f (vb_toS (vr_S L a)) (vb_toS (vr_S L b))) ∧ vr_ok I1 (76800 + f.d) f.d ∧ vr_fr (fun x => x = 76800 + f.d) noE I L I1 L1 := by
  obtain ⟨Q, hQ⟩ : ∃ Q : jv_R → Prop, Q = fun X => ∃ I1 L1, X = (none, jv_H K I1 L1 R, n, sl) ∧ vr_T I1 L1 (76800 + f.d) = vt_num (vx_reckon f (vb_toS (vr_S L a)) (vb_toS (vr_S L b))) ∧ vr_ok I1 (76800 + f.d) f.d ∧ vr_fr (fun x => x = 76800 + f.d) noE I L I1 L1 := ⟨_, rfl⟩
  suffices h : jv_Wp 285 0 [(0, .ref 196), (1, .int (vl_I a)), (2, .int (vl_I b))] [] (jv_H K I L R) n sl Q by
    rw [hQ] at h
    obtain ⟨X, h, I1, L1, e, h'⟩ := h
    subst e
    exact ⟨I1, L1, h, h'⟩
  have hn16 := vr_dn D
  have hk8 := vr_dk D
  have hd16 := vr_dd D
  refine jv_Wp.lift (fun _ Kz => jv_Ev.steps jv_i285 1 (pc' := 1) (l' := [(0, .ref 196), (1, .int (vl_I a)), (2, .int (vl_I b))]) (st' := [.ref 196]) rfl Kz) ?_
  refine jv_Wp.lift (fun _ Kz => jv_Ev.c jv_i285 (pc' := 4) (S' := [.int (vl_I f.kind)]) jv_i257 [.ref 196] rfl rfl rfl rfl (jv_cal rfl (jv_H_at (jv_rwK hW 196 12 24 (by decide))) rfl rfl) rfl (vq_kind f hW D) rfl rfl Kz) ?_
  refine jv_Wp.lift (fun _ Kz => jv_Ev.steps jv_i285 1 (pc' := 6) (l' := [(0, .ref 196), (1, .int (vl_I a)), (2, .int (vl_I b))]) (st' := [.int (7 : Int32), .int (vl_I f.kind)]) rfl Kz) ?_
  refine jv_Wp.cnd jv_i285 (pt := 14) (pe := 9) (p := (¬ (vl_I f.kind) = (7 : Int32))) (q := (¬ (vl_I f.kind) = (7 : Int32))) rfl jv_bc_ne rfl rfl Iff.rfl (fun hz => absurd hz (fun z => z ((vr_sm (v := 7) (by omega) (by decide) rfl).mpr md7))) (fun _ => ?_)
  refine jv_Wp.lift (fun _ Kz => jv_Ev.steps jv_i285 4 (pc' := 18) (l' := [(3, .int (64 : Int32)), (0, .ref 196), (1, .int (vl_I a)), (2, .int (vl_I b))]) (st' := [.ref 196]) rfl Kz) ?_
  refine jv_Wp.lift (fun _ Kz => jv_Ev.c jv_i285 (pc' := 21) (S' := [.int (vl_I f.n)]) jv_i258 [.ref 196] rfl rfl rfl rfl (jv_cal rfl (jv_H_at (jv_rwK hW 196 12 24 (by decide))) rfl rfl) rfl (vq_n f hW D) rfl rfl Kz) ?_
  refine jv_Wp.lift (fun _ Kz => jv_Ev.steps jv_i285 1 (pc' := 22) (l' := [(3, .int (64 : Int32)), (0, .ref 196), (1, .int (vl_I a)), (2, .int (vl_I b))]) (st' := [.int (3 : Int32), .int (vl_I f.n)]) rfl Kz) ?_
  refine jv_Wp.cnd jv_i285 (pt := 34) (pe := 25) (p := ((vl_I f.n) = (3 : Int32))) (q := ((vl_I f.n) = (3 : Int32))) rfl jv_bc_eq rfl rfl Iff.rfl (fun hz => absurd hz (fun z => by have y := (vr_sm (v := 3) (by omega) (by decide) rfl).mp z; omega)) (fun _ => ?_)
  refine jv_Wp.lift (fun _ Kz => jv_Ev.steps jv_i285 1 (pc' := 26) (l' := [(3, .int (64 : Int32)), (0, .ref 196), (1, .int (vl_I a)), (2, .int (vl_I b))]) (st' := [.ref 196]) rfl Kz) ?_
  refine jv_Wp.lift (fun _ Kz => jv_Ev.c jv_i285 (pc' := 29) (S' := [.int (vl_I f.n)]) jv_i258 [.ref 196] rfl rfl rfl rfl (jv_cal rfl (jv_H_at (jv_rwK hW 196 12 24 (by decide))) rfl rfl) rfl (vq_n f hW D) rfl rfl Kz) ?_
  refine jv_Wp.lift (fun _ Kz => jv_Ev.steps jv_i285 1 (pc' := 31) (l' := [(3, .int (64 : Int32)), (0, .ref 196), (1, .int (vl_I a)), (2, .int (vl_I b))]) (st' := [.int (9 : Int32), .int (vl_I f.n)]) rfl Kz) ?_
  refine jv_Wp.cnd jv_i285 (pt := 66) (pe := 34) (p := (¬ (vl_I f.n) = (9 : Int32))) (q := (¬ (vl_I f.n) = (9 : Int32))) rfl jv_bc_ne rfl rfl Iff.rfl (fun _ => ?_) (fun hz => absurd (fun z => by have y := (vr_sm (v := 9) (by omega) (by decide) rfl).mp z; omega) hz)
  refine jv_Wp.lift (fun _ Kz => jv_Ev.steps jv_i285 1 (pc' := 67) (l' := [(3, .int (64 : Int32)), (0, .ref 196), (1, .int (vl_I a)), (2, .int (vl_I b))]) (st' := [.ref 196]) rfl Kz) ?_
  refine jv_Wp.lift (fun _ Kz => jv_Ev.c jv_i285 (pc' := 70) (S' := [.int (vl_I f.n)]) jv_i258 [.ref 196] rfl rfl rfl rfl (jv_cal rfl (jv_H_at (jv_rwK hW 196 12 24 (by decide))) rfl rfl) rfl (vq_n f hW D) rfl rfl Kz) ?_
  refine jv_Wp.lift (fun _ Kz => jv_Ev.steps jv_i285 1 (pc' := 72) (l' := [(3, .int (64 : Int32)), (0, .ref 196), (1, .int (vl_I a)), (2, .int (vl_I b))]) (st' := [.int (11 : Int32), .int (vl_I f.n)]) rfl Kz) ?_
  refine jv_Wp.cnd jv_i285 (pt := 111) (pe := 75) (p := (¬ (vl_I f.n) = (11 : Int32))) (q := (¬ (vl_I f.n) = (11 : Int32))) rfl jv_bc_ne rfl rfl Iff.rfl (fun hz => absurd hz (fun z => z ((vr_sm (v := 11) (by omega) (by decide) rfl).mpr hN11))) (fun _ => ?_)
  refine jv_Wp.lift (fun _ Kz => jv_Ev.steps jv_i285 1 (pc' := 76) (l' := [(3, .int (64 : Int32)), (0, .ref 196), (1, .int (vl_I a)), (2, .int (vl_I b))]) (st' := [.ref 196]) rfl Kz) ?_
  refine jv_Wp.lift (fun _ Kz => jv_Ev.m jv_i285 (pc' := 79) (st' := [.int (Int32.ofInt f.o)]) (G' := (jv_H K I L R)) rfl rfl (jv_m_getI (jv_rwK hW 196 12 24 (by decide)) rfl rfl (vr_dI D)) Kz) ?_
  refine jv_Wp.cnd jv_i285 (pt := 111) (pe := 82) (p := ((Int32.ofInt f.o) ≤ 0)) (q := ((Int32.ofInt f.o) ≤ 0)) rfl jv_bi_le rfl rfl Iff.rfl (fun _ => ?_) (fun hz => absurd (by rw [h0]; decide) hz)
  refine jv_Wp.lift (fun _ Kz => jv_Ev.steps jv_i285 1 (pc' := 112) (l' := [(3, .int (64 : Int32)), (0, .ref 196), (1, .int (vl_I a)), (2, .int (vl_I b))]) (st' := [.ref 196]) rfl Kz) ?_
  refine jv_Wp.lift (fun _ Kz => jv_Ev.c jv_i285 (pc' := 115) (S' := [.int (vl_I f.n)]) jv_i258 [.ref 196] rfl rfl rfl rfl (jv_cal rfl (jv_H_at (jv_rwK hW 196 12 24 (by decide))) rfl rfl) rfl (vq_n f hW D) rfl rfl Kz) ?_
  refine jv_Wp.lift (fun _ Kz => jv_Ev.steps jv_i285 1 (pc' := 117) (l' := [(3, .int (64 : Int32)), (0, .ref 196), (1, .int (vl_I a)), (2, .int (vl_I b))]) (st' := [.int (13 : Int32), .int (vl_I f.n)]) rfl Kz) ?_
  refine jv_Wp.cnd jv_i285 (pt := 170) (pe := 120) (p := (¬ (vl_I f.n) = (13 : Int32))) (q := (¬ (vl_I f.n) = (13 : Int32))) rfl jv_bc_ne rfl rfl Iff.rfl (fun _ => ?_) (fun hz => absurd (fun z => by have y := (vr_sm (v := 13) (by omega) (by decide) rfl).mp z; omega) hz)
  refine jv_Wp.lift (fun _ Kz => jv_Ev.steps jv_i285 1 (pc' := 171) (l' := [(3, .int (64 : Int32)), (0, .ref 196), (1, .int (vl_I a)), (2, .int (vl_I b))]) (st' := [.ref 196]) rfl Kz) ?_
  refine jv_Wp.lift (fun _ Kz => jv_Ev.c jv_i285 (pc' := 174) (S' := [.int (vl_I f.n)]) jv_i258 [.ref 196] rfl rfl rfl rfl (jv_cal rfl (jv_H_at (jv_rwK hW 196 12 24 (by decide))) rfl rfl) rfl (vq_n f hW D) rfl rfl Kz) ?_
  refine jv_Wp.lift (fun _ Kz => jv_Ev.steps jv_i285 1 (pc' := 176) (l' := [(3, .int (64 : Int32)), (0, .ref 196), (1, .int (vl_I a)), (2, .int (vl_I b))]) (st' := [.int (8 : Int32), .int (vl_I f.n)]) rfl Kz) ?_
  refine jv_Wp.cnd jv_i285 (pt := 196) (pe := 179) (p := (¬ (vl_I f.n) = (8 : Int32))) (q := (¬ (vl_I f.n) = (8 : Int32))) rfl jv_bc_ne rfl rfl Iff.rfl (fun _ => ?_) (fun hz => absurd (fun z => by have y := (vr_sm (v := 8) (by omega) (by decide) rfl).mp z; omega) hz)
  refine jv_Wp.lift (fun _ Kz => jv_Ev.steps jv_i285 1 (pc' := 197) (l' := [(3, .int (64 : Int32)), (0, .ref 196), (1, .int (vl_I a)), (2, .int (vl_I b))]) (st' := [.ref 196]) rfl Kz) ?_
  refine jv_Wp.lift (fun _ Kz => jv_Ev.m jv_i285 (pc' := 200) (st' := [.ref 208]) (G' := (jv_H K I L R)) rfl rfl (jv_m_getR (jv_rwK hW 196 12 24 (by decide)) rfl rfl (jv_rwR hW 196 16 208 (by decide))) Kz) ?_
  refine jv_Wp.lift (fun _ Kz => jv_Ev.steps jv_i285 1 (pc' := 201) (l' := [(3, .int (64 : Int32)), (0, .ref 196), (1, .int (vl_I a)), (2, .int (vl_I b))]) (st' := [.ref 196, .ref 208]) rfl Kz) ?_
  refine jv_Wp.lift (fun _ Kz => jv_Ev.c jv_i285 (pc' := 204) (S' := [.int (vl_I (vx_opn f.n)), .ref 208]) jv_i284 [.ref 196] rfl rfl rfl rfl (jv_cal rfl (jv_H_at (jv_rwK hW 196 12 24 (by decide))) rfl rfl) rfl (vq_opof f hW D) rfl rfl Kz) ?_
  refine jv_Wp.lift (fun _ Kz => jv_Ev.steps jv_i285 4 (pc' := 209) (l' := [(3, .int (64 : Int32)), (0, .ref 196), (1, .int (vl_I a)), (2, .int (vl_I b))]) (st' := [.int (vl_I b), .int (vl_I a), .int (7 : Int32), .int (64 : Int32), .int (vl_I (vx_opn f.n)), .ref 208]) rfl Kz) ?_
  have xo : vx_opn f.n = 11 := by rw [hN11]; rfl
  obtain ⟨I9, L9, H9, S9, F9⟩ := vq_op11w (I := I) (L := L) (R := R) (n := n) (sl := sl) a b hW hf (by omega) (by omega) (by omega) (by omega) hy
  rw [show (11 : Int32) = vl_I (vx_opn f.n) by rw [xo]; rfl] at H9
  have Z9 := F9.1
  have D9 := vr_dec_rf F9 D
  refine jv_Wp.lift (fun _ Kz => jv_Ev.c jv_i285 (pc' := 212) (S' := []) (G1 := (jv_H K I9 L9 R)) jv_i249 [.ref 208, .int (vl_I (vx_opn f.n)), .int (64 : Int32), .int (7 : Int32), .int (vl_I a), .int (vl_I b)] rfl rfl rfl rfl (jv_cal rfl (jv_H_at (jv_rwK hW 208 11 7 (by decide))) rfl rfl) rfl H9 rfl rfl Kz) ?_
  refine jv_Wp.lift (fun _ Kz => jv_Ev.steps jv_i285 3 (pc' := 217) (l' := [(3, .int (64 : Int32)), (0, .ref 196), (1, .int (vl_I a)), (2, .int (vl_I b))]) (st' := [.ref 196, .int (1024 : Int32), .ref 196]) rfl Kz) ?_
  refine jv_Wp.lift (fun _ Kz => jv_Ev.m jv_i285 (pc' := 220) (st' := [.int (vl_I f.d), .int (1024 : Int32), .ref 196]) (G' := (jv_H K I9 L9 R)) rfl rfl (jv_m_getI (jv_rwK hW 196 12 24 (by decide)) rfl rfl D9.2.1) Kz) ?_
  refine jv_Wp.lift (fun _ Kz => jv_Ev.steps jv_i285 1 (pc' := 222) (l' := [(3, .int (64 : Int32)), (0, .ref 196), (1, .int (vl_I a)), (2, .int (vl_I b))]) (st' := [.int (7 : Int32), .int (vl_I f.d), .int (1024 : Int32), .ref 196]) rfl Kz) ?_
  obtain ⟨I10, L10, H10, T10, O10, F10⟩ := vq_setNumber (I := I9) (L := L9) (R := R) (n := n) (sl := sl) 1024 f.d 7 hW Z9 (by omega) (by decide) (by decide)
  refine jv_Wp.lift (fun _ Kz => jv_Ev.c jv_i285 (pc' := 225) (S' := []) (G1 := (jv_H K I10 L10 R)) jv_i273 [.ref 196, .int (1024 : Int32), .int (vl_I f.d), .int (7 : Int32)] rfl rfl rfl rfl (jv_cal rfl (jv_H_at (jv_rwK hW 196 12 24 (by decide))) rfl rfl) rfl H10 rfl rfl Kz) ?_
  refine jv_Wp.of (jv_Ev.ret jv_i285 rfl rfl) ?_
  rw [hQ]
  have q3 := hfa.2.2.1
  have q4 := hfa.2.2.2.1
  have e : vx_reckon f (vb_toS (vr_S L a)) (vb_toS (vr_S L b)) = (vb_toS (vr_S L b)) := by rw [vx_rkr (by omega) (by omega) (by omega), (show decide (f.kind = 7) = true from decide_eq_true md7), hN11]; unfold vx_rn vx_op; rw [if_pos rfl, vb_cOp11, vb_tt_of hy]
  refine ⟨_, _, rfl, ?_, O10, (vr_fr_trans (vq_rf_fr F9 (by decide)) F10)⟩
  refine T10.trans (congrArg vt_num ?_)
  rw [e, S9, vb_toS_toR]
theorem vq_reckonB {K : Nat → Option (Nat × Nat)} {I : Nat → Nat → Int32} {L : Nat → Nat → Int64} {R : Nat → Nat → Value} (f : vf_F) (a b : Nat) (hW : jv_rW K R) (hf : vr_fl I) (D : vr_dec I f) (hfa : vf_ar f) (ha : 8 ≤ a) (ha2 : a < 77200) (hb : 5 ≤ b) (hb2 : b < 77200) (hb7 : b ≠ 7) (hZ6 : vb_toS (vr_S L 6) = vb_just 0) (hx : f.n ≠ 11 → vb_tight (vb_toS (vr_S L a))) (hy : f.n ≠ 8 → f.n ≠ 13 → vb_tight (vb_toS (vr_S L b))) (hN11 : ¬ f.n = 11) {n sl : Nat} : ∃ I1 L1, jv_Ms 285 [.ref 196, .int (vl_I a), .int (vl_I b)] (jv_H K I L R) n sl (none, jv_H K I1 L1 R, n, sl) ∧ vr_T I1 L1 (76800 + f.d) = vt_num (vx_reckon f (vb_toS (vr_S L a)) (vb_toS (vr_S L b))) ∧ vr_ok I1 (76800 + f.d) f.d ∧ vr_fr (fun x => x = 76800 + f.d) noE I L I1 L1 := by
  obtain ⟨Q, hQ⟩ : ∃ Q : jv_R → Prop, Q = fun X => ∃ I1 L1, X = (none, jv_H K I1 L1 R, n, sl) ∧ vr_T I1 L1 (76800 + f.d) = vt_num (vx_reckon f (vb_toS (vr_S L a)) (vb_toS (vr_S L b))) ∧ vr_ok I1 (76800 + f.d) f.d ∧ vr_fr (fun x => x = 76800 + f.d) noE I L I1 L1 := ⟨_, rfl⟩
  suffices h : jv_Wp 285 0 [(0, .ref 196), (1, .int (vl_I a)), (2, .int (vl_I b))] [] (jv_H K I L R) n sl Q by
    rw [hQ] at h
    obtain ⟨X, h, I1, L1, e, h'⟩ := h
    subst e
    exact ⟨I1, L1, h, h'⟩
  have hn16 := vr_dn D
  have hk8 := vr_dk D
  have hd16 := vr_dd D
  refine jv_Wp.lift (fun _ Kz => jv_Ev.steps jv_i285 1 (pc' := 1) (l' := [(0, .ref 196), (1, .int (vl_I a)), (2, .int (vl_I b))]) (st' := [.ref 196]) rfl Kz) ?_
  refine jv_Wp.lift (fun _ Kz => jv_Ev.c jv_i285 (pc' := 4) (S' := [.int (vl_I f.kind)]) jv_i257 [.ref 196] rfl rfl rfl rfl (jv_cal rfl (jv_H_at (jv_rwK hW 196 12 24 (by decide))) rfl rfl) rfl (vq_kind f hW D) rfl rfl Kz) ?_
  refine jv_Wp.lift (fun _ Kz => jv_Ev.steps jv_i285 1 (pc' := 6) (l' := [(0, .ref 196), (1, .int (vl_I a)), (2, .int (vl_I b))]) (st' := [.int (7 : Int32), .int (vl_I f.kind)]) rfl Kz) ?_
  refine jv_Wp.cnd jv_i285 (pt := 14) (pe := 9) (p := (¬ (vl_I f.kind) = (7 : Int32))) (q := (¬ (vl_I f.kind) = (7 : Int32))) rfl jv_bc_ne rfl rfl Iff.rfl (fun h1 => ?_) (fun h1 => ?_)
  · refine jv_Wp.lift (fun _ Kz => jv_Ev.steps jv_i285 3 (pc' := 18) (l' := [(3, .int (32 : Int32)), (0, .ref 196), (1, .int (vl_I a)), (2, .int (vl_I b))]) (st' := [.ref 196]) rfl Kz) ?_
    refine jv_Wp.lift (fun _ Kz => jv_Ev.c jv_i285 (pc' := 21) (S' := [.int (vl_I f.n)]) jv_i258 [.ref 196] rfl rfl rfl rfl (jv_cal rfl (jv_H_at (jv_rwK hW 196 12 24 (by decide))) rfl rfl) rfl (vq_n f hW D) rfl rfl Kz) ?_
    refine jv_Wp.lift (fun _ Kz => jv_Ev.steps jv_i285 1 (pc' := 22) (l' := [(3, .int (32 : Int32)), (0, .ref 196), (1, .int (vl_I a)), (2, .int (vl_I b))]) (st' := [.int (3 : Int32), .int (vl_I f.n)]) rfl Kz) ?_
    refine jv_Wp.cnd jv_i285 (pt := 34) (pe := 25) (p := ((vl_I f.n) = (3 : Int32))) (q := ((vl_I f.n) = (3 : Int32))) rfl jv_bc_eq rfl rfl Iff.rfl (fun h2 => ?_) (fun h2 => ?_)
    · refine jv_Wp.lift (fun _ Kz => jv_Ev.steps jv_i285 1 (pc' := 35) (l' := [(3, .int (32 : Int32)), (0, .ref 196), (1, .int (vl_I a)), (2, .int (vl_I b))]) (st' := [.ref 196]) rfl Kz) ?_
      refine jv_Wp.lift (fun _ Kz => jv_Ev.m jv_i285 (pc' := 38) (st' := [.int (Int32.ofInt f.o)]) (G' := (jv_H K I L R)) rfl rfl (jv_m_getI (jv_rwK hW 196 12 24 (by decide)) rfl rfl (vr_dI D)) Kz) ?_
      refine jv_Wp.lift (fun _ Kz => jv_Ev.steps jv_i285 1 (pc' := 39) (l' := [(3, .int (32 : Int32)), (0, .ref 196), (1, .int (vl_I a)), (2, .int (vl_I b))]) (st' := [.int (1 : Int32), .int (Int32.ofInt f.o)]) rfl Kz) ?_
      refine jv_Wp.cnd jv_i285 (pt := 66) (pe := 42) (p := (¬ (Int32.ofInt f.o) = (1 : Int32))) (q := (¬ (Int32.ofInt f.o) = (1 : Int32))) rfl jv_bc_ne rfl rfl Iff.rfl (fun h3 => ?_) (fun h3 => ?_)
      · refine jv_Wp.lift (fun _ Kz => jv_Ev.steps jv_i285 1 (pc' := 67) (l' := [(3, .int (32 : Int32)), (0, .ref 196), (1, .int (vl_I a)), (2, .int (vl_I b))]) (st' := [.ref 196]) rfl Kz) ?_
        refine jv_Wp.lift (fun _ Kz => jv_Ev.c jv_i285 (pc' := 70) (S' := [.int (vl_I f.n)]) jv_i258 [.ref 196] rfl rfl rfl rfl (jv_cal rfl (jv_H_at (jv_rwK hW 196 12 24 (by decide))) rfl rfl) rfl (vq_n f hW D) rfl rfl Kz) ?_
        refine jv_Wp.lift (fun _ Kz => jv_Ev.steps jv_i285 1 (pc' := 72) (l' := [(3, .int (32 : Int32)), (0, .ref 196), (1, .int (vl_I a)), (2, .int (vl_I b))]) (st' := [.int (11 : Int32), .int (vl_I f.n)]) rfl Kz) ?_
        refine jv_Wp.cnd jv_i285 (pt := 111) (pe := 75) (p := (¬ (vl_I f.n) = (11 : Int32))) (q := (¬ (vl_I f.n) = (11 : Int32))) rfl jv_bc_ne rfl rfl Iff.rfl (fun _ => ?_) (fun hz => absurd (fun z => hN11 ((vr_sm (v := 11) (by omega) (by decide) rfl).mp z)) hz)
        refine jv_Wp.lift (fun _ Kz => jv_Ev.steps jv_i285 1 (pc' := 112) (l' := [(3, .int (32 : Int32)), (0, .ref 196), (1, .int (vl_I a)), (2, .int (vl_I b))]) (st' := [.ref 196]) rfl Kz) ?_
        refine jv_Wp.lift (fun _ Kz => jv_Ev.c jv_i285 (pc' := 115) (S' := [.int (vl_I f.n)]) jv_i258 [.ref 196] rfl rfl rfl rfl (jv_cal rfl (jv_H_at (jv_rwK hW 196 12 24 (by decide))) rfl rfl) rfl (vq_n f hW D) rfl rfl Kz) ?_
        refine jv_Wp.lift (fun _ Kz => jv_Ev.steps jv_i285 1 (pc' := 117) (l' := [(3, .int (32 : Int32)), (0, .ref 196), (1, .int (vl_I a)), (2, .int (vl_I b))]) (st' := [.int (13 : Int32), .int (vl_I f.n)]) rfl Kz) ?_
        refine jv_Wp.cnd jv_i285 (pt := 170) (pe := 120) (p := (¬ (vl_I f.n) = (13 : Int32))) (q := (¬ (vl_I f.n) = (13 : Int32))) rfl jv_bc_ne rfl rfl Iff.rfl (fun _ => ?_) (fun hz => absurd (fun z => absurd (z.symm.trans h2) (by decide)) hz)
        refine jv_Wp.lift (fun _ Kz => jv_Ev.steps jv_i285 1 (pc' := 171) (l' := [(3, .int (32 : Int32)), (0, .ref 196), (1, .int (vl_I a)), (2, .int (vl_I b))]) (st' := [.ref 196]) rfl Kz) ?_
        refine jv_Wp.lift (fun _ Kz => jv_Ev.c jv_i285 (pc' := 174) (S' := [.int (vl_I f.n)]) jv_i258 [.ref 196] rfl rfl rfl rfl (jv_cal rfl (jv_H_at (jv_rwK hW 196 12 24 (by decide))) rfl rfl) rfl (vq_n f hW D) rfl rfl Kz) ?_
        refine jv_Wp.lift (fun _ Kz => jv_Ev.steps jv_i285 1 (pc' := 176) (l' := [(3, .int (32 : Int32)), (0, .ref 196), (1, .int (vl_I a)), (2, .int (vl_I b))]) (st' := [.int (8 : Int32), .int (vl_I f.n)]) rfl Kz) ?_
        refine jv_Wp.cnd jv_i285 (pt := 196) (pe := 179) (p := (¬ (vl_I f.n) = (8 : Int32))) (q := (¬ (vl_I f.n) = (8 : Int32))) rfl jv_bc_ne rfl rfl Iff.rfl (fun _ => ?_) (fun hz => absurd (fun z => absurd (z.symm.trans h2) (by decide)) hz)
        refine jv_Wp.lift (fun _ Kz => jv_Ev.steps jv_i285 1 (pc' := 197) (l' := [(3, .int (32 : Int32)), (0, .ref 196), (1, .int (vl_I a)), (2, .int (vl_I b))]) (st' := [.ref 196]) rfl Kz) ?_
        refine jv_Wp.lift (fun _ Kz => jv_Ev.m jv_i285 (pc' := 200) (st' := [.ref 208]) (G' := (jv_H K I L R)) rfl rfl (jv_m_getR (jv_rwK hW 196 12 24 (by decide)) rfl rfl (jv_rwR hW 196 16 208 (by decide))) Kz) ?_
        refine jv_Wp.lift (fun _ Kz => jv_Ev.steps jv_i285 1 (pc' := 201) (l' := [(3, .int (32 : Int32)), (0, .ref 196), (1, .int (vl_I a)), (2, .int (vl_I b))]) (st' := [.ref 196, .ref 208]) rfl Kz) ?_
        refine jv_Wp.lift (fun _ Kz => jv_Ev.c jv_i285 (pc' := 204) (S' := [.int (vl_I (vx_opn f.n)), .ref 208]) jv_i284 [.ref 196] rfl rfl rfl rfl (jv_cal rfl (jv_H_at (jv_rwK hW 196 12 24 (by decide))) rfl rfl) rfl (vq_opof f hW D) rfl rfl Kz) ?_
        refine jv_Wp.lift (fun _ Kz => jv_Ev.steps jv_i285 4 (pc' := 209) (l' := [(3, .int (32 : Int32)), (0, .ref 196), (1, .int (vl_I a)), (2, .int (vl_I b))]) (st' := [.int (vl_I b), .int (vl_I a), .int (7 : Int32), .int (32 : Int32), .int (vl_I (vx_opn f.n)), .ref 208]) rfl Kz) ?_
        have mn3 : f.n = 3 := (vr_sm (v := 3) (by omega) (by decide) rfl).mp h2
        have md7 : ¬ f.kind = 7 := (fun z => h1 ((vr_sm (v := 7) (by omega) (by decide) rfl).mpr z))
        have mO1 : ¬ f.o = 1 := fun z => h3 (Int32.toInt_inj.mp ((vr_dO D).trans (z.trans rfl)))
        obtain ⟨I11, L11, H11, S11, F11⟩ := vq_rn (I := I) (L := L) (R := R) (n := n) (sl := sl) f.n false (d := 7) (a := a) (b := b) (by have := hfa.1; omega) (by omega) hW (by omega) (by omega) (by decide) (by decide) (by omega) (by omega) hf (hx hN11) (hy (by omega) (by omega))
        have Z11 := F11.1
        have D11 := vr_dec_rf F11 D
        refine jv_Wp.lift (fun _ Kz => jv_Ev.c jv_i285 (pc' := 212) (S' := []) (G1 := (jv_H K I11 L11 R)) jv_i249 [.ref 208, .int (vl_I (vx_opn f.n)), .int (32 : Int32), .int (7 : Int32), .int (vl_I a), .int (vl_I b)] rfl rfl rfl rfl (jv_cal rfl (jv_H_at (jv_rwK hW 208 11 7 (by decide))) rfl rfl) rfl H11 rfl rfl Kz) ?_
        refine jv_Wp.lift (fun _ Kz => jv_Ev.steps jv_i285 3 (pc' := 217) (l' := [(3, .int (32 : Int32)), (0, .ref 196), (1, .int (vl_I a)), (2, .int (vl_I b))]) (st' := [.ref 196, .int (1024 : Int32), .ref 196]) rfl Kz) ?_
        refine jv_Wp.lift (fun _ Kz => jv_Ev.m jv_i285 (pc' := 220) (st' := [.int (vl_I f.d), .int (1024 : Int32), .ref 196]) (G' := (jv_H K I11 L11 R)) rfl rfl (jv_m_getI (jv_rwK hW 196 12 24 (by decide)) rfl rfl D11.2.1) Kz) ?_
        refine jv_Wp.lift (fun _ Kz => jv_Ev.steps jv_i285 1 (pc' := 222) (l' := [(3, .int (32 : Int32)), (0, .ref 196), (1, .int (vl_I a)), (2, .int (vl_I b))]) (st' := [.int (7 : Int32), .int (vl_I f.d), .int (1024 : Int32), .ref 196]) rfl Kz) ?_
        obtain ⟨I12, L12, H12, T12, O12, F12⟩ := vq_setNumber (I := I11) (L := L11) (R := R) (n := n) (sl := sl) 1024 f.d 7 hW Z11 (by omega) (by decide) (by decide)
        refine jv_Wp.lift (fun _ Kz => jv_Ev.c jv_i285 (pc' := 225) (S' := []) (G1 := (jv_H K I12 L12 R)) jv_i273 [.ref 196, .int (1024 : Int32), .int (vl_I f.d), .int (7 : Int32)] rfl rfl rfl rfl (jv_cal rfl (jv_H_at (jv_rwK hW 196 12 24 (by decide))) rfl rfl) rfl H12 rfl rfl Kz) ?_
        refine jv_Wp.of (jv_Ev.ret jv_i285 rfl rfl) ?_
        rw [hQ]
        have mn3 : f.n = 3 := (vr_sm (v := 3) (by omega) (by decide) rfl).mp h2
        have md7 : ¬ f.kind = 7 := (fun z => h1 ((vr_sm (v := 7) (by omega) (by decide) rfl).mpr z))
        have mO1 : ¬ f.o = 1 := fun z => h3 (Int32.toInt_inj.mp ((vr_dO D).trans (z.trans rfl)))
        have q3 := hfa.2.2.1
        have q4 := hfa.2.2.2.1
        have e : vx_reckon f (vb_toS (vr_S L a)) (vb_toS (vr_S L b)) = vx_rn f.n false (vb_toS (vr_S L a)) (vb_toS (vr_S L b)) := by rw [vx_rkr (by omega) (by omega) (by omega), (show decide (f.kind = 7) = false from decide_eq_false md7)]
        refine ⟨_, _, rfl, ?_, O12, (vr_fr_trans (vq_rf_fr F11 (by decide)) F12)⟩
        refine T12.trans (congrArg vt_num ?_)
        rw [e, S11, vb_toS_toR]
      · refine jv_Wp.lift (fun _ Kz => jv_Ev.steps jv_i285 1 (pc' := 43) (l' := [(3, .int (32 : Int32)), (0, .ref 196), (1, .int (vl_I a)), (2, .int (vl_I b))]) (st' := [.ref 196]) rfl Kz) ?_
        refine jv_Wp.lift (fun _ Kz => jv_Ev.m jv_i285 (pc' := 46) (st' := [.ref 208]) (G' := (jv_H K I L R)) rfl rfl (jv_m_getR (jv_rwK hW 196 12 24 (by decide)) rfl rfl (jv_rwR hW 196 16 208 (by decide))) Kz) ?_
        refine jv_Wp.lift (fun _ Kz => jv_Ev.steps jv_i285 1 (pc' := 48) (l' := [(3, .int (32 : Int32)), (0, .ref 196), (1, .int (vl_I a)), (2, .int (vl_I b))]) (st' := [.int (7 : Int32), .ref 208]) rfl Kz) ?_
        obtain ⟨I13, L13, H13, S13, F13⟩ := vq_nothing (I := I) (L := L) (R := R) (n := n) (sl := sl) (d := 7) hW (by decide) hf
        have Z13 := F13.1
        have D13 := vr_dec_rf F13 D
        refine jv_Wp.lift (fun _ Kz => jv_Ev.c jv_i285 (pc' := 51) (S' := []) (G1 := (jv_H K I13 L13 R)) jv_i207 [.ref 208, .int (7 : Int32)] rfl rfl rfl rfl (jv_cal rfl (jv_H_at (jv_rwK hW 208 11 7 (by decide))) rfl rfl) rfl H13 rfl rfl Kz) ?_
        refine jv_Wp.lift (fun _ Kz => jv_Ev.steps jv_i285 1 (pc' := 52) (l' := [(3, .int (32 : Int32)), (0, .ref 196), (1, .int (vl_I a)), (2, .int (vl_I b))]) (st' := [.ref 196]) rfl Kz) ?_
        refine jv_Wp.lift (fun _ Kz => jv_Ev.m jv_i285 (pc' := 55) (st' := [.ref 208]) (G' := (jv_H K I13 L13 R)) rfl rfl (jv_m_getR (jv_rwK hW 196 12 24 (by decide)) rfl rfl (jv_rwR hW 196 16 208 (by decide))) Kz) ?_
        refine jv_Wp.lift (fun _ Kz => jv_Ev.steps jv_i285 3 (pc' := 60) (l' := [(3, .int (32 : Int32)), (0, .ref 196), (1, .int (vl_I a)), (2, .int (vl_I b))]) (st' := [.int (32 : Int32), .int (7 : Int32), .int (7 : Int32), .ref 208]) rfl Kz) ?_
        obtain ⟨I14, L14, H14, S14, F14⟩ := vq_cut (I := I13) (L := L13) (R := R) (n := n) (sl := sl) (a := 7) (d := 7) (m := 32) (by omega) hW (by omega) (by decide) (by decide) (by omega) Z13 (by rw [S13]; first | (rw [vb_toS_any]; exact vb_any_tight) | (rw [vb_toS_toR]; exact (vx_ext_in mO hy.low).1))
        have Z14 := F14.1
        have D14 := vr_dec_rf F14 D13
        refine jv_Wp.lift (fun _ Kz => jv_Ev.c jv_i285 (pc' := 63) (S' := []) (G1 := (jv_H K I14 L14 R)) jv_i219 [.ref 208, .int (7 : Int32), .int (7 : Int32), .int (32 : Int32)] rfl rfl rfl rfl (jv_cal rfl (jv_H_at (jv_rwK hW 208 11 7 (by decide))) rfl rfl) rfl H14 rfl rfl Kz) ?_
        refine jv_Wp.lift (fun _ Kz => jv_Ev.steps jv_i285 4 (pc' := 217) (l' := [(3, .int (32 : Int32)), (0, .ref 196), (1, .int (vl_I a)), (2, .int (vl_I b))]) (st' := [.ref 196, .int (1024 : Int32), .ref 196]) rfl Kz) ?_
        refine jv_Wp.lift (fun _ Kz => jv_Ev.m jv_i285 (pc' := 220) (st' := [.int (vl_I f.d), .int (1024 : Int32), .ref 196]) (G' := (jv_H K I14 L14 R)) rfl rfl (jv_m_getI (jv_rwK hW 196 12 24 (by decide)) rfl rfl D14.2.1) Kz) ?_
        refine jv_Wp.lift (fun _ Kz => jv_Ev.steps jv_i285 1 (pc' := 222) (l' := [(3, .int (32 : Int32)), (0, .ref 196), (1, .int (vl_I a)), (2, .int (vl_I b))]) (st' := [.int (7 : Int32), .int (vl_I f.d), .int (1024 : Int32), .ref 196]) rfl Kz) ?_
        obtain ⟨I15, L15, H15, T15, O15, F15⟩ := vq_setNumber (I := I14) (L := L14) (R := R) (n := n) (sl := sl) 1024 f.d 7 hW Z14 (by omega) (by decide) (by decide)
        refine jv_Wp.lift (fun _ Kz => jv_Ev.c jv_i285 (pc' := 225) (S' := []) (G1 := (jv_H K I15 L15 R)) jv_i273 [.ref 196, .int (1024 : Int32), .int (vl_I f.d), .int (7 : Int32)] rfl rfl rfl rfl (jv_cal rfl (jv_H_at (jv_rwK hW 196 12 24 (by decide))) rfl rfl) rfl H15 rfl rfl Kz) ?_
        refine jv_Wp.of (jv_Ev.ret jv_i285 rfl rfl) ?_
        rw [hQ]
        have mn3 : f.n = 3 := (vr_sm (v := 3) (by omega) (by decide) rfl).mp h2
        have md7 : ¬ f.kind = 7 := (fun z => h1 ((vr_sm (v := 7) (by omega) (by decide) rfl).mpr z))
        have mO1 : f.o = 1 := (vr_dO D).symm.trans (congrArg Int32.toInt (Classical.not_not.mp h3))
        have q3 := hfa.2.2.1
        have q4 := hfa.2.2.2.1
        have e : vx_reckon f (vb_toS (vr_S L a)) (vb_toS (vr_S L b)) = vx_cut vb_any 32 := by rw [vx_rko (by omega) (by omega), if_neg hN11, if_neg md7]
        refine ⟨_, _, rfl, ?_, O15, (vr_fr_trans (vq_rf_fr F13 (by decide)) (vr_fr_trans (vq_rf_fr F14 (by decide)) F15))⟩
        refine T15.trans (congrArg vt_num ?_)
        rw [e, S14, vb_toS_toR, S13, vb_toS_any]
    · refine jv_Wp.lift (fun _ Kz => jv_Ev.steps jv_i285 1 (pc' := 26) (l' := [(3, .int (32 : Int32)), (0, .ref 196), (1, .int (vl_I a)), (2, .int (vl_I b))]) (st' := [.ref 196]) rfl Kz) ?_
      refine jv_Wp.lift (fun _ Kz => jv_Ev.c jv_i285 (pc' := 29) (S' := [.int (vl_I f.n)]) jv_i258 [.ref 196] rfl rfl rfl rfl (jv_cal rfl (jv_H_at (jv_rwK hW 196 12 24 (by decide))) rfl rfl) rfl (vq_n f hW D) rfl rfl Kz) ?_
      refine jv_Wp.lift (fun _ Kz => jv_Ev.steps jv_i285 1 (pc' := 31) (l' := [(3, .int (32 : Int32)), (0, .ref 196), (1, .int (vl_I a)), (2, .int (vl_I b))]) (st' := [.int (9 : Int32), .int (vl_I f.n)]) rfl Kz) ?_
      refine jv_Wp.cnd jv_i285 (pt := 66) (pe := 34) (p := (¬ (vl_I f.n) = (9 : Int32))) (q := (¬ (vl_I f.n) = (9 : Int32))) rfl jv_bc_ne rfl rfl Iff.rfl (fun h4 => ?_) (fun h4 => ?_)
      · refine jv_Wp.lift (fun _ Kz => jv_Ev.steps jv_i285 1 (pc' := 67) (l' := [(3, .int (32 : Int32)), (0, .ref 196), (1, .int (vl_I a)), (2, .int (vl_I b))]) (st' := [.ref 196]) rfl Kz) ?_
        refine jv_Wp.lift (fun _ Kz => jv_Ev.c jv_i285 (pc' := 70) (S' := [.int (vl_I f.n)]) jv_i258 [.ref 196] rfl rfl rfl rfl (jv_cal rfl (jv_H_at (jv_rwK hW 196 12 24 (by decide))) rfl rfl) rfl (vq_n f hW D) rfl rfl Kz) ?_
        refine jv_Wp.lift (fun _ Kz => jv_Ev.steps jv_i285 1 (pc' := 72) (l' := [(3, .int (32 : Int32)), (0, .ref 196), (1, .int (vl_I a)), (2, .int (vl_I b))]) (st' := [.int (11 : Int32), .int (vl_I f.n)]) rfl Kz) ?_
        refine jv_Wp.cnd jv_i285 (pt := 111) (pe := 75) (p := (¬ (vl_I f.n) = (11 : Int32))) (q := (¬ (vl_I f.n) = (11 : Int32))) rfl jv_bc_ne rfl rfl Iff.rfl (fun _ => ?_) (fun hz => absurd (fun z => hN11 ((vr_sm (v := 11) (by omega) (by decide) rfl).mp z)) hz)
        refine jv_Wp.lift (fun _ Kz => jv_Ev.steps jv_i285 1 (pc' := 112) (l' := [(3, .int (32 : Int32)), (0, .ref 196), (1, .int (vl_I a)), (2, .int (vl_I b))]) (st' := [.ref 196]) rfl Kz) ?_
        refine jv_Wp.lift (fun _ Kz => jv_Ev.c jv_i285 (pc' := 115) (S' := [.int (vl_I f.n)]) jv_i258 [.ref 196] rfl rfl rfl rfl (jv_cal rfl (jv_H_at (jv_rwK hW 196 12 24 (by decide))) rfl rfl) rfl (vq_n f hW D) rfl rfl Kz) ?_
        refine jv_Wp.lift (fun _ Kz => jv_Ev.steps jv_i285 1 (pc' := 117) (l' := [(3, .int (32 : Int32)), (0, .ref 196), (1, .int (vl_I a)), (2, .int (vl_I b))]) (st' := [.int (13 : Int32), .int (vl_I f.n)]) rfl Kz) ?_
        refine jv_Wp.cnd jv_i285 (pt := 170) (pe := 120) (p := (¬ (vl_I f.n) = (13 : Int32))) (q := (¬ (vl_I f.n) = (13 : Int32))) rfl jv_bc_ne rfl rfl Iff.rfl (fun h5 => ?_) (fun h5 => ?_)
        · refine jv_Wp.lift (fun _ Kz => jv_Ev.steps jv_i285 1 (pc' := 171) (l' := [(3, .int (32 : Int32)), (0, .ref 196), (1, .int (vl_I a)), (2, .int (vl_I b))]) (st' := [.ref 196]) rfl Kz) ?_
          refine jv_Wp.lift (fun _ Kz => jv_Ev.c jv_i285 (pc' := 174) (S' := [.int (vl_I f.n)]) jv_i258 [.ref 196] rfl rfl rfl rfl (jv_cal rfl (jv_H_at (jv_rwK hW 196 12 24 (by decide))) rfl rfl) rfl (vq_n f hW D) rfl rfl Kz) ?_
          refine jv_Wp.lift (fun _ Kz => jv_Ev.steps jv_i285 1 (pc' := 176) (l' := [(3, .int (32 : Int32)), (0, .ref 196), (1, .int (vl_I a)), (2, .int (vl_I b))]) (st' := [.int (8 : Int32), .int (vl_I f.n)]) rfl Kz) ?_
          refine jv_Wp.cnd jv_i285 (pt := 196) (pe := 179) (p := (¬ (vl_I f.n) = (8 : Int32))) (q := (¬ (vl_I f.n) = (8 : Int32))) rfl jv_bc_ne rfl rfl Iff.rfl (fun h6 => ?_) (fun h6 => ?_)
          · refine jv_Wp.lift (fun _ Kz => jv_Ev.steps jv_i285 1 (pc' := 197) (l' := [(3, .int (32 : Int32)), (0, .ref 196), (1, .int (vl_I a)), (2, .int (vl_I b))]) (st' := [.ref 196]) rfl Kz) ?_
            refine jv_Wp.lift (fun _ Kz => jv_Ev.m jv_i285 (pc' := 200) (st' := [.ref 208]) (G' := (jv_H K I L R)) rfl rfl (jv_m_getR (jv_rwK hW 196 12 24 (by decide)) rfl rfl (jv_rwR hW 196 16 208 (by decide))) Kz) ?_
            refine jv_Wp.lift (fun _ Kz => jv_Ev.steps jv_i285 1 (pc' := 201) (l' := [(3, .int (32 : Int32)), (0, .ref 196), (1, .int (vl_I a)), (2, .int (vl_I b))]) (st' := [.ref 196, .ref 208]) rfl Kz) ?_
            refine jv_Wp.lift (fun _ Kz => jv_Ev.c jv_i285 (pc' := 204) (S' := [.int (vl_I (vx_opn f.n)), .ref 208]) jv_i284 [.ref 196] rfl rfl rfl rfl (jv_cal rfl (jv_H_at (jv_rwK hW 196 12 24 (by decide))) rfl rfl) rfl (vq_opof f hW D) rfl rfl Kz) ?_
            refine jv_Wp.lift (fun _ Kz => jv_Ev.steps jv_i285 4 (pc' := 209) (l' := [(3, .int (32 : Int32)), (0, .ref 196), (1, .int (vl_I a)), (2, .int (vl_I b))]) (st' := [.int (vl_I b), .int (vl_I a), .int (7 : Int32), .int (32 : Int32), .int (vl_I (vx_opn f.n)), .ref 208]) rfl Kz) ?_
            have mn3 : ¬ f.n = 3 := (fun z => h2 ((vr_sm (v := 3) (by omega) (by decide) rfl).mpr z))
            have mn9 : ¬ f.n = 9 := (fun z => h4 ((vr_sm (v := 9) (by omega) (by decide) rfl).mpr z))
            have mn13 : ¬ f.n = 13 := (fun z => h5 ((vr_sm (v := 13) (by omega) (by decide) rfl).mpr z))
            have mn8 : ¬ f.n = 8 := (fun z => h6 ((vr_sm (v := 8) (by omega) (by decide) rfl).mpr z))
            have md7 : ¬ f.kind = 7 := (fun z => h1 ((vr_sm (v := 7) (by omega) (by decide) rfl).mpr z))
            obtain ⟨I16, L16, H16, S16, F16⟩ := vq_rn (I := I) (L := L) (R := R) (n := n) (sl := sl) f.n false (d := 7) (a := a) (b := b) (by have := hfa.1; omega) (by omega) hW (by omega) (by omega) (by decide) (by decide) (by omega) (by omega) hf (hx hN11) (hy (by omega) (by omega))
            have Z16 := F16.1
            have D16 := vr_dec_rf F16 D
            refine jv_Wp.lift (fun _ Kz => jv_Ev.c jv_i285 (pc' := 212) (S' := []) (G1 := (jv_H K I16 L16 R)) jv_i249 [.ref 208, .int (vl_I (vx_opn f.n)), .int (32 : Int32), .int (7 : Int32), .int (vl_I a), .int (vl_I b)] rfl rfl rfl rfl (jv_cal rfl (jv_H_at (jv_rwK hW 208 11 7 (by decide))) rfl rfl) rfl H16 rfl rfl Kz) ?_
            refine jv_Wp.lift (fun _ Kz => jv_Ev.steps jv_i285 3 (pc' := 217) (l' := [(3, .int (32 : Int32)), (0, .ref 196), (1, .int (vl_I a)), (2, .int (vl_I b))]) (st' := [.ref 196, .int (1024 : Int32), .ref 196]) rfl Kz) ?_
            refine jv_Wp.lift (fun _ Kz => jv_Ev.m jv_i285 (pc' := 220) (st' := [.int (vl_I f.d), .int (1024 : Int32), .ref 196]) (G' := (jv_H K I16 L16 R)) rfl rfl (jv_m_getI (jv_rwK hW 196 12 24 (by decide)) rfl rfl D16.2.1) Kz) ?_
            refine jv_Wp.lift (fun _ Kz => jv_Ev.steps jv_i285 1 (pc' := 222) (l' := [(3, .int (32 : Int32)), (0, .ref 196), (1, .int (vl_I a)), (2, .int (vl_I b))]) (st' := [.int (7 : Int32), .int (vl_I f.d), .int (1024 : Int32), .ref 196]) rfl Kz) ?_
            obtain ⟨I17, L17, H17, T17, O17, F17⟩ := vq_setNumber (I := I16) (L := L16) (R := R) (n := n) (sl := sl) 1024 f.d 7 hW Z16 (by omega) (by decide) (by decide)
            refine jv_Wp.lift (fun _ Kz => jv_Ev.c jv_i285 (pc' := 225) (S' := []) (G1 := (jv_H K I17 L17 R)) jv_i273 [.ref 196, .int (1024 : Int32), .int (vl_I f.d), .int (7 : Int32)] rfl rfl rfl rfl (jv_cal rfl (jv_H_at (jv_rwK hW 196 12 24 (by decide))) rfl rfl) rfl H17 rfl rfl Kz) ?_
            refine jv_Wp.of (jv_Ev.ret jv_i285 rfl rfl) ?_
            rw [hQ]
            have mn3 : ¬ f.n = 3 := (fun z => h2 ((vr_sm (v := 3) (by omega) (by decide) rfl).mpr z))
            have mn9 : ¬ f.n = 9 := (fun z => h4 ((vr_sm (v := 9) (by omega) (by decide) rfl).mpr z))
            have mn13 : ¬ f.n = 13 := (fun z => h5 ((vr_sm (v := 13) (by omega) (by decide) rfl).mpr z))
            have mn8 : ¬ f.n = 8 := (fun z => h6 ((vr_sm (v := 8) (by omega) (by decide) rfl).mpr z))
            have md7 : ¬ f.kind = 7 := (fun z => h1 ((vr_sm (v := 7) (by omega) (by decide) rfl).mpr z))
            have q3 := hfa.2.2.1
            have q4 := hfa.2.2.2.1
            have e : vx_reckon f (vb_toS (vr_S L a)) (vb_toS (vr_S L b)) = vx_rn f.n false (vb_toS (vr_S L a)) (vb_toS (vr_S L b)) := by rw [vx_rkr (by omega) (by omega) (by omega), (show decide (f.kind = 7) = false from decide_eq_false md7)]
            refine ⟨_, _, rfl, ?_, O17, (vr_fr_trans (vq_rf_fr F16 (by decide)) F17)⟩
            refine T17.trans (congrArg vt_num ?_)
            rw [e, S16, vb_toS_toR]
          · refine jv_Wp.lift (fun _ Kz => jv_Ev.steps jv_i285 1 (pc' := 180) (l' := [(3, .int (32 : Int32)), (0, .ref 196), (1, .int (vl_I a)), (2, .int (vl_I b))]) (st' := [.ref 196]) rfl Kz) ?_
            refine jv_Wp.lift (fun _ Kz => jv_Ev.m jv_i285 (pc' := 183) (st' := [.ref 208]) (G' := (jv_H K I L R)) rfl rfl (jv_m_getR (jv_rwK hW 196 12 24 (by decide)) rfl rfl (jv_rwR hW 196 16 208 (by decide))) Kz) ?_
            refine jv_Wp.lift (fun _ Kz => jv_Ev.steps jv_i285 5 (pc' := 190) (l' := [(3, .int (32 : Int32)), (0, .ref 196), (1, .int (vl_I a)), (2, .int (vl_I b))]) (st' := [.int (vl_I a), .int (6 : Int32), .int (7 : Int32), .int (32 : Int32), .int (1 : Int32), .ref 208]) rfl Kz) ?_
            have mn3 : ¬ f.n = 3 := (fun z => h2 ((vr_sm (v := 3) (by omega) (by decide) rfl).mpr z))
            have mn9 : ¬ f.n = 9 := (fun z => h4 ((vr_sm (v := 9) (by omega) (by decide) rfl).mpr z))
            have mn13 : ¬ f.n = 13 := (fun z => h5 ((vr_sm (v := 13) (by omega) (by decide) rfl).mpr z))
            have mn8 : f.n = 8 := (vr_sm (v := 8) (by omega) (by decide) rfl).mp (Classical.not_not.mp h6)
            have md7 : ¬ f.kind = 7 := (fun z => h1 ((vr_sm (v := 7) (by omega) (by decide) rfl).mpr z))
            obtain ⟨I18, L18, H18, S18, F18⟩ := vq_rn (I := I) (L := L) (R := R) (n := n) (sl := sl) 1 false (d := 7) (a := 6) (b := a) (by decide) (by decide) hW (by decide) (by omega) (by decide) (by decide) (by decide) (by omega) hf (by rw [hZ6]; exact vb_just_tight _) (hx hN11)
            have Z18 := F18.1
            have D18 := vr_dec_rf F18 D
            refine jv_Wp.lift (fun _ Kz => jv_Ev.c jv_i285 (pc' := 193) (S' := []) (G1 := (jv_H K I18 L18 R)) jv_i249 [.ref 208, .int (1 : Int32), .int (32 : Int32), .int (7 : Int32), .int (6 : Int32), .int (vl_I a)] rfl rfl rfl rfl (jv_cal rfl (jv_H_at (jv_rwK hW 208 11 7 (by decide))) rfl rfl) rfl H18 rfl rfl Kz) ?_
            refine jv_Wp.lift (fun _ Kz => jv_Ev.steps jv_i285 4 (pc' := 217) (l' := [(3, .int (32 : Int32)), (0, .ref 196), (1, .int (vl_I a)), (2, .int (vl_I b))]) (st' := [.ref 196, .int (1024 : Int32), .ref 196]) rfl Kz) ?_
            refine jv_Wp.lift (fun _ Kz => jv_Ev.m jv_i285 (pc' := 220) (st' := [.int (vl_I f.d), .int (1024 : Int32), .ref 196]) (G' := (jv_H K I18 L18 R)) rfl rfl (jv_m_getI (jv_rwK hW 196 12 24 (by decide)) rfl rfl D18.2.1) Kz) ?_
            refine jv_Wp.lift (fun _ Kz => jv_Ev.steps jv_i285 1 (pc' := 222) (l' := [(3, .int (32 : Int32)), (0, .ref 196), (1, .int (vl_I a)), (2, .int (vl_I b))]) (st' := [.int (7 : Int32), .int (vl_I f.d), .int (1024 : Int32), .ref 196]) rfl Kz) ?_
            obtain ⟨I19, L19, H19, T19, O19, F19⟩ := vq_setNumber (I := I18) (L := L18) (R := R) (n := n) (sl := sl) 1024 f.d 7 hW Z18 (by omega) (by decide) (by decide)
            refine jv_Wp.lift (fun _ Kz => jv_Ev.c jv_i285 (pc' := 225) (S' := []) (G1 := (jv_H K I19 L19 R)) jv_i273 [.ref 196, .int (1024 : Int32), .int (vl_I f.d), .int (7 : Int32)] rfl rfl rfl rfl (jv_cal rfl (jv_H_at (jv_rwK hW 196 12 24 (by decide))) rfl rfl) rfl H19 rfl rfl Kz) ?_
            refine jv_Wp.of (jv_Ev.ret jv_i285 rfl rfl) ?_
            rw [hQ]
            have mn3 : ¬ f.n = 3 := (fun z => h2 ((vr_sm (v := 3) (by omega) (by decide) rfl).mpr z))
            have mn9 : ¬ f.n = 9 := (fun z => h4 ((vr_sm (v := 9) (by omega) (by decide) rfl).mpr z))
            have mn13 : ¬ f.n = 13 := (fun z => h5 ((vr_sm (v := 13) (by omega) (by decide) rfl).mpr z))
            have mn8 : f.n = 8 := (vr_sm (v := 8) (by omega) (by decide) rfl).mp (Classical.not_not.mp h6)
            have md7 : ¬ f.kind = 7 := (fun z => h1 ((vr_sm (v := 7) (by omega) (by decide) rfl).mpr z))
            have q3 := hfa.2.2.1
            have q4 := hfa.2.2.2.1
            have e : vx_reckon f (vb_toS (vr_S L a)) (vb_toS (vr_S L b)) = vx_rn 1 false (vb_toS (vr_S L 6)) (vb_toS (vr_S L a)) := by rw [vx_rk8 (by omega) (by omega) mn8, (show decide (f.kind = 7) = false from decide_eq_false md7), hZ6]
            refine ⟨_, _, rfl, ?_, O19, (vr_fr_trans (vq_rf_fr F18 (by decide)) F19)⟩
            refine T19.trans (congrArg vt_num ?_)
            rw [e, S18, vb_toS_toR]
        · refine jv_Wp.lift (fun _ Kz => jv_Ev.steps jv_i285 1 (pc' := 121) (l' := [(3, .int (32 : Int32)), (0, .ref 196), (1, .int (vl_I a)), (2, .int (vl_I b))]) (st' := [.ref 196]) rfl Kz) ?_
          refine jv_Wp.lift (fun _ Kz => jv_Ev.c jv_i285 (pc' := 124) (S' := [.int (vl_I f.kind)]) jv_i257 [.ref 196] rfl rfl rfl rfl (jv_cal rfl (jv_H_at (jv_rwK hW 196 12 24 (by decide))) rfl rfl) rfl (vq_kind f hW D) rfl rfl Kz) ?_
          refine jv_Wp.lift (fun _ Kz => jv_Ev.steps jv_i285 1 (pc' := 126) (l' := [(3, .int (32 : Int32)), (0, .ref 196), (1, .int (vl_I a)), (2, .int (vl_I b))]) (st' := [.int (7 : Int32), .int (vl_I f.kind)]) rfl Kz) ?_
          refine jv_Wp.cnd jv_i285 (pt := 136) (pe := 129) (p := ((vl_I f.kind) = (7 : Int32))) (q := ((vl_I f.kind) = (7 : Int32))) rfl jv_bc_eq rfl rfl Iff.rfl (fun hz => absurd hz h1) (fun _ => ?_)
          refine jv_Wp.lift (fun _ Kz => jv_Ev.steps jv_i285 1 (pc' := 130) (l' := [(3, .int (32 : Int32)), (0, .ref 196), (1, .int (vl_I a)), (2, .int (vl_I b))]) (st' := [.ref 196]) rfl Kz) ?_
          refine jv_Wp.lift (fun _ Kz => jv_Ev.c jv_i285 (pc' := 133) (S' := [.int (vr_b f.bit3)]) jv_i259 [.ref 196] rfl rfl rfl rfl (jv_cal rfl (jv_H_at (jv_rwK hW 196 12 24 (by decide))) rfl rfl) rfl (vq_bit3 f hW D) rfl rfl Kz) ?_
          refine jv_Wp.cnd jv_i285 (pt := 153) (pe := 136) (p := ((vr_b f.bit3) = 0)) (q := ((vr_b f.bit3) = 0)) rfl jv_bi_eq rfl rfl Iff.rfl (fun h7 => ?_) (fun h7 => ?_)
          · refine jv_Wp.lift (fun _ Kz => jv_Ev.steps jv_i285 1 (pc' := 154) (l' := [(3, .int (32 : Int32)), (0, .ref 196), (1, .int (vl_I a)), (2, .int (vl_I b))]) (st' := [.ref 196]) rfl Kz) ?_
            refine jv_Wp.lift (fun _ Kz => jv_Ev.m jv_i285 (pc' := 157) (st' := [.ref 208]) (G' := (jv_H K I L R)) rfl rfl (jv_m_getR (jv_rwK hW 196 12 24 (by decide)) rfl rfl (jv_rwR hW 196 16 208 (by decide))) Kz) ?_
            refine jv_Wp.lift (fun _ Kz => jv_Ev.steps jv_i285 3 (pc' := 161) (l' := [(3, .int (32 : Int32)), (0, .ref 196), (1, .int (vl_I a)), (2, .int (vl_I b))]) (st' := [.ref 196, .int (7 : Int32), .int (vl_I a), .ref 208]) rfl Kz) ?_
            refine jv_Wp.lift (fun _ Kz => jv_Ev.m jv_i285 (pc' := 164) (st' := [.int (Int32.ofInt f.i), .int (7 : Int32), .int (vl_I a), .ref 208]) (G' := (jv_H K I L R)) rfl rfl (jv_m_getI (jv_rwK hW 196 12 24 (by decide)) rfl rfl (vr_dJ D)) Kz) ?_
            have mn3 : ¬ f.n = 3 := (fun z => h2 ((vr_sm (v := 3) (by omega) (by decide) rfl).mpr z))
            have mn9 : ¬ f.n = 9 := (fun z => h4 ((vr_sm (v := 9) (by omega) (by decide) rfl).mpr z))
            have mn13 : f.n = 13 := (vr_sm (v := 13) (by omega) (by decide) rfl).mp (Classical.not_not.mp h5)
            have md7 : ¬ f.kind = 7 := (fun z => h1 ((vr_sm (v := 7) (by omega) (by decide) rfl).mpr z))
            have mb : f.bit3 = false := vr_b_f h7
            have mi := hfa.2.2.2.2 mn13
            have ei : Int32.ofInt f.i = vl_I f.i.toNat := Int32.toInt_inj.mp ((vr_dQ D).trans ((vl_I_int (by omega)).trans (by omega)).symm)
            obtain ⟨I20, L20, H20, S20, F20⟩ := vq_cut (I := I) (L := L) (R := R) (n := n) (sl := sl) (a := a) (d := 7) (m := f.i.toNat) (by omega) hW (by omega) (by decide) (by decide) (by omega) hf (hx hN11)
            rw [← ei] at H20
            have Z20 := F20.1
            have D20 := vr_dec_rf F20 D
            refine jv_Wp.lift (fun _ Kz => jv_Ev.c jv_i285 (pc' := 167) (S' := []) (G1 := (jv_H K I20 L20 R)) jv_i219 [.ref 208, .int (vl_I a), .int (7 : Int32), .int (Int32.ofInt f.i)] rfl rfl rfl rfl (jv_cal rfl (jv_H_at (jv_rwK hW 208 11 7 (by decide))) rfl rfl) rfl H20 rfl rfl Kz) ?_
            refine jv_Wp.lift (fun _ Kz => jv_Ev.steps jv_i285 4 (pc' := 217) (l' := [(3, .int (32 : Int32)), (0, .ref 196), (1, .int (vl_I a)), (2, .int (vl_I b))]) (st' := [.ref 196, .int (1024 : Int32), .ref 196]) rfl Kz) ?_
            refine jv_Wp.lift (fun _ Kz => jv_Ev.m jv_i285 (pc' := 220) (st' := [.int (vl_I f.d), .int (1024 : Int32), .ref 196]) (G' := (jv_H K I20 L20 R)) rfl rfl (jv_m_getI (jv_rwK hW 196 12 24 (by decide)) rfl rfl D20.2.1) Kz) ?_
            refine jv_Wp.lift (fun _ Kz => jv_Ev.steps jv_i285 1 (pc' := 222) (l' := [(3, .int (32 : Int32)), (0, .ref 196), (1, .int (vl_I a)), (2, .int (vl_I b))]) (st' := [.int (7 : Int32), .int (vl_I f.d), .int (1024 : Int32), .ref 196]) rfl Kz) ?_
            obtain ⟨I21, L21, H21, T21, O21, F21⟩ := vq_setNumber (I := I20) (L := L20) (R := R) (n := n) (sl := sl) 1024 f.d 7 hW Z20 (by omega) (by decide) (by decide)
            refine jv_Wp.lift (fun _ Kz => jv_Ev.c jv_i285 (pc' := 225) (S' := []) (G1 := (jv_H K I21 L21 R)) jv_i273 [.ref 196, .int (1024 : Int32), .int (vl_I f.d), .int (7 : Int32)] rfl rfl rfl rfl (jv_cal rfl (jv_H_at (jv_rwK hW 196 12 24 (by decide))) rfl rfl) rfl H21 rfl rfl Kz) ?_
            refine jv_Wp.of (jv_Ev.ret jv_i285 rfl rfl) ?_
            rw [hQ]
            have mn3 : ¬ f.n = 3 := (fun z => h2 ((vr_sm (v := 3) (by omega) (by decide) rfl).mpr z))
            have mn9 : ¬ f.n = 9 := (fun z => h4 ((vr_sm (v := 9) (by omega) (by decide) rfl).mpr z))
            have mn13 : f.n = 13 := (vr_sm (v := 13) (by omega) (by decide) rfl).mp (Classical.not_not.mp h5)
            have md7 : ¬ f.kind = 7 := (fun z => h1 ((vr_sm (v := 7) (by omega) (by decide) rfl).mpr z))
            have mb : f.bit3 = false := vr_b_f h7
            have q3 := hfa.2.2.1
            have q4 := hfa.2.2.2.1
            have e : vx_reckon f (vb_toS (vr_S L a)) (vb_toS (vr_S L b)) = vx_cut (vb_toS (vr_S L a)) f.i.toNat := by rw [vx_rk13 mn13, if_neg (fun z => z.elim md7 (fun z => by rw [mb] at z; exact absurd z (by decide)))]
            refine ⟨_, _, rfl, ?_, O21, (vr_fr_trans (vq_rf_fr F20 (by decide)) F21)⟩
            refine T21.trans (congrArg vt_num ?_)
            rw [e, S20, vb_toS_toR]
          · refine jv_Wp.lift (fun _ Kz => jv_Ev.steps jv_i285 1 (pc' := 137) (l' := [(3, .int (32 : Int32)), (0, .ref 196), (1, .int (vl_I a)), (2, .int (vl_I b))]) (st' := [.ref 196]) rfl Kz) ?_
            refine jv_Wp.lift (fun _ Kz => jv_Ev.m jv_i285 (pc' := 140) (st' := [.ref 208]) (G' := (jv_H K I L R)) rfl rfl (jv_m_getR (jv_rwK hW 196 12 24 (by decide)) rfl rfl (jv_rwR hW 196 16 208 (by decide))) Kz) ?_
            refine jv_Wp.lift (fun _ Kz => jv_Ev.steps jv_i285 3 (pc' := 144) (l' := [(3, .int (32 : Int32)), (0, .ref 196), (1, .int (vl_I a)), (2, .int (vl_I b))]) (st' := [.ref 196, .int (7 : Int32), .int (vl_I a), .ref 208]) rfl Kz) ?_
            refine jv_Wp.lift (fun _ Kz => jv_Ev.m jv_i285 (pc' := 147) (st' := [.int (Int32.ofInt f.i), .int (7 : Int32), .int (vl_I a), .ref 208]) (G' := (jv_H K I L R)) rfl rfl (jv_m_getI (jv_rwK hW 196 12 24 (by decide)) rfl rfl (vr_dJ D)) Kz) ?_
            have mn3 : ¬ f.n = 3 := (fun z => h2 ((vr_sm (v := 3) (by omega) (by decide) rfl).mpr z))
            have mn9 : ¬ f.n = 9 := (fun z => h4 ((vr_sm (v := 9) (by omega) (by decide) rfl).mpr z))
            have mn13 : f.n = 13 := (vr_sm (v := 13) (by omega) (by decide) rfl).mp (Classical.not_not.mp h5)
            have md7 : ¬ f.kind = 7 := (fun z => h1 ((vr_sm (v := 7) (by omega) (by decide) rfl).mpr z))
            have mb : f.bit3 = true := vr_b_t h7
            have mi := hfa.2.2.2.2 mn13
            have ei : Int32.ofInt f.i = vl_I f.i.toNat := Int32.toInt_inj.mp ((vr_dQ D).trans ((vl_I_int (by omega)).trans (by omega)).symm)
            obtain ⟨I22, L22, H22, S22, F22⟩ := vq_swap (I := I) (L := L) (R := R) (n := n) (sl := sl) (a := a) (d := 7) (m := f.i.toNat) (by omega) hW (by omega) (by decide) (by decide) (by omega) hf (hx hN11)
            rw [← ei] at H22
            have Z22 := F22.1
            have D22 := vr_dec_rf F22 D
            refine jv_Wp.lift (fun _ Kz => jv_Ev.c jv_i285 (pc' := 150) (S' := []) (G1 := (jv_H K I22 L22 R)) jv_i222 [.ref 208, .int (vl_I a), .int (7 : Int32), .int (Int32.ofInt f.i)] rfl rfl rfl rfl (jv_cal rfl (jv_H_at (jv_rwK hW 208 11 7 (by decide))) rfl rfl) rfl H22 rfl rfl Kz) ?_
            refine jv_Wp.lift (fun _ Kz => jv_Ev.steps jv_i285 4 (pc' := 217) (l' := [(3, .int (32 : Int32)), (0, .ref 196), (1, .int (vl_I a)), (2, .int (vl_I b))]) (st' := [.ref 196, .int (1024 : Int32), .ref 196]) rfl Kz) ?_
            refine jv_Wp.lift (fun _ Kz => jv_Ev.m jv_i285 (pc' := 220) (st' := [.int (vl_I f.d), .int (1024 : Int32), .ref 196]) (G' := (jv_H K I22 L22 R)) rfl rfl (jv_m_getI (jv_rwK hW 196 12 24 (by decide)) rfl rfl D22.2.1) Kz) ?_
            refine jv_Wp.lift (fun _ Kz => jv_Ev.steps jv_i285 1 (pc' := 222) (l' := [(3, .int (32 : Int32)), (0, .ref 196), (1, .int (vl_I a)), (2, .int (vl_I b))]) (st' := [.int (7 : Int32), .int (vl_I f.d), .int (1024 : Int32), .ref 196]) rfl Kz) ?_
            obtain ⟨I23, L23, H23, T23, O23, F23⟩ := vq_setNumber (I := I22) (L := L22) (R := R) (n := n) (sl := sl) 1024 f.d 7 hW Z22 (by omega) (by decide) (by decide)
            refine jv_Wp.lift (fun _ Kz => jv_Ev.c jv_i285 (pc' := 225) (S' := []) (G1 := (jv_H K I23 L23 R)) jv_i273 [.ref 196, .int (1024 : Int32), .int (vl_I f.d), .int (7 : Int32)] rfl rfl rfl rfl (jv_cal rfl (jv_H_at (jv_rwK hW 196 12 24 (by decide))) rfl rfl) rfl H23 rfl rfl Kz) ?_
            refine jv_Wp.of (jv_Ev.ret jv_i285 rfl rfl) ?_
            rw [hQ]
            have mn3 : ¬ f.n = 3 := (fun z => h2 ((vr_sm (v := 3) (by omega) (by decide) rfl).mpr z))
            have mn9 : ¬ f.n = 9 := (fun z => h4 ((vr_sm (v := 9) (by omega) (by decide) rfl).mpr z))
            have mn13 : f.n = 13 := (vr_sm (v := 13) (by omega) (by decide) rfl).mp (Classical.not_not.mp h5)
            have md7 : ¬ f.kind = 7 := (fun z => h1 ((vr_sm (v := 7) (by omega) (by decide) rfl).mpr z))
            have mb : f.bit3 = true := vr_b_t h7
            have q3 := hfa.2.2.1
            have q4 := hfa.2.2.2.1
            have e : vx_reckon f (vb_toS (vr_S L a)) (vb_toS (vr_S L b)) = vx_swap (vb_toS (vr_S L a)) f.i.toNat := by rw [vx_rk13 mn13, if_pos (Or.inr mb)]
            refine ⟨_, _, rfl, ?_, O23, (vr_fr_trans (vq_rf_fr F22 (by decide)) F23)⟩
            refine T23.trans (congrArg vt_num ?_)
            rw [e, S22, vb_toS_toR]
      · refine jv_Wp.lift (fun _ Kz => jv_Ev.steps jv_i285 1 (pc' := 35) (l' := [(3, .int (32 : Int32)), (0, .ref 196), (1, .int (vl_I a)), (2, .int (vl_I b))]) (st' := [.ref 196]) rfl Kz) ?_
        refine jv_Wp.lift (fun _ Kz => jv_Ev.m jv_i285 (pc' := 38) (st' := [.int (Int32.ofInt f.o)]) (G' := (jv_H K I L R)) rfl rfl (jv_m_getI (jv_rwK hW 196 12 24 (by decide)) rfl rfl (vr_dI D)) Kz) ?_
        refine jv_Wp.lift (fun _ Kz => jv_Ev.steps jv_i285 1 (pc' := 39) (l' := [(3, .int (32 : Int32)), (0, .ref 196), (1, .int (vl_I a)), (2, .int (vl_I b))]) (st' := [.int (1 : Int32), .int (Int32.ofInt f.o)]) rfl Kz) ?_
        refine jv_Wp.cnd jv_i285 (pt := 66) (pe := 42) (p := (¬ (Int32.ofInt f.o) = (1 : Int32))) (q := (¬ (Int32.ofInt f.o) = (1 : Int32))) rfl jv_bc_ne rfl rfl Iff.rfl (fun h8 => ?_) (fun h8 => ?_)
        · refine jv_Wp.lift (fun _ Kz => jv_Ev.steps jv_i285 1 (pc' := 67) (l' := [(3, .int (32 : Int32)), (0, .ref 196), (1, .int (vl_I a)), (2, .int (vl_I b))]) (st' := [.ref 196]) rfl Kz) ?_
          refine jv_Wp.lift (fun _ Kz => jv_Ev.c jv_i285 (pc' := 70) (S' := [.int (vl_I f.n)]) jv_i258 [.ref 196] rfl rfl rfl rfl (jv_cal rfl (jv_H_at (jv_rwK hW 196 12 24 (by decide))) rfl rfl) rfl (vq_n f hW D) rfl rfl Kz) ?_
          refine jv_Wp.lift (fun _ Kz => jv_Ev.steps jv_i285 1 (pc' := 72) (l' := [(3, .int (32 : Int32)), (0, .ref 196), (1, .int (vl_I a)), (2, .int (vl_I b))]) (st' := [.int (11 : Int32), .int (vl_I f.n)]) rfl Kz) ?_
          refine jv_Wp.cnd jv_i285 (pt := 111) (pe := 75) (p := (¬ (vl_I f.n) = (11 : Int32))) (q := (¬ (vl_I f.n) = (11 : Int32))) rfl jv_bc_ne rfl rfl Iff.rfl (fun _ => ?_) (fun hz => absurd (fun z => hN11 ((vr_sm (v := 11) (by omega) (by decide) rfl).mp z)) hz)
          refine jv_Wp.lift (fun _ Kz => jv_Ev.steps jv_i285 1 (pc' := 112) (l' := [(3, .int (32 : Int32)), (0, .ref 196), (1, .int (vl_I a)), (2, .int (vl_I b))]) (st' := [.ref 196]) rfl Kz) ?_
          refine jv_Wp.lift (fun _ Kz => jv_Ev.c jv_i285 (pc' := 115) (S' := [.int (vl_I f.n)]) jv_i258 [.ref 196] rfl rfl rfl rfl (jv_cal rfl (jv_H_at (jv_rwK hW 196 12 24 (by decide))) rfl rfl) rfl (vq_n f hW D) rfl rfl Kz) ?_
          refine jv_Wp.lift (fun _ Kz => jv_Ev.steps jv_i285 1 (pc' := 117) (l' := [(3, .int (32 : Int32)), (0, .ref 196), (1, .int (vl_I a)), (2, .int (vl_I b))]) (st' := [.int (13 : Int32), .int (vl_I f.n)]) rfl Kz) ?_
          refine jv_Wp.cnd jv_i285 (pt := 170) (pe := 120) (p := (¬ (vl_I f.n) = (13 : Int32))) (q := (¬ (vl_I f.n) = (13 : Int32))) rfl jv_bc_ne rfl rfl Iff.rfl (fun _ => ?_) (fun hz => absurd (fun z => absurd (z.symm.trans (Classical.not_not.mp h4)) (by decide)) hz)
          refine jv_Wp.lift (fun _ Kz => jv_Ev.steps jv_i285 1 (pc' := 171) (l' := [(3, .int (32 : Int32)), (0, .ref 196), (1, .int (vl_I a)), (2, .int (vl_I b))]) (st' := [.ref 196]) rfl Kz) ?_
          refine jv_Wp.lift (fun _ Kz => jv_Ev.c jv_i285 (pc' := 174) (S' := [.int (vl_I f.n)]) jv_i258 [.ref 196] rfl rfl rfl rfl (jv_cal rfl (jv_H_at (jv_rwK hW 196 12 24 (by decide))) rfl rfl) rfl (vq_n f hW D) rfl rfl Kz) ?_
          refine jv_Wp.lift (fun _ Kz => jv_Ev.steps jv_i285 1 (pc' := 176) (l' := [(3, .int (32 : Int32)), (0, .ref 196), (1, .int (vl_I a)), (2, .int (vl_I b))]) (st' := [.int (8 : Int32), .int (vl_I f.n)]) rfl Kz) ?_
          refine jv_Wp.cnd jv_i285 (pt := 196) (pe := 179) (p := (¬ (vl_I f.n) = (8 : Int32))) (q := (¬ (vl_I f.n) = (8 : Int32))) rfl jv_bc_ne rfl rfl Iff.rfl (fun _ => ?_) (fun hz => absurd (fun z => absurd (z.symm.trans (Classical.not_not.mp h4)) (by decide)) hz)
          refine jv_Wp.lift (fun _ Kz => jv_Ev.steps jv_i285 1 (pc' := 197) (l' := [(3, .int (32 : Int32)), (0, .ref 196), (1, .int (vl_I a)), (2, .int (vl_I b))]) (st' := [.ref 196]) rfl Kz) ?_
          refine jv_Wp.lift (fun _ Kz => jv_Ev.m jv_i285 (pc' := 200) (st' := [.ref 208]) (G' := (jv_H K I L R)) rfl rfl (jv_m_getR (jv_rwK hW 196 12 24 (by decide)) rfl rfl (jv_rwR hW 196 16 208 (by decide))) Kz) ?_
          refine jv_Wp.lift (fun _ Kz => jv_Ev.steps jv_i285 1 (pc' := 201) (l' := [(3, .int (32 : Int32)), (0, .ref 196), (1, .int (vl_I a)), (2, .int (vl_I b))]) (st' := [.ref 196, .ref 208]) rfl Kz) ?_
          refine jv_Wp.lift (fun _ Kz => jv_Ev.c jv_i285 (pc' := 204) (S' := [.int (vl_I (vx_opn f.n)), .ref 208]) jv_i284 [.ref 196] rfl rfl rfl rfl (jv_cal rfl (jv_H_at (jv_rwK hW 196 12 24 (by decide))) rfl rfl) rfl (vq_opof f hW D) rfl rfl Kz) ?_
          refine jv_Wp.lift (fun _ Kz => jv_Ev.steps jv_i285 4 (pc' := 209) (l' := [(3, .int (32 : Int32)), (0, .ref 196), (1, .int (vl_I a)), (2, .int (vl_I b))]) (st' := [.int (vl_I b), .int (vl_I a), .int (7 : Int32), .int (32 : Int32), .int (vl_I (vx_opn f.n)), .ref 208]) rfl Kz) ?_
          have mn3 : ¬ f.n = 3 := (fun z => h2 ((vr_sm (v := 3) (by omega) (by decide) rfl).mpr z))
          have mn9 : f.n = 9 := (vr_sm (v := 9) (by omega) (by decide) rfl).mp (Classical.not_not.mp h4)
          have md7 : ¬ f.kind = 7 := (fun z => h1 ((vr_sm (v := 7) (by omega) (by decide) rfl).mpr z))
          have mO1 : ¬ f.o = 1 := fun z => h8 (Int32.toInt_inj.mp ((vr_dO D).trans (z.trans rfl)))
          obtain ⟨I24, L24, H24, S24, F24⟩ := vq_rn (I := I) (L := L) (R := R) (n := n) (sl := sl) f.n false (d := 7) (a := a) (b := b) (by have := hfa.1; omega) (by omega) hW (by omega) (by omega) (by decide) (by decide) (by omega) (by omega) hf (hx hN11) (hy (by omega) (by omega))
          have Z24 := F24.1
          have D24 := vr_dec_rf F24 D
          refine jv_Wp.lift (fun _ Kz => jv_Ev.c jv_i285 (pc' := 212) (S' := []) (G1 := (jv_H K I24 L24 R)) jv_i249 [.ref 208, .int (vl_I (vx_opn f.n)), .int (32 : Int32), .int (7 : Int32), .int (vl_I a), .int (vl_I b)] rfl rfl rfl rfl (jv_cal rfl (jv_H_at (jv_rwK hW 208 11 7 (by decide))) rfl rfl) rfl H24 rfl rfl Kz) ?_
          refine jv_Wp.lift (fun _ Kz => jv_Ev.steps jv_i285 3 (pc' := 217) (l' := [(3, .int (32 : Int32)), (0, .ref 196), (1, .int (vl_I a)), (2, .int (vl_I b))]) (st' := [.ref 196, .int (1024 : Int32), .ref 196]) rfl Kz) ?_
          refine jv_Wp.lift (fun _ Kz => jv_Ev.m jv_i285 (pc' := 220) (st' := [.int (vl_I f.d), .int (1024 : Int32), .ref 196]) (G' := (jv_H K I24 L24 R)) rfl rfl (jv_m_getI (jv_rwK hW 196 12 24 (by decide)) rfl rfl D24.2.1) Kz) ?_
          refine jv_Wp.lift (fun _ Kz => jv_Ev.steps jv_i285 1 (pc' := 222) (l' := [(3, .int (32 : Int32)), (0, .ref 196), (1, .int (vl_I a)), (2, .int (vl_I b))]) (st' := [.int (7 : Int32), .int (vl_I f.d), .int (1024 : Int32), .ref 196]) rfl Kz) ?_
          obtain ⟨I25, L25, H25, T25, O25, F25⟩ := vq_setNumber (I := I24) (L := L24) (R := R) (n := n) (sl := sl) 1024 f.d 7 hW Z24 (by omega) (by decide) (by decide)
          refine jv_Wp.lift (fun _ Kz => jv_Ev.c jv_i285 (pc' := 225) (S' := []) (G1 := (jv_H K I25 L25 R)) jv_i273 [.ref 196, .int (1024 : Int32), .int (vl_I f.d), .int (7 : Int32)] rfl rfl rfl rfl (jv_cal rfl (jv_H_at (jv_rwK hW 196 12 24 (by decide))) rfl rfl) rfl H25 rfl rfl Kz) ?_
          refine jv_Wp.of (jv_Ev.ret jv_i285 rfl rfl) ?_
          rw [hQ]
          have mn3 : ¬ f.n = 3 := (fun z => h2 ((vr_sm (v := 3) (by omega) (by decide) rfl).mpr z))
          have mn9 : f.n = 9 := (vr_sm (v := 9) (by omega) (by decide) rfl).mp (Classical.not_not.mp h4)
          have md7 : ¬ f.kind = 7 := (fun z => h1 ((vr_sm (v := 7) (by omega) (by decide) rfl).mpr z))
          have mO1 : ¬ f.o = 1 := fun z => h8 (Int32.toInt_inj.mp ((vr_dO D).trans (z.trans rfl)))
          have q3 := hfa.2.2.1
          have q4 := hfa.2.2.2.1
          have e : vx_reckon f (vb_toS (vr_S L a)) (vb_toS (vr_S L b)) = vx_rn f.n false (vb_toS (vr_S L a)) (vb_toS (vr_S L b)) := by rw [vx_rkr (by omega) (by omega) (by omega), (show decide (f.kind = 7) = false from decide_eq_false md7)]
          refine ⟨_, _, rfl, ?_, O25, (vr_fr_trans (vq_rf_fr F24 (by decide)) F25)⟩
          refine T25.trans (congrArg vt_num ?_)
          rw [e, S24, vb_toS_toR]
        · refine jv_Wp.lift (fun _ Kz => jv_Ev.steps jv_i285 1 (pc' := 43) (l' := [(3, .int (32 : Int32)), (0, .ref 196), (1, .int (vl_I a)), (2, .int (vl_I b))]) (st' := [.ref 196]) rfl Kz) ?_
          refine jv_Wp.lift (fun _ Kz => jv_Ev.m jv_i285 (pc' := 46) (st' := [.ref 208]) (G' := (jv_H K I L R)) rfl rfl (jv_m_getR (jv_rwK hW 196 12 24 (by decide)) rfl rfl (jv_rwR hW 196 16 208 (by decide))) Kz) ?_
          refine jv_Wp.lift (fun _ Kz => jv_Ev.steps jv_i285 1 (pc' := 48) (l' := [(3, .int (32 : Int32)), (0, .ref 196), (1, .int (vl_I a)), (2, .int (vl_I b))]) (st' := [.int (7 : Int32), .ref 208]) rfl Kz) ?_
          obtain ⟨I26, L26, H26, S26, F26⟩ := vq_nothing (I := I) (L := L) (R := R) (n := n) (sl := sl) (d := 7) hW (by decide) hf
          have Z26 := F26.1
          have D26 := vr_dec_rf F26 D
          refine jv_Wp.lift (fun _ Kz => jv_Ev.c jv_i285 (pc' := 51) (S' := []) (G1 := (jv_H K I26 L26 R)) jv_i207 [.ref 208, .int (7 : Int32)] rfl rfl rfl rfl (jv_cal rfl (jv_H_at (jv_rwK hW 208 11 7 (by decide))) rfl rfl) rfl H26 rfl rfl Kz) ?_
          refine jv_Wp.lift (fun _ Kz => jv_Ev.steps jv_i285 1 (pc' := 52) (l' := [(3, .int (32 : Int32)), (0, .ref 196), (1, .int (vl_I a)), (2, .int (vl_I b))]) (st' := [.ref 196]) rfl Kz) ?_
          refine jv_Wp.lift (fun _ Kz => jv_Ev.m jv_i285 (pc' := 55) (st' := [.ref 208]) (G' := (jv_H K I26 L26 R)) rfl rfl (jv_m_getR (jv_rwK hW 196 12 24 (by decide)) rfl rfl (jv_rwR hW 196 16 208 (by decide))) Kz) ?_
          refine jv_Wp.lift (fun _ Kz => jv_Ev.steps jv_i285 3 (pc' := 60) (l' := [(3, .int (32 : Int32)), (0, .ref 196), (1, .int (vl_I a)), (2, .int (vl_I b))]) (st' := [.int (32 : Int32), .int (7 : Int32), .int (7 : Int32), .ref 208]) rfl Kz) ?_
          obtain ⟨I27, L27, H27, S27, F27⟩ := vq_cut (I := I26) (L := L26) (R := R) (n := n) (sl := sl) (a := 7) (d := 7) (m := 32) (by omega) hW (by omega) (by decide) (by decide) (by omega) Z26 (by rw [S26]; first | (rw [vb_toS_any]; exact vb_any_tight) | (rw [vb_toS_toR]; exact (vx_ext_in mO hy.low).1))
          have Z27 := F27.1
          have D27 := vr_dec_rf F27 D26
          refine jv_Wp.lift (fun _ Kz => jv_Ev.c jv_i285 (pc' := 63) (S' := []) (G1 := (jv_H K I27 L27 R)) jv_i219 [.ref 208, .int (7 : Int32), .int (7 : Int32), .int (32 : Int32)] rfl rfl rfl rfl (jv_cal rfl (jv_H_at (jv_rwK hW 208 11 7 (by decide))) rfl rfl) rfl H27 rfl rfl Kz) ?_
          refine jv_Wp.lift (fun _ Kz => jv_Ev.steps jv_i285 4 (pc' := 217) (l' := [(3, .int (32 : Int32)), (0, .ref 196), (1, .int (vl_I a)), (2, .int (vl_I b))]) (st' := [.ref 196, .int (1024 : Int32), .ref 196]) rfl Kz) ?_
          refine jv_Wp.lift (fun _ Kz => jv_Ev.m jv_i285 (pc' := 220) (st' := [.int (vl_I f.d), .int (1024 : Int32), .ref 196]) (G' := (jv_H K I27 L27 R)) rfl rfl (jv_m_getI (jv_rwK hW 196 12 24 (by decide)) rfl rfl D27.2.1) Kz) ?_
          refine jv_Wp.lift (fun _ Kz => jv_Ev.steps jv_i285 1 (pc' := 222) (l' := [(3, .int (32 : Int32)), (0, .ref 196), (1, .int (vl_I a)), (2, .int (vl_I b))]) (st' := [.int (7 : Int32), .int (vl_I f.d), .int (1024 : Int32), .ref 196]) rfl Kz) ?_
          obtain ⟨I28, L28, H28, T28, O28, F28⟩ := vq_setNumber (I := I27) (L := L27) (R := R) (n := n) (sl := sl) 1024 f.d 7 hW Z27 (by omega) (by decide) (by decide)
          refine jv_Wp.lift (fun _ Kz => jv_Ev.c jv_i285 (pc' := 225) (S' := []) (G1 := (jv_H K I28 L28 R)) jv_i273 [.ref 196, .int (1024 : Int32), .int (vl_I f.d), .int (7 : Int32)] rfl rfl rfl rfl (jv_cal rfl (jv_H_at (jv_rwK hW 196 12 24 (by decide))) rfl rfl) rfl H28 rfl rfl Kz) ?_
          refine jv_Wp.of (jv_Ev.ret jv_i285 rfl rfl) ?_
          rw [hQ]
          have mn3 : ¬ f.n = 3 := (fun z => h2 ((vr_sm (v := 3) (by omega) (by decide) rfl).mpr z))
          have mn9 : f.n = 9 := (vr_sm (v := 9) (by omega) (by decide) rfl).mp (Classical.not_not.mp h4)
          have md7 : ¬ f.kind = 7 := (fun z => h1 ((vr_sm (v := 7) (by omega) (by decide) rfl).mpr z))
          have mO1 : f.o = 1 := (vr_dO D).symm.trans (congrArg Int32.toInt (Classical.not_not.mp h8))
          have q3 := hfa.2.2.1
          have q4 := hfa.2.2.2.1
          have e : vx_reckon f (vb_toS (vr_S L a)) (vb_toS (vr_S L b)) = vx_cut vb_any 32 := by rw [vx_rko (by omega) (by omega), if_neg hN11, if_neg md7]
          refine ⟨_, _, rfl, ?_, O28, (vr_fr_trans (vq_rf_fr F26 (by decide)) (vr_fr_trans (vq_rf_fr F27 (by decide)) F28))⟩
          refine T28.trans (congrArg vt_num ?_)
          rw [e, S27, vb_toS_toR, S26, vb_toS_any]
  · refine jv_Wp.lift (fun _ Kz => jv_Ev.steps jv_i285 4 (pc' := 18) (l' := [(3, .int (64 : Int32)), (0, .ref 196), (1, .int (vl_I a)), (2, .int (vl_I b))]) (st' := [.ref 196]) rfl Kz) ?_
    refine jv_Wp.lift (fun _ Kz => jv_Ev.c jv_i285 (pc' := 21) (S' := [.int (vl_I f.n)]) jv_i258 [.ref 196] rfl rfl rfl rfl (jv_cal rfl (jv_H_at (jv_rwK hW 196 12 24 (by decide))) rfl rfl) rfl (vq_n f hW D) rfl rfl Kz) ?_
    refine jv_Wp.lift (fun _ Kz => jv_Ev.steps jv_i285 1 (pc' := 22) (l' := [(3, .int (64 : Int32)), (0, .ref 196), (1, .int (vl_I a)), (2, .int (vl_I b))]) (st' := [.int (3 : Int32), .int (vl_I f.n)]) rfl Kz) ?_
    refine jv_Wp.cnd jv_i285 (pt := 34) (pe := 25) (p := ((vl_I f.n) = (3 : Int32))) (q := ((vl_I f.n) = (3 : Int32))) rfl jv_bc_eq rfl rfl Iff.rfl (fun h9 => ?_) (fun h9 => ?_)
    · refine jv_Wp.lift (fun _ Kz => jv_Ev.steps jv_i285 1 (pc' := 35) (l' := [(3, .int (64 : Int32)), (0, .ref 196), (1, .int (vl_I a)), (2, .int (vl_I b))]) (st' := [.ref 196]) rfl Kz) ?_
      refine jv_Wp.lift (fun _ Kz => jv_Ev.m jv_i285 (pc' := 38) (st' := [.int (Int32.ofInt f.o)]) (G' := (jv_H K I L R)) rfl rfl (jv_m_getI (jv_rwK hW 196 12 24 (by decide)) rfl rfl (vr_dI D)) Kz) ?_
      refine jv_Wp.lift (fun _ Kz => jv_Ev.steps jv_i285 1 (pc' := 39) (l' := [(3, .int (64 : Int32)), (0, .ref 196), (1, .int (vl_I a)), (2, .int (vl_I b))]) (st' := [.int (1 : Int32), .int (Int32.ofInt f.o)]) rfl Kz) ?_
      refine jv_Wp.cnd jv_i285 (pt := 66) (pe := 42) (p := (¬ (Int32.ofInt f.o) = (1 : Int32))) (q := (¬ (Int32.ofInt f.o) = (1 : Int32))) rfl jv_bc_ne rfl rfl Iff.rfl (fun h10 => ?_) (fun h10 => ?_)
      · refine jv_Wp.lift (fun _ Kz => jv_Ev.steps jv_i285 1 (pc' := 67) (l' := [(3, .int (64 : Int32)), (0, .ref 196), (1, .int (vl_I a)), (2, .int (vl_I b))]) (st' := [.ref 196]) rfl Kz) ?_
        refine jv_Wp.lift (fun _ Kz => jv_Ev.c jv_i285 (pc' := 70) (S' := [.int (vl_I f.n)]) jv_i258 [.ref 196] rfl rfl rfl rfl (jv_cal rfl (jv_H_at (jv_rwK hW 196 12 24 (by decide))) rfl rfl) rfl (vq_n f hW D) rfl rfl Kz) ?_
        refine jv_Wp.lift (fun _ Kz => jv_Ev.steps jv_i285 1 (pc' := 72) (l' := [(3, .int (64 : Int32)), (0, .ref 196), (1, .int (vl_I a)), (2, .int (vl_I b))]) (st' := [.int (11 : Int32), .int (vl_I f.n)]) rfl Kz) ?_
        refine jv_Wp.cnd jv_i285 (pt := 111) (pe := 75) (p := (¬ (vl_I f.n) = (11 : Int32))) (q := (¬ (vl_I f.n) = (11 : Int32))) rfl jv_bc_ne rfl rfl Iff.rfl (fun _ => ?_) (fun hz => absurd (fun z => hN11 ((vr_sm (v := 11) (by omega) (by decide) rfl).mp z)) hz)
        refine jv_Wp.lift (fun _ Kz => jv_Ev.steps jv_i285 1 (pc' := 112) (l' := [(3, .int (64 : Int32)), (0, .ref 196), (1, .int (vl_I a)), (2, .int (vl_I b))]) (st' := [.ref 196]) rfl Kz) ?_
        refine jv_Wp.lift (fun _ Kz => jv_Ev.c jv_i285 (pc' := 115) (S' := [.int (vl_I f.n)]) jv_i258 [.ref 196] rfl rfl rfl rfl (jv_cal rfl (jv_H_at (jv_rwK hW 196 12 24 (by decide))) rfl rfl) rfl (vq_n f hW D) rfl rfl Kz) ?_
        refine jv_Wp.lift (fun _ Kz => jv_Ev.steps jv_i285 1 (pc' := 117) (l' := [(3, .int (64 : Int32)), (0, .ref 196), (1, .int (vl_I a)), (2, .int (vl_I b))]) (st' := [.int (13 : Int32), .int (vl_I f.n)]) rfl Kz) ?_
        refine jv_Wp.cnd jv_i285 (pt := 170) (pe := 120) (p := (¬ (vl_I f.n) = (13 : Int32))) (q := (¬ (vl_I f.n) = (13 : Int32))) rfl jv_bc_ne rfl rfl Iff.rfl (fun _ => ?_) (fun hz => absurd (fun z => absurd (z.symm.trans h9) (by decide)) hz)
        refine jv_Wp.lift (fun _ Kz => jv_Ev.steps jv_i285 1 (pc' := 171) (l' := [(3, .int (64 : Int32)), (0, .ref 196), (1, .int (vl_I a)), (2, .int (vl_I b))]) (st' := [.ref 196]) rfl Kz) ?_
        refine jv_Wp.lift (fun _ Kz => jv_Ev.c jv_i285 (pc' := 174) (S' := [.int (vl_I f.n)]) jv_i258 [.ref 196] rfl rfl rfl rfl (jv_cal rfl (jv_H_at (jv_rwK hW 196 12 24 (by decide))) rfl rfl) rfl (vq_n f hW D) rfl rfl Kz) ?_
        refine jv_Wp.lift (fun _ Kz => jv_Ev.steps jv_i285 1 (pc' := 176) (l' := [(3, .int (64 : Int32)), (0, .ref 196), (1, .int (vl_I a)), (2, .int (vl_I b))]) (st' := [.int (8 : Int32), .int (vl_I f.n)]) rfl Kz) ?_
        refine jv_Wp.cnd jv_i285 (pt := 196) (pe := 179) (p := (¬ (vl_I f.n) = (8 : Int32))) (q := (¬ (vl_I f.n) = (8 : Int32))) rfl jv_bc_ne rfl rfl Iff.rfl (fun _ => ?_) (fun hz => absurd (fun z => absurd (z.symm.trans h9) (by decide)) hz)
        refine jv_Wp.lift (fun _ Kz => jv_Ev.steps jv_i285 1 (pc' := 197) (l' := [(3, .int (64 : Int32)), (0, .ref 196), (1, .int (vl_I a)), (2, .int (vl_I b))]) (st' := [.ref 196]) rfl Kz) ?_
        refine jv_Wp.lift (fun _ Kz => jv_Ev.m jv_i285 (pc' := 200) (st' := [.ref 208]) (G' := (jv_H K I L R)) rfl rfl (jv_m_getR (jv_rwK hW 196 12 24 (by decide)) rfl rfl (jv_rwR hW 196 16 208 (by decide))) Kz) ?_
        refine jv_Wp.lift (fun _ Kz => jv_Ev.steps jv_i285 1 (pc' := 201) (l' := [(3, .int (64 : Int32)), (0, .ref 196), (1, .int (vl_I a)), (2, .int (vl_I b))]) (st' := [.ref 196, .ref 208]) rfl Kz) ?_
        refine jv_Wp.lift (fun _ Kz => jv_Ev.c jv_i285 (pc' := 204) (S' := [.int (vl_I (vx_opn f.n)), .ref 208]) jv_i284 [.ref 196] rfl rfl rfl rfl (jv_cal rfl (jv_H_at (jv_rwK hW 196 12 24 (by decide))) rfl rfl) rfl (vq_opof f hW D) rfl rfl Kz) ?_
        refine jv_Wp.lift (fun _ Kz => jv_Ev.steps jv_i285 4 (pc' := 209) (l' := [(3, .int (64 : Int32)), (0, .ref 196), (1, .int (vl_I a)), (2, .int (vl_I b))]) (st' := [.int (vl_I b), .int (vl_I a), .int (7 : Int32), .int (64 : Int32), .int (vl_I (vx_opn f.n)), .ref 208]) rfl Kz) ?_
        have mn3 : f.n = 3 := (vr_sm (v := 3) (by omega) (by decide) rfl).mp h9
        have md7 : f.kind = 7 := (vr_sm (v := 7) (by omega) (by decide) rfl).mp (Classical.not_not.mp h1)
        have mO1 : ¬ f.o = 1 := fun z => h10 (Int32.toInt_inj.mp ((vr_dO D).trans (z.trans rfl)))
        obtain ⟨I29, L29, H29, S29, F29⟩ := vq_rn (I := I) (L := L) (R := R) (n := n) (sl := sl) f.n true (d := 7) (a := a) (b := b) (by have := hfa.1; omega) (by omega) hW (by omega) (by omega) (by decide) (by decide) (by omega) (by omega) hf (hx hN11) (hy (by omega) (by omega))
        have Z29 := F29.1
        have D29 := vr_dec_rf F29 D
        refine jv_Wp.lift (fun _ Kz => jv_Ev.c jv_i285 (pc' := 212) (S' := []) (G1 := (jv_H K I29 L29 R)) jv_i249 [.ref 208, .int (vl_I (vx_opn f.n)), .int (64 : Int32), .int (7 : Int32), .int (vl_I a), .int (vl_I b)] rfl rfl rfl rfl (jv_cal rfl (jv_H_at (jv_rwK hW 208 11 7 (by decide))) rfl rfl) rfl H29 rfl rfl Kz) ?_
        refine jv_Wp.lift (fun _ Kz => jv_Ev.steps jv_i285 3 (pc' := 217) (l' := [(3, .int (64 : Int32)), (0, .ref 196), (1, .int (vl_I a)), (2, .int (vl_I b))]) (st' := [.ref 196, .int (1024 : Int32), .ref 196]) rfl Kz) ?_
        refine jv_Wp.lift (fun _ Kz => jv_Ev.m jv_i285 (pc' := 220) (st' := [.int (vl_I f.d), .int (1024 : Int32), .ref 196]) (G' := (jv_H K I29 L29 R)) rfl rfl (jv_m_getI (jv_rwK hW 196 12 24 (by decide)) rfl rfl D29.2.1) Kz) ?_
        refine jv_Wp.lift (fun _ Kz => jv_Ev.steps jv_i285 1 (pc' := 222) (l' := [(3, .int (64 : Int32)), (0, .ref 196), (1, .int (vl_I a)), (2, .int (vl_I b))]) (st' := [.int (7 : Int32), .int (vl_I f.d), .int (1024 : Int32), .ref 196]) rfl Kz) ?_
        obtain ⟨I30, L30, H30, T30, O30, F30⟩ := vq_setNumber (I := I29) (L := L29) (R := R) (n := n) (sl := sl) 1024 f.d 7 hW Z29 (by omega) (by decide) (by decide)
        refine jv_Wp.lift (fun _ Kz => jv_Ev.c jv_i285 (pc' := 225) (S' := []) (G1 := (jv_H K I30 L30 R)) jv_i273 [.ref 196, .int (1024 : Int32), .int (vl_I f.d), .int (7 : Int32)] rfl rfl rfl rfl (jv_cal rfl (jv_H_at (jv_rwK hW 196 12 24 (by decide))) rfl rfl) rfl H30 rfl rfl Kz) ?_
        refine jv_Wp.of (jv_Ev.ret jv_i285 rfl rfl) ?_
        rw [hQ]
        have mn3 : f.n = 3 := (vr_sm (v := 3) (by omega) (by decide) rfl).mp h9
        have md7 : f.kind = 7 := (vr_sm (v := 7) (by omega) (by decide) rfl).mp (Classical.not_not.mp h1)
        have mO1 : ¬ f.o = 1 := fun z => h10 (Int32.toInt_inj.mp ((vr_dO D).trans (z.trans rfl)))
        have q3 := hfa.2.2.1
        have q4 := hfa.2.2.2.1
        have e : vx_reckon f (vb_toS (vr_S L a)) (vb_toS (vr_S L b)) = vx_rn f.n true (vb_toS (vr_S L a)) (vb_toS (vr_S L b)) := by rw [vx_rkr (by omega) (by omega) (by omega), (show decide (f.kind = 7) = true from decide_eq_true md7)]
        refine ⟨_, _, rfl, ?_, O30, (vr_fr_trans (vq_rf_fr F29 (by decide)) F30)⟩
        refine T30.trans (congrArg vt_num ?_)
        rw [e, S29, vb_toS_toR]
      · refine jv_Wp.lift (fun _ Kz => jv_Ev.steps jv_i285 1 (pc' := 43) (l' := [(3, .int (64 : Int32)), (0, .ref 196), (1, .int (vl_I a)), (2, .int (vl_I b))]) (st' := [.ref 196]) rfl Kz) ?_
        refine jv_Wp.lift (fun _ Kz => jv_Ev.m jv_i285 (pc' := 46) (st' := [.ref 208]) (G' := (jv_H K I L R)) rfl rfl (jv_m_getR (jv_rwK hW 196 12 24 (by decide)) rfl rfl (jv_rwR hW 196 16 208 (by decide))) Kz) ?_
        refine jv_Wp.lift (fun _ Kz => jv_Ev.steps jv_i285 1 (pc' := 48) (l' := [(3, .int (64 : Int32)), (0, .ref 196), (1, .int (vl_I a)), (2, .int (vl_I b))]) (st' := [.int (7 : Int32), .ref 208]) rfl Kz) ?_
        obtain ⟨I31, L31, H31, S31, F31⟩ := vq_nothing (I := I) (L := L) (R := R) (n := n) (sl := sl) (d := 7) hW (by decide) hf
        have Z31 := F31.1
        have D31 := vr_dec_rf F31 D
        refine jv_Wp.lift (fun _ Kz => jv_Ev.c jv_i285 (pc' := 51) (S' := []) (G1 := (jv_H K I31 L31 R)) jv_i207 [.ref 208, .int (7 : Int32)] rfl rfl rfl rfl (jv_cal rfl (jv_H_at (jv_rwK hW 208 11 7 (by decide))) rfl rfl) rfl H31 rfl rfl Kz) ?_
        refine jv_Wp.lift (fun _ Kz => jv_Ev.steps jv_i285 1 (pc' := 52) (l' := [(3, .int (64 : Int32)), (0, .ref 196), (1, .int (vl_I a)), (2, .int (vl_I b))]) (st' := [.ref 196]) rfl Kz) ?_
        refine jv_Wp.lift (fun _ Kz => jv_Ev.m jv_i285 (pc' := 55) (st' := [.ref 208]) (G' := (jv_H K I31 L31 R)) rfl rfl (jv_m_getR (jv_rwK hW 196 12 24 (by decide)) rfl rfl (jv_rwR hW 196 16 208 (by decide))) Kz) ?_
        refine jv_Wp.lift (fun _ Kz => jv_Ev.steps jv_i285 3 (pc' := 60) (l' := [(3, .int (64 : Int32)), (0, .ref 196), (1, .int (vl_I a)), (2, .int (vl_I b))]) (st' := [.int (64 : Int32), .int (7 : Int32), .int (7 : Int32), .ref 208]) rfl Kz) ?_
        obtain ⟨I32, L32, H32, S32, F32⟩ := vq_cut (I := I31) (L := L31) (R := R) (n := n) (sl := sl) (a := 7) (d := 7) (m := 64) (by omega) hW (by omega) (by decide) (by decide) (by omega) Z31 (by rw [S31]; first | (rw [vb_toS_any]; exact vb_any_tight) | (rw [vb_toS_toR]; exact (vx_ext_in mO hy.low).1))
        have Z32 := F32.1
        have D32 := vr_dec_rf F32 D31
        refine jv_Wp.lift (fun _ Kz => jv_Ev.c jv_i285 (pc' := 63) (S' := []) (G1 := (jv_H K I32 L32 R)) jv_i219 [.ref 208, .int (7 : Int32), .int (7 : Int32), .int (64 : Int32)] rfl rfl rfl rfl (jv_cal rfl (jv_H_at (jv_rwK hW 208 11 7 (by decide))) rfl rfl) rfl H32 rfl rfl Kz) ?_
        refine jv_Wp.lift (fun _ Kz => jv_Ev.steps jv_i285 4 (pc' := 217) (l' := [(3, .int (64 : Int32)), (0, .ref 196), (1, .int (vl_I a)), (2, .int (vl_I b))]) (st' := [.ref 196, .int (1024 : Int32), .ref 196]) rfl Kz) ?_
        refine jv_Wp.lift (fun _ Kz => jv_Ev.m jv_i285 (pc' := 220) (st' := [.int (vl_I f.d), .int (1024 : Int32), .ref 196]) (G' := (jv_H K I32 L32 R)) rfl rfl (jv_m_getI (jv_rwK hW 196 12 24 (by decide)) rfl rfl D32.2.1) Kz) ?_
        refine jv_Wp.lift (fun _ Kz => jv_Ev.steps jv_i285 1 (pc' := 222) (l' := [(3, .int (64 : Int32)), (0, .ref 196), (1, .int (vl_I a)), (2, .int (vl_I b))]) (st' := [.int (7 : Int32), .int (vl_I f.d), .int (1024 : Int32), .ref 196]) rfl Kz) ?_
        obtain ⟨I33, L33, H33, T33, O33, F33⟩ := vq_setNumber (I := I32) (L := L32) (R := R) (n := n) (sl := sl) 1024 f.d 7 hW Z32 (by omega) (by decide) (by decide)
        refine jv_Wp.lift (fun _ Kz => jv_Ev.c jv_i285 (pc' := 225) (S' := []) (G1 := (jv_H K I33 L33 R)) jv_i273 [.ref 196, .int (1024 : Int32), .int (vl_I f.d), .int (7 : Int32)] rfl rfl rfl rfl (jv_cal rfl (jv_H_at (jv_rwK hW 196 12 24 (by decide))) rfl rfl) rfl H33 rfl rfl Kz) ?_
        refine jv_Wp.of (jv_Ev.ret jv_i285 rfl rfl) ?_
        rw [hQ]
        have mn3 : f.n = 3 := (vr_sm (v := 3) (by omega) (by decide) rfl).mp h9
        have md7 : f.kind = 7 := (vr_sm (v := 7) (by omega) (by decide) rfl).mp (Classical.not_not.mp h1)
        have mO1 : f.o = 1 := (vr_dO D).symm.trans (congrArg Int32.toInt (Classical.not_not.mp h10))
        have q3 := hfa.2.2.1
        have q4 := hfa.2.2.2.1
        have e : vx_reckon f (vb_toS (vr_S L a)) (vb_toS (vr_S L b)) = vx_cut vb_any 64 := by rw [vx_rko (by omega) (by omega), if_neg hN11, if_pos md7]
        refine ⟨_, _, rfl, ?_, O33, (vr_fr_trans (vq_rf_fr F31 (by decide)) (vr_fr_trans (vq_rf_fr F32 (by decide)) F33))⟩
        refine T33.trans (congrArg vt_num ?_)
        rw [e, S32, vb_toS_toR, S31, vb_toS_any]
    · refine jv_Wp.lift (fun _ Kz => jv_Ev.steps jv_i285 1 (pc' := 26) (l' := [(3, .int (64 : Int32)), (0, .ref 196), (1, .int (vl_I a)), (2, .int (vl_I b))]) (st' := [.ref 196]) rfl Kz) ?_
      refine jv_Wp.lift (fun _ Kz => jv_Ev.c jv_i285 (pc' := 29) (S' := [.int (vl_I f.n)]) jv_i258 [.ref 196] rfl rfl rfl rfl (jv_cal rfl (jv_H_at (jv_rwK hW 196 12 24 (by decide))) rfl rfl) rfl (vq_n f hW D) rfl rfl Kz) ?_
      refine jv_Wp.lift (fun _ Kz => jv_Ev.steps jv_i285 1 (pc' := 31) (l' := [(3, .int (64 : Int32)), (0, .ref 196), (1, .int (vl_I a)), (2, .int (vl_I b))]) (st' := [.int (9 : Int32), .int (vl_I f.n)]) rfl Kz) ?_
      refine jv_Wp.cnd jv_i285 (pt := 66) (pe := 34) (p := (¬ (vl_I f.n) = (9 : Int32))) (q := (¬ (vl_I f.n) = (9 : Int32))) rfl jv_bc_ne rfl rfl Iff.rfl (fun h11 => ?_) (fun h11 => ?_)
      · refine jv_Wp.lift (fun _ Kz => jv_Ev.steps jv_i285 1 (pc' := 67) (l' := [(3, .int (64 : Int32)), (0, .ref 196), (1, .int (vl_I a)), (2, .int (vl_I b))]) (st' := [.ref 196]) rfl Kz) ?_
        refine jv_Wp.lift (fun _ Kz => jv_Ev.c jv_i285 (pc' := 70) (S' := [.int (vl_I f.n)]) jv_i258 [.ref 196] rfl rfl rfl rfl (jv_cal rfl (jv_H_at (jv_rwK hW 196 12 24 (by decide))) rfl rfl) rfl (vq_n f hW D) rfl rfl Kz) ?_
        refine jv_Wp.lift (fun _ Kz => jv_Ev.steps jv_i285 1 (pc' := 72) (l' := [(3, .int (64 : Int32)), (0, .ref 196), (1, .int (vl_I a)), (2, .int (vl_I b))]) (st' := [.int (11 : Int32), .int (vl_I f.n)]) rfl Kz) ?_
        refine jv_Wp.cnd jv_i285 (pt := 111) (pe := 75) (p := (¬ (vl_I f.n) = (11 : Int32))) (q := (¬ (vl_I f.n) = (11 : Int32))) rfl jv_bc_ne rfl rfl Iff.rfl (fun _ => ?_) (fun hz => absurd (fun z => hN11 ((vr_sm (v := 11) (by omega) (by decide) rfl).mp z)) hz)
        refine jv_Wp.lift (fun _ Kz => jv_Ev.steps jv_i285 1 (pc' := 112) (l' := [(3, .int (64 : Int32)), (0, .ref 196), (1, .int (vl_I a)), (2, .int (vl_I b))]) (st' := [.ref 196]) rfl Kz) ?_
        refine jv_Wp.lift (fun _ Kz => jv_Ev.c jv_i285 (pc' := 115) (S' := [.int (vl_I f.n)]) jv_i258 [.ref 196] rfl rfl rfl rfl (jv_cal rfl (jv_H_at (jv_rwK hW 196 12 24 (by decide))) rfl rfl) rfl (vq_n f hW D) rfl rfl Kz) ?_
        refine jv_Wp.lift (fun _ Kz => jv_Ev.steps jv_i285 1 (pc' := 117) (l' := [(3, .int (64 : Int32)), (0, .ref 196), (1, .int (vl_I a)), (2, .int (vl_I b))]) (st' := [.int (13 : Int32), .int (vl_I f.n)]) rfl Kz) ?_
        refine jv_Wp.cnd jv_i285 (pt := 170) (pe := 120) (p := (¬ (vl_I f.n) = (13 : Int32))) (q := (¬ (vl_I f.n) = (13 : Int32))) rfl jv_bc_ne rfl rfl Iff.rfl (fun h12 => ?_) (fun h12 => ?_)
        · refine jv_Wp.lift (fun _ Kz => jv_Ev.steps jv_i285 1 (pc' := 171) (l' := [(3, .int (64 : Int32)), (0, .ref 196), (1, .int (vl_I a)), (2, .int (vl_I b))]) (st' := [.ref 196]) rfl Kz) ?_
          refine jv_Wp.lift (fun _ Kz => jv_Ev.c jv_i285 (pc' := 174) (S' := [.int (vl_I f.n)]) jv_i258 [.ref 196] rfl rfl rfl rfl (jv_cal rfl (jv_H_at (jv_rwK hW 196 12 24 (by decide))) rfl rfl) rfl (vq_n f hW D) rfl rfl Kz) ?_
          refine jv_Wp.lift (fun _ Kz => jv_Ev.steps jv_i285 1 (pc' := 176) (l' := [(3, .int (64 : Int32)), (0, .ref 196), (1, .int (vl_I a)), (2, .int (vl_I b))]) (st' := [.int (8 : Int32), .int (vl_I f.n)]) rfl Kz) ?_
          refine jv_Wp.cnd jv_i285 (pt := 196) (pe := 179) (p := (¬ (vl_I f.n) = (8 : Int32))) (q := (¬ (vl_I f.n) = (8 : Int32))) rfl jv_bc_ne rfl rfl Iff.rfl (fun h13 => ?_) (fun h13 => ?_)
          · refine jv_Wp.lift (fun _ Kz => jv_Ev.steps jv_i285 1 (pc' := 197) (l' := [(3, .int (64 : Int32)), (0, .ref 196), (1, .int (vl_I a)), (2, .int (vl_I b))]) (st' := [.ref 196]) rfl Kz) ?_
            refine jv_Wp.lift (fun _ Kz => jv_Ev.m jv_i285 (pc' := 200) (st' := [.ref 208]) (G' := (jv_H K I L R)) rfl rfl (jv_m_getR (jv_rwK hW 196 12 24 (by decide)) rfl rfl (jv_rwR hW 196 16 208 (by decide))) Kz) ?_
            refine jv_Wp.lift (fun _ Kz => jv_Ev.steps jv_i285 1 (pc' := 201) (l' := [(3, .int (64 : Int32)), (0, .ref 196), (1, .int (vl_I a)), (2, .int (vl_I b))]) (st' := [.ref 196, .ref 208]) rfl Kz) ?_
            refine jv_Wp.lift (fun _ Kz => jv_Ev.c jv_i285 (pc' := 204) (S' := [.int (vl_I (vx_opn f.n)), .ref 208]) jv_i284 [.ref 196] rfl rfl rfl rfl (jv_cal rfl (jv_H_at (jv_rwK hW 196 12 24 (by decide))) rfl rfl) rfl (vq_opof f hW D) rfl rfl Kz) ?_
            refine jv_Wp.lift (fun _ Kz => jv_Ev.steps jv_i285 4 (pc' := 209) (l' := [(3, .int (64 : Int32)), (0, .ref 196), (1, .int (vl_I a)), (2, .int (vl_I b))]) (st' := [.int (vl_I b), .int (vl_I a), .int (7 : Int32), .int (64 : Int32), .int (vl_I (vx_opn f.n)), .ref 208]) rfl Kz) ?_
            have mn3 : ¬ f.n = 3 := (fun z => h9 ((vr_sm (v := 3) (by omega) (by decide) rfl).mpr z))
            have mn9 : ¬ f.n = 9 := (fun z => h11 ((vr_sm (v := 9) (by omega) (by decide) rfl).mpr z))
            have mn13 : ¬ f.n = 13 := (fun z => h12 ((vr_sm (v := 13) (by omega) (by decide) rfl).mpr z))
            have mn8 : ¬ f.n = 8 := (fun z => h13 ((vr_sm (v := 8) (by omega) (by decide) rfl).mpr z))
            have md7 : f.kind = 7 := (vr_sm (v := 7) (by omega) (by decide) rfl).mp (Classical.not_not.mp h1)
            obtain ⟨I34, L34, H34, S34, F34⟩ := vq_rn (I := I) (L := L) (R := R) (n := n) (sl := sl) f.n true (d := 7) (a := a) (b := b) (by have := hfa.1; omega) (by omega) hW (by omega) (by omega) (by decide) (by decide) (by omega) (by omega) hf (hx hN11) (hy (by omega) (by omega))
            have Z34 := F34.1
            have D34 := vr_dec_rf F34 D
            refine jv_Wp.lift (fun _ Kz => jv_Ev.c jv_i285 (pc' := 212) (S' := []) (G1 := (jv_H K I34 L34 R)) jv_i249 [.ref 208, .int (vl_I (vx_opn f.n)), .int (64 : Int32), .int (7 : Int32), .int (vl_I a), .int (vl_I b)] rfl rfl rfl rfl (jv_cal rfl (jv_H_at (jv_rwK hW 208 11 7 (by decide))) rfl rfl) rfl H34 rfl rfl Kz) ?_
            refine jv_Wp.lift (fun _ Kz => jv_Ev.steps jv_i285 3 (pc' := 217) (l' := [(3, .int (64 : Int32)), (0, .ref 196), (1, .int (vl_I a)), (2, .int (vl_I b))]) (st' := [.ref 196, .int (1024 : Int32), .ref 196]) rfl Kz) ?_
            refine jv_Wp.lift (fun _ Kz => jv_Ev.m jv_i285 (pc' := 220) (st' := [.int (vl_I f.d), .int (1024 : Int32), .ref 196]) (G' := (jv_H K I34 L34 R)) rfl rfl (jv_m_getI (jv_rwK hW 196 12 24 (by decide)) rfl rfl D34.2.1) Kz) ?_
            refine jv_Wp.lift (fun _ Kz => jv_Ev.steps jv_i285 1 (pc' := 222) (l' := [(3, .int (64 : Int32)), (0, .ref 196), (1, .int (vl_I a)), (2, .int (vl_I b))]) (st' := [.int (7 : Int32), .int (vl_I f.d), .int (1024 : Int32), .ref 196]) rfl Kz) ?_
            obtain ⟨I35, L35, H35, T35, O35, F35⟩ := vq_setNumber (I := I34) (L := L34) (R := R) (n := n) (sl := sl) 1024 f.d 7 hW Z34 (by omega) (by decide) (by decide)
            refine jv_Wp.lift (fun _ Kz => jv_Ev.c jv_i285 (pc' := 225) (S' := []) (G1 := (jv_H K I35 L35 R)) jv_i273 [.ref 196, .int (1024 : Int32), .int (vl_I f.d), .int (7 : Int32)] rfl rfl rfl rfl (jv_cal rfl (jv_H_at (jv_rwK hW 196 12 24 (by decide))) rfl rfl) rfl H35 rfl rfl Kz) ?_
            refine jv_Wp.of (jv_Ev.ret jv_i285 rfl rfl) ?_
            rw [hQ]
            have mn3 : ¬ f.n = 3 := (fun z => h9 ((vr_sm (v := 3) (by omega) (by decide) rfl).mpr z))
            have mn9 : ¬ f.n = 9 := (fun z => h11 ((vr_sm (v := 9) (by omega) (by decide) rfl).mpr z))
            have mn13 : ¬ f.n = 13 := (fun z => h12 ((vr_sm (v := 13) (by omega) (by decide) rfl).mpr z))
            have mn8 : ¬ f.n = 8 := (fun z => h13 ((vr_sm (v := 8) (by omega) (by decide) rfl).mpr z))
            have md7 : f.kind = 7 := (vr_sm (v := 7) (by omega) (by decide) rfl).mp (Classical.not_not.mp h1)
            have q3 := hfa.2.2.1
            have q4 := hfa.2.2.2.1
            have e : vx_reckon f (vb_toS (vr_S L a)) (vb_toS (vr_S L b)) = vx_rn f.n true (vb_toS (vr_S L a)) (vb_toS (vr_S L b)) := by rw [vx_rkr (by omega) (by omega) (by omega), (show decide (f.kind = 7) = true from decide_eq_true md7)]
            refine ⟨_, _, rfl, ?_, O35, (vr_fr_trans (vq_rf_fr F34 (by decide)) F35)⟩
            refine T35.trans (congrArg vt_num ?_)
            rw [e, S34, vb_toS_toR]
          · refine jv_Wp.lift (fun _ Kz => jv_Ev.steps jv_i285 1 (pc' := 180) (l' := [(3, .int (64 : Int32)), (0, .ref 196), (1, .int (vl_I a)), (2, .int (vl_I b))]) (st' := [.ref 196]) rfl Kz) ?_
            refine jv_Wp.lift (fun _ Kz => jv_Ev.m jv_i285 (pc' := 183) (st' := [.ref 208]) (G' := (jv_H K I L R)) rfl rfl (jv_m_getR (jv_rwK hW 196 12 24 (by decide)) rfl rfl (jv_rwR hW 196 16 208 (by decide))) Kz) ?_
            refine jv_Wp.lift (fun _ Kz => jv_Ev.steps jv_i285 5 (pc' := 190) (l' := [(3, .int (64 : Int32)), (0, .ref 196), (1, .int (vl_I a)), (2, .int (vl_I b))]) (st' := [.int (vl_I a), .int (6 : Int32), .int (7 : Int32), .int (64 : Int32), .int (1 : Int32), .ref 208]) rfl Kz) ?_
            have mn3 : ¬ f.n = 3 := (fun z => h9 ((vr_sm (v := 3) (by omega) (by decide) rfl).mpr z))
            have mn9 : ¬ f.n = 9 := (fun z => h11 ((vr_sm (v := 9) (by omega) (by decide) rfl).mpr z))
            have mn13 : ¬ f.n = 13 := (fun z => h12 ((vr_sm (v := 13) (by omega) (by decide) rfl).mpr z))
            have mn8 : f.n = 8 := (vr_sm (v := 8) (by omega) (by decide) rfl).mp (Classical.not_not.mp h13)
            have md7 : f.kind = 7 := (vr_sm (v := 7) (by omega) (by decide) rfl).mp (Classical.not_not.mp h1)
            obtain ⟨I36, L36, H36, S36, F36⟩ := vq_rn (I := I) (L := L) (R := R) (n := n) (sl := sl) 1 true (d := 7) (a := 6) (b := a) (by decide) (by decide) hW (by decide) (by omega) (by decide) (by decide) (by decide) (by omega) hf (by rw [hZ6]; exact vb_just_tight _) (hx hN11)
            have Z36 := F36.1
            have D36 := vr_dec_rf F36 D
            refine jv_Wp.lift (fun _ Kz => jv_Ev.c jv_i285 (pc' := 193) (S' := []) (G1 := (jv_H K I36 L36 R)) jv_i249 [.ref 208, .int (1 : Int32), .int (64 : Int32), .int (7 : Int32), .int (6 : Int32), .int (vl_I a)] rfl rfl rfl rfl (jv_cal rfl (jv_H_at (jv_rwK hW 208 11 7 (by decide))) rfl rfl) rfl H36 rfl rfl Kz) ?_
            refine jv_Wp.lift (fun _ Kz => jv_Ev.steps jv_i285 4 (pc' := 217) (l' := [(3, .int (64 : Int32)), (0, .ref 196), (1, .int (vl_I a)), (2, .int (vl_I b))]) (st' := [.ref 196, .int (1024 : Int32), .ref 196]) rfl Kz) ?_
            refine jv_Wp.lift (fun _ Kz => jv_Ev.m jv_i285 (pc' := 220) (st' := [.int (vl_I f.d), .int (1024 : Int32), .ref 196]) (G' := (jv_H K I36 L36 R)) rfl rfl (jv_m_getI (jv_rwK hW 196 12 24 (by decide)) rfl rfl D36.2.1) Kz) ?_
            refine jv_Wp.lift (fun _ Kz => jv_Ev.steps jv_i285 1 (pc' := 222) (l' := [(3, .int (64 : Int32)), (0, .ref 196), (1, .int (vl_I a)), (2, .int (vl_I b))]) (st' := [.int (7 : Int32), .int (vl_I f.d), .int (1024 : Int32), .ref 196]) rfl Kz) ?_
            obtain ⟨I37, L37, H37, T37, O37, F37⟩ := vq_setNumber (I := I36) (L := L36) (R := R) (n := n) (sl := sl) 1024 f.d 7 hW Z36 (by omega) (by decide) (by decide)
            refine jv_Wp.lift (fun _ Kz => jv_Ev.c jv_i285 (pc' := 225) (S' := []) (G1 := (jv_H K I37 L37 R)) jv_i273 [.ref 196, .int (1024 : Int32), .int (vl_I f.d), .int (7 : Int32)] rfl rfl rfl rfl (jv_cal rfl (jv_H_at (jv_rwK hW 196 12 24 (by decide))) rfl rfl) rfl H37 rfl rfl Kz) ?_
            refine jv_Wp.of (jv_Ev.ret jv_i285 rfl rfl) ?_
            rw [hQ]
            have mn3 : ¬ f.n = 3 := (fun z => h9 ((vr_sm (v := 3) (by omega) (by decide) rfl).mpr z))
            have mn9 : ¬ f.n = 9 := (fun z => h11 ((vr_sm (v := 9) (by omega) (by decide) rfl).mpr z))
            have mn13 : ¬ f.n = 13 := (fun z => h12 ((vr_sm (v := 13) (by omega) (by decide) rfl).mpr z))
            have mn8 : f.n = 8 := (vr_sm (v := 8) (by omega) (by decide) rfl).mp (Classical.not_not.mp h13)
            have md7 : f.kind = 7 := (vr_sm (v := 7) (by omega) (by decide) rfl).mp (Classical.not_not.mp h1)
            have q3 := hfa.2.2.1
            have q4 := hfa.2.2.2.1
            have e : vx_reckon f (vb_toS (vr_S L a)) (vb_toS (vr_S L b)) = vx_rn 1 true (vb_toS (vr_S L 6)) (vb_toS (vr_S L a)) := by rw [vx_rk8 (by omega) (by omega) mn8, (show decide (f.kind = 7) = true from decide_eq_true md7), hZ6]
            refine ⟨_, _, rfl, ?_, O37, (vr_fr_trans (vq_rf_fr F36 (by decide)) F37)⟩
            refine T37.trans (congrArg vt_num ?_)
            rw [e, S36, vb_toS_toR]
        · refine jv_Wp.lift (fun _ Kz => jv_Ev.steps jv_i285 1 (pc' := 121) (l' := [(3, .int (64 : Int32)), (0, .ref 196), (1, .int (vl_I a)), (2, .int (vl_I b))]) (st' := [.ref 196]) rfl Kz) ?_
          refine jv_Wp.lift (fun _ Kz => jv_Ev.c jv_i285 (pc' := 124) (S' := [.int (vl_I f.kind)]) jv_i257 [.ref 196] rfl rfl rfl rfl (jv_cal rfl (jv_H_at (jv_rwK hW 196 12 24 (by decide))) rfl rfl) rfl (vq_kind f hW D) rfl rfl Kz) ?_
          refine jv_Wp.lift (fun _ Kz => jv_Ev.steps jv_i285 1 (pc' := 126) (l' := [(3, .int (64 : Int32)), (0, .ref 196), (1, .int (vl_I a)), (2, .int (vl_I b))]) (st' := [.int (7 : Int32), .int (vl_I f.kind)]) rfl Kz) ?_
          refine jv_Wp.cnd jv_i285 (pt := 136) (pe := 129) (p := ((vl_I f.kind) = (7 : Int32))) (q := ((vl_I f.kind) = (7 : Int32))) rfl jv_bc_eq rfl rfl Iff.rfl (fun _ => ?_) (fun hz => absurd (Classical.not_not.mp h1) hz)
          refine jv_Wp.lift (fun _ Kz => jv_Ev.steps jv_i285 1 (pc' := 137) (l' := [(3, .int (64 : Int32)), (0, .ref 196), (1, .int (vl_I a)), (2, .int (vl_I b))]) (st' := [.ref 196]) rfl Kz) ?_
          refine jv_Wp.lift (fun _ Kz => jv_Ev.m jv_i285 (pc' := 140) (st' := [.ref 208]) (G' := (jv_H K I L R)) rfl rfl (jv_m_getR (jv_rwK hW 196 12 24 (by decide)) rfl rfl (jv_rwR hW 196 16 208 (by decide))) Kz) ?_
          refine jv_Wp.lift (fun _ Kz => jv_Ev.steps jv_i285 3 (pc' := 144) (l' := [(3, .int (64 : Int32)), (0, .ref 196), (1, .int (vl_I a)), (2, .int (vl_I b))]) (st' := [.ref 196, .int (7 : Int32), .int (vl_I a), .ref 208]) rfl Kz) ?_
          refine jv_Wp.lift (fun _ Kz => jv_Ev.m jv_i285 (pc' := 147) (st' := [.int (Int32.ofInt f.i), .int (7 : Int32), .int (vl_I a), .ref 208]) (G' := (jv_H K I L R)) rfl rfl (jv_m_getI (jv_rwK hW 196 12 24 (by decide)) rfl rfl (vr_dJ D)) Kz) ?_
          have mn3 : ¬ f.n = 3 := (fun z => h9 ((vr_sm (v := 3) (by omega) (by decide) rfl).mpr z))
          have mn9 : ¬ f.n = 9 := (fun z => h11 ((vr_sm (v := 9) (by omega) (by decide) rfl).mpr z))
          have mn13 : f.n = 13 := (vr_sm (v := 13) (by omega) (by decide) rfl).mp (Classical.not_not.mp h12)
          have md7 : f.kind = 7 := (vr_sm (v := 7) (by omega) (by decide) rfl).mp (Classical.not_not.mp h1)
          have mi := hfa.2.2.2.2 mn13
          have ei : Int32.ofInt f.i = vl_I f.i.toNat := Int32.toInt_inj.mp ((vr_dQ D).trans ((vl_I_int (by omega)).trans (by omega)).symm)
          obtain ⟨I38, L38, H38, S38, F38⟩ := vq_swap (I := I) (L := L) (R := R) (n := n) (sl := sl) (a := a) (d := 7) (m := f.i.toNat) (by omega) hW (by omega) (by decide) (by decide) (by omega) hf (hx hN11)
          rw [← ei] at H38
          have Z38 := F38.1
          have D38 := vr_dec_rf F38 D
          refine jv_Wp.lift (fun _ Kz => jv_Ev.c jv_i285 (pc' := 150) (S' := []) (G1 := (jv_H K I38 L38 R)) jv_i222 [.ref 208, .int (vl_I a), .int (7 : Int32), .int (Int32.ofInt f.i)] rfl rfl rfl rfl (jv_cal rfl (jv_H_at (jv_rwK hW 208 11 7 (by decide))) rfl rfl) rfl H38 rfl rfl Kz) ?_
          refine jv_Wp.lift (fun _ Kz => jv_Ev.steps jv_i285 4 (pc' := 217) (l' := [(3, .int (64 : Int32)), (0, .ref 196), (1, .int (vl_I a)), (2, .int (vl_I b))]) (st' := [.ref 196, .int (1024 : Int32), .ref 196]) rfl Kz) ?_
          refine jv_Wp.lift (fun _ Kz => jv_Ev.m jv_i285 (pc' := 220) (st' := [.int (vl_I f.d), .int (1024 : Int32), .ref 196]) (G' := (jv_H K I38 L38 R)) rfl rfl (jv_m_getI (jv_rwK hW 196 12 24 (by decide)) rfl rfl D38.2.1) Kz) ?_
          refine jv_Wp.lift (fun _ Kz => jv_Ev.steps jv_i285 1 (pc' := 222) (l' := [(3, .int (64 : Int32)), (0, .ref 196), (1, .int (vl_I a)), (2, .int (vl_I b))]) (st' := [.int (7 : Int32), .int (vl_I f.d), .int (1024 : Int32), .ref 196]) rfl Kz) ?_
          obtain ⟨I39, L39, H39, T39, O39, F39⟩ := vq_setNumber (I := I38) (L := L38) (R := R) (n := n) (sl := sl) 1024 f.d 7 hW Z38 (by omega) (by decide) (by decide)
          refine jv_Wp.lift (fun _ Kz => jv_Ev.c jv_i285 (pc' := 225) (S' := []) (G1 := (jv_H K I39 L39 R)) jv_i273 [.ref 196, .int (1024 : Int32), .int (vl_I f.d), .int (7 : Int32)] rfl rfl rfl rfl (jv_cal rfl (jv_H_at (jv_rwK hW 196 12 24 (by decide))) rfl rfl) rfl H39 rfl rfl Kz) ?_
          refine jv_Wp.of (jv_Ev.ret jv_i285 rfl rfl) ?_
          rw [hQ]
          have mn3 : ¬ f.n = 3 := (fun z => h9 ((vr_sm (v := 3) (by omega) (by decide) rfl).mpr z))
          have mn9 : ¬ f.n = 9 := (fun z => h11 ((vr_sm (v := 9) (by omega) (by decide) rfl).mpr z))
          have mn13 : f.n = 13 := (vr_sm (v := 13) (by omega) (by decide) rfl).mp (Classical.not_not.mp h12)
          have md7 : f.kind = 7 := (vr_sm (v := 7) (by omega) (by decide) rfl).mp (Classical.not_not.mp h1)
          have q3 := hfa.2.2.1
          have q4 := hfa.2.2.2.1
          have e : vx_reckon f (vb_toS (vr_S L a)) (vb_toS (vr_S L b)) = vx_swap (vb_toS (vr_S L a)) f.i.toNat := by rw [vx_rk13 mn13, if_pos (Or.inl md7)]
          refine ⟨_, _, rfl, ?_, O39, (vr_fr_trans (vq_rf_fr F38 (by decide)) F39)⟩
          refine T39.trans (congrArg vt_num ?_)
          rw [e, S38, vb_toS_toR]
      · refine jv_Wp.lift (fun _ Kz => jv_Ev.steps jv_i285 1 (pc' := 35) (l' := [(3, .int (64 : Int32)), (0, .ref 196), (1, .int (vl_I a)), (2, .int (vl_I b))]) (st' := [.ref 196]) rfl Kz) ?_
        refine jv_Wp.lift (fun _ Kz => jv_Ev.m jv_i285 (pc' := 38) (st' := [.int (Int32.ofInt f.o)]) (G' := (jv_H K I L R)) rfl rfl (jv_m_getI (jv_rwK hW 196 12 24 (by decide)) rfl rfl (vr_dI D)) Kz) ?_
        refine jv_Wp.lift (fun _ Kz => jv_Ev.steps jv_i285 1 (pc' := 39) (l' := [(3, .int (64 : Int32)), (0, .ref 196), (1, .int (vl_I a)), (2, .int (vl_I b))]) (st' := [.int (1 : Int32), .int (Int32.ofInt f.o)]) rfl Kz) ?_
        refine jv_Wp.cnd jv_i285 (pt := 66) (pe := 42) (p := (¬ (Int32.ofInt f.o) = (1 : Int32))) (q := (¬ (Int32.ofInt f.o) = (1 : Int32))) rfl jv_bc_ne rfl rfl Iff.rfl (fun h14 => ?_) (fun h14 => ?_)
        · refine jv_Wp.lift (fun _ Kz => jv_Ev.steps jv_i285 1 (pc' := 67) (l' := [(3, .int (64 : Int32)), (0, .ref 196), (1, .int (vl_I a)), (2, .int (vl_I b))]) (st' := [.ref 196]) rfl Kz) ?_
          refine jv_Wp.lift (fun _ Kz => jv_Ev.c jv_i285 (pc' := 70) (S' := [.int (vl_I f.n)]) jv_i258 [.ref 196] rfl rfl rfl rfl (jv_cal rfl (jv_H_at (jv_rwK hW 196 12 24 (by decide))) rfl rfl) rfl (vq_n f hW D) rfl rfl Kz) ?_
          refine jv_Wp.lift (fun _ Kz => jv_Ev.steps jv_i285 1 (pc' := 72) (l' := [(3, .int (64 : Int32)), (0, .ref 196), (1, .int (vl_I a)), (2, .int (vl_I b))]) (st' := [.int (11 : Int32), .int (vl_I f.n)]) rfl Kz) ?_
          refine jv_Wp.cnd jv_i285 (pt := 111) (pe := 75) (p := (¬ (vl_I f.n) = (11 : Int32))) (q := (¬ (vl_I f.n) = (11 : Int32))) rfl jv_bc_ne rfl rfl Iff.rfl (fun _ => ?_) (fun hz => absurd (fun z => hN11 ((vr_sm (v := 11) (by omega) (by decide) rfl).mp z)) hz)
          refine jv_Wp.lift (fun _ Kz => jv_Ev.steps jv_i285 1 (pc' := 112) (l' := [(3, .int (64 : Int32)), (0, .ref 196), (1, .int (vl_I a)), (2, .int (vl_I b))]) (st' := [.ref 196]) rfl Kz) ?_
          refine jv_Wp.lift (fun _ Kz => jv_Ev.c jv_i285 (pc' := 115) (S' := [.int (vl_I f.n)]) jv_i258 [.ref 196] rfl rfl rfl rfl (jv_cal rfl (jv_H_at (jv_rwK hW 196 12 24 (by decide))) rfl rfl) rfl (vq_n f hW D) rfl rfl Kz) ?_
          refine jv_Wp.lift (fun _ Kz => jv_Ev.steps jv_i285 1 (pc' := 117) (l' := [(3, .int (64 : Int32)), (0, .ref 196), (1, .int (vl_I a)), (2, .int (vl_I b))]) (st' := [.int (13 : Int32), .int (vl_I f.n)]) rfl Kz) ?_
          refine jv_Wp.cnd jv_i285 (pt := 170) (pe := 120) (p := (¬ (vl_I f.n) = (13 : Int32))) (q := (¬ (vl_I f.n) = (13 : Int32))) rfl jv_bc_ne rfl rfl Iff.rfl (fun _ => ?_) (fun hz => absurd (fun z => absurd (z.symm.trans (Classical.not_not.mp h11)) (by decide)) hz)
          refine jv_Wp.lift (fun _ Kz => jv_Ev.steps jv_i285 1 (pc' := 171) (l' := [(3, .int (64 : Int32)), (0, .ref 196), (1, .int (vl_I a)), (2, .int (vl_I b))]) (st' := [.ref 196]) rfl Kz) ?_
          refine jv_Wp.lift (fun _ Kz => jv_Ev.c jv_i285 (pc' := 174) (S' := [.int (vl_I f.n)]) jv_i258 [.ref 196] rfl rfl rfl rfl (jv_cal rfl (jv_H_at (jv_rwK hW 196 12 24 (by decide))) rfl rfl) rfl (vq_n f hW D) rfl rfl Kz) ?_
          refine jv_Wp.lift (fun _ Kz => jv_Ev.steps jv_i285 1 (pc' := 176) (l' := [(3, .int (64 : Int32)), (0, .ref 196), (1, .int (vl_I a)), (2, .int (vl_I b))]) (st' := [.int (8 : Int32), .int (vl_I f.n)]) rfl Kz) ?_
          refine jv_Wp.cnd jv_i285 (pt := 196) (pe := 179) (p := (¬ (vl_I f.n) = (8 : Int32))) (q := (¬ (vl_I f.n) = (8 : Int32))) rfl jv_bc_ne rfl rfl Iff.rfl (fun _ => ?_) (fun hz => absurd (fun z => absurd (z.symm.trans (Classical.not_not.mp h11)) (by decide)) hz)
          refine jv_Wp.lift (fun _ Kz => jv_Ev.steps jv_i285 1 (pc' := 197) (l' := [(3, .int (64 : Int32)), (0, .ref 196), (1, .int (vl_I a)), (2, .int (vl_I b))]) (st' := [.ref 196]) rfl Kz) ?_
          refine jv_Wp.lift (fun _ Kz => jv_Ev.m jv_i285 (pc' := 200) (st' := [.ref 208]) (G' := (jv_H K I L R)) rfl rfl (jv_m_getR (jv_rwK hW 196 12 24 (by decide)) rfl rfl (jv_rwR hW 196 16 208 (by decide))) Kz) ?_
          refine jv_Wp.lift (fun _ Kz => jv_Ev.steps jv_i285 1 (pc' := 201) (l' := [(3, .int (64 : Int32)), (0, .ref 196), (1, .int (vl_I a)), (2, .int (vl_I b))]) (st' := [.ref 196, .ref 208]) rfl Kz) ?_
          refine jv_Wp.lift (fun _ Kz => jv_Ev.c jv_i285 (pc' := 204) (S' := [.int (vl_I (vx_opn f.n)), .ref 208]) jv_i284 [.ref 196] rfl rfl rfl rfl (jv_cal rfl (jv_H_at (jv_rwK hW 196 12 24 (by decide))) rfl rfl) rfl (vq_opof f hW D) rfl rfl Kz) ?_
          refine jv_Wp.lift (fun _ Kz => jv_Ev.steps jv_i285 4 (pc' := 209) (l' := [(3, .int (64 : Int32)), (0, .ref 196), (1, .int (vl_I a)), (2, .int (vl_I b))]) (st' := [.int (vl_I b), .int (vl_I a), .int (7 : Int32), .int (64 : Int32), .int (vl_I (vx_opn f.n)), .ref 208]) rfl Kz) ?_
          have mn3 : ¬ f.n = 3 := (fun z => h9 ((vr_sm (v := 3) (by omega) (by decide) rfl).mpr z))
          have mn9 : f.n = 9 := (vr_sm (v := 9) (by omega) (by decide) rfl).mp (Classical.not_not.mp h11)
          have md7 : f.kind = 7 := (vr_sm (v := 7) (by omega) (by decide) rfl).mp (Classical.not_not.mp h1)
          have mO1 : ¬ f.o = 1 := fun z => h14 (Int32.toInt_inj.mp ((vr_dO D).trans (z.trans rfl)))
          obtain ⟨I40, L40, H40, S40, F40⟩ := vq_rn (I := I) (L := L) (R := R) (n := n) (sl := sl) f.n true (d := 7) (a := a) (b := b) (by have := hfa.1; omega) (by omega) hW (by omega) (by omega) (by decide) (by decide) (by omega) (by omega) hf (hx hN11) (hy (by omega) (by omega))
          have Z40 := F40.1
          have D40 := vr_dec_rf F40 D
          refine jv_Wp.lift (fun _ Kz => jv_Ev.c jv_i285 (pc' := 212) (S' := []) (G1 := (jv_H K I40 L40 R)) jv_i249 [.ref 208, .int (vl_I (vx_opn f.n)), .int (64 : Int32), .int (7 : Int32), .int (vl_I a), .int (vl_I b)] rfl rfl rfl rfl (jv_cal rfl (jv_H_at (jv_rwK hW 208 11 7 (by decide))) rfl rfl) rfl H40 rfl rfl Kz) ?_
          refine jv_Wp.lift (fun _ Kz => jv_Ev.steps jv_i285 3 (pc' := 217) (l' := [(3, .int (64 : Int32)), (0, .ref 196), (1, .int (vl_I a)), (2, .int (vl_I b))]) (st' := [.ref 196, .int (1024 : Int32), .ref 196]) rfl Kz) ?_
          refine jv_Wp.lift (fun _ Kz => jv_Ev.m jv_i285 (pc' := 220) (st' := [.int (vl_I f.d), .int (1024 : Int32), .ref 196]) (G' := (jv_H K I40 L40 R)) rfl rfl (jv_m_getI (jv_rwK hW 196 12 24 (by decide)) rfl rfl D40.2.1) Kz) ?_
          refine jv_Wp.lift (fun _ Kz => jv_Ev.steps jv_i285 1 (pc' := 222) (l' := [(3, .int (64 : Int32)), (0, .ref 196), (1, .int (vl_I a)), (2, .int (vl_I b))]) (st' := [.int (7 : Int32), .int (vl_I f.d), .int (1024 : Int32), .ref 196]) rfl Kz) ?_
          obtain ⟨I41, L41, H41, T41, O41, F41⟩ := vq_setNumber (I := I40) (L := L40) (R := R) (n := n) (sl := sl) 1024 f.d 7 hW Z40 (by omega) (by decide) (by decide)
          refine jv_Wp.lift (fun _ Kz => jv_Ev.c jv_i285 (pc' := 225) (S' := []) (G1 := (jv_H K I41 L41 R)) jv_i273 [.ref 196, .int (1024 : Int32), .int (vl_I f.d), .int (7 : Int32)] rfl rfl rfl rfl (jv_cal rfl (jv_H_at (jv_rwK hW 196 12 24 (by decide))) rfl rfl) rfl H41 rfl rfl Kz) ?_
          refine jv_Wp.of (jv_Ev.ret jv_i285 rfl rfl) ?_
          rw [hQ]
          have mn3 : ¬ f.n = 3 := (fun z => h9 ((vr_sm (v := 3) (by omega) (by decide) rfl).mpr z))
          have mn9 : f.n = 9 := (vr_sm (v := 9) (by omega) (by decide) rfl).mp (Classical.not_not.mp h11)
          have md7 : f.kind = 7 := (vr_sm (v := 7) (by omega) (by decide) rfl).mp (Classical.not_not.mp h1)
          have mO1 : ¬ f.o = 1 := fun z => h14 (Int32.toInt_inj.mp ((vr_dO D).trans (z.trans rfl)))
          have q3 := hfa.2.2.1
          have q4 := hfa.2.2.2.1
          have e : vx_reckon f (vb_toS (vr_S L a)) (vb_toS (vr_S L b)) = vx_rn f.n true (vb_toS (vr_S L a)) (vb_toS (vr_S L b)) := by rw [vx_rkr (by omega) (by omega) (by omega), (show decide (f.kind = 7) = true from decide_eq_true md7)]
          refine ⟨_, _, rfl, ?_, O41, (vr_fr_trans (vq_rf_fr F40 (by decide)) F41)⟩
          refine T41.trans (congrArg vt_num ?_)
          rw [e, S40, vb_toS_toR]
        · refine jv_Wp.lift (fun _ Kz => jv_Ev.steps jv_i285 1 (pc' := 43) (l' := [(3, .int (64 : Int32)), (0, .ref 196), (1, .int (vl_I a)), (2, .int (vl_I b))]) (st' := [.ref 196]) rfl Kz) ?_
          refine jv_Wp.lift (fun _ Kz => jv_Ev.m jv_i285 (pc' := 46) (st' := [.ref 208]) (G' := (jv_H K I L R)) rfl rfl (jv_m_getR (jv_rwK hW 196 12 24 (by decide)) rfl rfl (jv_rwR hW 196 16 208 (by decide))) Kz) ?_
          refine jv_Wp.lift (fun _ Kz => jv_Ev.steps jv_i285 1 (pc' := 48) (l' := [(3, .int (64 : Int32)), (0, .ref 196), (1, .int (vl_I a)), (2, .int (vl_I b))]) (st' := [.int (7 : Int32), .ref 208]) rfl Kz) ?_
          obtain ⟨I42, L42, H42, S42, F42⟩ := vq_nothing (I := I) (L := L) (R := R) (n := n) (sl := sl) (d := 7) hW (by decide) hf
          have Z42 := F42.1
          have D42 := vr_dec_rf F42 D
          refine jv_Wp.lift (fun _ Kz => jv_Ev.c jv_i285 (pc' := 51) (S' := []) (G1 := (jv_H K I42 L42 R)) jv_i207 [.ref 208, .int (7 : Int32)] rfl rfl rfl rfl (jv_cal rfl (jv_H_at (jv_rwK hW 208 11 7 (by decide))) rfl rfl) rfl H42 rfl rfl Kz) ?_
          refine jv_Wp.lift (fun _ Kz => jv_Ev.steps jv_i285 1 (pc' := 52) (l' := [(3, .int (64 : Int32)), (0, .ref 196), (1, .int (vl_I a)), (2, .int (vl_I b))]) (st' := [.ref 196]) rfl Kz) ?_
          refine jv_Wp.lift (fun _ Kz => jv_Ev.m jv_i285 (pc' := 55) (st' := [.ref 208]) (G' := (jv_H K I42 L42 R)) rfl rfl (jv_m_getR (jv_rwK hW 196 12 24 (by decide)) rfl rfl (jv_rwR hW 196 16 208 (by decide))) Kz) ?_
          refine jv_Wp.lift (fun _ Kz => jv_Ev.steps jv_i285 3 (pc' := 60) (l' := [(3, .int (64 : Int32)), (0, .ref 196), (1, .int (vl_I a)), (2, .int (vl_I b))]) (st' := [.int (64 : Int32), .int (7 : Int32), .int (7 : Int32), .ref 208]) rfl Kz) ?_
          obtain ⟨I43, L43, H43, S43, F43⟩ := vq_cut (I := I42) (L := L42) (R := R) (n := n) (sl := sl) (a := 7) (d := 7) (m := 64) (by omega) hW (by omega) (by decide) (by decide) (by omega) Z42 (by rw [S42]; first | (rw [vb_toS_any]; exact vb_any_tight) | (rw [vb_toS_toR]; exact (vx_ext_in mO hy.low).1))
          have Z43 := F43.1
          have D43 := vr_dec_rf F43 D42
          refine jv_Wp.lift (fun _ Kz => jv_Ev.c jv_i285 (pc' := 63) (S' := []) (G1 := (jv_H K I43 L43 R)) jv_i219 [.ref 208, .int (7 : Int32), .int (7 : Int32), .int (64 : Int32)] rfl rfl rfl rfl (jv_cal rfl (jv_H_at (jv_rwK hW 208 11 7 (by decide))) rfl rfl) rfl H43 rfl rfl Kz) ?_
          refine jv_Wp.lift (fun _ Kz => jv_Ev.steps jv_i285 4 (pc' := 217) (l' := [(3, .int (64 : Int32)), (0, .ref 196), (1, .int (vl_I a)), (2, .int (vl_I b))]) (st' := [.ref 196, .int (1024 : Int32), .ref 196]) rfl Kz) ?_
          refine jv_Wp.lift (fun _ Kz => jv_Ev.m jv_i285 (pc' := 220) (st' := [.int (vl_I f.d), .int (1024 : Int32), .ref 196]) (G' := (jv_H K I43 L43 R)) rfl rfl (jv_m_getI (jv_rwK hW 196 12 24 (by decide)) rfl rfl D43.2.1) Kz) ?_
          refine jv_Wp.lift (fun _ Kz => jv_Ev.steps jv_i285 1 (pc' := 222) (l' := [(3, .int (64 : Int32)), (0, .ref 196), (1, .int (vl_I a)), (2, .int (vl_I b))]) (st' := [.int (7 : Int32), .int (vl_I f.d), .int (1024 : Int32), .ref 196]) rfl Kz) ?_
          obtain ⟨I44, L44, H44, T44, O44, F44⟩ := vq_setNumber (I := I43) (L := L43) (R := R) (n := n) (sl := sl) 1024 f.d 7 hW Z43 (by omega) (by decide) (by decide)
          refine jv_Wp.lift (fun _ Kz => jv_Ev.c jv_i285 (pc' := 225) (S' := []) (G1 := (jv_H K I44 L44 R)) jv_i273 [.ref 196, .int (1024 : Int32), .int (vl_I f.d), .int (7 : Int32)] rfl rfl rfl rfl (jv_cal rfl (jv_H_at (jv_rwK hW 196 12 24 (by decide))) rfl rfl) rfl H44 rfl rfl Kz) ?_
          refine jv_Wp.of (jv_Ev.ret jv_i285 rfl rfl) ?_
          rw [hQ]
          have mn3 : ¬ f.n = 3 := (fun z => h9 ((vr_sm (v := 3) (by omega) (by decide) rfl).mpr z))
          have mn9 : f.n = 9 := (vr_sm (v := 9) (by omega) (by decide) rfl).mp (Classical.not_not.mp h11)
          have md7 : f.kind = 7 := (vr_sm (v := 7) (by omega) (by decide) rfl).mp (Classical.not_not.mp h1)
          have mO1 : f.o = 1 := (vr_dO D).symm.trans (congrArg Int32.toInt (Classical.not_not.mp h14))
          have q3 := hfa.2.2.1
          have q4 := hfa.2.2.2.1
          have e : vx_reckon f (vb_toS (vr_S L a)) (vb_toS (vr_S L b)) = vx_cut vb_any 64 := by rw [vx_rko (by omega) (by omega), if_neg hN11, if_pos md7]
          refine ⟨_, _, rfl, ?_, O44, (vr_fr_trans (vq_rf_fr F42 (by decide)) (vr_fr_trans (vq_rf_fr F43 (by decide)) F44))⟩
          refine T44.trans (congrArg vt_num ?_)
          rw [e, S43, vb_toS_toR, S42, vb_toS_any]