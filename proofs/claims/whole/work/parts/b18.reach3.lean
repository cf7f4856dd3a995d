/-! part b18: reach (gen/tb18.py) -/
theorem vr_b_t {b : Bool} (h : ¬ vr_b b = 0) : b = true := by cases b <;> first | rfl | exact absurd rfl h
theorem vr_b_f {b : Bool} (h : vr_b b = 0) : b = false := by cases b <;> first | rfl | exact absurd h (by decide)
theorem jv_i33 : jv_I 33 10 (some .int) 2 44 jv_c33 := ⟨rfl, rfl, rfl, rfl, rfl⟩
theorem vc_reach {K : Nat → Option (Nat × Nat)} {I : Nat → Nat → Int32} {L : Nat → Nat → Int64} {R : Nat → Nat → Value} {M : vf_M} {t : Nat} (o : Int32) (zz : Nat) (wr : Bool) (hC : vc_C K R) (hM : vc_M K I R M) (ht : K t = some (8, 10)) (ok : vc_ok I L t) (hz : zz = 1 ∨ zz = 2 ∨ zz = 4 ∨ zz = 8) (ho : -32768 ≤ o.toInt ∧ o.toInt ≤ 32767) (hfar : vc_far I L t) (hkn : (L 12 1).toInt ≤ 1073000000) (hlg : I t 6 = 4 ∨ I t 6 = 7 → (L t 4).toInt ≤ (L t 5).toInt) (hmn : I t 6 = 7 → 0 ≤ (I t 7).toInt) {n sl : Nat} : ∃ I1 L1, jv_Ms 33 [.ref 10, .ref t, .int o, .int (vl_I zz), .int (vr_b wr)] (jv_H K I L R) n sl (some (.int (vl_I (vx_reach M (vc_A I L 12) (vc_T I L t) o.toInt zz wr))), jv_H K I1 L1 R, n, sl) ∧ I1 = I ∧ L1 = L := by
  obtain ⟨Q, hQ⟩ : ∃ Q : jv_R → Prop, Q = fun X => ∃ I1 L1, X = (some (.int (vl_I (vx_reach M (vc_A I L 12) (vc_T I L t) o.toInt zz wr))), jv_H K I1 L1 R, n, sl) ∧ I1 = I ∧ L1 = L := ⟨_, rfl⟩
  suffices h : jv_Wp 33 0 [(0, .ref 10), (1, .ref t), (2, .int o), (3, .int (vl_I zz)), (4, .int (vr_b wr))] [] (jv_H K I L R) n sl Q by
    rw [hQ] at h
    obtain ⟨X, h, I1, L1, e, h'⟩ := h
    subst e
    exact ⟨I1, L1, h, h'⟩
  have ez : (vl_I zz).toInt = (zz : Int) := vl_I_int (by omega)
  have hzi : 0 ≤ (vl_I zz).toInt ∧ (vl_I zz).toInt ≤ 256 := by rw [ez]; omega
  have evs : ∀ k, (vl_I (M.value k)).toInt64.toInt = (M.value k : Int) := fun k => (Int32.toInt_toInt64 _).trans (vl_I_int (by have := vf_value_le hM k; omega))
  have hvs : ∀ k, (vl_I (M.value k)).toInt64.toInt ≤ 1073000000 := fun k => by rw [evs]; have := vf_value_le hM k; omega
  have e64 : ((64 : Int32) - vl_I zz).toInt64.toInt = 64 - (zz : Int) := by rcases hz with h | h | h | h <;> subst h <;> rfl
  have eneg : (-(vl_I zz)).toInt64.toInt = -(zz : Int) := by rcases hz with h | h | h | h <;> subst h <;> rfl
  refine jv_Wp.lift (fun _ Kz => jv_Ev.steps jv_i33 1 (pc' := 1) (l' := [(0, .ref 10), (1, .ref t), (2, .int o), (3, .int (vl_I zz)), (4, .int (vr_b wr))]) (st' := [.ref t]) rfl Kz) ?_
  refine jv_Wp.lift (fun _ Kz => jv_Ev.m jv_i33 (pc' := 4) (st' := [.long (L t 8)]) (G' := (jv_H K I L R)) rfl rfl (jv_m_getL ht rfl rfl rfl) Kz) ?_
  refine jv_Wp.lift (fun _ Kz => jv_Ev.steps jv_i33 12 (pc' := 18) (l' := [(5, .long ((L t 8) + o.toInt64)), (0, .ref 10), (1, .ref t), (2, .int o), (3, .int (vl_I zz)), (4, .int (vr_b wr))]) (st' := [.int (lg_cmp (((L t 8) + o.toInt64) &&& ((vl_I zz) - (1 : Int32)).toInt64) (0 : Int64))]) rfl Kz) ?_
  refine jv_Wp.cnd jv_i33 (pt := 25) (pe := 21) (p := (¬ (lg_cmp (((L t 8) + o.toInt64) &&& ((vl_I zz) - (1 : Int32)).toInt64) (0 : Int64)) = 0)) (q := (¬ (((L t 8) + o.toInt64) &&& ((vl_I zz) - (1 : Int32)).toInt64) = (0 : Int64))) rfl jv_bi_ne rfl rfl (not_congr (lg_cmp_eq (((L t 8) + o.toInt64) &&& ((vl_I zz) - (1 : Int32)).toInt64) (0 : Int64))) (fun h1 => ?_) (fun h1 => ?_)
  · refine jv_Wp.lift (fun _ Kz => jv_Ev.steps jv_i33 3 (pc' := 30) (l' := [(7, .int (0 : Int32)), (5, .long ((L t 8) + o.toInt64)), (0, .ref 10), (1, .ref t), (2, .int o), (3, .int (vl_I zz)), (4, .int (vr_b wr))]) (st' := [.int (vr_b wr)]) rfl Kz) ?_
    refine jv_Wp.cnd jv_i33 (pt := 39) (pe := 33) (p := ((vr_b wr) = 0)) (q := ((vr_b wr) = 0)) rfl jv_bi_eq rfl rfl Iff.rfl (fun h2 => ?_) (fun h2 => ?_)
    · refine jv_Wp.lift (fun _ Kz => jv_Ev.steps jv_i33 2 (pc' := 42) (l' := [(7, .int (0 : Int32)), (5, .long ((L t 8) + o.toInt64)), (0, .ref 10), (1, .ref t), (2, .int o), (3, .int (vl_I zz)), (4, .int (vr_b wr))]) (st' := [.int (8 : Int32), .int (vl_I zz)]) rfl Kz) ?_
      refine jv_Wp.cnd jv_i33 (pt := 49) (pe := 45) (p := (¬ (vl_I zz) = (8 : Int32))) (q := (¬ (vl_I zz) = (8 : Int32))) rfl jv_bc_ne rfl rfl Iff.rfl (fun h3 => ?_) (fun h3 => ?_)
      · refine jv_Wp.lift (fun _ Kz => jv_Ev.steps jv_i33 3 (pc' := 55) (l' := [(8, .long (16 : Int64)), (7, .int (0 : Int32)), (5, .long ((L t 8) + o.toInt64)), (0, .ref 10), (1, .ref t), (2, .int o), (3, .int (vl_I zz)), (4, .int (vr_b wr))]) (st' := [.ref t]) rfl Kz) ?_
        refine jv_Wp.lift (fun _ Kz => jv_Ev.m jv_i33 (pc' := 58) (st' := [.int (I t 6)]) (G' := (jv_H K I L R)) rfl rfl (jv_m_getI ht rfl rfl rfl) Kz) ?_
        refine jv_Wp.bys (q := ((I t 6) = Int32.ofInt 2)) (fun h4 => ?_) (fun h4 => ?_)
        · refine jv_Wp.lift (fun _ Kz => jv_Ev.br jv_i33 (pc' := 96) (st' := []) rfl (by rw [h4]; rfl) Kz) ?_
          refine jv_Wp.lift (fun _ Kz => jv_Ev.steps jv_i33 3 (pc' := 101) (l' := [(8, .long (16 : Int64)), (7, .int (0 : Int32)), (5, .long ((L t 8) + o.toInt64)), (0, .ref 10), (1, .ref t), (2, .int o), (3, .int (vl_I zz)), (4, .int (vr_b wr))]) (st' := [.int (lg_cmp ((L t 8) + o.toInt64) (16 : Int64))]) rfl Kz) ?_
          refine jv_Wp.cnd jv_i33 (pt := 124) (pe := 104) (p := ((lg_cmp ((L t 8) + o.toInt64) (16 : Int64)) < 0)) (q := (((L t 8) + o.toInt64) < (16 : Int64))) rfl jv_bi_lt rfl rfl (lg_cmp_lt ((L t 8) + o.toInt64) (16 : Int64)) (fun h5 => ?_) (fun h5 => ?_)
          · refine jv_Wp.lift (fun _ Kz => jv_Ev.steps jv_i33 1 (pc' := 125) (l' := [(8, .long (16 : Int64)), (7, .int (0 : Int32)), (5, .long ((L t 8) + o.toInt64)), (0, .ref 10), (1, .ref t), (2, .int o), (3, .int (vl_I zz)), (4, .int (vr_b wr))]) (st' := [.int (4 : Int32)]) rfl Kz) ?_
            refine jv_Wp.of (jv_Ev.ret jv_i33 rfl rfl) ?_
            rw [hQ]
            have s2 : (vc_T I L t).sort = 2 := (vc_is2 ok).mpr h4
            have fr := hfar (Or.inl h4)
            have bd : (vc_T I L t).det = (L t 8).toInt := vc_detk (Or.inl h4)
            have eA : ((L t 8) + o.toInt64).toInt = (L t 8).toInt + o.toInt := vi_add (by omega)
            have fe : ¬ ((L t 8) + o.toInt64).toInt % (zz : Int) = 0 := (not_congr (vi_even hz _)).mp h1
            have ew : ¬ wr = true := by rw [vr_b_f h2]; decide
            have f8 : ¬ zz = 8 := fun z => h3 (by rw [z]; rfl)
            have q1 : ((L t 8) + o.toInt64).toInt < 16 := Int64.lt_iff_toInt_lt.mp h5
            rw [eA] at fe
            rw [eA] at q1
            have c : ¬ ((if wr = true then 32 else if zz = 8 then 0 else 16 : Int) ≤ (vc_T I L t).det + o.toInt ∧ (vc_T I L t).det + o.toInt ≤ 64 - (zz : Int) ∧ ((vc_T I L t).det + o.toInt) % (zz : Int) = 0) := by
              rw [bd, if_neg ew, if_neg f8]
              exact fun z => by omega
            have e : vx_reach M (vc_A I L 12) (vc_T I L t) o.toInt zz wr = 4 := (vx_r2 s2).trans (if_neg c)
            exact ⟨_, _, by rw [e]; rfl, rfl, rfl⟩
          · refine jv_Wp.lift (fun _ Kz => jv_Ev.steps jv_i33 6 (pc' := 112) (l' := [(8, .long (16 : Int64)), (7, .int (0 : Int32)), (5, .long ((L t 8) + o.toInt64)), (0, .ref 10), (1, .ref t), (2, .int o), (3, .int (vl_I zz)), (4, .int (vr_b wr))]) (st' := [.int (lg_cmp ((L t 8) + o.toInt64) ((64 : Int32) - (vl_I zz)).toInt64)]) rfl Kz) ?_
            refine jv_Wp.cnd jv_i33 (pt := 124) (pe := 115) (p := (0 < (lg_cmp ((L t 8) + o.toInt64) ((64 : Int32) - (vl_I zz)).toInt64))) (q := (((64 : Int32) - (vl_I zz)).toInt64 < ((L t 8) + o.toInt64))) rfl jv_bi_gt rfl rfl (lg_cmp_gt ((L t 8) + o.toInt64) ((64 : Int32) - (vl_I zz)).toInt64) (fun h6 => ?_) (fun h6 => ?_)
            · refine jv_Wp.lift (fun _ Kz => jv_Ev.steps jv_i33 1 (pc' := 125) (l' := [(8, .long (16 : Int64)), (7, .int (0 : Int32)), (5, .long ((L t 8) + o.toInt64)), (0, .ref 10), (1, .ref t), (2, .int o), (3, .int (vl_I zz)), (4, .int (vr_b wr))]) (st' := [.int (4 : Int32)]) rfl Kz) ?_
              refine jv_Wp.of (jv_Ev.ret jv_i33 rfl rfl) ?_
              rw [hQ]
              have s2 : (vc_T I L t).sort = 2 := (vc_is2 ok).mpr h4
              have fr := hfar (Or.inl h4)
              have bd : (vc_T I L t).det = (L t 8).toInt := vc_detk (Or.inl h4)
              have eA : ((L t 8) + o.toInt64).toInt = (L t 8).toInt + o.toInt := vi_add (by omega)
              have fe : ¬ ((L t 8) + o.toInt64).toInt % (zz : Int) = 0 := (not_congr (vi_even hz _)).mp h1
              have ew : ¬ wr = true := by rw [vr_b_f h2]; decide
              have f8 : ¬ zz = 8 := fun z => h3 (by rw [z]; rfl)
              have q1 : ¬ ((L t 8) + o.toInt64).toInt < 16 := (not_congr Int64.lt_iff_toInt_lt).mp h5
              have q2 : 64 - (zz : Int) < ((L t 8) + o.toInt64).toInt := by rw [← e64]; exact Int64.lt_iff_toInt_lt.mp h6
              rw [eA] at fe
              rw [eA] at q1
              rw [eA] at q2
              have c : ¬ ((if wr = true then 32 else if zz = 8 then 0 else 16 : Int) ≤ (vc_T I L t).det + o.toInt ∧ (vc_T I L t).det + o.toInt ≤ 64 - (zz : Int) ∧ ((vc_T I L t).det + o.toInt) % (zz : Int) = 0) := by
                rw [bd, if_neg ew, if_neg f8]
                exact fun z => by omega
              have e : vx_reach M (vc_A I L 12) (vc_T I L t) o.toInt zz wr = 4 := (vx_r2 s2).trans (if_neg c)
              exact ⟨_, _, by rw [e]; rfl, rfl, rfl⟩
            · refine jv_Wp.lift (fun _ Kz => jv_Ev.steps jv_i33 1 (pc' := 117) (l' := [(8, .long (16 : Int64)), (7, .int (0 : Int32)), (5, .long ((L t 8) + o.toInt64)), (0, .ref 10), (1, .ref t), (2, .int o), (3, .int (vl_I zz)), (4, .int (vr_b wr))]) (st' := [.int (0 : Int32)]) rfl Kz) ?_
              refine jv_Wp.lift (fun _ Kz => jv_Ev.br jv_i33 (pc' := 124) (st' := []) rfl (by rfl) Kz) ?_
              refine jv_Wp.lift (fun _ Kz => jv_Ev.steps jv_i33 1 (pc' := 125) (l' := [(8, .long (16 : Int64)), (7, .int (0 : Int32)), (5, .long ((L t 8) + o.toInt64)), (0, .ref 10), (1, .ref t), (2, .int o), (3, .int (vl_I zz)), (4, .int (vr_b wr))]) (st' := [.int (4 : Int32)]) rfl Kz) ?_
              refine jv_Wp.of (jv_Ev.ret jv_i33 rfl rfl) ?_
              rw [hQ]
              have s2 : (vc_T I L t).sort = 2 := (vc_is2 ok).mpr h4
              have fr := hfar (Or.inl h4)
              have bd : (vc_T I L t).det = (L t 8).toInt := vc_detk (Or.inl h4)
              have eA : ((L t 8) + o.toInt64).toInt = (L t 8).toInt + o.toInt := vi_add (by omega)
              have fe : ¬ ((L t 8) + o.toInt64).toInt % (zz : Int) = 0 := (not_congr (vi_even hz _)).mp h1
              have ew : ¬ wr = true := by rw [vr_b_f h2]; decide
              have f8 : ¬ zz = 8 := fun z => h3 (by rw [z]; rfl)
              have q1 : ¬ ((L t 8) + o.toInt64).toInt < 16 := (not_congr Int64.lt_iff_toInt_lt).mp h5
              have q2 : ¬ 64 - (zz : Int) < ((L t 8) + o.toInt64).toInt := by rw [← e64]; exact (not_congr Int64.lt_iff_toInt_lt).mp h6
              rw [eA] at fe
              rw [eA] at q1
              rw [eA] at q2
              have c : ¬ ((if wr = true then 32 else if zz = 8 then 0 else 16 : Int) ≤ (vc_T I L t).det + o.toInt ∧ (vc_T I L t).det + o.toInt ≤ 64 - (zz : Int) ∧ ((vc_T I L t).det + o.toInt) % (zz : Int) = 0) := by
                rw [bd, if_neg ew, if_neg f8]
                exact fun z => by omega
              have e : vx_reach M (vc_A I L 12) (vc_T I L t) o.toInt zz wr = 4 := (vx_r2 s2).trans (if_neg c)
              exact ⟨_, _, by rw [e]; rfl, rfl, rfl⟩
        · refine jv_Wp.bys (q := ((I t 6) = Int32.ofInt 3)) (fun h7 => ?_) (fun h7 => ?_)
          · refine jv_Wp.lift (fun _ Kz => jv_Ev.br jv_i33 (pc' := 126) (st' := []) rfl (by rw [h7]; rfl) Kz) ?_
            refine jv_Wp.lift (fun _ Kz => jv_Ev.steps jv_i33 3 (pc' := 132) (l' := [(8, .long (16 : Int64)), (7, .int (0 : Int32)), (5, .long ((L t 8) + o.toInt64)), (0, .ref 10), (1, .ref t), (2, .int o), (3, .int (vl_I zz)), (4, .int (vr_b wr))]) (st' := [.int (lg_cmp ((L t 8) + o.toInt64) (-512 : Int64))]) rfl Kz) ?_
            refine jv_Wp.cnd jv_i33 (pt := 153) (pe := 135) (p := ((lg_cmp ((L t 8) + o.toInt64) (-512 : Int64)) < 0)) (q := (((L t 8) + o.toInt64) < (-512 : Int64))) rfl jv_bi_lt rfl rfl (lg_cmp_lt ((L t 8) + o.toInt64) (-512 : Int64)) (fun h8 => ?_) (fun h8 => ?_)
            · refine jv_Wp.lift (fun _ Kz => jv_Ev.steps jv_i33 1 (pc' := 154) (l' := [(8, .long (16 : Int64)), (7, .int (0 : Int32)), (5, .long ((L t 8) + o.toInt64)), (0, .ref 10), (1, .ref t), (2, .int o), (3, .int (vl_I zz)), (4, .int (vr_b wr))]) (st' := [.int (4 : Int32)]) rfl Kz) ?_
              refine jv_Wp.of (jv_Ev.ret jv_i33 rfl rfl) ?_
              rw [hQ]
              have s3 : (vc_T I L t).sort = 3 := (vc_is3 ok).mpr h7
              have fr := hfar (Or.inr h7)
              have bd : (vc_T I L t).det = (L t 8).toInt := vc_detk (Or.inr h7)
              have eA : ((L t 8) + o.toInt64).toInt = (L t 8).toInt + o.toInt := vi_add (by omega)
              have fe : ¬ ((L t 8) + o.toInt64).toInt % (zz : Int) = 0 := (not_congr (vi_even hz _)).mp h1
              have ew : ¬ wr = true := by rw [vr_b_f h2]; decide
              have f8 : ¬ zz = 8 := fun z => h3 (by rw [z]; rfl)
              have q1 : ((L t 8) + o.toInt64).toInt < -512 := Int64.lt_iff_toInt_lt.mp h8
              rw [eA] at fe
              rw [eA] at q1
              have c : ¬ (-512 ≤ (vc_T I L t).det + o.toInt ∧ (vc_T I L t).det + o.toInt ≤ -(zz : Int) ∧ ((vc_T I L t).det + o.toInt) % (zz : Int) = 0) := by
                rw [bd]
                exact fun z => by omega
              have e : vx_reach M (vc_A I L 12) (vc_T I L t) o.toInt zz wr = 4 := (vx_r3 s3).trans (if_neg c)
              exact ⟨_, _, by rw [e]; rfl, rfl, rfl⟩
            · refine jv_Wp.lift (fun _ Kz => jv_Ev.steps jv_i33 5 (pc' := 141) (l' := [(8, .long (16 : Int64)), (7, .int (0 : Int32)), (5, .long ((L t 8) + o.toInt64)), (0, .ref 10), (1, .ref t), (2, .int o), (3, .int (vl_I zz)), (4, .int (vr_b wr))]) (st' := [.int (lg_cmp ((L t 8) + o.toInt64) (-(vl_I zz)).toInt64)]) rfl Kz) ?_
              refine jv_Wp.cnd jv_i33 (pt := 153) (pe := 144) (p := (0 < (lg_cmp ((L t 8) + o.toInt64) (-(vl_I zz)).toInt64))) (q := ((-(vl_I zz)).toInt64 < ((L t 8) + o.toInt64))) rfl jv_bi_gt rfl rfl (lg_cmp_gt ((L t 8) + o.toInt64) (-(vl_I zz)).toInt64) (fun h9 => ?_) (fun h9 => ?_)
              · refine jv_Wp.lift (fun _ Kz => jv_Ev.steps jv_i33 1 (pc' := 154) (l' := [(8, .long (16 : Int64)), (7, .int (0 : Int32)), (5, .long ((L t 8) + o.toInt64)), (0, .ref 10), (1, .ref t), (2, .int o), (3, .int (vl_I zz)), (4, .int (vr_b wr))]) (st' := [.int (4 : Int32)]) rfl Kz) ?_
                refine jv_Wp.of (jv_Ev.ret jv_i33 rfl rfl) ?_
                rw [hQ]
                have s3 : (vc_T I L t).sort = 3 := (vc_is3 ok).mpr h7
                have fr := hfar (Or.inr h7)
                have bd : (vc_T I L t).det = (L t 8).toInt := vc_detk (Or.inr h7)
                have eA : ((L t 8) + o.toInt64).toInt = (L t 8).toInt + o.toInt := vi_add (by omega)
                have fe : ¬ ((L t 8) + o.toInt64).toInt % (zz : Int) = 0 := (not_congr (vi_even hz _)).mp h1
                have ew : ¬ wr = true := by rw [vr_b_f h2]; decide
                have f8 : ¬ zz = 8 := fun z => h3 (by rw [z]; rfl)
                have q1 : ¬ ((L t 8) + o.toInt64).toInt < -512 := (not_congr Int64.lt_iff_toInt_lt).mp h8
                have q2 : -(zz : Int) < ((L t 8) + o.toInt64).toInt := by rw [← eneg]; exact Int64.lt_iff_toInt_lt.mp h9
                rw [eA] at fe
                rw [eA] at q1
                rw [eA] at q2
                have c : ¬ (-512 ≤ (vc_T I L t).det + o.toInt ∧ (vc_T I L t).det + o.toInt ≤ -(zz : Int) ∧ ((vc_T I L t).det + o.toInt) % (zz : Int) = 0) := by
                  rw [bd]
                  exact fun z => by omega
                have e : vx_reach M (vc_A I L 12) (vc_T I L t) o.toInt zz wr = 4 := (vx_r3 s3).trans (if_neg c)
                exact ⟨_, _, by rw [e]; rfl, rfl, rfl⟩
              · refine jv_Wp.lift (fun _ Kz => jv_Ev.steps jv_i33 1 (pc' := 146) (l' := [(8, .long (16 : Int64)), (7, .int (0 : Int32)), (5, .long ((L t 8) + o.toInt64)), (0, .ref 10), (1, .ref t), (2, .int o), (3, .int (vl_I zz)), (4, .int (vr_b wr))]) (st' := [.int (0 : Int32)]) rfl Kz) ?_
                refine jv_Wp.lift (fun _ Kz => jv_Ev.br jv_i33 (pc' := 153) (st' := []) rfl (by rfl) Kz) ?_
                refine jv_Wp.lift (fun _ Kz => jv_Ev.steps jv_i33 1 (pc' := 154) (l' := [(8, .long (16 : Int64)), (7, .int (0 : Int32)), (5, .long ((L t 8) + o.toInt64)), (0, .ref 10), (1, .ref t), (2, .int o), (3, .int (vl_I zz)), (4, .int (vr_b wr))]) (st' := [.int (4 : Int32)]) rfl Kz) ?_
                refine jv_Wp.of (jv_Ev.ret jv_i33 rfl rfl) ?_
                rw [hQ]
                have s3 : (vc_T I L t).sort = 3 := (vc_is3 ok).mpr h7
                have fr := hfar (Or.inr h7)
                have bd : (vc_T I L t).det = (L t 8).toInt := vc_detk (Or.inr h7)
                have eA : ((L t 8) + o.toInt64).toInt = (L t 8).toInt + o.toInt := vi_add (by omega)
                have fe : ¬ ((L t 8) + o.toInt64).toInt % (zz : Int) = 0 := (not_congr (vi_even hz _)).mp h1
                have ew : ¬ wr = true := by rw [vr_b_f h2]; decide
                have f8 : ¬ zz = 8 := fun z => h3 (by rw [z]; rfl)
                have q1 : ¬ ((L t 8) + o.toInt64).toInt < -512 := (not_congr Int64.lt_iff_toInt_lt).mp h8
                have q2 : ¬ -(zz : Int) < ((L t 8) + o.toInt64).toInt := by rw [← eneg]; exact (not_congr Int64.lt_iff_toInt_lt).mp h9
                rw [eA] at fe
                rw [eA] at q1
                rw [eA] at q2
                have c : ¬ (-512 ≤ (vc_T I L t).det + o.toInt ∧ (vc_T I L t).det + o.toInt ≤ -(zz : Int) ∧ ((vc_T I L t).det + o.toInt) % (zz : Int) = 0) := by
                  rw [bd]
                  exact fun z => by omega
                have e : vx_reach M (vc_A I L 12) (vc_T I L t) o.toInt zz wr = 4 := (vx_r3 s3).trans (if_neg c)
                exact ⟨_, _, by rw [e]; rfl, rfl, rfl⟩
          · refine jv_Wp.bys (q := ((I t 6) = Int32.ofInt 4)) (fun h10 => ?_) (fun h10 => ?_)
            · refine jv_Wp.lift (fun _ Kz => jv_Ev.br jv_i33 (pc' := 155) (st' := []) rfl (by rw [h10]; rfl) Kz) ?_
              refine jv_Wp.lift (fun _ Kz => jv_Ev.steps jv_i33 4 (pc' := 159) (l' := [(8, .long (16 : Int64)), (7, .int (0 : Int32)), (5, .long ((L t 8) + o.toInt64)), (0, .ref 10), (1, .ref t), (2, .int o), (3, .int (vl_I zz)), (4, .int (vr_b wr))]) (st' := [.ref 10, .int (vl_I zz), .int o, .ref t]) rfl Kz) ?_
              refine jv_Wp.lift (fun _ Kz => jv_Ev.m jv_i33 (pc' := 162) (st' := [.ref 12, .int (vl_I zz), .int o, .ref t]) (G' := (jv_H K I L R)) rfl rfl (jv_m_getR hC.k rfl rfl hC.rnow) Kz) ?_
              refine jv_Wp.lift (fun _ Kz => jv_Ev.m jv_i33 (pc' := 165) (st' := [.long (L 12 1), .int (vl_I zz), .int o, .ref t]) (G' := (jv_H K I L R)) rfl rfl (jv_m_getL hC.now.k rfl rfl rfl) Kz) ?_
              obtain ⟨I1, L1, H1, ei1, el1⟩ := vc_within (I := I) (L := L) (R := R) (n := n) (sl := sl) o (vl_I zz) (L 12 1) (x := t) (Or.inr ht) ho hzi hkn (hlg (Or.inl h10))
              rw [ei1, el1] at H1
              refine jv_Wp.lift (fun _ Kz => jv_Ev.c jv_i33 (pc' := 168) (S' := [.int (vr_b (decide (0 ≤ (L t 4).toInt + o.toInt ∧ (L t 5).toInt + o.toInt + (vl_I zz).toInt ≤ (L 12 1).toInt)))]) jv_i34 [.ref t, .int o, .int (vl_I zz), .long (L 12 1)] rfl rfl rfl rfl rfl rfl H1 rfl rfl Kz) ?_
              refine jv_Wp.cnd jv_i33 (pt := 175) (pe := 171) (p := ((vr_b (decide (0 ≤ (L t 4).toInt + o.toInt ∧ (L t 5).toInt + o.toInt + (vl_I zz).toInt ≤ (L 12 1).toInt))) = 0)) (q := ((vr_b (decide (0 ≤ (L t 4).toInt + o.toInt ∧ (L t 5).toInt + o.toInt + (vl_I zz).toInt ≤ (L 12 1).toInt))) = 0)) rfl jv_bi_eq rfl rfl Iff.rfl (fun h11 => ?_) (fun h11 => ?_)
              · refine jv_Wp.lift (fun _ Kz => jv_Ev.steps jv_i33 1 (pc' := 176) (l' := [(8, .long (16 : Int64)), (7, .int (0 : Int32)), (5, .long ((L t 8) + o.toInt64)), (0, .ref 10), (1, .ref t), (2, .int o), (3, .int (vl_I zz)), (4, .int (vr_b wr))]) (st' := [.int (4 : Int32)]) rfl Kz) ?_
                refine jv_Wp.of (jv_Ev.ret jv_i33 rfl rfl) ?_
                rw [hQ]
                have s4 : (vc_T I L t).sort = 4 := (vc_is4 ok).mpr h10
                have vv : (vc_T I L t).val = vl_S L t := vc_valv (Or.inr (Or.inl h10))
                have hp := of_decide_eq_false (vr_b_f h11)
                rw [ez] at hp
                have c : ¬ (0 ≤ (vc_T I L t).val.least.toInt + o.toInt ∧ (vc_T I L t).val.greatest.toInt + o.toInt + (zz : Int) ≤ (vc_A I L 12).2) := by
                  rw [vv]; exact hp
                have e : vx_reach M (vc_A I L 12) (vc_T I L t) o.toInt zz wr = 4 := (vx_r4 s4).trans (if_neg c)
                exact ⟨_, _, by rw [e]; rfl, rfl, rfl⟩
              · refine jv_Wp.lift (fun _ Kz => jv_Ev.steps jv_i33 2 (pc' := 176) (l' := [(8, .long (16 : Int64)), (7, .int (0 : Int32)), (5, .long ((L t 8) + o.toInt64)), (0, .ref 10), (1, .ref t), (2, .int o), (3, .int (vl_I zz)), (4, .int (vr_b wr))]) (st' := [.int (0 : Int32)]) rfl Kz) ?_
                refine jv_Wp.of (jv_Ev.ret jv_i33 rfl rfl) ?_
                rw [hQ]
                have s4 : (vc_T I L t).sort = 4 := (vc_is4 ok).mpr h10
                have vv : (vc_T I L t).val = vl_S L t := vc_valv (Or.inr (Or.inl h10))
                have hp := of_decide_eq_true (vr_b_t h11)
                rw [ez] at hp
                have c : (0 ≤ (vc_T I L t).val.least.toInt + o.toInt ∧ (vc_T I L t).val.greatest.toInt + o.toInt + (zz : Int) ≤ (vc_A I L 12).2) := by
                  rw [vv]; exact hp
                have e : vx_reach M (vc_A I L 12) (vc_T I L t) o.toInt zz wr = 0 := (vx_r4 s4).trans (if_pos c)
                exact ⟨_, _, by rw [e]; rfl, rfl, rfl⟩
            · refine jv_Wp.bys (q := ((I t 6) = Int32.ofInt 7)) (fun h12 => ?_) (fun h12 => ?_)
              · refine jv_Wp.lift (fun _ Kz => jv_Ev.br jv_i33 (pc' := 177) (st' := []) rfl (by rw [h12]; rfl) Kz) ?_
                refine jv_Wp.lift (fun _ Kz => jv_Ev.steps jv_i33 4 (pc' := 181) (l' := [(8, .long (16 : Int64)), (7, .int (0 : Int32)), (5, .long ((L t 8) + o.toInt64)), (0, .ref 10), (1, .ref t), (2, .int o), (3, .int (vl_I zz)), (4, .int (vr_b wr))]) (st' := [.ref 10, .int (vl_I zz), .int o, .ref t]) rfl Kz) ?_
                refine jv_Wp.lift (fun _ Kz => jv_Ev.m jv_i33 (pc' := 184) (st' := [.ref 2, .int (vl_I zz), .int o, .ref t]) (G' := (jv_H K I L R)) rfl rfl (jv_m_getR hC.k rfl rfl hC.rstore) Kz) ?_
                refine jv_Wp.lift (fun _ Kz => jv_Ev.steps jv_i33 1 (pc' := 185) (l' := [(8, .long (16 : Int64)), (7, .int (0 : Int32)), (5, .long ((L t 8) + o.toInt64)), (0, .ref 10), (1, .ref t), (2, .int o), (3, .int (vl_I zz)), (4, .int (vr_b wr))]) (st' := [.ref t, .ref 2, .int (vl_I zz), .int o, .ref t]) rfl Kz) ?_
                refine jv_Wp.lift (fun _ Kz => jv_Ev.m jv_i33 (pc' := 188) (st' := [.int (I t 7), .ref 2, .int (vl_I zz), .int o, .ref t]) (G' := (jv_H K I L R)) rfl rfl (jv_m_getI ht rfl rfl rfl) Kz) ?_
                refine jv_Wp.lift (fun _ Kz => jv_Ev.c jv_i33 (pc' := 191) (S' := [.int (vl_I (M.value (I t 7).toInt)), .int (vl_I zz), .int o, .ref t]) jv_i127 [.ref 2, .int (I t 7)] rfl rfl rfl rfl (jv_cal rfl (jv_H_at hM.1) rfl rfl) rfl (vc_vsize hM (I t 7) (hmn h12)) rfl rfl Kz) ?_
                refine jv_Wp.lift (fun _ Kz => jv_Ev.steps jv_i33 1 (pc' := 192) (l' := [(8, .long (16 : Int64)), (7, .int (0 : Int32)), (5, .long ((L t 8) + o.toInt64)), (0, .ref 10), (1, .ref t), (2, .int o), (3, .int (vl_I zz)), (4, .int (vr_b wr))]) (st' := [.long (vl_I (M.value (I t 7).toInt)).toInt64, .int (vl_I zz), .int o, .ref t]) rfl Kz) ?_
                obtain ⟨I2, L2, H2, ei2, el2⟩ := vc_within (I := I) (L := L) (R := R) (n := n) (sl := sl) o (vl_I zz) (vl_I (M.value (I t 7).toInt)).toInt64 (x := t) (Or.inr ht) ho hzi (hvs _) (hlg (Or.inr h12))
                rw [ei2, el2] at H2
                refine jv_Wp.lift (fun _ Kz => jv_Ev.c jv_i33 (pc' := 195) (S' := [.int (vr_b (decide (0 ≤ (L t 4).toInt + o.toInt ∧ (L t 5).toInt + o.toInt + (vl_I zz).toInt ≤ (vl_I (M.value (I t 7).toInt)).toInt64.toInt)))]) jv_i34 [.ref t, .int o, .int (vl_I zz), .long (vl_I (M.value (I t 7).toInt)).toInt64] rfl rfl rfl rfl rfl rfl H2 rfl rfl Kz) ?_
                refine jv_Wp.cnd jv_i33 (pt := 202) (pe := 198) (p := ((vr_b (decide (0 ≤ (L t 4).toInt + o.toInt ∧ (L t 5).toInt + o.toInt + (vl_I zz).toInt ≤ (vl_I (M.value (I t 7).toInt)).toInt64.toInt))) = 0)) (q := ((vr_b (decide (0 ≤ (L t 4).toInt + o.toInt ∧ (L t 5).toInt + o.toInt + (vl_I zz).toInt ≤ (vl_I (M.value (I t 7).toInt)).toInt64.toInt))) = 0)) rfl jv_bi_eq rfl rfl Iff.rfl (fun h13 => ?_) (fun h13 => ?_)
                · refine jv_Wp.lift (fun _ Kz => jv_Ev.steps jv_i33 1 (pc' := 203) (l' := [(8, .long (16 : Int64)), (7, .int (0 : Int32)), (5, .long ((L t 8) + o.toInt64)), (0, .ref 10), (1, .ref t), (2, .int o), (3, .int (vl_I zz)), (4, .int (vr_b wr))]) (st' := [.int (4 : Int32)]) rfl Kz) ?_
                  refine jv_Wp.of (jv_Ev.ret jv_i33 rfl rfl) ?_
                  rw [hQ]
                  have s7 : (vc_T I L t).sort = 7 := (vc_is7 ok).mpr h12
                  have vv : (vc_T I L t).val = vl_S L t := vc_valv (Or.inr (Or.inr h12))
                  have hp := of_decide_eq_false (vr_b_f h13)
                  rw [ez, evs] at hp
                  have dm : (vc_T I L t).det = (I t 7).toInt := vc_detm (Or.inr (Or.inl h12))
                  have c : ¬ (0 ≤ (vc_T I L t).val.least.toInt + o.toInt ∧ (vc_T I L t).val.greatest.toInt + o.toInt + (zz : Int) ≤ (M.value (vc_T I L t).det : Int)) := by
                    rw [vv, dm]; exact hp
                  have e : vx_reach M (vc_A I L 12) (vc_T I L t) o.toInt zz wr = 4 := (vx_r7 s7).trans (if_neg c)
                  exact ⟨_, _, by rw [e]; rfl, rfl, rfl⟩
                · refine jv_Wp.lift (fun _ Kz => jv_Ev.steps jv_i33 2 (pc' := 203) (l' := [(8, .long (16 : Int64)), (7, .int (0 : Int32)), (5, .long ((L t 8) + o.toInt64)), (0, .ref 10), (1, .ref t), (2, .int o), (3, .int (vl_I zz)), (4, .int (vr_b wr))]) (st' := [.int (0 : Int32)]) rfl Kz) ?_
                  refine jv_Wp.of (jv_Ev.ret jv_i33 rfl rfl) ?_
                  rw [hQ]
                  have s7 : (vc_T I L t).sort = 7 := (vc_is7 ok).mpr h12
                  have vv : (vc_T I L t).val = vl_S L t := vc_valv (Or.inr (Or.inr h12))
                  have hp := of_decide_eq_true (vr_b_t h13)
                  rw [ez, evs] at hp
                  have dm : (vc_T I L t).det = (I t 7).toInt := vc_detm (Or.inr (Or.inl h12))
                  have c : (0 ≤ (vc_T I L t).val.least.toInt + o.toInt ∧ (vc_T I L t).val.greatest.toInt + o.toInt + (zz : Int) ≤ (M.value (vc_T I L t).det : Int)) := by
                    rw [vv, dm]; exact hp
                  have e : vx_reach M (vc_A I L 12) (vc_T I L t) o.toInt zz wr = 0 := (vx_r7 s7).trans (if_pos c)
                  exact ⟨_, _, by rw [e]; rfl, rfl, rfl⟩
              · refine jv_Wp.lift (fun _ Kz => jv_Ev.br jv_i33 (pc' := 204) (st' := []) rfl (jv_tsw_def (fun i hi h => by match i, hi, h with 
                      | 0, _, h => exact absurd h (jv_ne_toInt (k := 2) h4) 
                      | 1, _, h => exact absurd h (jv_ne_toInt (k := 3) h7) 
                      | 2, _, h => exact absurd h (jv_ne_toInt (k := 4) h10) 
                      | 3, _, _ => rfl 
                      | 4, _, _ => rfl 
                      | 5, _, h => exact absurd h (jv_ne_toInt (k := 7) h12) 
                      | i + 6, hi, _ => exact absurd hi (by simp)) rfl) Kz) ?_
                refine jv_Wp.lift (fun _ Kz => jv_Ev.steps jv_i33 1 (pc' := 205) (l' := [(8, .long (16 : Int64)), (7, .int (0 : Int32)), (5, .long ((L t 8) + o.toInt64)), (0, .ref 10), (1, .ref t), (2, .int o), (3, .int (vl_I zz)), (4, .int (vr_b wr))]) (st' := [.int (3 : Int32)]) rfl Kz) ?_
                refine jv_Wp.of (jv_Ev.ret jv_i33 rfl rfl) ?_
                rw [hQ]
                have e : vx_reach M (vc_A I L 12) (vc_T I L t) o.toInt zz wr = 3 := vx_r_ (fun z => h4 ((vc_is2 ok).mp z)) (fun z => h7 ((vc_is3 ok).mp z)) (fun z => h10 ((vc_is4 ok).mp z)) (fun z => h12 ((vc_is7 ok).mp z))
                exact ⟨_, _, by rw [e]; rfl, rfl, rfl⟩
      · refine jv_Wp.lift (fun _ Kz => jv_Ev.steps jv_i33 4 (pc' := 55) (l' := [(8, .long (0 : Int64)), (7, .int (0 : Int32)), (5, .long ((L t 8) + o.toInt64)), (0, .ref 10), (1, .ref t), (2, .int o), (3, .int (vl_I zz)), (4, .int (vr_b wr))]) (st' := [.ref t]) rfl Kz) ?_
        refine jv_Wp.lift (fun _ Kz => jv_Ev.m jv_i33 (pc' := 58) (st' := [.int (I t 6)]) (G' := (jv_H K I L R)) rfl rfl (jv_m_getI ht rfl rfl rfl) Kz) ?_
        refine jv_Wp.bys (q := ((I t 6) = Int32.ofInt 2)) (fun h14 => ?_) (fun h14 => ?_)
        · refine jv_Wp.lift (fun _ Kz => jv_Ev.br jv_i33 (pc' := 96) (st' := []) rfl (by rw [h14]; rfl) Kz) ?_
          refine jv_Wp.lift (fun _ Kz => jv_Ev.steps jv_i33 3 (pc' := 101) (l' := [(8, .long (0 : Int64)), (7, .int (0 : Int32)), (5, .long ((L t 8) + o.toInt64)), (0, .ref 10), (1, .ref t), (2, .int o), (3, .int (vl_I zz)), (4, .int (vr_b wr))]) (st' := [.int (lg_cmp ((L t 8) + o.toInt64) (0 : Int64))]) rfl Kz) ?_
          refine jv_Wp.cnd jv_i33 (pt := 124) (pe := 104) (p := ((lg_cmp ((L t 8) + o.toInt64) (0 : Int64)) < 0)) (q := (((L t 8) + o.toInt64) < (0 : Int64))) rfl jv_bi_lt rfl rfl (lg_cmp_lt ((L t 8) + o.toInt64) (0 : Int64)) (fun h15 => ?_) (fun h15 => ?_)
          · refine jv_Wp.lift (fun _ Kz => jv_Ev.steps jv_i33 1 (pc' := 125) (l' := [(8, .long (0 : Int64)), (7, .int (0 : Int32)), (5, .long ((L t 8) + o.toInt64)), (0, .ref 10), (1, .ref t), (2, .int o), (3, .int (vl_I zz)), (4, .int (vr_b wr))]) (st' := [.int (4 : Int32)]) rfl Kz) ?_
            refine jv_Wp.of (jv_Ev.ret jv_i33 rfl rfl) ?_
            rw [hQ]
            have s2 : (vc_T I L t).sort = 2 := (vc_is2 ok).mpr h14
            have fr := hfar (Or.inl h14)
            have bd : (vc_T I L t).det = (L t 8).toInt := vc_detk (Or.inl h14)
            have eA : ((L t 8) + o.toInt64).toInt = (L t 8).toInt + o.toInt := vi_add (by omega)
            have fe : ¬ ((L t 8) + o.toInt64).toInt % (zz : Int) = 0 := (not_congr (vi_even hz _)).mp h1
            have ew : ¬ wr = true := by rw [vr_b_f h2]; decide
            have f8 : zz = 8 := (vl_I_inj (by omega) (by decide)).mp (Classical.not_not.mp h3)
            have q1 : ((L t 8) + o.toInt64).toInt < 0 := Int64.lt_iff_toInt_lt.mp h15
            rw [eA] at fe
            rw [eA] at q1
            have c : ¬ ((if wr = true then 32 else if zz = 8 then 0 else 16 : Int) ≤ (vc_T I L t).det + o.toInt ∧ (vc_T I L t).det + o.toInt ≤ 64 - (zz : Int) ∧ ((vc_T I L t).det + o.toInt) % (zz : Int) = 0) := by
              rw [bd, if_neg ew, if_pos f8]
              exact fun z => by omega
            have e : vx_reach M (vc_A I L 12) (vc_T I L t) o.toInt zz wr = 4 := (vx_r2 s2).trans (if_neg c)
            exact ⟨_, _, by rw [e]; rfl, rfl, rfl⟩
          · refine jv_Wp.lift (fun _ Kz => jv_Ev.steps jv_i33 6 (pc' := 112) (l' := [(8, .long (0 : Int64)), (7, .int (0 : Int32)), (5, .long ((L t 8) + o.toInt64)), (0, .ref 10), (1, .ref t), (2, .int o), (3, .int (vl_I zz)), (4, .int (vr_b wr))]) (st' := [.int (lg_cmp ((L t 8) + o.toInt64) ((64 : Int32) - (vl_I zz)).toInt64)]) rfl Kz) ?_
            refine jv_Wp.cnd jv_i33 (pt := 124) (pe := 115) (p := (0 < (lg_cmp ((L t 8) + o.toInt64) ((64 : Int32) - (vl_I zz)).toInt64))) (q := (((64 : Int32) - (vl_I zz)).toInt64 < ((L t 8) + o.toInt64))) rfl jv_bi_gt rfl rfl (lg_cmp_gt ((L t 8) + o.toInt64) ((64 : Int32) - (vl_I zz)).toInt64) (fun h16 => ?_) (fun h16 => ?_)
            · refine jv_Wp.lift (fun _ Kz => jv_Ev.steps jv_i33 1 (pc' := 125) (l' := [(8, .long (0 : Int64)), (7, .int (0 : Int32)), (5, .long ((L t 8) + o.toInt64)), (0, .ref 10), (1, .ref t), (2, .int o), (3, .int (vl_I zz)), (4, .int (vr_b wr))]) (st' := [.int (4 : Int32)]) rfl Kz) ?_
              refine jv_Wp.of (jv_Ev.ret jv_i33 rfl rfl) ?_
              rw [hQ]
              have s2 : (vc_T I L t).sort = 2 := (vc_is2 ok).mpr h14
              have fr := hfar (Or.inl h14)
              have bd : (vc_T I L t).det = (L t 8).toInt := vc_detk (Or.inl h14)
              have eA : ((L t 8) + o.toInt64).toInt = (L t 8).toInt + o.toInt := vi_add (by omega)
              have fe : ¬ ((L t 8) + o.toInt64).toInt % (zz : Int) = 0 := (not_congr (vi_even hz _)).mp h1
              have ew : ¬ wr = true := by rw [vr_b_f h2]; decide
              have f8 : zz = 8 := (vl_I_inj (by omega) (by decide)).mp (Classical.not_not.mp h3)
              have q1 : ¬ ((L t 8) + o.toInt64).toInt < 0 := (not_congr Int64.lt_iff_toInt_lt).mp h15
              have q2 : 64 - (zz : Int) < ((L t 8) + o.toInt64).toInt := by rw [← e64]; exact Int64.lt_iff_toInt_lt.mp h16
              rw [eA] at fe
              rw [eA] at q1
              rw [eA] at q2
              have c : ¬ ((if wr = true then 32 else if zz = 8 then 0 else 16 : Int) ≤ (vc_T I L t).det + o.toInt ∧ (vc_T I L t).det + o.toInt ≤ 64 - (zz : Int) ∧ ((vc_T I L t).det + o.toInt) % (zz : Int) = 0) := by
                rw [bd, if_neg ew, if_pos f8]
                exact fun z => by omega
              have e : vx_reach M (vc_A I L 12) (vc_T I L t) o.toInt zz wr = 4 := (vx_r2 s2).trans (if_neg c)
              exact ⟨_, _, by rw [e]; rfl, rfl, rfl⟩
            · refine jv_Wp.lift (fun _ Kz => jv_Ev.steps jv_i33 1 (pc' := 117) (l' := [(8, .long (0 : Int64)), (7, .int (0 : Int32)), (5, .long ((L t 8) + o.toInt64)), (0, .ref 10), (1, .ref t), (2, .int o), (3, .int (vl_I zz)), (4, .int (vr_b wr))]) (st' := [.int (0 : Int32)]) rfl Kz) ?_
              refine jv_Wp.lift (fun _ Kz => jv_Ev.br jv_i33 (pc' := 124) (st' := []) rfl (by rfl) Kz) ?_
              refine jv_Wp.lift (fun _ Kz => jv_Ev.steps jv_i33 1 (pc' := 125) (l' := [(8, .long (0 : Int64)), (7, .int (0 : Int32)), (5, .long ((L t 8) + o.toInt64)), (0, .ref 10), (1, .ref t), (2, .int o), (3, .int (vl_I zz)), (4, .int (vr_b wr))]) (st' := [.int (4 : Int32)]) rfl Kz) ?_
              refine jv_Wp.of (jv_Ev.ret jv_i33 rfl rfl) ?_
              rw [hQ]
              have s2 : (vc_T I L t).sort = 2 := (vc_is2 ok).mpr h14
              have fr := hfar (Or.inl h14)
              have bd : (vc_T I L t).det = (L t 8).toInt := vc_detk (Or.inl h14)
              have eA : ((L t 8) + o.toInt64).toInt = (L t 8).toInt + o.toInt := vi_add (by omega)
              have fe : ¬ ((L t 8) + o.toInt64).toInt % (zz : Int) = 0 := (not_congr (vi_even hz _)).mp h1
              have ew : ¬ wr = true := by rw [vr_b_f h2]; decide
              have f8 : zz = 8 := (vl_I_inj (by omega) (by decide)).mp (Classical.not_not.mp h3)
              have q1 : ¬ ((L t 8) + o.toInt64).toInt < 0 := (not_congr Int64.lt_iff_toInt_lt).mp h15
              have q2 : ¬ 64 - (zz : Int) < ((L t 8) + o.toInt64).toInt := by rw [← e64]; exact (not_congr Int64.lt_iff_toInt_lt).mp h16
              rw [eA] at fe
              rw [eA] at q1
              rw [eA] at q2
              have c : ¬ ((if wr = true then 32 else if zz = 8 then 0 else 16 : Int) ≤ (vc_T I L t).det + o.toInt ∧ (vc_T I L t).det + o.toInt ≤ 64 - (zz : Int) ∧ ((vc_T I L t).det + o.toInt) % (zz : Int) = 0) := by
                rw [bd, if_neg ew, if_pos f8]
                exact fun z => by omega
              have e : vx_reach M (vc_A I L 12) (vc_T I L t) o.toInt zz wr = 4 := (vx_r2 s2).trans (if_neg c)
              exact ⟨_, _, by rw [e]; rfl, rfl, rfl⟩
        · refine jv_Wp.bys (q := ((I t 6) = Int32.ofInt 3)) (fun h17 => ?_) (fun h17 => ?_)
          · refine jv_Wp.lift (fun _ Kz => jv_Ev.br jv_i33 (pc' := 126) (st' := []) rfl (by rw [h17]; rfl) Kz) ?_
            refine jv_Wp.lift (fun _ Kz => jv_Ev.steps jv_i33 3 (pc' := 132) (l' := [(8, .long (0 : Int64)), (7, .int (0 : Int32)), (5, .long ((L t 8) + o.toInt64)), (0, .ref 10), (1, .ref t), (2, .int o), (3, .int (vl_I zz)), (4, .int (vr_b wr))]) (st' := [.int (lg_cmp ((L t 8) + o.toInt64) (-512 : Int64))]) rfl Kz) ?_
            refine jv_Wp.cnd jv_i33 (pt := 153) (pe := 135) (p := ((lg_cmp ((L t 8) + o.toInt64) (-512 : Int64)) < 0)) (q := (((L t 8) + o.toInt64) < (-512 : Int64))) rfl jv_bi_lt rfl rfl (lg_cmp_lt ((L t 8) + o.toInt64) (-512 : Int64)) (fun h18 => ?_) (fun h18 => ?_)
            · refine jv_Wp.lift (fun _ Kz => jv_Ev.steps jv_i33 1 (pc' := 154) (l' := [(8, .long (0 : Int64)), (7, .int (0 : Int32)), (5, .long ((L t 8) + o.toInt64)), (0, .ref 10), (1, .ref t), (2, .int o), (3, .int (vl_I zz)), (4, .int (vr_b wr))]) (st' := [.int (4 : Int32)]) rfl Kz) ?_
              refine jv_Wp.of (jv_Ev.ret jv_i33 rfl rfl) ?_
              rw [hQ]
              have s3 : (vc_T I L t).sort = 3 := (vc_is3 ok).mpr h17
              have fr := hfar (Or.inr h17)
              have bd : (vc_T I L t).det = (L t 8).toInt := vc_detk (Or.inr h17)
              have eA : ((L t 8) + o.toInt64).toInt = (L t 8).toInt + o.toInt := vi_add (by omega)
              have fe : ¬ ((L t 8) + o.toInt64).toInt % (zz : Int) = 0 := (not_congr (vi_even hz _)).mp h1
              have ew : ¬ wr = true := by rw [vr_b_f h2]; decide
              have f8 : zz = 8 := (vl_I_inj (by omega) (by decide)).mp (Classical.not_not.mp h3)
              have q1 : ((L t 8) + o.toInt64).toInt < -512 := Int64.lt_iff_toInt_lt.mp h18
              rw [eA] at fe
              rw [eA] at q1
              have c : ¬ (-512 ≤ (vc_T I L t).det + o.toInt ∧ (vc_T I L t).det + o.toInt ≤ -(zz : Int) ∧ ((vc_T I L t).det + o.toInt) % (zz : Int) = 0) := by
                rw [bd]
                exact fun z => by omega
              have e : vx_reach M (vc_A I L 12) (vc_T I L t) o.toInt zz wr = 4 := (vx_r3 s3).trans (if_neg c)
              exact ⟨_, _, by rw [e]; rfl, rfl, rfl⟩
            · refine jv_Wp.lift (fun _ Kz => jv_Ev.steps jv_i33 5 (pc' := 141) (l' := [(8, .long (0 : Int64)), (7, .int (0 : Int32)), (5, .long ((L t 8) + o.toInt64)), (0, .ref 10), (1, .ref t), (2, .int o), (3, .int (vl_I zz)), (4, .int (vr_b wr))]) (st' := [.int (lg_cmp ((L t 8) + o.toInt64) (-(vl_I zz)).toInt64)]) rfl Kz) ?_
              refine jv_Wp.cnd jv_i33 (pt := 153) (pe := 144) (p := (0 < (lg_cmp ((L t 8) + o.toInt64) (-(vl_I zz)).toInt64))) (q := ((-(vl_I zz)).toInt64 < ((L t 8) + o.toInt64))) rfl jv_bi_gt rfl rfl (lg_cmp_gt ((L t 8) + o.toInt64) (-(vl_I zz)).toInt64) (fun h19 => ?_) (fun h19 => ?_)
              · refine jv_Wp.lift (fun _ Kz => jv_Ev.steps jv_i33 1 (pc' := 154) (l' := [(8, .long (0 : Int64)), (7, .int (0 : Int32)), (5, .long ((L t 8) + o.toInt64)), (0, .ref 10), (1, .ref t), (2, .int o), (3, .int (vl_I zz)), (4, .int (vr_b wr))]) (st' := [.int (4 : Int32)]) rfl Kz) ?_
                refine jv_Wp.of (jv_Ev.ret jv_i33 rfl rfl) ?_
                rw [hQ]
                have s3 : (vc_T I L t).sort = 3 := (vc_is3 ok).mpr h17
                have fr := hfar (Or.inr h17)
                have bd : (vc_T I L t).det = (L t 8).toInt := vc_detk (Or.inr h17)
                have eA : ((L t 8) + o.toInt64).toInt = (L t 8).toInt + o.toInt := vi_add (by omega)
                have fe : ¬ ((L t 8) + o.toInt64).toInt % (zz : Int) = 0 := (not_congr (vi_even hz _)).mp h1
                have ew : ¬ wr = true := by rw [vr_b_f h2]; decide
                have f8 : zz = 8 := (vl_I_inj (by omega) (by decide)).mp (Classical.not_not.mp h3)
                have q1 : ¬ ((L t 8) + o.toInt64).toInt < -512 := (not_congr Int64.lt_iff_toInt_lt).mp h18
                have q2 : -(zz : Int) < ((L t 8) + o.toInt64).toInt := by rw [← eneg]; exact Int64.lt_iff_toInt_lt.mp h19
                rw [eA] at fe
                rw [eA] at q1
                rw [eA] at q2
                have c : ¬ (-512 ≤ (vc_T I L t).det + o.toInt ∧ (vc_T I L t).det + o.toInt ≤ -(zz : Int) ∧ ((vc_T I L t).det + o.toInt) % (zz : Int) = 0) := by
                  rw [bd]
                  exact fun z => by omega
                have e : vx_reach M (vc_A I L 12) (vc_T I L t) o.toInt zz wr = 4 := (vx_r3 s3).trans (if_neg c)
                exact ⟨_, _, by rw [e]; rfl, rfl, rfl⟩
              · refine jv_Wp.lift (fun _ Kz => jv_Ev.steps jv_i33 1 (pc' := 146) (l' := [(8, .long (0 : Int64)), (7, .int (0 : Int32)), (5, .long ((L t 8) + o.toInt64)), (0, .ref 10), (1, .ref t), (2, .int o), (3, .int (vl_I zz)), (4, .int (vr_b wr))]) (st' := [.int (0 : Int32)]) rfl Kz) ?_
                refine jv_Wp.lift (fun _ Kz => jv_Ev.br jv_i33 (pc' := 153) (st' := []) rfl (by rfl) Kz) ?_
                refine jv_Wp.lift (fun _ Kz => jv_Ev.steps jv_i33 1 (pc' := 154) (l' := [(8, .long (0 : Int64)), (7, .int (0 : Int32)), (5, .long ((L t 8) + o.toInt64)), (0, .ref 10), (1, .ref t), (2, .int o), (3, .int (vl_I zz)), (4, .int (vr_b wr))]) (st' := [.int (4 : Int32)]) rfl Kz) ?_
                refine jv_Wp.of (jv_Ev.ret jv_i33 rfl rfl) ?_
                rw [hQ]
                have s3 : (vc_T I L t).sort = 3 := (vc_is3 ok).mpr h17
                have fr := hfar (Or.inr h17)
                have bd : (vc_T I L t).det = (L t 8).toInt := vc_detk (Or.inr h17)
                have eA : ((L t 8) + o.toInt64).toInt = (L t 8).toInt + o.toInt := vi_add (by omega)
                have fe : ¬ ((L t 8) + o.toInt64).toInt % (zz : Int) = 0 := (not_congr (vi_even hz _)).mp h1
                have ew : ¬ wr = true := by rw [vr_b_f h2]; decide
                have f8 : zz = 8 := (vl_I_inj (by omega) (by decide)).mp (Classical.not_not.mp h3)
                have q1 : ¬ ((L t 8) + o.toInt64).toInt < -512 := (not_congr Int64.lt_iff_toInt_lt).mp h18
                have q2 : ¬ -(zz : Int) < ((L t 8) + o.toInt64).toInt := by rw [← eneg]; exact (not_congr Int64.lt_iff_toInt_lt).mp h19
                rw [eA] at fe
                rw [eA] at q1
                rw [eA] at q2
                have c : ¬ (-512 ≤ (vc_T I L t).det + o.toInt ∧ (vc_T I L t).det + o.toInt ≤ -(zz : Int) ∧ ((vc_T I L t).det + o.toInt) % (zz : Int) = 0) := by
                  rw [bd]
                  exact fun z => by omega
                have e : vx_reach M (vc_A I L 12) (vc_T I L t) o.toInt zz wr = 4 := (vx_r3 s3).trans (if_neg c)
                exact ⟨_, _, by rw [e]; rfl, rfl, rfl⟩
          · refine jv_Wp.bys (q := ((I t 6) = Int32.ofInt 4)) (fun h20 => ?_) (fun h20 => ?_)
            · refine jv_Wp.lift (fun _ Kz => jv_Ev.br jv_i33 (pc' := 155) (st' := []) rfl (by rw [h20]; rfl) Kz) ?_
              refine jv_Wp.lift (fun _ Kz => jv_Ev.steps jv_i33 4 (pc' := 159) (l' := [(8, .long (0 : Int64)), (7, .int (0 : Int32)), (5, .long ((L t 8) + o.toInt64)), (0, .ref 10), (1, .ref t), (2, .int o), (3, .int (vl_I zz)), (4, .int (vr_b wr))]) (st' := [.ref 10, .int (vl_I zz), .int o, .ref t]) rfl Kz) ?_
              refine jv_Wp.lift (fun _ Kz => jv_Ev.m jv_i33 (pc' := 162) (st' := [.ref 12, .int (vl_I zz), .int o, .ref t]) (G' := (jv_H K I L R)) rfl rfl (jv_m_getR hC.k rfl rfl hC.rnow) Kz) ?_
              refine jv_Wp.lift (fun _ Kz => jv_Ev.m jv_i33 (pc' := 165) (st' := [.long (L 12 1), .int (vl_I zz), .int o, .ref t]) (G' := (jv_H K I L R)) rfl rfl (jv_m_getL hC.now.k rfl rfl rfl) Kz) ?_
              obtain ⟨I3, L3, H3, ei3, el3⟩ := vc_within (I := I) (L := L) (R := R) (n := n) (sl := sl) o (vl_I zz) (L 12 1) (x := t) (Or.inr ht) ho hzi hkn (hlg (Or.inl h20))
              rw [ei3, el3] at H3
              refine jv_Wp.lift (fun _ Kz => jv_Ev.c jv_i33 (pc' := 168) (S' := [.int (vr_b (decide (0 ≤ (L t 4).toInt + o.toInt ∧ (L t 5).toInt + o.toInt + (vl_I zz).toInt ≤ (L 12 1).toInt)))]) jv_i34 [.ref t, .int o, .int (vl_I zz), .long (L 12 1)] rfl rfl rfl rfl rfl rfl H3 rfl rfl Kz) ?_
              refine jv_Wp.cnd jv_i33 (pt := 175) (pe := 171) (p := ((vr_b (decide (0 ≤ (L t 4).toInt + o.toInt ∧ (L t 5).toInt + o.toInt + (vl_I zz).toInt ≤ (L 12 1).toInt))) = 0)) (q := ((vr_b (decide (0 ≤ (L t 4).toInt + o.toInt ∧ (L t 5).toInt + o.toInt + (vl_I zz).toInt ≤ (L 12 1).toInt))) = 0)) rfl jv_bi_eq rfl rfl Iff.rfl (fun h21 => ?_) (fun h21 => ?_)
              · refine jv_Wp.lift (fun _ Kz => jv_Ev.steps jv_i33 1 (pc' := 176) (l' := [(8, .long (0 : Int64)), (7, .int (0 : Int32)), (5, .long ((L t 8) + o.toInt64)), (0, .ref 10), (1, .ref t), (2, .int o), (3, .int (vl_I zz)), (4, .int (vr_b wr))]) (st' := [.int (4 : Int32)]) rfl Kz) ?_
                refine jv_Wp.of (jv_Ev.ret jv_i33 rfl rfl) ?_
                rw [hQ]
                have s4 : (vc_T I L t).sort = 4 := (vc_is4 ok).mpr h20
                have vv : (vc_T I L t).val = vl_S L t := vc_valv (Or.inr (Or.inl h20))
                have hp := of_decide_eq_false (vr_b_f h21)
                rw [ez] at hp
                have c : ¬ (0 ≤ (vc_T I L t).val.least.toInt + o.toInt ∧ (vc_T I L t).val.greatest.toInt + o.toInt + (zz : Int) ≤ (vc_A I L 12).2) := by
                  rw [vv]; exact hp
                have e : vx_reach M (vc_A I L 12) (vc_T I L t) o.toInt zz wr = 4 := (vx_r4 s4).trans (if_neg c)
                exact ⟨_, _, by rw [e]; rfl, rfl, rfl⟩
              · refine jv_Wp.lift (fun _ Kz => jv_Ev.steps jv_i33 2 (pc' := 176) (l' := [(8, .long (0 : Int64)), (7, .int (0 : Int32)), (5, .long ((L t 8) + o.toInt64)), (0, .ref 10), (1, .ref t), (2, .int o), (3, .int (vl_I zz)), (4, .int (vr_b wr))]) (st' := [.int (0 : Int32)]) rfl Kz) ?_
                refine jv_Wp.of (jv_Ev.ret jv_i33 rfl rfl) ?_
                rw [hQ]
                have s4 : (vc_T I L t).sort = 4 := (vc_is4 ok).mpr h20
                have vv : (vc_T I L t).val = vl_S L t := vc_valv (Or.inr (Or.inl h20))
                have hp := of_decide_eq_true (vr_b_t h21)
                rw [ez] at hp
                have c : (0 ≤ (vc_T I L t).val.least.toInt + o.toInt ∧ (vc_T I L t).val.greatest.toInt + o.toInt + (zz : Int) ≤ (vc_A I L 12).2) := by
                  rw [vv]; exact hp
                have e : vx_reach M (vc_A I L 12) (vc_T I L t) o.toInt zz wr = 0 := (vx_r4 s4).trans (if_pos c)
                exact ⟨_, _, by rw [e]; rfl, rfl, rfl⟩
            · refine jv_Wp.bys (q := ((I t 6) = Int32.ofInt 7)) (fun h22 => ?_) (fun h22 => ?_)
              · refine jv_Wp.lift (fun _ Kz => jv_Ev.br jv_i33 (pc' := 177) (st' := []) rfl (by rw [h22]; rfl) Kz) ?_
                refine jv_Wp.lift (fun _ Kz => jv_Ev.steps jv_i33 4 (pc' := 181) (l' := [(8, .long (0 : Int64)), (7, .int (0 : Int32)), (5, .long ((L t 8) + o.toInt64)), (0, .ref 10), (1, .ref t), (2, .int o), (3, .int (vl_I zz)), (4, .int (vr_b wr))]) (st' := [.ref 10, .int (vl_I zz), .int o, .ref t]) rfl Kz) ?_
                refine jv_Wp.lift (fun _ Kz => jv_Ev.m jv_i33 (pc' := 184) (st' := [.ref 2, .int (vl_I zz), .int o, .ref t]) (G' := (jv_H K I L R)) rfl rfl (jv_m_getR hC.k rfl rfl hC.rstore) Kz) ?_
                refine jv_Wp.lift (fun _ Kz => jv_Ev.steps jv_i33 1 (pc' := 185) (l' := [(8, .long (0 : Int64)), (7, .int (0 : Int32)), (5, .long ((L t 8) + o.toInt64)), (0, .ref 10), (1, .ref t), (2, .int o), (3, .int (vl_I zz)), (4, .int (vr_b wr))]) (st' := [.ref t, .ref 2, .int (vl_I zz), .int o, .ref t]) rfl Kz) ?_
                refine jv_Wp.lift (fun _ Kz => jv_Ev.m jv_i33 (pc' := 188) (st' := [.int (I t 7), .ref 2, .int (vl_I zz), .int o, .ref t]) (G' := (jv_H K I L R)) rfl rfl (jv_m_getI ht rfl rfl rfl) Kz) ?_
                refine jv_Wp.lift (fun _ Kz => jv_Ev.c jv_i33 (pc' := 191) (S' := [.int (vl_I (M.value (I t 7).toInt)), .int (vl_I zz), .int o, .ref t]) jv_i127 [.ref 2, .int (I t 7)] rfl rfl rfl rfl (jv_cal rfl (jv_H_at hM.1) rfl rfl) rfl (vc_vsize hM (I t 7) (hmn h22)) rfl rfl Kz) ?_
                refine jv_Wp.lift (fun _ Kz => jv_Ev.steps jv_i33 1 (pc' := 192) (l' := [(8, .long (0 : Int64)), (7, .int (0 : Int32)), (5, .long ((L t 8) + o.toInt64)), (0, .ref 10), (1, .ref t), (2, .int o), (3, .int (vl_I zz)), (4, .int (vr_b wr))]) (st' := [.long (vl_I (M.value (I t 7).toInt)).toInt64, .int (vl_I zz), .int o, .ref t]) rfl Kz) ?_
                obtain ⟨I4, L4, H4, ei4, el4⟩ := vc_within (I := I) (L := L) (R := R) (n := n) (sl := sl) o (vl_I zz) (vl_I (M.value (I t 7).toInt)).toInt64 (x := t) (Or.inr ht) ho hzi (hvs _) (hlg (Or.inr h22))
                rw [ei4, el4] at H4
                refine jv_Wp.lift (fun _ Kz => jv_Ev.c jv_i33 (pc' := 195) (S' := [.int (vr_b (decide (0 ≤ (L t 4).toInt + o.toInt ∧ (L t 5).toInt + o.toInt + (vl_I zz).toInt ≤ (vl_I (M.value (I t 7).toInt)).toInt64.toInt)))]) jv_i34 [.ref t, .int o, .int (vl_I zz), .long (vl_I (M.value (I t 7).toInt)).toInt64] rfl rfl rfl rfl rfl rfl H4 rfl rfl Kz) ?_
                refine jv_Wp.cnd jv_i33 (pt := 202) (pe := 198) (p := ((vr_b (decide (0 ≤ (L t 4).toInt + o.toInt ∧ (L t 5).toInt + o.toInt + (vl_I zz).toInt ≤ (vl_I (M.value (I t 7).toInt)).toInt64.toInt))) = 0)) (q := ((vr_b (decide (0 ≤ (L t 4).toInt + o.toInt ∧ (L t 5).toInt + o.toInt + (vl_I zz).toInt ≤ (vl_I (M.value (I t 7).toInt)).toInt64.toInt))) = 0)) rfl jv_bi_eq rfl rfl Iff.rfl (fun h23 => ?_) (fun h23 => ?_)
                · refine jv_Wp.lift (fun _ Kz => jv_Ev.steps jv_i33 1 (pc' := 203) (l' := [(8, .long (0 : Int64)), (7, .int (0 : Int32)), (5, .long ((L t 8) + o.toInt64)), (0, .ref 10), (1, .ref t), (2, .int o), (3, .int (vl_I zz)), (4, .int (vr_b wr))]) (st' := [.int (4 : Int32)]) rfl Kz) ?_
                  refine jv_Wp.of (jv_Ev.ret jv_i33 rfl rfl) ?_
                  rw [hQ]
                  have s7 : (vc_T I L t).sort = 7 := (vc_is7 ok).mpr h22
                  have vv : (vc_T I L t).val = vl_S L t := vc_valv (Or.inr (Or.inr h22))
                  have hp := of_decide_eq_false (vr_b_f h23)
                  rw [ez, evs] at hp
                  have dm : (vc_T I L t).det = (I t 7).toInt := vc_detm (Or.inr (Or.inl h22))
                  have c : ¬ (0 ≤ (vc_T I L t).val.least.toInt + o.toInt ∧ (vc_T I L t).val.greatest.toInt + o.toInt + (zz : Int) ≤ (M.value (vc_T I L t).det : Int)) := by
                    rw [vv, dm]; exact hp
                  have e : vx_reach M (vc_A I L 12) (vc_T I L t) o.toInt zz wr = 4 := (vx_r7 s7).trans (if_neg c)
                  exact ⟨_, _, by rw [e]; rfl, rfl, rfl⟩
                · refine jv_Wp.lift (fun _ Kz => jv_Ev.steps jv_i33 2 (pc' := 203) (l' := [(8, .long (0 : Int64)), (7, .int (0 : Int32)), (5, .long ((L t 8) + o.toInt64)), (0, .ref 10), (1, .ref t), (2, .int o), (3, .int (vl_I zz)), (4, .int (vr_b wr))]) (st' := [.int (0 : Int32)]) rfl Kz) ?_
                  refine jv_Wp.of (jv_Ev.ret jv_i33 rfl rfl) ?_
                  rw [hQ]
                  have s7 : (vc_T I L t).sort = 7 := (vc_is7 ok).mpr h22
                  have vv : (vc_T I L t).val = vl_S L t := vc_valv (Or.inr (Or.inr h22))
                  have hp := of_decide_eq_true (vr_b_t h23)
                  rw [ez, evs] at hp
                  have dm : (vc_T I L t).det = (I t 7).toInt := vc_detm (Or.inr (Or.inl h22))
                  have c : (0 ≤ (vc_T I L t).val.least.toInt + o.toInt ∧ (vc_T I L t).val.greatest.toInt + o.toInt + (zz : Int) ≤ (M.value (vc_T I L t).det : Int)) := by
                    rw [vv, dm]; exact hp
                  have e : vx_reach M (vc_A I L 12) (vc_T I L t) o.toInt zz wr = 0 := (vx_r7 s7).trans (if_pos c)
                  exact ⟨_, _, by rw [e]; rfl, rfl, rfl⟩
              · refine jv_Wp.lift (fun _ Kz => jv_Ev.br jv_i33 (pc' := 204) (st' := []) rfl (jv_tsw_def (fun i hi h => by match i, hi, h with 
                      | 0, _, h => exact absurd h (jv_ne_toInt (k := 2) h14) 
                      | 1, _, h => exact absurd h (jv_ne_toInt (k := 3) h17) 
                      | 2, _, h => exact absurd h (jv_ne_toInt (k := 4) h20) 
                      | 3, _, _ => rfl 
                      | 4, _, _ => rfl 
                      | 5, _, h => exact absurd h (jv_ne_toInt (k := 7) h22) 
                      | i + 6, hi, _ => exact absurd hi (by simp)) rfl) Kz) ?_
                refine jv_Wp.lift (fun _ Kz => jv_Ev.steps jv_i33 1 (pc' := 205) (l' := [(8, .long (0 : Int64)), (7, .int (0 : Int32)), (5, .long ((L t 8) + o.toInt64)), (0, .ref 10), (1, .ref t), (2, .int o), (3, .int (vl_I zz)), (4, .int (vr_b wr))]) (st' := [.int (3 : Int32)]) rfl Kz) ?_
                refine jv_Wp.of (jv_Ev.ret jv_i33 rfl rfl) ?_
                rw [hQ]
                have e : vx_reach M (vc_A I L 12) (vc_T I L t) o.toInt zz wr = 3 := vx_r_ (fun z => h14 ((vc_is2 ok).mp z)) (fun z => h17 ((vc_is3 ok).mp z)) (fun z => h20 ((vc_is4 ok).mp z)) (fun z => h22 ((vc_is7 ok).mp z))
                exact ⟨_, _, by rw [e]; rfl, rfl, rfl⟩
    · refine jv_Wp.lift (fun _ Kz => jv_Ev.steps jv_i33 4 (pc' := 55) (l' := [(8, .long (32 : Int64)), (7, .int (0 : Int32)), (5, .long ((L t 8) + o.toInt64)), (0, .ref 10), (1, .ref t), (2, .int o), (3, .int (vl_I zz)), (4, .int (vr_b wr))]) (st' := [.ref t]) rfl Kz) ?_
      refine jv_Wp.lift (fun _ Kz => jv_Ev.m jv_i33 (pc' := 58) (st' := [.int (I t 6)]) (G' := (jv_H K I L R)) rfl rfl (jv_m_getI ht rfl rfl rfl) Kz) ?_
      refine jv_Wp.bys (q := ((I t 6) = Int32.ofInt 2)) (fun h24 => ?_) (fun h24 => ?_)
      · refine jv_Wp.lift (fun _ Kz => jv_Ev.br jv_i33 (pc' := 96) (st' := []) rfl (by rw [h24]; rfl) Kz) ?_
        refine jv_Wp.lift (fun _ Kz => jv_Ev.steps jv_i33 3 (pc' := 101) (l' := [(8, .long (32 : Int64)), (7, .int (0 : Int32)), (5, .long ((L t 8) + o.toInt64)), (0, .ref 10), (1, .ref t), (2, .int o), (3, .int (vl_I zz)), (4, .int (vr_b wr))]) (st' := [.int (lg_cmp ((L t 8) + o.toInt64) (32 : Int64))]) rfl Kz) ?_
        refine jv_Wp.cnd jv_i33 (pt := 124) (pe := 104) (p := ((lg_cmp ((L t 8) + o.toInt64) (32 : Int64)) < 0)) (q := (((L t 8) + o.toInt64) < (32 : Int64))) rfl jv_bi_lt rfl rfl (lg_cmp_lt ((L t 8) + o.toInt64) (32 : Int64)) (fun h25 => ?_) (fun h25 => ?_)
        · refine jv_Wp.lift (fun _ Kz => jv_Ev.steps jv_i33 1 (pc' := 125) (l' := [(8, .long (32 : Int64)), (7, .int (0 : Int32)), (5, .long ((L t 8) + o.toInt64)), (0, .ref 10), (1, .ref t), (2, .int o), (3, .int (vl_I zz)), (4, .int (vr_b wr))]) (st' := [.int (4 : Int32)]) rfl Kz) ?_
          refine jv_Wp.of (jv_Ev.ret jv_i33 rfl rfl) ?_
          rw [hQ]
          have s2 : (vc_T I L t).sort = 2 := (vc_is2 ok).mpr h24
          have fr := hfar (Or.inl h24)
          have bd : (vc_T I L t).det = (L t 8).toInt := vc_detk (Or.inl h24)
          have eA : ((L t 8) + o.toInt64).toInt = (L t 8).toInt + o.toInt := vi_add (by omega)
          have fe : ¬ ((L t 8) + o.toInt64).toInt % (zz : Int) = 0 := (not_congr (vi_even hz _)).mp h1
          have ew : wr = true := vr_b_t h2
          have q1 : ((L t 8) + o.toInt64).toInt < 32 := Int64.lt_iff_toInt_lt.mp h25
          rw [eA] at fe
          rw [eA] at q1
          have c : ¬ ((if wr = true then 32 else if zz = 8 then 0 else 16 : Int) ≤ (vc_T I L t).det + o.toInt ∧ (vc_T I L t).det + o.toInt ≤ 64 - (zz : Int) ∧ ((vc_T I L t).det + o.toInt) % (zz : Int) = 0) := by
            rw [bd, if_pos ew]
            exact fun z => by omega
          have e : vx_reach M (vc_A I L 12) (vc_T I L t) o.toInt zz wr = 4 := (vx_r2 s2).trans (if_neg c)
          exact ⟨_, _, by rw [e]; rfl, rfl, rfl⟩
        · refine jv_Wp.lift (fun _ Kz => jv_Ev.steps jv_i33 6 (pc' := 112) (l' := [(8, .long (32 : Int64)), (7, .int (0 : Int32)), (5, .long ((L t 8) + o.toInt64)), (0, .ref 10), (1, .ref t), (2, .int o), (3, .int (vl_I zz)), (4, .int (vr_b wr))]) (st' := [.int (lg_cmp ((L t 8) + o.toInt64) ((64 : Int32) - (vl_I zz)).toInt64)]) rfl Kz) ?_
          refine jv_Wp.cnd jv_i33 (pt := 124) (pe := 115) (p := (0 < (lg_cmp ((L t 8) + o.toInt64) ((64 : Int32) - (vl_I zz)).toInt64))) (q := (((64 : Int32) - (vl_I zz)).toInt64 < ((L t 8) + o.toInt64))) rfl jv_bi_gt rfl rfl (lg_cmp_gt ((L t 8) + o.toInt64) ((64 : Int32) - (vl_I zz)).toInt64) (fun h26 => ?_) (fun h26 => ?_)
          · refine jv_Wp.lift (fun _ Kz => jv_Ev.steps jv_i33 1 (pc' := 125) (l' := [(8, .long (32 : Int64)), (7, .int (0 : Int32)), (5, .long ((L t 8) + o.toInt64)), (0, .ref 10), (1, .ref t), (2, .int o), (3, .int (vl_I zz)), (4, .int (vr_b wr))]) (st' := [.int (4 : Int32)]) rfl Kz) ?_
            refine jv_Wp.of (jv_Ev.ret jv_i33 rfl rfl) ?_
            rw [hQ]
            have s2 : (vc_T I L t).sort = 2 := (vc_is2 ok).mpr h24
            have fr := hfar (Or.inl h24)
            have bd : (vc_T I L t).det = (L t 8).toInt := vc_detk (Or.inl h24)
            have eA : ((L t 8) + o.toInt64).toInt = (L t 8).toInt + o.toInt := vi_add (by omega)
            have fe : ¬ ((L t 8) + o.toInt64).toInt % (zz : Int) = 0 := (not_congr (vi_even hz _)).mp h1
            have ew : wr = true := vr_b_t h2
            have q1 : ¬ ((L t 8) + o.toInt64).toInt < 32 := (not_congr Int64.lt_iff_toInt_lt).mp h25
            have q2 : 64 - (zz : Int) < ((L t 8) + o.toInt64).toInt := by rw [← e64]; exact Int64.lt_iff_toInt_lt.mp h26
            rw [eA] at fe
            rw [eA] at q1
            rw [eA] at q2
            have c : ¬ ((if wr = true then 32 else if zz = 8 then 0 else 16 : Int) ≤ (vc_T I L t).det + o.toInt ∧ (vc_T I L t).det + o.toInt ≤ 64 - (zz : Int) ∧ ((vc_T I L t).det + o.toInt) % (zz : Int) = 0) := by
              rw [bd, if_pos ew]
              exact fun z => by omega
            have e : vx_reach M (vc_A I L 12) (vc_T I L t) o.toInt zz wr = 4 := (vx_r2 s2).trans (if_neg c)
            exact ⟨_, _, by rw [e]; rfl, rfl, rfl⟩
          · refine jv_Wp.lift (fun _ Kz => jv_Ev.steps jv_i33 1 (pc' := 117) (l' := [(8, .long (32 : Int64)), (7, .int (0 : Int32)), (5, .long ((L t 8) + o.toInt64)), (0, .ref 10), (1, .ref t), (2, .int o), (3, .int (vl_I zz)), (4, .int (vr_b wr))]) (st' := [.int (0 : Int32)]) rfl Kz) ?_
            refine jv_Wp.lift (fun _ Kz => jv_Ev.br jv_i33 (pc' := 124) (st' := []) rfl (by rfl) Kz) ?_
            refine jv_Wp.lift (fun _ Kz => jv_Ev.steps jv_i33 1 (pc' := 125) (l' := [(8, .long (32 : Int64)), (7, .int (0 : Int32)), (5, .long ((L t 8) + o.toInt64)), (0, .ref 10), (1, .ref t), (2, .int o), (3, .int (vl_I zz)), (4, .int (vr_b wr))]) (st' := [.int (4 : Int32)]) rfl Kz) ?_
            refine jv_Wp.of (jv_Ev.ret jv_i33 rfl rfl) ?_
            rw [hQ]
            have s2 : (vc_T I L t).sort = 2 := (vc_is2 ok).mpr h24
            have fr := hfar (Or.inl h24)
            have bd : (vc_T I L t).det = (L t 8).toInt := vc_detk (Or.inl h24)
            have eA : ((L t 8) + o.toInt64).toInt = (L t 8).toInt + o.toInt := vi_add (by omega)
            have fe : ¬ ((L t 8) + o.toInt64).toInt % (zz : Int) = 0 := (not_congr (vi_even hz _)).mp h1
            have ew : wr = true := vr_b_t h2
            have q1 : ¬ ((L t 8) + o.toInt64).toInt < 32 := (not_congr Int64.lt_iff_toInt_lt).mp h25
            have q2 : ¬ 64 - (zz : Int) < ((L t 8) + o.toInt64).toInt := by rw [← e64]; exact (not_congr Int64.lt_iff_toInt_lt).mp h26
            rw [eA] at fe
            rw [eA] at q1
            rw [eA] at q2
            have c : ¬ ((if wr = true then 32 else if zz = 8 then 0 else 16 : Int) ≤ (vc_T I L t).det + o.toInt ∧ (vc_T I L t).det + o.toInt ≤ 64 - (zz : Int) ∧ ((vc_T I L t).det + o.toInt) % (zz : Int) = 0) := by
              rw [bd, if_pos ew]
              exact fun z => by omega
            have e : vx_reach M (vc_A I L 12) (vc_T I L t) o.toInt zz wr = 4 := (vx_r2 s2).trans (if_neg c)
            exact ⟨_, _, by rw [e]; rfl, rfl, rfl⟩
      · refine jv_Wp.bys (q := ((I t 6) = Int32.ofInt 3)) (fun h27 => ?_) (fun h27 => ?_)
        · refine jv_Wp.lift (fun _ Kz => jv_Ev.br jv_i33 (pc' := 126) (st' := []) rfl (by rw [h27]; rfl) Kz) ?_
          refine jv_Wp.lift (fun _ Kz => jv_Ev.steps jv_i33 3 (pc' := 132) (l' := [(8, .long (32 : Int64)), (7, .int (0 : Int32)), (5, .long ((L t 8) + o.toInt64)), (0, .ref 10), (1, .ref t), (2, .int o), (3, .int (vl_I zz)), (4, .int (vr_b wr))]) (st' := [.int (lg_cmp ((L t 8) + o.toInt64) (-512 : Int64))]) rfl Kz) ?_
          refine jv_Wp.cnd jv_i33 (pt := 153) (pe := 135) (p := ((lg_cmp ((L t 8) + o.toInt64) (-512 : Int64)) < 0)) (q := (((L t 8) + o.toInt64) < (-512 : Int64))) rfl jv_bi_lt rfl rfl (lg_cmp_lt ((L t 8) + o.toInt64) (-512 : Int64)) (fun h28 => ?_) (fun h28 => ?_)
          · refine jv_Wp.lift (fun _ Kz => jv_Ev.steps jv_i33 1 (pc' := 154) (l' := [(8, .long (32 : Int64)), (7, .int (0 : Int32)), (5, .long ((L t 8) + o.toInt64)), (0, .ref 10), (1, .ref t), (2, .int o), (3, .int (vl_I zz)), (4, .int (vr_b wr))]) (st' := [.int (4 : Int32)]) rfl Kz) ?_
            refine jv_Wp.of (jv_Ev.ret jv_i33 rfl rfl) ?_
            rw [hQ]
            have s3 : (vc_T I L t).sort = 3 := (vc_is3 ok).mpr h27
            have fr := hfar (Or.inr h27)
            have bd : (vc_T I L t).det = (L t 8).toInt := vc_detk (Or.inr h27)
            have eA : ((L t 8) + o.toInt64).toInt = (L t 8).toInt + o.toInt := vi_add (by omega)
            have fe : ¬ ((L t 8) + o.toInt64).toInt % (zz : Int) = 0 := (not_congr (vi_even hz _)).mp h1
            have ew : wr = true := vr_b_t h2
            have q1 : ((L t 8) + o.toInt64).toInt < -512 := Int64.lt_iff_toInt_lt.mp h28
            rw [eA] at fe
            rw [eA] at q1
            have c : ¬ (-512 ≤ (vc_T I L t).det + o.toInt ∧ (vc_T I L t).det + o.toInt ≤ -(zz : Int) ∧ ((vc_T I L t).det + o.toInt) % (zz : Int) = 0) := by
              rw [bd]
              exact fun z => by omega
            have e : vx_reach M (vc_A I L 12) (vc_T I L t) o.toInt zz wr = 4 := (vx_r3 s3).trans (if_neg c)
            exact ⟨_, _, by rw [e]; rfl, rfl, rfl⟩
          · refine jv_Wp.lift (fun _ Kz => jv_Ev.steps jv_i33 5 (pc' := 141) (l' := [(8, .long (32 : Int64)), (7, .int (0 : Int32)), (5, .long ((L t 8) + o.toInt64)), (0, .ref 10), (1, .ref t), (2, .int o), (3, .int (vl_I zz)), (4, .int (vr_b wr))]) (st' := [.int (lg_cmp ((L t 8) + o.toInt64) (-(vl_I zz)).toInt64)]) rfl Kz) ?_
            refine jv_Wp.cnd jv_i33 (pt := 153) (pe := 144) (p := (0 < (lg_cmp ((L t 8) + o.toInt64) (-(vl_I zz)).toInt64))) (q := ((-(vl_I zz)).toInt64 < ((L t 8) + o.toInt64))) rfl jv_bi_gt rfl rfl (lg_cmp_gt ((L t 8) + o.toInt64) (-(vl_I zz)).toInt64) (fun h29 => ?_) (fun h29 => ?_)
            · refine jv_Wp.lift (fun _ Kz => jv_Ev.steps jv_i33 1 (pc' := 154) (l' := [(8, .long (32 : Int64)), (7, .int (0 : Int32)), (5, .long ((L t 8) + o.toInt64)), (0, .ref 10), (1, .ref t), (2, .int o), (3, .int (vl_I zz)), (4, .int (vr_b wr))]) (st' := [.int (4 : Int32)]) rfl Kz) ?_
              refine jv_Wp.of (jv_Ev.ret jv_i33 rfl rfl) ?_
              rw [hQ]
              have s3 : (vc_T I L t).sort = 3 := (vc_is3 ok).mpr h27
              have fr := hfar (Or.inr h27)
              have bd : (vc_T I L t).det = (L t 8).toInt := vc_detk (Or.inr h27)
              have eA : ((L t 8) + o.toInt64).toInt = (L t 8).toInt + o.toInt := vi_add (by omega)
              have fe : ¬ ((L t 8) + o.toInt64).toInt % (zz : Int) = 0 := (not_congr (vi_even hz _)).mp h1
              have ew : wr = true := vr_b_t h2
              have q1 : ¬ ((L t 8) + o.toInt64).toInt < -512 := (not_congr Int64.lt_iff_toInt_lt).mp h28
              have q2 : -(zz : Int) < ((L t 8) + o.toInt64).toInt := by rw [← eneg]; exact Int64.lt_iff_toInt_lt.mp h29
              rw [eA] at fe
              rw [eA] at q1
              rw [eA] at q2
              have c : ¬ (-512 ≤ (vc_T I L t).det + o.toInt ∧ (vc_T I L t).det + o.toInt ≤ -(zz : Int) ∧ ((vc_T I L t).det + o.toInt) % (zz : Int) = 0) := by
                rw [bd]
                exact fun z => by omega
              have e : vx_reach M (vc_A I L 12) (vc_T I L t) o.toInt zz wr = 4 := (vx_r3 s3).trans (if_neg c)
              exact ⟨_, _, by rw [e]; rfl, rfl, rfl⟩
            · refine jv_Wp.lift (fun _ Kz => jv_Ev.steps jv_i33 1 (pc' := 146) (l' := [(8, .long (32 : Int64)), (7, .int (0 : Int32)), (5, .long ((L t 8) + o.toInt64)), (0, .ref 10), (1, .ref t), (2, .int o), (3, .int (vl_I zz)), (4, .int (vr_b wr))]) (st' := [.int (0 : Int32)]) rfl Kz) ?_
              refine jv_Wp.lift (fun _ Kz => jv_Ev.br jv_i33 (pc' := 153) (st' := []) rfl (by rfl) Kz) ?_
              refine jv_Wp.lift (fun _ Kz => jv_Ev.steps jv_i33 1 (pc' := 154) (l' := [(8, .long (32 : Int64)), (7, .int (0 : Int32)), (5, .long ((L t 8) + o.toInt64)), (0, .ref 10), (1, .ref t), (2, .int o), (3, .int (vl_I zz)), (4, .int (vr_b wr))]) (st' := [.int (4 : Int32)]) rfl Kz) ?_
              refine jv_Wp.of (jv_Ev.ret jv_i33 rfl rfl) ?_
              rw [hQ]
              have s3 : (vc_T I L t).sort = 3 := (vc_is3 ok).mpr h27
              have fr := hfar (Or.inr h27)
              have bd : (vc_T I L t).det = (L t 8).toInt := vc_detk (Or.inr h27)
              have eA : ((L t 8) + o.toInt64).toInt = (L t 8).toInt + o.toInt := vi_add (by omega)
              have fe : ¬ ((L t 8) + o.toInt64).toInt % (zz : Int) = 0 := (not_congr (vi_even hz _)).mp h1
              have ew : wr = true := vr_b_t h2
              have q1 : ¬ ((L t 8) + o.toInt64).toInt < -512 := (not_congr Int64.lt_iff_toInt_lt).mp h28
              have q2 : ¬ -(zz : Int) < ((L t 8) + o.toInt64).toInt := by rw [← eneg]; exact (not_congr Int64.lt_iff_toInt_lt).mp h29
              rw [eA] at fe
              rw [eA] at q1
              rw [eA] at q2
              have c : ¬ (-512 ≤ (vc_T I L t).det + o.toInt ∧ (vc_T I L t).det + o.toInt ≤ -(zz : Int) ∧ ((vc_T I L t).det + o.toInt) % (zz : Int) = 0) := by
                rw [bd]
                exact fun z => by omega
              have e : vx_reach M (vc_A I L 12) (vc_T I L t) o.toInt zz wr = 4 := (vx_r3 s3).trans (if_neg c)
              exact ⟨_, _, by rw [e]; rfl, rfl, rfl⟩
        · refine jv_Wp.bys (q := ((I t 6) = Int32.ofInt 4)) (fun h30 => ?_) (fun h30 => ?_)
          · refine jv_Wp.lift (fun _ Kz => jv_Ev.br jv_i33 (pc' := 155) (st' := []) rfl (by rw [h30]; rfl) Kz) ?_
            refine jv_Wp.lift (fun _ Kz => jv_Ev.steps jv_i33 4 (pc' := 159) (l' := [(8, .long (32 : Int64)), (7, .int (0 : Int32)), (5, .long ((L t 8) + o.toInt64)), (0, .ref 10), (1, .ref t), (2, .int o), (3, .int (vl_I zz)), (4, .int (vr_b wr))]) (st' := [.ref 10, .int (vl_I zz), .int o, .ref t]) rfl Kz) ?_
            refine jv_Wp.lift (fun _ Kz => jv_Ev.m jv_i33 (pc' := 162) (st' := [.ref 12, .int (vl_I zz), .int o, .ref t]) (G' := (jv_H K I L R)) rfl rfl (jv_m_getR hC.k rfl rfl hC.rnow) Kz) ?_
            refine jv_Wp.lift (fun _ Kz => jv_Ev.m jv_i33 (pc' := 165) (st' := [.long (L 12 1), .int (vl_I zz), .int o, .ref t]) (G' := (jv_H K I L R)) rfl rfl (jv_m_getL hC.now.k rfl rfl rfl) Kz) ?_
            obtain ⟨I5, L5, H5, ei5, el5⟩ := vc_within (I := I) (L := L) (R := R) (n := n) (sl := sl) o (vl_I zz) (L 12 1) (x := t) (Or.inr ht) ho hzi hkn (hlg (Or.inl h30))
            rw [ei5, el5] at H5
            refine jv_Wp.lift (fun _ Kz => jv_Ev.c jv_i33 (pc' := 168) (S' := [.int (vr_b (decide (0 ≤ (L t 4).toInt + o.toInt ∧ (L t 5).toInt + o.toInt + (vl_I zz).toInt ≤ (L 12 1).toInt)))]) jv_i34 [.ref t, .int o, .int (vl_I zz), .long (L 12 1)] rfl rfl rfl rfl rfl rfl H5 rfl rfl Kz) ?_
            refine jv_Wp.cnd jv_i33 (pt := 175) (pe := 171) (p := ((vr_b (decide (0 ≤ (L t 4).toInt + o.toInt ∧ (L t 5).toInt + o.toInt + (vl_I zz).toInt ≤ (L 12 1).toInt))) = 0)) (q := ((vr_b (decide (0 ≤ (L t 4).toInt + o.toInt ∧ (L t 5).toInt + o.toInt + (vl_I zz).toInt ≤ (L 12 1).toInt))) = 0)) rfl jv_bi_eq rfl rfl Iff.rfl (fun h31 => ?_) (fun h31 => ?_)
            · refine jv_Wp.lift (fun _ Kz => jv_Ev.steps jv_i33 1 (pc' := 176) (l' := [(8, .long (32 : Int64)), (7, .int (0 : Int32)), (5, .long ((L t 8) + o.toInt64)), (0, .ref 10), (1, .ref t), (2, .int o), (3, .int (vl_I zz)), (4, .int (vr_b wr))]) (st' := [.int (4 : Int32)]) rfl Kz) ?_
              refine jv_Wp.of (jv_Ev.ret jv_i33 rfl rfl) ?_
              rw [hQ]
              have s4 : (vc_T I L t).sort = 4 := (vc_is4 ok).mpr h30
              have vv : (vc_T I L t).val = vl_S L t := vc_valv (Or.inr (Or.inl h30))
              have hp := of_decide_eq_false (vr_b_f h31)
              rw [ez] at hp
              have c : ¬ (0 ≤ (vc_T I L t).val.least.toInt + o.toInt ∧ (vc_T I L t).val.greatest.toInt + o.toInt + (zz : Int) ≤ (vc_A I L 12).2) := by
                rw [vv]; exact hp
              have e : vx_reach M (vc_A I L 12) (vc_T I L t) o.toInt zz wr = 4 := (vx_r4 s4).trans (if_neg c)
              exact ⟨_, _, by rw [e]; rfl, rfl, rfl⟩
            · refine jv_Wp.lift (fun _ Kz => jv_Ev.steps jv_i33 2 (pc' := 176) (l' := [(8, .long (32 : Int64)), (7, .int (0 : Int32)), (5, .long ((L t 8) + o.toInt64)), (0, .ref 10), (1, .ref t), (2, .int o), (3, .int (vl_I zz)), (4, .int (vr_b wr))]) (st' := [.int (0 : Int32)]) rfl Kz) ?_
              refine jv_Wp.of (jv_Ev.ret jv_i33 rfl rfl) ?_
              rw [hQ]
              have s4 : (vc_T I L t).sort = 4 := (vc_is4 ok).mpr h30
              have vv : (vc_T I L t).val = vl_S L t := vc_valv (Or.inr (Or.inl h30))
              have hp := of_decide_eq_true (vr_b_t h31)
              rw [ez] at hp
              have c : (0 ≤ (vc_T I L t).val.least.toInt + o.toInt ∧ (vc_T I L t).val.greatest.toInt + o.toInt + (zz : Int) ≤ (vc_A I L 12).2) := by
                rw [vv]; exact hp
              have e : vx_reach M (vc_A I L 12) (vc_T I L t) o.toInt zz wr = 0 := (vx_r4 s4).trans (if_pos c)
              exact ⟨_, _, by rw [e]; rfl, rfl, rfl⟩
          · refine jv_Wp.bys (q := ((I t 6) = Int32.ofInt 7)) (fun h32 => ?_) (fun h32 => ?_)
            · refine jv_Wp.lift (fun _ Kz => jv_Ev.br jv_i33 (pc' := 177) (st' := []) rfl (by rw [h32]; rfl) Kz) ?_
              refine jv_Wp.lift (fun _ Kz => jv_Ev.steps jv_i33 4 (pc' := 181) (l' := [(8, .long (32 : Int64)), (7, .int (0 : Int32)), (5, .long ((L t 8) + o.toInt64)), (0, .ref 10), (1, .ref t), (2, .int o), (3, .int (vl_I zz)), (4, .int (vr_b wr))]) (st' := [.ref 10, .int (vl_I zz), .int o, .ref t]) rfl Kz) ?_
              refine jv_Wp.lift (fun _ Kz => jv_Ev.m jv_i33 (pc' := 184) (st' := [.ref 2, .int (vl_I zz), .int o, .ref t]) (G' := (jv_H K I L R)) rfl rfl (jv_m_getR hC.k rfl rfl hC.rstore) Kz) ?_
              refine jv_Wp.lift (fun _ Kz => jv_Ev.steps jv_i33 1 (pc' := 185) (l' := [(8, .long (32 : Int64)), (7, .int (0 : Int32)), (5, .long ((L t 8) + o.toInt64)), (0, .ref 10), (1, .ref t), (2, .int o), (3, .int (vl_I zz)), (4, .int (vr_b wr))]) (st' := [.ref t, .ref 2, .int (vl_I zz), .int o, .ref t]) rfl Kz) ?_
              refine jv_Wp.lift (fun _ Kz => jv_Ev.m jv_i33 (pc' := 188) (st' := [.int (I t 7), .ref 2, .int (vl_I zz), .int o, .ref t]) (G' := (jv_H K I L R)) rfl rfl (jv_m_getI ht rfl rfl rfl) Kz) ?_
              refine jv_Wp.lift (fun _ Kz => jv_Ev.c jv_i33 (pc' := 191) (S' := [.int (vl_I (M.value (I t 7).toInt)), .int (vl_I zz), .int o, .ref t]) jv_i127 [.ref 2, .int (I t 7)] rfl rfl rfl rfl (jv_cal rfl (jv_H_at hM.1) rfl rfl) rfl (vc_vsize hM (I t 7) (hmn h32)) rfl rfl Kz) ?_
              refine jv_Wp.lift (fun _ Kz => jv_Ev.steps jv_i33 1 (pc' := 192) (l' := [(8, .long (32 : Int64)), (7, .int (0 : Int32)), (5, .long ((L t 8) + o.toInt64)), (0, .ref 10), (1, .ref t), (2, .int o), (3, .int (vl_I zz)), (4, .int (vr_b wr))]) (st' := [.long (vl_I (M.value (I t 7).toInt)).toInt64, .int (vl_I zz), .int o, .ref t]) rfl Kz) ?_
              obtain ⟨I6, L6, H6, ei6, el6⟩ := vc_within (I := I) (L := L) (R := R) (n := n) (sl := sl) o (vl_I zz) (vl_I (M.value (I t 7).toInt)).toInt64 (x := t) (Or.inr ht) ho hzi (hvs _) (hlg (Or.inr h32))
              rw [ei6, el6] at H6
              refine jv_Wp.lift (fun _ Kz => jv_Ev.c jv_i33 (pc' := 195) (S' := [.int (vr_b (decide (0 ≤ (L t 4).toInt + o.toInt ∧ (L t 5).toInt + o.toInt + (vl_I zz).toInt ≤ (vl_I (M.value (I t 7).toInt)).toInt64.toInt)))]) jv_i34 [.ref t, .int o, .int (vl_I zz), .long (vl_I (M.value (I t 7).toInt)).toInt64] rfl rfl rfl rfl rfl rfl H6 rfl rfl Kz) ?_
              refine jv_Wp.cnd jv_i33 (pt := 202) (pe := 198) (p := ((vr_b (decide (0 ≤ (L t 4).toInt + o.toInt ∧ (L t 5).toInt + o.toInt + (vl_I zz).toInt ≤ (vl_I (M.value (I t 7).toInt)).toInt64.toInt))) = 0)) (q := ((vr_b (decide (0 ≤ (L t 4).toInt + o.toInt ∧ (L t 5).toInt + o.toInt + (vl_I zz).toInt ≤ (vl_I (M.value (I t 7).toInt)).toInt64.toInt))) = 0)) rfl jv_bi_eq rfl rfl Iff.rfl (fun h33 => ?_) (fun h33 => ?_)
              · refine jv_Wp.lift (fun _ Kz => jv_Ev.steps jv_i33 1 (pc' := 203) (l' := [(8, .long (32 : Int64)), (7, .int (0 : Int32)), (5, .long ((L t 8) + o.toInt64)), (0, .ref 10), (1, .ref t), (2, .int o), (3, .int (vl_I zz)), (4, .int (vr_b wr))]) (st' := [.int (4 : Int32)]) rfl Kz) ?_
                refine jv_Wp.of (jv_Ev.ret jv_i33 rfl rfl) ?_
                rw [hQ]
                have s7 : (vc_T I L t).sort = 7 := (vc_is7 ok).mpr h32
                have vv : (vc_T I L t).val = vl_S L t := vc_valv (Or.inr (Or.inr h32))
                have hp := of_decide_eq_false (vr_b_f h33)
                rw [ez, evs] at hp
                have dm : (vc_T I L t).det = (I t 7).toInt := vc_detm (Or.inr (Or.inl h32))
                have c : ¬ (0 ≤ (vc_T I L t).val.least.toInt + o.toInt ∧ (vc_T I L t).val.greatest.toInt + o.toInt + (zz : Int) ≤ (M.value (vc_T I L t).det : Int)) := by
                  rw [vv, dm]; exact hp
                have e : vx_reach M (vc_A I L 12) (vc_T I L t) o.toInt zz wr = 4 := (vx_r7 s7).trans (if_neg c)
                exact ⟨_, _, by rw [e]; rfl, rfl, rfl⟩
              · refine jv_Wp.lift (fun _ Kz => jv_Ev.steps jv_i33 2 (pc' := 203) (l' := [(8, .long (32 : Int64)), (7, .int (0 : Int32)), (5, .long ((L t 8) + o.toInt64)), (0, .ref 10), (1, .ref t), (2, .int o), (3, .int (vl_I zz)), (4, .int (vr_b wr))]) (st' := [.int (0 : Int32)]) rfl Kz) ?_
                refine jv_Wp.of (jv_Ev.ret jv_i33 rfl rfl) ?_
                rw [hQ]
                have s7 : (vc_T I L t).sort = 7 := (vc_is7 ok).mpr h32
                have vv : (vc_T I L t).val = vl_S L t := vc_valv (Or.inr (Or.inr h32))
                have hp := of_decide_eq_true (vr_b_t h33)
                rw [ez, evs] at hp
                have dm : (vc_T I L t).det = (I t 7).toInt := vc_detm (Or.inr (Or.inl h32))
                have c : (0 ≤ (vc_T I L t).val.least.toInt + o.toInt ∧ (vc_T I L t).val.greatest.toInt + o.toInt + (zz : Int) ≤ (M.value (vc_T I L t).det : Int)) := by
                  rw [vv, dm]; exact hp
                have e : vx_reach M (vc_A I L 12) (vc_T I L t) o.toInt zz wr = 0 := (vx_r7 s7).trans (if_pos c)
                exact ⟨_, _, by rw [e]; rfl, rfl, rfl⟩
            · refine jv_Wp.lift (fun _ Kz => jv_Ev.br jv_i33 (pc' := 204) (st' := []) rfl (jv_tsw_def (fun i hi h => by match i, hi, h with 
                    | 0, _, h => exact absurd h (jv_ne_toInt (k := 2) h24) 
                    | 1, _, h => exact absurd h (jv_ne_toInt (k := 3) h27) 
                    | 2, _, h => exact absurd h (jv_ne_toInt (k := 4) h30) 
                    | 3, _, _ => rfl 
                    | 4, _, _ => rfl 
                    | 5, _, h => exact absurd h (jv_ne_toInt (k := 7) h32) 
                    | i + 6, hi, _ => exact absurd hi (by simp)) rfl) Kz) ?_
              refine jv_Wp.lift (fun _ Kz => jv_Ev.steps jv_i33 1 (pc' := 205) (l' := [(8, .long (32 : Int64)), (7, .int (0 : Int32)), (5, .long ((L t 8) + o.toInt64)), (0, .ref 10), (1, .ref t), (2, .int o), (3, .int (vl_I zz)), (4, .int (vr_b wr))]) (st' := [.int (3 : Int32)]) rfl Kz) ?_
              refine jv_Wp.of (jv_Ev.ret jv_i33 rfl rfl) ?_
              rw [hQ]
              have e : vx_reach M (vc_A I L 12) (vc_T I L t) o.toInt zz wr = 3 := vx_r_ (fun z => h24 ((vc_is2 ok).mp z)) (fun z => h27 ((vc_is3 ok).mp z)) (fun z => h30 ((vc_is4 ok).mp z)) (fun z => h32 ((vc_is7 ok).mp z))
              exact ⟨_, _, by rw [e]; rfl, rfl, rfl⟩
  · refine jv_Wp.lift (fun _ Kz => jv_Ev.steps jv_i33 4 (pc' := 30) (l' := [(7, .int (1 : Int32)), (5, .long ((L t 8) + o.toInt64)), (0, .ref 10), (1, .ref t), (2, .int o), (3, .int (vl_I zz)), (4, .int (vr_b wr))]) (st' := [.int (vr_b wr)]) rfl Kz) ?_
    refine jv_Wp.cnd jv_i33 (pt := 39) (pe := 33) (p := ((vr_b wr) = 0)) (q := ((vr_b wr) = 0)) rfl jv_bi_eq rfl rfl Iff.rfl (fun h34 => ?_) (fun h34 => ?_)
    · refine jv_Wp.lift (fun _ Kz => jv_Ev.steps jv_i33 2 (pc' := 42) (l' := [(7, .int (1 : Int32)), (5, .long ((L t 8) + o.toInt64)), (0, .ref 10), (1, .ref t), (2, .int o), (3, .int (vl_I zz)), (4, .int (vr_b wr))]) (st' := [.int (8 : Int32), .int (vl_I zz)]) rfl Kz) ?_
      refine jv_Wp.cnd jv_i33 (pt := 49) (pe := 45) (p := (¬ (vl_I zz) = (8 : Int32))) (q := (¬ (vl_I zz) = (8 : Int32))) rfl jv_bc_ne rfl rfl Iff.rfl (fun h35 => ?_) (fun h35 => ?_)
      · refine jv_Wp.lift (fun _ Kz => jv_Ev.steps jv_i33 3 (pc' := 55) (l' := [(8, .long (16 : Int64)), (7, .int (1 : Int32)), (5, .long ((L t 8) + o.toInt64)), (0, .ref 10), (1, .ref t), (2, .int o), (3, .int (vl_I zz)), (4, .int (vr_b wr))]) (st' := [.ref t]) rfl Kz) ?_
        refine jv_Wp.lift (fun _ Kz => jv_Ev.m jv_i33 (pc' := 58) (st' := [.int (I t 6)]) (G' := (jv_H K I L R)) rfl rfl (jv_m_getI ht rfl rfl rfl) Kz) ?_
        refine jv_Wp.bys (q := ((I t 6) = Int32.ofInt 2)) (fun h36 => ?_) (fun h36 => ?_)
        · refine jv_Wp.lift (fun _ Kz => jv_Ev.br jv_i33 (pc' := 96) (st' := []) rfl (by rw [h36]; rfl) Kz) ?_
          refine jv_Wp.lift (fun _ Kz => jv_Ev.steps jv_i33 3 (pc' := 101) (l' := [(8, .long (16 : Int64)), (7, .int (1 : Int32)), (5, .long ((L t 8) + o.toInt64)), (0, .ref 10), (1, .ref t), (2, .int o), (3, .int (vl_I zz)), (4, .int (vr_b wr))]) (st' := [.int (lg_cmp ((L t 8) + o.toInt64) (16 : Int64))]) rfl Kz) ?_
          refine jv_Wp.cnd jv_i33 (pt := 124) (pe := 104) (p := ((lg_cmp ((L t 8) + o.toInt64) (16 : Int64)) < 0)) (q := (((L t 8) + o.toInt64) < (16 : Int64))) rfl jv_bi_lt rfl rfl (lg_cmp_lt ((L t 8) + o.toInt64) (16 : Int64)) (fun h37 => ?_) (fun h37 => ?_)
          · refine jv_Wp.lift (fun _ Kz => jv_Ev.steps jv_i33 1 (pc' := 125) (l' := [(8, .long (16 : Int64)), (7, .int (1 : Int32)), (5, .long ((L t 8) + o.toInt64)), (0, .ref 10), (1, .ref t), (2, .int o), (3, .int (vl_I zz)), (4, .int (vr_b wr))]) (st' := [.int (4 : Int32)]) rfl Kz) ?_
            refine jv_Wp.of (jv_Ev.ret jv_i33 rfl rfl) ?_
            rw [hQ]
            have s2 : (vc_T I L t).sort = 2 := (vc_is2 ok).mpr h36
            have fr := hfar (Or.inl h36)
            have bd : (vc_T I L t).det = (L t 8).toInt := vc_detk (Or.inl h36)
            have eA : ((L t 8) + o.toInt64).toInt = (L t 8).toInt + o.toInt := vi_add (by omega)
            have fe : ((L t 8) + o.toInt64).toInt % (zz : Int) = 0 := (vi_even hz _).mp (Classical.not_not.mp h1)
            have ew : ¬ wr = true := by rw [vr_b_f h34]; decide
            have f8 : ¬ zz = 8 := fun z => h35 (by rw [z]; rfl)
            have q1 : ((L t 8) + o.toInt64).toInt < 16 := Int64.lt_iff_toInt_lt.mp h37
            rw [eA] at fe
            rw [eA] at q1
            have c : ¬ ((if wr = true then 32 else if zz = 8 then 0 else 16 : Int) ≤ (vc_T I L t).det + o.toInt ∧ (vc_T I L t).det + o.toInt ≤ 64 - (zz : Int) ∧ ((vc_T I L t).det + o.toInt) % (zz : Int) = 0) := by
              rw [bd, if_neg ew, if_neg f8]
              exact fun z => by omega
            have e : vx_reach M (vc_A I L 12) (vc_T I L t) o.toInt zz wr = 4 := (vx_r2 s2).trans (if_neg c)
            exact ⟨_, _, by rw [e]; rfl, rfl, rfl⟩
          · refine jv_Wp.lift (fun _ Kz => jv_Ev.steps jv_i33 6 (pc' := 112) (l' := [(8, .long (16 : Int64)), (7, .int (1 : Int32)), (5, .long ((L t 8) + o.toInt64)), (0, .ref 10), (1, .ref t), (2, .int o), (3, .int (vl_I zz)), (4, .int (vr_b wr))]) (st' := [.int (lg_cmp ((L t 8) + o.toInt64) ((64 : Int32) - (vl_I zz)).toInt64)]) rfl Kz) ?_
            refine jv_Wp.cnd jv_i33 (pt := 124) (pe := 115) (p := (0 < (lg_cmp ((L t 8) + o.toInt64) ((64 : Int32) - (vl_I zz)).toInt64))) (q := (((64 : Int32) - (vl_I zz)).toInt64 < ((L t 8) + o.toInt64))) rfl jv_bi_gt rfl rfl (lg_cmp_gt ((L t 8) + o.toInt64) ((64 : Int32) - (vl_I zz)).toInt64) (fun h38 => ?_) (fun h38 => ?_)
            · refine jv_Wp.lift (fun _ Kz => jv_Ev.steps jv_i33 1 (pc' := 125) (l' := [(8, .long (16 : Int64)), (7, .int (1 : Int32)), (5, .long ((L t 8) + o.toInt64)), (0, .ref 10), (1, .ref t), (2, .int o), (3, .int (vl_I zz)), (4, .int (vr_b wr))]) (st' := [.int (4 : Int32)]) rfl Kz) ?_
              refine jv_Wp.of (jv_Ev.ret jv_i33 rfl rfl) ?_
              rw [hQ]
              have s2 : (vc_T I L t).sort = 2 := (vc_is2 ok).mpr h36
              have fr := hfar (Or.inl h36)
              have bd : (vc_T I L t).det = (L t 8).toInt := vc_detk (Or.inl h36)
              have eA : ((L t 8) + o.toInt64).toInt = (L t 8).toInt + o.toInt := vi_add (by omega)
              have fe : ((L t 8) + o.toInt64).toInt % (zz : Int) = 0 := (vi_even hz _).mp (Classical.not_not.mp h1)
              have ew : ¬ wr = true := by rw [vr_b_f h34]; decide
              have f8 : ¬ zz = 8 := fun z => h35 (by rw [z]; rfl)
              have q1 : ¬ ((L t 8) + o.toInt64).toInt < 16 := (not_congr Int64.lt_iff_toInt_lt).mp h37
              have q2 : 64 - (zz : Int) < ((L t 8) + o.toInt64).toInt := by rw [← e64]; exact Int64.lt_iff_toInt_lt.mp h38
              rw [eA] at fe
              rw [eA] at q1
              rw [eA] at q2
              have c : ¬ ((if wr = true then 32 else if zz = 8 then 0 else 16 : Int) ≤ (vc_T I L t).det + o.toInt ∧ (vc_T I L t).det + o.toInt ≤ 64 - (zz : Int) ∧ ((vc_T I L t).det + o.toInt) % (zz : Int) = 0) := by
                rw [bd, if_neg ew, if_neg f8]
                exact fun z => by omega
              have e : vx_reach M (vc_A I L 12) (vc_T I L t) o.toInt zz wr = 4 := (vx_r2 s2).trans (if_neg c)
              exact ⟨_, _, by rw [e]; rfl, rfl, rfl⟩
            · refine jv_Wp.lift (fun _ Kz => jv_Ev.steps jv_i33 1 (pc' := 117) (l' := [(8, .long (16 : Int64)), (7, .int (1 : Int32)), (5, .long ((L t 8) + o.toInt64)), (0, .ref 10), (1, .ref t), (2, .int o), (3, .int (vl_I zz)), (4, .int (vr_b wr))]) (st' := [.int (1 : Int32)]) rfl Kz) ?_
              refine jv_Wp.lift (fun _ Kz => jv_Ev.br jv_i33 (pc' := 120) (st' := []) rfl (by rfl) Kz) ?_
              refine jv_Wp.lift (fun _ Kz => jv_Ev.steps jv_i33 2 (pc' := 125) (l' := [(8, .long (16 : Int64)), (7, .int (1 : Int32)), (5, .long ((L t 8) + o.toInt64)), (0, .ref 10), (1, .ref t), (2, .int o), (3, .int (vl_I zz)), (4, .int (vr_b wr))]) (st' := [.int (0 : Int32)]) rfl Kz) ?_
              refine jv_Wp.of (jv_Ev.ret jv_i33 rfl rfl) ?_
              rw [hQ]
              have s2 : (vc_T I L t).sort = 2 := (vc_is2 ok).mpr h36
              have fr := hfar (Or.inl h36)
              have bd : (vc_T I L t).det = (L t 8).toInt := vc_detk (Or.inl h36)
              have eA : ((L t 8) + o.toInt64).toInt = (L t 8).toInt + o.toInt := vi_add (by omega)
              have fe : ((L t 8) + o.toInt64).toInt % (zz : Int) = 0 := (vi_even hz _).mp (Classical.not_not.mp h1)
              have ew : ¬ wr = true := by rw [vr_b_f h34]; decide
              have f8 : ¬ zz = 8 := fun z => h35 (by rw [z]; rfl)
              have q1 : ¬ ((L t 8) + o.toInt64).toInt < 16 := (not_congr Int64.lt_iff_toInt_lt).mp h37
              have q2 : ¬ 64 - (zz : Int) < ((L t 8) + o.toInt64).toInt := by rw [← e64]; exact (not_congr Int64.lt_iff_toInt_lt).mp h38
              rw [eA] at fe
              rw [eA] at q1
              rw [eA] at q2
              have c : ((if wr = true then 32 else if zz = 8 then 0 else 16 : Int) ≤ (vc_T I L t).det + o.toInt ∧ (vc_T I L t).det + o.toInt ≤ 64 - (zz : Int) ∧ ((vc_T I L t).det + o.toInt) % (zz : Int) = 0) := by
                rw [bd, if_neg ew, if_neg f8]
                exact ⟨by omega, by omega, fe⟩
              have e : vx_reach M (vc_A I L 12) (vc_T I L t) o.toInt zz wr = 0 := (vx_r2 s2).trans (if_pos c)
              exact ⟨_, _, by rw [e]; rfl, rfl, rfl⟩
        · refine jv_Wp.bys (q := ((I t 6) = Int32.ofInt 3)) (fun h39 => ?_) (fun h39 => ?_)
          · refine jv_Wp.lift (fun _ Kz => jv_Ev.br jv_i33 (pc' := 126) (st' := []) rfl (by rw [h39]; rfl) Kz) ?_
            refine jv_Wp.lift (fun _ Kz => jv_Ev.steps jv_i33 3 (pc' := 132) (l' := [(8, .long (16 : Int64)), (7, .int (1 : Int32)), (5, .long ((L t 8) + o.toInt64)), (0, .ref 10), (1, .ref t), (2, .int o), (3, .int (vl_I zz)), (4, .int (vr_b wr))]) (st' := [.int (lg_cmp ((L t 8) + o.toInt64) (-512 : Int64))]) rfl Kz) ?_
            refine jv_Wp.cnd jv_i33 (pt := 153) (pe := 135) (p := ((lg_cmp ((L t 8) + o.toInt64) (-512 : Int64)) < 0)) (q := (((L t 8) + o.toInt64) < (-512 : Int64))) rfl jv_bi_lt rfl rfl (lg_cmp_lt ((L t 8) + o.toInt64) (-512 : Int64)) (fun h40 => ?_) (fun h40 => ?_)
            · refine jv_Wp.lift (fun _ Kz => jv_Ev.steps jv_i33 1 (pc' := 154) (l' := [(8, .long (16 : Int64)), (7, .int (1 : Int32)), (5, .long ((L t 8) + o.toInt64)), (0, .ref 10), (1, .ref t), (2, .int o), (3, .int (vl_I zz)), (4, .int (vr_b wr))]) (st' := [.int (4 : Int32)]) rfl Kz) ?_
              refine jv_Wp.of (jv_Ev.ret jv_i33 rfl rfl) ?_
              rw [hQ]
              have s3 : (vc_T I L t).sort = 3 := (vc_is3 ok).mpr h39
              have fr := hfar (Or.inr h39)
              have bd : (vc_T I L t).det = (L t 8).toInt := vc_detk (Or.inr h39)
              have eA : ((L t 8) + o.toInt64).toInt = (L t 8).toInt + o.toInt := vi_add (by omega)
              have fe : ((L t 8) + o.toInt64).toInt % (zz : Int) = 0 := (vi_even hz _).mp (Classical.not_not.mp h1)
              have ew : ¬ wr = true := by rw [vr_b_f h34]; decide
              have f8 : ¬ zz = 8 := fun z => h35 (by rw [z]; rfl)
              have q1 : ((L t 8) + o.toInt64).toInt < -512 := Int64.lt_iff_toInt_lt.mp h40
              rw [eA] at fe
              rw [eA] at q1
              have c : ¬ (-512 ≤ (vc_T I L t).det + o.toInt ∧ (vc_T I L t).det + o.toInt ≤ -(zz : Int) ∧ ((vc_T I L t).det + o.toInt) % (zz : Int) = 0) := by
                rw [bd]
                exact fun z => by omega
              have e : vx_reach M (vc_A I L 12) (vc_T I L t) o.toInt zz wr = 4 := (vx_r3 s3).trans (if_neg c)
              exact ⟨_, _, by rw [e]; rfl, rfl, rfl⟩
            · refine jv_Wp.lift (fun _ Kz => jv_Ev.steps jv_i33 5 (pc' := 141) (l' := [(8, .long (16 : Int64)), (7, .int (1 : Int32)), (5, .long ((L t 8) + o.toInt64)), (0, .ref 10), (1, .ref t), (2, .int o), (3, .int (vl_I zz)), (4, .int (vr_b wr))]) (st' := [.int (lg_cmp ((L t 8) + o.toInt64) (-(vl_I zz)).toInt64)]) rfl Kz) ?_
              refine jv_Wp.cnd jv_i33 (pt := 153) (pe := 144) (p := (0 < (lg_cmp ((L t 8) + o.toInt64) (-(vl_I zz)).toInt64))) (q := ((-(vl_I zz)).toInt64 < ((L t 8) + o.toInt64))) rfl jv_bi_gt rfl rfl (lg_cmp_gt ((L t 8) + o.toInt64) (-(vl_I zz)).toInt64) (fun h41 => ?_) (fun h41 => ?_)
              · refine jv_Wp.lift (fun _ Kz => jv_Ev.steps jv_i33 1 (pc' := 154) (l' := [(8, .long (16 : Int64)), (7, .int (1 : Int32)), (5, .long ((L t 8) + o.toInt64)), (0, .ref 10), (1, .ref t), (2, .int o), (3, .int (vl_I zz)), (4, .int (vr_b wr))]) (st' := [.int (4 : Int32)]) rfl Kz) ?_
                refine jv_Wp.of (jv_Ev.ret jv_i33 rfl rfl) ?_
                rw [hQ]
                have s3 : (vc_T I L t).sort = 3 := (vc_is3 ok).mpr h39
                have fr := hfar (Or.inr h39)
                have bd : (vc_T I L t).det = (L t 8).toInt := vc_detk (Or.inr h39)
                have eA : ((L t 8) + o.toInt64).toInt = (L t 8).toInt + o.toInt := vi_add (by omega)
                have fe : ((L t 8) + o.toInt64).toInt % (zz : Int) = 0 := (vi_even hz _).mp (Classical.not_not.mp h1)
                have ew : ¬ wr = true := by rw [vr_b_f h34]; decide
                have f8 : ¬ zz = 8 := fun z => h35 (by rw [z]; rfl)
                have q1 : ¬ ((L t 8) + o.toInt64).toInt < -512 := (not_congr Int64.lt_iff_toInt_lt).mp h40
                have q2 : -(zz : Int) < ((L t 8) + o.toInt64).toInt := by rw [← eneg]; exact Int64.lt_iff_toInt_lt.mp h41
                rw [eA] at fe
                rw [eA] at q1
                rw [eA] at q2
                have c : ¬ (-512 ≤ (vc_T I L t).det + o.toInt ∧ (vc_T I L t).det + o.toInt ≤ -(zz : Int) ∧ ((vc_T I L t).det + o.toInt) % (zz : Int) = 0) := by
                  rw [bd]
                  exact fun z => by omega
                have e : vx_reach M (vc_A I L 12) (vc_T I L t) o.toInt zz wr = 4 := (vx_r3 s3).trans (if_neg c)
                exact ⟨_, _, by rw [e]; rfl, rfl, rfl⟩
              · refine jv_Wp.lift (fun _ Kz => jv_Ev.steps jv_i33 1 (pc' := 146) (l' := [(8, .long (16 : Int64)), (7, .int (1 : Int32)), (5, .long ((L t 8) + o.toInt64)), (0, .ref 10), (1, .ref t), (2, .int o), (3, .int (vl_I zz)), (4, .int (vr_b wr))]) (st' := [.int (1 : Int32)]) rfl Kz) ?_
                refine jv_Wp.lift (fun _ Kz => jv_Ev.br jv_i33 (pc' := 149) (st' := []) rfl (by rfl) Kz) ?_
                refine jv_Wp.lift (fun _ Kz => jv_Ev.steps jv_i33 2 (pc' := 154) (l' := [(8, .long (16 : Int64)), (7, .int (1 : Int32)), (5, .long ((L t 8) + o.toInt64)), (0, .ref 10), (1, .ref t), (2, .int o), (3, .int (vl_I zz)), (4, .int (vr_b wr))]) (st' := [.int (0 : Int32)]) rfl Kz) ?_
                refine jv_Wp.of (jv_Ev.ret jv_i33 rfl rfl) ?_
                rw [hQ]
                have s3 : (vc_T I L t).sort = 3 := (vc_is3 ok).mpr h39
                have fr := hfar (Or.inr h39)
                have bd : (vc_T I L t).det = (L t 8).toInt := vc_detk (Or.inr h39)
                have eA : ((L t 8) + o.toInt64).toInt = (L t 8).toInt + o.toInt := vi_add (by omega)
                have fe : ((L t 8) + o.toInt64).toInt % (zz : Int) = 0 := (vi_even hz _).mp (Classical.not_not.mp h1)
                have ew : ¬ wr = true := by rw [vr_b_f h34]; decide
                have f8 : ¬ zz = 8 := fun z => h35 (by rw [z]; rfl)
                have q1 : ¬ ((L t 8) + o.toInt64).toInt < -512 := (not_congr Int64.lt_iff_toInt_lt).mp h40
                have q2 : ¬ -(zz : Int) < ((L t 8) + o.toInt64).toInt := by rw [← eneg]; exact (not_congr Int64.lt_iff_toInt_lt).mp h41
                rw [eA] at fe
                rw [eA] at q1
                rw [eA] at q2
                have c : (-512 ≤ (vc_T I L t).det + o.toInt ∧ (vc_T I L t).det + o.toInt ≤ -(zz : Int) ∧ ((vc_T I L t).det + o.toInt) % (zz : Int) = 0) := by
                  rw [bd]
                  exact ⟨by omega, by omega, fe⟩
                have e : vx_reach M (vc_A I L 12) (vc_T I L t) o.toInt zz wr = 0 := (vx_r3 s3).trans (if_pos c)
                exact ⟨_, _, by rw [e]; rfl, rfl, rfl⟩
          · refine jv_Wp.bys (q := ((I t 6) = Int32.ofInt 4)) (fun h42 => ?_) (fun h42 => ?_)
            · refine jv_Wp.lift (fun _ Kz => jv_Ev.br jv_i33 (pc' := 155) (st' := []) rfl (by rw [h42]; rfl) Kz) ?_
              refine jv_Wp.lift (fun _ Kz => jv_Ev.steps jv_i33 4 (pc' := 159) (l' := [(8, .long (16 : Int64)), (7, .int (1 : Int32)), (5, .long ((L t 8) + o.toInt64)), (0, .ref 10), (1, .ref t), (2, .int o), (3, .int (vl_I zz)), (4, .int (vr_b wr))]) (st' := [.ref 10, .int (vl_I zz), .int o, .ref t]) rfl Kz) ?_
              refine jv_Wp.lift (fun _ Kz => jv_Ev.m jv_i33 (pc' := 162) (st' := [.ref 12, .int (vl_I zz), .int o, .ref t]) (G' := (jv_H K I L R)) rfl rfl (jv_m_getR hC.k rfl rfl hC.rnow) Kz) ?_
              refine jv_Wp.lift (fun _ Kz => jv_Ev.m jv_i33 (pc' := 165) (st' := [.long (L 12 1), .int (vl_I zz), .int o, .ref t]) (G' := (jv_H K I L R)) rfl rfl (jv_m_getL hC.now.k rfl rfl rfl) Kz) ?_
              obtain ⟨I7, L7, H7, ei7, el7⟩ := vc_within (I := I) (L := L) (R := R) (n := n) (sl := sl) o (vl_I zz) (L 12 1) (x := t) (Or.inr ht) ho hzi hkn (hlg (Or.inl h42))
              rw [ei7, el7] at H7
              refine jv_Wp.lift (fun _ Kz => jv_Ev.c jv_i33 (pc' := 168) (S' := [.int (vr_b (decide (0 ≤ (L t 4).toInt + o.toInt ∧ (L t 5).toInt + o.toInt + (vl_I zz).toInt ≤ (L 12 1).toInt)))]) jv_i34 [.ref t, .int o, .int (vl_I zz), .long (L 12 1)] rfl rfl rfl rfl rfl rfl H7 rfl rfl Kz) ?_
              refine jv_Wp.cnd jv_i33 (pt := 175) (pe := 171) (p := ((vr_b (decide (0 ≤ (L t 4).toInt + o.toInt ∧ (L t 5).toInt + o.toInt + (vl_I zz).toInt ≤ (L 12 1).toInt))) = 0)) (q := ((vr_b (decide (0 ≤ (L t 4).toInt + o.toInt ∧ (L t 5).toInt + o.toInt + (vl_I zz).toInt ≤ (L 12 1).toInt))) = 0)) rfl jv_bi_eq rfl rfl Iff.rfl (fun h43 => ?_) (fun h43 => ?_)
              · refine jv_Wp.lift (fun _ Kz => jv_Ev.steps jv_i33 1 (pc' := 176) (l' := [(8, .long (16 : Int64)), (7, .int (1 : Int32)), (5, .long ((L t 8) + o.toInt64)), (0, .ref 10), (1, .ref t), (2, .int o), (3, .int (vl_I zz)), (4, .int (vr_b wr))]) (st' := [.int (4 : Int32)]) rfl Kz) ?_
                refine jv_Wp.of (jv_Ev.ret jv_i33 rfl rfl) ?_
                rw [hQ]
                have s4 : (vc_T I L t).sort = 4 := (vc_is4 ok).mpr h42
                have vv : (vc_T I L t).val = vl_S L t := vc_valv (Or.inr (Or.inl h42))
                have hp := of_decide_eq_false (vr_b_f h43)
                rw [ez] at hp
                have c : ¬ (0 ≤ (vc_T I L t).val.least.toInt + o.toInt ∧ (vc_T I L t).val.greatest.toInt + o.toInt + (zz : Int) ≤ (vc_A I L 12).2) := by
                  rw [vv]; exact hp
                have e : vx_reach M (vc_A I L 12) (vc_T I L t) o.toInt zz wr = 4 := (vx_r4 s4).trans (if_neg c)
                exact ⟨_, _, by rw [e]; rfl, rfl, rfl⟩
              · refine jv_Wp.lift (fun _ Kz => jv_Ev.steps jv_i33 2 (pc' := 176) (l' := [(8, .long (16 : Int64)), (7, .int (1 : Int32)), (5, .long ((L t 8) + o.toInt64)), (0, .ref 10), (1, .ref t), (2, .int o), (3, .int (vl_I zz)), (4, .int (vr_b wr))]) (st' := [.int (0 : Int32)]) rfl Kz) ?_
                refine jv_Wp.of (jv_Ev.ret jv_i33 rfl rfl) ?_
                rw [hQ]
                have s4 : (vc_T I L t).sort = 4 := (vc_is4 ok).mpr h42
                have vv : (vc_T I L t).val = vl_S L t := vc_valv (Or.inr (Or.inl h42))
                have hp := of_decide_eq_true (vr_b_t h43)
                rw [ez] at hp
                have c : (0 ≤ (vc_T I L t).val.least.toInt + o.toInt ∧ (vc_T I L t).val.greatest.toInt + o.toInt + (zz : Int) ≤ (vc_A I L 12).2) := by
                  rw [vv]; exact hp
                have e : vx_reach M (vc_A I L 12) (vc_T I L t) o.toInt zz wr = 0 := (vx_r4 s4).trans (if_pos c)
                exact ⟨_, _, by rw [e]; rfl, rfl, rfl⟩
            · refine jv_Wp.bys (q := ((I t 6) = Int32.ofInt 7)) (fun h44 => ?_) (fun h44 => ?_)
              · refine jv_Wp.lift (fun _ Kz => jv_Ev.br jv_i33 (pc' := 177) (st' := []) rfl (by rw [h44]; rfl) Kz) ?_
                refine jv_Wp.lift (fun _ Kz => jv_Ev.steps jv_i33 4 (pc' := 181) (l' := [(8, .long (16 : Int64)), (7, .int (1 : Int32)), (5, .long ((L t 8) + o.toInt64)), (0, .ref 10), (1, .ref t), (2, .int o), (3, .int (vl_I zz)), (4, .int (vr_b wr))]) (st' := [.ref 10, .int (vl_I zz), .int o, .ref t]) rfl Kz) ?_
                refine jv_Wp.lift (fun _ Kz => jv_Ev.m jv_i33 (pc' := 184) (st' := [.ref 2, .int (vl_I zz), .int o, .ref t]) (G' := (jv_H K I L R)) rfl rfl (jv_m_getR hC.k rfl rfl hC.rstore) Kz) ?_
                refine jv_Wp.lift (fun _ Kz => jv_Ev.steps jv_i33 1 (pc' := 185) (l' := [(8, .long (16 : Int64)), (7, .int (1 : Int32)), (5, .long ((L t 8) + o.toInt64)), (0, .ref 10), (1, .ref t), (2, .int o), (3, .int (vl_I zz)), (4, .int (vr_b wr))]) (st' := [.ref t, .ref 2, .int (vl_I zz), .int o, .ref t]) rfl Kz) ?_
                refine jv_Wp.lift (fun _ Kz => jv_Ev.m jv_i33 (pc' := 188) (st' := [.int (I t 7), .ref 2, .int (vl_I zz), .int o, .ref t]) (G' := (jv_H K I L R)) rfl rfl (jv_m_getI ht rfl rfl rfl) Kz) ?_
                refine jv_Wp.lift (fun _ Kz => jv_Ev.c jv_i33 (pc' := 191) (S' := [.int (vl_I (M.value (I t 7).toInt)), .int (vl_I zz), .int o, .ref t]) jv_i127 [.ref 2, .int (I t 7)] rfl rfl rfl rfl (jv_cal rfl (jv_H_at hM.1) rfl rfl) rfl (vc_vsize hM (I t 7) (hmn h44)) rfl rfl Kz) ?_
                refine jv_Wp.lift (fun _ Kz => jv_Ev.steps jv_i33 1 (pc' := 192) (l' := [(8, .long (16 : Int64)), (7, .int (1 : Int32)), (5, .long ((L t 8) + o.toInt64)), (0, .ref 10), (1, .ref t), (2, .int o), (3, .int (vl_I zz)), (4, .int (vr_b wr))]) (st' := [.long (vl_I (M.value (I t 7).toInt)).toInt64, .int (vl_I zz), .int o, .ref t]) rfl Kz) ?_
                obtain ⟨I8, L8, H8, ei8, el8⟩ := vc_within (I := I) (L := L) (R := R) (n := n) (sl := sl) o (vl_I zz) (vl_I (M.value (I t 7).toInt)).toInt64 (x := t) (Or.inr ht) ho hzi (hvs _) (hlg (Or.inr h44))
                rw [ei8, el8] at H8
                refine jv_Wp.lift (fun _ Kz => jv_Ev.c jv_i33 (pc' := 195) (S' := [.int (vr_b (decide (0 ≤ (L t 4).toInt + o.toInt ∧ (L t 5).toInt + o.toInt + (vl_I zz).toInt ≤ (vl_I (M.value (I t 7).toInt)).toInt64.toInt)))]) jv_i34 [.ref t, .int o, .int (vl_I zz), .long (vl_I (M.value (I t 7).toInt)).toInt64] rfl rfl rfl rfl rfl rfl H8 rfl rfl Kz) ?_
                refine jv_Wp.cnd jv_i33 (pt := 202) (pe := 198) (p := ((vr_b (decide (0 ≤ (L t 4).toInt + o.toInt ∧ (L t 5).toInt + o.toInt + (vl_I zz).toInt ≤ (vl_I (M.value (I t 7).toInt)).toInt64.toInt))) = 0)) (q := ((vr_b (decide (0 ≤ (L t 4).toInt + o.toInt ∧ (L t 5).toInt + o.toInt + (vl_I zz).toInt ≤ (vl_I (M.value (I t 7).toInt)).toInt64.toInt))) = 0)) rfl jv_bi_eq rfl rfl Iff.rfl (fun h45 => ?_) (fun h45 => ?_)
                · refine jv_Wp.lift (fun _ Kz => jv_Ev.steps jv_i33 1 (pc' := 203) (l' := [(8, .long (16 : Int64)), (7, .int (1 : Int32)), (5, .long ((L t 8) + o.toInt64)), (0, .ref 10), (1, .ref t), (2, .int o), (3, .int (vl_I zz)), (4, .int (vr_b wr))]) (st' := [.int (4 : Int32)]) rfl Kz) ?_
                  refine jv_Wp.of (jv_Ev.ret jv_i33 rfl rfl) ?_
                  rw [hQ]
                  have s7 : (vc_T I L t).sort = 7 := (vc_is7 ok).mpr h44
                  have vv : (vc_T I L t).val = vl_S L t := vc_valv (Or.inr (Or.inr h44))
                  have hp := of_decide_eq_false (vr_b_f h45)
                  rw [ez, evs] at hp
                  have dm : (vc_T I L t).det = (I t 7).toInt := vc_detm (Or.inr (Or.inl h44))
                  have c : ¬ (0 ≤ (vc_T I L t).val.least.toInt + o.toInt ∧ (vc_T I L t).val.greatest.toInt + o.toInt + (zz : Int) ≤ (M.value (vc_T I L t).det : Int)) := by
                    rw [vv, dm]; exact hp
                  have e : vx_reach M (vc_A I L 12) (vc_T I L t) o.toInt zz wr = 4 := (vx_r7 s7).trans (if_neg c)
                  exact ⟨_, _, by rw [e]; rfl, rfl, rfl⟩
                · refine jv_Wp.lift (fun _ Kz => jv_Ev.steps jv_i33 2 (pc' := 203) (l' := [(8, .long (16 : Int64)), (7, .int (1 : Int32)), (5, .long ((L t 8) + o.toInt64)), (0, .ref 10), (1, .ref t), (2, .int o), (3, .int (vl_I zz)), (4, .int (vr_b wr))]) (st' := [.int (0 : Int32)]) rfl Kz) ?_
                  refine jv_Wp.of (jv_Ev.ret jv_i33 rfl rfl) ?_
                  rw [hQ]
                  have s7 : (vc_T I L t).sort = 7 := (vc_is7 ok).mpr h44
                  have vv : (vc_T I L t).val = vl_S L t := vc_valv (Or.inr (Or.inr h44))
                  have hp := of_decide_eq_true (vr_b_t h45)
                  rw [ez, evs] at hp
                  have dm : (vc_T I L t).det = (I t 7).toInt := vc_detm (Or.inr (Or.inl h44))
                  have c : (0 ≤ (vc_T I L t).val.least.toInt + o.toInt ∧ (vc_T I L t).val.greatest.toInt + o.toInt + (zz : Int) ≤ (M.value (vc_T I L t).det : Int)) := by
                    rw [vv, dm]; exact hp
                  have e : vx_reach M (vc_A I L 12) (vc_T I L t) o.toInt zz wr = 0 := (vx_r7 s7).trans (if_pos c)
                  exact ⟨_, _, by rw [e]; rfl, rfl, rfl⟩
              · refine jv_Wp.lift (fun _ Kz => jv_Ev.br jv_i33 (pc' := 204) (st' := []) rfl (jv_tsw_def (fun i hi h => by match i, hi, h with 
                      | 0, _, h => exact absurd h (jv_ne_toInt (k := 2) h36) 
                      | 1, _, h => exact absurd h (jv_ne_toInt (k := 3) h39) 
                      | 2, _, h => exact absurd h (jv_ne_toInt (k := 4) h42) 
                      | 3, _, _ => rfl 
                      | 4, _, _ => rfl 
                      | 5, _, h => exact absurd h (jv_ne_toInt (k := 7) h44) 
                      | i + 6, hi, _ => exact absurd hi (by simp)) rfl) Kz) ?_
                refine jv_Wp.lift (fun _ Kz => jv_Ev.steps jv_i33 1 (pc' := 205) (l' := [(8, .long (16 : Int64)), (7, .int (1 : Int32)), (5, .long ((L t 8) + o.toInt64)), (0, .ref 10), (1, .ref t), (2, .int o), (3, .int (vl_I zz)), (4, .int (vr_b wr))]) (st' := [.int (3 : Int32)]) rfl Kz) ?_
                refine jv_Wp.of (jv_Ev.ret jv_i33 rfl rfl) ?_
                rw [hQ]
                have e : vx_reach M (vc_A I L 12) (vc_T I L t) o.toInt zz wr = 3 := vx_r_ (fun z => h36 ((vc_is2 ok).mp z)) (fun z => h39 ((vc_is3 ok).mp z)) (fun z => h42 ((vc_is4 ok).mp z)) (fun z => h44 ((vc_is7 ok).mp z))
                exact ⟨_, _, by rw [e]; rfl, rfl, rfl⟩
      · refine jv_Wp.lift (fun _ Kz => jv_Ev.steps jv_i33 4 (pc' := 55) (l' := [(8, .long (0 : Int64)), (7, .int (1 : Int32)), (5, .long ((L t 8) + o.toInt64)), (0, .ref 10), (1, .ref t), (2, .int o), (3, .int (vl_I zz)), (4, .int (vr_b wr))]) (st' := [.ref t]) rfl Kz) ?_
        refine jv_Wp.lift (fun _ Kz => jv_Ev.m jv_i33 (pc' := 58) (st' := [.int (I t 6)]) (G' := (jv_H K I L R)) rfl rfl (jv_m_getI ht rfl rfl rfl) Kz) ?_
        refine jv_Wp.bys (q := ((I t 6) = Int32.ofInt 2)) (fun h46 => ?_) (fun h46 => ?_)
        · refine jv_Wp.lift (fun _ Kz => jv_Ev.br jv_i33 (pc' := 96) (st' := []) rfl (by rw [h46]; rfl) Kz) ?_
          refine jv_Wp.lift (fun _ Kz => jv_Ev.steps jv_i33 3 (pc' := 101) (l' := [(8, .long (0 : Int64)), (7, .int (1 : Int32)), (5, .long ((L t 8) + o.toInt64)), (0, .ref 10), (1, .ref t), (2, .int o), (3, .int (vl_I zz)), (4, .int (vr_b wr))]) (st' := [.int (lg_cmp ((L t 8) + o.toInt64) (0 : Int64))]) rfl Kz) ?_
          refine jv_Wp.cnd jv_i33 (pt := 124) (pe := 104) (p := ((lg_cmp ((L t 8) + o.toInt64) (0 : Int64)) < 0)) (q := (((L t 8) + o.toInt64) < (0 : Int64))) rfl jv_bi_lt rfl rfl (lg_cmp_lt ((L t 8) + o.toInt64) (0 : Int64)) (fun h47 => ?_) (fun h47 => ?_)
          · refine jv_Wp.lift (fun _ Kz => jv_Ev.steps jv_i33 1 (pc' := 125) (l' := [(8, .long (0 : Int64)), (7, .int (1 : Int32)), (5, .long ((L t 8) + o.toInt64)), (0, .ref 10), (1, .ref t), (2, .int o), (3, .int (vl_I zz)), (4, .int (vr_b wr))]) (st' := [.int (4 : Int32)]) rfl Kz) ?_
            refine jv_Wp.of (jv_Ev.ret jv_i33 rfl rfl) ?_
            rw [hQ]
            have s2 : (vc_T I L t).sort = 2 := (vc_is2 ok).mpr h46
            have fr := hfar (Or.inl h46)
            have bd : (vc_T I L t).det = (L t 8).toInt := vc_detk (Or.inl h46)
            have eA : ((L t 8) + o.toInt64).toInt = (L t 8).toInt + o.toInt := vi_add (by omega)
            have fe : ((L t 8) + o.toInt64).toInt % (zz : Int) = 0 := (vi_even hz _).mp (Classical.not_not.mp h1)
            have ew : ¬ wr = true := by rw [vr_b_f h34]; decide
            have f8 : zz = 8 := (vl_I_inj (by omega) (by decide)).mp (Classical.not_not.mp h35)
            have q1 : ((L t 8) + o.toInt64).toInt < 0 := Int64.lt_iff_toInt_lt.mp h47
            rw [eA] at fe
            rw [eA] at q1
            have c : ¬ ((if wr = true then 32 else if zz = 8 then 0 else 16 : Int) ≤ (vc_T I L t).det + o.toInt ∧ (vc_T I L t).det + o.toInt ≤ 64 - (zz : Int) ∧ ((vc_T I L t).det + o.toInt) % (zz : Int) = 0) := by
              rw [bd, if_neg ew, if_pos f8]
              exact fun z => by omega
            have e : vx_reach M (vc_A I L 12) (vc_T I L t) o.toInt zz wr = 4 := (vx_r2 s2).trans (if_neg c)
            exact ⟨_, _, by rw [e]; rfl, rfl, rfl⟩
          · refine jv_Wp.lift (fun _ Kz => jv_Ev.steps jv_i33 6 (pc' := 112) (l' := [(8, .long (0 : Int64)), (7, .int (1 : Int32)), (5, .long ((L t 8) + o.toInt64)), (0, .ref 10), (1, .ref t), (2, .int o), (3, .int (vl_I zz)), (4, .int (vr_b wr))]) (st' := [.int (lg_cmp ((L t 8) + o.toInt64) ((64 : Int32) - (vl_I zz)).toInt64)]) rfl Kz) ?_
            refine jv_Wp.cnd jv_i33 (pt := 124) (pe := 115) (p := (0 < (lg_cmp ((L t 8) + o.toInt64) ((64 : Int32) - (vl_I zz)).toInt64))) (q := (((64 : Int32) - (vl_I zz)).toInt64 < ((L t 8) + o.toInt64))) rfl jv_bi_gt rfl rfl (lg_cmp_gt ((L t 8) + o.toInt64) ((64 : Int32) - (vl_I zz)).toInt64) (fun h48 => ?_) (fun h48 => ?_)
            · refine jv_Wp.lift (fun _ Kz => jv_Ev.steps jv_i33 1 (pc' := 125) (l' := [(8, .long (0 : Int64)), (7, .int (1 : Int32)), (5, .long ((L t 8) + o.toInt64)), (0, .ref 10), (1, .ref t), (2, .int o), (3, .int (vl_I zz)), (4, .int (vr_b wr))]) (st' := [.int (4 : Int32)]) rfl Kz) ?_
              refine jv_Wp.of (jv_Ev.ret jv_i33 rfl rfl) ?_
              rw [hQ]
              have s2 : (vc_T I L t).sort = 2 := (vc_is2 ok).mpr h46
              have fr := hfar (Or.inl h46)
              have bd : (vc_T I L t).det = (L t 8).toInt := vc_detk (Or.inl h46)
              have eA : ((L t 8) + o.toInt64).toInt = (L t 8).toInt + o.toInt := vi_add (by omega)
              have fe : ((L t 8) + o.toInt64).toInt % (zz : Int) = 0 := (vi_even hz _).mp (Classical.not_not.mp h1)
              have ew : ¬ wr = true := by rw [vr_b_f h34]; decide
              have f8 : zz = 8 := (vl_I_inj (by omega) (by decide)).mp (Classical.not_not.mp h35)
              have q1 : ¬ ((L t 8) + o.toInt64).toInt < 0 := (not_congr Int64.lt_iff_toInt_lt).mp h47
              have q2 : 64 - (zz : Int) < ((L t 8) + o.toInt64).toInt := by rw [← e64]; exact Int64.lt_iff_toInt_lt.mp h48
              rw [eA] at fe
              rw [eA] at q1
              rw [eA] at q2
              have c : ¬ ((if wr = true then 32 else if zz = 8 then 0 else 16 : Int) ≤ (vc_T I L t).det + o.toInt ∧ (vc_T I L t).det + o.toInt ≤ 64 - (zz : Int) ∧ ((vc_T I L t).det + o.toInt) % (zz : Int) = 0) := by
                rw [bd, if_neg ew, if_pos f8]
                exact fun z => by omega
              have e : vx_reach M (vc_A I L 12) (vc_T I L t) o.toInt zz wr = 4 := (vx_r2 s2).trans (if_neg c)
              exact ⟨_, _, by rw [e]; rfl, rfl, rfl⟩
            · refine jv_Wp.lift (fun _ Kz => jv_Ev.steps jv_i33 1 (pc' := 117) (l' := [(8, .long (0 : Int64)), (7, .int (1 : Int32)), (5, .long ((L t 8) + o.toInt64)), (0, .ref 10), (1, .ref t), (2, .int o), (3, .int (vl_I zz)), (4, .int (vr_b wr))]) (st' := [.int (1 : Int32)]) rfl Kz) ?_
              refine jv_Wp.lift (fun _ Kz => jv_Ev.br jv_i33 (pc' := 120) (st' := []) rfl (by rfl) Kz) ?_
              refine jv_Wp.lift (fun _ Kz => jv_Ev.steps jv_i33 2 (pc' := 125) (l' := [(8, .long (0 : Int64)), (7, .int (1 : Int32)), (5, .long ((L t 8) + o.toInt64)), (0, .ref 10), (1, .ref t), (2, .int o), (3, .int (vl_I zz)), (4, .int (vr_b wr))]) (st' := [.int (0 : Int32)]) rfl Kz) ?_
              refine jv_Wp.of (jv_Ev.ret jv_i33 rfl rfl) ?_
              rw [hQ]
              have s2 : (vc_T I L t).sort = 2 := (vc_is2 ok).mpr h46
              have fr := hfar (Or.inl h46)
              have bd : (vc_T I L t).det = (L t 8).toInt := vc_detk (Or.inl h46)
              have eA : ((L t 8) + o.toInt64).toInt = (L t 8).toInt + o.toInt := vi_add (by omega)
              have fe : ((L t 8) + o.toInt64).toInt % (zz : Int) = 0 := (vi_even hz _).mp (Classical.not_not.mp h1)
              have ew : ¬ wr = true := by rw [vr_b_f h34]; decide
              have f8 : zz = 8 := (vl_I_inj (by omega) (by decide)).mp (Classical.not_not.mp h35)
              have q1 : ¬ ((L t 8) + o.toInt64).toInt < 0 := (not_congr Int64.lt_iff_toInt_lt).mp h47
              have q2 : ¬ 64 - (zz : Int) < ((L t 8) + o.toInt64).toInt := by rw [← e64]; exact (not_congr Int64.lt_iff_toInt_lt).mp h48
              rw [eA] at fe
              rw [eA] at q1
              rw [eA] at q2
              have c : ((if wr = true then 32 else if zz = 8 then 0 else 16 : Int) ≤ (vc_T I L t).det + o.toInt ∧ (vc_T I L t).det + o.toInt ≤ 64 - (zz : Int) ∧ ((vc_T I L t).det + o.toInt) % (zz : Int) = 0) := by
                rw [bd, if_neg ew, if_pos f8]
                exact ⟨by omega, by omega, fe⟩
              have e : vx_reach M (vc_A I L 12) (vc_T I L t) o.toInt zz wr = 0 := (vx_r2 s2).trans (if_pos c)
              exact ⟨_, _, by rw [e]; rfl, rfl, rfl⟩
        · refine jv_Wp.bys (q := ((I t 6) = Int32.ofInt 3)) (fun h49 => ?_) (fun h49 => ?_)
          · refine jv_Wp.lift (fun _ Kz => jv_Ev.br jv_i33 (pc' := 126) (st' := []) rfl (by rw [h49]; rfl) Kz) ?_
            refine jv_Wp.lift (fun _ Kz => jv_Ev.steps jv_i33 3 (pc' := 132) (l' := [(8, .long (0 : Int64)), (7, .int (1 : Int32)), (5, .long ((L t 8) + o.toInt64)), (0, .ref 10), (1, .ref t), (2, .int o), (3, .int (vl_I zz)), (4, .int (vr_b wr))]) (st' := [.int (lg_cmp ((L t 8) + o.toInt64) (-512 : Int64))]) rfl Kz) ?_
            refine jv_Wp.cnd jv_i33 (pt := 153) (pe := 135) (p := ((lg_cmp ((L t 8) + o.toInt64) (-512 : Int64)) < 0)) (q := (((L t 8) + o.toInt64) < (-512 : Int64))) rfl jv_bi_lt rfl rfl (lg_cmp_lt ((L t 8) + o.toInt64) (-512 : Int64)) (fun h50 => ?_) (fun h50 => ?_)
            · refine jv_Wp.lift (fun _ Kz => jv_Ev.steps jv_i33 1 (pc' := 154) (l' := [(8, .long (0 : Int64)), (7, .int (1 : Int32)), (5, .long ((L t 8) + o.toInt64)), (0, .ref 10), (1, .ref t), (2, .int o), (3, .int (vl_I zz)), (4, .int (vr_b wr))]) (st' := [.int (4 : Int32)]) rfl Kz) ?_
              refine jv_Wp.of (jv_Ev.ret jv_i33 rfl rfl) ?_
              rw [hQ]
              have s3 : (vc_T I L t).sort = 3 := (vc_is3 ok).mpr h49
              have fr := hfar (Or.inr h49)
              have bd : (vc_T I L t).det = (L t 8).toInt := vc_detk (Or.inr h49)
              have eA : ((L t 8) + o.toInt64).toInt = (L t 8).toInt + o.toInt := vi_add (by omega)
              have fe : ((L t 8) + o.toInt64).toInt % (zz : Int) = 0 := (vi_even hz _).mp (Classical.not_not.mp h1)
              have ew : ¬ wr = true := by rw [vr_b_f h34]; decide
              have f8 : zz = 8 := (vl_I_inj (by omega) (by decide)).mp (Classical.not_not.mp h35)
              have q1 : ((L t 8) + o.toInt64).toInt < -512 := Int64.lt_iff_toInt_lt.mp h50
              rw [eA] at fe
              rw [eA] at q1
              have c : ¬ (-512 ≤ (vc_T I L t).det + o.toInt ∧ (vc_T I L t).det + o.toInt ≤ -(zz : Int) ∧ ((vc_T I L t).det + o.toInt) % (zz : Int) = 0) := by
                rw [bd]
                exact fun z => by omega
              have e : vx_reach M (vc_A I L 12) (vc_T I L t) o.toInt zz wr = 4 := (vx_r3 s3).trans (if_neg c)
              exact ⟨_, _, by rw [e]; rfl, rfl, rfl⟩
            · refine jv_Wp.lift (fun _ Kz => jv_Ev.steps jv_i33 5 (pc' := 141) (l' := [(8, .long (0 : Int64)), (7, .int (1 : Int32)), (5, .long ((L t 8) + o.toInt64)), (0, .ref 10), (1, .ref t), (2, .int o), (3, .int (vl_I zz)), (4, .int (vr_b wr))]) (st' := [.int (lg_cmp ((L t 8) + o.toInt64) (-(vl_I zz)).toInt64)]) rfl Kz) ?_
              refine jv_Wp.cnd jv_i33 (pt := 153) (pe := 144) (p := (0 < (lg_cmp ((L t 8) + o.toInt64) (-(vl_I zz)).toInt64))) (q := ((-(vl_I zz)).toInt64 < ((L t 8) + o.toInt64))) rfl jv_bi_gt rfl rfl (lg_cmp_gt ((L t 8) + o.toInt64) (-(vl_I zz)).toInt64) (fun h51 => ?_) (fun h51 => ?_)
              · refine jv_Wp.lift (fun _ Kz => jv_Ev.steps jv_i33 1 (pc' := 154) (l' := [(8, .long (0 : Int64)), (7, .int (1 : Int32)), (5, .long ((L t 8) + o.toInt64)), (0, .ref 10), (1, .ref t), (2, .int o), (3, .int (vl_I zz)), (4, .int (vr_b wr))]) (st' := [.int (4 : Int32)]) rfl Kz) ?_
                refine jv_Wp.of (jv_Ev.ret jv_i33 rfl rfl) ?_
                rw [hQ]
                have s3 : (vc_T I L t).sort = 3 := (vc_is3 ok).mpr h49
                have fr := hfar (Or.inr h49)
                have bd : (vc_T I L t).det = (L t 8).toInt := vc_detk (Or.inr h49)
                have eA : ((L t 8) + o.toInt64).toInt = (L t 8).toInt + o.toInt := vi_add (by omega)
                have fe : ((L t 8) + o.toInt64).toInt % (zz : Int) = 0 := (vi_even hz _).mp (Classical.not_not.mp h1)
                have ew : ¬ wr = true := by rw [vr_b_f h34]; decide
                have f8 : zz = 8 := (vl_I_inj (by omega) (by decide)).mp (Classical.not_not.mp h35)
                have q1 : ¬ ((L t 8) + o.toInt64).toInt < -512 := (not_congr Int64.lt_iff_toInt_lt).mp h50
                have q2 : -(zz : Int) < ((L t 8) + o.toInt64).toInt := by rw [← eneg]; exact Int64.lt_iff_toInt_lt.mp h51
                rw [eA] at fe
                rw [eA] at q1
                rw [eA] at q2
                have c : ¬ (-512 ≤ (vc_T I L t).det + o.toInt ∧ (vc_T I L t).det + o.toInt ≤ -(zz : Int) ∧ ((vc_T I L t).det + o.toInt) % (zz : Int) = 0) := by
                  rw [bd]
                  exact fun z => by omega
                have e : vx_reach M (vc_A I L 12) (vc_T I L t) o.toInt zz wr = 4 := (vx_r3 s3).trans (if_neg c)
                exact ⟨_, _, by rw [e]; rfl, rfl, rfl⟩
              · refine jv_Wp.lift (fun _ Kz => jv_Ev.steps jv_i33 1 (pc' := 146) (l' := [(8, .long (0 : Int64)), (7, .int (1 : Int32)), (5, .long ((L t 8) + o.toInt64)), (0, .ref 10), (1, .ref t), (2, .int o), (3, .int (vl_I zz)), (4, .int (vr_b wr))]) (st' := [.int (1 : Int32)]) rfl Kz) ?_
                refine jv_Wp.lift (fun _ Kz => jv_Ev.br jv_i33 (pc' := 149) (st' := []) rfl (by rfl) Kz) ?_
                refine jv_Wp.lift (fun _ Kz => jv_Ev.steps jv_i33 2 (pc' := 154) (l' := [(8, .long (0 : Int64)), (7, .int (1 : Int32)), (5, .long ((L t 8) + o.toInt64)), (0, .ref 10), (1, .ref t), (2, .int o), (3, .int (vl_I zz)), (4, .int (vr_b wr))]) (st' := [.int (0 : Int32)]) rfl Kz) ?_
                refine jv_Wp.of (jv_Ev.ret jv_i33 rfl rfl) ?_
                rw [hQ]
                have s3 : (vc_T I L t).sort = 3 := (vc_is3 ok).mpr h49
                have fr := hfar (Or.inr h49)
                have bd : (vc_T I L t).det = (L t 8).toInt := vc_detk (Or.inr h49)
                have eA : ((L t 8) + o.toInt64).toInt = (L t 8).toInt + o.toInt := vi_add (by omega)
                have fe : ((L t 8) + o.toInt64).toInt % (zz : Int) = 0 := (vi_even hz _).mp (Classical.not_not.mp h1)
                have ew : ¬ wr = true := by rw [vr_b_f h34]; decide
                have f8 : zz = 8 := (vl_I_inj (by omega) (by decide)).mp (Classical.not_not.mp h35)
                have q1 : ¬ ((L t 8) + o.toInt64).toInt < -512 := (not_congr Int64.lt_iff_toInt_lt).mp h50
                have q2 : ¬ -(zz : Int) < ((L t 8) + o.toInt64).toInt := by rw [← eneg]; exact (not_congr Int64.lt_iff_toInt_lt).mp h51
                rw [eA] at fe
                rw [eA] at q1
                rw [eA] at q2
                have c : (-512 ≤ (vc_T I L t).det + o.toInt ∧ (vc_T I L t).det + o.toInt ≤ -(zz : Int) ∧ ((vc_T I L t).det + o.toInt) % (zz : Int) = 0) := by
                  rw [bd]
                  exact ⟨by omega, by omega, fe⟩
                have e : vx_reach M (vc_A I L 12) (vc_T I L t) o.toInt zz wr = 0 := (vx_r3 s3).trans (if_pos c)
                exact ⟨_, _, by rw [e]; rfl, rfl, rfl⟩
          · refine jv_Wp.bys (q := ((I t 6) = Int32.ofInt 4)) (fun h52 => ?_) (fun h52 => ?_)
            · refine jv_Wp.lift (fun _ Kz => jv_Ev.br jv_i33 (pc' := 155) (st' := []) rfl (by rw [h52]; rfl) Kz) ?_
              refine jv_Wp.lift (fun _ Kz => jv_Ev.steps jv_i33 4 (pc' := 159) (l' := [(8, .long (0 : Int64)), (7, .int (1 : Int32)), (5, .long ((L t 8) + o.toInt64)), (0, .ref 10), (1, .ref t), (2, .int o), (3, .int (vl_I zz)), (4, .int (vr_b wr))]) (st' := [.ref 10, .int (vl_I zz), .int o, .ref t]) rfl Kz) ?_
              refine jv_Wp.lift (fun _ Kz => jv_Ev.m jv_i33 (pc' := 162) (st' := [.ref 12, .int (vl_I zz), .int o, .ref t]) (G' := (jv_H K I L R)) rfl rfl (jv_m_getR hC.k rfl rfl hC.rnow) Kz) ?_
              refine jv_Wp.lift (fun _ Kz => jv_Ev.m jv_i33 (pc' := 165) (st' := [.long (L 12 1), .int (vl_I zz), .int o, .ref t]) (G' := (jv_H K I L R)) rfl rfl (jv_m_getL hC.now.k rfl rfl rfl) Kz) ?_
              obtain ⟨I9, L9, H9, ei9, el9⟩ := vc_within (I := I) (L := L) (R := R) (n := n) (sl := sl) o (vl_I zz) (L 12 1) (x := t) (Or.inr ht) ho hzi hkn (hlg (Or.inl h52))
              rw [ei9, el9] at H9
              refine jv_Wp.lift (fun _ Kz => jv_Ev.c jv_i33 (pc' := 168) (S' := [.int (vr_b (decide (0 ≤ (L t 4).toInt + o.toInt ∧ (L t 5).toInt + o.toInt + (vl_I zz).toInt ≤ (L 12 1).toInt)))]) jv_i34 [.ref t, .int o, .int (vl_I zz), .long (L 12 1)] rfl rfl rfl rfl rfl rfl H9 rfl rfl Kz) ?_
              refine jv_Wp.cnd jv_i33 (pt := 175) (pe := 171) (p := ((vr_b (decide (0 ≤ (L t 4).toInt + o.toInt ∧ (L t 5).toInt + o.toInt + (vl_I zz).toInt ≤ (L 12 1).toInt))) = 0)) (q := ((vr_b (decide (0 ≤ (L t 4).toInt + o.toInt ∧ (L t 5).toInt + o.toInt + (vl_I zz).toInt ≤ (L 12 1).toInt))) = 0)) rfl jv_bi_eq rfl rfl Iff.rfl (fun h53 => ?_) (fun h53 => ?_)
              · refine jv_Wp.lift (fun _ Kz => jv_Ev.steps jv_i33 1 (pc' := 176) (l' := [(8, .long (0 : Int64)), (7, .int (1 : Int32)), (5, .long ((L t 8) + o.toInt64)), (0, .ref 10), (1, .ref t), (2, .int o), (3, .int (vl_I zz)), (4, .int (vr_b wr))]) (st' := [.int (4 : Int32)]) rfl Kz) ?_
                refine jv_Wp.of (jv_Ev.ret jv_i33 rfl rfl) ?_
                rw [hQ]
                have s4 : (vc_T I L t).sort = 4 := (vc_is4 ok).mpr h52
                have vv : (vc_T I L t).val = vl_S L t := vc_valv (Or.inr (Or.inl h52))
                have hp := of_decide_eq_false (vr_b_f h53)
                rw [ez] at hp
                have c : ¬ (0 ≤ (vc_T I L t).val.least.toInt + o.toInt ∧ (vc_T I L t).val.greatest.toInt + o.toInt + (zz : Int) ≤ (vc_A I L 12).2) := by
                  rw [vv]; exact hp
                have e : vx_reach M (vc_A I L 12) (vc_T I L t) o.toInt zz wr = 4 := (vx_r4 s4).trans (if_neg c)
                exact ⟨_, _, by rw [e]; rfl, rfl, rfl⟩
              · refine jv_Wp.lift (fun _ Kz => jv_Ev.steps jv_i33 2 (pc' := 176) (l' := [(8, .long (0 : Int64)), (7, .int (1 : Int32)), (5, .long ((L t 8) + o.toInt64)), (0, .ref 10), (1, .ref t), (2, .int o), (3, .int (vl_I zz)), (4, .int (vr_b wr))]) (st' := [.int (0 : Int32)]) rfl Kz) ?_
                refine jv_Wp.of (jv_Ev.ret jv_i33 rfl rfl) ?_
                rw [hQ]
                have s4 : (vc_T I L t).sort = 4 := (vc_is4 ok).mpr h52
                have vv : (vc_T I L t).val = vl_S L t := vc_valv (Or.inr (Or.inl h52))
                have hp := of_decide_eq_true (vr_b_t h53)
                rw [ez] at hp
                have c : (0 ≤ (vc_T I L t).val.least.toInt + o.toInt ∧ (vc_T I L t).val.greatest.toInt + o.toInt + (zz : Int) ≤ (vc_A I L 12).2) := by
                  rw [vv]; exact hp
                have e : vx_reach M (vc_A I L 12) (vc_T I L t) o.toInt zz wr = 0 := (vx_r4 s4).trans (if_pos c)
                exact ⟨_, _, by rw [e]; rfl, rfl, rfl⟩
            · refine jv_Wp.bys (q := ((I t 6) = Int32.ofInt 7)) (fun h54 => ?_) (fun h54 => ?_)
              · refine jv_Wp.lift (fun _ Kz => jv_Ev.br jv_i33 (pc' := 177) (st' := []) rfl (by rw [h54]; rfl) Kz) ?_
                refine jv_Wp.lift (fun _ Kz => jv_Ev.steps jv_i33 4 (pc' := 181) (l' := [(8, .long (0 : Int64)), (7, .int (1 : Int32)), (5, .long ((L t 8) + o.toInt64)), (0, .ref 10), (1, .ref t), (2, .int o), (3, .int (vl_I zz)), (4, .int (vr_b wr))]) (st' := [.ref 10, .int (vl_I zz), .int o, .ref t]) rfl Kz) ?_
                refine jv_Wp.lift (fun _ Kz => jv_Ev.m jv_i33 (pc' := 184) (st' := [.ref 2, .int (vl_I zz), .int o, .ref t]) (G' := (jv_H K I L R)) rfl rfl (jv_m_getR hC.k rfl rfl hC.rstore) Kz) ?_
                refine jv_Wp.lift (fun _ Kz => jv_Ev.steps jv_i33 1 (pc' := 185) (l' := [(8, .long (0 : Int64)), (7, .int (1 : Int32)), (5, .long ((L t 8) + o.toInt64)), (0, .ref 10), (1, .ref t), (2, .int o), (3, .int (vl_I zz)), (4, .int (vr_b wr))]) (st' := [.ref t, .ref 2, .int (vl_I zz), .int o, .ref t]) rfl Kz) ?_
                refine jv_Wp.lift (fun _ Kz => jv_Ev.m jv_i33 (pc' := 188) (st' := [.int (I t 7), .ref 2, .int (vl_I zz), .int o, .ref t]) (G' := (jv_H K I L R)) rfl rfl (jv_m_getI ht rfl rfl rfl) Kz) ?_
                refine jv_Wp.lift (fun _ Kz => jv_Ev.c jv_i33 (pc' := 191) (S' := [.int (vl_I (M.value (I t 7).toInt)), .int (vl_I zz), .int o, .ref t]) jv_i127 [.ref 2, .int (I t 7)] rfl rfl rfl rfl (jv_cal rfl (jv_H_at hM.1) rfl rfl) rfl (vc_vsize hM (I t 7) (hmn h54)) rfl rfl Kz) ?_
                refine jv_Wp.lift (fun _ Kz => jv_Ev.steps jv_i33 1 (pc' := 192) (l' := [(8, .long (0 : Int64)), (7, .int (1 : Int32)), (5, .long ((L t 8) + o.toInt64)), (0, .ref 10), (1, .ref t), (2, .int o), (3, .int (vl_I zz)), (4, .int (vr_b wr))]) (st' := [.long (vl_I (M.value (I t 7).toInt)).toInt64, .int (vl_I zz), .int o, .ref t]) rfl Kz) ?_
                obtain ⟨I10, L10, H10, ei10, el10⟩ := vc_within (I := I) (L := L) (R := R) (n := n) (sl := sl) o (vl_I zz) (vl_I (M.value (I t 7).toInt)).toInt64 (x := t) (Or.inr ht) ho hzi (hvs _) (hlg (Or.inr h54))
                rw [ei10, el10] at H10
                refine jv_Wp.lift (fun _ Kz => jv_Ev.c jv_i33 (pc' := 195) (S' := [.int (vr_b (decide (0 ≤ (L t 4).toInt + o.toInt ∧ (L t 5).toInt + o.toInt + (vl_I zz).toInt ≤ (vl_I (M.value (I t 7).toInt)).toInt64.toInt)))]) jv_i34 [.ref t, .int o, .int (vl_I zz), .long (vl_I (M.value (I t 7).toInt)).toInt64] rfl rfl rfl rfl rfl rfl H10 rfl rfl Kz) ?_
                refine jv_Wp.cnd jv_i33 (pt := 202) (pe := 198) (p := ((vr_b (decide (0 ≤ (L t 4).toInt + o.toInt ∧ (L t 5).toInt + o.toInt + (vl_I zz).toInt ≤ (vl_I (M.value (I t 7).toInt)).toInt64.toInt))) = 0)) (q := ((vr_b (decide (0 ≤ (L t 4).toInt + o.toInt ∧ (L t 5).toInt + o.toInt + (vl_I zz).toInt ≤ (vl_I (M.value (I t 7).toInt)).toInt64.toInt))) = 0)) rfl jv_bi_eq rfl rfl Iff.rfl (fun h55 => ?_) (fun h55 => ?_)
                · refine jv_Wp.lift (fun _ Kz => jv_Ev.steps jv_i33 1 (pc' := 203) (l' := [(8, .long (0 : Int64)), (7, .int (1 : Int32)), (5, .long ((L t 8) + o.toInt64)), (0, .ref 10), (1, .ref t), (2, .int o), (3, .int (vl_I zz)), (4, .int (vr_b wr))]) (st' := [.int (4 : Int32)]) rfl Kz) ?_
                  refine jv_Wp.of (jv_Ev.ret jv_i33 rfl rfl) ?_
                  rw [hQ]
                  have s7 : (vc_T I L t).sort = 7 := (vc_is7 ok).mpr h54
                  have vv : (vc_T I L t).val = vl_S L t := vc_valv (Or.inr (Or.inr h54))
                  have hp := of_decide_eq_false (vr_b_f h55)
                  rw [ez, evs] at hp
                  have dm : (vc_T I L t).det = (I t 7).toInt := vc_detm (Or.inr (Or.inl h54))
                  have c : ¬ (0 ≤ (vc_T I L t).val.least.toInt + o.toInt ∧ (vc_T I L t).val.greatest.toInt + o.toInt + (zz : Int) ≤ (M.value (vc_T I L t).det : Int)) := by
                    rw [vv, dm]; exact hp
                  have e : vx_reach M (vc_A I L 12) (vc_T I L t) o.toInt zz wr = 4 := (vx_r7 s7).trans (if_neg c)
                  exact ⟨_, _, by rw [e]; rfl, rfl, rfl⟩
                · refine jv_Wp.lift (fun _ Kz => jv_Ev.steps jv_i33 2 (pc' := 203) (l' := [(8, .long (0 : Int64)), (7, .int (1 : Int32)), (5, .long ((L t 8) + o.toInt64)), (0, .ref 10), (1, .ref t), (2, .int o), (3, .int (vl_I zz)), (4, .int (vr_b wr))]) (st' := [.int (0 : Int32)]) rfl Kz) ?_
                  refine jv_Wp.of (jv_Ev.ret jv_i33 rfl rfl) ?_
                  rw [hQ]
                  have s7 : (vc_T I L t).sort = 7 := (vc_is7 ok).mpr h54
                  have vv : (vc_T I L t).val = vl_S L t := vc_valv (Or.inr (Or.inr h54))
                  have hp := of_decide_eq_true (vr_b_t h55)
                  rw [ez, evs] at hp
                  have dm : (vc_T I L t).det = (I t 7).toInt := vc_detm (Or.inr (Or.inl h54))
                  have c : (0 ≤ (vc_T I L t).val.least.toInt + o.toInt ∧ (vc_T I L t).val.greatest.toInt + o.toInt + (zz : Int) ≤ (M.value (vc_T I L t).det : Int)) := by
                    rw [vv, dm]; exact hp
                  have e : vx_reach M (vc_A I L 12) (vc_T I L t) o.toInt zz wr = 0 := (vx_r7 s7).trans (if_pos c)
                  exact ⟨_, _, by rw [e]; rfl, rfl, rfl⟩
              · refine jv_Wp.lift (fun _ Kz => jv_Ev.br jv_i33 (pc' := 204) (st' := []) rfl (jv_tsw_def (fun i hi h => by match i, hi, h with 
                      | 0, _, h => exact absurd h (jv_ne_toInt (k := 2) h46) 
                      | 1, _, h => exact absurd h (jv_ne_toInt (k := 3) h49) 
                      | 2, _, h => exact absurd h (jv_ne_toInt (k := 4) h52) 
                      | 3, _, _ => rfl 
                      | 4, _, _ => rfl 
                      | 5, _, h => exact absurd h (jv_ne_toInt (k := 7) h54) 
                      | i + 6, hi, _ => exact absurd hi (by simp)) rfl) Kz) ?_
                refine jv_Wp.lift (fun _ Kz => jv_Ev.steps jv_i33 1 (pc' := 205) (l' := [(8, .long (0 : Int64)), (7, .int (1 : Int32)), (5, .long ((L t 8) + o.toInt64)), (0, .ref 10), (1, .ref t), (2, .int o), (3, .int (vl_I zz)), (4, .int (vr_b wr))]) (st' := [.int (3 : Int32)]) rfl Kz) ?_
                refine jv_Wp.of (jv_Ev.ret jv_i33 rfl rfl) ?_
                rw [hQ]
                have e : vx_reach M (vc_A I L 12) (vc_T I L t) o.toInt zz wr = 3 := vx_r_ (fun z => h46 ((vc_is2 ok).mp z)) (fun z => h49 ((vc_is3 ok).mp z)) (fun z => h52 ((vc_is4 ok).mp z)) (fun z => h54 ((vc_is7 ok).mp z))
                exact ⟨_, _, by rw [e]; rfl, rfl, rfl⟩
    · refine jv_Wp.lift (fun _ Kz => jv_Ev.steps jv_i33 4 (pc' := 55) (l' := [(8, .long (32 : Int64)), (7, .int (1 : Int32)), (5, .long ((L t 8) + o.toInt64)), (0, .ref 10), (1, .ref t), (2, .int o), (3, .int (vl_I zz)), (4, .int (vr_b wr))]) (st' := [.ref t]) rfl Kz) ?_
      refine jv_Wp.lift (fun _ Kz => jv_Ev.m jv_i33 (pc' := 58) (st' := [.int (I t 6)]) (G' := (jv_H K I L R)) rfl rfl (jv_m_getI ht rfl rfl rfl) Kz) ?_
      refine jv_Wp.bys (q := ((I t 6) = Int32.ofInt 2)) (fun h56 => ?_) (fun h56 => ?_)
      · refine jv_Wp.lift (fun _ Kz => jv_Ev.br jv_i33 (pc' := 96) (st' := []) rfl (by rw [h56]; rfl) Kz) ?_
        refine jv_Wp.lift (fun _ Kz => jv_Ev.steps jv_i33 3 (pc' := 101) (l' := [(8, .long (32 : Int64)), (7, .int (1 : Int32)), (5, .long ((L t 8) + o.toInt64)), (0, .ref 10), (1, .ref t), (2, .int o), (3, .int (vl_I zz)), (4, .int (vr_b wr))]) (st' := [.int (lg_cmp ((L t 8) + o.toInt64) (32 : Int64))]) rfl Kz) ?_
        refine jv_Wp.cnd jv_i33 (pt := 124) (pe := 104) (p := ((lg_cmp ((L t 8) + o.toInt64) (32 : Int64)) < 0)) (q := (((L t 8) + o.toInt64) < (32 : Int64))) rfl jv_bi_lt rfl rfl (lg_cmp_lt ((L t 8) + o.toInt64) (32 : Int64)) (fun h57 => ?_) (fun h57 => ?_)
        · refine jv_Wp.lift (fun _ Kz => jv_Ev.steps jv_i33 1 (pc' := 125) (l' := [(8, .long (32 : Int64)), (7, .int (1 : Int32)), (5, .long ((L t 8) + o.toInt64)), (0, .ref 10), (1, .ref t), (2, .int o), (3, .int (vl_I zz)), (4, .int (vr_b wr))]) (st' := [.int (4 : Int32)]) rfl Kz) ?_
          refine jv_Wp.of (jv_Ev.ret jv_i33 rfl rfl) ?_
          rw [hQ]
          have s2 : (vc_T I L t).sort = 2 := (vc_is2 ok).mpr h56
          have fr := hfar (Or.inl h56)
          have bd : (vc_T I L t).det = (L t 8).toInt := vc_detk (Or.inl h56)
          have eA : ((L t 8) + o.toInt64).toInt = (L t 8).toInt + o.toInt := vi_add (by omega)
          have fe : ((L t 8) + o.toInt64).toInt % (zz : Int) = 0 := (vi_even hz _).mp (Classical.not_not.mp h1)
          have ew : wr = true := vr_b_t h34
          have q1 : ((L t 8) + o.toInt64).toInt < 32 := Int64.lt_iff_toInt_lt.mp h57
          rw [eA] at fe
          rw [eA] at q1
          have c : ¬ ((if wr = true then 32 else if zz = 8 then 0 else 16 : Int) ≤ (vc_T I L t).det + o.toInt ∧ (vc_T I L t).det + o.toInt ≤ 64 - (zz : Int) ∧ ((vc_T I L t).det + o.toInt) % (zz : Int) = 0) := by
            rw [bd, if_pos ew]
            exact fun z => by omega
          have e : vx_reach M (vc_A I L 12) (vc_T I L t) o.toInt zz wr = 4 := (vx_r2 s2).trans (if_neg c)
          exact ⟨_, _, by rw [e]; rfl, rfl, rfl⟩
        · refine jv_Wp.lift (fun _ Kz => jv_Ev.steps jv_i33 6 (pc' := 112) (l' := [(8, .long (32 : Int64)), (7, .int (1 : Int32)), (5, .long ((L t 8) + o.toInt64)), (0, .ref 10), (1, .ref t), (2, .int o), (3, .int (vl_I zz)), (4, .int (vr_b wr))]) (st' := [.int (lg_cmp ((L t 8) + o.toInt64) ((64 : Int32) - (vl_I zz)).toInt64)]) rfl Kz) ?_
          refine jv_Wp.cnd jv_i33 (pt := 124) (pe := 115) (p := (0 < (lg_cmp ((L t 8) + o.toInt64) ((64 : Int32) - (vl_I zz)).toInt64))) (q := (((64 : Int32) - (vl_I zz)).toInt64 < ((L t 8) + o.toInt64))) rfl jv_bi_gt rfl rfl (lg_cmp_gt ((L t 8) + o.toInt64) ((64 : Int32) - (vl_I zz)).toInt64) (fun h58 => ?_) (fun h58 => ?_)
          · refine jv_Wp.lift (fun _ Kz => jv_Ev.steps jv_i33 1 (pc' := 125) (l' := [(8, .long (32 : Int64)), (7, .int (1 : Int32)), (5, .long ((L t 8) + o.toInt64)), (0, .ref 10), (1, .ref t), (2, .int o), (3, .int (vl_I zz)), (4, .int (vr_b wr))]) (st' := [.int (4 : Int32)]) rfl Kz) ?_
            refine jv_Wp.of (jv_Ev.ret jv_i33 rfl rfl) ?_
            rw [hQ]
            have s2 : (vc_T I L t).sort = 2 := (vc_is2 ok).mpr h56
            have fr := hfar (Or.inl h56)
            have bd : (vc_T I L t).det = (L t 8).toInt := vc_detk (Or.inl h56)
            have eA : ((L t 8) + o.toInt64).toInt = (L t 8).toInt + o.toInt := vi_add (by omega)
            have fe : ((L t 8) + o.toInt64).toInt % (zz : Int) = 0 := (vi_even hz _).mp (Classical.not_not.mp h1)
            have ew : wr = true := vr_b_t h34
            have q1 : ¬ ((L t 8) + o.toInt64).toInt < 32 := (not_congr Int64.lt_iff_toInt_lt).mp h57
            have q2 : 64 - (zz : Int) < ((L t 8) + o.toInt64).toInt := by rw [← e64]; exact Int64.lt_iff_toInt_lt.mp h58
            rw [eA] at fe
            rw [eA] at q1
            rw [eA] at q2
            have c : ¬ ((if wr = true then 32 else if zz = 8 then 0 else 16 : Int) ≤ (vc_T I L t).det + o.toInt ∧ (vc_T I L t).det + o.toInt ≤ 64 - (zz : Int) ∧ ((vc_T I L t).det + o.toInt) % (zz : Int) = 0) := by
              rw [bd, if_pos ew]
              exact fun z => by omega
            have e : vx_reach M (vc_A I L 12) (vc_T I L t) o.toInt zz wr = 4 := (vx_r2 s2).trans (if_neg c)
            exact ⟨_, _, by rw [e]; rfl, rfl, rfl⟩
          · refine jv_Wp.lift (fun _ Kz => jv_Ev.steps jv_i33 1 (pc' := 117) (l' := [(8, .long (32 : Int64)), (7, .int (1 : Int32)), (5, .long ((L t 8) + o.toInt64)), (0, .ref 10), (1, .ref t), (2, .int o), (3, .int (vl_I zz)), (4, .int (vr_b wr))]) (st' := [.int (1 : Int32)]) rfl Kz) ?_
            refine jv_Wp.lift (fun _ Kz => jv_Ev.br jv_i33 (pc' := 120) (st' := []) rfl (by rfl) Kz) ?_
            refine jv_Wp.lift (fun _ Kz => jv_Ev.steps jv_i33 2 (pc' := 125) (l' := [(8, .long (32 : Int64)), (7, .int (1 : Int32)), (5, .long ((L t 8) + o.toInt64)), (0, .ref 10), (1, .ref t), (2, .int o), (3, .int (vl_I zz)), (4, .int (vr_b wr))]) (st' := [.int (0 : Int32)]) rfl Kz) ?_
            refine jv_Wp.of (jv_Ev.ret jv_i33 rfl rfl) ?_
            rw [hQ]
            have s2 : (vc_T I L t).sort = 2 := (vc_is2 ok).mpr h56
            have fr := hfar (Or.inl h56)
            have bd : (vc_T I L t).det = (L t 8).toInt := vc_detk (Or.inl h56)
            have eA : ((L t 8) + o.toInt64).toInt = (L t 8).toInt + o.toInt := vi_add (by omega)
            have fe : ((L t 8) + o.toInt64).toInt % (zz : Int) = 0 := (vi_even hz _).mp (Classical.not_not.mp h1)
            have ew : wr = true := vr_b_t h34
            have q1 : ¬ ((L t 8) + o.toInt64).toInt < 32 := (not_congr Int64.lt_iff_toInt_lt).mp h57
            have q2 : ¬ 64 - (zz : Int) < ((L t 8) + o.toInt64).toInt := by rw [← e64]; exact (not_congr Int64.lt_iff_toInt_lt).mp h58
            rw [eA] at fe
            rw [eA] at q1
            rw [eA] at q2
            have c : ((if wr = true then 32 else if zz = 8 then 0 else 16 : Int) ≤ (vc_T I L t).det + o.toInt ∧ (vc_T I L t).det + o.toInt ≤ 64 - (zz : Int) ∧ ((vc_T I L t).det + o.toInt) % (zz : Int) = 0) := by
              rw [bd, if_pos ew]
              exact ⟨by omega, by omega, fe⟩
            have e : vx_reach M (vc_A I L 12) (vc_T I L t) o.toInt zz wr = 0 := (vx_r2 s2).trans (if_pos c)
            exact ⟨_, _, by rw [e]; rfl, rfl, rfl⟩
      · refine jv_Wp.bys (q := ((I t 6) = Int32.ofInt 3)) (fun h59 => ?_) (fun h59 => ?_)
        · refine jv_Wp.lift (fun _ Kz => jv_Ev.br jv_i33 (pc' := 126) (st' := []) rfl (by rw [h59]; rfl) Kz) ?_
          refine jv_Wp.lift (fun _ Kz => jv_Ev.steps jv_i33 3 (pc' := 132) (l' := [(8, .long (32 : Int64)), (7, .int (1 : Int32)), (5, .long ((L t 8) + o.toInt64)), (0, .ref 10), (1, .ref t), (2, .int o), (3, .int (vl_I zz)), (4, .int (vr_b wr))]) (st' := [.int (lg_cmp ((L t 8) + o.toInt64) (-512 : Int64))]) rfl Kz) ?_
          refine jv_Wp.cnd jv_i33 (pt := 153) (pe := 135) (p := ((lg_cmp ((L t 8) + o.toInt64) (-512 : Int64)) < 0)) (q := (((L t 8) + o.toInt64) < (-512 : Int64))) rfl jv_bi_lt rfl rfl (lg_cmp_lt ((L t 8) + o.toInt64) (-512 : Int64)) (fun h60 => ?_) (fun h60 => ?_)
          · refine jv_Wp.lift (fun _ Kz => jv_Ev.steps jv_i33 1 (pc' := 154) (l' := [(8, .long (32 : Int64)), (7, .int (1 : Int32)), (5, .long ((L t 8) + o.toInt64)), (0, .ref 10), (1, .ref t), (2, .int o), (3, .int (vl_I zz)), (4, .int (vr_b wr))]) (st' := [.int (4 : Int32)]) rfl Kz) ?_
            refine jv_Wp.of (jv_Ev.ret jv_i33 rfl rfl) ?_
            rw [hQ]
            have s3 : (vc_T I L t).sort = 3 := (vc_is3 ok).mpr h59
            have fr := hfar (Or.inr h59)
            have bd : (vc_T I L t).det = (L t 8).toInt := vc_detk (Or.inr h59)
            have eA : ((L t 8) + o.toInt64).toInt = (L t 8).toInt + o.toInt := vi_add (by omega)
            have fe : ((L t 8) + o.toInt64).toInt % (zz : Int) = 0 := (vi_even hz _).mp (Classical.not_not.mp h1)
            have ew : wr = true := vr_b_t h34
            have q1 : ((L t 8) + o.toInt64).toInt < -512 := Int64.lt_iff_toInt_lt.mp h60
            rw [eA] at fe
            rw [eA] at q1
            have c : ¬ (-512 ≤ (vc_T I L t).det + o.toInt ∧ (vc_T I L t).det + o.toInt ≤ -(zz : Int) ∧ ((vc_T I L t).det + o.toInt) % (zz : Int) = 0) := by
              rw [bd]
              exact fun z => by omega
            have e : vx_reach M (vc_A I L 12) (vc_T I L t) o.toInt zz wr = 4 := (vx_r3 s3).trans (if_neg c)
            exact ⟨_, _, by rw [e]; rfl, rfl, rfl⟩
          · refine jv_Wp.lift (fun _ Kz => jv_Ev.steps jv_i33 5 (pc' := 141) (l' := [(8, .long (32 : Int64)), (7, .int (1 : Int32)), (5, .long ((L t 8) + o.toInt64)), (0, .ref 10), (1, .ref t), (2, .int o), (3, .int (vl_I zz)), (4, .int (vr_b wr))]) (st' := [.int (lg_cmp ((L t 8) + o.toInt64) (-(vl_I zz)).toInt64)]) rfl Kz) ?_
            refine jv_Wp.cnd jv_i33 (pt := 153) (pe := 144) (p := (0 < (lg_cmp ((L t 8) + o.toInt64) (-(vl_I zz)).toInt64))) (q := ((-(vl_I zz)).toInt64 < ((L t 8) + o.toInt64))) rfl jv_bi_gt rfl rfl (lg_cmp_gt ((L t 8) + o.toInt64) (-(vl_I zz)).toInt64) (fun h61 => ?_) (fun h61 => ?_)
            · refine jv_Wp.lift (fun _ Kz => jv_Ev.steps jv_i33 1 (pc' := 154) (l' := [(8, .long (32 : Int64)), (7, .int (1 : Int32)), (5, .long ((L t 8) + o.toInt64)), (0, .ref 10), (1, .ref t), (2, .int o), (3, .int (vl_I zz)), (4, .int (vr_b wr))]) (st' := [.int (4 : Int32)]) rfl Kz) ?_
              refine jv_Wp.of (jv_Ev.ret jv_i33 rfl rfl) ?_
              rw [hQ]
              have s3 : (vc_T I L t).sort = 3 := (vc_is3 ok).mpr h59
              have fr := hfar (Or.inr h59)
              have bd : (vc_T I L t).det = (L t 8).toInt := vc_detk (Or.inr h59)
              have eA : ((L t 8) + o.toInt64).toInt = (L t 8).toInt + o.toInt := vi_add (by omega)
              have fe : ((L t 8) + o.toInt64).toInt % (zz : Int) = 0 := (vi_even hz _).mp (Classical.not_not.mp h1)
              have ew : wr = true := vr_b_t h34
              have q1 : ¬ ((L t 8) + o.toInt64).toInt < -512 := (not_congr Int64.lt_iff_toInt_lt).mp h60
              have q2 : -(zz : Int) < ((L t 8) + o.toInt64).toInt := by rw [← eneg]; exact Int64.lt_iff_toInt_lt.mp h61
              rw [eA] at fe
              rw [eA] at q1
              rw [eA] at q2
              have c : ¬ (-512 ≤ (vc_T I L t).det + o.toInt ∧ (vc_T I L t).det + o.toInt ≤ -(zz : Int) ∧ ((vc_T I L t).det + o.toInt) % (zz : Int) = 0) := by
                rw [bd]
                exact fun z => by omega
              have e : vx_reach M (vc_A I L 12) (vc_T I L t) o.toInt zz wr = 4 := (vx_r3 s3).trans (if_neg c)
              exact ⟨_, _, by rw [e]; rfl, rfl, rfl⟩
            · refine jv_Wp.lift (fun _ Kz => jv_Ev.steps jv_i33 1 (pc' := 146) (l' := [(8, .long (32 : Int64)), (7, .int (1 : Int32)), (5, .long ((L t 8) + o.toInt64)), (0, .ref 10), (1, .ref t), (2, .int o), (3, .int (vl_I zz)), (4, .int (vr_b wr))]) (st' := [.int (1 : Int32)]) rfl Kz) ?_
              refine jv_Wp.lift (fun _ Kz => jv_Ev.br jv_i33 (pc' := 149) (st' := []) rfl (by rfl) Kz) ?_
              refine jv_Wp.lift (fun _ Kz => jv_Ev.steps jv_i33 2 (pc' := 154) (l' := [(8, .long (32 : Int64)), (7, .int (1 : Int32)), (5, .long ((L t 8) + o.toInt64)), (0, .ref 10), (1, .ref t), (2, .int o), (3, .int (vl_I zz)), (4, .int (vr_b wr))]) (st' := [.int (0 : Int32)]) rfl Kz) ?_
              refine jv_Wp.of (jv_Ev.ret jv_i33 rfl rfl) ?_
              rw [hQ]
              have s3 : (vc_T I L t).sort = 3 := (vc_is3 ok).mpr h59
              have fr := hfar (Or.inr h59)
              have bd : (vc_T I L t).det = (L t 8).toInt := vc_detk (Or.inr h59)
              have eA : ((L t 8) + o.toInt64).toInt = (L t 8).toInt + o.toInt := vi_add (by omega)
              have fe : ((L t 8) + o.toInt64).toInt % (zz : Int) = 0 := (vi_even hz _).mp (Classical.not_not.mp h1)
              have ew : wr = true := vr_b_t h34
              have q1 : ¬ ((L t 8) + o.toInt64).toInt < -512 := (not_congr Int64.lt_iff_toInt_lt).mp h60
              have q2 : ¬ -(zz : Int) < ((L t 8) + o.toInt64).toInt := by rw [← eneg]; exact (not_congr Int64.lt_iff_toInt_lt).mp h61
              rw [eA] at fe
              rw [eA] at q1
              rw [eA] at q2
              have c : (-512 ≤ (vc_T I L t).det + o.toInt ∧ (vc_T I L t).det + o.toInt ≤ -(zz : Int) ∧ ((vc_T I L t).det + o.toInt) % (zz : Int) = 0) := by
                rw [bd]
                exact ⟨by omega, by omega, fe⟩
              have e : vx_reach M (vc_A I L 12) (vc_T I L t) o.toInt zz wr = 0 := (vx_r3 s3).trans (if_pos c)
              exact ⟨_, _, by rw [e]; rfl, rfl, rfl⟩
        · refine jv_Wp.bys (q := ((I t 6) = Int32.ofInt 4)) (fun h62 => ?_) (fun h62 => ?_)
          · refine jv_Wp.lift (fun _ Kz => jv_Ev.br jv_i33 (pc' := 155) (st' := []) rfl (by rw [h62]; rfl) Kz) ?_
            refine jv_Wp.lift (fun _ Kz => jv_Ev.steps jv_i33 4 (pc' := 159) (l' := [(8, .long (32 : Int64)), (7, .int (1 : Int32)), (5, .long ((L t 8) + o.toInt64)), (0, .ref 10), (1, .ref t), (2, .int o), (3, .int (vl_I zz)), (4, .int (vr_b wr))]) (st' := [.ref 10, .int (vl_I zz), .int o, .ref t]) rfl Kz) ?_
            refine jv_Wp.lift (fun _ Kz => jv_Ev.m jv_i33 (pc' := 162) (st' := [.ref 12, .int (vl_I zz), .int o, .ref t]) (G' := (jv_H K I L R)) rfl rfl (jv_m_getR hC.k rfl rfl hC.rnow) Kz) ?_
            refine jv_Wp.lift (fun _ Kz => jv_Ev.m jv_i33 (pc' := 165) (st' := [.long (L 12 1), .int (vl_I zz), .int o, .ref t]) (G' := (jv_H K I L R)) rfl rfl (jv_m_getL hC.now.k rfl rfl rfl) Kz) ?_
            obtain ⟨I11, L11, H11, ei11, el11⟩ := vc_within (I := I) (L := L) (R := R) (n := n) (sl := sl) o (vl_I zz) (L 12 1) (x := t) (Or.inr ht) ho hzi hkn (hlg (Or.inl h62))
            rw [ei11, el11] at H11
            refine jv_Wp.lift (fun _ Kz => jv_Ev.c jv_i33 (pc' := 168) (S' := [.int (vr_b (decide (0 ≤ (L t 4).toInt + o.toInt ∧ (L t 5).toInt + o.toInt + (vl_I zz).toInt ≤ (L 12 1).toInt)))]) jv_i34 [.ref t, .int o, .int (vl_I zz), .long (L 12 1)] rfl rfl rfl rfl rfl rfl H11 rfl rfl Kz) ?_
            refine jv_Wp.cnd jv_i33 (pt := 175) (pe := 171) (p := ((vr_b (decide (0 ≤ (L t 4).toInt + o.toInt ∧ (L t 5).toInt + o.toInt + (vl_I zz).toInt ≤ (L 12 1).toInt))) = 0)) (q := ((vr_b (decide (0 ≤ (L t 4).toInt + o.toInt ∧ (L t 5).toInt + o.toInt + (vl_I zz).toInt ≤ (L 12 1).toInt))) = 0)) rfl jv_bi_eq rfl rfl Iff.rfl (fun h63 => ?_) (fun h63 => ?_)
            · refine jv_Wp.lift (fun _ Kz => jv_Ev.steps jv_i33 1 (pc' := 176) (l' := [(8, .long (32 : Int64)), (7, .int (1 : Int32)), (5, .long ((L t 8) + o.toInt64)), (0, .ref 10), (1, .ref t), (2, .int o), (3, .int (vl_I zz)), (4, .int (vr_b wr))]) (st' := [.int (4 : Int32)]) rfl Kz) ?_
              refine jv_Wp.of (jv_Ev.ret jv_i33 rfl rfl) ?_
              rw [hQ]
              have s4 : (vc_T I L t).sort = 4 := (vc_is4 ok).mpr h62
              have vv : (vc_T I L t).val = vl_S L t := vc_valv (Or.inr (Or.inl h62))
              have hp := of_decide_eq_false (vr_b_f h63)
              rw [ez] at hp
              have c : ¬ (0 ≤ (vc_T I L t).val.least.toInt + o.toInt ∧ (vc_T I L t).val.greatest.toInt + o.toInt + (zz : Int) ≤ (vc_A I L 12).2) := by
                rw [vv]; exact hp
              have e : vx_reach M (vc_A I L 12) (vc_T I L t) o.toInt zz wr = 4 := (vx_r4 s4).trans (if_neg c)
              exact ⟨_, _, by rw [e]; rfl, rfl, rfl⟩
            · refine jv_Wp.lift (fun _ Kz => jv_Ev.steps jv_i33 2 (pc' := 176) (l' := [(8, .long (32 : Int64)), (7, .int (1 : Int32)), (5, .long ((L t 8) + o.toInt64)), (0, .ref 10), (1, .ref t), (2, .int o), (3, .int (vl_I zz)), (4, .int (vr_b wr))]) (st' := [.int (0 : Int32)]) rfl Kz) ?_
              refine jv_Wp.of (jv_Ev.ret jv_i33 rfl rfl) ?_
              rw [hQ]
              have s4 : (vc_T I L t).sort = 4 := (vc_is4 ok).mpr h62
              have vv : (vc_T I L t).val = vl_S L t := vc_valv (Or.inr (Or.inl h62))
              have hp := of_decide_eq_true (vr_b_t h63)
              rw [ez] at hp
              have c : (0 ≤ (vc_T I L t).val.least.toInt + o.toInt ∧ (vc_T I L t).val.greatest.toInt + o.toInt + (zz : Int) ≤ (vc_A I L 12).2) := by
                rw [vv]; exact hp
              have e : vx_reach M (vc_A I L 12) (vc_T I L t) o.toInt zz wr = 0 := (vx_r4 s4).trans (if_pos c)
              exact ⟨_, _, by rw [e]; rfl, rfl, rfl⟩
          · refine jv_Wp.bys (q := ((I t 6) = Int32.ofInt 7)) (fun h64 => ?_) (fun h64 => ?_)
            · refine jv_Wp.lift (fun _ Kz => jv_Ev.br jv_i33 (pc' := 177) (st' := []) rfl (by rw [h64]; rfl) Kz) ?_
              refine jv_Wp.lift (fun _ Kz => jv_Ev.steps jv_i33 4 (pc' := 181) (l' := [(8, .long (32 : Int64)), (7, .int (1 : Int32)), (5, .long ((L t 8) + o.toInt64)), (0, .ref 10), (1, .ref t), (2, .int o), (3, .int (vl_I zz)), (4, .int (vr_b wr))]) (st' := [.ref 10, .int (vl_I zz), .int o, .ref t]) rfl Kz) ?_
              refine jv_Wp.lift (fun _ Kz => jv_Ev.m jv_i33 (pc' := 184) (st' := [.ref 2, .int (vl_I zz), .int o, .ref t]) (G' := (jv_H K I L R)) rfl rfl (jv_m_getR hC.k rfl rfl hC.rstore) Kz) ?_
              refine jv_Wp.lift (fun _ Kz => jv_Ev.steps jv_i33 1 (pc' := 185) (l' := [(8, .long (32 : Int64)), (7, .int (1 : Int32)), (5, .long ((L t 8) + o.toInt64)), (0, .ref 10), (1, .ref t), (2, .int o), (3, .int (vl_I zz)), (4, .int (vr_b wr))]) (st' := [.ref t, .ref 2, .int (vl_I zz), .int o, .ref t]) rfl Kz) ?_
              refine jv_Wp.lift (fun _ Kz => jv_Ev.m jv_i33 (pc' := 188) (st' := [.int (I t 7), .ref 2, .int (vl_I zz), .int o, .ref t]) (G' := (jv_H K I L R)) rfl rfl (jv_m_getI ht rfl rfl rfl) Kz) ?_
              refine jv_Wp.lift (fun _ Kz => jv_Ev.c jv_i33 (pc' := 191) (S' := [.int (vl_I (M.value (I t 7).toInt)), .int (vl_I zz), .int o, .ref t]) jv_i127 [.ref 2, .int (I t 7)] rfl rfl rfl rfl (jv_cal rfl (jv_H_at hM.1) rfl rfl) rfl (vc_vsize hM (I t 7) (hmn h64)) rfl rfl Kz) ?_
              refine jv_Wp.lift (fun _ Kz => jv_Ev.steps jv_i33 1 (pc' := 192) (l' := [(8, .long (32 : Int64)), (7, .int (1 : Int32)), (5, .long ((L t 8) + o.toInt64)), (0, .ref 10), (1, .ref t), (2, .int o), (3, .int (vl_I zz)), (4, .int (vr_b wr))]) (st' := [.long (vl_I (M.value (I t 7).toInt)).toInt64, .int (vl_I zz), .int o, .ref t]) rfl Kz) ?_
              obtain ⟨I12, L12, H12, ei12, el12⟩ := vc_within (I := I) (L := L) (R := R) (n := n) (sl := sl) o (vl_I zz) (vl_I (M.value (I t 7).toInt)).toInt64 (x := t) (Or.inr ht) ho hzi (hvs _) (hlg (Or.inr h64))
              rw [ei12, el12] at H12
              refine jv_Wp.lift (fun _ Kz => jv_Ev.c jv_i33 (pc' := 195) (S' := [.int (vr_b (decide (0 ≤ (L t 4).toInt + o.toInt ∧ (L t 5).toInt + o.toInt + (vl_I zz).toInt ≤ (vl_I (M.value (I t 7).toInt)).toInt64.toInt)))]) jv_i34 [.ref t, .int o, .int (vl_I zz), .long (vl_I (M.value (I t 7).toInt)).toInt64] rfl rfl rfl rfl rfl rfl H12 rfl rfl Kz) ?_
              refine jv_Wp.cnd jv_i33 (pt := 202) (pe := 198) (p := ((vr_b (decide (0 ≤ (L t 4).toInt + o.toInt ∧ (L t 5).toInt + o.toInt + (vl_I zz).toInt ≤ (vl_I (M.value (I t 7).toInt)).toInt64.toInt))) = 0)) (q := ((vr_b (decide (0 ≤ (L t 4).toInt + o.toInt ∧ (L t 5).toInt + o.toInt + (vl_I zz).toInt ≤ (vl_I (M.value (I t 7).toInt)).toInt64.toInt))) = 0)) rfl jv_bi_eq rfl rfl Iff.rfl (fun h65 => ?_) (fun h65 => ?_)
              · refine jv_Wp.lift (fun _ Kz => jv_Ev.steps jv_i33 1 (pc' := 203) (l' := [(8, .long (32 : Int64)), (7, .int (1 : Int32)), (5, .long ((L t 8) + o.toInt64)), (0, .ref 10), (1, .ref t), (2, .int o), (3, .int (vl_I zz)), (4, .int (vr_b wr))]) (st' := [.int (4 : Int32)]) rfl Kz) ?_
                refine jv_Wp.of (jv_Ev.ret jv_i33 rfl rfl) ?_
                rw [hQ]
                have s7 : (vc_T I L t).sort = 7 := (vc_is7 ok).mpr h64
                have vv : (vc_T I L t).val = vl_S L t := vc_valv (Or.inr (Or.inr h64))
                have hp := of_decide_eq_false (vr_b_f h65)
                rw [ez, evs] at hp
                have dm : (vc_T I L t).det = (I t 7).toInt := vc_detm (Or.inr (Or.inl h64))
                have c : ¬ (0 ≤ (vc_T I L t).val.least.toInt + o.toInt ∧ (vc_T I L t).val.greatest.toInt + o.toInt + (zz : Int) ≤ (M.value (vc_T I L t).det : Int)) := by
                  rw [vv, dm]; exact hp
                have e : vx_reach M (vc_A I L 12) (vc_T I L t) o.toInt zz wr = 4 := (vx_r7 s7).trans (if_neg c)
                exact ⟨_, _, by rw [e]; rfl, rfl, rfl⟩
              · refine jv_Wp.lift (fun _ Kz => jv_Ev.steps jv_i33 2 (pc' := 203) (l' := [(8, .long (32 : Int64)), (7, .int (1 : Int32)), (5, .long ((L t 8) + o.toInt64)), (0, .ref 10), (1, .ref t), (2, .int o), (3, .int (vl_I zz)), (4, .int (vr_b wr))]) (st' := [.int (0 : Int32)]) rfl Kz) ?_
                refine jv_Wp.of (jv_Ev.ret jv_i33 rfl rfl) ?_
                rw [hQ]
                have s7 : (vc_T I L t).sort = 7 := (vc_is7 ok).mpr h64
                have vv : (vc_T I L t).val = vl_S L t := vc_valv (Or.inr (Or.inr h64))
                have hp := of_decide_eq_true (vr_b_t h65)
                rw [ez, evs] at hp
                have dm : (vc_T I L t).det = (I t 7).toInt := vc_detm (Or.inr (Or.inl h64))
                have c : (0 ≤ (vc_T I L t).val.least.toInt + o.toInt ∧ (vc_T I L t).val.greatest.toInt + o.toInt + (zz : Int) ≤ (M.value (vc_T I L t).det : Int)) := by
                  rw [vv, dm]; exact hp
                have e : vx_reach M (vc_A I L 12) (vc_T I L t) o.toInt zz wr = 0 := (vx_r7 s7).trans (if_pos c)
                exact ⟨_, _, by rw [e]; rfl, rfl, rfl⟩
            · refine jv_Wp.lift (fun _ Kz => jv_Ev.br jv_i33 (pc' := 204) (st' := []) rfl (jv_tsw_def (fun i hi h => by match i, hi, h with 
                    | 0, _, h => exact absurd h (jv_ne_toInt (k := 2) h56) 
                    | 1, _, h => exact absurd h (jv_ne_toInt (k := 3) h59) 
                    | 2, _, h => exact absurd h (jv_ne_toInt (k := 4) h62) 
                    | 3, _, _ => rfl 
                    | 4, _, _ => rfl 
                    | 5, _, h => exact absurd h (jv_ne_toInt (k := 7) h64) 
                    | i + 6, hi, _ => exact absurd hi (by simp)) rfl) Kz) ?_
              refine jv_Wp.lift (fun _ Kz => jv_Ev.steps jv_i33 1 (pc' := 205) (l' := [(8, .long (32 : Int64)), (7, .int (1 : Int32)), (5, .long ((L t 8) + o.toInt64)), (0, .ref 10), (1, .ref t), (2, .int o), (3, .int (vl_I zz)), (4, .int (vr_b wr))]) (st' := [.int (3 : Int32)]) rfl Kz) ?_
              refine jv_Wp.of (jv_Ev.ret jv_i33 rfl rfl) ?_
              rw [hQ]
              have e : vx_reach M (vc_A I L 12) (vc_T I L t) o.toInt zz wr = 3 := vx_r_ (fun z => h56 ((vc_is2 ok).mp z)) (fun z => h59 ((vc_is3 ok).mp z)) (fun z => h62 ((vc_is4 ok).mp z)) (fun z => h64 ((vc_is7 ok).mp z))
              exact ⟨_, _, by rw [e]; rfl, rfl, rfl⟩