/-! part c25: arguments of calls, as the reference asks (gen/tc25.py) -/
theorem vx_thn {a b w : Nat} (h1 : a ≠ 0 → w = a) (h2 : a = 0 → w = b) : w = vx_then a b := by
  by_cases c : a = 0
  · rw [c, vx_then0]; exact h2 c
  · rw [vx_thenn c]; exact h1 c
theorem vx_then_f (a b : Nat) : (a ≠ 0 → vx_then a b = a) ∧ (a = 0 → vx_then a b = b) := ⟨fun h => vx_thenn h, fun h => by rw [h]; exact vx_then0 b⟩
theorem vr_im_lt (M : vf_M) (t : vt_T) (a b : Nat) : vr_im M t a b < 9 ∧ (vr_im M t a b = 0 → t.sort = 6) := by
  unfold vr_im
  by_cases c : t.sort = 0
  · rw [if_pos c]; exact ⟨by decide, fun z => absurd z (by decide)⟩
  · rw [if_neg c]
    by_cases d : t.sort = 6 ∧ (vr_kd M t.det.toNat = a ∨ vr_kd M t.det.toNat = b)
    · rw [if_pos d]; exact ⟨by decide, fun _ => d.1⟩
    · rw [if_neg d]; exact ⟨by decide, fun z => absurd z (by decide)⟩
theorem vr_nm_T {I : Nat → Nat → Int32} {L : Nat → Nat → Int64} {k : Nat} (ok : vr_ok I (76800 + k) k) (hk : k < 11) : vr_nm (I 205 (76800 + k)) = vx_isnum (vr_A I L 1024) k 8 ∧ vr_nm (I 205 (76800 + k)) < 9 := by
  unfold vr_nm vx_isnum
  rw [show (vr_A I L 1024).1 k = vr_T I L (76800 + k) from vr_A1 (by omega)]
  by_cases c : I 205 (76800 + k) = 0
  · rw [if_pos c, if_neg (fun z => by have := (vr_isN (L := L) ok hk).mpr c; omega), if_pos ((vr_isN ok hk).mpr c)]; exact ⟨rfl, by decide⟩
  · rw [if_neg c]
    by_cases d : I 205 (76800 + k) = 1
    · rw [if_pos d, if_pos ((vr_is 1 (by decide) ok).mpr d)]; exact ⟨rfl, by decide⟩
    · rw [if_neg d, if_neg (fun z => d ((vr_is 1 (by decide) ok).mp z)), if_neg (fun z => c ((vr_isN ok hk).mp z))]; exact ⟨rfl, by decide⟩
theorem jv_i300 : jv_I 300 7 (some .int) 4 97 jv_c300 := ⟨rfl, rfl, rfl, rfl, rfl⟩
theorem vq_args_ {K : Nat → Option (Nat × Nat)} {I : Nat → Nat → Int32} {L : Nat → Nat → Int64} {R : Nat → Nat → Value} (M : vf_M) (f : vf_F) (hW : jv_rW K R) (hM : vr_M I M) (D : vr_dec I f) (oa : vr_okA I 1024) (hj : vr_j10 I) (tA : ∀ n, n < 75 → vt_ok (vr_T I L (76800 + n))) (gA : ∀ n, n < 75 → vt_g (vr_T I L (76800 + n))) {n sl : Nat} : ∃ I1 L1, jv_Ms 300 [.ref 196, .int (Int32.ofInt f.i)] (jv_H K I L R) n sl (some (.int (vl_I (vx_allowed M (vr_A I L 1024) f.i))), jv_H K I1 L1 R, n, sl) ∧ I1 = I ∧ L1 = L := by
  obtain ⟨Q, hQ⟩ : ∃ Q : jv_R → Prop, Q = fun X => ∃ I1 L1, X = (some (.int (vl_I (vx_allowed M (vr_A I L 1024) f.i))), jv_H K I1 L1 R, n, sl) ∧ I1 = I ∧ L1 = L := ⟨_, rfl⟩
  suffices h : jv_Wp 300 0 [(0, .ref 196), (1, .int (Int32.ofInt f.i))] [] (jv_H K I L R) n sl Q by
    rw [hQ] at h
    obtain ⟨X, h, I1, L1, e, h'⟩ := h
    subst e
    exact ⟨I1, L1, h, h'⟩
  have ok1 : vr_ok I (76800 + 1) 1 := oa 1 (by decide)
  have e1 : (vr_A I L 1024).1 1 = vr_T I L (76800 + 1) := vr_A1 (by decide)
  obtain ⟨z1, h1s⟩ : ∃ x : Nat, ∀ _ : Unit, (vr_T I L (76800 + 1)).sort = x := ⟨_, fun _ => rfl⟩
  obtain ⟨k1, k18, hkd1⟩ := vr_kdx (L := L) (oa 1 (by decide)) (gA 1 (by decide))
  obtain ⟨k2, k28, hkd2⟩ := vr_kdx (L := L) (oa 2 (by decide)) (gA 2 (by decide))
  obtain ⟨k3, k38, hkd3⟩ := vr_kdx (L := L) (oa 3 (by decide)) (gA 3 (by decide))
  refine jv_Wp.lift (fun _ Kz => jv_Ev.steps jv_i300 2 (pc' := 2) (l' := [(0, .ref 196), (1, .int (Int32.ofInt f.i))]) (st' := [.int (1 : Int32), .ref 196]) rfl Kz) ?_
  refine jv_Wp.lift (fun _ Kz => jv_Ev.c jv_i300 (pc' := 5) (S' := [.int (I 205 (76800 + 1))]) jv_i271 [.ref 196, .int (1 : Int32)] rfl rfl rfl rfl (jv_cal rfl (jv_H_at (jv_rwK hW 196 12 24 (by decide))) rfl rfl) rfl (vq_sortOf 1 hW (by omega)) rfl rfl Kz) ?_
  refine jv_Wp.lift (fun _ Kz => jv_Ev.steps jv_i300 1 (pc' := 7) (l' := [(0, .ref 196), (1, .int (Int32.ofInt f.i))]) (st' := [.int (6 : Int32), .int (I 205 (76800 + 1))]) rfl Kz) ?_
  refine jv_Wp.cnd jv_i300 (pt := 25) (pe := 10) (p := (¬ (I 205 (76800 + 1)) = (6 : Int32))) (q := (¬ (I 205 (76800 + 1)) = (6 : Int32))) rfl jv_bc_ne rfl rfl Iff.rfl (fun h1 => ?_) (fun h1 => ?_)
  · refine jv_Wp.lift (fun _ Kz => jv_Ev.steps jv_i300 3 (pc' := 28) (l' := [(2, .int (0 : Int32)), (0, .ref 196), (1, .int (Int32.ofInt f.i))]) (st' := [.int (Int32.ofInt f.i)]) rfl Kz) ?_
    refine jv_Wp.bys (q := ((Int32.ofInt f.i) = Int32.ofInt 1)) (fun h2 => ?_) (fun h2 => ?_)
    · refine jv_Wp.lift (fun _ Kz => jv_Ev.br jv_i300 (pc' := 68) (st' := []) rfl (by rw [h2]; rfl) Kz) ?_
      refine jv_Wp.lift (fun _ Kz => jv_Ev.steps jv_i300 4 (pc' := 72) (l' := [(2, .int (0 : Int32)), (0, .ref 196), (1, .int (Int32.ofInt f.i))]) (st' := [.int (2 : Int32), .int (1 : Int32), .int (1 : Int32), .ref 196]) rfl Kz) ?_
      obtain ⟨im1, him1⟩ : ∃ x : Nat, ∀ _ : Unit, vr_im M (vr_T I L (76800 + 1)) 1 2 = x := ⟨_, fun _ => rfl⟩
      have lim1 := vr_im_lt M (vr_T I L (76800 + 1)) 1 2
      rw [him1 (), h1s ()] at lim1
      have Hm1 := vq_isMap (I := I) (L := L) (K := K) (R := R) (n := n) (sl := sl) M 1 1 2 k1 hW hM (by decide) (by decide) (by decide) ok1 k18 (fun z => hkd1 (Or.inl z))
      rw [him1 ()] at Hm1
      refine jv_Wp.lift (fun _ Kz => jv_Ev.c jv_i300 (pc' := 75) (S' := [.int (vl_I im1)]) jv_i297 [.ref 196, .int (1 : Int32), .int (1 : Int32), .int (2 : Int32)] rfl rfl rfl rfl (jv_cal rfl (jv_H_at (jv_rwK hW 196 12 24 (by decide))) rfl rfl) rfl Hm1 rfl rfl Kz) ?_
      refine jv_Wp.lift (fun _ Kz => jv_Ev.steps jv_i300 3 (pc' := 78) (l' := [(2, .int (0 : Int32)), (0, .ref 196), (1, .int (Int32.ofInt f.i))]) (st' := [.ref 196, .int (2 : Int32), .ref 196, .int (vl_I im1)]) rfl Kz) ?_
      refine jv_Wp.lift (fun _ Kz => jv_Ev.m jv_i300 (pc' := 81) (st' := [.ref 200, .int (2 : Int32), .ref 196, .int (vl_I im1)]) (G' := (jv_H K I L R)) rfl rfl (jv_m_getR (jv_rwK hW 196 12 24 (by decide)) rfl rfl (jv_rwR hW 196 8 200 (by decide))) Kz) ?_
      refine jv_Wp.lift (fun _ Kz => jv_Ev.steps jv_i300 1 (pc' := 82) (l' := [(2, .int (0 : Int32)), (0, .ref 196), (1, .int (Int32.ofInt f.i))]) (st' := [.int (0 : Int32), .ref 200, .int (2 : Int32), .ref 196, .int (vl_I im1)]) rfl Kz) ?_
      refine jv_Wp.lift (fun _ Kz => jv_Ev.m jv_i300 (pc' := 83) (st' := [.int (I 200 0), .int (2 : Int32), .ref 196, .int (vl_I im1)]) (G' := (jv_H K I L R)) rfl rfl (jv_m_ialdv (jv_rwK hW 200 102 8 (by decide)) rfl (by decide) rfl rfl) Kz) ?_
      refine jv_Wp.lift (fun _ Kz => jv_Ev.steps jv_i300 1 (pc' := 84) (l' := [(2, .int (0 : Int32)), (0, .ref 196), (1, .int (Int32.ofInt f.i))]) (st' := [.long (I 200 0).toInt64, .int (2 : Int32), .ref 196, .int (vl_I im1)]) rfl Kz) ?_
      obtain ⟨t2, Ht2, lt2, Tt2⟩ := vq_tells (I := I) (L := L) (n := n) (sl := sl) M 2 k2 (I 200 0).toInt64 hW hM oa hj (by decide) k28 hkd2
      refine jv_Wp.lift (fun _ Kz => jv_Ev.c jv_i300 (pc' := 87) (S' := [.int (vl_I t2), .int (vl_I im1)]) jv_i296 [.ref 196, .int (2 : Int32), .long (I 200 0).toInt64] rfl rfl rfl rfl (jv_cal rfl (jv_H_at (jv_rwK hW 196 12 24 (by decide))) rfl rfl) rfl Ht2 rfl rfl Kz) ?_
      obtain ⟨w3, hq3⟩ : ∃ x : Nat, ∀ _ : Unit, vx_then im1 t2 = x := ⟨_, fun _ => rfl⟩
      have fq3 : (im1 ≠ 0 → w3 = im1) ∧ (im1 = 0 → w3 = t2) := by rw [← hq3 ()]; exact vx_then_f im1 t2
      have Hf3 := vq_then (I := I) (L := L) (K := K) (R := R) (n := n) (sl := sl) im1 t2 (by omega) (by omega)
      rw [hq3 ()] at Hf3
      refine jv_Wp.lift (fun _ Kz => jv_Ev.c jv_i300 (pc' := 90) (S' := [.int (vl_I w3)]) jv_i299 [.int (vl_I im1), .int (vl_I t2)] rfl rfl rfl rfl rfl rfl Hf3 rfl rfl Kz) ?_
      refine jv_Wp.of (jv_Ev.ret jv_i300 rfl rfl) ?_
      rw [hQ]
      have ei : f.i = 1 := (vr_dQ D).symm.trans (congrArg Int32.toInt h2)
      have s1 : ¬ z1 = 6 := fun z => h1 ((vr_is (L := L) 6 (by decide) ok1).mp ((h1s ()).trans z))
      have em := (vr_im_map M (vr_A I L 1024) (fun z => by rw [e1] at z ⊢; rw [h1s ()] at z; exact absurd z s1)).1
      rw [e1, him1 ()] at em
      have ev : w3 = vx_allowed M (vr_A I L 1024) f.i := by
        rw [ei, vx_al1, em, e1]
        exact vx_thn (fun z => by omega) (fun z => absurd (lim1.2 z) s1)
      exact ⟨_, _, by rw [← ev], rfl, rfl⟩
    · refine jv_Wp.bys (q := ((Int32.ofInt f.i) = Int32.ofInt 2)) (fun h3 => ?_) (fun h3 => ?_)
      · refine jv_Wp.lift (fun _ Kz => jv_Ev.br jv_i300 (pc' := 91) (st' := []) rfl (by rw [h3]; rfl) Kz) ?_
        refine jv_Wp.lift (fun _ Kz => jv_Ev.steps jv_i300 4 (pc' := 95) (l' := [(2, .int (0 : Int32)), (0, .ref 196), (1, .int (Int32.ofInt f.i))]) (st' := [.int (2 : Int32), .int (1 : Int32), .int (1 : Int32), .ref 196]) rfl Kz) ?_
        obtain ⟨im4, him4⟩ : ∃ x : Nat, ∀ _ : Unit, vr_im M (vr_T I L (76800 + 1)) 1 2 = x := ⟨_, fun _ => rfl⟩
        have lim4 := vr_im_lt M (vr_T I L (76800 + 1)) 1 2
        rw [him4 (), h1s ()] at lim4
        have Hm4 := vq_isMap (I := I) (L := L) (K := K) (R := R) (n := n) (sl := sl) M 1 1 2 k1 hW hM (by decide) (by decide) (by decide) ok1 k18 (fun z => hkd1 (Or.inl z))
        rw [him4 ()] at Hm4
        refine jv_Wp.lift (fun _ Kz => jv_Ev.c jv_i300 (pc' := 98) (S' := [.int (vl_I im4)]) jv_i297 [.ref 196, .int (1 : Int32), .int (1 : Int32), .int (2 : Int32)] rfl rfl rfl rfl (jv_cal rfl (jv_H_at (jv_rwK hW 196 12 24 (by decide))) rfl rfl) rfl Hm4 rfl rfl Kz) ?_
        refine jv_Wp.lift (fun _ Kz => jv_Ev.steps jv_i300 3 (pc' := 101) (l' := [(2, .int (0 : Int32)), (0, .ref 196), (1, .int (Int32.ofInt f.i))]) (st' := [.ref 196, .int (2 : Int32), .ref 196, .int (vl_I im4)]) rfl Kz) ?_
        refine jv_Wp.lift (fun _ Kz => jv_Ev.m jv_i300 (pc' := 104) (st' := [.ref 200, .int (2 : Int32), .ref 196, .int (vl_I im4)]) (G' := (jv_H K I L R)) rfl rfl (jv_m_getR (jv_rwK hW 196 12 24 (by decide)) rfl rfl (jv_rwR hW 196 8 200 (by decide))) Kz) ?_
        refine jv_Wp.lift (fun _ Kz => jv_Ev.steps jv_i300 1 (pc' := 105) (l' := [(2, .int (0 : Int32)), (0, .ref 196), (1, .int (Int32.ofInt f.i))]) (st' := [.int (0 : Int32), .ref 200, .int (2 : Int32), .ref 196, .int (vl_I im4)]) rfl Kz) ?_
        refine jv_Wp.lift (fun _ Kz => jv_Ev.m jv_i300 (pc' := 106) (st' := [.int (I 200 0), .int (2 : Int32), .ref 196, .int (vl_I im4)]) (G' := (jv_H K I L R)) rfl rfl (jv_m_ialdv (jv_rwK hW 200 102 8 (by decide)) rfl (by decide) rfl rfl) Kz) ?_
        refine jv_Wp.lift (fun _ Kz => jv_Ev.steps jv_i300 1 (pc' := 107) (l' := [(2, .int (0 : Int32)), (0, .ref 196), (1, .int (Int32.ofInt f.i))]) (st' := [.long (I 200 0).toInt64, .int (2 : Int32), .ref 196, .int (vl_I im4)]) rfl Kz) ?_
        obtain ⟨t5, Ht5, lt5, Tt5⟩ := vq_tells (I := I) (L := L) (n := n) (sl := sl) M 2 k2 (I 200 0).toInt64 hW hM oa hj (by decide) k28 hkd2
        refine jv_Wp.lift (fun _ Kz => jv_Ev.c jv_i300 (pc' := 110) (S' := [.int (vl_I t5), .int (vl_I im4)]) jv_i296 [.ref 196, .int (2 : Int32), .long (I 200 0).toInt64] rfl rfl rfl rfl (jv_cal rfl (jv_H_at (jv_rwK hW 196 12 24 (by decide))) rfl rfl) rfl Ht5 rfl rfl Kz) ?_
        refine jv_Wp.lift (fun _ Kz => jv_Ev.steps jv_i300 3 (pc' := 113) (l' := [(2, .int (0 : Int32)), (0, .ref 196), (1, .int (Int32.ofInt f.i))]) (st' := [.ref 196, .int (3 : Int32), .ref 196, .int (vl_I t5), .int (vl_I im4)]) rfl Kz) ?_
        refine jv_Wp.lift (fun _ Kz => jv_Ev.m jv_i300 (pc' := 116) (st' := [.ref 201, .int (3 : Int32), .ref 196, .int (vl_I t5), .int (vl_I im4)]) (G' := (jv_H K I L R)) rfl rfl (jv_m_getR (jv_rwK hW 196 12 24 (by decide)) rfl rfl (jv_rwR hW 196 9 201 (by decide))) Kz) ?_
        refine jv_Wp.lift (fun _ Kz => jv_Ev.steps jv_i300 1 (pc' := 117) (l' := [(2, .int (0 : Int32)), (0, .ref 196), (1, .int (Int32.ofInt f.i))]) (st' := [.int (0 : Int32), .ref 201, .int (3 : Int32), .ref 196, .int (vl_I t5), .int (vl_I im4)]) rfl Kz) ?_
        refine jv_Wp.lift (fun _ Kz => jv_Ev.m jv_i300 (pc' := 118) (st' := [.int (I 201 0), .int (3 : Int32), .ref 196, .int (vl_I t5), .int (vl_I im4)]) (G' := (jv_H K I L R)) rfl rfl (jv_m_ialdv (jv_rwK hW 201 102 8 (by decide)) rfl (by decide) rfl rfl) Kz) ?_
        refine jv_Wp.lift (fun _ Kz => jv_Ev.steps jv_i300 1 (pc' := 119) (l' := [(2, .int (0 : Int32)), (0, .ref 196), (1, .int (Int32.ofInt f.i))]) (st' := [.long (I 201 0).toInt64, .int (3 : Int32), .ref 196, .int (vl_I t5), .int (vl_I im4)]) rfl Kz) ?_
        obtain ⟨t6, Ht6, lt6, Tt6⟩ := vq_tells (I := I) (L := L) (n := n) (sl := sl) M 3 k3 (I 201 0).toInt64 hW hM oa hj (by decide) k38 hkd3
        refine jv_Wp.lift (fun _ Kz => jv_Ev.c jv_i300 (pc' := 122) (S' := [.int (vl_I t6), .int (vl_I t5), .int (vl_I im4)]) jv_i296 [.ref 196, .int (3 : Int32), .long (I 201 0).toInt64] rfl rfl rfl rfl (jv_cal rfl (jv_H_at (jv_rwK hW 196 12 24 (by decide))) rfl rfl) rfl Ht6 rfl rfl Kz) ?_
        refine jv_Wp.lift (fun _ Kz => jv_Ev.steps jv_i300 2 (pc' := 124) (l' := [(2, .int (0 : Int32)), (0, .ref 196), (1, .int (Int32.ofInt f.i))]) (st' := [.int (4 : Int32), .ref 196, .int (vl_I t6), .int (vl_I t5), .int (vl_I im4)]) rfl Kz) ?_
        obtain ⟨nm7, hnm7⟩ : ∃ x : Nat, ∀ _ : Unit, vr_nm (I 205 (76800 + 4)) = x := ⟨_, fun _ => rfl⟩
        have lnm7 := vr_nm_T (L := L) (k := 4) (oa 4 (by decide)) (by decide)
        rw [hnm7 ()] at lnm7
        have Hn7 := vq_isNumber (I := I) (L := L) (K := K) (R := R) (n := n) (sl := sl) 4 hW (by decide)
        rw [hnm7 ()] at Hn7
        refine jv_Wp.lift (fun _ Kz => jv_Ev.c jv_i300 (pc' := 127) (S' := [.int (vl_I nm7), .int (vl_I t6), .int (vl_I t5), .int (vl_I im4)]) jv_i298 [.ref 196, .int (4 : Int32)] rfl rfl rfl rfl (jv_cal rfl (jv_H_at (jv_rwK hW 196 12 24 (by decide))) rfl rfl) rfl Hn7 rfl rfl Kz) ?_
        obtain ⟨w8, hq8⟩ : ∃ x : Nat, ∀ _ : Unit, vx_then t6 nm7 = x := ⟨_, fun _ => rfl⟩
        have fq8 : (t6 ≠ 0 → w8 = t6) ∧ (t6 = 0 → w8 = nm7) := by rw [← hq8 ()]; exact vx_then_f t6 nm7
        have Hf8 := vq_then (I := I) (L := L) (K := K) (R := R) (n := n) (sl := sl) t6 nm7 (by omega) (by omega)
        rw [hq8 ()] at Hf8
        refine jv_Wp.lift (fun _ Kz => jv_Ev.c jv_i300 (pc' := 130) (S' := [.int (vl_I w8), .int (vl_I t5), .int (vl_I im4)]) jv_i299 [.int (vl_I t6), .int (vl_I nm7)] rfl rfl rfl rfl rfl rfl Hf8 rfl rfl Kz) ?_
        obtain ⟨w9, hq9⟩ : ∃ x : Nat, ∀ _ : Unit, vx_then t5 w8 = x := ⟨_, fun _ => rfl⟩
        have fq9 : (t5 ≠ 0 → w9 = t5) ∧ (t5 = 0 → w9 = w8) := by rw [← hq9 ()]; exact vx_then_f t5 w8
        have Hf9 := vq_then (I := I) (L := L) (K := K) (R := R) (n := n) (sl := sl) t5 w8 (by omega) (by omega)
        rw [hq9 ()] at Hf9
        refine jv_Wp.lift (fun _ Kz => jv_Ev.c jv_i300 (pc' := 133) (S' := [.int (vl_I w9), .int (vl_I im4)]) jv_i299 [.int (vl_I t5), .int (vl_I w8)] rfl rfl rfl rfl rfl rfl Hf9 rfl rfl Kz) ?_
        obtain ⟨w10, hq10⟩ : ∃ x : Nat, ∀ _ : Unit, vx_then im4 w9 = x := ⟨_, fun _ => rfl⟩
        have fq10 : (im4 ≠ 0 → w10 = im4) ∧ (im4 = 0 → w10 = w9) := by rw [← hq10 ()]; exact vx_then_f im4 w9
        have Hf10 := vq_then (I := I) (L := L) (K := K) (R := R) (n := n) (sl := sl) im4 w9 (by omega) (by omega)
        rw [hq10 ()] at Hf10
        refine jv_Wp.lift (fun _ Kz => jv_Ev.c jv_i300 (pc' := 136) (S' := [.int (vl_I w10)]) jv_i299 [.int (vl_I im4), .int (vl_I w9)] rfl rfl rfl rfl rfl rfl Hf10 rfl rfl Kz) ?_
        refine jv_Wp.of (jv_Ev.ret jv_i300 rfl rfl) ?_
        rw [hQ]
        have ei : f.i = 2 := (vr_dQ D).symm.trans (congrArg Int32.toInt h3)
        have s1 : ¬ z1 = 6 := fun z => h1 ((vr_is (L := L) 6 (by decide) ok1).mp ((h1s ()).trans z))
        have em := (vr_im_map M (vr_A I L 1024) (fun z => by rw [e1] at z ⊢; rw [h1s ()] at z; exact absurd z s1)).2.1
        rw [e1, him4 ()] at em
        have ev : w10 = vx_allowed M (vr_A I L 1024) f.i := by
          rw [ei, vx_al2, em, e1]
          exact vx_thn (fun z => by omega) (fun z => absurd (lim4.2 z) s1)
        exact ⟨_, _, by rw [← ev], rfl, rfl⟩
      · refine jv_Wp.bys (q := ((Int32.ofInt f.i) = Int32.ofInt 3)) (fun h4 => ?_) (fun h4 => ?_)
        · refine jv_Wp.lift (fun _ Kz => jv_Ev.br jv_i300 (pc' := 137) (st' := []) rfl (by rw [h4]; rfl) Kz) ?_
          refine jv_Wp.lift (fun _ Kz => jv_Ev.steps jv_i300 4 (pc' := 141) (l' := [(2, .int (0 : Int32)), (0, .ref 196), (1, .int (Int32.ofInt f.i))]) (st' := [.int (2 : Int32), .int (2 : Int32), .int (1 : Int32), .ref 196]) rfl Kz) ?_
          obtain ⟨im11, him11⟩ : ∃ x : Nat, ∀ _ : Unit, vr_im M (vr_T I L (76800 + 1)) 2 2 = x := ⟨_, fun _ => rfl⟩
          have lim11 := vr_im_lt M (vr_T I L (76800 + 1)) 2 2
          rw [him11 (), h1s ()] at lim11
          have Hm11 := vq_isMap (I := I) (L := L) (K := K) (R := R) (n := n) (sl := sl) M 1 2 2 k1 hW hM (by decide) (by decide) (by decide) ok1 k18 (fun z => hkd1 (Or.inl z))
          rw [him11 ()] at Hm11
          refine jv_Wp.lift (fun _ Kz => jv_Ev.c jv_i300 (pc' := 144) (S' := [.int (vl_I im11)]) jv_i297 [.ref 196, .int (1 : Int32), .int (2 : Int32), .int (2 : Int32)] rfl rfl rfl rfl (jv_cal rfl (jv_H_at (jv_rwK hW 196 12 24 (by decide))) rfl rfl) rfl Hm11 rfl rfl Kz) ?_
          refine jv_Wp.lift (fun _ Kz => jv_Ev.steps jv_i300 3 (pc' := 147) (l' := [(2, .int (0 : Int32)), (0, .ref 196), (1, .int (Int32.ofInt f.i))]) (st' := [.ref 196, .int (2 : Int32), .ref 196, .int (vl_I im11)]) rfl Kz) ?_
          refine jv_Wp.lift (fun _ Kz => jv_Ev.m jv_i300 (pc' := 150) (st' := [.ref 200, .int (2 : Int32), .ref 196, .int (vl_I im11)]) (G' := (jv_H K I L R)) rfl rfl (jv_m_getR (jv_rwK hW 196 12 24 (by decide)) rfl rfl (jv_rwR hW 196 8 200 (by decide))) Kz) ?_
          refine jv_Wp.lift (fun _ Kz => jv_Ev.steps jv_i300 1 (pc' := 151) (l' := [(2, .int (0 : Int32)), (0, .ref 196), (1, .int (Int32.ofInt f.i))]) (st' := [.int (0 : Int32), .ref 200, .int (2 : Int32), .ref 196, .int (vl_I im11)]) rfl Kz) ?_
          refine jv_Wp.lift (fun _ Kz => jv_Ev.m jv_i300 (pc' := 152) (st' := [.int (I 200 0), .int (2 : Int32), .ref 196, .int (vl_I im11)]) (G' := (jv_H K I L R)) rfl rfl (jv_m_ialdv (jv_rwK hW 200 102 8 (by decide)) rfl (by decide) rfl rfl) Kz) ?_
          refine jv_Wp.lift (fun _ Kz => jv_Ev.steps jv_i300 1 (pc' := 153) (l' := [(2, .int (0 : Int32)), (0, .ref 196), (1, .int (Int32.ofInt f.i))]) (st' := [.long (I 200 0).toInt64, .int (2 : Int32), .ref 196, .int (vl_I im11)]) rfl Kz) ?_
          obtain ⟨t12, Ht12, lt12, Tt12⟩ := vq_tells (I := I) (L := L) (n := n) (sl := sl) M 2 k2 (I 200 0).toInt64 hW hM oa hj (by decide) k28 hkd2
          refine jv_Wp.lift (fun _ Kz => jv_Ev.c jv_i300 (pc' := 156) (S' := [.int (vl_I t12), .int (vl_I im11)]) jv_i296 [.ref 196, .int (2 : Int32), .long (I 200 0).toInt64] rfl rfl rfl rfl (jv_cal rfl (jv_H_at (jv_rwK hW 196 12 24 (by decide))) rfl rfl) rfl Ht12 rfl rfl Kz) ?_
          obtain ⟨w13, hq13⟩ : ∃ x : Nat, ∀ _ : Unit, vx_then im11 t12 = x := ⟨_, fun _ => rfl⟩
          have fq13 : (im11 ≠ 0 → w13 = im11) ∧ (im11 = 0 → w13 = t12) := by rw [← hq13 ()]; exact vx_then_f im11 t12
          have Hf13 := vq_then (I := I) (L := L) (K := K) (R := R) (n := n) (sl := sl) im11 t12 (by omega) (by omega)
          rw [hq13 ()] at Hf13
          refine jv_Wp.lift (fun _ Kz => jv_Ev.c jv_i300 (pc' := 159) (S' := [.int (vl_I w13)]) jv_i299 [.int (vl_I im11), .int (vl_I t12)] rfl rfl rfl rfl rfl rfl Hf13 rfl rfl Kz) ?_
          refine jv_Wp.of (jv_Ev.ret jv_i300 rfl rfl) ?_
          rw [hQ]
          have ei : f.i = 3 := (vr_dQ D).symm.trans (congrArg Int32.toInt h4)
          have s1 : ¬ z1 = 6 := fun z => h1 ((vr_is (L := L) 6 (by decide) ok1).mp ((h1s ()).trans z))
          have em := (vr_im_map M (vr_A I L 1024) (fun z => by rw [e1] at z ⊢; rw [h1s ()] at z; exact absurd z s1)).2.2.1
          rw [e1, him11 ()] at em
          have ev : w13 = vx_allowed M (vr_A I L 1024) f.i := by
            rw [ei, vx_al3, em, e1]
            exact vx_thn (fun z => by omega) (fun z => absurd (lim11.2 z) s1)
          exact ⟨_, _, by rw [← ev], rfl, rfl⟩
        · refine jv_Wp.bys (q := ((Int32.ofInt f.i) = Int32.ofInt 4)) (fun h5 => ?_) (fun h5 => ?_)
          · refine jv_Wp.lift (fun _ Kz => jv_Ev.br jv_i300 (pc' := 160) (st' := []) rfl (by rw [h5]; rfl) Kz) ?_
            refine jv_Wp.lift (fun _ Kz => jv_Ev.steps jv_i300 2 (pc' := 162) (l' := [(2, .int (0 : Int32)), (0, .ref 196), (1, .int (Int32.ofInt f.i))]) (st' := [.int (3 : Int32), .ref 196]) rfl Kz) ?_
            obtain ⟨nm14, hnm14⟩ : ∃ x : Nat, ∀ _ : Unit, vr_nm (I 205 (76800 + 3)) = x := ⟨_, fun _ => rfl⟩
            have lnm14 := vr_nm_T (L := L) (k := 3) (oa 3 (by decide)) (by decide)
            rw [hnm14 ()] at lnm14
            have Hn14 := vq_isNumber (I := I) (L := L) (K := K) (R := R) (n := n) (sl := sl) 3 hW (by decide)
            rw [hnm14 ()] at Hn14
            refine jv_Wp.lift (fun _ Kz => jv_Ev.c jv_i300 (pc' := 165) (S' := [.int (vl_I nm14)]) jv_i298 [.ref 196, .int (3 : Int32)] rfl rfl rfl rfl (jv_cal rfl (jv_H_at (jv_rwK hW 196 12 24 (by decide))) rfl rfl) rfl Hn14 rfl rfl Kz) ?_
            refine jv_Wp.lift (fun _ Kz => jv_Ev.steps jv_i300 2 (pc' := 167) (l' := [(3, .int (vl_I nm14)), (2, .int (0 : Int32)), (0, .ref 196), (1, .int (Int32.ofInt f.i))]) (st' := [.ref 196]) rfl Kz) ?_
            refine jv_Wp.lift (fun _ Kz => jv_Ev.m jv_i300 (pc' := 170) (st' := [.ref 208]) (G' := (jv_H K I L R)) rfl rfl (jv_m_getR (jv_rwK hW 196 12 24 (by decide)) rfl rfl (jv_rwR hW 196 16 208 (by decide))) Kz) ?_
            refine jv_Wp.lift (fun _ Kz => jv_Ev.m jv_i300 (pc' := 173) (st' := [.ref 214]) (G' := (jv_H K I L R)) rfl rfl (jv_m_getR (jv_rwK hW 208 11 7 (by decide)) rfl rfl (jv_rwR hW 208 5 214 (by decide))) Kz) ?_
            refine jv_Wp.lift (fun _ Kz => jv_Ev.steps jv_i300 2 (pc' := 177) (l' := [(3, .int (vl_I nm14)), (2, .int (0 : Int32)), (0, .ref 196), (1, .int (Int32.ofInt f.i))]) (st' := [.int (3 : Int32), .int (1024 : Int32), .ref 214]) rfl Kz) ?_
            refine jv_Wp.lift (fun _ Kz => jv_Ev.c jv_i300 (pc' := 180) (S' := [.int (vl_I (8 + (76800 + 3))), .ref 214]) jv_i254 [.int (1024 : Int32), .int (3 : Int32)] rfl rfl rfl rfl rfl rfl (vq_row 1024 3) rfl rfl Kz) ?_
            refine jv_Wp.lift (fun _ Kz => jv_Ev.m jv_i300 (pc' := 181) (st' := [.long (L 214 (8 + (76800 + 3)))]) (G' := (jv_H K I L R)) rfl rfl (jv_m_laldv (jv_rwK hW 214 103 77200 (by decide)) rfl (vl_I_ix (by omega) (by decide)) rfl ((congrArg (L 214) (vl_I_nat (by omega))).trans rfl)) Kz) ?_
            refine jv_Wp.lift (fun _ Kz => jv_Ev.steps jv_i300 3 (pc' := 185) (l' := [(4, .long (L 214 (8 + (76800 + 3)))), (3, .int (vl_I nm14)), (2, .int (0 : Int32)), (0, .ref 196), (1, .int (Int32.ofInt f.i))]) (st' := [.ref 196, .int (vl_I nm14)]) rfl Kz) ?_
            refine jv_Wp.lift (fun _ Kz => jv_Ev.m jv_i300 (pc' := 188) (st' := [.ref 208, .int (vl_I nm14)]) (G' := (jv_H K I L R)) rfl rfl (jv_m_getR (jv_rwK hW 196 12 24 (by decide)) rfl rfl (jv_rwR hW 196 16 208 (by decide))) Kz) ?_
            refine jv_Wp.lift (fun _ Kz => jv_Ev.m jv_i300 (pc' := 191) (st' := [.ref 213, .int (vl_I nm14)]) (G' := (jv_H K I L R)) rfl rfl (jv_m_getR (jv_rwK hW 208 11 7 (by decide)) rfl rfl (jv_rwR hW 208 4 213 (by decide))) Kz) ?_
            refine jv_Wp.lift (fun _ Kz => jv_Ev.steps jv_i300 2 (pc' := 195) (l' := [(4, .long (L 214 (8 + (76800 + 3)))), (3, .int (vl_I nm14)), (2, .int (0 : Int32)), (0, .ref 196), (1, .int (Int32.ofInt f.i))]) (st' := [.int (3 : Int32), .int (1024 : Int32), .ref 213, .int (vl_I nm14)]) rfl Kz) ?_
            refine jv_Wp.lift (fun _ Kz => jv_Ev.c jv_i300 (pc' := 198) (S' := [.int (vl_I (8 + (76800 + 3))), .ref 213, .int (vl_I nm14)]) jv_i254 [.int (1024 : Int32), .int (3 : Int32)] rfl rfl rfl rfl rfl rfl (vq_row 1024 3) rfl rfl Kz) ?_
            refine jv_Wp.lift (fun _ Kz => jv_Ev.m jv_i300 (pc' := 199) (st' := [.long (L 213 (8 + (76800 + 3))), .int (vl_I nm14)]) (G' := (jv_H K I L R)) rfl rfl (jv_m_laldv (jv_rwK hW 213 103 77200 (by decide)) rfl (vl_I_ix (by omega) (by decide)) rfl ((congrArg (L 213) (vl_I_nat (by omega))).trans rfl)) Kz) ?_
            refine jv_Wp.lift (fun _ Kz => jv_Ev.steps jv_i300 2 (pc' := 201) (l' := [(4, .long (L 214 (8 + (76800 + 3)))), (3, .int (vl_I nm14)), (2, .int (0 : Int32)), (0, .ref 196), (1, .int (Int32.ofInt f.i))]) (st' := [.int (lg_cmp (L 213 (8 + (76800 + 3))) (1 : Int64)), .int (vl_I nm14)]) rfl Kz) ?_
            refine jv_Wp.cnd jv_i300 (pt := 217) (pe := 204) (p := ((lg_cmp (L 213 (8 + (76800 + 3))) (1 : Int64)) < 0)) (q := ((L 213 (8 + (76800 + 3))) < (1 : Int64))) rfl jv_bi_lt rfl rfl (lg_cmp_lt (L 213 (8 + (76800 + 3))) (1 : Int64)) (fun h6 => ?_) (fun h6 => ?_)
            · refine jv_Wp.lift (fun _ Kz => jv_Ev.steps jv_i300 1 (pc' := 219) (l' := [(4, .long (L 214 (8 + (76800 + 3)))), (3, .int (vl_I nm14)), (2, .int (0 : Int32)), (0, .ref 196), (1, .int (Int32.ofInt f.i))]) (st' := [.int (8 : Int32), .int (vl_I nm14)]) rfl Kz) ?_
              obtain ⟨w15, hq15⟩ : ∃ x : Nat, ∀ _ : Unit, vx_then nm14 8 = x := ⟨_, fun _ => rfl⟩
              have fq15 : (nm14 ≠ 0 → w15 = nm14) ∧ (nm14 = 0 → w15 = 8) := by rw [← hq15 ()]; exact vx_then_f nm14 8
              have Hf15 := vq_then (I := I) (L := L) (K := K) (R := R) (n := n) (sl := sl) nm14 8 (by omega) (by omega)
              rw [hq15 ()] at Hf15
              refine jv_Wp.lift (fun _ Kz => jv_Ev.c jv_i300 (pc' := 222) (S' := [.int (vl_I w15)]) jv_i299 [.int (vl_I nm14), .int (8 : Int32)] rfl rfl rfl rfl rfl rfl Hf15 rfl rfl Kz) ?_
              refine jv_Wp.lift (fun _ Kz => jv_Ev.steps jv_i300 5 (pc' := 227) (l' := [(3, .int (vl_I w15)), (4, .long (L 214 (8 + (76800 + 3)))), (2, .int (0 : Int32)), (0, .ref 196), (1, .int (Int32.ofInt f.i))]) (st' := [.int (3 : Int32), .int (3 : Int32), .int (1 : Int32), .ref 196]) rfl Kz) ?_
              obtain ⟨im16, him16⟩ : ∃ x : Nat, ∀ _ : Unit, vr_im M (vr_T I L (76800 + 1)) 3 3 = x := ⟨_, fun _ => rfl⟩
              have lim16 := vr_im_lt M (vr_T I L (76800 + 1)) 3 3
              rw [him16 (), h1s ()] at lim16
              have Hm16 := vq_isMap (I := I) (L := L) (K := K) (R := R) (n := n) (sl := sl) M 1 3 3 k1 hW hM (by decide) (by decide) (by decide) ok1 k18 (fun z => hkd1 (Or.inl z))
              rw [him16 ()] at Hm16
              refine jv_Wp.lift (fun _ Kz => jv_Ev.c jv_i300 (pc' := 230) (S' := [.int (vl_I im16)]) jv_i297 [.ref 196, .int (1 : Int32), .int (3 : Int32), .int (3 : Int32)] rfl rfl rfl rfl (jv_cal rfl (jv_H_at (jv_rwK hW 196 12 24 (by decide))) rfl rfl) rfl Hm16 rfl rfl Kz) ?_
              refine jv_Wp.lift (fun _ Kz => jv_Ev.steps jv_i300 4 (pc' := 235) (l' := [(3, .int (vl_I w15)), (4, .long (L 214 (8 + (76800 + 3)))), (2, .int (0 : Int32)), (0, .ref 196), (1, .int (Int32.ofInt f.i))]) (st' := [.long (L 214 (8 + (76800 + 3))), .int (2 : Int32), .ref 196, .int (vl_I w15), .int (vl_I im16)]) rfl Kz) ?_
              obtain ⟨t17, Ht17, lt17, Tt17⟩ := vq_tells (I := I) (L := L) (n := n) (sl := sl) M 2 k2 (L 214 (8 + (76800 + 3))) hW hM oa hj (by decide) k28 hkd2
              refine jv_Wp.lift (fun _ Kz => jv_Ev.c jv_i300 (pc' := 238) (S' := [.int (vl_I t17), .int (vl_I w15), .int (vl_I im16)]) jv_i296 [.ref 196, .int (2 : Int32), .long (L 214 (8 + (76800 + 3)))] rfl rfl rfl rfl (jv_cal rfl (jv_H_at (jv_rwK hW 196 12 24 (by decide))) rfl rfl) rfl Ht17 rfl rfl Kz) ?_
              obtain ⟨w18, hq18⟩ : ∃ x : Nat, ∀ _ : Unit, vx_then w15 t17 = x := ⟨_, fun _ => rfl⟩
              have fq18 : (w15 ≠ 0 → w18 = w15) ∧ (w15 = 0 → w18 = t17) := by rw [← hq18 ()]; exact vx_then_f w15 t17
              have Hf18 := vq_then (I := I) (L := L) (K := K) (R := R) (n := n) (sl := sl) w15 t17 (by omega) (by omega)
              rw [hq18 ()] at Hf18
              refine jv_Wp.lift (fun _ Kz => jv_Ev.c jv_i300 (pc' := 241) (S' := [.int (vl_I w18), .int (vl_I im16)]) jv_i299 [.int (vl_I w15), .int (vl_I t17)] rfl rfl rfl rfl rfl rfl Hf18 rfl rfl Kz) ?_
              obtain ⟨w19, hq19⟩ : ∃ x : Nat, ∀ _ : Unit, vx_then im16 w18 = x := ⟨_, fun _ => rfl⟩
              have fq19 : (im16 ≠ 0 → w19 = im16) ∧ (im16 = 0 → w19 = w18) := by rw [← hq19 ()]; exact vx_then_f im16 w18
              have Hf19 := vq_then (I := I) (L := L) (K := K) (R := R) (n := n) (sl := sl) im16 w18 (by omega) (by omega)
              rw [hq19 ()] at Hf19
              refine jv_Wp.lift (fun _ Kz => jv_Ev.c jv_i300 (pc' := 244) (S' := [.int (vl_I w19)]) jv_i299 [.int (vl_I im16), .int (vl_I w18)] rfl rfl rfl rfl rfl rfl Hf19 rfl rfl Kz) ?_
              refine jv_Wp.of (jv_Ev.ret jv_i300 rfl rfl) ?_
              rw [hQ]
              have ei : f.i = 4 := (vr_dQ D).symm.trans (congrArg Int32.toInt h5)
              have s1 : ¬ z1 = 6 := fun z => h1 ((vr_is (L := L) 6 (by decide) ok1).mp ((h1s ()).trans z))
              have em := (vr_im_map M (vr_A I L 1024) (fun z => by rw [e1] at z ⊢; rw [h1s ()] at z; exact absurd z s1)).2.2.2
              rw [e1, him16 ()] at em
              have l3 : (L 213 (8 + (76800 + 3))).toInt = (vb_toS (vr_S L (8 + (76800 + 3)))).least.toInt := rfl
              have g3 : (L 214 (8 + (76800 + 3))).toInt = (vb_toS (vr_S L (8 + (76800 + 3)))).greatest.toInt := rfl
              have l1 : (1 : Int64).toInt = 1 := rfl
              have y1 : (L 213 (8 + (76800 + 3))).toInt < (1 : Int64).toInt := Int64.lt_iff_toInt_lt.mp h6
              have vn : nm14 = 0 → ((vr_A I L 1024).1 3).val = (vb_toS (vr_S L (8 + (76800 + 3)))) ∧ (vb_toS (vr_S L (8 + (76800 + 3)))).least.toInt ≤ (vb_toS (vr_S L (8 + (76800 + 3)))).greatest.toInt := fun z => by
                have o3 : vr_ok I (76800 + 3) 3 := oa 3 (by decide)
                have s3 : ((vr_A I L 1024).1 3).sort = 1 := (vx_isnum_eq (by decide)).mp (lnm14.1.symm.trans z)
                rw [show (vr_A I L 1024).1 3 = vr_T I L (76800 + 3) from vr_A1 (by decide)] at s3 ⊢
                have i3 := (vr_is 1 (by decide) o3).mp s3
                have tt := (vr_tight o3 (tA 3 (by decide)) (by rw [i3]; rfl)).low.2.2.2
                exact ⟨vr_valv (by rw [i3]; rfl), by have := tt.1; have := tt.2; omega⟩
              have ev : w19 = vx_allowed M (vr_A I L 1024) f.i := by
                rw [ei, vx_al4, em]
                exact vx_thn (fun z => by omega) (fun z => by rw [← lnm14.1]; exact vx_thn (fun z => by omega) (fun z => by rw [(vn z).1, if_pos (by omega)]; exact vx_thn (fun _ => by omega) (fun z => absurd z (by decide))))
              exact ⟨_, _, by rw [← ev], rfl, rfl⟩
            · refine jv_Wp.lift (fun _ Kz => jv_Ev.steps jv_i300 3 (pc' := 210) (l' := [(4, .long (L 214 (8 + (76800 + 3)))), (3, .int (vl_I nm14)), (2, .int (0 : Int32)), (0, .ref 196), (1, .int (Int32.ofInt f.i))]) (st' := [.int (lg_cmp (L 214 (8 + (76800 + 3))) (256 : Int64)), .int (vl_I nm14)]) rfl Kz) ?_
              refine jv_Wp.cnd jv_i300 (pt := 217) (pe := 213) (p := (0 < (lg_cmp (L 214 (8 + (76800 + 3))) (256 : Int64)))) (q := ((256 : Int64) < (L 214 (8 + (76800 + 3))))) rfl jv_bi_gt rfl rfl (lg_cmp_gt (L 214 (8 + (76800 + 3))) (256 : Int64)) (fun h7 => ?_) (fun h7 => ?_)
              · refine jv_Wp.lift (fun _ Kz => jv_Ev.steps jv_i300 1 (pc' := 219) (l' := [(4, .long (L 214 (8 + (76800 + 3)))), (3, .int (vl_I nm14)), (2, .int (0 : Int32)), (0, .ref 196), (1, .int (Int32.ofInt f.i))]) (st' := [.int (8 : Int32), .int (vl_I nm14)]) rfl Kz) ?_
                obtain ⟨w20, hq20⟩ : ∃ x : Nat, ∀ _ : Unit, vx_then nm14 8 = x := ⟨_, fun _ => rfl⟩
                have fq20 : (nm14 ≠ 0 → w20 = nm14) ∧ (nm14 = 0 → w20 = 8) := by rw [← hq20 ()]; exact vx_then_f nm14 8
                have Hf20 := vq_then (I := I) (L := L) (K := K) (R := R) (n := n) (sl := sl) nm14 8 (by omega) (by omega)
                rw [hq20 ()] at Hf20
                refine jv_Wp.lift (fun _ Kz => jv_Ev.c jv_i300 (pc' := 222) (S' := [.int (vl_I w20)]) jv_i299 [.int (vl_I nm14), .int (8 : Int32)] rfl rfl rfl rfl rfl rfl Hf20 rfl rfl Kz) ?_
                refine jv_Wp.lift (fun _ Kz => jv_Ev.steps jv_i300 5 (pc' := 227) (l' := [(3, .int (vl_I w20)), (4, .long (L 214 (8 + (76800 + 3)))), (2, .int (0 : Int32)), (0, .ref 196), (1, .int (Int32.ofInt f.i))]) (st' := [.int (3 : Int32), .int (3 : Int32), .int (1 : Int32), .ref 196]) rfl Kz) ?_
                obtain ⟨im21, him21⟩ : ∃ x : Nat, ∀ _ : Unit, vr_im M (vr_T I L (76800 + 1)) 3 3 = x := ⟨_, fun _ => rfl⟩
                have lim21 := vr_im_lt M (vr_T I L (76800 + 1)) 3 3
                rw [him21 (), h1s ()] at lim21
                have Hm21 := vq_isMap (I := I) (L := L) (K := K) (R := R) (n := n) (sl := sl) M 1 3 3 k1 hW hM (by decide) (by decide) (by decide) ok1 k18 (fun z => hkd1 (Or.inl z))
                rw [him21 ()] at Hm21
                refine jv_Wp.lift (fun _ Kz => jv_Ev.c jv_i300 (pc' := 230) (S' := [.int (vl_I im21)]) jv_i297 [.ref 196, .int (1 : Int32), .int (3 : Int32), .int (3 : Int32)] rfl rfl rfl rfl (jv_cal rfl (jv_H_at (jv_rwK hW 196 12 24 (by decide))) rfl rfl) rfl Hm21 rfl rfl Kz) ?_
                refine jv_Wp.lift (fun _ Kz => jv_Ev.steps jv_i300 4 (pc' := 235) (l' := [(3, .int (vl_I w20)), (4, .long (L 214 (8 + (76800 + 3)))), (2, .int (0 : Int32)), (0, .ref 196), (1, .int (Int32.ofInt f.i))]) (st' := [.long (L 214 (8 + (76800 + 3))), .int (2 : Int32), .ref 196, .int (vl_I w20), .int (vl_I im21)]) rfl Kz) ?_
                obtain ⟨t22, Ht22, lt22, Tt22⟩ := vq_tells (I := I) (L := L) (n := n) (sl := sl) M 2 k2 (L 214 (8 + (76800 + 3))) hW hM oa hj (by decide) k28 hkd2
                refine jv_Wp.lift (fun _ Kz => jv_Ev.c jv_i300 (pc' := 238) (S' := [.int (vl_I t22), .int (vl_I w20), .int (vl_I im21)]) jv_i296 [.ref 196, .int (2 : Int32), .long (L 214 (8 + (76800 + 3)))] rfl rfl rfl rfl (jv_cal rfl (jv_H_at (jv_rwK hW 196 12 24 (by decide))) rfl rfl) rfl Ht22 rfl rfl Kz) ?_
                obtain ⟨w23, hq23⟩ : ∃ x : Nat, ∀ _ : Unit, vx_then w20 t22 = x := ⟨_, fun _ => rfl⟩
                have fq23 : (w20 ≠ 0 → w23 = w20) ∧ (w20 = 0 → w23 = t22) := by rw [← hq23 ()]; exact vx_then_f w20 t22
                have Hf23 := vq_then (I := I) (L := L) (K := K) (R := R) (n := n) (sl := sl) w20 t22 (by omega) (by omega)
                rw [hq23 ()] at Hf23
                refine jv_Wp.lift (fun _ Kz => jv_Ev.c jv_i300 (pc' := 241) (S' := [.int (vl_I w23), .int (vl_I im21)]) jv_i299 [.int (vl_I w20), .int (vl_I t22)] rfl rfl rfl rfl rfl rfl Hf23 rfl rfl Kz) ?_
                obtain ⟨w24, hq24⟩ : ∃ x : Nat, ∀ _ : Unit, vx_then im21 w23 = x := ⟨_, fun _ => rfl⟩
                have fq24 : (im21 ≠ 0 → w24 = im21) ∧ (im21 = 0 → w24 = w23) := by rw [← hq24 ()]; exact vx_then_f im21 w23
                have Hf24 := vq_then (I := I) (L := L) (K := K) (R := R) (n := n) (sl := sl) im21 w23 (by omega) (by omega)
                rw [hq24 ()] at Hf24
                refine jv_Wp.lift (fun _ Kz => jv_Ev.c jv_i300 (pc' := 244) (S' := [.int (vl_I w24)]) jv_i299 [.int (vl_I im21), .int (vl_I w23)] rfl rfl rfl rfl rfl rfl Hf24 rfl rfl Kz) ?_
                refine jv_Wp.of (jv_Ev.ret jv_i300 rfl rfl) ?_
                rw [hQ]
                have ei : f.i = 4 := (vr_dQ D).symm.trans (congrArg Int32.toInt h5)
                have s1 : ¬ z1 = 6 := fun z => h1 ((vr_is (L := L) 6 (by decide) ok1).mp ((h1s ()).trans z))
                have em := (vr_im_map M (vr_A I L 1024) (fun z => by rw [e1] at z ⊢; rw [h1s ()] at z; exact absurd z s1)).2.2.2
                rw [e1, him21 ()] at em
                have l3 : (L 213 (8 + (76800 + 3))).toInt = (vb_toS (vr_S L (8 + (76800 + 3)))).least.toInt := rfl
                have g3 : (L 214 (8 + (76800 + 3))).toInt = (vb_toS (vr_S L (8 + (76800 + 3)))).greatest.toInt := rfl
                have l1 : (1 : Int64).toInt = 1 := rfl
                have l256 : (256 : Int64).toInt = 256 := rfl
                have y1 : ¬ (L 213 (8 + (76800 + 3))).toInt < (1 : Int64).toInt := fun z => h6 (Int64.lt_iff_toInt_lt.mpr z)
                have y2 : (256 : Int64).toInt < (L 214 (8 + (76800 + 3))).toInt := Int64.lt_iff_toInt_lt.mp h7
                have vn : nm14 = 0 → ((vr_A I L 1024).1 3).val = (vb_toS (vr_S L (8 + (76800 + 3)))) ∧ (vb_toS (vr_S L (8 + (76800 + 3)))).least.toInt ≤ (vb_toS (vr_S L (8 + (76800 + 3)))).greatest.toInt := fun z => by
                  have o3 : vr_ok I (76800 + 3) 3 := oa 3 (by decide)
                  have s3 : ((vr_A I L 1024).1 3).sort = 1 := (vx_isnum_eq (by decide)).mp (lnm14.1.symm.trans z)
                  rw [show (vr_A I L 1024).1 3 = vr_T I L (76800 + 3) from vr_A1 (by decide)] at s3 ⊢
                  have i3 := (vr_is 1 (by decide) o3).mp s3
                  have tt := (vr_tight o3 (tA 3 (by decide)) (by rw [i3]; rfl)).low.2.2.2
                  exact ⟨vr_valv (by rw [i3]; rfl), by have := tt.1; have := tt.2; omega⟩
                have ev : w24 = vx_allowed M (vr_A I L 1024) f.i := by
                  rw [ei, vx_al4, em]
                  exact vx_thn (fun z => by omega) (fun z => by rw [← lnm14.1]; exact vx_thn (fun z => by omega) (fun z => by rw [(vn z).1, if_pos (by omega)]; exact vx_thn (fun _ => by omega) (fun z => absurd z (by decide))))
                exact ⟨_, _, by rw [← ev], rfl, rfl⟩
              · refine jv_Wp.lift (fun _ Kz => jv_Ev.steps jv_i300 2 (pc' := 219) (l' := [(4, .long (L 214 (8 + (76800 + 3)))), (3, .int (vl_I nm14)), (2, .int (0 : Int32)), (0, .ref 196), (1, .int (Int32.ofInt f.i))]) (st' := [.int (0 : Int32), .int (vl_I nm14)]) rfl Kz) ?_
                obtain ⟨w25, hq25⟩ : ∃ x : Nat, ∀ _ : Unit, vx_then nm14 0 = x := ⟨_, fun _ => rfl⟩
                have fq25 : (nm14 ≠ 0 → w25 = nm14) ∧ (nm14 = 0 → w25 = 0) := by rw [← hq25 ()]; exact vx_then_f nm14 0
                have Hf25 := vq_then (I := I) (L := L) (K := K) (R := R) (n := n) (sl := sl) nm14 0 (by omega) (by omega)
                rw [hq25 ()] at Hf25
                refine jv_Wp.lift (fun _ Kz => jv_Ev.c jv_i300 (pc' := 222) (S' := [.int (vl_I w25)]) jv_i299 [.int (vl_I nm14), .int (0 : Int32)] rfl rfl rfl rfl rfl rfl Hf25 rfl rfl Kz) ?_
                refine jv_Wp.lift (fun _ Kz => jv_Ev.steps jv_i300 5 (pc' := 227) (l' := [(3, .int (vl_I w25)), (4, .long (L 214 (8 + (76800 + 3)))), (2, .int (0 : Int32)), (0, .ref 196), (1, .int (Int32.ofInt f.i))]) (st' := [.int (3 : Int32), .int (3 : Int32), .int (1 : Int32), .ref 196]) rfl Kz) ?_
                obtain ⟨im26, him26⟩ : ∃ x : Nat, ∀ _ : Unit, vr_im M (vr_T I L (76800 + 1)) 3 3 = x := ⟨_, fun _ => rfl⟩
                have lim26 := vr_im_lt M (vr_T I L (76800 + 1)) 3 3
                rw [him26 (), h1s ()] at lim26
                have Hm26 := vq_isMap (I := I) (L := L) (K := K) (R := R) (n := n) (sl := sl) M 1 3 3 k1 hW hM (by decide) (by decide) (by decide) ok1 k18 (fun z => hkd1 (Or.inl z))
                rw [him26 ()] at Hm26
                refine jv_Wp.lift (fun _ Kz => jv_Ev.c jv_i300 (pc' := 230) (S' := [.int (vl_I im26)]) jv_i297 [.ref 196, .int (1 : Int32), .int (3 : Int32), .int (3 : Int32)] rfl rfl rfl rfl (jv_cal rfl (jv_H_at (jv_rwK hW 196 12 24 (by decide))) rfl rfl) rfl Hm26 rfl rfl Kz) ?_
                refine jv_Wp.lift (fun _ Kz => jv_Ev.steps jv_i300 4 (pc' := 235) (l' := [(3, .int (vl_I w25)), (4, .long (L 214 (8 + (76800 + 3)))), (2, .int (0 : Int32)), (0, .ref 196), (1, .int (Int32.ofInt f.i))]) (st' := [.long (L 214 (8 + (76800 + 3))), .int (2 : Int32), .ref 196, .int (vl_I w25), .int (vl_I im26)]) rfl Kz) ?_
                obtain ⟨t27, Ht27, lt27, Tt27⟩ := vq_tells (I := I) (L := L) (n := n) (sl := sl) M 2 k2 (L 214 (8 + (76800 + 3))) hW hM oa hj (by decide) k28 hkd2
                refine jv_Wp.lift (fun _ Kz => jv_Ev.c jv_i300 (pc' := 238) (S' := [.int (vl_I t27), .int (vl_I w25), .int (vl_I im26)]) jv_i296 [.ref 196, .int (2 : Int32), .long (L 214 (8 + (76800 + 3)))] rfl rfl rfl rfl (jv_cal rfl (jv_H_at (jv_rwK hW 196 12 24 (by decide))) rfl rfl) rfl Ht27 rfl rfl Kz) ?_
                obtain ⟨w28, hq28⟩ : ∃ x : Nat, ∀ _ : Unit, vx_then w25 t27 = x := ⟨_, fun _ => rfl⟩
                have fq28 : (w25 ≠ 0 → w28 = w25) ∧ (w25 = 0 → w28 = t27) := by rw [← hq28 ()]; exact vx_then_f w25 t27
                have Hf28 := vq_then (I := I) (L := L) (K := K) (R := R) (n := n) (sl := sl) w25 t27 (by omega) (by omega)
                rw [hq28 ()] at Hf28
                refine jv_Wp.lift (fun _ Kz => jv_Ev.c jv_i300 (pc' := 241) (S' := [.int (vl_I w28), .int (vl_I im26)]) jv_i299 [.int (vl_I w25), .int (vl_I t27)] rfl rfl rfl rfl rfl rfl Hf28 rfl rfl Kz) ?_
                obtain ⟨w29, hq29⟩ : ∃ x : Nat, ∀ _ : Unit, vx_then im26 w28 = x := ⟨_, fun _ => rfl⟩
                have fq29 : (im26 ≠ 0 → w29 = im26) ∧ (im26 = 0 → w29 = w28) := by rw [← hq29 ()]; exact vx_then_f im26 w28
                have Hf29 := vq_then (I := I) (L := L) (K := K) (R := R) (n := n) (sl := sl) im26 w28 (by omega) (by omega)
                rw [hq29 ()] at Hf29
                refine jv_Wp.lift (fun _ Kz => jv_Ev.c jv_i300 (pc' := 244) (S' := [.int (vl_I w29)]) jv_i299 [.int (vl_I im26), .int (vl_I w28)] rfl rfl rfl rfl rfl rfl Hf29 rfl rfl Kz) ?_
                refine jv_Wp.of (jv_Ev.ret jv_i300 rfl rfl) ?_
                rw [hQ]
                have ei : f.i = 4 := (vr_dQ D).symm.trans (congrArg Int32.toInt h5)
                have s1 : ¬ z1 = 6 := fun z => h1 ((vr_is (L := L) 6 (by decide) ok1).mp ((h1s ()).trans z))
                have em := (vr_im_map M (vr_A I L 1024) (fun z => by rw [e1] at z ⊢; rw [h1s ()] at z; exact absurd z s1)).2.2.2
                rw [e1, him26 ()] at em
                have l3 : (L 213 (8 + (76800 + 3))).toInt = (vb_toS (vr_S L (8 + (76800 + 3)))).least.toInt := rfl
                have g3 : (L 214 (8 + (76800 + 3))).toInt = (vb_toS (vr_S L (8 + (76800 + 3)))).greatest.toInt := rfl
                have l1 : (1 : Int64).toInt = 1 := rfl
                have l256 : (256 : Int64).toInt = 256 := rfl
                have y1 : ¬ (L 213 (8 + (76800 + 3))).toInt < (1 : Int64).toInt := fun z => h6 (Int64.lt_iff_toInt_lt.mpr z)
                have y2 : ¬ (256 : Int64).toInt < (L 214 (8 + (76800 + 3))).toInt := fun z => h7 (Int64.lt_iff_toInt_lt.mpr z)
                have vn : nm14 = 0 → ((vr_A I L 1024).1 3).val = (vb_toS (vr_S L (8 + (76800 + 3)))) ∧ (vb_toS (vr_S L (8 + (76800 + 3)))).least.toInt ≤ (vb_toS (vr_S L (8 + (76800 + 3)))).greatest.toInt := fun z => by
                  have o3 : vr_ok I (76800 + 3) 3 := oa 3 (by decide)
                  have s3 : ((vr_A I L 1024).1 3).sort = 1 := (vx_isnum_eq (by decide)).mp (lnm14.1.symm.trans z)
                  rw [show (vr_A I L 1024).1 3 = vr_T I L (76800 + 3) from vr_A1 (by decide)] at s3 ⊢
                  have i3 := (vr_is 1 (by decide) o3).mp s3
                  have tt := (vr_tight o3 (tA 3 (by decide)) (by rw [i3]; rfl)).low.2.2.2
                  exact ⟨vr_valv (by rw [i3]; rfl), by have := tt.1; have := tt.2; omega⟩
                have ev : w29 = vx_allowed M (vr_A I L 1024) f.i := by
                  rw [ei, vx_al4, em]
                  exact vx_thn (fun z => by omega) (fun z => by rw [← lnm14.1]; exact vx_thn (fun z => by omega) (fun z => by have T := Tt27 (by have := (vn z).2; omega) (by omega); rw [(vn z).1, if_neg (by omega), vx_then0]; exact (show w29 = t27 by omega).trans T))
                exact ⟨_, _, by rw [← ev], rfl, rfl⟩
          · refine jv_Wp.bys (q := ((Int32.ofInt f.i) = Int32.ofInt 5)) (fun h8 => ?_) (fun h8 => ?_)
            · refine jv_Wp.lift (fun _ Kz => jv_Ev.br jv_i300 (pc' := 245) (st' := []) rfl (by rw [h8]; rfl) Kz) ?_
              refine jv_Wp.lift (fun _ Kz => jv_Ev.steps jv_i300 1 (pc' := 246) (l' := [(2, .int (0 : Int32)), (0, .ref 196), (1, .int (Int32.ofInt f.i))]) (st' := [.int (0 : Int32)]) rfl Kz) ?_
              refine jv_Wp.of (jv_Ev.ret jv_i300 rfl rfl) ?_
              rw [hQ]
              have ei : f.i = 5 := (vr_dQ D).symm.trans (congrArg Int32.toInt h8)
              have s1 : ¬ z1 = 6 := fun z => h1 ((vr_is (L := L) 6 (by decide) ok1).mp ((h1s ()).trans z))
              have ev : 0 = vx_allowed M (vr_A I L 1024) f.i := by rw [ei, vx_al5]
              exact ⟨_, _, by rw [← ev]; rfl, rfl, rfl⟩
            · refine jv_Wp.bys (q := ((Int32.ofInt f.i) = Int32.ofInt 6)) (fun h9 => ?_) (fun h9 => ?_)
              · refine jv_Wp.lift (fun _ Kz => jv_Ev.br jv_i300 (pc' := 247) (st' := []) rfl (by rw [h9]; rfl) Kz) ?_
                refine jv_Wp.lift (fun _ Kz => jv_Ev.steps jv_i300 2 (pc' := 249) (l' := [(2, .int (0 : Int32)), (0, .ref 196), (1, .int (Int32.ofInt f.i))]) (st' := [.int (1 : Int32), .ref 196]) rfl Kz) ?_
                refine jv_Wp.lift (fun _ Kz => jv_Ev.c jv_i300 (pc' := 252) (S' := [.int (I 205 (76800 + 1))]) jv_i271 [.ref 196, .int (1 : Int32)] rfl rfl rfl rfl (jv_cal rfl (jv_H_at (jv_rwK hW 196 12 24 (by decide))) rfl rfl) rfl (vq_sortOf 1 hW (by omega)) rfl rfl Kz) ?_
                refine jv_Wp.lift (fun _ Kz => jv_Ev.steps jv_i300 1 (pc' := 253) (l' := [(2, .int (0 : Int32)), (0, .ref 196), (1, .int (Int32.ofInt f.i))]) (st' := [.int (2 : Int32), .int (I 205 (76800 + 1))]) rfl Kz) ?_
                refine jv_Wp.cnd jv_i300 (pt := 275) (pe := 256) (p := (¬ (I 205 (76800 + 1)) = (2 : Int32))) (q := (¬ (I 205 (76800 + 1)) = (2 : Int32))) rfl jv_bc_ne rfl rfl Iff.rfl (fun h10 => ?_) (fun h10 => ?_)
                · refine jv_Wp.lift (fun _ Kz => jv_Ev.steps jv_i300 4 (pc' := 280) (l' := [(6, .int (0 : Int32)), (2, .int (0 : Int32)), (0, .ref 196), (1, .int (Int32.ofInt f.i))]) (st' := [.int (1 : Int32), .ref 196]) rfl Kz) ?_
                  refine jv_Wp.lift (fun _ Kz => jv_Ev.c jv_i300 (pc' := 283) (S' := [.int (I 205 (76800 + 1))]) jv_i271 [.ref 196, .int (1 : Int32)] rfl rfl rfl rfl (jv_cal rfl (jv_H_at (jv_rwK hW 196 12 24 (by decide))) rfl rfl) rfl (vq_sortOf 1 hW (by omega)) rfl rfl Kz) ?_
                  refine jv_Wp.cnd jv_i300 (pt := 290) (pe := 286) (p := (¬ (I 205 (76800 + 1)) = 0)) (q := (¬ (I 205 (76800 + 1)) = 0)) rfl jv_bi_ne rfl rfl Iff.rfl (fun h11 => ?_) (fun h11 => ?_)
                  · refine jv_Wp.lift (fun _ Kz => jv_Ev.steps jv_i300 1 (pc' := 292) (l' := [(6, .int (0 : Int32)), (2, .int (0 : Int32)), (0, .ref 196), (1, .int (Int32.ofInt f.i))]) (st' := [.int (0 : Int32)]) rfl Kz) ?_
                    refine jv_Wp.lift (fun _ Kz => jv_Ev.br jv_i300 (pc' := 299) (st' := []) rfl (by rfl) Kz) ?_
                    refine jv_Wp.lift (fun _ Kz => jv_Ev.steps jv_i300 3 (pc' := 303) (l' := [(6, .int (0 : Int32)), (2, .int (0 : Int32)), (0, .ref 196), (1, .int (Int32.ofInt f.i))]) (st' := [.int (2 : Int32), .ref 196, .int (8 : Int32)]) rfl Kz) ?_
                    obtain ⟨nm30, hnm30⟩ : ∃ x : Nat, ∀ _ : Unit, vr_nm (I 205 (76800 + 2)) = x := ⟨_, fun _ => rfl⟩
                    have lnm30 := vr_nm_T (L := L) (k := 2) (oa 2 (by decide)) (by decide)
                    rw [hnm30 ()] at lnm30
                    have Hn30 := vq_isNumber (I := I) (L := L) (K := K) (R := R) (n := n) (sl := sl) 2 hW (by decide)
                    rw [hnm30 ()] at Hn30
                    refine jv_Wp.lift (fun _ Kz => jv_Ev.c jv_i300 (pc' := 306) (S' := [.int (vl_I nm30), .int (8 : Int32)]) jv_i298 [.ref 196, .int (2 : Int32)] rfl rfl rfl rfl (jv_cal rfl (jv_H_at (jv_rwK hW 196 12 24 (by decide))) rfl rfl) rfl Hn30 rfl rfl Kz) ?_
                    obtain ⟨w31, hq31⟩ : ∃ x : Nat, ∀ _ : Unit, vx_then 8 nm30 = x := ⟨_, fun _ => rfl⟩
                    have fq31 : (8 ≠ 0 → w31 = 8) ∧ (8 = 0 → w31 = nm30) := by rw [← hq31 ()]; exact vx_then_f 8 nm30
                    have Hf31 := vq_then (I := I) (L := L) (K := K) (R := R) (n := n) (sl := sl) 8 nm30 (by omega) (by omega)
                    rw [hq31 ()] at Hf31
                    refine jv_Wp.lift (fun _ Kz => jv_Ev.c jv_i300 (pc' := 309) (S' := [.int (vl_I w31)]) jv_i299 [.int (8 : Int32), .int (vl_I nm30)] rfl rfl rfl rfl rfl rfl Hf31 rfl rfl Kz) ?_
                    refine jv_Wp.of (jv_Ev.ret jv_i300 rfl rfl) ?_
                    rw [hQ]
                    have ei : f.i = 6 := (vr_dQ D).symm.trans (congrArg Int32.toInt h9)
                    have s1 : ¬ z1 = 6 := fun z => h1 ((vr_is (L := L) 6 (by decide) ok1).mp ((h1s ()).trans z))
                    have q1 : ¬ z1 = 2 := fun z => h10 ((vr_is (L := L) 2 (by decide) ok1).mp ((h1s ()).trans z))
                    have q0 : ¬ z1 = 0 := fun z => h11 ((vr_isN (L := L) ok1 (by decide)).mp ((h1s ()).trans z))
                    have ev : w31 = vx_allowed M (vr_A I L 1024) f.i := by
                      rw [ei, vx_al6, e1, h1s ()]
                      rw [if_neg q0, if_neg (fun z => q1 z.1)]; omega
                    exact ⟨_, _, by rw [← ev], rfl, rfl⟩
                  · refine jv_Wp.lift (fun _ Kz => jv_Ev.steps jv_i300 4 (pc' := 303) (l' := [(6, .int (0 : Int32)), (2, .int (0 : Int32)), (0, .ref 196), (1, .int (Int32.ofInt f.i))]) (st' := [.int (2 : Int32), .ref 196, .int (1 : Int32)]) rfl Kz) ?_
                    obtain ⟨nm32, hnm32⟩ : ∃ x : Nat, ∀ _ : Unit, vr_nm (I 205 (76800 + 2)) = x := ⟨_, fun _ => rfl⟩
                    have lnm32 := vr_nm_T (L := L) (k := 2) (oa 2 (by decide)) (by decide)
                    rw [hnm32 ()] at lnm32
                    have Hn32 := vq_isNumber (I := I) (L := L) (K := K) (R := R) (n := n) (sl := sl) 2 hW (by decide)
                    rw [hnm32 ()] at Hn32
                    refine jv_Wp.lift (fun _ Kz => jv_Ev.c jv_i300 (pc' := 306) (S' := [.int (vl_I nm32), .int (1 : Int32)]) jv_i298 [.ref 196, .int (2 : Int32)] rfl rfl rfl rfl (jv_cal rfl (jv_H_at (jv_rwK hW 196 12 24 (by decide))) rfl rfl) rfl Hn32 rfl rfl Kz) ?_
                    obtain ⟨w33, hq33⟩ : ∃ x : Nat, ∀ _ : Unit, vx_then 1 nm32 = x := ⟨_, fun _ => rfl⟩
                    have fq33 : (1 ≠ 0 → w33 = 1) ∧ (1 = 0 → w33 = nm32) := by rw [← hq33 ()]; exact vx_then_f 1 nm32
                    have Hf33 := vq_then (I := I) (L := L) (K := K) (R := R) (n := n) (sl := sl) 1 nm32 (by omega) (by omega)
                    rw [hq33 ()] at Hf33
                    refine jv_Wp.lift (fun _ Kz => jv_Ev.c jv_i300 (pc' := 309) (S' := [.int (vl_I w33)]) jv_i299 [.int (1 : Int32), .int (vl_I nm32)] rfl rfl rfl rfl rfl rfl Hf33 rfl rfl Kz) ?_
                    refine jv_Wp.of (jv_Ev.ret jv_i300 rfl rfl) ?_
                    rw [hQ]
                    have ei : f.i = 6 := (vr_dQ D).symm.trans (congrArg Int32.toInt h9)
                    have s1 : ¬ z1 = 6 := fun z => h1 ((vr_is (L := L) 6 (by decide) ok1).mp ((h1s ()).trans z))
                    have q1 : ¬ z1 = 2 := fun z => h10 ((vr_is (L := L) 2 (by decide) ok1).mp ((h1s ()).trans z))
                    have q0 : z1 = 0 := (h1s ()).symm.trans ((vr_isN (L := L) ok1 (by decide)).mpr (Classical.not_not.mp h11))
                    have ev : w33 = vx_allowed M (vr_A I L 1024) f.i := by
                      rw [ei, vx_al6, e1, h1s ()]
                      rw [if_pos q0]; omega
                    exact ⟨_, _, by rw [← ev], rfl, rfl⟩
                · refine jv_Wp.lift (fun _ Kz => jv_Ev.steps jv_i300 1 (pc' := 257) (l' := [(2, .int (0 : Int32)), (0, .ref 196), (1, .int (Int32.ofInt f.i))]) (st' := [.ref 196]) rfl Kz) ?_
                  refine jv_Wp.lift (fun _ Kz => jv_Ev.m jv_i300 (pc' := 260) (st' := [.ref 206]) (G' := (jv_H K I L R)) rfl rfl (jv_m_getR (jv_rwK hW 196 12 24 (by decide)) rfl rfl (jv_rwR hW 196 14 206 (by decide))) Kz) ?_
                  refine jv_Wp.lift (fun _ Kz => jv_Ev.steps jv_i300 2 (pc' := 264) (l' := [(2, .int (0 : Int32)), (0, .ref 196), (1, .int (Int32.ofInt f.i))]) (st' := [.int (1 : Int32), .int (1024 : Int32), .ref 206]) rfl Kz) ?_
                  refine jv_Wp.lift (fun _ Kz => jv_Ev.c jv_i300 (pc' := 267) (S' := [.int (vl_I (76800 + 1)), .ref 206]) jv_i253 [.int (1024 : Int32), .int (1 : Int32)] rfl rfl rfl rfl rfl rfl (vq_thing 1024 1) rfl rfl Kz) ?_
                  refine jv_Wp.lift (fun _ Kz => jv_Ev.m jv_i300 (pc' := 268) (st' := [.int (I 206 (76800 + 1))]) (G' := (jv_H K I L R)) rfl rfl (jv_m_ialdv (jv_rwK hW 206 102 77100 (by decide)) rfl (vl_I_ix (by omega) (by decide)) rfl ((congrArg (I 206) (vl_I_nat (by omega))).trans rfl)) Kz) ?_
                  refine jv_Wp.cnd jv_i300 (pt := 275) (pe := 271) (p := (¬ (I 206 (76800 + 1)) = 0)) (q := (¬ (I 206 (76800 + 1)) = 0)) rfl jv_bi_ne rfl rfl Iff.rfl (fun h12 => ?_) (fun h12 => ?_)
                  · refine jv_Wp.lift (fun _ Kz => jv_Ev.steps jv_i300 4 (pc' := 280) (l' := [(6, .int (0 : Int32)), (2, .int (0 : Int32)), (0, .ref 196), (1, .int (Int32.ofInt f.i))]) (st' := [.int (1 : Int32), .ref 196]) rfl Kz) ?_
                    refine jv_Wp.lift (fun _ Kz => jv_Ev.c jv_i300 (pc' := 283) (S' := [.int (I 205 (76800 + 1))]) jv_i271 [.ref 196, .int (1 : Int32)] rfl rfl rfl rfl (jv_cal rfl (jv_H_at (jv_rwK hW 196 12 24 (by decide))) rfl rfl) rfl (vq_sortOf 1 hW (by omega)) rfl rfl Kz) ?_
                    refine jv_Wp.cnd jv_i300 (pt := 290) (pe := 286) (p := (¬ (I 205 (76800 + 1)) = 0)) (q := (¬ (I 205 (76800 + 1)) = 0)) rfl jv_bi_ne rfl rfl Iff.rfl (fun _ => ?_) (fun hz => absurd (fun z => absurd (z.symm.trans (Classical.not_not.mp h10)) (by decide)) hz)
                    refine jv_Wp.lift (fun _ Kz => jv_Ev.steps jv_i300 1 (pc' := 292) (l' := [(6, .int (0 : Int32)), (2, .int (0 : Int32)), (0, .ref 196), (1, .int (Int32.ofInt f.i))]) (st' := [.int (0 : Int32)]) rfl Kz) ?_
                    refine jv_Wp.lift (fun _ Kz => jv_Ev.br jv_i300 (pc' := 299) (st' := []) rfl (by rfl) Kz) ?_
                    refine jv_Wp.lift (fun _ Kz => jv_Ev.steps jv_i300 3 (pc' := 303) (l' := [(6, .int (0 : Int32)), (2, .int (0 : Int32)), (0, .ref 196), (1, .int (Int32.ofInt f.i))]) (st' := [.int (2 : Int32), .ref 196, .int (8 : Int32)]) rfl Kz) ?_
                    obtain ⟨nm34, hnm34⟩ : ∃ x : Nat, ∀ _ : Unit, vr_nm (I 205 (76800 + 2)) = x := ⟨_, fun _ => rfl⟩
                    have lnm34 := vr_nm_T (L := L) (k := 2) (oa 2 (by decide)) (by decide)
                    rw [hnm34 ()] at lnm34
                    have Hn34 := vq_isNumber (I := I) (L := L) (K := K) (R := R) (n := n) (sl := sl) 2 hW (by decide)
                    rw [hnm34 ()] at Hn34
                    refine jv_Wp.lift (fun _ Kz => jv_Ev.c jv_i300 (pc' := 306) (S' := [.int (vl_I nm34), .int (8 : Int32)]) jv_i298 [.ref 196, .int (2 : Int32)] rfl rfl rfl rfl (jv_cal rfl (jv_H_at (jv_rwK hW 196 12 24 (by decide))) rfl rfl) rfl Hn34 rfl rfl Kz) ?_
                    obtain ⟨w35, hq35⟩ : ∃ x : Nat, ∀ _ : Unit, vx_then 8 nm34 = x := ⟨_, fun _ => rfl⟩
                    have fq35 : (8 ≠ 0 → w35 = 8) ∧ (8 = 0 → w35 = nm34) := by rw [← hq35 ()]; exact vx_then_f 8 nm34
                    have Hf35 := vq_then (I := I) (L := L) (K := K) (R := R) (n := n) (sl := sl) 8 nm34 (by omega) (by omega)
                    rw [hq35 ()] at Hf35
                    refine jv_Wp.lift (fun _ Kz => jv_Ev.c jv_i300 (pc' := 309) (S' := [.int (vl_I w35)]) jv_i299 [.int (8 : Int32), .int (vl_I nm34)] rfl rfl rfl rfl rfl rfl Hf35 rfl rfl Kz) ?_
                    refine jv_Wp.of (jv_Ev.ret jv_i300 rfl rfl) ?_
                    rw [hQ]
                    have ei : f.i = 6 := (vr_dQ D).symm.trans (congrArg Int32.toInt h9)
                    have s1 : ¬ z1 = 6 := fun z => h1 ((vr_is (L := L) 6 (by decide) ok1).mp ((h1s ()).trans z))
                    have q1 : z1 = 2 := (h1s ()).symm.trans ((vr_is (L := L) 2 (by decide) ok1).mpr (Classical.not_not.mp h10))
                    have q0 : ¬ z1 = 0 := by omega
                    have qd : ¬ (vr_T I L (76800 + 1)).det = 0 := fun z => h12 (Int32.toInt_inj.mp z)
                    have ev : w35 = vx_allowed M (vr_A I L 1024) f.i := by
                      rw [ei, vx_al6, e1, h1s ()]
                      rw [if_neg q0, if_neg (fun z => qd z.2)]; omega
                    exact ⟨_, _, by rw [← ev], rfl, rfl⟩
                  · refine jv_Wp.lift (fun _ Kz => jv_Ev.steps jv_i300 5 (pc' := 280) (l' := [(6, .int (1 : Int32)), (2, .int (0 : Int32)), (0, .ref 196), (1, .int (Int32.ofInt f.i))]) (st' := [.int (1 : Int32), .ref 196]) rfl Kz) ?_
                    refine jv_Wp.lift (fun _ Kz => jv_Ev.c jv_i300 (pc' := 283) (S' := [.int (I 205 (76800 + 1))]) jv_i271 [.ref 196, .int (1 : Int32)] rfl rfl rfl rfl (jv_cal rfl (jv_H_at (jv_rwK hW 196 12 24 (by decide))) rfl rfl) rfl (vq_sortOf 1 hW (by omega)) rfl rfl Kz) ?_
                    refine jv_Wp.cnd jv_i300 (pt := 290) (pe := 286) (p := (¬ (I 205 (76800 + 1)) = 0)) (q := (¬ (I 205 (76800 + 1)) = 0)) rfl jv_bi_ne rfl rfl Iff.rfl (fun _ => ?_) (fun hz => absurd (fun z => absurd (z.symm.trans (Classical.not_not.mp h10)) (by decide)) hz)
                    refine jv_Wp.lift (fun _ Kz => jv_Ev.steps jv_i300 1 (pc' := 292) (l' := [(6, .int (1 : Int32)), (2, .int (0 : Int32)), (0, .ref 196), (1, .int (Int32.ofInt f.i))]) (st' := [.int (1 : Int32)]) rfl Kz) ?_
                    refine jv_Wp.lift (fun _ Kz => jv_Ev.br jv_i300 (pc' := 295) (st' := []) rfl (by rfl) Kz) ?_
                    refine jv_Wp.lift (fun _ Kz => jv_Ev.steps jv_i300 4 (pc' := 303) (l' := [(6, .int (1 : Int32)), (2, .int (0 : Int32)), (0, .ref 196), (1, .int (Int32.ofInt f.i))]) (st' := [.int (2 : Int32), .ref 196, .int (0 : Int32)]) rfl Kz) ?_
                    obtain ⟨nm36, hnm36⟩ : ∃ x : Nat, ∀ _ : Unit, vr_nm (I 205 (76800 + 2)) = x := ⟨_, fun _ => rfl⟩
                    have lnm36 := vr_nm_T (L := L) (k := 2) (oa 2 (by decide)) (by decide)
                    rw [hnm36 ()] at lnm36
                    have Hn36 := vq_isNumber (I := I) (L := L) (K := K) (R := R) (n := n) (sl := sl) 2 hW (by decide)
                    rw [hnm36 ()] at Hn36
                    refine jv_Wp.lift (fun _ Kz => jv_Ev.c jv_i300 (pc' := 306) (S' := [.int (vl_I nm36), .int (0 : Int32)]) jv_i298 [.ref 196, .int (2 : Int32)] rfl rfl rfl rfl (jv_cal rfl (jv_H_at (jv_rwK hW 196 12 24 (by decide))) rfl rfl) rfl Hn36 rfl rfl Kz) ?_
                    obtain ⟨w37, hq37⟩ : ∃ x : Nat, ∀ _ : Unit, vx_then 0 nm36 = x := ⟨_, fun _ => rfl⟩
                    have fq37 : (0 ≠ 0 → w37 = 0) ∧ (0 = 0 → w37 = nm36) := by rw [← hq37 ()]; exact vx_then_f 0 nm36
                    have Hf37 := vq_then (I := I) (L := L) (K := K) (R := R) (n := n) (sl := sl) 0 nm36 (by omega) (by omega)
                    rw [hq37 ()] at Hf37
                    refine jv_Wp.lift (fun _ Kz => jv_Ev.c jv_i300 (pc' := 309) (S' := [.int (vl_I w37)]) jv_i299 [.int (0 : Int32), .int (vl_I nm36)] rfl rfl rfl rfl rfl rfl Hf37 rfl rfl Kz) ?_
                    refine jv_Wp.of (jv_Ev.ret jv_i300 rfl rfl) ?_
                    rw [hQ]
                    have ei : f.i = 6 := (vr_dQ D).symm.trans (congrArg Int32.toInt h9)
                    have s1 : ¬ z1 = 6 := fun z => h1 ((vr_is (L := L) 6 (by decide) ok1).mp ((h1s ()).trans z))
                    have q1 : z1 = 2 := (h1s ()).symm.trans ((vr_is (L := L) 2 (by decide) ok1).mpr (Classical.not_not.mp h10))
                    have q0 : ¬ z1 = 0 := by omega
                    have qd : (vr_T I L (76800 + 1)).det = 0 := by show (I 206 (76800 + 1)).toInt = 0; rw [(Classical.not_not.mp h12)]; rfl
                    have ev : w37 = vx_allowed M (vr_A I L 1024) f.i := by
                      rw [ei, vx_al6, e1, h1s ()]
                      rw [if_neg q0, if_pos ⟨q1, qd⟩, ← lnm36.1]; omega
                    exact ⟨_, _, by rw [← ev], rfl, rfl⟩
              · refine jv_Wp.lift (fun _ Kz => jv_Ev.br jv_i300 (pc' := 310) (st' := []) rfl (jv_tsw_def (fun i hi h => by match i, hi, h with 
                      | 0, _, h => exact absurd h (jv_ne_toInt (k := 1) h2) 
                      | 1, _, h => exact absurd h (jv_ne_toInt (k := 2) h3) 
                      | 2, _, h => exact absurd h (jv_ne_toInt (k := 3) h4) 
                      | 3, _, h => exact absurd h (jv_ne_toInt (k := 4) h5) 
                      | 4, _, h => exact absurd h (jv_ne_toInt (k := 5) h8) 
                      | 5, _, h => exact absurd h (jv_ne_toInt (k := 6) h9) 
                      | i + 6, hi, _ => exact absurd hi (by simp)) rfl) Kz) ?_
                refine jv_Wp.lift (fun _ Kz => jv_Ev.steps jv_i300 1 (pc' := 312) (l' := [(2, .int (0 : Int32)), (0, .ref 196), (1, .int (Int32.ofInt f.i))]) (st' := [.int (7 : Int32)]) rfl Kz) ?_
                refine jv_Wp.of (jv_Ev.ret jv_i300 rfl rfl) ?_
                rw [hQ]
                have i1 : ¬ f.i = 1 := fun z => h2 (by rw [z])
                have i2 : ¬ f.i = 2 := fun z => h3 (by rw [z])
                have i3 : ¬ f.i = 3 := fun z => h4 (by rw [z])
                have i4 : ¬ f.i = 4 := fun z => h5 (by rw [z])
                have i5 : ¬ f.i = 5 := fun z => h8 (by rw [z])
                have i6 : ¬ f.i = 6 := fun z => h9 (by rw [z])
                have ev : 7 = vx_allowed M (vr_A I L 1024) f.i := (vx_al7 (by omega)).symm
                exact ⟨_, _, by rw [← ev]; rfl, rfl, rfl⟩
  · refine jv_Wp.lift (fun _ Kz => jv_Ev.steps jv_i300 1 (pc' := 11) (l' := [(0, .ref 196), (1, .int (Int32.ofInt f.i))]) (st' := [.ref 196]) rfl Kz) ?_
    refine jv_Wp.lift (fun _ Kz => jv_Ev.m jv_i300 (pc' := 14) (st' := [.ref 206]) (G' := (jv_H K I L R)) rfl rfl (jv_m_getR (jv_rwK hW 196 12 24 (by decide)) rfl rfl (jv_rwR hW 196 14 206 (by decide))) Kz) ?_
    refine jv_Wp.lift (fun _ Kz => jv_Ev.steps jv_i300 2 (pc' := 18) (l' := [(0, .ref 196), (1, .int (Int32.ofInt f.i))]) (st' := [.int (1 : Int32), .int (1024 : Int32), .ref 206]) rfl Kz) ?_
    refine jv_Wp.lift (fun _ Kz => jv_Ev.c jv_i300 (pc' := 21) (S' := [.int (vl_I (76800 + 1)), .ref 206]) jv_i253 [.int (1024 : Int32), .int (1 : Int32)] rfl rfl rfl rfl rfl rfl (vq_thing 1024 1) rfl rfl Kz) ?_
    refine jv_Wp.lift (fun _ Kz => jv_Ev.m jv_i300 (pc' := 22) (st' := [.int (vl_I k1)]) (G' := (jv_H K I L R)) rfl rfl (jv_m_ialdv (jv_rwK hW 206 102 77100 (by decide)) rfl (vl_I_ix (by omega) (by decide)) rfl ((congrArg (I 206) (vl_I_nat (by omega))).trans (hkd1 (Or.inl (Classical.not_not.mp h1))))) Kz) ?_
    refine jv_Wp.lift (fun _ Kz => jv_Ev.steps jv_i300 3 (pc' := 28) (l' := [(2, .int (vl_I k1)), (0, .ref 196), (1, .int (Int32.ofInt f.i))]) (st' := [.int (Int32.ofInt f.i)]) rfl Kz) ?_
    refine jv_Wp.bys (q := ((Int32.ofInt f.i) = Int32.ofInt 1)) (fun h13 => ?_) (fun h13 => ?_)
    · refine jv_Wp.lift (fun _ Kz => jv_Ev.br jv_i300 (pc' := 68) (st' := []) rfl (by rw [h13]; rfl) Kz) ?_
      refine jv_Wp.lift (fun _ Kz => jv_Ev.steps jv_i300 4 (pc' := 72) (l' := [(2, .int (vl_I k1)), (0, .ref 196), (1, .int (Int32.ofInt f.i))]) (st' := [.int (2 : Int32), .int (1 : Int32), .int (1 : Int32), .ref 196]) rfl Kz) ?_
      obtain ⟨im38, him38⟩ : ∃ x : Nat, ∀ _ : Unit, vr_im M (vr_T I L (76800 + 1)) 1 2 = x := ⟨_, fun _ => rfl⟩
      have lim38 := vr_im_lt M (vr_T I L (76800 + 1)) 1 2
      rw [him38 (), h1s ()] at lim38
      have Hm38 := vq_isMap (I := I) (L := L) (K := K) (R := R) (n := n) (sl := sl) M 1 1 2 k1 hW hM (by decide) (by decide) (by decide) ok1 k18 (fun z => hkd1 (Or.inl z))
      rw [him38 ()] at Hm38
      refine jv_Wp.lift (fun _ Kz => jv_Ev.c jv_i300 (pc' := 75) (S' := [.int (vl_I im38)]) jv_i297 [.ref 196, .int (1 : Int32), .int (1 : Int32), .int (2 : Int32)] rfl rfl rfl rfl (jv_cal rfl (jv_H_at (jv_rwK hW 196 12 24 (by decide))) rfl rfl) rfl Hm38 rfl rfl Kz) ?_
      refine jv_Wp.lift (fun _ Kz => jv_Ev.steps jv_i300 3 (pc' := 78) (l' := [(2, .int (vl_I k1)), (0, .ref 196), (1, .int (Int32.ofInt f.i))]) (st' := [.ref 196, .int (2 : Int32), .ref 196, .int (vl_I im38)]) rfl Kz) ?_
      refine jv_Wp.lift (fun _ Kz => jv_Ev.m jv_i300 (pc' := 81) (st' := [.ref 200, .int (2 : Int32), .ref 196, .int (vl_I im38)]) (G' := (jv_H K I L R)) rfl rfl (jv_m_getR (jv_rwK hW 196 12 24 (by decide)) rfl rfl (jv_rwR hW 196 8 200 (by decide))) Kz) ?_
      refine jv_Wp.lift (fun _ Kz => jv_Ev.steps jv_i300 1 (pc' := 82) (l' := [(2, .int (vl_I k1)), (0, .ref 196), (1, .int (Int32.ofInt f.i))]) (st' := [.int (vl_I k1), .ref 200, .int (2 : Int32), .ref 196, .int (vl_I im38)]) rfl Kz) ?_
      refine jv_Wp.lift (fun _ Kz => jv_Ev.m jv_i300 (pc' := 83) (st' := [.int (vl_I (M.key k1)), .int (2 : Int32), .ref 196, .int (vl_I im38)]) (G' := (jv_H K I L R)) rfl rfl (jv_m_ialdv (jv_rwK hW 200 102 8 (by decide)) rfl (vl_I_ix (by omega) (by decide)) rfl ((congrArg (I 200) (vl_I_nat (by omega))).trans (hM k1 k18).2.1)) Kz) ?_
      refine jv_Wp.lift (fun _ Kz => jv_Ev.steps jv_i300 1 (pc' := 84) (l' := [(2, .int (vl_I k1)), (0, .ref 196), (1, .int (Int32.ofInt f.i))]) (st' := [.long (vl_I (M.key k1)).toInt64, .int (2 : Int32), .ref 196, .int (vl_I im38)]) rfl Kz) ?_
      obtain ⟨t39, Ht39, lt39, Tt39⟩ := vq_tells (I := I) (L := L) (n := n) (sl := sl) M 2 k2 (vl_I (M.key k1)).toInt64 hW hM oa hj (by decide) k28 hkd2
      refine jv_Wp.lift (fun _ Kz => jv_Ev.c jv_i300 (pc' := 87) (S' := [.int (vl_I t39), .int (vl_I im38)]) jv_i296 [.ref 196, .int (2 : Int32), .long (vl_I (M.key k1)).toInt64] rfl rfl rfl rfl (jv_cal rfl (jv_H_at (jv_rwK hW 196 12 24 (by decide))) rfl rfl) rfl Ht39 rfl rfl Kz) ?_
      obtain ⟨w40, hq40⟩ : ∃ x : Nat, ∀ _ : Unit, vx_then im38 t39 = x := ⟨_, fun _ => rfl⟩
      have fq40 : (im38 ≠ 0 → w40 = im38) ∧ (im38 = 0 → w40 = t39) := by rw [← hq40 ()]; exact vx_then_f im38 t39
      have Hf40 := vq_then (I := I) (L := L) (K := K) (R := R) (n := n) (sl := sl) im38 t39 (by omega) (by omega)
      rw [hq40 ()] at Hf40
      refine jv_Wp.lift (fun _ Kz => jv_Ev.c jv_i300 (pc' := 90) (S' := [.int (vl_I w40)]) jv_i299 [.int (vl_I im38), .int (vl_I t39)] rfl rfl rfl rfl rfl rfl Hf40 rfl rfl Kz) ?_
      refine jv_Wp.of (jv_Ev.ret jv_i300 rfl rfl) ?_
      rw [hQ]
      have ei : f.i = 1 := (vr_dQ D).symm.trans (congrArg Int32.toInt h13)
      have s1 : I 205 (76800 + 1) = 6 := (Classical.not_not.mp h1)
      have d1 : (vr_T I L (76800 + 1)).det = (k1 : Int) := by show (I 206 (76800 + 1)).toInt = _; rw [hkd1 (Or.inl s1)]; exact vl_I_int (by omega)
      have em := (vr_im_map M (vr_A I L 1024) (fun z => by rw [e1] at z ⊢; rw [d1]; exact (hM k1 k18).2.2.2.1)).1
      rw [e1, him38 ()] at em
      have ev : w40 = vx_allowed M (vr_A I L 1024) f.i := by
        rw [ei, vx_al1, em, e1, d1]
        exact vx_thn (fun z => by omega) (fun _ => (show w40 = t39 by omega).trans (by have q := Tt39 (by rw [(show ((vl_I (M.key k1)).toInt64).toInt = ((M.key k1) : Int) from (Int32.toInt_toInt64 _).trans (vl_I_int (by have := (hM k1 k18).2.2.2.2; omega)))]; omega) (by rw [(show ((vl_I (M.key k1)).toInt64).toInt = ((M.key k1) : Int) from (Int32.toInt_toInt64 _).trans (vl_I_int (by have := (hM k1 k18).2.2.2.2; omega)))]; have := (hM k1 k18).2.2.2.2; omega); rw [(show ((vl_I (M.key k1)).toInt64).toInt = ((M.key k1) : Int) from (Int32.toInt_toInt64 _).trans (vl_I_int (by have := (hM k1 k18).2.2.2.2; omega))), Int.toNat_natCast] at q; exact q))
      exact ⟨_, _, by rw [← ev], rfl, rfl⟩
    · refine jv_Wp.bys (q := ((Int32.ofInt f.i) = Int32.ofInt 2)) (fun h14 => ?_) (fun h14 => ?_)
      · refine jv_Wp.lift (fun _ Kz => jv_Ev.br jv_i300 (pc' := 91) (st' := []) rfl (by rw [h14]; rfl) Kz) ?_
        refine jv_Wp.lift (fun _ Kz => jv_Ev.steps jv_i300 4 (pc' := 95) (l' := [(2, .int (vl_I k1)), (0, .ref 196), (1, .int (Int32.ofInt f.i))]) (st' := [.int (2 : Int32), .int (1 : Int32), .int (1 : Int32), .ref 196]) rfl Kz) ?_
        obtain ⟨im41, him41⟩ : ∃ x : Nat, ∀ _ : Unit, vr_im M (vr_T I L (76800 + 1)) 1 2 = x := ⟨_, fun _ => rfl⟩
        have lim41 := vr_im_lt M (vr_T I L (76800 + 1)) 1 2
        rw [him41 (), h1s ()] at lim41
        have Hm41 := vq_isMap (I := I) (L := L) (K := K) (R := R) (n := n) (sl := sl) M 1 1 2 k1 hW hM (by decide) (by decide) (by decide) ok1 k18 (fun z => hkd1 (Or.inl z))
        rw [him41 ()] at Hm41
        refine jv_Wp.lift (fun _ Kz => jv_Ev.c jv_i300 (pc' := 98) (S' := [.int (vl_I im41)]) jv_i297 [.ref 196, .int (1 : Int32), .int (1 : Int32), .int (2 : Int32)] rfl rfl rfl rfl (jv_cal rfl (jv_H_at (jv_rwK hW 196 12 24 (by decide))) rfl rfl) rfl Hm41 rfl rfl Kz) ?_
        refine jv_Wp.lift (fun _ Kz => jv_Ev.steps jv_i300 3 (pc' := 101) (l' := [(2, .int (vl_I k1)), (0, .ref 196), (1, .int (Int32.ofInt f.i))]) (st' := [.ref 196, .int (2 : Int32), .ref 196, .int (vl_I im41)]) rfl Kz) ?_
        refine jv_Wp.lift (fun _ Kz => jv_Ev.m jv_i300 (pc' := 104) (st' := [.ref 200, .int (2 : Int32), .ref 196, .int (vl_I im41)]) (G' := (jv_H K I L R)) rfl rfl (jv_m_getR (jv_rwK hW 196 12 24 (by decide)) rfl rfl (jv_rwR hW 196 8 200 (by decide))) Kz) ?_
        refine jv_Wp.lift (fun _ Kz => jv_Ev.steps jv_i300 1 (pc' := 105) (l' := [(2, .int (vl_I k1)), (0, .ref 196), (1, .int (Int32.ofInt f.i))]) (st' := [.int (vl_I k1), .ref 200, .int (2 : Int32), .ref 196, .int (vl_I im41)]) rfl Kz) ?_
        refine jv_Wp.lift (fun _ Kz => jv_Ev.m jv_i300 (pc' := 106) (st' := [.int (vl_I (M.key k1)), .int (2 : Int32), .ref 196, .int (vl_I im41)]) (G' := (jv_H K I L R)) rfl rfl (jv_m_ialdv (jv_rwK hW 200 102 8 (by decide)) rfl (vl_I_ix (by omega) (by decide)) rfl ((congrArg (I 200) (vl_I_nat (by omega))).trans (hM k1 k18).2.1)) Kz) ?_
        refine jv_Wp.lift (fun _ Kz => jv_Ev.steps jv_i300 1 (pc' := 107) (l' := [(2, .int (vl_I k1)), (0, .ref 196), (1, .int (Int32.ofInt f.i))]) (st' := [.long (vl_I (M.key k1)).toInt64, .int (2 : Int32), .ref 196, .int (vl_I im41)]) rfl Kz) ?_
        obtain ⟨t42, Ht42, lt42, Tt42⟩ := vq_tells (I := I) (L := L) (n := n) (sl := sl) M 2 k2 (vl_I (M.key k1)).toInt64 hW hM oa hj (by decide) k28 hkd2
        refine jv_Wp.lift (fun _ Kz => jv_Ev.c jv_i300 (pc' := 110) (S' := [.int (vl_I t42), .int (vl_I im41)]) jv_i296 [.ref 196, .int (2 : Int32), .long (vl_I (M.key k1)).toInt64] rfl rfl rfl rfl (jv_cal rfl (jv_H_at (jv_rwK hW 196 12 24 (by decide))) rfl rfl) rfl Ht42 rfl rfl Kz) ?_
        refine jv_Wp.lift (fun _ Kz => jv_Ev.steps jv_i300 3 (pc' := 113) (l' := [(2, .int (vl_I k1)), (0, .ref 196), (1, .int (Int32.ofInt f.i))]) (st' := [.ref 196, .int (3 : Int32), .ref 196, .int (vl_I t42), .int (vl_I im41)]) rfl Kz) ?_
        refine jv_Wp.lift (fun _ Kz => jv_Ev.m jv_i300 (pc' := 116) (st' := [.ref 201, .int (3 : Int32), .ref 196, .int (vl_I t42), .int (vl_I im41)]) (G' := (jv_H K I L R)) rfl rfl (jv_m_getR (jv_rwK hW 196 12 24 (by decide)) rfl rfl (jv_rwR hW 196 9 201 (by decide))) Kz) ?_
        refine jv_Wp.lift (fun _ Kz => jv_Ev.steps jv_i300 1 (pc' := 117) (l' := [(2, .int (vl_I k1)), (0, .ref 196), (1, .int (Int32.ofInt f.i))]) (st' := [.int (vl_I k1), .ref 201, .int (3 : Int32), .ref 196, .int (vl_I t42), .int (vl_I im41)]) rfl Kz) ?_
        refine jv_Wp.lift (fun _ Kz => jv_Ev.m jv_i300 (pc' := 118) (st' := [.int (vl_I (M.value k1)), .int (3 : Int32), .ref 196, .int (vl_I t42), .int (vl_I im41)]) (G' := (jv_H K I L R)) rfl rfl (jv_m_ialdv (jv_rwK hW 201 102 8 (by decide)) rfl (vl_I_ix (by omega) (by decide)) rfl ((congrArg (I 201) (vl_I_nat (by omega))).trans (hM k1 k18).2.2.1)) Kz) ?_
        refine jv_Wp.lift (fun _ Kz => jv_Ev.steps jv_i300 1 (pc' := 119) (l' := [(2, .int (vl_I k1)), (0, .ref 196), (1, .int (Int32.ofInt f.i))]) (st' := [.long (vl_I (M.value k1)).toInt64, .int (3 : Int32), .ref 196, .int (vl_I t42), .int (vl_I im41)]) rfl Kz) ?_
        obtain ⟨t43, Ht43, lt43, Tt43⟩ := vq_tells (I := I) (L := L) (n := n) (sl := sl) M 3 k3 (vl_I (M.value k1)).toInt64 hW hM oa hj (by decide) k38 hkd3
        refine jv_Wp.lift (fun _ Kz => jv_Ev.c jv_i300 (pc' := 122) (S' := [.int (vl_I t43), .int (vl_I t42), .int (vl_I im41)]) jv_i296 [.ref 196, .int (3 : Int32), .long (vl_I (M.value k1)).toInt64] rfl rfl rfl rfl (jv_cal rfl (jv_H_at (jv_rwK hW 196 12 24 (by decide))) rfl rfl) rfl Ht43 rfl rfl Kz) ?_
        refine jv_Wp.lift (fun _ Kz => jv_Ev.steps jv_i300 2 (pc' := 124) (l' := [(2, .int (vl_I k1)), (0, .ref 196), (1, .int (Int32.ofInt f.i))]) (st' := [.int (4 : Int32), .ref 196, .int (vl_I t43), .int (vl_I t42), .int (vl_I im41)]) rfl Kz) ?_
        obtain ⟨nm44, hnm44⟩ : ∃ x : Nat, ∀ _ : Unit, vr_nm (I 205 (76800 + 4)) = x := ⟨_, fun _ => rfl⟩
        have lnm44 := vr_nm_T (L := L) (k := 4) (oa 4 (by decide)) (by decide)
        rw [hnm44 ()] at lnm44
        have Hn44 := vq_isNumber (I := I) (L := L) (K := K) (R := R) (n := n) (sl := sl) 4 hW (by decide)
        rw [hnm44 ()] at Hn44
        refine jv_Wp.lift (fun _ Kz => jv_Ev.c jv_i300 (pc' := 127) (S' := [.int (vl_I nm44), .int (vl_I t43), .int (vl_I t42), .int (vl_I im41)]) jv_i298 [.ref 196, .int (4 : Int32)] rfl rfl rfl rfl (jv_cal rfl (jv_H_at (jv_rwK hW 196 12 24 (by decide))) rfl rfl) rfl Hn44 rfl rfl Kz) ?_
        obtain ⟨w45, hq45⟩ : ∃ x : Nat, ∀ _ : Unit, vx_then t43 nm44 = x := ⟨_, fun _ => rfl⟩
        have fq45 : (t43 ≠ 0 → w45 = t43) ∧ (t43 = 0 → w45 = nm44) := by rw [← hq45 ()]; exact vx_then_f t43 nm44
        have Hf45 := vq_then (I := I) (L := L) (K := K) (R := R) (n := n) (sl := sl) t43 nm44 (by omega) (by omega)
        rw [hq45 ()] at Hf45
        refine jv_Wp.lift (fun _ Kz => jv_Ev.c jv_i300 (pc' := 130) (S' := [.int (vl_I w45), .int (vl_I t42), .int (vl_I im41)]) jv_i299 [.int (vl_I t43), .int (vl_I nm44)] rfl rfl rfl rfl rfl rfl Hf45 rfl rfl Kz) ?_
        obtain ⟨w46, hq46⟩ : ∃ x : Nat, ∀ _ : Unit, vx_then t42 w45 = x := ⟨_, fun _ => rfl⟩
        have fq46 : (t42 ≠ 0 → w46 = t42) ∧ (t42 = 0 → w46 = w45) := by rw [← hq46 ()]; exact vx_then_f t42 w45
        have Hf46 := vq_then (I := I) (L := L) (K := K) (R := R) (n := n) (sl := sl) t42 w45 (by omega) (by omega)
        rw [hq46 ()] at Hf46
        refine jv_Wp.lift (fun _ Kz => jv_Ev.c jv_i300 (pc' := 133) (S' := [.int (vl_I w46), .int (vl_I im41)]) jv_i299 [.int (vl_I t42), .int (vl_I w45)] rfl rfl rfl rfl rfl rfl Hf46 rfl rfl Kz) ?_
        obtain ⟨w47, hq47⟩ : ∃ x : Nat, ∀ _ : Unit, vx_then im41 w46 = x := ⟨_, fun _ => rfl⟩
        have fq47 : (im41 ≠ 0 → w47 = im41) ∧ (im41 = 0 → w47 = w46) := by rw [← hq47 ()]; exact vx_then_f im41 w46
        have Hf47 := vq_then (I := I) (L := L) (K := K) (R := R) (n := n) (sl := sl) im41 w46 (by omega) (by omega)
        rw [hq47 ()] at Hf47
        refine jv_Wp.lift (fun _ Kz => jv_Ev.c jv_i300 (pc' := 136) (S' := [.int (vl_I w47)]) jv_i299 [.int (vl_I im41), .int (vl_I w46)] rfl rfl rfl rfl rfl rfl Hf47 rfl rfl Kz) ?_
        refine jv_Wp.of (jv_Ev.ret jv_i300 rfl rfl) ?_
        rw [hQ]
        have ei : f.i = 2 := (vr_dQ D).symm.trans (congrArg Int32.toInt h14)
        have s1 : I 205 (76800 + 1) = 6 := (Classical.not_not.mp h1)
        have d1 : (vr_T I L (76800 + 1)).det = (k1 : Int) := by show (I 206 (76800 + 1)).toInt = _; rw [hkd1 (Or.inl s1)]; exact vl_I_int (by omega)
        have em := (vr_im_map M (vr_A I L 1024) (fun z => by rw [e1] at z ⊢; rw [d1]; exact (hM k1 k18).2.2.2.1)).2.1
        rw [e1, him41 ()] at em
        have T2e : t42 = vx_tells M (vr_A I L 1024) 2 (M.key k1) := by have q := Tt42 (by rw [(show ((vl_I (M.key k1)).toInt64).toInt = ((M.key k1) : Int) from (Int32.toInt_toInt64 _).trans (vl_I_int (by have := (hM k1 k18).2.2.2.2; omega)))]; omega) (by rw [(show ((vl_I (M.key k1)).toInt64).toInt = ((M.key k1) : Int) from (Int32.toInt_toInt64 _).trans (vl_I_int (by have := (hM k1 k18).2.2.2.2; omega)))]; have := (hM k1 k18).2.2.2.2; omega); rw [(show ((vl_I (M.key k1)).toInt64).toInt = ((M.key k1) : Int) from (Int32.toInt_toInt64 _).trans (vl_I_int (by have := (hM k1 k18).2.2.2.2; omega))), Int.toNat_natCast] at q; exact q
        have T3e : t43 = vx_tells M (vr_A I L 1024) 3 (M.value k1) := by have q := Tt43 (by rw [(show ((vl_I (M.value k1)).toInt64).toInt = ((M.value k1) : Int) from (Int32.toInt_toInt64 _).trans (vl_I_int (by have := (hM k1 k18).2.2.2.2; omega)))]; omega) (by rw [(show ((vl_I (M.value k1)).toInt64).toInt = ((M.value k1) : Int) from (Int32.toInt_toInt64 _).trans (vl_I_int (by have := (hM k1 k18).2.2.2.2; omega)))]; have := (hM k1 k18).2.2.2.2; omega); rw [(show ((vl_I (M.value k1)).toInt64).toInt = ((M.value k1) : Int) from (Int32.toInt_toInt64 _).trans (vl_I_int (by have := (hM k1 k18).2.2.2.2; omega))), Int.toNat_natCast] at q; exact q
        have ev : w47 = vx_allowed M (vr_A I L 1024) f.i := by
          rw [ei, vx_al2, em, e1, d1]
          exact vx_thn (fun z => by omega) (fun _ => by rw [← T2e, ← T3e, ← lnm44.1]; exact vx_thn (fun z => by omega) (fun z => vx_thn (fun z => by omega) (fun z => by omega)))
        exact ⟨_, _, by rw [← ev], rfl, rfl⟩
      · refine jv_Wp.bys (q := ((Int32.ofInt f.i) = Int32.ofInt 3)) (fun h15 => ?_) (fun h15 => ?_)
        · refine jv_Wp.lift (fun _ Kz => jv_Ev.br jv_i300 (pc' := 137) (st' := []) rfl (by rw [h15]; rfl) Kz) ?_
          refine jv_Wp.lift (fun _ Kz => jv_Ev.steps jv_i300 4 (pc' := 141) (l' := [(2, .int (vl_I k1)), (0, .ref 196), (1, .int (Int32.ofInt f.i))]) (st' := [.int (2 : Int32), .int (2 : Int32), .int (1 : Int32), .ref 196]) rfl Kz) ?_
          obtain ⟨im48, him48⟩ : ∃ x : Nat, ∀ _ : Unit, vr_im M (vr_T I L (76800 + 1)) 2 2 = x := ⟨_, fun _ => rfl⟩
          have lim48 := vr_im_lt M (vr_T I L (76800 + 1)) 2 2
          rw [him48 (), h1s ()] at lim48
          have Hm48 := vq_isMap (I := I) (L := L) (K := K) (R := R) (n := n) (sl := sl) M 1 2 2 k1 hW hM (by decide) (by decide) (by decide) ok1 k18 (fun z => hkd1 (Or.inl z))
          rw [him48 ()] at Hm48
          refine jv_Wp.lift (fun _ Kz => jv_Ev.c jv_i300 (pc' := 144) (S' := [.int (vl_I im48)]) jv_i297 [.ref 196, .int (1 : Int32), .int (2 : Int32), .int (2 : Int32)] rfl rfl rfl rfl (jv_cal rfl (jv_H_at (jv_rwK hW 196 12 24 (by decide))) rfl rfl) rfl Hm48 rfl rfl Kz) ?_
          refine jv_Wp.lift (fun _ Kz => jv_Ev.steps jv_i300 3 (pc' := 147) (l' := [(2, .int (vl_I k1)), (0, .ref 196), (1, .int (Int32.ofInt f.i))]) (st' := [.ref 196, .int (2 : Int32), .ref 196, .int (vl_I im48)]) rfl Kz) ?_
          refine jv_Wp.lift (fun _ Kz => jv_Ev.m jv_i300 (pc' := 150) (st' := [.ref 200, .int (2 : Int32), .ref 196, .int (vl_I im48)]) (G' := (jv_H K I L R)) rfl rfl (jv_m_getR (jv_rwK hW 196 12 24 (by decide)) rfl rfl (jv_rwR hW 196 8 200 (by decide))) Kz) ?_
          refine jv_Wp.lift (fun _ Kz => jv_Ev.steps jv_i300 1 (pc' := 151) (l' := [(2, .int (vl_I k1)), (0, .ref 196), (1, .int (Int32.ofInt f.i))]) (st' := [.int (vl_I k1), .ref 200, .int (2 : Int32), .ref 196, .int (vl_I im48)]) rfl Kz) ?_
          refine jv_Wp.lift (fun _ Kz => jv_Ev.m jv_i300 (pc' := 152) (st' := [.int (vl_I (M.key k1)), .int (2 : Int32), .ref 196, .int (vl_I im48)]) (G' := (jv_H K I L R)) rfl rfl (jv_m_ialdv (jv_rwK hW 200 102 8 (by decide)) rfl (vl_I_ix (by omega) (by decide)) rfl ((congrArg (I 200) (vl_I_nat (by omega))).trans (hM k1 k18).2.1)) Kz) ?_
          refine jv_Wp.lift (fun _ Kz => jv_Ev.steps jv_i300 1 (pc' := 153) (l' := [(2, .int (vl_I k1)), (0, .ref 196), (1, .int (Int32.ofInt f.i))]) (st' := [.long (vl_I (M.key k1)).toInt64, .int (2 : Int32), .ref 196, .int (vl_I im48)]) rfl Kz) ?_
          obtain ⟨t49, Ht49, lt49, Tt49⟩ := vq_tells (I := I) (L := L) (n := n) (sl := sl) M 2 k2 (vl_I (M.key k1)).toInt64 hW hM oa hj (by decide) k28 hkd2
          refine jv_Wp.lift (fun _ Kz => jv_Ev.c jv_i300 (pc' := 156) (S' := [.int (vl_I t49), .int (vl_I im48)]) jv_i296 [.ref 196, .int (2 : Int32), .long (vl_I (M.key k1)).toInt64] rfl rfl rfl rfl (jv_cal rfl (jv_H_at (jv_rwK hW 196 12 24 (by decide))) rfl rfl) rfl Ht49 rfl rfl Kz) ?_
          obtain ⟨w50, hq50⟩ : ∃ x : Nat, ∀ _ : Unit, vx_then im48 t49 = x := ⟨_, fun _ => rfl⟩
          have fq50 : (im48 ≠ 0 → w50 = im48) ∧ (im48 = 0 → w50 = t49) := by rw [← hq50 ()]; exact vx_then_f im48 t49
          have Hf50 := vq_then (I := I) (L := L) (K := K) (R := R) (n := n) (sl := sl) im48 t49 (by omega) (by omega)
          rw [hq50 ()] at Hf50
          refine jv_Wp.lift (fun _ Kz => jv_Ev.c jv_i300 (pc' := 159) (S' := [.int (vl_I w50)]) jv_i299 [.int (vl_I im48), .int (vl_I t49)] rfl rfl rfl rfl rfl rfl Hf50 rfl rfl Kz) ?_
          refine jv_Wp.of (jv_Ev.ret jv_i300 rfl rfl) ?_
          rw [hQ]
          have ei : f.i = 3 := (vr_dQ D).symm.trans (congrArg Int32.toInt h15)
          have s1 : I 205 (76800 + 1) = 6 := (Classical.not_not.mp h1)
          have d1 : (vr_T I L (76800 + 1)).det = (k1 : Int) := by show (I 206 (76800 + 1)).toInt = _; rw [hkd1 (Or.inl s1)]; exact vl_I_int (by omega)
          have em := (vr_im_map M (vr_A I L 1024) (fun z => by rw [e1] at z ⊢; rw [d1]; exact (hM k1 k18).2.2.2.1)).2.2.1
          rw [e1, him48 ()] at em
          have ev : w50 = vx_allowed M (vr_A I L 1024) f.i := by
            rw [ei, vx_al3, em, e1, d1]
            exact vx_thn (fun z => by omega) (fun _ => (show w50 = t49 by omega).trans (by have q := Tt49 (by rw [(show ((vl_I (M.key k1)).toInt64).toInt = ((M.key k1) : Int) from (Int32.toInt_toInt64 _).trans (vl_I_int (by have := (hM k1 k18).2.2.2.2; omega)))]; omega) (by rw [(show ((vl_I (M.key k1)).toInt64).toInt = ((M.key k1) : Int) from (Int32.toInt_toInt64 _).trans (vl_I_int (by have := (hM k1 k18).2.2.2.2; omega)))]; have := (hM k1 k18).2.2.2.2; omega); rw [(show ((vl_I (M.key k1)).toInt64).toInt = ((M.key k1) : Int) from (Int32.toInt_toInt64 _).trans (vl_I_int (by have := (hM k1 k18).2.2.2.2; omega))), Int.toNat_natCast] at q; exact q))
          exact ⟨_, _, by rw [← ev], rfl, rfl⟩
        · refine jv_Wp.bys (q := ((Int32.ofInt f.i) = Int32.ofInt 4)) (fun h16 => ?_) (fun h16 => ?_)
          · refine jv_Wp.lift (fun _ Kz => jv_Ev.br jv_i300 (pc' := 160) (st' := []) rfl (by rw [h16]; rfl) Kz) ?_
            refine jv_Wp.lift (fun _ Kz => jv_Ev.steps jv_i300 2 (pc' := 162) (l' := [(2, .int (vl_I k1)), (0, .ref 196), (1, .int (Int32.ofInt f.i))]) (st' := [.int (3 : Int32), .ref 196]) rfl Kz) ?_
            obtain ⟨nm51, hnm51⟩ : ∃ x : Nat, ∀ _ : Unit, vr_nm (I 205 (76800 + 3)) = x := ⟨_, fun _ => rfl⟩
            have lnm51 := vr_nm_T (L := L) (k := 3) (oa 3 (by decide)) (by decide)
            rw [hnm51 ()] at lnm51
            have Hn51 := vq_isNumber (I := I) (L := L) (K := K) (R := R) (n := n) (sl := sl) 3 hW (by decide)
            rw [hnm51 ()] at Hn51
            refine jv_Wp.lift (fun _ Kz => jv_Ev.c jv_i300 (pc' := 165) (S' := [.int (vl_I nm51)]) jv_i298 [.ref 196, .int (3 : Int32)] rfl rfl rfl rfl (jv_cal rfl (jv_H_at (jv_rwK hW 196 12 24 (by decide))) rfl rfl) rfl Hn51 rfl rfl Kz) ?_
            refine jv_Wp.lift (fun _ Kz => jv_Ev.steps jv_i300 2 (pc' := 167) (l' := [(3, .int (vl_I nm51)), (2, .int (vl_I k1)), (0, .ref 196), (1, .int (Int32.ofInt f.i))]) (st' := [.ref 196]) rfl Kz) ?_
            refine jv_Wp.lift (fun _ Kz => jv_Ev.m jv_i300 (pc' := 170) (st' := [.ref 208]) (G' := (jv_H K I L R)) rfl rfl (jv_m_getR (jv_rwK hW 196 12 24 (by decide)) rfl rfl (jv_rwR hW 196 16 208 (by decide))) Kz) ?_
            refine jv_Wp.lift (fun _ Kz => jv_Ev.m jv_i300 (pc' := 173) (st' := [.ref 214]) (G' := (jv_H K I L R)) rfl rfl (jv_m_getR (jv_rwK hW 208 11 7 (by decide)) rfl rfl (jv_rwR hW 208 5 214 (by decide))) Kz) ?_
            refine jv_Wp.lift (fun _ Kz => jv_Ev.steps jv_i300 2 (pc' := 177) (l' := [(3, .int (vl_I nm51)), (2, .int (vl_I k1)), (0, .ref 196), (1, .int (Int32.ofInt f.i))]) (st' := [.int (3 : Int32), .int (1024 : Int32), .ref 214]) rfl Kz) ?_
            refine jv_Wp.lift (fun _ Kz => jv_Ev.c jv_i300 (pc' := 180) (S' := [.int (vl_I (8 + (76800 + 3))), .ref 214]) jv_i254 [.int (1024 : Int32), .int (3 : Int32)] rfl rfl rfl rfl rfl rfl (vq_row 1024 3) rfl rfl Kz) ?_
            refine jv_Wp.lift (fun _ Kz => jv_Ev.m jv_i300 (pc' := 181) (st' := [.long (L 214 (8 + (76800 + 3)))]) (G' := (jv_H K I L R)) rfl rfl (jv_m_laldv (jv_rwK hW 214 103 77200 (by decide)) rfl (vl_I_ix (by omega) (by decide)) rfl ((congrArg (L 214) (vl_I_nat (by omega))).trans rfl)) Kz) ?_
            refine jv_Wp.lift (fun _ Kz => jv_Ev.steps jv_i300 3 (pc' := 185) (l' := [(4, .long (L 214 (8 + (76800 + 3)))), (3, .int (vl_I nm51)), (2, .int (vl_I k1)), (0, .ref 196), (1, .int (Int32.ofInt f.i))]) (st' := [.ref 196, .int (vl_I nm51)]) rfl Kz) ?_
            refine jv_Wp.lift (fun _ Kz => jv_Ev.m jv_i300 (pc' := 188) (st' := [.ref 208, .int (vl_I nm51)]) (G' := (jv_H K I L R)) rfl rfl (jv_m_getR (jv_rwK hW 196 12 24 (by decide)) rfl rfl (jv_rwR hW 196 16 208 (by decide))) Kz) ?_
            refine jv_Wp.lift (fun _ Kz => jv_Ev.m jv_i300 (pc' := 191) (st' := [.ref 213, .int (vl_I nm51)]) (G' := (jv_H K I L R)) rfl rfl (jv_m_getR (jv_rwK hW 208 11 7 (by decide)) rfl rfl (jv_rwR hW 208 4 213 (by decide))) Kz) ?_
            refine jv_Wp.lift (fun _ Kz => jv_Ev.steps jv_i300 2 (pc' := 195) (l' := [(4, .long (L 214 (8 + (76800 + 3)))), (3, .int (vl_I nm51)), (2, .int (vl_I k1)), (0, .ref 196), (1, .int (Int32.ofInt f.i))]) (st' := [.int (3 : Int32), .int (1024 : Int32), .ref 213, .int (vl_I nm51)]) rfl Kz) ?_
            refine jv_Wp.lift (fun _ Kz => jv_Ev.c jv_i300 (pc' := 198) (S' := [.int (vl_I (8 + (76800 + 3))), .ref 213, .int (vl_I nm51)]) jv_i254 [.int (1024 : Int32), .int (3 : Int32)] rfl rfl rfl rfl rfl rfl (vq_row 1024 3) rfl rfl Kz) ?_
            refine jv_Wp.lift (fun _ Kz => jv_Ev.m jv_i300 (pc' := 199) (st' := [.long (L 213 (8 + (76800 + 3))), .int (vl_I nm51)]) (G' := (jv_H K I L R)) rfl rfl (jv_m_laldv (jv_rwK hW 213 103 77200 (by decide)) rfl (vl_I_ix (by omega) (by decide)) rfl ((congrArg (L 213) (vl_I_nat (by omega))).trans rfl)) Kz) ?_
            refine jv_Wp.lift (fun _ Kz => jv_Ev.steps jv_i300 2 (pc' := 201) (l' := [(4, .long (L 214 (8 + (76800 + 3)))), (3, .int (vl_I nm51)), (2, .int (vl_I k1)), (0, .ref 196), (1, .int (Int32.ofInt f.i))]) (st' := [.int (lg_cmp (L 213 (8 + (76800 + 3))) (1 : Int64)), .int (vl_I nm51)]) rfl Kz) ?_
            refine jv_Wp.cnd jv_i300 (pt := 217) (pe := 204) (p := ((lg_cmp (L 213 (8 + (76800 + 3))) (1 : Int64)) < 0)) (q := ((L 213 (8 + (76800 + 3))) < (1 : Int64))) rfl jv_bi_lt rfl rfl (lg_cmp_lt (L 213 (8 + (76800 + 3))) (1 : Int64)) (fun h17 => ?_) (fun h17 => ?_)
            · refine jv_Wp.lift (fun _ Kz => jv_Ev.steps jv_i300 1 (pc' := 219) (l' := [(4, .long (L 214 (8 + (76800 + 3)))), (3, .int (vl_I nm51)), (2, .int (vl_I k1)), (0, .ref 196), (1, .int (Int32.ofInt f.i))]) (st' := [.int (8 : Int32), .int (vl_I nm51)]) rfl Kz) ?_
              obtain ⟨w52, hq52⟩ : ∃ x : Nat, ∀ _ : Unit, vx_then nm51 8 = x := ⟨_, fun _ => rfl⟩
              have fq52 : (nm51 ≠ 0 → w52 = nm51) ∧ (nm51 = 0 → w52 = 8) := by rw [← hq52 ()]; exact vx_then_f nm51 8
              have Hf52 := vq_then (I := I) (L := L) (K := K) (R := R) (n := n) (sl := sl) nm51 8 (by omega) (by omega)
              rw [hq52 ()] at Hf52
              refine jv_Wp.lift (fun _ Kz => jv_Ev.c jv_i300 (pc' := 222) (S' := [.int (vl_I w52)]) jv_i299 [.int (vl_I nm51), .int (8 : Int32)] rfl rfl rfl rfl rfl rfl Hf52 rfl rfl Kz) ?_
              refine jv_Wp.lift (fun _ Kz => jv_Ev.steps jv_i300 5 (pc' := 227) (l' := [(3, .int (vl_I w52)), (4, .long (L 214 (8 + (76800 + 3)))), (2, .int (vl_I k1)), (0, .ref 196), (1, .int (Int32.ofInt f.i))]) (st' := [.int (3 : Int32), .int (3 : Int32), .int (1 : Int32), .ref 196]) rfl Kz) ?_
              obtain ⟨im53, him53⟩ : ∃ x : Nat, ∀ _ : Unit, vr_im M (vr_T I L (76800 + 1)) 3 3 = x := ⟨_, fun _ => rfl⟩
              have lim53 := vr_im_lt M (vr_T I L (76800 + 1)) 3 3
              rw [him53 (), h1s ()] at lim53
              have Hm53 := vq_isMap (I := I) (L := L) (K := K) (R := R) (n := n) (sl := sl) M 1 3 3 k1 hW hM (by decide) (by decide) (by decide) ok1 k18 (fun z => hkd1 (Or.inl z))
              rw [him53 ()] at Hm53
              refine jv_Wp.lift (fun _ Kz => jv_Ev.c jv_i300 (pc' := 230) (S' := [.int (vl_I im53)]) jv_i297 [.ref 196, .int (1 : Int32), .int (3 : Int32), .int (3 : Int32)] rfl rfl rfl rfl (jv_cal rfl (jv_H_at (jv_rwK hW 196 12 24 (by decide))) rfl rfl) rfl Hm53 rfl rfl Kz) ?_
              refine jv_Wp.lift (fun _ Kz => jv_Ev.steps jv_i300 4 (pc' := 235) (l' := [(3, .int (vl_I w52)), (4, .long (L 214 (8 + (76800 + 3)))), (2, .int (vl_I k1)), (0, .ref 196), (1, .int (Int32.ofInt f.i))]) (st' := [.long (L 214 (8 + (76800 + 3))), .int (2 : Int32), .ref 196, .int (vl_I w52), .int (vl_I im53)]) rfl Kz) ?_
              obtain ⟨t54, Ht54, lt54, Tt54⟩ := vq_tells (I := I) (L := L) (n := n) (sl := sl) M 2 k2 (L 214 (8 + (76800 + 3))) hW hM oa hj (by decide) k28 hkd2
              refine jv_Wp.lift (fun _ Kz => jv_Ev.c jv_i300 (pc' := 238) (S' := [.int (vl_I t54), .int (vl_I w52), .int (vl_I im53)]) jv_i296 [.ref 196, .int (2 : Int32), .long (L 214 (8 + (76800 + 3)))] rfl rfl rfl rfl (jv_cal rfl (jv_H_at (jv_rwK hW 196 12 24 (by decide))) rfl rfl) rfl Ht54 rfl rfl Kz) ?_
              obtain ⟨w55, hq55⟩ : ∃ x : Nat, ∀ _ : Unit, vx_then w52 t54 = x := ⟨_, fun _ => rfl⟩
              have fq55 : (w52 ≠ 0 → w55 = w52) ∧ (w52 = 0 → w55 = t54) := by rw [← hq55 ()]; exact vx_then_f w52 t54
              have Hf55 := vq_then (I := I) (L := L) (K := K) (R := R) (n := n) (sl := sl) w52 t54 (by omega) (by omega)
              rw [hq55 ()] at Hf55
              refine jv_Wp.lift (fun _ Kz => jv_Ev.c jv_i300 (pc' := 241) (S' := [.int (vl_I w55), .int (vl_I im53)]) jv_i299 [.int (vl_I w52), .int (vl_I t54)] rfl rfl rfl rfl rfl rfl Hf55 rfl rfl Kz) ?_
              obtain ⟨w56, hq56⟩ : ∃ x : Nat, ∀ _ : Unit, vx_then im53 w55 = x := ⟨_, fun _ => rfl⟩
              have fq56 : (im53 ≠ 0 → w56 = im53) ∧ (im53 = 0 → w56 = w55) := by rw [← hq56 ()]; exact vx_then_f im53 w55
              have Hf56 := vq_then (I := I) (L := L) (K := K) (R := R) (n := n) (sl := sl) im53 w55 (by omega) (by omega)
              rw [hq56 ()] at Hf56
              refine jv_Wp.lift (fun _ Kz => jv_Ev.c jv_i300 (pc' := 244) (S' := [.int (vl_I w56)]) jv_i299 [.int (vl_I im53), .int (vl_I w55)] rfl rfl rfl rfl rfl rfl Hf56 rfl rfl Kz) ?_
              refine jv_Wp.of (jv_Ev.ret jv_i300 rfl rfl) ?_
              rw [hQ]
              have ei : f.i = 4 := (vr_dQ D).symm.trans (congrArg Int32.toInt h16)
              have s1 : I 205 (76800 + 1) = 6 := (Classical.not_not.mp h1)
              have d1 : (vr_T I L (76800 + 1)).det = (k1 : Int) := by show (I 206 (76800 + 1)).toInt = _; rw [hkd1 (Or.inl s1)]; exact vl_I_int (by omega)
              have em := (vr_im_map M (vr_A I L 1024) (fun z => by rw [e1] at z ⊢; rw [d1]; exact (hM k1 k18).2.2.2.1)).2.2.2
              rw [e1, him53 ()] at em
              have l3 : (L 213 (8 + (76800 + 3))).toInt = (vb_toS (vr_S L (8 + (76800 + 3)))).least.toInt := rfl
              have g3 : (L 214 (8 + (76800 + 3))).toInt = (vb_toS (vr_S L (8 + (76800 + 3)))).greatest.toInt := rfl
              have l1 : (1 : Int64).toInt = 1 := rfl
              have y1 : (L 213 (8 + (76800 + 3))).toInt < (1 : Int64).toInt := Int64.lt_iff_toInt_lt.mp h17
              have vn : nm51 = 0 → ((vr_A I L 1024).1 3).val = (vb_toS (vr_S L (8 + (76800 + 3)))) ∧ (vb_toS (vr_S L (8 + (76800 + 3)))).least.toInt ≤ (vb_toS (vr_S L (8 + (76800 + 3)))).greatest.toInt := fun z => by
                have o3 : vr_ok I (76800 + 3) 3 := oa 3 (by decide)
                have s3 : ((vr_A I L 1024).1 3).sort = 1 := (vx_isnum_eq (by decide)).mp (lnm51.1.symm.trans z)
                rw [show (vr_A I L 1024).1 3 = vr_T I L (76800 + 3) from vr_A1 (by decide)] at s3 ⊢
                have i3 := (vr_is 1 (by decide) o3).mp s3
                have tt := (vr_tight o3 (tA 3 (by decide)) (by rw [i3]; rfl)).low.2.2.2
                exact ⟨vr_valv (by rw [i3]; rfl), by have := tt.1; have := tt.2; omega⟩
              have ev : w56 = vx_allowed M (vr_A I L 1024) f.i := by
                rw [ei, vx_al4, em]
                exact vx_thn (fun z => by omega) (fun z => by rw [← lnm51.1]; exact vx_thn (fun z => by omega) (fun z => by rw [(vn z).1, if_pos (by omega)]; exact vx_thn (fun _ => by omega) (fun z => absurd z (by decide))))
              exact ⟨_, _, by rw [← ev], rfl, rfl⟩
            · refine jv_Wp.lift (fun _ Kz => jv_Ev.steps jv_i300 3 (pc' := 210) (l' := [(4, .long (L 214 (8 + (76800 + 3)))), (3, .int (vl_I nm51)), (2, .int (vl_I k1)), (0, .ref 196), (1, .int (Int32.ofInt f.i))]) (st' := [.int (lg_cmp (L 214 (8 + (76800 + 3))) (256 : Int64)), .int (vl_I nm51)]) rfl Kz) ?_
              refine jv_Wp.cnd jv_i300 (pt := 217) (pe := 213) (p := (0 < (lg_cmp (L 214 (8 + (76800 + 3))) (256 : Int64)))) (q := ((256 : Int64) < (L 214 (8 + (76800 + 3))))) rfl jv_bi_gt rfl rfl (lg_cmp_gt (L 214 (8 + (76800 + 3))) (256 : Int64)) (fun h18 => ?_) (fun h18 => ?_)
              · refine jv_Wp.lift (fun _ Kz => jv_Ev.steps jv_i300 1 (pc' := 219) (l' := [(4, .long (L 214 (8 + (76800 + 3)))), (3, .int (vl_I nm51)), (2, .int (vl_I k1)), (0, .ref 196), (1, .int (Int32.ofInt f.i))]) (st' := [.int (8 : Int32), .int (vl_I nm51)]) rfl Kz) ?_
                obtain ⟨w57, hq57⟩ : ∃ x : Nat, ∀ _ : Unit, vx_then nm51 8 = x := ⟨_, fun _ => rfl⟩
                have fq57 : (nm51 ≠ 0 → w57 = nm51) ∧ (nm51 = 0 → w57 = 8) := by rw [← hq57 ()]; exact vx_then_f nm51 8
                have Hf57 := vq_then (I := I) (L := L) (K := K) (R := R) (n := n) (sl := sl) nm51 8 (by omega) (by omega)
                rw [hq57 ()] at Hf57
                refine jv_Wp.lift (fun _ Kz => jv_Ev.c jv_i300 (pc' := 222) (S' := [.int (vl_I w57)]) jv_i299 [.int (vl_I nm51), .int (8 : Int32)] rfl rfl rfl rfl rfl rfl Hf57 rfl rfl Kz) ?_
                refine jv_Wp.lift (fun _ Kz => jv_Ev.steps jv_i300 5 (pc' := 227) (l' := [(3, .int (vl_I w57)), (4, .long (L 214 (8 + (76800 + 3)))), (2, .int (vl_I k1)), (0, .ref 196), (1, .int (Int32.ofInt f.i))]) (st' := [.int (3 : Int32), .int (3 : Int32), .int (1 : Int32), .ref 196]) rfl Kz) ?_
                obtain ⟨im58, him58⟩ : ∃ x : Nat, ∀ _ : Unit, vr_im M (vr_T I L (76800 + 1)) 3 3 = x := ⟨_, fun _ => rfl⟩
                have lim58 := vr_im_lt M (vr_T I L (76800 + 1)) 3 3
                rw [him58 (), h1s ()] at lim58
                have Hm58 := vq_isMap (I := I) (L := L) (K := K) (R := R) (n := n) (sl := sl) M 1 3 3 k1 hW hM (by decide) (by decide) (by decide) ok1 k18 (fun z => hkd1 (Or.inl z))
                rw [him58 ()] at Hm58
                refine jv_Wp.lift (fun _ Kz => jv_Ev.c jv_i300 (pc' := 230) (S' := [.int (vl_I im58)]) jv_i297 [.ref 196, .int (1 : Int32), .int (3 : Int32), .int (3 : Int32)] rfl rfl rfl rfl (jv_cal rfl (jv_H_at (jv_rwK hW 196 12 24 (by decide))) rfl rfl) rfl Hm58 rfl rfl Kz) ?_
                refine jv_Wp.lift (fun _ Kz => jv_Ev.steps jv_i300 4 (pc' := 235) (l' := [(3, .int (vl_I w57)), (4, .long (L 214 (8 + (76800 + 3)))), (2, .int (vl_I k1)), (0, .ref 196), (1, .int (Int32.ofInt f.i))]) (st' := [.long (L 214 (8 + (76800 + 3))), .int (2 : Int32), .ref 196, .int (vl_I w57), .int (vl_I im58)]) rfl Kz) ?_
                obtain ⟨t59, Ht59, lt59, Tt59⟩ := vq_tells (I := I) (L := L) (n := n) (sl := sl) M 2 k2 (L 214 (8 + (76800 + 3))) hW hM oa hj (by decide) k28 hkd2
                refine jv_Wp.lift (fun _ Kz => jv_Ev.c jv_i300 (pc' := 238) (S' := [.int (vl_I t59), .int (vl_I w57), .int (vl_I im58)]) jv_i296 [.ref 196, .int (2 : Int32), .long (L 214 (8 + (76800 + 3)))] rfl rfl rfl rfl (jv_cal rfl (jv_H_at (jv_rwK hW 196 12 24 (by decide))) rfl rfl) rfl Ht59 rfl rfl Kz) ?_
                obtain ⟨w60, hq60⟩ : ∃ x : Nat, ∀ _ : Unit, vx_then w57 t59 = x := ⟨_, fun _ => rfl⟩
                have fq60 : (w57 ≠ 0 → w60 = w57) ∧ (w57 = 0 → w60 = t59) := by rw [← hq60 ()]; exact vx_then_f w57 t59
                have Hf60 := vq_then (I := I) (L := L) (K := K) (R := R) (n := n) (sl := sl) w57 t59 (by omega) (by omega)
                rw [hq60 ()] at Hf60
                refine jv_Wp.lift (fun _ Kz => jv_Ev.c jv_i300 (pc' := 241) (S' := [.int (vl_I w60), .int (vl_I im58)]) jv_i299 [.int (vl_I w57), .int (vl_I t59)] rfl rfl rfl rfl rfl rfl Hf60 rfl rfl Kz) ?_
                obtain ⟨w61, hq61⟩ : ∃ x : Nat, ∀ _ : Unit, vx_then im58 w60 = x := ⟨_, fun _ => rfl⟩
                have fq61 : (im58 ≠ 0 → w61 = im58) ∧ (im58 = 0 → w61 = w60) := by rw [← hq61 ()]; exact vx_then_f im58 w60
                have Hf61 := vq_then (I := I) (L := L) (K := K) (R := R) (n := n) (sl := sl) im58 w60 (by omega) (by omega)
                rw [hq61 ()] at Hf61
                refine jv_Wp.lift (fun _ Kz => jv_Ev.c jv_i300 (pc' := 244) (S' := [.int (vl_I w61)]) jv_i299 [.int (vl_I im58), .int (vl_I w60)] rfl rfl rfl rfl rfl rfl Hf61 rfl rfl Kz) ?_
                refine jv_Wp.of (jv_Ev.ret jv_i300 rfl rfl) ?_
                rw [hQ]
                have ei : f.i = 4 := (vr_dQ D).symm.trans (congrArg Int32.toInt h16)
                have s1 : I 205 (76800 + 1) = 6 := (Classical.not_not.mp h1)
                have d1 : (vr_T I L (76800 + 1)).det = (k1 : Int) := by show (I 206 (76800 + 1)).toInt = _; rw [hkd1 (Or.inl s1)]; exact vl_I_int (by omega)
                have em := (vr_im_map M (vr_A I L 1024) (fun z => by rw [e1] at z ⊢; rw [d1]; exact (hM k1 k18).2.2.2.1)).2.2.2
                rw [e1, him58 ()] at em
                have l3 : (L 213 (8 + (76800 + 3))).toInt = (vb_toS (vr_S L (8 + (76800 + 3)))).least.toInt := rfl
                have g3 : (L 214 (8 + (76800 + 3))).toInt = (vb_toS (vr_S L (8 + (76800 + 3)))).greatest.toInt := rfl
                have l1 : (1 : Int64).toInt = 1 := rfl
                have l256 : (256 : Int64).toInt = 256 := rfl
                have y1 : ¬ (L 213 (8 + (76800 + 3))).toInt < (1 : Int64).toInt := fun z => h17 (Int64.lt_iff_toInt_lt.mpr z)
                have y2 : (256 : Int64).toInt < (L 214 (8 + (76800 + 3))).toInt := Int64.lt_iff_toInt_lt.mp h18
                have vn : nm51 = 0 → ((vr_A I L 1024).1 3).val = (vb_toS (vr_S L (8 + (76800 + 3)))) ∧ (vb_toS (vr_S L (8 + (76800 + 3)))).least.toInt ≤ (vb_toS (vr_S L (8 + (76800 + 3)))).greatest.toInt := fun z => by
                  have o3 : vr_ok I (76800 + 3) 3 := oa 3 (by decide)
                  have s3 : ((vr_A I L 1024).1 3).sort = 1 := (vx_isnum_eq (by decide)).mp (lnm51.1.symm.trans z)
                  rw [show (vr_A I L 1024).1 3 = vr_T I L (76800 + 3) from vr_A1 (by decide)] at s3 ⊢
                  have i3 := (vr_is 1 (by decide) o3).mp s3
                  have tt := (vr_tight o3 (tA 3 (by decide)) (by rw [i3]; rfl)).low.2.2.2
                  exact ⟨vr_valv (by rw [i3]; rfl), by have := tt.1; have := tt.2; omega⟩
                have ev : w61 = vx_allowed M (vr_A I L 1024) f.i := by
                  rw [ei, vx_al4, em]
                  exact vx_thn (fun z => by omega) (fun z => by rw [← lnm51.1]; exact vx_thn (fun z => by omega) (fun z => by rw [(vn z).1, if_pos (by omega)]; exact vx_thn (fun _ => by omega) (fun z => absurd z (by decide))))
                exact ⟨_, _, by rw [← ev], rfl, rfl⟩
              · refine jv_Wp.lift (fun _ Kz => jv_Ev.steps jv_i300 2 (pc' := 219) (l' := [(4, .long (L 214 (8 + (76800 + 3)))), (3, .int (vl_I nm51)), (2, .int (vl_I k1)), (0, .ref 196), (1, .int (Int32.ofInt f.i))]) (st' := [.int (0 : Int32), .int (vl_I nm51)]) rfl Kz) ?_
                obtain ⟨w62, hq62⟩ : ∃ x : Nat, ∀ _ : Unit, vx_then nm51 0 = x := ⟨_, fun _ => rfl⟩
                have fq62 : (nm51 ≠ 0 → w62 = nm51) ∧ (nm51 = 0 → w62 = 0) := by rw [← hq62 ()]; exact vx_then_f nm51 0
                have Hf62 := vq_then (I := I) (L := L) (K := K) (R := R) (n := n) (sl := sl) nm51 0 (by omega) (by omega)
                rw [hq62 ()] at Hf62
                refine jv_Wp.lift (fun _ Kz => jv_Ev.c jv_i300 (pc' := 222) (S' := [.int (vl_I w62)]) jv_i299 [.int (vl_I nm51), .int (0 : Int32)] rfl rfl rfl rfl rfl rfl Hf62 rfl rfl Kz) ?_
                refine jv_Wp.lift (fun _ Kz => jv_Ev.steps jv_i300 5 (pc' := 227) (l' := [(3, .int (vl_I w62)), (4, .long (L 214 (8 + (76800 + 3)))), (2, .int (vl_I k1)), (0, .ref 196), (1, .int (Int32.ofInt f.i))]) (st' := [.int (3 : Int32), .int (3 : Int32), .int (1 : Int32), .ref 196]) rfl Kz) ?_
                obtain ⟨im63, him63⟩ : ∃ x : Nat, ∀ _ : Unit, vr_im M (vr_T I L (76800 + 1)) 3 3 = x := ⟨_, fun _ => rfl⟩
                have lim63 := vr_im_lt M (vr_T I L (76800 + 1)) 3 3
                rw [him63 (), h1s ()] at lim63
                have Hm63 := vq_isMap (I := I) (L := L) (K := K) (R := R) (n := n) (sl := sl) M 1 3 3 k1 hW hM (by decide) (by decide) (by decide) ok1 k18 (fun z => hkd1 (Or.inl z))
                rw [him63 ()] at Hm63
                refine jv_Wp.lift (fun _ Kz => jv_Ev.c jv_i300 (pc' := 230) (S' := [.int (vl_I im63)]) jv_i297 [.ref 196, .int (1 : Int32), .int (3 : Int32), .int (3 : Int32)] rfl rfl rfl rfl (jv_cal rfl (jv_H_at (jv_rwK hW 196 12 24 (by decide))) rfl rfl) rfl Hm63 rfl rfl Kz) ?_
                refine jv_Wp.lift (fun _ Kz => jv_Ev.steps jv_i300 4 (pc' := 235) (l' := [(3, .int (vl_I w62)), (4, .long (L 214 (8 + (76800 + 3)))), (2, .int (vl_I k1)), (0, .ref 196), (1, .int (Int32.ofInt f.i))]) (st' := [.long (L 214 (8 + (76800 + 3))), .int (2 : Int32), .ref 196, .int (vl_I w62), .int (vl_I im63)]) rfl Kz) ?_
                obtain ⟨t64, Ht64, lt64, Tt64⟩ := vq_tells (I := I) (L := L) (n := n) (sl := sl) M 2 k2 (L 214 (8 + (76800 + 3))) hW hM oa hj (by decide) k28 hkd2
                refine jv_Wp.lift (fun _ Kz => jv_Ev.c jv_i300 (pc' := 238) (S' := [.int (vl_I t64), .int (vl_I w62), .int (vl_I im63)]) jv_i296 [.ref 196, .int (2 : Int32), .long (L 214 (8 + (76800 + 3)))] rfl rfl rfl rfl (jv_cal rfl (jv_H_at (jv_rwK hW 196 12 24 (by decide))) rfl rfl) rfl Ht64 rfl rfl Kz) ?_
                obtain ⟨w65, hq65⟩ : ∃ x : Nat, ∀ _ : Unit, vx_then w62 t64 = x := ⟨_, fun _ => rfl⟩
                have fq65 : (w62 ≠ 0 → w65 = w62) ∧ (w62 = 0 → w65 = t64) := by rw [← hq65 ()]; exact vx_then_f w62 t64
                have Hf65 := vq_then (I := I) (L := L) (K := K) (R := R) (n := n) (sl := sl) w62 t64 (by omega) (by omega)
                rw [hq65 ()] at Hf65
                refine jv_Wp.lift (fun _ Kz => jv_Ev.c jv_i300 (pc' := 241) (S' := [.int (vl_I w65), .int (vl_I im63)]) jv_i299 [.int (vl_I w62), .int (vl_I t64)] rfl rfl rfl rfl rfl rfl Hf65 rfl rfl Kz) ?_
                obtain ⟨w66, hq66⟩ : ∃ x : Nat, ∀ _ : Unit, vx_then im63 w65 = x := ⟨_, fun _ => rfl⟩
                have fq66 : (im63 ≠ 0 → w66 = im63) ∧ (im63 = 0 → w66 = w65) := by rw [← hq66 ()]; exact vx_then_f im63 w65
                have Hf66 := vq_then (I := I) (L := L) (K := K) (R := R) (n := n) (sl := sl) im63 w65 (by omega) (by omega)
                rw [hq66 ()] at Hf66
                refine jv_Wp.lift (fun _ Kz => jv_Ev.c jv_i300 (pc' := 244) (S' := [.int (vl_I w66)]) jv_i299 [.int (vl_I im63), .int (vl_I w65)] rfl rfl rfl rfl rfl rfl Hf66 rfl rfl Kz) ?_
                refine jv_Wp.of (jv_Ev.ret jv_i300 rfl rfl) ?_
                rw [hQ]
                have ei : f.i = 4 := (vr_dQ D).symm.trans (congrArg Int32.toInt h16)
                have s1 : I 205 (76800 + 1) = 6 := (Classical.not_not.mp h1)
                have d1 : (vr_T I L (76800 + 1)).det = (k1 : Int) := by show (I 206 (76800 + 1)).toInt = _; rw [hkd1 (Or.inl s1)]; exact vl_I_int (by omega)
                have em := (vr_im_map M (vr_A I L 1024) (fun z => by rw [e1] at z ⊢; rw [d1]; exact (hM k1 k18).2.2.2.1)).2.2.2
                rw [e1, him63 ()] at em
                have l3 : (L 213 (8 + (76800 + 3))).toInt = (vb_toS (vr_S L (8 + (76800 + 3)))).least.toInt := rfl
                have g3 : (L 214 (8 + (76800 + 3))).toInt = (vb_toS (vr_S L (8 + (76800 + 3)))).greatest.toInt := rfl
                have l1 : (1 : Int64).toInt = 1 := rfl
                have l256 : (256 : Int64).toInt = 256 := rfl
                have y1 : ¬ (L 213 (8 + (76800 + 3))).toInt < (1 : Int64).toInt := fun z => h17 (Int64.lt_iff_toInt_lt.mpr z)
                have y2 : ¬ (256 : Int64).toInt < (L 214 (8 + (76800 + 3))).toInt := fun z => h18 (Int64.lt_iff_toInt_lt.mpr z)
                have vn : nm51 = 0 → ((vr_A I L 1024).1 3).val = (vb_toS (vr_S L (8 + (76800 + 3)))) ∧ (vb_toS (vr_S L (8 + (76800 + 3)))).least.toInt ≤ (vb_toS (vr_S L (8 + (76800 + 3)))).greatest.toInt := fun z => by
                  have o3 : vr_ok I (76800 + 3) 3 := oa 3 (by decide)
                  have s3 : ((vr_A I L 1024).1 3).sort = 1 := (vx_isnum_eq (by decide)).mp (lnm51.1.symm.trans z)
                  rw [show (vr_A I L 1024).1 3 = vr_T I L (76800 + 3) from vr_A1 (by decide)] at s3 ⊢
                  have i3 := (vr_is 1 (by decide) o3).mp s3
                  have tt := (vr_tight o3 (tA 3 (by decide)) (by rw [i3]; rfl)).low.2.2.2
                  exact ⟨vr_valv (by rw [i3]; rfl), by have := tt.1; have := tt.2; omega⟩
                have ev : w66 = vx_allowed M (vr_A I L 1024) f.i := by
                  rw [ei, vx_al4, em]
                  exact vx_thn (fun z => by omega) (fun z => by rw [← lnm51.1]; exact vx_thn (fun z => by omega) (fun z => by have T := Tt64 (by have := (vn z).2; omega) (by omega); rw [(vn z).1, if_neg (by omega), vx_then0]; exact (show w66 = t64 by omega).trans T))
                exact ⟨_, _, by rw [← ev], rfl, rfl⟩
          · refine jv_Wp.bys (q := ((Int32.ofInt f.i) = Int32.ofInt 5)) (fun h19 => ?_) (fun h19 => ?_)
            · refine jv_Wp.lift (fun _ Kz => jv_Ev.br jv_i300 (pc' := 245) (st' := []) rfl (by rw [h19]; rfl) Kz) ?_
              refine jv_Wp.lift (fun _ Kz => jv_Ev.steps jv_i300 1 (pc' := 246) (l' := [(2, .int (vl_I k1)), (0, .ref 196), (1, .int (Int32.ofInt f.i))]) (st' := [.int (0 : Int32)]) rfl Kz) ?_
              refine jv_Wp.of (jv_Ev.ret jv_i300 rfl rfl) ?_
              rw [hQ]
              have ei : f.i = 5 := (vr_dQ D).symm.trans (congrArg Int32.toInt h19)
              have s1 : I 205 (76800 + 1) = 6 := (Classical.not_not.mp h1)
              have d1 : (vr_T I L (76800 + 1)).det = (k1 : Int) := by show (I 206 (76800 + 1)).toInt = _; rw [hkd1 (Or.inl s1)]; exact vl_I_int (by omega)
              have ev : 0 = vx_allowed M (vr_A I L 1024) f.i := by rw [ei, vx_al5]
              exact ⟨_, _, by rw [← ev]; rfl, rfl, rfl⟩
            · refine jv_Wp.bys (q := ((Int32.ofInt f.i) = Int32.ofInt 6)) (fun h20 => ?_) (fun h20 => ?_)
              · refine jv_Wp.lift (fun _ Kz => jv_Ev.br jv_i300 (pc' := 247) (st' := []) rfl (by rw [h20]; rfl) Kz) ?_
                refine jv_Wp.lift (fun _ Kz => jv_Ev.steps jv_i300 2 (pc' := 249) (l' := [(2, .int (vl_I k1)), (0, .ref 196), (1, .int (Int32.ofInt f.i))]) (st' := [.int (1 : Int32), .ref 196]) rfl Kz) ?_
                refine jv_Wp.lift (fun _ Kz => jv_Ev.c jv_i300 (pc' := 252) (S' := [.int (I 205 (76800 + 1))]) jv_i271 [.ref 196, .int (1 : Int32)] rfl rfl rfl rfl (jv_cal rfl (jv_H_at (jv_rwK hW 196 12 24 (by decide))) rfl rfl) rfl (vq_sortOf 1 hW (by omega)) rfl rfl Kz) ?_
                refine jv_Wp.lift (fun _ Kz => jv_Ev.steps jv_i300 1 (pc' := 253) (l' := [(2, .int (vl_I k1)), (0, .ref 196), (1, .int (Int32.ofInt f.i))]) (st' := [.int (2 : Int32), .int (I 205 (76800 + 1))]) rfl Kz) ?_
                refine jv_Wp.cnd jv_i300 (pt := 275) (pe := 256) (p := (¬ (I 205 (76800 + 1)) = (2 : Int32))) (q := (¬ (I 205 (76800 + 1)) = (2 : Int32))) rfl jv_bc_ne rfl rfl Iff.rfl (fun _ => ?_) (fun hz => absurd (fun z => absurd (z.symm.trans (Classical.not_not.mp h1)) (by decide)) hz)
                refine jv_Wp.lift (fun _ Kz => jv_Ev.steps jv_i300 4 (pc' := 280) (l' := [(6, .int (0 : Int32)), (2, .int (vl_I k1)), (0, .ref 196), (1, .int (Int32.ofInt f.i))]) (st' := [.int (1 : Int32), .ref 196]) rfl Kz) ?_
                refine jv_Wp.lift (fun _ Kz => jv_Ev.c jv_i300 (pc' := 283) (S' := [.int (I 205 (76800 + 1))]) jv_i271 [.ref 196, .int (1 : Int32)] rfl rfl rfl rfl (jv_cal rfl (jv_H_at (jv_rwK hW 196 12 24 (by decide))) rfl rfl) rfl (vq_sortOf 1 hW (by omega)) rfl rfl Kz) ?_
                refine jv_Wp.cnd jv_i300 (pt := 290) (pe := 286) (p := (¬ (I 205 (76800 + 1)) = 0)) (q := (¬ (I 205 (76800 + 1)) = 0)) rfl jv_bi_ne rfl rfl Iff.rfl (fun _ => ?_) (fun hz => absurd (fun z => absurd (z.symm.trans (Classical.not_not.mp h1)) (by decide)) hz)
                refine jv_Wp.lift (fun _ Kz => jv_Ev.steps jv_i300 1 (pc' := 292) (l' := [(6, .int (0 : Int32)), (2, .int (vl_I k1)), (0, .ref 196), (1, .int (Int32.ofInt f.i))]) (st' := [.int (0 : Int32)]) rfl Kz) ?_
                refine jv_Wp.lift (fun _ Kz => jv_Ev.br jv_i300 (pc' := 299) (st' := []) rfl (by rfl) Kz) ?_
                refine jv_Wp.lift (fun _ Kz => jv_Ev.steps jv_i300 3 (pc' := 303) (l' := [(6, .int (0 : Int32)), (2, .int (vl_I k1)), (0, .ref 196), (1, .int (Int32.ofInt f.i))]) (st' := [.int (2 : Int32), .ref 196, .int (8 : Int32)]) rfl Kz) ?_
                obtain ⟨nm67, hnm67⟩ : ∃ x : Nat, ∀ _ : Unit, vr_nm (I 205 (76800 + 2)) = x := ⟨_, fun _ => rfl⟩
                have lnm67 := vr_nm_T (L := L) (k := 2) (oa 2 (by decide)) (by decide)
                rw [hnm67 ()] at lnm67
                have Hn67 := vq_isNumber (I := I) (L := L) (K := K) (R := R) (n := n) (sl := sl) 2 hW (by decide)
                rw [hnm67 ()] at Hn67
                refine jv_Wp.lift (fun _ Kz => jv_Ev.c jv_i300 (pc' := 306) (S' := [.int (vl_I nm67), .int (8 : Int32)]) jv_i298 [.ref 196, .int (2 : Int32)] rfl rfl rfl rfl (jv_cal rfl (jv_H_at (jv_rwK hW 196 12 24 (by decide))) rfl rfl) rfl Hn67 rfl rfl Kz) ?_
                obtain ⟨w68, hq68⟩ : ∃ x : Nat, ∀ _ : Unit, vx_then 8 nm67 = x := ⟨_, fun _ => rfl⟩
                have fq68 : (8 ≠ 0 → w68 = 8) ∧ (8 = 0 → w68 = nm67) := by rw [← hq68 ()]; exact vx_then_f 8 nm67
                have Hf68 := vq_then (I := I) (L := L) (K := K) (R := R) (n := n) (sl := sl) 8 nm67 (by omega) (by omega)
                rw [hq68 ()] at Hf68
                refine jv_Wp.lift (fun _ Kz => jv_Ev.c jv_i300 (pc' := 309) (S' := [.int (vl_I w68)]) jv_i299 [.int (8 : Int32), .int (vl_I nm67)] rfl rfl rfl rfl rfl rfl Hf68 rfl rfl Kz) ?_
                refine jv_Wp.of (jv_Ev.ret jv_i300 rfl rfl) ?_
                rw [hQ]
                have ei : f.i = 6 := (vr_dQ D).symm.trans (congrArg Int32.toInt h20)
                have s1 : I 205 (76800 + 1) = 6 := (Classical.not_not.mp h1)
                have d1 : (vr_T I L (76800 + 1)).det = (k1 : Int) := by show (I 206 (76800 + 1)).toInt = _; rw [hkd1 (Or.inl s1)]; exact vl_I_int (by omega)
                have q1 : ¬ z1 = 2 := fun z => absurd (s1.symm.trans ((vr_is (L := L) 2 (by decide) ok1).mp ((h1s ()).trans z))) (by decide)
                have q0 : ¬ z1 = 0 := fun z => absurd (s1.symm.trans ((vr_isN (L := L) ok1 (by decide)).mp ((h1s ()).trans z))) (by decide)
                have ev : w68 = vx_allowed M (vr_A I L 1024) f.i := by
                  rw [ei, vx_al6, e1, h1s ()]
                  rw [if_neg q0, if_neg (fun z => q1 z.1)]; omega
                exact ⟨_, _, by rw [← ev], rfl, rfl⟩
              · refine jv_Wp.lift (fun _ Kz => jv_Ev.br jv_i300 (pc' := 310) (st' := []) rfl (jv_tsw_def (fun i hi h => by match i, hi, h with 
                      | 0, _, h => exact absurd h (jv_ne_toInt (k := 1) h13) 
                      | 1, _, h => exact absurd h (jv_ne_toInt (k := 2) h14) 
                      | 2, _, h => exact absurd h (jv_ne_toInt (k := 3) h15) 
                      | 3, _, h => exact absurd h (jv_ne_toInt (k := 4) h16) 
                      | 4, _, h => exact absurd h (jv_ne_toInt (k := 5) h19) 
                      | 5, _, h => exact absurd h (jv_ne_toInt (k := 6) h20) 
                      | i + 6, hi, _ => exact absurd hi (by simp)) rfl) Kz) ?_
                refine jv_Wp.lift (fun _ Kz => jv_Ev.steps jv_i300 1 (pc' := 312) (l' := [(2, .int (vl_I k1)), (0, .ref 196), (1, .int (Int32.ofInt f.i))]) (st' := [.int (7 : Int32)]) rfl Kz) ?_
                refine jv_Wp.of (jv_Ev.ret jv_i300 rfl rfl) ?_
                rw [hQ]
                have i1 : ¬ f.i = 1 := fun z => h13 (by rw [z])
                have i2 : ¬ f.i = 2 := fun z => h14 (by rw [z])
                have i3 : ¬ f.i = 3 := fun z => h15 (by rw [z])
                have i4 : ¬ f.i = 4 := fun z => h16 (by rw [z])
                have i5 : ¬ f.i = 5 := fun z => h19 (by rw [z])
                have i6 : ¬ f.i = 6 := fun z => h20 (by rw [z])
                have ev : 7 = vx_allowed M (vr_A I L 1024) f.i := (vx_al7 (by omega)).symm
                exact ⟨_, _, by rw [← ev]; rfl, rfl, rfl⟩
theorem vq_args {K : Nat → Option (Nat × Nat)} {I : Nat → Nat → Int32} {L : Nat → Nat → Int64} {R : Nat → Nat → Value} (M : vf_M) (f : vf_F) (hW : jv_rW K R) (hM : vr_M I M) (D : vr_dec I f) (oa : vr_okA I 1024) (hj : vr_j10 I) (tA : ∀ n, n < 75 → vt_ok (vr_T I L (76800 + n))) (gA : ∀ n, n < 75 → vt_g (vr_T I L (76800 + n))) {n sl : Nat} : jv_Ms 300 [.ref 196, .int (Int32.ofInt f.i)] (jv_H K I L R) n sl (some (.int (vl_I (vx_allowed M (vr_A I L 1024) f.i))), jv_H K I L R, n, sl) := by
  obtain ⟨I1, L1, H, ei, el⟩ := vq_args_ (n := n) (sl := sl) M f hW hM D oa hj tA gA
  rw [ei, el] at H
  exact H