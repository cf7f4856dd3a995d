/-! part b17: why an address is not reached (gen/tb17.py) -/
theorem vi_even {zz : Nat} (hz : zz = 1 ∨ zz = 2 ∨ zz = 4 ∨ zz = 8) (a : Int64) : ((a &&& (vl_I zz - (1 : Int32)).toInt64) = (0 : Int64)) ↔ a.toInt % (zz : Int) = 0 := by
  have go : ∀ (m : Int64) (j : Nat), m.toBitVec.toNat = 2 ^ j - 1 → j ≤ 3 → ((a &&& m = (0 : Int64)) ↔ a.toInt % ((2 ^ j : Nat) : Int) = 0) := by
    intro m j hm hj
    rw [← Int64.toBitVec_inj, Int64.toBitVec_and]
    have e : (a.toBitVec &&& m.toBitVec = (0 : Int64).toBitVec) ↔ a.toBitVec.toNat % 2 ^ j = 0 := by
      rw [← BitVec.toNat_inj, BitVec.toNat_and, hm, Nat.and_two_pow_sub_one_eq_mod]
      exact Iff.rfl
    rw [e]
    show _ ↔ a.toBitVec.toInt % _ = 0
    have lt := a.toBitVec.isLt
    generalize a.toBitVec = b at *
    rw [BitVec.toInt_eq_toNat_cond]
    match j, hj with
    | 0, _ => split <;> omega
    | 1, _ => split <;> omega
    | 2, _ => split <;> omega
    | 3, _ => split <;> omega
  rcases hz with h | h | h | h <;> subst h
  · exact go _ 0 rfl (by decide)
  · exact go _ 1 rfl (by decide)
  · exact go _ 2 rfl (by decide)
  · exact go _ 3 rfl (by decide)
theorem vx_r2 {M : vf_M} {A : vt_A} {t : vt_T} {o : Int} {z : Nat} {w : Bool} (h : t.sort = 2) : vx_reach M A t o z w = if (if w = true then 32 else if z = 8 then 0 else 16) ≤ t.det + o ∧ t.det + o ≤ 64 - (z : Int) ∧ (t.det + o) % (z : Int) = 0 then 0 else 4 := if_pos h
theorem vx_r3 {M : vf_M} {A : vt_A} {t : vt_T} {o : Int} {z : Nat} {w : Bool} (h : t.sort = 3) : vx_reach M A t o z w = if -512 ≤ t.det + o ∧ t.det + o ≤ -(z : Int) ∧ (t.det + o) % (z : Int) = 0 then 0 else 4 := (if_neg (by omega)).trans (if_pos h)
theorem vx_r4 {M : vf_M} {A : vt_A} {t : vt_T} {o : Int} {z : Nat} {w : Bool} (h : t.sort = 4) : vx_reach M A t o z w = if 0 ≤ t.val.least.toInt + o ∧ t.val.greatest.toInt + o + z ≤ A.2 then 0 else 4 := (if_neg (by omega)).trans ((if_neg (by omega)).trans (if_pos h))
theorem vx_r7 {M : vf_M} {A : vt_A} {t : vt_T} {o : Int} {z : Nat} {w : Bool} (h : t.sort = 7) : vx_reach M A t o z w = if 0 ≤ t.val.least.toInt + o ∧ t.val.greatest.toInt + o + z ≤ (M.value t.det : Int) then 0 else 4 := (if_neg (by omega)).trans ((if_neg (by omega)).trans ((if_neg (by omega)).trans (if_pos h)))
theorem vx_r_ {M : vf_M} {A : vt_A} {t : vt_T} {o : Int} {z : Nat} {w : Bool} (h2 : ¬ t.sort = 2) (h3 : ¬ t.sort = 3) (h4 : ¬ t.sort = 4) (h7 : ¬ t.sort = 7) : vx_reach M A t o z w = 3 := (if_neg h2).trans ((if_neg h3).trans ((if_neg h4).trans (if_neg h7)))
theorem vf_value_le {K : Nat → Option (Nat × Nat)} {I : Nat → Nat → Int32} {R : Nat → Nat → Value} {M : vf_M} (hM : vc_M K I R M) (k : Int) : M.value k ≤ 256 := by
  obtain ⟨h2, hr, N, cnt, h7, hc, hN, hB, hy, hno⟩ := hM
  unfold vf_M.value
  by_cases h : k.toNat < cnt
  · obtain ⟨o, e, _, me, hm⟩ := hy _ h
    rw [me]; exact hm.2.2.2.2.2.2.2
  · rw [hno _ (by omega)]; exact Nat.zero_le _
theorem jv_i127 : jv_I 127 3 (some .int) 1 22 jv_c127 := ⟨rfl, rfl, rfl, rfl, rfl⟩
theorem vc_vs1 {K : Nat → Option (Nat × Nat)} {I : Nat → Nat → Int32} {L : Nat → Nat → Int64} {R : Nat → Nat → Value} {o : Nat} {e : Nat × Nat × Nat} (k : Int32) (h2 : K 2 = some (6, 11)) (hm : vc_m K I o e) (Hm : ∀ n sl, jv_Ms 126 [.ref 2, .long k.toInt64] (jv_H K I L R) n sl (some (.ref o), jv_H K I L R, n, sl)) {n sl : Nat} : ∃ I1 L1, jv_Ms 127 [.ref 2, .int k] (jv_H K I L R) n sl (some (.int (I o 2)), jv_H K I1 L1 R, n, sl) ∧ I1 = I ∧ L1 = L := by
  obtain ⟨Q, hQ⟩ : ∃ Q : jv_R → Prop, Q = fun X => ∃ I1 L1, X = (some (.int (I o 2)), jv_H K I1 L1 R, n, sl) ∧ I1 = I ∧ L1 = L := ⟨_, rfl⟩
  suffices h : jv_Wp 127 0 [(0, .ref 2), (1, .int k)] [] (jv_H K I L R) n sl Q by
    rw [hQ] at h
    obtain ⟨X, h, I1, L1, e, h'⟩ := h
    subst e
    exact ⟨I1, L1, h, h'⟩
  refine jv_Wp.lift (fun _ Kz => jv_Ev.steps jv_i127 3 (pc' := 3) (l' := [(0, .ref 2), (1, .int k)]) (st' := [.long k.toInt64, .ref 2]) rfl Kz) ?_
  refine jv_Wp.lift (fun _ Kz => jv_Ev.c jv_i127 (pc' := 6) (S' := [.ref o]) jv_i126 [.ref 2, .long k.toInt64] rfl rfl rfl rfl (jv_cal rfl (jv_H_at h2) rfl rfl) rfl (Hm _ _) rfl rfl Kz) ?_
  refine jv_Wp.lift (fun _ Kz => jv_Ev.steps jv_i127 2 (pc' := 8) (l' := [(2, .ref o), (0, .ref 2), (1, .int k)]) (st' := [.ref o]) rfl Kz) ?_
  refine jv_Wp.lift (fun _ Kz => jv_Ev.br jv_i127 (pc' := 15) (st' := []) rfl (by rfl) Kz) ?_
  refine jv_Wp.lift (fun _ Kz => jv_Ev.steps jv_i127 1 (pc' := 16) (l' := [(2, .ref o), (0, .ref 2), (1, .int k)]) (st' := [.ref o]) rfl Kz) ?_
  refine jv_Wp.lift (fun _ Kz => jv_Ev.m jv_i127 (pc' := 19) (st' := [.int (I o 2)]) (G' := (jv_H K I L R)) rfl rfl (vc_m_get hm (by decide) rfl) Kz) ?_
  refine jv_Wp.of (jv_Ev.ret jv_i127 rfl rfl) ?_
  rw [hQ]
  exact ⟨_, _, rfl, rfl, rfl⟩
theorem vc_vs0 {K : Nat → Option (Nat × Nat)} {I : Nat → Nat → Int32} {L : Nat → Nat → Int64} {R : Nat → Nat → Value} (k : Int32) (h2 : K 2 = some (6, 11)) (Hm : ∀ n sl, jv_Ms 126 [.ref 2, .long k.toInt64] (jv_H K I L R) n sl (some .null, jv_H K I L R, n, sl)) {n sl : Nat} : ∃ I1 L1, jv_Ms 127 [.ref 2, .int k] (jv_H K I L R) n sl (some (.int (0 : Int32)), jv_H K I1 L1 R, n, sl) ∧ I1 = I ∧ L1 = L := by
  obtain ⟨Q, hQ⟩ : ∃ Q : jv_R → Prop, Q = fun X => ∃ I1 L1, X = (some (.int (0 : Int32)), jv_H K I1 L1 R, n, sl) ∧ I1 = I ∧ L1 = L := ⟨_, rfl⟩
  suffices h : jv_Wp 127 0 [(0, .ref 2), (1, .int k)] [] (jv_H K I L R) n sl Q by
    rw [hQ] at h
    obtain ⟨X, h, I1, L1, e, h'⟩ := h
    subst e
    exact ⟨I1, L1, h, h'⟩
  refine jv_Wp.lift (fun _ Kz => jv_Ev.steps jv_i127 3 (pc' := 3) (l' := [(0, .ref 2), (1, .int k)]) (st' := [.long k.toInt64, .ref 2]) rfl Kz) ?_
  refine jv_Wp.lift (fun _ Kz => jv_Ev.c jv_i127 (pc' := 6) (S' := [.null]) jv_i126 [.ref 2, .long k.toInt64] rfl rfl rfl rfl (jv_cal rfl (jv_H_at h2) rfl rfl) rfl (Hm _ _) rfl rfl Kz) ?_
  refine jv_Wp.lift (fun _ Kz => jv_Ev.steps jv_i127 2 (pc' := 8) (l' := [(2, .null), (0, .ref 2), (1, .int k)]) (st' := [.null]) rfl Kz) ?_
  refine jv_Wp.lift (fun _ Kz => jv_Ev.br jv_i127 (pc' := 11) (st' := []) rfl (by rfl) Kz) ?_
  refine jv_Wp.lift (fun _ Kz => jv_Ev.steps jv_i127 2 (pc' := 19) (l' := [(2, .null), (0, .ref 2), (1, .int k)]) (st' := [.int (0 : Int32)]) rfl Kz) ?_
  refine jv_Wp.of (jv_Ev.ret jv_i127 rfl rfl) ?_
  rw [hQ]
  exact ⟨_, _, rfl, rfl, rfl⟩
/-- the size of a map's values -/
theorem vc_vsize {K : Nat → Option (Nat × Nat)} {I : Nat → Nat → Int32} {L : Nat → Nat → Int64} {R : Nat → Nat → Value} {M : vf_M} (hM : vc_M K I R M) (k : Int32) (hk : 0 ≤ k.toInt) {n sl : Nat} : jv_Ms 127 [.ref 2, .int k] (jv_H K I L R) n sl (some (.int (vl_I (M.value k.toInt))), jv_H K I L R, n, sl) := by
  have e0 : k.toInt64.toInt = k.toInt := Int32.toInt_toInt64 k
  have nn : ∀ o, (∃ n sl, jv_Ms 126 [.ref 2, .long k.toInt64] (jv_H K I L R) n sl (some o, jv_H K I L R, n, sl)) → True := fun _ _ => trivial
  unfold vf_M.value
  by_cases h : ∃ e, M k.toInt.toNat = some e
  · obtain ⟨e, he⟩ := h
    have all : ∃ o, vc_m K I o e ∧ ∀ n sl, jv_Ms 126 [.ref 2, .long k.toInt64] (jv_H K I L R) n sl (some (.ref o), jv_H K I L R, n, sl) := by
      obtain ⟨h2, hr, N, cnt, h7, hc, hN, hB, hy, hno⟩ := id hM
      have lt : k.toInt.toNat < cnt := by
        refine Classical.byContradiction (fun z => ?_)
        rw [hno _ (by omega)] at he; exact absurd he (by simp)
      obtain ⟨o, e', ro, me, hm⟩ := hy _ lt
      have ee : e' = e := Option.some.inj (me.symm.trans he)
      subst ee
      refine ⟨o, hm, fun n sl => ?_⟩
      rcases vc_map (L := L) hM k.toInt64 (n := n) (sl := sl) with ⟨o2, e2, H, _, m2, hm2⟩ | ⟨H, z⟩
      · have q : ¬ k.toInt64 < (0 : Int64) := fun z => by have a := Int64.lt_iff_toInt_lt.mp z; rw [e0] at a; have b : k.toInt < 0 := a; omega
        have q1 : k.toInt64 < (I 2 7).toInt64 := by rw [hc, vi_lt_I (by omega), e0]; omega
        have d := q1
        rw [hc] at d
        have w := vi_lo q d (by omega)
        rw [e0] at w
        obtain ⟨I1, L1, H1, a1, a2⟩ := vc_mapF (I := I) (L := L) (R := R) (n := n) (sl := sl) (o := o) k.toInt64 h2 hr h7 q q1 (by rw [w.1]; exact vl_I_ix (by omega) hB) (by rw [w.1, vl_I_nat (by omega)]; exact ro)
        rw [a1, a2] at H1
        exact H1
      · rw [e0] at z
        rcases z with z | z
        · omega
        · rw [he] at z; exact absurd z (by simp)
    obtain ⟨o, hm, H⟩ := all
    obtain ⟨I1, L1, H1, a1, a2⟩ := vc_vs1 (n := n) (sl := sl) k hM.1 hm H
    rw [a1, a2, hm.2.2.2.2.1] at H1
    rw [he]; exact H1
  · have e : M k.toInt.toNat = none := by
      cases q : M k.toInt.toNat with
      | none => rfl
      | some e => exact absurd ⟨e, q⟩ h
    have all : ∀ n sl, jv_Ms 126 [.ref 2, .long k.toInt64] (jv_H K I L R) n sl (some .null, jv_H K I L R, n, sl) := fun n sl => by
      rcases vc_map (L := L) hM k.toInt64 (n := n) (sl := sl) with ⟨o2, e2, H, _, m2, hm2⟩ | ⟨H, _⟩
      · rw [e0, e] at m2; exact absurd m2 (by simp)
      · exact H
    obtain ⟨I1, L1, H1, a1, a2⟩ := vc_vs0 (n := n) (sl := sl) k hM.1 all
    rw [a1, a2] at H1
    rw [e]; exact H1