/-! part b31: calls that are allowed (gen/tb31.py) -/
section
variable {M : vf_M} {A : vt_A}
theorem vx_then0 (b : Nat) : vx_then 0 b = b := rfl
theorem vx_thenn {a b : Nat} (h : a ≠ 0) : vx_then a b = a := if_pos h
theorem vx_al1 : vx_allowed M A 1 = vx_then (vx_ismap M A 1) (vx_tells M A 2 (M.key (A.1 1).det)) := rfl
theorem vx_al2 : vx_allowed M A 2 = vx_then (vx_ismap M A 2) (vx_then (vx_tells M A 2 (M.key (A.1 1).det)) (vx_then (vx_tells M A 3 (M.value (A.1 1).det)) (vx_isnum A 4 8))) := rfl
theorem vx_al3 : vx_allowed M A 3 = vx_then (vx_ismap M A 3) (vx_tells M A 2 (M.key (A.1 1).det)) := rfl
theorem vx_al4 : vx_allowed M A 4 = vx_then (vx_ismap M A 4) (vx_then (vx_isnum A 3 8) (vx_then (if (A.1 3).val.least.toInt < 1 ∨ 256 < (A.1 3).val.greatest.toInt then 8 else 0) (vx_tells M A 2 (A.1 3).val.greatest.toInt.toNat))) := rfl
theorem vx_al5 : vx_allowed M A 5 = 0 := rfl
theorem vx_al6 : vx_allowed M A 6 = (if (A.1 1).sort = 0 then 1 else if (A.1 1).sort = 2 ∧ (A.1 1).det = 0 then vx_isnum A 2 8 else 8) := rfl
theorem vx_al7 {c : Int} (h : c < 1 ∨ 6 < c) : vx_allowed M A c = 7 := (if_neg (by omega)).trans (if_pos h)
theorem vx_im1 {c : Int} (h : (A.1 1).sort = 0) : vx_ismap M A c = 1 := if_pos h
theorem vx_im8 {c : Int} (h : ¬ (A.1 1).sort = 0) (h6 : ¬ (A.1 1).sort = 6) : vx_ismap M A c = 8 := (if_neg h).trans (if_neg h6)
theorem vx_imN {c : Int} (h6 : (A.1 1).sort = 6) (hn : M (A.1 1).det.toNat = none) : vx_ismap M A c = 8 := by
  unfold vx_ismap
  rw [if_neg (by omega), if_pos h6]
  have e : M.kind (A.1 1).det = none := by unfold vf_M.kind; rw [hn]; rfl
  rw [e]
theorem vx_imF {c : Int} {e : Nat × Nat × Nat} (h6 : (A.1 1).sort = 6) (hn : M (A.1 1).det.toNat = some e) : vx_ismap M A c = if (if c = 4 then e.1 = 2 else if c = 3 then e.1 = 1 else e.1 ≠ 2) then 0 else 8 := by
  unfold vx_ismap
  rw [if_neg (by omega), if_pos h6]
  have q : M.kind (A.1 1).det = some e.1 := by unfold vf_M.kind; rw [hn]; rfl
  rw [q]
theorem vf_key_of {k : Int} {e : Nat × Nat × Nat} (h : M k.toNat = some e) : M.key k = e.2.1 ∧ M.value k = e.2.2 := by
  unfold vf_M.key vf_M.value; rw [h]; exact ⟨rfl, rfl⟩
theorem vx_isnum_eq {r other : Nat} (h : other ≠ 0) : vx_isnum A r other = 0 ↔ (A.1 r).sort = 1 := by
  unfold vx_isnum
  by_cases c : (A.1 r).sort = 1
  · rw [if_pos c]; exact ⟨fun _ => c, fun _ => rfl⟩
  · rw [if_neg c]
    refine ⟨fun z => ?_, fun z => absurd z c⟩
    by_cases c0 : (A.1 r).sort = 0
    · rw [if_pos c0] at z; cases z
    · rw [if_neg c0] at z; exact absurd z h
theorem vx_isnum_lt {r : Nat} : vx_isnum A r 8 < 9 := by
  unfold vx_isnum
  split
  · decide
  · split <;> decide
theorem vx_tells_lt {r n : Nat} : vx_tells M A r n < 9 := by
  unfold vx_tells
  dsimp only
  repeat' split
  all_goals decide
theorem vi_g32 {x : Int64} (h0 : 0 ≤ x.toInt) (h1 : x.toInt ≤ 256) : x.toInt32 = vl_I x.toInt.toNat := by
  refine Int32.toInt_inj.mp ?_
  have e : (vl_I x.toInt.toNat).toInt = (x.toInt.toNat : Int) := vl_I_int (by omega)
  rw [e, Int64.toInt_toInt32]
  exact (Int.bmod_eq_of_le (by omega) (by omega)).trans (by omega)
end
theorem jv_i46 : jv_I 46 6 (some .int) 3 70 jv_c46 := ⟨rfl, rfl, rfl, rfl, rfl⟩
theorem vc_allowed1 {K : Nat → Option (Nat × Nat)} {I : Nat → Nat → Int32} {L : Nat → Nat → Int64} {R : Nat → Nat → Value} {M : vf_M} (hC : vc_C K R) (hM : vc_M K I R M) (hkn : (L 12 1).toInt ≤ 1073000000) (oa : vc_okA I L 12) (tA : ∀ n, n < 75 → vt_ok (vc_T I L (12 + 2 + n))) (gA : ∀ n, n < 75 → vc_g I L (12 + 2 + n)) (m6 : I (12 + 2 + 1) 6 = 6 → 0 ≤ (I (12 + 2 + 1) 7).toInt) {n sl : Nat} : ∃ I1 L1, jv_Ms 46 [.ref 10, .int (1 : Int32)] (jv_H K I L R) n sl (some (.int (vl_I (vx_allowed M (vc_A I L 12) 1))), jv_H K I1 L1 R, n, sl) ∧ I1 = I ∧ L1 = L := by
  obtain ⟨Q, hQ⟩ : ∃ Q : jv_R → Prop, Q = fun X => ∃ I1 L1, X = (some (.int (vl_I (vx_allowed M (vc_A I L 12) 1))), jv_H K I1 L1 R, n, sl) ∧ I1 = I ∧ L1 = L := ⟨_, rfl⟩
  suffices h : jv_Wp 46 0 [(0, .ref 10), (1, .int (1 : Int32))] [] (jv_H K I L R) n sl Q by
    rw [hQ] at h
    obtain ⟨X, h, I1, L1, e, h'⟩ := h
    subst e
    exact ⟨I1, L1, h, h'⟩
  refine jv_Wp.lift (fun _ Kz => jv_Ev.steps jv_i46 1 (pc' := 1) (l' := [(0, .ref 10), (1, .int (1 : Int32))]) (st' := [.ref 10]) rfl Kz) ?_
  refine jv_Wp.lift (fun _ Kz => jv_Ev.m jv_i46 (pc' := 4) (st' := [.ref 12]) (G' := (jv_H K I L R)) rfl rfl (jv_m_getR hC.k rfl rfl hC.rnow) Kz) ?_
  refine jv_Wp.lift (fun _ Kz => jv_Ev.m jv_i46 (pc' := 7) (st' := [.ref (12 + 1)]) (G' := (jv_H K I L R)) rfl rfl (jv_m_getR hC.now.k rfl rfl hC.now.r) Kz) ?_
  refine jv_Wp.lift (fun _ Kz => jv_Ev.steps jv_i46 1 (pc' := 8) (l' := [(0, .ref 10), (1, .int (1 : Int32))]) (st' := [.int (1 : Int32), .ref (12 + 1)]) rfl Kz) ?_
  refine jv_Wp.lift (fun _ Kz => jv_Ev.m jv_i46 (pc' := 9) (st' := [.ref (12 + 2 + 1)]) (G' := (jv_H K I L R)) rfl rfl (jv_m_aaldR hC.now.kt rfl (by decide) rfl (hC.now.rt 1 (by decide))) Kz) ?_
  refine jv_Wp.lift (fun _ Kz => jv_Ev.steps jv_i46 2 (pc' := 11) (l' := [(2, .ref (12 + 2 + 1)), (0, .ref 10), (1, .int (1 : Int32))]) (st' := [.ref 10]) rfl Kz) ?_
  refine jv_Wp.lift (fun _ Kz => jv_Ev.m jv_i46 (pc' := 14) (st' := [.ref 12]) (G' := (jv_H K I L R)) rfl rfl (jv_m_getR hC.k rfl rfl hC.rnow) Kz) ?_
  refine jv_Wp.lift (fun _ Kz => jv_Ev.m jv_i46 (pc' := 17) (st' := [.ref (12 + 1)]) (G' := (jv_H K I L R)) rfl rfl (jv_m_getR hC.now.k rfl rfl hC.now.r) Kz) ?_
  refine jv_Wp.lift (fun _ Kz => jv_Ev.steps jv_i46 1 (pc' := 18) (l' := [(2, .ref (12 + 2 + 1)), (0, .ref 10), (1, .int (1 : Int32))]) (st' := [.int (3 : Int32), .ref (12 + 1)]) rfl Kz) ?_
  refine jv_Wp.lift (fun _ Kz => jv_Ev.m jv_i46 (pc' := 19) (st' := [.ref (12 + 2 + 3)]) (G' := (jv_H K I L R)) rfl rfl (jv_m_aaldR hC.now.kt rfl (by decide) rfl (hC.now.rt 3 (by decide))) Kz) ?_
  refine jv_Wp.lift (fun _ Kz => jv_Ev.steps jv_i46 3 (pc' := 22) (l' := [(3, .ref (12 + 2 + 3)), (2, .ref (12 + 2 + 1)), (0, .ref 10), (1, .int (1 : Int32))]) (st' := [.int (5 : Int32), .int (1 : Int32)]) rfl Kz) ?_
  refine jv_Wp.lift (fun _ Kz => jv_Ev.br jv_i46 (pc' := 25) (st' := []) rfl (by rfl) Kz) ?_
  refine jv_Wp.lift (fun _ Kz => jv_Ev.steps jv_i46 2 (pc' := 27) (l' := [(3, .ref (12 + 2 + 3)), (2, .ref (12 + 2 + 1)), (0, .ref 10), (1, .int (1 : Int32))]) (st' := [.int (1 : Int32), .int (1 : Int32)]) rfl Kz) ?_
  refine jv_Wp.lift (fun _ Kz => jv_Ev.br jv_i46 (pc' := 30) (st' := []) rfl (by rfl) Kz) ?_
  refine jv_Wp.lift (fun _ Kz => jv_Ev.steps jv_i46 2 (pc' := 33) (l' := [(3, .ref (12 + 2 + 3)), (2, .ref (12 + 2 + 1)), (0, .ref 10), (1, .int (1 : Int32))]) (st' := [.int (6 : Int32), .int (1 : Int32)]) rfl Kz) ?_
  refine jv_Wp.lift (fun _ Kz => jv_Ev.br jv_i46 (pc' := 48) (st' := []) rfl (by rfl) Kz) ?_
  refine jv_Wp.lift (fun _ Kz => jv_Ev.steps jv_i46 1 (pc' := 49) (l' := [(3, .ref (12 + 2 + 3)), (2, .ref (12 + 2 + 1)), (0, .ref 10), (1, .int (1 : Int32))]) (st' := [.ref (12 + 2 + 1)]) rfl Kz) ?_
  refine jv_Wp.lift (fun _ Kz => jv_Ev.m jv_i46 (pc' := 52) (st' := [.int (I (12 + 2 + 1) 6)]) (G' := (jv_H K I L R)) rfl rfl (jv_m_getI (hC.now.kk 1 (by decide)) rfl rfl rfl) Kz) ?_
  refine jv_Wp.cnd jv_i46 (pt := 57) (pe := 55) (p := (¬ (I (12 + 2 + 1) 6) = 0)) (q := (¬ (I (12 + 2 + 1) 6) = 0)) rfl jv_bi_ne rfl rfl Iff.rfl (fun h1 => ?_) (fun h1 => ?_)
  · refine jv_Wp.lift (fun _ Kz => jv_Ev.steps jv_i46 2 (pc' := 60) (l' := [(3, .ref (12 + 2 + 3)), (2, .ref (12 + 2 + 1)), (0, .ref 10), (1, .int (1 : Int32))]) (st' := [.int (6 : Int32), .int (1 : Int32)]) rfl Kz) ?_
    refine jv_Wp.lift (fun _ Kz => jv_Ev.br jv_i46 (pc' := 93) (st' := []) rfl (by rfl) Kz) ?_
    refine jv_Wp.lift (fun _ Kz => jv_Ev.steps jv_i46 1 (pc' := 94) (l' := [(3, .ref (12 + 2 + 3)), (2, .ref (12 + 2 + 1)), (0, .ref 10), (1, .int (1 : Int32))]) (st' := [.ref (12 + 2 + 1)]) rfl Kz) ?_
    refine jv_Wp.lift (fun _ Kz => jv_Ev.m jv_i46 (pc' := 97) (st' := [.int (I (12 + 2 + 1) 6)]) (G' := (jv_H K I L R)) rfl rfl (jv_m_getI (hC.now.kk 1 (by decide)) rfl rfl rfl) Kz) ?_
    refine jv_Wp.lift (fun _ Kz => jv_Ev.steps jv_i46 1 (pc' := 99) (l' := [(3, .ref (12 + 2 + 3)), (2, .ref (12 + 2 + 1)), (0, .ref 10), (1, .int (1 : Int32))]) (st' := [.int (6 : Int32), .int (I (12 + 2 + 1) 6)]) rfl Kz) ?_
    refine jv_Wp.cnd jv_i46 (pt := 117) (pe := 102) (p := (¬ (I (12 + 2 + 1) 6) = (6 : Int32))) (q := (¬ (I (12 + 2 + 1) 6) = (6 : Int32))) rfl jv_bc_ne rfl rfl Iff.rfl (fun h2 => ?_) (fun h2 => ?_)
    · refine jv_Wp.lift (fun _ Kz => jv_Ev.steps jv_i46 3 (pc' := 122) (l' := [(4, .null), (3, .ref (12 + 2 + 3)), (2, .ref (12 + 2 + 1)), (0, .ref 10), (1, .int (1 : Int32))]) (st' := [.null]) rfl Kz) ?_
      refine jv_Wp.lift (fun _ Kz => jv_Ev.br jv_i46 (pc' := 134) (st' := []) rfl (by rfl) Kz) ?_
      refine jv_Wp.lift (fun _ Kz => jv_Ev.steps jv_i46 1 (pc' := 136) (l' := [(4, .null), (3, .ref (12 + 2 + 3)), (2, .ref (12 + 2 + 1)), (0, .ref 10), (1, .int (1 : Int32))]) (st' := [.int (8 : Int32)]) rfl Kz) ?_
      refine jv_Wp.of (jv_Ev.ret jv_i46 rfl rfl) ?_
      rw [hQ]
      have eo1 : ((vc_A I L 12).1 1) = vc_T I L (12 + 2 + 1) := vc_A1 (by decide)
      have eo3 : ((vc_A I L 12).1 3) = vc_T I L (12 + 2 + 3) := vc_A1 (by decide)
      have s0 : ¬ ((vc_A I L 12).1 1).sort = 0 := fun z => h1 ((vc_is0 (oa 1 (by decide))).mp (eo1 ▸ z))
      have s6 : ¬ ((vc_A I L 12).1 1).sort = 6 := fun z => h2 ((vc_is6 (oa 1 (by decide))).mp (eo1 ▸ z))
      have im : vx_ismap M (vc_A I L 12) 1 = 8 := vx_im8 s0 s6
      have e : (vx_allowed M (vc_A I L 12) 1) = 8 := by rw [vx_al1, im]; exact vx_thenn (by decide)
      exact ⟨_, _, by rw [e]; rfl, rfl, rfl⟩
    · refine jv_Wp.lift (fun _ Kz => jv_Ev.steps jv_i46 1 (pc' := 103) (l' := [(3, .ref (12 + 2 + 3)), (2, .ref (12 + 2 + 1)), (0, .ref 10), (1, .int (1 : Int32))]) (st' := [.ref 10]) rfl Kz) ?_
      refine jv_Wp.lift (fun _ Kz => jv_Ev.m jv_i46 (pc' := 106) (st' := [.ref 2]) (G' := (jv_H K I L R)) rfl rfl (jv_m_getR hC.k rfl rfl hC.rstore) Kz) ?_
      refine jv_Wp.lift (fun _ Kz => jv_Ev.steps jv_i46 1 (pc' := 107) (l' := [(3, .ref (12 + 2 + 3)), (2, .ref (12 + 2 + 1)), (0, .ref 10), (1, .int (1 : Int32))]) (st' := [.ref (12 + 2 + 1), .ref 2]) rfl Kz) ?_
      refine jv_Wp.lift (fun _ Kz => jv_Ev.m jv_i46 (pc' := 110) (st' := [.int (I (12 + 2 + 1) 7), .ref 2]) (G' := (jv_H K I L R)) rfl rfl (jv_m_getI (hC.now.kk 1 (by decide)) rfl rfl rfl) Kz) ?_
      refine jv_Wp.lift (fun _ Kz => jv_Ev.steps jv_i46 1 (pc' := 111) (l' := [(3, .ref (12 + 2 + 3)), (2, .ref (12 + 2 + 1)), (0, .ref 10), (1, .int (1 : Int32))]) (st' := [.long (I (12 + 2 + 1) 7).toInt64, .ref 2]) rfl Kz) ?_
      rcases vc_map (I := I) (L := L) (R := R) (n := n) (sl := sl) hM (I (12 + 2 + 1) 7).toInt64 with ⟨o1, e1, H1, hk1, me1, hm1⟩ | ⟨H1, hk1⟩
      · refine jv_Wp.lift (fun _ Kz => jv_Ev.c jv_i46 (pc' := 114) (S' := [.ref o1]) jv_i126 [.ref 2, .long (I (12 + 2 + 1) 7).toInt64] rfl rfl rfl rfl (jv_cal rfl (jv_H_at hM.1) rfl rfl) rfl H1 rfl rfl Kz) ?_
        refine jv_Wp.lift (fun _ Kz => jv_Ev.steps jv_i46 3 (pc' := 122) (l' := [(4, .ref o1), (3, .ref (12 + 2 + 3)), (2, .ref (12 + 2 + 1)), (0, .ref 10), (1, .int (1 : Int32))]) (st' := [.ref o1]) rfl Kz) ?_
        refine jv_Wp.lift (fun _ Kz => jv_Ev.br jv_i46 (pc' := 125) (st' := []) rfl (by rfl) Kz) ?_
        refine jv_Wp.lift (fun _ Kz => jv_Ev.steps jv_i46 2 (pc' := 128) (l' := [(4, .ref o1), (3, .ref (12 + 2 + 3)), (2, .ref (12 + 2 + 1)), (0, .ref 10), (1, .int (1 : Int32))]) (st' := [.int (1 : Int32), .ref o1]) rfl Kz) ?_
        obtain ⟨I2, L2, H2, ei2, el2⟩ := vc_takes (I := I) (L := L) (R := R) (n := n) (sl := sl) 1 hm1 (by decide)
        rw [ei2, el2] at H2
        refine jv_Wp.lift (fun _ Kz => jv_Ev.c jv_i46 (pc' := 131) (S' := [.int (vr_b (decide (if 1 = 4 then e1.1 = 2 else if 1 = 3 then e1.1 = 1 else e1.1 ≠ 2)))]) jv_i47 [.ref o1, .int (1 : Int32)] rfl rfl rfl rfl rfl rfl H2 rfl rfl Kz) ?_
        refine jv_Wp.cnd jv_i46 (pt := 137) (pe := 134) (p := (¬ (vr_b (decide (if 1 = 4 then e1.1 = 2 else if 1 = 3 then e1.1 = 1 else e1.1 ≠ 2))) = 0)) (q := (¬ (vr_b (decide (if 1 = 4 then e1.1 = 2 else if 1 = 3 then e1.1 = 1 else e1.1 ≠ 2))) = 0)) rfl jv_bi_ne rfl rfl Iff.rfl (fun h3 => ?_) (fun h3 => ?_)
        · refine jv_Wp.lift (fun _ Kz => jv_Ev.steps jv_i46 2 (pc' := 139) (l' := [(4, .ref o1), (3, .ref (12 + 2 + 3)), (2, .ref (12 + 2 + 1)), (0, .ref 10), (1, .int (1 : Int32))]) (st' := [.int (4 : Int32), .int (1 : Int32)]) rfl Kz) ?_
          refine jv_Wp.lift (fun _ Kz => jv_Ev.br jv_i46 (pc' := 201) (st' := []) rfl (by rfl) Kz) ?_
          refine jv_Wp.lift (fun _ Kz => jv_Ev.steps jv_i46 3 (pc' := 205) (l' := [(4, .ref o1), (3, .ref (12 + 2 + 3)), (2, .ref (12 + 2 + 1)), (0, .ref 10), (1, .int (1 : Int32))]) (st' := [.ref o1, .int (2 : Int32), .ref 10]) rfl Kz) ?_
          refine jv_Wp.lift (fun _ Kz => jv_Ev.m jv_i46 (pc' := 208) (st' := [.int (I o1 1), .int (2 : Int32), .ref 10]) (G' := (jv_H K I L R)) rfl rfl (vc_m_get hm1 (by decide) rfl) Kz) ?_
          obtain ⟨I3, L3, H3, ei3, el3⟩ := vc_tells (I := I) (L := L) (R := R) (n := n) (sl := sl) (M := M) 2 e1.2.1 hC hM (by decide) (by have := hm1.2.2.2.2.2; omega) hkn oa tA gA
          rw [ei3, el3] at H3
          rw [← hm1.2.2.2.1] at H3
          refine jv_Wp.lift (fun _ Kz => jv_Ev.c jv_i46 (pc' := 211) (S' := [.int (vl_I (vx_tells M (vc_A I L 12) 2 (e1.2.1)))]) jv_i48 [.ref 10, .int (2 : Int32), .int (I o1 1)] rfl rfl rfl rfl (jv_cal rfl (jv_H_at hC.k) rfl rfl) rfl H3 rfl rfl Kz) ?_
          refine jv_Wp.lift (fun _ Kz => jv_Ev.steps jv_i46 3 (pc' := 215) (l' := [(5, .int (vl_I (vx_tells M (vc_A I L 12) 2 (e1.2.1)))), (4, .ref o1), (3, .ref (12 + 2 + 3)), (2, .ref (12 + 2 + 1)), (0, .ref 10), (1, .int (1 : Int32))]) (st' := [.int (2 : Int32), .int (1 : Int32)]) rfl Kz) ?_
          refine jv_Wp.lift (fun _ Kz => jv_Ev.br jv_i46 (pc' := 235) (st' := []) rfl (by rfl) Kz) ?_
          refine jv_Wp.lift (fun _ Kz => jv_Ev.steps jv_i46 2 (pc' := 237) (l' := [(5, .int (vl_I (vx_tells M (vc_A I L 12) 2 (e1.2.1)))), (4, .ref o1), (3, .ref (12 + 2 + 3)), (2, .ref (12 + 2 + 1)), (0, .ref 10), (1, .int (1 : Int32))]) (st' := [.int (2 : Int32), .int (1 : Int32)]) rfl Kz) ?_
          refine jv_Wp.lift (fun _ Kz => jv_Ev.br jv_i46 (pc' := 255) (st' := []) rfl (by rfl) Kz) ?_
          refine jv_Wp.lift (fun _ Kz => jv_Ev.steps jv_i46 1 (pc' := 257) (l' := [(5, .int (vl_I (vx_tells M (vc_A I L 12) 2 (e1.2.1)))), (4, .ref o1), (3, .ref (12 + 2 + 3)), (2, .ref (12 + 2 + 1)), (0, .ref 10), (1, .int (1 : Int32))]) (st' := [.int (vl_I (vx_tells M (vc_A I L 12) 2 (e1.2.1)))]) rfl Kz) ?_
          refine jv_Wp.of (jv_Ev.ret jv_i46 rfl rfl) ?_
          rw [hQ]
          have eo1 : ((vc_A I L 12).1 1) = vc_T I L (12 + 2 + 1) := vc_A1 (by decide)
          have eo3 : ((vc_A I L 12).1 3) = vc_T I L (12 + 2 + 3) := vc_A1 (by decide)
          have s0 : ¬ ((vc_A I L 12).1 1).sort = 0 := fun z => h1 ((vc_is0 (oa 1 (by decide))).mp (eo1 ▸ z))
          have s6 : ((vc_A I L 12).1 1).sort = 6 := eo1 ▸ (vc_is6 (oa 1 (by decide))).mpr (Classical.not_not.mp h2)
          have i6 := (vc_is6 (oa 1 (by decide))).mp (eo1 ▸ s6)
          have d1 : ((vc_A I L 12).1 1).det = (I (12 + 2 + 1) 7).toInt := by rw [eo1]; exact vc_detm (Or.inl i6)
          have dt : (I (12 + 2 + 1) 7).toInt64.toInt = ((vc_A I L 12).1 1).det := by rw [d1]; exact Int32.toInt_toInt64 _
          rw [dt] at me1
          have tk := of_decide_eq_true (vr_b_t h3)
          have ke := vf_key_of me1
          have im : vx_ismap M (vc_A I L 12) 1 = 0 := (vx_imF s6 me1).trans (if_pos tk)
          have e : (vx_allowed M (vc_A I L 12) 1) = vx_tells M (vc_A I L 12) 2 e1.2.1 := by rw [vx_al1, im, vx_then0, ke.1]
          exact ⟨_, _, by rw [e], rfl, rfl⟩
        · refine jv_Wp.lift (fun _ Kz => jv_Ev.steps jv_i46 1 (pc' := 136) (l' := [(4, .ref o1), (3, .ref (12 + 2 + 3)), (2, .ref (12 + 2 + 1)), (0, .ref 10), (1, .int (1 : Int32))]) (st' := [.int (8 : Int32)]) rfl Kz) ?_
          refine jv_Wp.of (jv_Ev.ret jv_i46 rfl rfl) ?_
          rw [hQ]
          have eo1 : ((vc_A I L 12).1 1) = vc_T I L (12 + 2 + 1) := vc_A1 (by decide)
          have eo3 : ((vc_A I L 12).1 3) = vc_T I L (12 + 2 + 3) := vc_A1 (by decide)
          have s0 : ¬ ((vc_A I L 12).1 1).sort = 0 := fun z => h1 ((vc_is0 (oa 1 (by decide))).mp (eo1 ▸ z))
          have s6 : ((vc_A I L 12).1 1).sort = 6 := eo1 ▸ (vc_is6 (oa 1 (by decide))).mpr (Classical.not_not.mp h2)
          have i6 := (vc_is6 (oa 1 (by decide))).mp (eo1 ▸ s6)
          have d1 : ((vc_A I L 12).1 1).det = (I (12 + 2 + 1) 7).toInt := by rw [eo1]; exact vc_detm (Or.inl i6)
          have dt : (I (12 + 2 + 1) 7).toInt64.toInt = ((vc_A I L 12).1 1).det := by rw [d1]; exact Int32.toInt_toInt64 _
          rw [dt] at me1
          have tk := of_decide_eq_false (vr_b_f (Classical.not_not.mp h3))
          have im : vx_ismap M (vc_A I L 12) 1 = 8 := (vx_imF s6 me1).trans (if_neg tk)
          have e : (vx_allowed M (vc_A I L 12) 1) = 8 := by rw [vx_al1, im]; exact vx_thenn (by decide)
          exact ⟨_, _, by rw [e]; rfl, rfl, rfl⟩
      · refine jv_Wp.lift (fun _ Kz => jv_Ev.c jv_i46 (pc' := 114) (S' := [.null]) jv_i126 [.ref 2, .long (I (12 + 2 + 1) 7).toInt64] rfl rfl rfl rfl (jv_cal rfl (jv_H_at hM.1) rfl rfl) rfl H1 rfl rfl Kz) ?_
        refine jv_Wp.lift (fun _ Kz => jv_Ev.steps jv_i46 3 (pc' := 122) (l' := [(4, .null), (3, .ref (12 + 2 + 3)), (2, .ref (12 + 2 + 1)), (0, .ref 10), (1, .int (1 : Int32))]) (st' := [.null]) rfl Kz) ?_
        refine jv_Wp.lift (fun _ Kz => jv_Ev.br jv_i46 (pc' := 134) (st' := []) rfl (by rfl) Kz) ?_
        refine jv_Wp.lift (fun _ Kz => jv_Ev.steps jv_i46 1 (pc' := 136) (l' := [(4, .null), (3, .ref (12 + 2 + 3)), (2, .ref (12 + 2 + 1)), (0, .ref 10), (1, .int (1 : Int32))]) (st' := [.int (8 : Int32)]) rfl Kz) ?_
        refine jv_Wp.of (jv_Ev.ret jv_i46 rfl rfl) ?_
        rw [hQ]
        have eo1 : ((vc_A I L 12).1 1) = vc_T I L (12 + 2 + 1) := vc_A1 (by decide)
        have eo3 : ((vc_A I L 12).1 3) = vc_T I L (12 + 2 + 3) := vc_A1 (by decide)
        have s0 : ¬ ((vc_A I L 12).1 1).sort = 0 := fun z => h1 ((vc_is0 (oa 1 (by decide))).mp (eo1 ▸ z))
        have s6 : ((vc_A I L 12).1 1).sort = 6 := eo1 ▸ (vc_is6 (oa 1 (by decide))).mpr (Classical.not_not.mp h2)
        have i6 := (vc_is6 (oa 1 (by decide))).mp (eo1 ▸ s6)
        have d1 : ((vc_A I L 12).1 1).det = (I (12 + 2 + 1) 7).toInt := by rw [eo1]; exact vc_detm (Or.inl i6)
        have dt : (I (12 + 2 + 1) 7).toInt64.toInt = ((vc_A I L 12).1 1).det := by rw [d1]; exact Int32.toInt_toInt64 _
        rw [dt] at hk1
        have mn : M ((vc_A I L 12).1 1).det.toNat = none := hk1.resolve_left (by rw [d1]; exact Int.not_lt.mpr (m6 i6))
        have im : vx_ismap M (vc_A I L 12) 1 = 8 := vx_imN s6 mn
        have e : (vx_allowed M (vc_A I L 12) 1) = 8 := by rw [vx_al1, im]; exact vx_thenn (by decide)
        exact ⟨_, _, by rw [e]; rfl, rfl, rfl⟩
  · refine jv_Wp.lift (fun _ Kz => jv_Ev.steps jv_i46 1 (pc' := 56) (l' := [(3, .ref (12 + 2 + 3)), (2, .ref (12 + 2 + 1)), (0, .ref 10), (1, .int (1 : Int32))]) (st' := [.int (1 : Int32)]) rfl Kz) ?_
    refine jv_Wp.of (jv_Ev.ret jv_i46 rfl rfl) ?_
    rw [hQ]
    have eo1 : ((vc_A I L 12).1 1) = vc_T I L (12 + 2 + 1) := vc_A1 (by decide)
    have eo3 : ((vc_A I L 12).1 3) = vc_T I L (12 + 2 + 3) := vc_A1 (by decide)
    have s0 : ((vc_A I L 12).1 1).sort = 0 := eo1 ▸ (vc_is0 (oa 1 (by decide))).mpr (Classical.not_not.mp h1)
    have im : vx_ismap M (vc_A I L 12) 1 = 1 := vx_im1 s0
    have e : (vx_allowed M (vc_A I L 12) 1) = 1 := by rw [vx_al1, im]; exact vx_thenn (by decide)
    exact ⟨_, _, by rw [e]; rfl, rfl, rfl⟩
theorem vc_allowed2 {K : Nat → Option (Nat × Nat)} {I : Nat → Nat → Int32} {L : Nat → Nat → Int64} {R : Nat → Nat → Value} {M : vf_M} (hC : vc_C K R) (hM : vc_M K I R M) (hkn : (L 12 1).toInt ≤ 1073000000) (oa : vc_okA I L 12) (tA : ∀ n, n < 75 → vt_ok (vc_T I L (12 + 2 + n))) (gA : ∀ n, n < 75 → vc_g I L (12 + 2 + n)) (m6 : I (12 + 2 + 1) 6 = 6 → 0 ≤ (I (12 + 2 + 1) 7).toInt) {n sl : Nat} : ∃ I1 L1, jv_Ms 46 [.ref 10, .int (2 : Int32)] (jv_H K I L R) n sl (some (.int (vl_I (vx_allowed M (vc_A I L 12) 2))), jv_H K I1 L1 R, n, sl) ∧ I1 = I ∧ L1 = L := by
  obtain ⟨Q, hQ⟩ : ∃ Q : jv_R → Prop, Q = fun X => ∃ I1 L1, X = (some (.int (vl_I (vx_allowed M (vc_A I L 12) 2))), jv_H K I1 L1 R, n, sl) ∧ I1 = I ∧ L1 = L := ⟨_, rfl⟩
  suffices h : jv_Wp 46 0 [(0, .ref 10), (1, .int (2 : Int32))] [] (jv_H K I L R) n sl Q by
    rw [hQ] at h
    obtain ⟨X, h, I1, L1, e, h'⟩ := h
    subst e
    exact ⟨I1, L1, h, h'⟩
  refine jv_Wp.lift (fun _ Kz => jv_Ev.steps jv_i46 1 (pc' := 1) (l' := [(0, .ref 10), (1, .int (2 : Int32))]) (st' := [.ref 10]) rfl Kz) ?_
  refine jv_Wp.lift (fun _ Kz => jv_Ev.m jv_i46 (pc' := 4) (st' := [.ref 12]) (G' := (jv_H K I L R)) rfl rfl (jv_m_getR hC.k rfl rfl hC.rnow) Kz) ?_
  refine jv_Wp.lift (fun _ Kz => jv_Ev.m jv_i46 (pc' := 7) (st' := [.ref (12 + 1)]) (G' := (jv_H K I L R)) rfl rfl (jv_m_getR hC.now.k rfl rfl hC.now.r) Kz) ?_
  refine jv_Wp.lift (fun _ Kz => jv_Ev.steps jv_i46 1 (pc' := 8) (l' := [(0, .ref 10), (1, .int (2 : Int32))]) (st' := [.int (1 : Int32), .ref (12 + 1)]) rfl Kz) ?_
  refine jv_Wp.lift (fun _ Kz => jv_Ev.m jv_i46 (pc' := 9) (st' := [.ref (12 + 2 + 1)]) (G' := (jv_H K I L R)) rfl rfl (jv_m_aaldR hC.now.kt rfl (by decide) rfl (hC.now.rt 1 (by decide))) Kz) ?_
  refine jv_Wp.lift (fun _ Kz => jv_Ev.steps jv_i46 2 (pc' := 11) (l' := [(2, .ref (12 + 2 + 1)), (0, .ref 10), (1, .int (2 : Int32))]) (st' := [.ref 10]) rfl Kz) ?_
  refine jv_Wp.lift (fun _ Kz => jv_Ev.m jv_i46 (pc' := 14) (st' := [.ref 12]) (G' := (jv_H K I L R)) rfl rfl (jv_m_getR hC.k rfl rfl hC.rnow) Kz) ?_
  refine jv_Wp.lift (fun _ Kz => jv_Ev.m jv_i46 (pc' := 17) (st' := [.ref (12 + 1)]) (G' := (jv_H K I L R)) rfl rfl (jv_m_getR hC.now.k rfl rfl hC.now.r) Kz) ?_
  refine jv_Wp.lift (fun _ Kz => jv_Ev.steps jv_i46 1 (pc' := 18) (l' := [(2, .ref (12 + 2 + 1)), (0, .ref 10), (1, .int (2 : Int32))]) (st' := [.int (3 : Int32), .ref (12 + 1)]) rfl Kz) ?_
  refine jv_Wp.lift (fun _ Kz => jv_Ev.m jv_i46 (pc' := 19) (st' := [.ref (12 + 2 + 3)]) (G' := (jv_H K I L R)) rfl rfl (jv_m_aaldR hC.now.kt rfl (by decide) rfl (hC.now.rt 3 (by decide))) Kz) ?_
  refine jv_Wp.lift (fun _ Kz => jv_Ev.steps jv_i46 3 (pc' := 22) (l' := [(3, .ref (12 + 2 + 3)), (2, .ref (12 + 2 + 1)), (0, .ref 10), (1, .int (2 : Int32))]) (st' := [.int (5 : Int32), .int (2 : Int32)]) rfl Kz) ?_
  refine jv_Wp.lift (fun _ Kz => jv_Ev.br jv_i46 (pc' := 25) (st' := []) rfl (by rfl) Kz) ?_
  refine jv_Wp.lift (fun _ Kz => jv_Ev.steps jv_i46 2 (pc' := 27) (l' := [(3, .ref (12 + 2 + 3)), (2, .ref (12 + 2 + 1)), (0, .ref 10), (1, .int (2 : Int32))]) (st' := [.int (1 : Int32), .int (2 : Int32)]) rfl Kz) ?_
  refine jv_Wp.lift (fun _ Kz => jv_Ev.br jv_i46 (pc' := 30) (st' := []) rfl (by rfl) Kz) ?_
  refine jv_Wp.lift (fun _ Kz => jv_Ev.steps jv_i46 2 (pc' := 33) (l' := [(3, .ref (12 + 2 + 3)), (2, .ref (12 + 2 + 1)), (0, .ref 10), (1, .int (2 : Int32))]) (st' := [.int (6 : Int32), .int (2 : Int32)]) rfl Kz) ?_
  refine jv_Wp.lift (fun _ Kz => jv_Ev.br jv_i46 (pc' := 48) (st' := []) rfl (by rfl) Kz) ?_
  refine jv_Wp.lift (fun _ Kz => jv_Ev.steps jv_i46 1 (pc' := 49) (l' := [(3, .ref (12 + 2 + 3)), (2, .ref (12 + 2 + 1)), (0, .ref 10), (1, .int (2 : Int32))]) (st' := [.ref (12 + 2 + 1)]) rfl Kz) ?_
  refine jv_Wp.lift (fun _ Kz => jv_Ev.m jv_i46 (pc' := 52) (st' := [.int (I (12 + 2 + 1) 6)]) (G' := (jv_H K I L R)) rfl rfl (jv_m_getI (hC.now.kk 1 (by decide)) rfl rfl rfl) Kz) ?_
  refine jv_Wp.cnd jv_i46 (pt := 57) (pe := 55) (p := (¬ (I (12 + 2 + 1) 6) = 0)) (q := (¬ (I (12 + 2 + 1) 6) = 0)) rfl jv_bi_ne rfl rfl Iff.rfl (fun h1 => ?_) (fun h1 => ?_)
  · refine jv_Wp.lift (fun _ Kz => jv_Ev.steps jv_i46 2 (pc' := 60) (l' := [(3, .ref (12 + 2 + 3)), (2, .ref (12 + 2 + 1)), (0, .ref 10), (1, .int (2 : Int32))]) (st' := [.int (6 : Int32), .int (2 : Int32)]) rfl Kz) ?_
    refine jv_Wp.lift (fun _ Kz => jv_Ev.br jv_i46 (pc' := 93) (st' := []) rfl (by rfl) Kz) ?_
    refine jv_Wp.lift (fun _ Kz => jv_Ev.steps jv_i46 1 (pc' := 94) (l' := [(3, .ref (12 + 2 + 3)), (2, .ref (12 + 2 + 1)), (0, .ref 10), (1, .int (2 : Int32))]) (st' := [.ref (12 + 2 + 1)]) rfl Kz) ?_
    refine jv_Wp.lift (fun _ Kz => jv_Ev.m jv_i46 (pc' := 97) (st' := [.int (I (12 + 2 + 1) 6)]) (G' := (jv_H K I L R)) rfl rfl (jv_m_getI (hC.now.kk 1 (by decide)) rfl rfl rfl) Kz) ?_
    refine jv_Wp.lift (fun _ Kz => jv_Ev.steps jv_i46 1 (pc' := 99) (l' := [(3, .ref (12 + 2 + 3)), (2, .ref (12 + 2 + 1)), (0, .ref 10), (1, .int (2 : Int32))]) (st' := [.int (6 : Int32), .int (I (12 + 2 + 1) 6)]) rfl Kz) ?_
    refine jv_Wp.cnd jv_i46 (pt := 117) (pe := 102) (p := (¬ (I (12 + 2 + 1) 6) = (6 : Int32))) (q := (¬ (I (12 + 2 + 1) 6) = (6 : Int32))) rfl jv_bc_ne rfl rfl Iff.rfl (fun h2 => ?_) (fun h2 => ?_)
    · refine jv_Wp.lift (fun _ Kz => jv_Ev.steps jv_i46 3 (pc' := 122) (l' := [(4, .null), (3, .ref (12 + 2 + 3)), (2, .ref (12 + 2 + 1)), (0, .ref 10), (1, .int (2 : Int32))]) (st' := [.null]) rfl Kz) ?_
      refine jv_Wp.lift (fun _ Kz => jv_Ev.br jv_i46 (pc' := 134) (st' := []) rfl (by rfl) Kz) ?_
      refine jv_Wp.lift (fun _ Kz => jv_Ev.steps jv_i46 1 (pc' := 136) (l' := [(4, .null), (3, .ref (12 + 2 + 3)), (2, .ref (12 + 2 + 1)), (0, .ref 10), (1, .int (2 : Int32))]) (st' := [.int (8 : Int32)]) rfl Kz) ?_
      refine jv_Wp.of (jv_Ev.ret jv_i46 rfl rfl) ?_
      rw [hQ]
      have eo1 : ((vc_A I L 12).1 1) = vc_T I L (12 + 2 + 1) := vc_A1 (by decide)
      have eo3 : ((vc_A I L 12).1 3) = vc_T I L (12 + 2 + 3) := vc_A1 (by decide)
      have s0 : ¬ ((vc_A I L 12).1 1).sort = 0 := fun z => h1 ((vc_is0 (oa 1 (by decide))).mp (eo1 ▸ z))
      have s6 : ¬ ((vc_A I L 12).1 1).sort = 6 := fun z => h2 ((vc_is6 (oa 1 (by decide))).mp (eo1 ▸ z))
      have im : vx_ismap M (vc_A I L 12) 2 = 8 := vx_im8 s0 s6
      have e : (vx_allowed M (vc_A I L 12) 2) = 8 := by rw [vx_al2, im]; exact vx_thenn (by decide)
      exact ⟨_, _, by rw [e]; rfl, rfl, rfl⟩
    · refine jv_Wp.lift (fun _ Kz => jv_Ev.steps jv_i46 1 (pc' := 103) (l' := [(3, .ref (12 + 2 + 3)), (2, .ref (12 + 2 + 1)), (0, .ref 10), (1, .int (2 : Int32))]) (st' := [.ref 10]) rfl Kz) ?_
      refine jv_Wp.lift (fun _ Kz => jv_Ev.m jv_i46 (pc' := 106) (st' := [.ref 2]) (G' := (jv_H K I L R)) rfl rfl (jv_m_getR hC.k rfl rfl hC.rstore) Kz) ?_
      refine jv_Wp.lift (fun _ Kz => jv_Ev.steps jv_i46 1 (pc' := 107) (l' := [(3, .ref (12 + 2 + 3)), (2, .ref (12 + 2 + 1)), (0, .ref 10), (1, .int (2 : Int32))]) (st' := [.ref (12 + 2 + 1), .ref 2]) rfl Kz) ?_
      refine jv_Wp.lift (fun _ Kz => jv_Ev.m jv_i46 (pc' := 110) (st' := [.int (I (12 + 2 + 1) 7), .ref 2]) (G' := (jv_H K I L R)) rfl rfl (jv_m_getI (hC.now.kk 1 (by decide)) rfl rfl rfl) Kz) ?_
      refine jv_Wp.lift (fun _ Kz => jv_Ev.steps jv_i46 1 (pc' := 111) (l' := [(3, .ref (12 + 2 + 3)), (2, .ref (12 + 2 + 1)), (0, .ref 10), (1, .int (2 : Int32))]) (st' := [.long (I (12 + 2 + 1) 7).toInt64, .ref 2]) rfl Kz) ?_
      rcases vc_map (I := I) (L := L) (R := R) (n := n) (sl := sl) hM (I (12 + 2 + 1) 7).toInt64 with ⟨o4, e4, H4, hk4, me4, hm4⟩ | ⟨H4, hk4⟩
      · refine jv_Wp.lift (fun _ Kz => jv_Ev.c jv_i46 (pc' := 114) (S' := [.ref o4]) jv_i126 [.ref 2, .long (I (12 + 2 + 1) 7).toInt64] rfl rfl rfl rfl (jv_cal rfl (jv_H_at hM.1) rfl rfl) rfl H4 rfl rfl Kz) ?_
        refine jv_Wp.lift (fun _ Kz => jv_Ev.steps jv_i46 3 (pc' := 122) (l' := [(4, .ref o4), (3, .ref (12 + 2 + 3)), (2, .ref (12 + 2 + 1)), (0, .ref 10), (1, .int (2 : Int32))]) (st' := [.ref o4]) rfl Kz) ?_
        refine jv_Wp.lift (fun _ Kz => jv_Ev.br jv_i46 (pc' := 125) (st' := []) rfl (by rfl) Kz) ?_
        refine jv_Wp.lift (fun _ Kz => jv_Ev.steps jv_i46 2 (pc' := 128) (l' := [(4, .ref o4), (3, .ref (12 + 2 + 3)), (2, .ref (12 + 2 + 1)), (0, .ref 10), (1, .int (2 : Int32))]) (st' := [.int (2 : Int32), .ref o4]) rfl Kz) ?_
        obtain ⟨I5, L5, H5, ei5, el5⟩ := vc_takes (I := I) (L := L) (R := R) (n := n) (sl := sl) 2 hm4 (by decide)
        rw [ei5, el5] at H5
        refine jv_Wp.lift (fun _ Kz => jv_Ev.c jv_i46 (pc' := 131) (S' := [.int (vr_b (decide (if 2 = 4 then e4.1 = 2 else if 2 = 3 then e4.1 = 1 else e4.1 ≠ 2)))]) jv_i47 [.ref o4, .int (2 : Int32)] rfl rfl rfl rfl rfl rfl H5 rfl rfl Kz) ?_
        refine jv_Wp.cnd jv_i46 (pt := 137) (pe := 134) (p := (¬ (vr_b (decide (if 2 = 4 then e4.1 = 2 else if 2 = 3 then e4.1 = 1 else e4.1 ≠ 2))) = 0)) (q := (¬ (vr_b (decide (if 2 = 4 then e4.1 = 2 else if 2 = 3 then e4.1 = 1 else e4.1 ≠ 2))) = 0)) rfl jv_bi_ne rfl rfl Iff.rfl (fun h3 => ?_) (fun h3 => ?_)
        · refine jv_Wp.lift (fun _ Kz => jv_Ev.steps jv_i46 2 (pc' := 139) (l' := [(4, .ref o4), (3, .ref (12 + 2 + 3)), (2, .ref (12 + 2 + 1)), (0, .ref 10), (1, .int (2 : Int32))]) (st' := [.int (4 : Int32), .int (2 : Int32)]) rfl Kz) ?_
          refine jv_Wp.lift (fun _ Kz => jv_Ev.br jv_i46 (pc' := 201) (st' := []) rfl (by rfl) Kz) ?_
          refine jv_Wp.lift (fun _ Kz => jv_Ev.steps jv_i46 3 (pc' := 205) (l' := [(4, .ref o4), (3, .ref (12 + 2 + 3)), (2, .ref (12 + 2 + 1)), (0, .ref 10), (1, .int (2 : Int32))]) (st' := [.ref o4, .int (2 : Int32), .ref 10]) rfl Kz) ?_
          refine jv_Wp.lift (fun _ Kz => jv_Ev.m jv_i46 (pc' := 208) (st' := [.int (I o4 1), .int (2 : Int32), .ref 10]) (G' := (jv_H K I L R)) rfl rfl (vc_m_get hm4 (by decide) rfl) Kz) ?_
          obtain ⟨I6, L6, H6, ei6, el6⟩ := vc_tells (I := I) (L := L) (R := R) (n := n) (sl := sl) (M := M) 2 e4.2.1 hC hM (by decide) (by have := hm4.2.2.2.2.2; omega) hkn oa tA gA
          rw [ei6, el6] at H6
          rw [← hm4.2.2.2.1] at H6
          refine jv_Wp.lift (fun _ Kz => jv_Ev.c jv_i46 (pc' := 211) (S' := [.int (vl_I (vx_tells M (vc_A I L 12) 2 (e4.2.1)))]) jv_i48 [.ref 10, .int (2 : Int32), .int (I o4 1)] rfl rfl rfl rfl (jv_cal rfl (jv_H_at hC.k) rfl rfl) rfl H6 rfl rfl Kz) ?_
          refine jv_Wp.lift (fun _ Kz => jv_Ev.steps jv_i46 3 (pc' := 215) (l' := [(5, .int (vl_I (vx_tells M (vc_A I L 12) 2 (e4.2.1)))), (4, .ref o4), (3, .ref (12 + 2 + 3)), (2, .ref (12 + 2 + 1)), (0, .ref 10), (1, .int (2 : Int32))]) (st' := [.int (2 : Int32), .int (2 : Int32)]) rfl Kz) ?_
          refine jv_Wp.lift (fun _ Kz => jv_Ev.br jv_i46 (pc' := 218) (st' := []) rfl (by rfl) Kz) ?_
          refine jv_Wp.lift (fun _ Kz => jv_Ev.steps jv_i46 1 (pc' := 220) (l' := [(5, .int (vl_I (vx_tells M (vc_A I L 12) 2 (e4.2.1)))), (4, .ref o4), (3, .ref (12 + 2 + 3)), (2, .ref (12 + 2 + 1)), (0, .ref 10), (1, .int (2 : Int32))]) (st' := [.int (vl_I (vx_tells M (vc_A I L 12) 2 (e4.2.1)))]) rfl Kz) ?_
          refine jv_Wp.cnd jv_i46 (pt := 235) (pe := 223) (p := (¬ (vl_I (vx_tells M (vc_A I L 12) 2 (e4.2.1))) = 0)) (q := (¬ (vl_I (vx_tells M (vc_A I L 12) 2 (e4.2.1))) = 0)) rfl jv_bi_ne rfl rfl Iff.rfl (fun h4 => ?_) (fun h4 => ?_)
          · refine jv_Wp.lift (fun _ Kz => jv_Ev.steps jv_i46 2 (pc' := 237) (l' := [(5, .int (vl_I (vx_tells M (vc_A I L 12) 2 (e4.2.1)))), (4, .ref o4), (3, .ref (12 + 2 + 3)), (2, .ref (12 + 2 + 1)), (0, .ref 10), (1, .int (2 : Int32))]) (st' := [.int (2 : Int32), .int (2 : Int32)]) rfl Kz) ?_
            refine jv_Wp.lift (fun _ Kz => jv_Ev.br jv_i46 (pc' := 240) (st' := []) rfl (by rfl) Kz) ?_
            refine jv_Wp.lift (fun _ Kz => jv_Ev.steps jv_i46 1 (pc' := 242) (l' := [(5, .int (vl_I (vx_tells M (vc_A I L 12) 2 (e4.2.1)))), (4, .ref o4), (3, .ref (12 + 2 + 3)), (2, .ref (12 + 2 + 1)), (0, .ref 10), (1, .int (2 : Int32))]) (st' := [.int (vl_I (vx_tells M (vc_A I L 12) 2 (e4.2.1)))]) rfl Kz) ?_
            refine jv_Wp.cnd jv_i46 (pt := 255) (pe := 245) (p := (¬ (vl_I (vx_tells M (vc_A I L 12) 2 (e4.2.1))) = 0)) (q := (¬ (vl_I (vx_tells M (vc_A I L 12) 2 (e4.2.1))) = 0)) rfl jv_bi_ne rfl rfl Iff.rfl (fun _ => ?_) (fun hz => absurd h4 hz)
            refine jv_Wp.lift (fun _ Kz => jv_Ev.steps jv_i46 1 (pc' := 257) (l' := [(5, .int (vl_I (vx_tells M (vc_A I L 12) 2 (e4.2.1)))), (4, .ref o4), (3, .ref (12 + 2 + 3)), (2, .ref (12 + 2 + 1)), (0, .ref 10), (1, .int (2 : Int32))]) (st' := [.int (vl_I (vx_tells M (vc_A I L 12) 2 (e4.2.1)))]) rfl Kz) ?_
            refine jv_Wp.of (jv_Ev.ret jv_i46 rfl rfl) ?_
            rw [hQ]
            have eo1 : ((vc_A I L 12).1 1) = vc_T I L (12 + 2 + 1) := vc_A1 (by decide)
            have eo3 : ((vc_A I L 12).1 3) = vc_T I L (12 + 2 + 3) := vc_A1 (by decide)
            have s0 : ¬ ((vc_A I L 12).1 1).sort = 0 := fun z => h1 ((vc_is0 (oa 1 (by decide))).mp (eo1 ▸ z))
            have s6 : ((vc_A I L 12).1 1).sort = 6 := eo1 ▸ (vc_is6 (oa 1 (by decide))).mpr (Classical.not_not.mp h2)
            have z4 : ¬ vx_tells M (vc_A I L 12) 2 (e4.2.1) = 0 := fun z => h4 (by rw [z]; rfl)
            have i6 := (vc_is6 (oa 1 (by decide))).mp (eo1 ▸ s6)
            have d1 : ((vc_A I L 12).1 1).det = (I (12 + 2 + 1) 7).toInt := by rw [eo1]; exact vc_detm (Or.inl i6)
            have dt : (I (12 + 2 + 1) 7).toInt64.toInt = ((vc_A I L 12).1 1).det := by rw [d1]; exact Int32.toInt_toInt64 _
            rw [dt] at me4
            have tk := of_decide_eq_true (vr_b_t h3)
            have ke := vf_key_of me4
            have im : vx_ismap M (vc_A I L 12) 2 = 0 := (vx_imF s6 me4).trans (if_pos tk)
            have e : (vx_allowed M (vc_A I L 12) 2) = vx_tells M (vc_A I L 12) 2 (e4.2.1) := by rw [vx_al2, im, vx_then0, ke.1, ke.2]; exact vx_thenn (by assumption)
            exact ⟨_, _, by rw [e], rfl, rfl⟩
          · refine jv_Wp.lift (fun _ Kz => jv_Ev.steps jv_i46 3 (pc' := 227) (l' := [(5, .int (vl_I (vx_tells M (vc_A I L 12) 2 (e4.2.1)))), (4, .ref o4), (3, .ref (12 + 2 + 3)), (2, .ref (12 + 2 + 1)), (0, .ref 10), (1, .int (2 : Int32))]) (st' := [.ref o4, .int (3 : Int32), .ref 10]) rfl Kz) ?_
            refine jv_Wp.lift (fun _ Kz => jv_Ev.m jv_i46 (pc' := 230) (st' := [.int (I o4 2), .int (3 : Int32), .ref 10]) (G' := (jv_H K I L R)) rfl rfl (vc_m_get hm4 (by decide) rfl) Kz) ?_
            obtain ⟨I7, L7, H7, ei7, el7⟩ := vc_tells (I := I) (L := L) (R := R) (n := n) (sl := sl) (M := M) 3 e4.2.2 hC hM (by decide) (by have := hm4.2.2.2.2.2; omega) hkn oa tA gA
            rw [ei7, el7] at H7
            rw [← hm4.2.2.2.2.1] at H7
            refine jv_Wp.lift (fun _ Kz => jv_Ev.c jv_i46 (pc' := 233) (S' := [.int (vl_I (vx_tells M (vc_A I L 12) 3 (e4.2.2)))]) jv_i48 [.ref 10, .int (3 : Int32), .int (I o4 2)] rfl rfl rfl rfl (jv_cal rfl (jv_H_at hC.k) rfl rfl) rfl H7 rfl rfl Kz) ?_
            refine jv_Wp.lift (fun _ Kz => jv_Ev.steps jv_i46 3 (pc' := 237) (l' := [(5, .int (vl_I (vx_tells M (vc_A I L 12) 3 (e4.2.2)))), (4, .ref o4), (3, .ref (12 + 2 + 3)), (2, .ref (12 + 2 + 1)), (0, .ref 10), (1, .int (2 : Int32))]) (st' := [.int (2 : Int32), .int (2 : Int32)]) rfl Kz) ?_
            refine jv_Wp.lift (fun _ Kz => jv_Ev.br jv_i46 (pc' := 240) (st' := []) rfl (by rfl) Kz) ?_
            refine jv_Wp.lift (fun _ Kz => jv_Ev.steps jv_i46 1 (pc' := 242) (l' := [(5, .int (vl_I (vx_tells M (vc_A I L 12) 3 (e4.2.2)))), (4, .ref o4), (3, .ref (12 + 2 + 3)), (2, .ref (12 + 2 + 1)), (0, .ref 10), (1, .int (2 : Int32))]) (st' := [.int (vl_I (vx_tells M (vc_A I L 12) 3 (e4.2.2)))]) rfl Kz) ?_
            refine jv_Wp.cnd jv_i46 (pt := 255) (pe := 245) (p := (¬ (vl_I (vx_tells M (vc_A I L 12) 3 (e4.2.2))) = 0)) (q := (¬ (vl_I (vx_tells M (vc_A I L 12) 3 (e4.2.2))) = 0)) rfl jv_bi_ne rfl rfl Iff.rfl (fun h5 => ?_) (fun h5 => ?_)
            · refine jv_Wp.lift (fun _ Kz => jv_Ev.steps jv_i46 1 (pc' := 257) (l' := [(5, .int (vl_I (vx_tells M (vc_A I L 12) 3 (e4.2.2)))), (4, .ref o4), (3, .ref (12 + 2 + 3)), (2, .ref (12 + 2 + 1)), (0, .ref 10), (1, .int (2 : Int32))]) (st' := [.int (vl_I (vx_tells M (vc_A I L 12) 3 (e4.2.2)))]) rfl Kz) ?_
              refine jv_Wp.of (jv_Ev.ret jv_i46 rfl rfl) ?_
              rw [hQ]
              have eo1 : ((vc_A I L 12).1 1) = vc_T I L (12 + 2 + 1) := vc_A1 (by decide)
              have eo3 : ((vc_A I L 12).1 3) = vc_T I L (12 + 2 + 3) := vc_A1 (by decide)
              have s0 : ¬ ((vc_A I L 12).1 1).sort = 0 := fun z => h1 ((vc_is0 (oa 1 (by decide))).mp (eo1 ▸ z))
              have s6 : ((vc_A I L 12).1 1).sort = 6 := eo1 ▸ (vc_is6 (oa 1 (by decide))).mpr (Classical.not_not.mp h2)
              have z4 : vx_tells M (vc_A I L 12) 2 (e4.2.1) = 0 := (vl_I_inj (Nat.lt_trans vx_tells_lt (by decide)) (by decide)).mp (Classical.not_not.mp h4)
              have z5 : ¬ vx_tells M (vc_A I L 12) 3 (e4.2.2) = 0 := fun z => h5 (by rw [z]; rfl)
              have i6 := (vc_is6 (oa 1 (by decide))).mp (eo1 ▸ s6)
              have d1 : ((vc_A I L 12).1 1).det = (I (12 + 2 + 1) 7).toInt := by rw [eo1]; exact vc_detm (Or.inl i6)
              have dt : (I (12 + 2 + 1) 7).toInt64.toInt = ((vc_A I L 12).1 1).det := by rw [d1]; exact Int32.toInt_toInt64 _
              rw [dt] at me4
              have tk := of_decide_eq_true (vr_b_t h3)
              have ke := vf_key_of me4
              have im : vx_ismap M (vc_A I L 12) 2 = 0 := (vx_imF s6 me4).trans (if_pos tk)
              have e : (vx_allowed M (vc_A I L 12) 2) = vx_tells M (vc_A I L 12) 3 (e4.2.2) := by rw [vx_al2, im, vx_then0, ke.1, ke.2]; rw [show vx_tells M (vc_A I L 12) 2 (e4.2.1) = 0 by assumption, vx_then0]; exact vx_thenn (by assumption)
              exact ⟨_, _, by rw [e], rfl, rfl⟩
            · refine jv_Wp.lift (fun _ Kz => jv_Ev.steps jv_i46 3 (pc' := 249) (l' := [(5, .int (vl_I (vx_tells M (vc_A I L 12) 3 (e4.2.2)))), (4, .ref o4), (3, .ref (12 + 2 + 3)), (2, .ref (12 + 2 + 1)), (0, .ref 10), (1, .int (2 : Int32))]) (st' := [.int (8 : Int32), .int (4 : Int32), .ref 10]) rfl Kz) ?_
              obtain ⟨I8, L8, H8, ei8, el8⟩ := vc_numberIn (I := I) (L := L) (R := R) (n := n) (sl := sl) 4 8 hC (by decide) oa
              rw [ei8, el8] at H8
              refine jv_Wp.lift (fun _ Kz => jv_Ev.c jv_i46 (pc' := 252) (S' := [.int (vl_I (vx_isnum (vc_A I L 12) 4 8))]) jv_i40 [.ref 10, .int (4 : Int32), .int (8 : Int32)] rfl rfl rfl rfl (jv_cal rfl (jv_H_at hC.k) rfl rfl) rfl H8 rfl rfl Kz) ?_
              refine jv_Wp.lift (fun _ Kz => jv_Ev.steps jv_i46 1 (pc' := 257) (l' := [(5, .int (vl_I (vx_tells M (vc_A I L 12) 3 (e4.2.2)))), (4, .ref o4), (3, .ref (12 + 2 + 3)), (2, .ref (12 + 2 + 1)), (0, .ref 10), (1, .int (2 : Int32))]) (st' := [.int (vl_I (vx_isnum (vc_A I L 12) 4 8))]) rfl Kz) ?_
              refine jv_Wp.of (jv_Ev.ret jv_i46 rfl rfl) ?_
              rw [hQ]
              have eo1 : ((vc_A I L 12).1 1) = vc_T I L (12 + 2 + 1) := vc_A1 (by decide)
              have eo3 : ((vc_A I L 12).1 3) = vc_T I L (12 + 2 + 3) := vc_A1 (by decide)
              have s0 : ¬ ((vc_A I L 12).1 1).sort = 0 := fun z => h1 ((vc_is0 (oa 1 (by decide))).mp (eo1 ▸ z))
              have s6 : ((vc_A I L 12).1 1).sort = 6 := eo1 ▸ (vc_is6 (oa 1 (by decide))).mpr (Classical.not_not.mp h2)
              have z4 : vx_tells M (vc_A I L 12) 2 (e4.2.1) = 0 := (vl_I_inj (Nat.lt_trans vx_tells_lt (by decide)) (by decide)).mp (Classical.not_not.mp h4)
              have z5 : vx_tells M (vc_A I L 12) 3 (e4.2.2) = 0 := (vl_I_inj (Nat.lt_trans vx_tells_lt (by decide)) (by decide)).mp (Classical.not_not.mp h5)
              have i6 := (vc_is6 (oa 1 (by decide))).mp (eo1 ▸ s6)
              have d1 : ((vc_A I L 12).1 1).det = (I (12 + 2 + 1) 7).toInt := by rw [eo1]; exact vc_detm (Or.inl i6)
              have dt : (I (12 + 2 + 1) 7).toInt64.toInt = ((vc_A I L 12).1 1).det := by rw [d1]; exact Int32.toInt_toInt64 _
              rw [dt] at me4
              have tk := of_decide_eq_true (vr_b_t h3)
              have ke := vf_key_of me4
              have im : vx_ismap M (vc_A I L 12) 2 = 0 := (vx_imF s6 me4).trans (if_pos tk)
              have e : (vx_allowed M (vc_A I L 12) 2) = vx_isnum (vc_A I L 12) 4 8 := by rw [vx_al2, im, vx_then0, ke.1, ke.2]; rw [show vx_tells M (vc_A I L 12) 2 (e4.2.1) = 0 by assumption, vx_then0, show vx_tells M (vc_A I L 12) 3 (e4.2.2) = 0 by assumption]; rfl
              exact ⟨_, _, by rw [e], rfl, rfl⟩
        · refine jv_Wp.lift (fun _ Kz => jv_Ev.steps jv_i46 1 (pc' := 136) (l' := [(4, .ref o4), (3, .ref (12 + 2 + 3)), (2, .ref (12 + 2 + 1)), (0, .ref 10), (1, .int (2 : Int32))]) (st' := [.int (8 : Int32)]) rfl Kz) ?_
          refine jv_Wp.of (jv_Ev.ret jv_i46 rfl rfl) ?_
          rw [hQ]
          have eo1 : ((vc_A I L 12).1 1) = vc_T I L (12 + 2 + 1) := vc_A1 (by decide)
          have eo3 : ((vc_A I L 12).1 3) = vc_T I L (12 + 2 + 3) := vc_A1 (by decide)
          have s0 : ¬ ((vc_A I L 12).1 1).sort = 0 := fun z => h1 ((vc_is0 (oa 1 (by decide))).mp (eo1 ▸ z))
          have s6 : ((vc_A I L 12).1 1).sort = 6 := eo1 ▸ (vc_is6 (oa 1 (by decide))).mpr (Classical.not_not.mp h2)
          have i6 := (vc_is6 (oa 1 (by decide))).mp (eo1 ▸ s6)
          have d1 : ((vc_A I L 12).1 1).det = (I (12 + 2 + 1) 7).toInt := by rw [eo1]; exact vc_detm (Or.inl i6)
          have dt : (I (12 + 2 + 1) 7).toInt64.toInt = ((vc_A I L 12).1 1).det := by rw [d1]; exact Int32.toInt_toInt64 _
          rw [dt] at me4
          have tk := of_decide_eq_false (vr_b_f (Classical.not_not.mp h3))
          have im : vx_ismap M (vc_A I L 12) 2 = 8 := (vx_imF s6 me4).trans (if_neg tk)
          have e : (vx_allowed M (vc_A I L 12) 2) = 8 := by rw [vx_al2, im]; exact vx_thenn (by decide)
          exact ⟨_, _, by rw [e]; rfl, rfl, rfl⟩
      · refine jv_Wp.lift (fun _ Kz => jv_Ev.c jv_i46 (pc' := 114) (S' := [.null]) jv_i126 [.ref 2, .long (I (12 + 2 + 1) 7).toInt64] rfl rfl rfl rfl (jv_cal rfl (jv_H_at hM.1) rfl rfl) rfl H4 rfl rfl Kz) ?_
        refine jv_Wp.lift (fun _ Kz => jv_Ev.steps jv_i46 3 (pc' := 122) (l' := [(4, .null), (3, .ref (12 + 2 + 3)), (2, .ref (12 + 2 + 1)), (0, .ref 10), (1, .int (2 : Int32))]) (st' := [.null]) rfl Kz) ?_
        refine jv_Wp.lift (fun _ Kz => jv_Ev.br jv_i46 (pc' := 134) (st' := []) rfl (by rfl) Kz) ?_
        refine jv_Wp.lift (fun _ Kz => jv_Ev.steps jv_i46 1 (pc' := 136) (l' := [(4, .null), (3, .ref (12 + 2 + 3)), (2, .ref (12 + 2 + 1)), (0, .ref 10), (1, .int (2 : Int32))]) (st' := [.int (8 : Int32)]) rfl Kz) ?_
        refine jv_Wp.of (jv_Ev.ret jv_i46 rfl rfl) ?_
        rw [hQ]
        have eo1 : ((vc_A I L 12).1 1) = vc_T I L (12 + 2 + 1) := vc_A1 (by decide)
        have eo3 : ((vc_A I L 12).1 3) = vc_T I L (12 + 2 + 3) := vc_A1 (by decide)
        have s0 : ¬ ((vc_A I L 12).1 1).sort = 0 := fun z => h1 ((vc_is0 (oa 1 (by decide))).mp (eo1 ▸ z))
        have s6 : ((vc_A I L 12).1 1).sort = 6 := eo1 ▸ (vc_is6 (oa 1 (by decide))).mpr (Classical.not_not.mp h2)
        have i6 := (vc_is6 (oa 1 (by decide))).mp (eo1 ▸ s6)
        have d1 : ((vc_A I L 12).1 1).det = (I (12 + 2 + 1) 7).toInt := by rw [eo1]; exact vc_detm (Or.inl i6)
        have dt : (I (12 + 2 + 1) 7).toInt64.toInt = ((vc_A I L 12).1 1).det := by rw [d1]; exact Int32.toInt_toInt64 _
        rw [dt] at hk4
        have mn : M ((vc_A I L 12).1 1).det.toNat = none := hk4.resolve_left (by rw [d1]; exact Int.not_lt.mpr (m6 i6))
        have im : vx_ismap M (vc_A I L 12) 2 = 8 := vx_imN s6 mn
        have e : (vx_allowed M (vc_A I L 12) 2) = 8 := by rw [vx_al2, im]; exact vx_thenn (by decide)
        exact ⟨_, _, by rw [e]; rfl, rfl, rfl⟩
  · refine jv_Wp.lift (fun _ Kz => jv_Ev.steps jv_i46 1 (pc' := 56) (l' := [(3, .ref (12 + 2 + 3)), (2, .ref (12 + 2 + 1)), (0, .ref 10), (1, .int (2 : Int32))]) (st' := [.int (1 : Int32)]) rfl Kz) ?_
    refine jv_Wp.of (jv_Ev.ret jv_i46 rfl rfl) ?_
    rw [hQ]
    have eo1 : ((vc_A I L 12).1 1) = vc_T I L (12 + 2 + 1) := vc_A1 (by decide)
    have eo3 : ((vc_A I L 12).1 3) = vc_T I L (12 + 2 + 3) := vc_A1 (by decide)
    have s0 : ((vc_A I L 12).1 1).sort = 0 := eo1 ▸ (vc_is0 (oa 1 (by decide))).mpr (Classical.not_not.mp h1)
    have im : vx_ismap M (vc_A I L 12) 2 = 1 := vx_im1 s0
    have e : (vx_allowed M (vc_A I L 12) 2) = 1 := by rw [vx_al2, im]; exact vx_thenn (by decide)
    exact ⟨_, _, by rw [e]; rfl, rfl, rfl⟩
theorem vc_allowed3 {K : Nat → Option (Nat × Nat)} {I : Nat → Nat → Int32} {L : Nat → Nat → Int64} {R : Nat → Nat → Value} {M : vf_M} (hC : vc_C K R) (hM : vc_M K I R M) (hkn : (L 12 1).toInt ≤ 1073000000) (oa : vc_okA I L 12) (tA : ∀ n, n < 75 → vt_ok (vc_T I L (12 + 2 + n))) (gA : ∀ n, n < 75 → vc_g I L (12 + 2 + n)) (m6 : I (12 + 2 + 1) 6 = 6 → 0 ≤ (I (12 + 2 + 1) 7).toInt) {n sl : Nat} : ∃ I1 L1, jv_Ms 46 [.ref 10, .int (3 : Int32)] (jv_H K I L R) n sl (some (.int (vl_I (vx_allowed M (vc_A I L 12) 3))), jv_H K I1 L1 R, n, sl) ∧ I1 = I ∧ L1 = L := by
  obtain ⟨Q, hQ⟩ : ∃ Q : jv_R → Prop, Q = fun X => ∃ I1 L1, X = (some (.int (vl_I (vx_allowed M (vc_A I L 12) 3))), jv_H K I1 L1 R, n, sl) ∧ I1 = I ∧ L1 = L := ⟨_, rfl⟩
  suffices h : jv_Wp 46 0 [(0, .ref 10), (1, .int (3 : Int32))] [] (jv_H K I L R) n sl Q by
    rw [hQ] at h
    obtain ⟨X, h, I1, L1, e, h'⟩ := h
    subst e
    exact ⟨I1, L1, h, h'⟩
  refine jv_Wp.lift (fun _ Kz => jv_Ev.steps jv_i46 1 (pc' := 1) (l' := [(0, .ref 10), (1, .int (3 : Int32))]) (st' := [.ref 10]) rfl Kz) ?_
  refine jv_Wp.lift (fun _ Kz => jv_Ev.m jv_i46 (pc' := 4) (st' := [.ref 12]) (G' := (jv_H K I L R)) rfl rfl (jv_m_getR hC.k rfl rfl hC.rnow) Kz) ?_
  refine jv_Wp.lift (fun _ Kz => jv_Ev.m jv_i46 (pc' := 7) (st' := [.ref (12 + 1)]) (G' := (jv_H K I L R)) rfl rfl (jv_m_getR hC.now.k rfl rfl hC.now.r) Kz) ?_
  refine jv_Wp.lift (fun _ Kz => jv_Ev.steps jv_i46 1 (pc' := 8) (l' := [(0, .ref 10), (1, .int (3 : Int32))]) (st' := [.int (1 : Int32), .ref (12 + 1)]) rfl Kz) ?_
  refine jv_Wp.lift (fun _ Kz => jv_Ev.m jv_i46 (pc' := 9) (st' := [.ref (12 + 2 + 1)]) (G' := (jv_H K I L R)) rfl rfl (jv_m_aaldR hC.now.kt rfl (by decide) rfl (hC.now.rt 1 (by decide))) Kz) ?_
  refine jv_Wp.lift (fun _ Kz => jv_Ev.steps jv_i46 2 (pc' := 11) (l' := [(2, .ref (12 + 2 + 1)), (0, .ref 10), (1, .int (3 : Int32))]) (st' := [.ref 10]) rfl Kz) ?_
  refine jv_Wp.lift (fun _ Kz => jv_Ev.m jv_i46 (pc' := 14) (st' := [.ref 12]) (G' := (jv_H K I L R)) rfl rfl (jv_m_getR hC.k rfl rfl hC.rnow) Kz) ?_
  refine jv_Wp.lift (fun _ Kz => jv_Ev.m jv_i46 (pc' := 17) (st' := [.ref (12 + 1)]) (G' := (jv_H K I L R)) rfl rfl (jv_m_getR hC.now.k rfl rfl hC.now.r) Kz) ?_
  refine jv_Wp.lift (fun _ Kz => jv_Ev.steps jv_i46 1 (pc' := 18) (l' := [(2, .ref (12 + 2 + 1)), (0, .ref 10), (1, .int (3 : Int32))]) (st' := [.int (3 : Int32), .ref (12 + 1)]) rfl Kz) ?_
  refine jv_Wp.lift (fun _ Kz => jv_Ev.m jv_i46 (pc' := 19) (st' := [.ref (12 + 2 + 3)]) (G' := (jv_H K I L R)) rfl rfl (jv_m_aaldR hC.now.kt rfl (by decide) rfl (hC.now.rt 3 (by decide))) Kz) ?_
  refine jv_Wp.lift (fun _ Kz => jv_Ev.steps jv_i46 3 (pc' := 22) (l' := [(3, .ref (12 + 2 + 3)), (2, .ref (12 + 2 + 1)), (0, .ref 10), (1, .int (3 : Int32))]) (st' := [.int (5 : Int32), .int (3 : Int32)]) rfl Kz) ?_
  refine jv_Wp.lift (fun _ Kz => jv_Ev.br jv_i46 (pc' := 25) (st' := []) rfl (by rfl) Kz) ?_
  refine jv_Wp.lift (fun _ Kz => jv_Ev.steps jv_i46 2 (pc' := 27) (l' := [(3, .ref (12 + 2 + 3)), (2, .ref (12 + 2 + 1)), (0, .ref 10), (1, .int (3 : Int32))]) (st' := [.int (1 : Int32), .int (3 : Int32)]) rfl Kz) ?_
  refine jv_Wp.lift (fun _ Kz => jv_Ev.br jv_i46 (pc' := 30) (st' := []) rfl (by rfl) Kz) ?_
  refine jv_Wp.lift (fun _ Kz => jv_Ev.steps jv_i46 2 (pc' := 33) (l' := [(3, .ref (12 + 2 + 3)), (2, .ref (12 + 2 + 1)), (0, .ref 10), (1, .int (3 : Int32))]) (st' := [.int (6 : Int32), .int (3 : Int32)]) rfl Kz) ?_
  refine jv_Wp.lift (fun _ Kz => jv_Ev.br jv_i46 (pc' := 48) (st' := []) rfl (by rfl) Kz) ?_
  refine jv_Wp.lift (fun _ Kz => jv_Ev.steps jv_i46 1 (pc' := 49) (l' := [(3, .ref (12 + 2 + 3)), (2, .ref (12 + 2 + 1)), (0, .ref 10), (1, .int (3 : Int32))]) (st' := [.ref (12 + 2 + 1)]) rfl Kz) ?_
  refine jv_Wp.lift (fun _ Kz => jv_Ev.m jv_i46 (pc' := 52) (st' := [.int (I (12 + 2 + 1) 6)]) (G' := (jv_H K I L R)) rfl rfl (jv_m_getI (hC.now.kk 1 (by decide)) rfl rfl rfl) Kz) ?_
  refine jv_Wp.cnd jv_i46 (pt := 57) (pe := 55) (p := (¬ (I (12 + 2 + 1) 6) = 0)) (q := (¬ (I (12 + 2 + 1) 6) = 0)) rfl jv_bi_ne rfl rfl Iff.rfl (fun h1 => ?_) (fun h1 => ?_)
  · refine jv_Wp.lift (fun _ Kz => jv_Ev.steps jv_i46 2 (pc' := 60) (l' := [(3, .ref (12 + 2 + 3)), (2, .ref (12 + 2 + 1)), (0, .ref 10), (1, .int (3 : Int32))]) (st' := [.int (6 : Int32), .int (3 : Int32)]) rfl Kz) ?_
    refine jv_Wp.lift (fun _ Kz => jv_Ev.br jv_i46 (pc' := 93) (st' := []) rfl (by rfl) Kz) ?_
    refine jv_Wp.lift (fun _ Kz => jv_Ev.steps jv_i46 1 (pc' := 94) (l' := [(3, .ref (12 + 2 + 3)), (2, .ref (12 + 2 + 1)), (0, .ref 10), (1, .int (3 : Int32))]) (st' := [.ref (12 + 2 + 1)]) rfl Kz) ?_
    refine jv_Wp.lift (fun _ Kz => jv_Ev.m jv_i46 (pc' := 97) (st' := [.int (I (12 + 2 + 1) 6)]) (G' := (jv_H K I L R)) rfl rfl (jv_m_getI (hC.now.kk 1 (by decide)) rfl rfl rfl) Kz) ?_
    refine jv_Wp.lift (fun _ Kz => jv_Ev.steps jv_i46 1 (pc' := 99) (l' := [(3, .ref (12 + 2 + 3)), (2, .ref (12 + 2 + 1)), (0, .ref 10), (1, .int (3 : Int32))]) (st' := [.int (6 : Int32), .int (I (12 + 2 + 1) 6)]) rfl Kz) ?_
    refine jv_Wp.cnd jv_i46 (pt := 117) (pe := 102) (p := (¬ (I (12 + 2 + 1) 6) = (6 : Int32))) (q := (¬ (I (12 + 2 + 1) 6) = (6 : Int32))) rfl jv_bc_ne rfl rfl Iff.rfl (fun h2 => ?_) (fun h2 => ?_)
    · refine jv_Wp.lift (fun _ Kz => jv_Ev.steps jv_i46 3 (pc' := 122) (l' := [(4, .null), (3, .ref (12 + 2 + 3)), (2, .ref (12 + 2 + 1)), (0, .ref 10), (1, .int (3 : Int32))]) (st' := [.null]) rfl Kz) ?_
      refine jv_Wp.lift (fun _ Kz => jv_Ev.br jv_i46 (pc' := 134) (st' := []) rfl (by rfl) Kz) ?_
      refine jv_Wp.lift (fun _ Kz => jv_Ev.steps jv_i46 1 (pc' := 136) (l' := [(4, .null), (3, .ref (12 + 2 + 3)), (2, .ref (12 + 2 + 1)), (0, .ref 10), (1, .int (3 : Int32))]) (st' := [.int (8 : Int32)]) rfl Kz) ?_
      refine jv_Wp.of (jv_Ev.ret jv_i46 rfl rfl) ?_
      rw [hQ]
      have eo1 : ((vc_A I L 12).1 1) = vc_T I L (12 + 2 + 1) := vc_A1 (by decide)
      have eo3 : ((vc_A I L 12).1 3) = vc_T I L (12 + 2 + 3) := vc_A1 (by decide)
      have s0 : ¬ ((vc_A I L 12).1 1).sort = 0 := fun z => h1 ((vc_is0 (oa 1 (by decide))).mp (eo1 ▸ z))
      have s6 : ¬ ((vc_A I L 12).1 1).sort = 6 := fun z => h2 ((vc_is6 (oa 1 (by decide))).mp (eo1 ▸ z))
      have im : vx_ismap M (vc_A I L 12) 3 = 8 := vx_im8 s0 s6
      have e : (vx_allowed M (vc_A I L 12) 3) = 8 := by rw [vx_al3, im]; exact vx_thenn (by decide)
      exact ⟨_, _, by rw [e]; rfl, rfl, rfl⟩
    · refine jv_Wp.lift (fun _ Kz => jv_Ev.steps jv_i46 1 (pc' := 103) (l' := [(3, .ref (12 + 2 + 3)), (2, .ref (12 + 2 + 1)), (0, .ref 10), (1, .int (3 : Int32))]) (st' := [.ref 10]) rfl Kz) ?_
      refine jv_Wp.lift (fun _ Kz => jv_Ev.m jv_i46 (pc' := 106) (st' := [.ref 2]) (G' := (jv_H K I L R)) rfl rfl (jv_m_getR hC.k rfl rfl hC.rstore) Kz) ?_
      refine jv_Wp.lift (fun _ Kz => jv_Ev.steps jv_i46 1 (pc' := 107) (l' := [(3, .ref (12 + 2 + 3)), (2, .ref (12 + 2 + 1)), (0, .ref 10), (1, .int (3 : Int32))]) (st' := [.ref (12 + 2 + 1), .ref 2]) rfl Kz) ?_
      refine jv_Wp.lift (fun _ Kz => jv_Ev.m jv_i46 (pc' := 110) (st' := [.int (I (12 + 2 + 1) 7), .ref 2]) (G' := (jv_H K I L R)) rfl rfl (jv_m_getI (hC.now.kk 1 (by decide)) rfl rfl rfl) Kz) ?_
      refine jv_Wp.lift (fun _ Kz => jv_Ev.steps jv_i46 1 (pc' := 111) (l' := [(3, .ref (12 + 2 + 3)), (2, .ref (12 + 2 + 1)), (0, .ref 10), (1, .int (3 : Int32))]) (st' := [.long (I (12 + 2 + 1) 7).toInt64, .ref 2]) rfl Kz) ?_
      rcases vc_map (I := I) (L := L) (R := R) (n := n) (sl := sl) hM (I (12 + 2 + 1) 7).toInt64 with ⟨o9, e9, H9, hk9, me9, hm9⟩ | ⟨H9, hk9⟩
      · refine jv_Wp.lift (fun _ Kz => jv_Ev.c jv_i46 (pc' := 114) (S' := [.ref o9]) jv_i126 [.ref 2, .long (I (12 + 2 + 1) 7).toInt64] rfl rfl rfl rfl (jv_cal rfl (jv_H_at hM.1) rfl rfl) rfl H9 rfl rfl Kz) ?_
        refine jv_Wp.lift (fun _ Kz => jv_Ev.steps jv_i46 3 (pc' := 122) (l' := [(4, .ref o9), (3, .ref (12 + 2 + 3)), (2, .ref (12 + 2 + 1)), (0, .ref 10), (1, .int (3 : Int32))]) (st' := [.ref o9]) rfl Kz) ?_
        refine jv_Wp.lift (fun _ Kz => jv_Ev.br jv_i46 (pc' := 125) (st' := []) rfl (by rfl) Kz) ?_
        refine jv_Wp.lift (fun _ Kz => jv_Ev.steps jv_i46 2 (pc' := 128) (l' := [(4, .ref o9), (3, .ref (12 + 2 + 3)), (2, .ref (12 + 2 + 1)), (0, .ref 10), (1, .int (3 : Int32))]) (st' := [.int (3 : Int32), .ref o9]) rfl Kz) ?_
        obtain ⟨I10, L10, H10, ei10, el10⟩ := vc_takes (I := I) (L := L) (R := R) (n := n) (sl := sl) 3 hm9 (by decide)
        rw [ei10, el10] at H10
        refine jv_Wp.lift (fun _ Kz => jv_Ev.c jv_i46 (pc' := 131) (S' := [.int (vr_b (decide (if 3 = 4 then e9.1 = 2 else if 3 = 3 then e9.1 = 1 else e9.1 ≠ 2)))]) jv_i47 [.ref o9, .int (3 : Int32)] rfl rfl rfl rfl rfl rfl H10 rfl rfl Kz) ?_
        refine jv_Wp.cnd jv_i46 (pt := 137) (pe := 134) (p := (¬ (vr_b (decide (if 3 = 4 then e9.1 = 2 else if 3 = 3 then e9.1 = 1 else e9.1 ≠ 2))) = 0)) (q := (¬ (vr_b (decide (if 3 = 4 then e9.1 = 2 else if 3 = 3 then e9.1 = 1 else e9.1 ≠ 2))) = 0)) rfl jv_bi_ne rfl rfl Iff.rfl (fun h3 => ?_) (fun h3 => ?_)
        · refine jv_Wp.lift (fun _ Kz => jv_Ev.steps jv_i46 2 (pc' := 139) (l' := [(4, .ref o9), (3, .ref (12 + 2 + 3)), (2, .ref (12 + 2 + 1)), (0, .ref 10), (1, .int (3 : Int32))]) (st' := [.int (4 : Int32), .int (3 : Int32)]) rfl Kz) ?_
          refine jv_Wp.lift (fun _ Kz => jv_Ev.br jv_i46 (pc' := 201) (st' := []) rfl (by rfl) Kz) ?_
          refine jv_Wp.lift (fun _ Kz => jv_Ev.steps jv_i46 3 (pc' := 205) (l' := [(4, .ref o9), (3, .ref (12 + 2 + 3)), (2, .ref (12 + 2 + 1)), (0, .ref 10), (1, .int (3 : Int32))]) (st' := [.ref o9, .int (2 : Int32), .ref 10]) rfl Kz) ?_
          refine jv_Wp.lift (fun _ Kz => jv_Ev.m jv_i46 (pc' := 208) (st' := [.int (I o9 1), .int (2 : Int32), .ref 10]) (G' := (jv_H K I L R)) rfl rfl (vc_m_get hm9 (by decide) rfl) Kz) ?_
          obtain ⟨I11, L11, H11, ei11, el11⟩ := vc_tells (I := I) (L := L) (R := R) (n := n) (sl := sl) (M := M) 2 e9.2.1 hC hM (by decide) (by have := hm9.2.2.2.2.2; omega) hkn oa tA gA
          rw [ei11, el11] at H11
          rw [← hm9.2.2.2.1] at H11
          refine jv_Wp.lift (fun _ Kz => jv_Ev.c jv_i46 (pc' := 211) (S' := [.int (vl_I (vx_tells M (vc_A I L 12) 2 (e9.2.1)))]) jv_i48 [.ref 10, .int (2 : Int32), .int (I o9 1)] rfl rfl rfl rfl (jv_cal rfl (jv_H_at hC.k) rfl rfl) rfl H11 rfl rfl Kz) ?_
          refine jv_Wp.lift (fun _ Kz => jv_Ev.steps jv_i46 3 (pc' := 215) (l' := [(5, .int (vl_I (vx_tells M (vc_A I L 12) 2 (e9.2.1)))), (4, .ref o9), (3, .ref (12 + 2 + 3)), (2, .ref (12 + 2 + 1)), (0, .ref 10), (1, .int (3 : Int32))]) (st' := [.int (2 : Int32), .int (3 : Int32)]) rfl Kz) ?_
          refine jv_Wp.lift (fun _ Kz => jv_Ev.br jv_i46 (pc' := 235) (st' := []) rfl (by rfl) Kz) ?_
          refine jv_Wp.lift (fun _ Kz => jv_Ev.steps jv_i46 2 (pc' := 237) (l' := [(5, .int (vl_I (vx_tells M (vc_A I L 12) 2 (e9.2.1)))), (4, .ref o9), (3, .ref (12 + 2 + 3)), (2, .ref (12 + 2 + 1)), (0, .ref 10), (1, .int (3 : Int32))]) (st' := [.int (2 : Int32), .int (3 : Int32)]) rfl Kz) ?_
          refine jv_Wp.lift (fun _ Kz => jv_Ev.br jv_i46 (pc' := 255) (st' := []) rfl (by rfl) Kz) ?_
          refine jv_Wp.lift (fun _ Kz => jv_Ev.steps jv_i46 1 (pc' := 257) (l' := [(5, .int (vl_I (vx_tells M (vc_A I L 12) 2 (e9.2.1)))), (4, .ref o9), (3, .ref (12 + 2 + 3)), (2, .ref (12 + 2 + 1)), (0, .ref 10), (1, .int (3 : Int32))]) (st' := [.int (vl_I (vx_tells M (vc_A I L 12) 2 (e9.2.1)))]) rfl Kz) ?_
          refine jv_Wp.of (jv_Ev.ret jv_i46 rfl rfl) ?_
          rw [hQ]
          have eo1 : ((vc_A I L 12).1 1) = vc_T I L (12 + 2 + 1) := vc_A1 (by decide)
          have eo3 : ((vc_A I L 12).1 3) = vc_T I L (12 + 2 + 3) := vc_A1 (by decide)
          have s0 : ¬ ((vc_A I L 12).1 1).sort = 0 := fun z => h1 ((vc_is0 (oa 1 (by decide))).mp (eo1 ▸ z))
          have s6 : ((vc_A I L 12).1 1).sort = 6 := eo1 ▸ (vc_is6 (oa 1 (by decide))).mpr (Classical.not_not.mp h2)
          have i6 := (vc_is6 (oa 1 (by decide))).mp (eo1 ▸ s6)
          have d1 : ((vc_A I L 12).1 1).det = (I (12 + 2 + 1) 7).toInt := by rw [eo1]; exact vc_detm (Or.inl i6)
          have dt : (I (12 + 2 + 1) 7).toInt64.toInt = ((vc_A I L 12).1 1).det := by rw [d1]; exact Int32.toInt_toInt64 _
          rw [dt] at me9
          have tk := of_decide_eq_true (vr_b_t h3)
          have ke := vf_key_of me9
          have im : vx_ismap M (vc_A I L 12) 3 = 0 := (vx_imF s6 me9).trans (if_pos tk)
          have e : (vx_allowed M (vc_A I L 12) 3) = vx_tells M (vc_A I L 12) 2 e9.2.1 := by rw [vx_al3, im, vx_then0, ke.1]
          exact ⟨_, _, by rw [e], rfl, rfl⟩
        · refine jv_Wp.lift (fun _ Kz => jv_Ev.steps jv_i46 1 (pc' := 136) (l' := [(4, .ref o9), (3, .ref (12 + 2 + 3)), (2, .ref (12 + 2 + 1)), (0, .ref 10), (1, .int (3 : Int32))]) (st' := [.int (8 : Int32)]) rfl Kz) ?_
          refine jv_Wp.of (jv_Ev.ret jv_i46 rfl rfl) ?_
          rw [hQ]
          have eo1 : ((vc_A I L 12).1 1) = vc_T I L (12 + 2 + 1) := vc_A1 (by decide)
          have eo3 : ((vc_A I L 12).1 3) = vc_T I L (12 + 2 + 3) := vc_A1 (by decide)
          have s0 : ¬ ((vc_A I L 12).1 1).sort = 0 := fun z => h1 ((vc_is0 (oa 1 (by decide))).mp (eo1 ▸ z))
          have s6 : ((vc_A I L 12).1 1).sort = 6 := eo1 ▸ (vc_is6 (oa 1 (by decide))).mpr (Classical.not_not.mp h2)
          have i6 := (vc_is6 (oa 1 (by decide))).mp (eo1 ▸ s6)
          have d1 : ((vc_A I L 12).1 1).det = (I (12 + 2 + 1) 7).toInt := by rw [eo1]; exact vc_detm (Or.inl i6)
          have dt : (I (12 + 2 + 1) 7).toInt64.toInt = ((vc_A I L 12).1 1).det := by rw [d1]; exact Int32.toInt_toInt64 _
          rw [dt] at me9
          have tk := of_decide_eq_false (vr_b_f (Classical.not_not.mp h3))
          have im : vx_ismap M (vc_A I L 12) 3 = 8 := (vx_imF s6 me9).trans (if_neg tk)
          have e : (vx_allowed M (vc_A I L 12) 3) = 8 := by rw [vx_al3, im]; exact vx_thenn (by decide)
          exact ⟨_, _, by rw [e]; rfl, rfl, rfl⟩
      · refine jv_Wp.lift (fun _ Kz => jv_Ev.c jv_i46 (pc' := 114) (S' := [.null]) jv_i126 [.ref 2, .long (I (12 + 2 + 1) 7).toInt64] rfl rfl rfl rfl (jv_cal rfl (jv_H_at hM.1) rfl rfl) rfl H9 rfl rfl Kz) ?_
        refine jv_Wp.lift (fun _ Kz => jv_Ev.steps jv_i46 3 (pc' := 122) (l' := [(4, .null), (3, .ref (12 + 2 + 3)), (2, .ref (12 + 2 + 1)), (0, .ref 10), (1, .int (3 : Int32))]) (st' := [.null]) rfl Kz) ?_
        refine jv_Wp.lift (fun _ Kz => jv_Ev.br jv_i46 (pc' := 134) (st' := []) rfl (by rfl) Kz) ?_
        refine jv_Wp.lift (fun _ Kz => jv_Ev.steps jv_i46 1 (pc' := 136) (l' := [(4, .null), (3, .ref (12 + 2 + 3)), (2, .ref (12 + 2 + 1)), (0, .ref 10), (1, .int (3 : Int32))]) (st' := [.int (8 : Int32)]) rfl Kz) ?_
        refine jv_Wp.of (jv_Ev.ret jv_i46 rfl rfl) ?_
        rw [hQ]
        have eo1 : ((vc_A I L 12).1 1) = vc_T I L (12 + 2 + 1) := vc_A1 (by decide)
        have eo3 : ((vc_A I L 12).1 3) = vc_T I L (12 + 2 + 3) := vc_A1 (by decide)
        have s0 : ¬ ((vc_A I L 12).1 1).sort = 0 := fun z => h1 ((vc_is0 (oa 1 (by decide))).mp (eo1 ▸ z))
        have s6 : ((vc_A I L 12).1 1).sort = 6 := eo1 ▸ (vc_is6 (oa 1 (by decide))).mpr (Classical.not_not.mp h2)
        have i6 := (vc_is6 (oa 1 (by decide))).mp (eo1 ▸ s6)
        have d1 : ((vc_A I L 12).1 1).det = (I (12 + 2 + 1) 7).toInt := by rw [eo1]; exact vc_detm (Or.inl i6)
        have dt : (I (12 + 2 + 1) 7).toInt64.toInt = ((vc_A I L 12).1 1).det := by rw [d1]; exact Int32.toInt_toInt64 _
        rw [dt] at hk9
        have mn : M ((vc_A I L 12).1 1).det.toNat = none := hk9.resolve_left (by rw [d1]; exact Int.not_lt.mpr (m6 i6))
        have im : vx_ismap M (vc_A I L 12) 3 = 8 := vx_imN s6 mn
        have e : (vx_allowed M (vc_A I L 12) 3) = 8 := by rw [vx_al3, im]; exact vx_thenn (by decide)
        exact ⟨_, _, by rw [e]; rfl, rfl, rfl⟩
  · refine jv_Wp.lift (fun _ Kz => jv_Ev.steps jv_i46 1 (pc' := 56) (l' := [(3, .ref (12 + 2 + 3)), (2, .ref (12 + 2 + 1)), (0, .ref 10), (1, .int (3 : Int32))]) (st' := [.int (1 : Int32)]) rfl Kz) ?_
    refine jv_Wp.of (jv_Ev.ret jv_i46 rfl rfl) ?_
    rw [hQ]
    have eo1 : ((vc_A I L 12).1 1) = vc_T I L (12 + 2 + 1) := vc_A1 (by decide)
    have eo3 : ((vc_A I L 12).1 3) = vc_T I L (12 + 2 + 3) := vc_A1 (by decide)
    have s0 : ((vc_A I L 12).1 1).sort = 0 := eo1 ▸ (vc_is0 (oa 1 (by decide))).mpr (Classical.not_not.mp h1)
    have im : vx_ismap M (vc_A I L 12) 3 = 1 := vx_im1 s0
    have e : (vx_allowed M (vc_A I L 12) 3) = 1 := by rw [vx_al3, im]; exact vx_thenn (by decide)
    exact ⟨_, _, by rw [e]; rfl, rfl, rfl⟩
theorem vc_allowed4 {K : Nat → Option (Nat × Nat)} {I : Nat → Nat → Int32} {L : Nat → Nat → Int64} {R : Nat → Nat → Value} {M : vf_M} (hC : vc_C K R) (hM : vc_M K I R M) (hkn : (L 12 1).toInt ≤ 1073000000) (oa : vc_okA I L 12) (tA : ∀ n, n < 75 → vt_ok (vc_T I L (12 + 2 + n))) (gA : ∀ n, n < 75 → vc_g I L (12 + 2 + n)) (m6 : I (12 + 2 + 1) 6 = 6 → 0 ≤ (I (12 + 2 + 1) 7).toInt) {n sl : Nat} : ∃ I1 L1, jv_Ms 46 [.ref 10, .int (4 : Int32)] (jv_H K I L R) n sl (some (.int (vl_I (vx_allowed M (vc_A I L 12) 4))), jv_H K I1 L1 R, n, sl) ∧ I1 = I ∧ L1 = L := by
  obtain ⟨Q, hQ⟩ : ∃ Q : jv_R → Prop, Q = fun X => ∃ I1 L1, X = (some (.int (vl_I (vx_allowed M (vc_A I L 12) 4))), jv_H K I1 L1 R, n, sl) ∧ I1 = I ∧ L1 = L := ⟨_, rfl⟩
  suffices h : jv_Wp 46 0 [(0, .ref 10), (1, .int (4 : Int32))] [] (jv_H K I L R) n sl Q by
    rw [hQ] at h
    obtain ⟨X, h, I1, L1, e, h'⟩ := h
    subst e
    exact ⟨I1, L1, h, h'⟩
  refine jv_Wp.lift (fun _ Kz => jv_Ev.steps jv_i46 1 (pc' := 1) (l' := [(0, .ref 10), (1, .int (4 : Int32))]) (st' := [.ref 10]) rfl Kz) ?_
  refine jv_Wp.lift (fun _ Kz => jv_Ev.m jv_i46 (pc' := 4) (st' := [.ref 12]) (G' := (jv_H K I L R)) rfl rfl (jv_m_getR hC.k rfl rfl hC.rnow) Kz) ?_
  refine jv_Wp.lift (fun _ Kz => jv_Ev.m jv_i46 (pc' := 7) (st' := [.ref (12 + 1)]) (G' := (jv_H K I L R)) rfl rfl (jv_m_getR hC.now.k rfl rfl hC.now.r) Kz) ?_
  refine jv_Wp.lift (fun _ Kz => jv_Ev.steps jv_i46 1 (pc' := 8) (l' := [(0, .ref 10), (1, .int (4 : Int32))]) (st' := [.int (1 : Int32), .ref (12 + 1)]) rfl Kz) ?_
  refine jv_Wp.lift (fun _ Kz => jv_Ev.m jv_i46 (pc' := 9) (st' := [.ref (12 + 2 + 1)]) (G' := (jv_H K I L R)) rfl rfl (jv_m_aaldR hC.now.kt rfl (by decide) rfl (hC.now.rt 1 (by decide))) Kz) ?_
  refine jv_Wp.lift (fun _ Kz => jv_Ev.steps jv_i46 2 (pc' := 11) (l' := [(2, .ref (12 + 2 + 1)), (0, .ref 10), (1, .int (4 : Int32))]) (st' := [.ref 10]) rfl Kz) ?_
  refine jv_Wp.lift (fun _ Kz => jv_Ev.m jv_i46 (pc' := 14) (st' := [.ref 12]) (G' := (jv_H K I L R)) rfl rfl (jv_m_getR hC.k rfl rfl hC.rnow) Kz) ?_
  refine jv_Wp.lift (fun _ Kz => jv_Ev.m jv_i46 (pc' := 17) (st' := [.ref (12 + 1)]) (G' := (jv_H K I L R)) rfl rfl (jv_m_getR hC.now.k rfl rfl hC.now.r) Kz) ?_
  refine jv_Wp.lift (fun _ Kz => jv_Ev.steps jv_i46 1 (pc' := 18) (l' := [(2, .ref (12 + 2 + 1)), (0, .ref 10), (1, .int (4 : Int32))]) (st' := [.int (3 : Int32), .ref (12 + 1)]) rfl Kz) ?_
  refine jv_Wp.lift (fun _ Kz => jv_Ev.m jv_i46 (pc' := 19) (st' := [.ref (12 + 2 + 3)]) (G' := (jv_H K I L R)) rfl rfl (jv_m_aaldR hC.now.kt rfl (by decide) rfl (hC.now.rt 3 (by decide))) Kz) ?_
  refine jv_Wp.lift (fun _ Kz => jv_Ev.steps jv_i46 3 (pc' := 22) (l' := [(3, .ref (12 + 2 + 3)), (2, .ref (12 + 2 + 1)), (0, .ref 10), (1, .int (4 : Int32))]) (st' := [.int (5 : Int32), .int (4 : Int32)]) rfl Kz) ?_
  refine jv_Wp.lift (fun _ Kz => jv_Ev.br jv_i46 (pc' := 25) (st' := []) rfl (by rfl) Kz) ?_
  refine jv_Wp.lift (fun _ Kz => jv_Ev.steps jv_i46 2 (pc' := 27) (l' := [(3, .ref (12 + 2 + 3)), (2, .ref (12 + 2 + 1)), (0, .ref 10), (1, .int (4 : Int32))]) (st' := [.int (1 : Int32), .int (4 : Int32)]) rfl Kz) ?_
  refine jv_Wp.lift (fun _ Kz => jv_Ev.br jv_i46 (pc' := 30) (st' := []) rfl (by rfl) Kz) ?_
  refine jv_Wp.lift (fun _ Kz => jv_Ev.steps jv_i46 2 (pc' := 33) (l' := [(3, .ref (12 + 2 + 3)), (2, .ref (12 + 2 + 1)), (0, .ref 10), (1, .int (4 : Int32))]) (st' := [.int (6 : Int32), .int (4 : Int32)]) rfl Kz) ?_
  refine jv_Wp.lift (fun _ Kz => jv_Ev.br jv_i46 (pc' := 48) (st' := []) rfl (by rfl) Kz) ?_
  refine jv_Wp.lift (fun _ Kz => jv_Ev.steps jv_i46 1 (pc' := 49) (l' := [(3, .ref (12 + 2 + 3)), (2, .ref (12 + 2 + 1)), (0, .ref 10), (1, .int (4 : Int32))]) (st' := [.ref (12 + 2 + 1)]) rfl Kz) ?_
  refine jv_Wp.lift (fun _ Kz => jv_Ev.m jv_i46 (pc' := 52) (st' := [.int (I (12 + 2 + 1) 6)]) (G' := (jv_H K I L R)) rfl rfl (jv_m_getI (hC.now.kk 1 (by decide)) rfl rfl rfl) Kz) ?_
  refine jv_Wp.cnd jv_i46 (pt := 57) (pe := 55) (p := (¬ (I (12 + 2 + 1) 6) = 0)) (q := (¬ (I (12 + 2 + 1) 6) = 0)) rfl jv_bi_ne rfl rfl Iff.rfl (fun h1 => ?_) (fun h1 => ?_)
  · refine jv_Wp.lift (fun _ Kz => jv_Ev.steps jv_i46 2 (pc' := 60) (l' := [(3, .ref (12 + 2 + 3)), (2, .ref (12 + 2 + 1)), (0, .ref 10), (1, .int (4 : Int32))]) (st' := [.int (6 : Int32), .int (4 : Int32)]) rfl Kz) ?_
    refine jv_Wp.lift (fun _ Kz => jv_Ev.br jv_i46 (pc' := 93) (st' := []) rfl (by rfl) Kz) ?_
    refine jv_Wp.lift (fun _ Kz => jv_Ev.steps jv_i46 1 (pc' := 94) (l' := [(3, .ref (12 + 2 + 3)), (2, .ref (12 + 2 + 1)), (0, .ref 10), (1, .int (4 : Int32))]) (st' := [.ref (12 + 2 + 1)]) rfl Kz) ?_
    refine jv_Wp.lift (fun _ Kz => jv_Ev.m jv_i46 (pc' := 97) (st' := [.int (I (12 + 2 + 1) 6)]) (G' := (jv_H K I L R)) rfl rfl (jv_m_getI (hC.now.kk 1 (by decide)) rfl rfl rfl) Kz) ?_
    refine jv_Wp.lift (fun _ Kz => jv_Ev.steps jv_i46 1 (pc' := 99) (l' := [(3, .ref (12 + 2 + 3)), (2, .ref (12 + 2 + 1)), (0, .ref 10), (1, .int (4 : Int32))]) (st' := [.int (6 : Int32), .int (I (12 + 2 + 1) 6)]) rfl Kz) ?_
    refine jv_Wp.cnd jv_i46 (pt := 117) (pe := 102) (p := (¬ (I (12 + 2 + 1) 6) = (6 : Int32))) (q := (¬ (I (12 + 2 + 1) 6) = (6 : Int32))) rfl jv_bc_ne rfl rfl Iff.rfl (fun h2 => ?_) (fun h2 => ?_)
    · refine jv_Wp.lift (fun _ Kz => jv_Ev.steps jv_i46 3 (pc' := 122) (l' := [(4, .null), (3, .ref (12 + 2 + 3)), (2, .ref (12 + 2 + 1)), (0, .ref 10), (1, .int (4 : Int32))]) (st' := [.null]) rfl Kz) ?_
      refine jv_Wp.lift (fun _ Kz => jv_Ev.br jv_i46 (pc' := 134) (st' := []) rfl (by rfl) Kz) ?_
      refine jv_Wp.lift (fun _ Kz => jv_Ev.steps jv_i46 1 (pc' := 136) (l' := [(4, .null), (3, .ref (12 + 2 + 3)), (2, .ref (12 + 2 + 1)), (0, .ref 10), (1, .int (4 : Int32))]) (st' := [.int (8 : Int32)]) rfl Kz) ?_
      refine jv_Wp.of (jv_Ev.ret jv_i46 rfl rfl) ?_
      rw [hQ]
      have eo1 : ((vc_A I L 12).1 1) = vc_T I L (12 + 2 + 1) := vc_A1 (by decide)
      have eo3 : ((vc_A I L 12).1 3) = vc_T I L (12 + 2 + 3) := vc_A1 (by decide)
      have s0 : ¬ ((vc_A I L 12).1 1).sort = 0 := fun z => h1 ((vc_is0 (oa 1 (by decide))).mp (eo1 ▸ z))
      have s6 : ¬ ((vc_A I L 12).1 1).sort = 6 := fun z => h2 ((vc_is6 (oa 1 (by decide))).mp (eo1 ▸ z))
      have im : vx_ismap M (vc_A I L 12) 4 = 8 := vx_im8 s0 s6
      have e : (vx_allowed M (vc_A I L 12) 4) = 8 := by rw [vx_al4, im]; exact vx_thenn (by decide)
      exact ⟨_, _, by rw [e]; rfl, rfl, rfl⟩
    · refine jv_Wp.lift (fun _ Kz => jv_Ev.steps jv_i46 1 (pc' := 103) (l' := [(3, .ref (12 + 2 + 3)), (2, .ref (12 + 2 + 1)), (0, .ref 10), (1, .int (4 : Int32))]) (st' := [.ref 10]) rfl Kz) ?_
      refine jv_Wp.lift (fun _ Kz => jv_Ev.m jv_i46 (pc' := 106) (st' := [.ref 2]) (G' := (jv_H K I L R)) rfl rfl (jv_m_getR hC.k rfl rfl hC.rstore) Kz) ?_
      refine jv_Wp.lift (fun _ Kz => jv_Ev.steps jv_i46 1 (pc' := 107) (l' := [(3, .ref (12 + 2 + 3)), (2, .ref (12 + 2 + 1)), (0, .ref 10), (1, .int (4 : Int32))]) (st' := [.ref (12 + 2 + 1), .ref 2]) rfl Kz) ?_
      refine jv_Wp.lift (fun _ Kz => jv_Ev.m jv_i46 (pc' := 110) (st' := [.int (I (12 + 2 + 1) 7), .ref 2]) (G' := (jv_H K I L R)) rfl rfl (jv_m_getI (hC.now.kk 1 (by decide)) rfl rfl rfl) Kz) ?_
      refine jv_Wp.lift (fun _ Kz => jv_Ev.steps jv_i46 1 (pc' := 111) (l' := [(3, .ref (12 + 2 + 3)), (2, .ref (12 + 2 + 1)), (0, .ref 10), (1, .int (4 : Int32))]) (st' := [.long (I (12 + 2 + 1) 7).toInt64, .ref 2]) rfl Kz) ?_
      rcases vc_map (I := I) (L := L) (R := R) (n := n) (sl := sl) hM (I (12 + 2 + 1) 7).toInt64 with ⟨o12, e12, H12, hk12, me12, hm12⟩ | ⟨H12, hk12⟩
      · refine jv_Wp.lift (fun _ Kz => jv_Ev.c jv_i46 (pc' := 114) (S' := [.ref o12]) jv_i126 [.ref 2, .long (I (12 + 2 + 1) 7).toInt64] rfl rfl rfl rfl (jv_cal rfl (jv_H_at hM.1) rfl rfl) rfl H12 rfl rfl Kz) ?_
        refine jv_Wp.lift (fun _ Kz => jv_Ev.steps jv_i46 3 (pc' := 122) (l' := [(4, .ref o12), (3, .ref (12 + 2 + 3)), (2, .ref (12 + 2 + 1)), (0, .ref 10), (1, .int (4 : Int32))]) (st' := [.ref o12]) rfl Kz) ?_
        refine jv_Wp.lift (fun _ Kz => jv_Ev.br jv_i46 (pc' := 125) (st' := []) rfl (by rfl) Kz) ?_
        refine jv_Wp.lift (fun _ Kz => jv_Ev.steps jv_i46 2 (pc' := 128) (l' := [(4, .ref o12), (3, .ref (12 + 2 + 3)), (2, .ref (12 + 2 + 1)), (0, .ref 10), (1, .int (4 : Int32))]) (st' := [.int (4 : Int32), .ref o12]) rfl Kz) ?_
        obtain ⟨I13, L13, H13, ei13, el13⟩ := vc_takes (I := I) (L := L) (R := R) (n := n) (sl := sl) 4 hm12 (by decide)
        rw [ei13, el13] at H13
        refine jv_Wp.lift (fun _ Kz => jv_Ev.c jv_i46 (pc' := 131) (S' := [.int (vr_b (decide (if 4 = 4 then e12.1 = 2 else if 4 = 3 then e12.1 = 1 else e12.1 ≠ 2)))]) jv_i47 [.ref o12, .int (4 : Int32)] rfl rfl rfl rfl rfl rfl H13 rfl rfl Kz) ?_
        refine jv_Wp.cnd jv_i46 (pt := 137) (pe := 134) (p := (¬ (vr_b (decide (if 4 = 4 then e12.1 = 2 else if 4 = 3 then e12.1 = 1 else e12.1 ≠ 2))) = 0)) (q := (¬ (vr_b (decide (if 4 = 4 then e12.1 = 2 else if 4 = 3 then e12.1 = 1 else e12.1 ≠ 2))) = 0)) rfl jv_bi_ne rfl rfl Iff.rfl (fun h3 => ?_) (fun h3 => ?_)
        · refine jv_Wp.lift (fun _ Kz => jv_Ev.steps jv_i46 2 (pc' := 139) (l' := [(4, .ref o12), (3, .ref (12 + 2 + 3)), (2, .ref (12 + 2 + 1)), (0, .ref 10), (1, .int (4 : Int32))]) (st' := [.int (4 : Int32), .int (4 : Int32)]) rfl Kz) ?_
          refine jv_Wp.lift (fun _ Kz => jv_Ev.br jv_i46 (pc' := 142) (st' := []) rfl (by rfl) Kz) ?_
          refine jv_Wp.lift (fun _ Kz => jv_Ev.steps jv_i46 3 (pc' := 146) (l' := [(4, .ref o12), (3, .ref (12 + 2 + 3)), (2, .ref (12 + 2 + 1)), (0, .ref 10), (1, .int (4 : Int32))]) (st' := [.int (8 : Int32), .int (3 : Int32), .ref 10]) rfl Kz) ?_
          obtain ⟨I14, L14, H14, ei14, el14⟩ := vc_numberIn (I := I) (L := L) (R := R) (n := n) (sl := sl) 3 8 hC (by decide) oa
          rw [ei14, el14] at H14
          refine jv_Wp.lift (fun _ Kz => jv_Ev.c jv_i46 (pc' := 149) (S' := [.int (vl_I (vx_isnum (vc_A I L 12) 3 8))]) jv_i40 [.ref 10, .int (3 : Int32), .int (8 : Int32)] rfl rfl rfl rfl (jv_cal rfl (jv_H_at hC.k) rfl rfl) rfl H14 rfl rfl Kz) ?_
          refine jv_Wp.lift (fun _ Kz => jv_Ev.steps jv_i46 2 (pc' := 153) (l' := [(5, .int (vl_I (vx_isnum (vc_A I L 12) 3 8))), (4, .ref o12), (3, .ref (12 + 2 + 3)), (2, .ref (12 + 2 + 1)), (0, .ref 10), (1, .int (4 : Int32))]) (st' := [.int (vl_I (vx_isnum (vc_A I L 12) 3 8))]) rfl Kz) ?_
          refine jv_Wp.cnd jv_i46 (pt := 180) (pe := 156) (p := (¬ (vl_I (vx_isnum (vc_A I L 12) 3 8)) = 0)) (q := (¬ (vl_I (vx_isnum (vc_A I L 12) 3 8)) = 0)) rfl jv_bi_ne rfl rfl Iff.rfl (fun h4 => ?_) (fun h4 => ?_)
          · refine jv_Wp.lift (fun _ Kz => jv_Ev.steps jv_i46 1 (pc' := 182) (l' := [(5, .int (vl_I (vx_isnum (vc_A I L 12) 3 8))), (4, .ref o12), (3, .ref (12 + 2 + 3)), (2, .ref (12 + 2 + 1)), (0, .ref 10), (1, .int (4 : Int32))]) (st' := [.int (vl_I (vx_isnum (vc_A I L 12) 3 8))]) rfl Kz) ?_
            refine jv_Wp.cnd jv_i46 (pt := 190) (pe := 185) (p := ((vl_I (vx_isnum (vc_A I L 12) 3 8)) = 0)) (q := ((vl_I (vx_isnum (vc_A I L 12) 3 8)) = 0)) rfl jv_bi_eq rfl rfl Iff.rfl (fun hz => absurd hz h4) (fun _ => ?_)
            refine jv_Wp.lift (fun _ Kz => jv_Ev.steps jv_i46 2 (pc' := 200) (l' := [(5, .int (vl_I (vx_isnum (vc_A I L 12) 3 8))), (4, .ref o12), (3, .ref (12 + 2 + 3)), (2, .ref (12 + 2 + 1)), (0, .ref 10), (1, .int (4 : Int32))]) (st' := [.int (vl_I (vx_isnum (vc_A I L 12) 3 8))]) rfl Kz) ?_
            refine jv_Wp.of (jv_Ev.ret jv_i46 rfl rfl) ?_
            rw [hQ]
            have eo1 : ((vc_A I L 12).1 1) = vc_T I L (12 + 2 + 1) := vc_A1 (by decide)
            have eo3 : ((vc_A I L 12).1 3) = vc_T I L (12 + 2 + 3) := vc_A1 (by decide)
            have s0 : ¬ ((vc_A I L 12).1 1).sort = 0 := fun z => h1 ((vc_is0 (oa 1 (by decide))).mp (eo1 ▸ z))
            have s6 : ((vc_A I L 12).1 1).sort = 6 := eo1 ▸ (vc_is6 (oa 1 (by decide))).mpr (Classical.not_not.mp h2)
            have z4 : ¬ vx_isnum (vc_A I L 12) 3 8 = 0 := fun z => h4 (by rw [z]; rfl)
            have i6 := (vc_is6 (oa 1 (by decide))).mp (eo1 ▸ s6)
            have d1 : ((vc_A I L 12).1 1).det = (I (12 + 2 + 1) 7).toInt := by rw [eo1]; exact vc_detm (Or.inl i6)
            have dt : (I (12 + 2 + 1) 7).toInt64.toInt = ((vc_A I L 12).1 1).det := by rw [d1]; exact Int32.toInt_toInt64 _
            rw [dt] at me12
            have tk := of_decide_eq_true (vr_b_t h3)
            have ke := vf_key_of me12
            have im : vx_ismap M (vc_A I L 12) 4 = 0 := (vx_imF s6 me12).trans (if_pos tk)
            have e : (vx_allowed M (vc_A I L 12) 4) = vx_isnum (vc_A I L 12) 3 8 := by rw [vx_al4, im, vx_then0]; exact vx_thenn (by assumption)
            exact ⟨_, _, by rw [e], rfl, rfl⟩
          · refine jv_Wp.lift (fun _ Kz => jv_Ev.steps jv_i46 1 (pc' := 157) (l' := [(5, .int (vl_I (vx_isnum (vc_A I L 12) 3 8))), (4, .ref o12), (3, .ref (12 + 2 + 3)), (2, .ref (12 + 2 + 1)), (0, .ref 10), (1, .int (4 : Int32))]) (st' := [.ref (12 + 2 + 3)]) rfl Kz) ?_
            refine jv_Wp.lift (fun _ Kz => jv_Ev.m jv_i46 (pc' := 160) (st' := [.long (L (12 + 2 + 3) 4)]) (G' := (jv_H K I L R)) rfl rfl (jv_m_getL (hC.now.kk 3 (by decide)) rfl rfl rfl) Kz) ?_
            refine jv_Wp.lift (fun _ Kz => jv_Ev.steps jv_i46 2 (pc' := 162) (l' := [(5, .int (vl_I (vx_isnum (vc_A I L 12) 3 8))), (4, .ref o12), (3, .ref (12 + 2 + 3)), (2, .ref (12 + 2 + 1)), (0, .ref 10), (1, .int (4 : Int32))]) (st' := [.int (lg_cmp (L (12 + 2 + 3) 4) (1 : Int64))]) rfl Kz) ?_
            refine jv_Wp.cnd jv_i46 (pt := 176) (pe := 165) (p := ((lg_cmp (L (12 + 2 + 3) 4) (1 : Int64)) < 0)) (q := ((L (12 + 2 + 3) 4) < (1 : Int64))) rfl jv_bi_lt rfl rfl (lg_cmp_lt (L (12 + 2 + 3) 4) (1 : Int64)) (fun h5 => ?_) (fun h5 => ?_)
            · refine jv_Wp.lift (fun _ Kz => jv_Ev.steps jv_i46 3 (pc' := 182) (l' := [(5, .int (8 : Int32)), (4, .ref o12), (3, .ref (12 + 2 + 3)), (2, .ref (12 + 2 + 1)), (0, .ref 10), (1, .int (4 : Int32))]) (st' := [.int (8 : Int32)]) rfl Kz) ?_
              refine jv_Wp.lift (fun _ Kz => jv_Ev.br jv_i46 (pc' := 185) (st' := []) rfl (by rfl) Kz) ?_
              refine jv_Wp.lift (fun _ Kz => jv_Ev.steps jv_i46 2 (pc' := 200) (l' := [(5, .int (8 : Int32)), (4, .ref o12), (3, .ref (12 + 2 + 3)), (2, .ref (12 + 2 + 1)), (0, .ref 10), (1, .int (4 : Int32))]) (st' := [.int (8 : Int32)]) rfl Kz) ?_
              refine jv_Wp.of (jv_Ev.ret jv_i46 rfl rfl) ?_
              rw [hQ]
              have eo1 : ((vc_A I L 12).1 1) = vc_T I L (12 + 2 + 1) := vc_A1 (by decide)
              have eo3 : ((vc_A I L 12).1 3) = vc_T I L (12 + 2 + 3) := vc_A1 (by decide)
              have s0 : ¬ ((vc_A I L 12).1 1).sort = 0 := fun z => h1 ((vc_is0 (oa 1 (by decide))).mp (eo1 ▸ z))
              have s6 : ((vc_A I L 12).1 1).sort = 6 := eo1 ▸ (vc_is6 (oa 1 (by decide))).mpr (Classical.not_not.mp h2)
              have z4 : vx_isnum (vc_A I L 12) 3 8 = 0 := (vl_I_inj (Nat.lt_trans vx_isnum_lt (by decide)) (by decide)).mp (Classical.not_not.mp h4)
              have v4 : (L (12 + 2 + 3) 4).toInt < 1 := Int64.lt_iff_toInt_lt.mp h5
              have n3 : ((vc_A I L 12).1 3).sort = 1 := (vx_isnum_eq (by decide)).mp ((vl_I_inj (Nat.lt_trans vx_isnum_lt (by decide)) (by decide)).mp (Classical.not_not.mp h4))
              have w3 : ((vc_A I L 12).1 3).val = vl_S L (12 + 2 + 3) := by rw [eo3]; exact vc_valv (Or.inl ((vc_is1 (oa 3 (by decide))).mp (eo3 ▸ n3)))
              have q1 := (tA 3 (by decide)).2.1 (by rw [← eo3, n3]; rfl)
              have q2 : (vl_S L (12 + 2 + 3)).least.toInt ≤ (vl_S L (12 + 2 + 3)).greatest.toInt := by rw [← eo3, w3] at q1; exact Int.le_trans q1.low.2.2.2.1 q1.low.2.2.2.2
              have q3 : (L (12 + 2 + 3) 4).toInt ≤ (L (12 + 2 + 3) 5).toInt := q2
              have i6 := (vc_is6 (oa 1 (by decide))).mp (eo1 ▸ s6)
              have d1 : ((vc_A I L 12).1 1).det = (I (12 + 2 + 1) 7).toInt := by rw [eo1]; exact vc_detm (Or.inl i6)
              have dt : (I (12 + 2 + 1) 7).toInt64.toInt = ((vc_A I L 12).1 1).det := by rw [d1]; exact Int32.toInt_toInt64 _
              rw [dt] at me12
              have tk := of_decide_eq_true (vr_b_t h3)
              have ke := vf_key_of me12
              have im : vx_ismap M (vc_A I L 12) 4 = 0 := (vx_imF s6 me12).trans (if_pos tk)
              have n0 : vx_isnum (vc_A I L 12) 3 8 = 0 := by assumption
              have l4 : ((vc_A I L 12).1 3).val.least.toInt = (L (12 + 2 + 3) 4).toInt := by rw [w3]; rfl
              have l5 : ((vc_A I L 12).1 3).val.greatest.toInt = (L (12 + 2 + 3) 5).toInt := by rw [w3]; rfl
              have e : (vx_allowed M (vc_A I L 12) 4) = 8 := by rw [vx_al4, im, vx_then0, n0, vx_then0, l4, l5, if_pos (show (L (12 + 2 + 3) 4).toInt < 1 ∨ 256 < (L (12 + 2 + 3) 5).toInt by omega)]; exact vx_thenn (by decide)
              exact ⟨_, _, by rw [e]; rfl, rfl, rfl⟩
            · refine jv_Wp.lift (fun _ Kz => jv_Ev.steps jv_i46 1 (pc' := 166) (l' := [(5, .int (vl_I (vx_isnum (vc_A I L 12) 3 8))), (4, .ref o12), (3, .ref (12 + 2 + 3)), (2, .ref (12 + 2 + 1)), (0, .ref 10), (1, .int (4 : Int32))]) (st' := [.ref (12 + 2 + 3)]) rfl Kz) ?_
              refine jv_Wp.lift (fun _ Kz => jv_Ev.m jv_i46 (pc' := 169) (st' := [.long (L (12 + 2 + 3) 5)]) (G' := (jv_H K I L R)) rfl rfl (jv_m_getL (hC.now.kk 3 (by decide)) rfl rfl rfl) Kz) ?_
              refine jv_Wp.lift (fun _ Kz => jv_Ev.steps jv_i46 2 (pc' := 173) (l' := [(5, .int (vl_I (vx_isnum (vc_A I L 12) 3 8))), (4, .ref o12), (3, .ref (12 + 2 + 3)), (2, .ref (12 + 2 + 1)), (0, .ref 10), (1, .int (4 : Int32))]) (st' := [.int (lg_cmp (L (12 + 2 + 3) 5) (256 : Int64))]) rfl Kz) ?_
              refine jv_Wp.cnd jv_i46 (pt := 180) (pe := 176) (p := ((lg_cmp (L (12 + 2 + 3) 5) (256 : Int64)) ≤ 0)) (q := ((L (12 + 2 + 3) 5) ≤ (256 : Int64))) rfl jv_bi_le rfl rfl (lg_cmp_le (L (12 + 2 + 3) 5) (256 : Int64)) (fun h6 => ?_) (fun h6 => ?_)
              · refine jv_Wp.lift (fun _ Kz => jv_Ev.steps jv_i46 1 (pc' := 182) (l' := [(5, .int (vl_I (vx_isnum (vc_A I L 12) 3 8))), (4, .ref o12), (3, .ref (12 + 2 + 3)), (2, .ref (12 + 2 + 1)), (0, .ref 10), (1, .int (4 : Int32))]) (st' := [.int (vl_I (vx_isnum (vc_A I L 12) 3 8))]) rfl Kz) ?_
                refine jv_Wp.cnd jv_i46 (pt := 190) (pe := 185) (p := ((vl_I (vx_isnum (vc_A I L 12) 3 8)) = 0)) (q := ((vl_I (vx_isnum (vc_A I L 12) 3 8)) = 0)) rfl jv_bi_eq rfl rfl Iff.rfl (fun _ => ?_) (fun hz => absurd (Classical.not_not.mp h4) hz)
                refine jv_Wp.lift (fun _ Kz => jv_Ev.steps jv_i46 3 (pc' := 193) (l' := [(5, .int (vl_I (vx_isnum (vc_A I L 12) 3 8))), (4, .ref o12), (3, .ref (12 + 2 + 3)), (2, .ref (12 + 2 + 1)), (0, .ref 10), (1, .int (4 : Int32))]) (st' := [.ref (12 + 2 + 3), .int (2 : Int32), .ref 10]) rfl Kz) ?_
                refine jv_Wp.lift (fun _ Kz => jv_Ev.m jv_i46 (pc' := 196) (st' := [.long (L (12 + 2 + 3) 5), .int (2 : Int32), .ref 10]) (G' := (jv_H K I L R)) rfl rfl (jv_m_getL (hC.now.kk 3 (by decide)) rfl rfl rfl) Kz) ?_
                refine jv_Wp.lift (fun _ Kz => jv_Ev.steps jv_i46 1 (pc' := 197) (l' := [(5, .int (vl_I (vx_isnum (vc_A I L 12) 3 8))), (4, .ref o12), (3, .ref (12 + 2 + 3)), (2, .ref (12 + 2 + 1)), (0, .ref 10), (1, .int (4 : Int32))]) (st' := [.int (L (12 + 2 + 3) 5).toInt32, .int (2 : Int32), .ref 10]) rfl Kz) ?_
                have eo1 : ((vc_A I L 12).1 1) = vc_T I L (12 + 2 + 1) := vc_A1 (by decide)
                have eo3 : ((vc_A I L 12).1 3) = vc_T I L (12 + 2 + 3) := vc_A1 (by decide)
                have s0 : ¬ ((vc_A I L 12).1 1).sort = 0 := fun z => h1 ((vc_is0 (oa 1 (by decide))).mp (eo1 ▸ z))
                have s6 : ((vc_A I L 12).1 1).sort = 6 := eo1 ▸ (vc_is6 (oa 1 (by decide))).mpr (Classical.not_not.mp h2)
                have z4 : vx_isnum (vc_A I L 12) 3 8 = 0 := (vl_I_inj (Nat.lt_trans vx_isnum_lt (by decide)) (by decide)).mp (Classical.not_not.mp h4)
                have v4 : ¬ (L (12 + 2 + 3) 4).toInt < 1 := (not_congr Int64.lt_iff_toInt_lt).mp h5
                have v5 : (L (12 + 2 + 3) 5).toInt ≤ 256 := Int64.le_iff_toInt_le.mp h6
                have n3 : ((vc_A I L 12).1 3).sort = 1 := (vx_isnum_eq (by decide)).mp ((vl_I_inj (Nat.lt_trans vx_isnum_lt (by decide)) (by decide)).mp (Classical.not_not.mp h4))
                have w3 : ((vc_A I L 12).1 3).val = vl_S L (12 + 2 + 3) := by rw [eo3]; exact vc_valv (Or.inl ((vc_is1 (oa 3 (by decide))).mp (eo3 ▸ n3)))
                have q1 := (tA 3 (by decide)).2.1 (by rw [← eo3, n3]; rfl)
                have q2 : (vl_S L (12 + 2 + 3)).least.toInt ≤ (vl_S L (12 + 2 + 3)).greatest.toInt := by rw [← eo3, w3] at q1; exact Int.le_trans q1.low.2.2.2.1 q1.low.2.2.2.2
                have q3 : (L (12 + 2 + 3) 4).toInt ≤ (L (12 + 2 + 3) 5).toInt := q2
                obtain ⟨I15, L15, H15, ei15, el15⟩ := vc_tells (I := I) (L := L) (R := R) (n := n) (sl := sl) (M := M) 2 (L (12 + 2 + 3) 5).toInt.toNat hC hM (by decide) (by omega) hkn oa tA gA
                rw [ei15, el15] at H15
                rw [← vi_g32 (by omega) (by omega)] at H15
                refine jv_Wp.lift (fun _ Kz => jv_Ev.c jv_i46 (pc' := 200) (S' := [.int (vl_I (vx_tells M (vc_A I L 12) 2 ((L (12 + 2 + 3) 5).toInt.toNat)))]) jv_i48 [.ref 10, .int (2 : Int32), .int (L (12 + 2 + 3) 5).toInt32] rfl rfl rfl rfl (jv_cal rfl (jv_H_at hC.k) rfl rfl) rfl H15 rfl rfl Kz) ?_
                refine jv_Wp.of (jv_Ev.ret jv_i46 rfl rfl) ?_
                rw [hQ]
                have eo1 : ((vc_A I L 12).1 1) = vc_T I L (12 + 2 + 1) := vc_A1 (by decide)
                have eo3 : ((vc_A I L 12).1 3) = vc_T I L (12 + 2 + 3) := vc_A1 (by decide)
                have s0 : ¬ ((vc_A I L 12).1 1).sort = 0 := fun z => h1 ((vc_is0 (oa 1 (by decide))).mp (eo1 ▸ z))
                have s6 : ((vc_A I L 12).1 1).sort = 6 := eo1 ▸ (vc_is6 (oa 1 (by decide))).mpr (Classical.not_not.mp h2)
                have z4 : vx_isnum (vc_A I L 12) 3 8 = 0 := (vl_I_inj (Nat.lt_trans vx_isnum_lt (by decide)) (by decide)).mp (Classical.not_not.mp h4)
                have v4 : ¬ (L (12 + 2 + 3) 4).toInt < 1 := (not_congr Int64.lt_iff_toInt_lt).mp h5
                have v5 : (L (12 + 2 + 3) 5).toInt ≤ 256 := Int64.le_iff_toInt_le.mp h6
                have n3 : ((vc_A I L 12).1 3).sort = 1 := (vx_isnum_eq (by decide)).mp ((vl_I_inj (Nat.lt_trans vx_isnum_lt (by decide)) (by decide)).mp (Classical.not_not.mp h4))
                have w3 : ((vc_A I L 12).1 3).val = vl_S L (12 + 2 + 3) := by rw [eo3]; exact vc_valv (Or.inl ((vc_is1 (oa 3 (by decide))).mp (eo3 ▸ n3)))
                have q1 := (tA 3 (by decide)).2.1 (by rw [← eo3, n3]; rfl)
                have q2 : (vl_S L (12 + 2 + 3)).least.toInt ≤ (vl_S L (12 + 2 + 3)).greatest.toInt := by rw [← eo3, w3] at q1; exact Int.le_trans q1.low.2.2.2.1 q1.low.2.2.2.2
                have q3 : (L (12 + 2 + 3) 4).toInt ≤ (L (12 + 2 + 3) 5).toInt := q2
                have i6 := (vc_is6 (oa 1 (by decide))).mp (eo1 ▸ s6)
                have d1 : ((vc_A I L 12).1 1).det = (I (12 + 2 + 1) 7).toInt := by rw [eo1]; exact vc_detm (Or.inl i6)
                have dt : (I (12 + 2 + 1) 7).toInt64.toInt = ((vc_A I L 12).1 1).det := by rw [d1]; exact Int32.toInt_toInt64 _
                rw [dt] at me12
                have tk := of_decide_eq_true (vr_b_t h3)
                have ke := vf_key_of me12
                have im : vx_ismap M (vc_A I L 12) 4 = 0 := (vx_imF s6 me12).trans (if_pos tk)
                have n0 : vx_isnum (vc_A I L 12) 3 8 = 0 := by assumption
                have l4 : ((vc_A I L 12).1 3).val.least.toInt = (L (12 + 2 + 3) 4).toInt := by rw [w3]; rfl
                have l5 : ((vc_A I L 12).1 3).val.greatest.toInt = (L (12 + 2 + 3) 5).toInt := by rw [w3]; rfl
                have e : (vx_allowed M (vc_A I L 12) 4) = vx_tells M (vc_A I L 12) 2 (L (12 + 2 + 3) 5).toInt.toNat := by rw [vx_al4, im, vx_then0, n0, vx_then0, l4, l5, if_neg (show ¬ ((L (12 + 2 + 3) 4).toInt < 1 ∨ 256 < (L (12 + 2 + 3) 5).toInt) by omega), vx_then0]
                exact ⟨_, _, by rw [e], rfl, rfl⟩
              · refine jv_Wp.lift (fun _ Kz => jv_Ev.steps jv_i46 3 (pc' := 182) (l' := [(5, .int (8 : Int32)), (4, .ref o12), (3, .ref (12 + 2 + 3)), (2, .ref (12 + 2 + 1)), (0, .ref 10), (1, .int (4 : Int32))]) (st' := [.int (8 : Int32)]) rfl Kz) ?_
                refine jv_Wp.lift (fun _ Kz => jv_Ev.br jv_i46 (pc' := 185) (st' := []) rfl (by rfl) Kz) ?_
                refine jv_Wp.lift (fun _ Kz => jv_Ev.steps jv_i46 2 (pc' := 200) (l' := [(5, .int (8 : Int32)), (4, .ref o12), (3, .ref (12 + 2 + 3)), (2, .ref (12 + 2 + 1)), (0, .ref 10), (1, .int (4 : Int32))]) (st' := [.int (8 : Int32)]) rfl Kz) ?_
                refine jv_Wp.of (jv_Ev.ret jv_i46 rfl rfl) ?_
                rw [hQ]
                have eo1 : ((vc_A I L 12).1 1) = vc_T I L (12 + 2 + 1) := vc_A1 (by decide)
                have eo3 : ((vc_A I L 12).1 3) = vc_T I L (12 + 2 + 3) := vc_A1 (by decide)
                have s0 : ¬ ((vc_A I L 12).1 1).sort = 0 := fun z => h1 ((vc_is0 (oa 1 (by decide))).mp (eo1 ▸ z))
                have s6 : ((vc_A I L 12).1 1).sort = 6 := eo1 ▸ (vc_is6 (oa 1 (by decide))).mpr (Classical.not_not.mp h2)
                have z4 : vx_isnum (vc_A I L 12) 3 8 = 0 := (vl_I_inj (Nat.lt_trans vx_isnum_lt (by decide)) (by decide)).mp (Classical.not_not.mp h4)
                have v4 : ¬ (L (12 + 2 + 3) 4).toInt < 1 := (not_congr Int64.lt_iff_toInt_lt).mp h5
                have v5 : ¬ (L (12 + 2 + 3) 5).toInt ≤ 256 := (not_congr Int64.le_iff_toInt_le).mp h6
                have n3 : ((vc_A I L 12).1 3).sort = 1 := (vx_isnum_eq (by decide)).mp ((vl_I_inj (Nat.lt_trans vx_isnum_lt (by decide)) (by decide)).mp (Classical.not_not.mp h4))
                have w3 : ((vc_A I L 12).1 3).val = vl_S L (12 + 2 + 3) := by rw [eo3]; exact vc_valv (Or.inl ((vc_is1 (oa 3 (by decide))).mp (eo3 ▸ n3)))
                have q1 := (tA 3 (by decide)).2.1 (by rw [← eo3, n3]; rfl)
                have q2 : (vl_S L (12 + 2 + 3)).least.toInt ≤ (vl_S L (12 + 2 + 3)).greatest.toInt := by rw [← eo3, w3] at q1; exact Int.le_trans q1.low.2.2.2.1 q1.low.2.2.2.2
                have q3 : (L (12 + 2 + 3) 4).toInt ≤ (L (12 + 2 + 3) 5).toInt := q2
                have i6 := (vc_is6 (oa 1 (by decide))).mp (eo1 ▸ s6)
                have d1 : ((vc_A I L 12).1 1).det = (I (12 + 2 + 1) 7).toInt := by rw [eo1]; exact vc_detm (Or.inl i6)
                have dt : (I (12 + 2 + 1) 7).toInt64.toInt = ((vc_A I L 12).1 1).det := by rw [d1]; exact Int32.toInt_toInt64 _
                rw [dt] at me12
                have tk := of_decide_eq_true (vr_b_t h3)
                have ke := vf_key_of me12
                have im : vx_ismap M (vc_A I L 12) 4 = 0 := (vx_imF s6 me12).trans (if_pos tk)
                have n0 : vx_isnum (vc_A I L 12) 3 8 = 0 := by assumption
                have l4 : ((vc_A I L 12).1 3).val.least.toInt = (L (12 + 2 + 3) 4).toInt := by rw [w3]; rfl
                have l5 : ((vc_A I L 12).1 3).val.greatest.toInt = (L (12 + 2 + 3) 5).toInt := by rw [w3]; rfl
                have e : (vx_allowed M (vc_A I L 12) 4) = 8 := by rw [vx_al4, im, vx_then0, n0, vx_then0, l4, l5, if_pos (show (L (12 + 2 + 3) 4).toInt < 1 ∨ 256 < (L (12 + 2 + 3) 5).toInt by omega)]; exact vx_thenn (by decide)
                exact ⟨_, _, by rw [e]; rfl, rfl, rfl⟩
        · refine jv_Wp.lift (fun _ Kz => jv_Ev.steps jv_i46 1 (pc' := 136) (l' := [(4, .ref o12), (3, .ref (12 + 2 + 3)), (2, .ref (12 + 2 + 1)), (0, .ref 10), (1, .int (4 : Int32))]) (st' := [.int (8 : Int32)]) rfl Kz) ?_
          refine jv_Wp.of (jv_Ev.ret jv_i46 rfl rfl) ?_
          rw [hQ]
          have eo1 : ((vc_A I L 12).1 1) = vc_T I L (12 + 2 + 1) := vc_A1 (by decide)
          have eo3 : ((vc_A I L 12).1 3) = vc_T I L (12 + 2 + 3) := vc_A1 (by decide)
          have s0 : ¬ ((vc_A I L 12).1 1).sort = 0 := fun z => h1 ((vc_is0 (oa 1 (by decide))).mp (eo1 ▸ z))
          have s6 : ((vc_A I L 12).1 1).sort = 6 := eo1 ▸ (vc_is6 (oa 1 (by decide))).mpr (Classical.not_not.mp h2)
          have i6 := (vc_is6 (oa 1 (by decide))).mp (eo1 ▸ s6)
          have d1 : ((vc_A I L 12).1 1).det = (I (12 + 2 + 1) 7).toInt := by rw [eo1]; exact vc_detm (Or.inl i6)
          have dt : (I (12 + 2 + 1) 7).toInt64.toInt = ((vc_A I L 12).1 1).det := by rw [d1]; exact Int32.toInt_toInt64 _
          rw [dt] at me12
          have tk := of_decide_eq_false (vr_b_f (Classical.not_not.mp h3))
          have im : vx_ismap M (vc_A I L 12) 4 = 8 := (vx_imF s6 me12).trans (if_neg tk)
          have e : (vx_allowed M (vc_A I L 12) 4) = 8 := by rw [vx_al4, im]; exact vx_thenn (by decide)
          exact ⟨_, _, by rw [e]; rfl, rfl, rfl⟩
      · refine jv_Wp.lift (fun _ Kz => jv_Ev.c jv_i46 (pc' := 114) (S' := [.null]) jv_i126 [.ref 2, .long (I (12 + 2 + 1) 7).toInt64] rfl rfl rfl rfl (jv_cal rfl (jv_H_at hM.1) rfl rfl) rfl H12 rfl rfl Kz) ?_
        refine jv_Wp.lift (fun _ Kz => jv_Ev.steps jv_i46 3 (pc' := 122) (l' := [(4, .null), (3, .ref (12 + 2 + 3)), (2, .ref (12 + 2 + 1)), (0, .ref 10), (1, .int (4 : Int32))]) (st' := [.null]) rfl Kz) ?_
        refine jv_Wp.lift (fun _ Kz => jv_Ev.br jv_i46 (pc' := 134) (st' := []) rfl (by rfl) Kz) ?_
        refine jv_Wp.lift (fun _ Kz => jv_Ev.steps jv_i46 1 (pc' := 136) (l' := [(4, .null), (3, .ref (12 + 2 + 3)), (2, .ref (12 + 2 + 1)), (0, .ref 10), (1, .int (4 : Int32))]) (st' := [.int (8 : Int32)]) rfl Kz) ?_
        refine jv_Wp.of (jv_Ev.ret jv_i46 rfl rfl) ?_
        rw [hQ]
        have eo1 : ((vc_A I L 12).1 1) = vc_T I L (12 + 2 + 1) := vc_A1 (by decide)
        have eo3 : ((vc_A I L 12).1 3) = vc_T I L (12 + 2 + 3) := vc_A1 (by decide)
        have s0 : ¬ ((vc_A I L 12).1 1).sort = 0 := fun z => h1 ((vc_is0 (oa 1 (by decide))).mp (eo1 ▸ z))
        have s6 : ((vc_A I L 12).1 1).sort = 6 := eo1 ▸ (vc_is6 (oa 1 (by decide))).mpr (Classical.not_not.mp h2)
        have i6 := (vc_is6 (oa 1 (by decide))).mp (eo1 ▸ s6)
        have d1 : ((vc_A I L 12).1 1).det = (I (12 + 2 + 1) 7).toInt := by rw [eo1]; exact vc_detm (Or.inl i6)
        have dt : (I (12 + 2 + 1) 7).toInt64.toInt = ((vc_A I L 12).1 1).det := by rw [d1]; exact Int32.toInt_toInt64 _
        rw [dt] at hk12
        have mn : M ((vc_A I L 12).1 1).det.toNat = none := hk12.resolve_left (by rw [d1]; exact Int.not_lt.mpr (m6 i6))
        have im : vx_ismap M (vc_A I L 12) 4 = 8 := vx_imN s6 mn
        have e : (vx_allowed M (vc_A I L 12) 4) = 8 := by rw [vx_al4, im]; exact vx_thenn (by decide)
        exact ⟨_, _, by rw [e]; rfl, rfl, rfl⟩
  · refine jv_Wp.lift (fun _ Kz => jv_Ev.steps jv_i46 1 (pc' := 56) (l' := [(3, .ref (12 + 2 + 3)), (2, .ref (12 + 2 + 1)), (0, .ref 10), (1, .int (4 : Int32))]) (st' := [.int (1 : Int32)]) rfl Kz) ?_
    refine jv_Wp.of (jv_Ev.ret jv_i46 rfl rfl) ?_
    rw [hQ]
    have eo1 : ((vc_A I L 12).1 1) = vc_T I L (12 + 2 + 1) := vc_A1 (by decide)
    have eo3 : ((vc_A I L 12).1 3) = vc_T I L (12 + 2 + 3) := vc_A1 (by decide)
    have s0 : ((vc_A I L 12).1 1).sort = 0 := eo1 ▸ (vc_is0 (oa 1 (by decide))).mpr (Classical.not_not.mp h1)
    have im : vx_ismap M (vc_A I L 12) 4 = 1 := vx_im1 s0
    have e : (vx_allowed M (vc_A I L 12) 4) = 1 := by rw [vx_al4, im]; exact vx_thenn (by decide)
    exact ⟨_, _, by rw [e]; rfl, rfl, rfl⟩
theorem vc_allowed5 {K : Nat → Option (Nat × Nat)} {I : Nat → Nat → Int32} {L : Nat → Nat → Int64} {R : Nat → Nat → Value} {M : vf_M} (hC : vc_C K R) (hM : vc_M K I R M) (hkn : (L 12 1).toInt ≤ 1073000000) (oa : vc_okA I L 12) (tA : ∀ n, n < 75 → vt_ok (vc_T I L (12 + 2 + n))) (gA : ∀ n, n < 75 → vc_g I L (12 + 2 + n)) (m6 : I (12 + 2 + 1) 6 = 6 → 0 ≤ (I (12 + 2 + 1) 7).toInt) {n sl : Nat} : ∃ I1 L1, jv_Ms 46 [.ref 10, .int (5 : Int32)] (jv_H K I L R) n sl (some (.int (vl_I (vx_allowed M (vc_A I L 12) 5))), jv_H K I1 L1 R, n, sl) ∧ I1 = I ∧ L1 = L := by
  obtain ⟨Q, hQ⟩ : ∃ Q : jv_R → Prop, Q = fun X => ∃ I1 L1, X = (some (.int (vl_I (vx_allowed M (vc_A I L 12) 5))), jv_H K I1 L1 R, n, sl) ∧ I1 = I ∧ L1 = L := ⟨_, rfl⟩
  suffices h : jv_Wp 46 0 [(0, .ref 10), (1, .int (5 : Int32))] [] (jv_H K I L R) n sl Q by
    rw [hQ] at h
    obtain ⟨X, h, I1, L1, e, h'⟩ := h
    subst e
    exact ⟨I1, L1, h, h'⟩
  refine jv_Wp.lift (fun _ Kz => jv_Ev.steps jv_i46 1 (pc' := 1) (l' := [(0, .ref 10), (1, .int (5 : Int32))]) (st' := [.ref 10]) rfl Kz) ?_
  refine jv_Wp.lift (fun _ Kz => jv_Ev.m jv_i46 (pc' := 4) (st' := [.ref 12]) (G' := (jv_H K I L R)) rfl rfl (jv_m_getR hC.k rfl rfl hC.rnow) Kz) ?_
  refine jv_Wp.lift (fun _ Kz => jv_Ev.m jv_i46 (pc' := 7) (st' := [.ref (12 + 1)]) (G' := (jv_H K I L R)) rfl rfl (jv_m_getR hC.now.k rfl rfl hC.now.r) Kz) ?_
  refine jv_Wp.lift (fun _ Kz => jv_Ev.steps jv_i46 1 (pc' := 8) (l' := [(0, .ref 10), (1, .int (5 : Int32))]) (st' := [.int (1 : Int32), .ref (12 + 1)]) rfl Kz) ?_
  refine jv_Wp.lift (fun _ Kz => jv_Ev.m jv_i46 (pc' := 9) (st' := [.ref (12 + 2 + 1)]) (G' := (jv_H K I L R)) rfl rfl (jv_m_aaldR hC.now.kt rfl (by decide) rfl (hC.now.rt 1 (by decide))) Kz) ?_
  refine jv_Wp.lift (fun _ Kz => jv_Ev.steps jv_i46 2 (pc' := 11) (l' := [(2, .ref (12 + 2 + 1)), (0, .ref 10), (1, .int (5 : Int32))]) (st' := [.ref 10]) rfl Kz) ?_
  refine jv_Wp.lift (fun _ Kz => jv_Ev.m jv_i46 (pc' := 14) (st' := [.ref 12]) (G' := (jv_H K I L R)) rfl rfl (jv_m_getR hC.k rfl rfl hC.rnow) Kz) ?_
  refine jv_Wp.lift (fun _ Kz => jv_Ev.m jv_i46 (pc' := 17) (st' := [.ref (12 + 1)]) (G' := (jv_H K I L R)) rfl rfl (jv_m_getR hC.now.k rfl rfl hC.now.r) Kz) ?_
  refine jv_Wp.lift (fun _ Kz => jv_Ev.steps jv_i46 1 (pc' := 18) (l' := [(2, .ref (12 + 2 + 1)), (0, .ref 10), (1, .int (5 : Int32))]) (st' := [.int (3 : Int32), .ref (12 + 1)]) rfl Kz) ?_
  refine jv_Wp.lift (fun _ Kz => jv_Ev.m jv_i46 (pc' := 19) (st' := [.ref (12 + 2 + 3)]) (G' := (jv_H K I L R)) rfl rfl (jv_m_aaldR hC.now.kt rfl (by decide) rfl (hC.now.rt 3 (by decide))) Kz) ?_
  refine jv_Wp.lift (fun _ Kz => jv_Ev.steps jv_i46 3 (pc' := 22) (l' := [(3, .ref (12 + 2 + 3)), (2, .ref (12 + 2 + 1)), (0, .ref 10), (1, .int (5 : Int32))]) (st' := [.int (5 : Int32), .int (5 : Int32)]) rfl Kz) ?_
  refine jv_Wp.lift (fun _ Kz => jv_Ev.br jv_i46 (pc' := 36) (st' := []) rfl (by rfl) Kz) ?_
  refine jv_Wp.lift (fun _ Kz => jv_Ev.steps jv_i46 2 (pc' := 38) (l' := [(3, .ref (12 + 2 + 3)), (2, .ref (12 + 2 + 1)), (0, .ref 10), (1, .int (5 : Int32))]) (st' := [.int (5 : Int32), .int (5 : Int32)]) rfl Kz) ?_
  refine jv_Wp.lift (fun _ Kz => jv_Ev.br jv_i46 (pc' := 41) (st' := []) rfl (by rfl) Kz) ?_
  refine jv_Wp.lift (fun _ Kz => jv_Ev.steps jv_i46 2 (pc' := 47) (l' := [(3, .ref (12 + 2 + 3)), (2, .ref (12 + 2 + 1)), (0, .ref 10), (1, .int (5 : Int32))]) (st' := [.int (0 : Int32)]) rfl Kz) ?_
  refine jv_Wp.of (jv_Ev.ret jv_i46 rfl rfl) ?_
  rw [hQ]
  have eo1 : ((vc_A I L 12).1 1) = vc_T I L (12 + 2 + 1) := vc_A1 (by decide)
  have eo3 : ((vc_A I L 12).1 3) = vc_T I L (12 + 2 + 3) := vc_A1 (by decide)
  exact ⟨_, _, rfl, rfl, rfl⟩
theorem vc_allowed6 {K : Nat → Option (Nat × Nat)} {I : Nat → Nat → Int32} {L : Nat → Nat → Int64} {R : Nat → Nat → Value} {M : vf_M} (hC : vc_C K R) (hM : vc_M K I R M) (hkn : (L 12 1).toInt ≤ 1073000000) (oa : vc_okA I L 12) (tA : ∀ n, n < 75 → vt_ok (vc_T I L (12 + 2 + n))) (gA : ∀ n, n < 75 → vc_g I L (12 + 2 + n)) (m6 : I (12 + 2 + 1) 6 = 6 → 0 ≤ (I (12 + 2 + 1) 7).toInt) {n sl : Nat} : ∃ I1 L1, jv_Ms 46 [.ref 10, .int (6 : Int32)] (jv_H K I L R) n sl (some (.int (vl_I (vx_allowed M (vc_A I L 12) 6))), jv_H K I1 L1 R, n, sl) ∧ I1 = I ∧ L1 = L := by
  obtain ⟨Q, hQ⟩ : ∃ Q : jv_R → Prop, Q = fun X => ∃ I1 L1, X = (some (.int (vl_I (vx_allowed M (vc_A I L 12) 6))), jv_H K I1 L1 R, n, sl) ∧ I1 = I ∧ L1 = L := ⟨_, rfl⟩
  suffices h : jv_Wp 46 0 [(0, .ref 10), (1, .int (6 : Int32))] [] (jv_H K I L R) n sl Q by
    rw [hQ] at h
    obtain ⟨X, h, I1, L1, e, h'⟩ := h
    subst e
    exact ⟨I1, L1, h, h'⟩
  refine jv_Wp.lift (fun _ Kz => jv_Ev.steps jv_i46 1 (pc' := 1) (l' := [(0, .ref 10), (1, .int (6 : Int32))]) (st' := [.ref 10]) rfl Kz) ?_
  refine jv_Wp.lift (fun _ Kz => jv_Ev.m jv_i46 (pc' := 4) (st' := [.ref 12]) (G' := (jv_H K I L R)) rfl rfl (jv_m_getR hC.k rfl rfl hC.rnow) Kz) ?_
  refine jv_Wp.lift (fun _ Kz => jv_Ev.m jv_i46 (pc' := 7) (st' := [.ref (12 + 1)]) (G' := (jv_H K I L R)) rfl rfl (jv_m_getR hC.now.k rfl rfl hC.now.r) Kz) ?_
  refine jv_Wp.lift (fun _ Kz => jv_Ev.steps jv_i46 1 (pc' := 8) (l' := [(0, .ref 10), (1, .int (6 : Int32))]) (st' := [.int (1 : Int32), .ref (12 + 1)]) rfl Kz) ?_
  refine jv_Wp.lift (fun _ Kz => jv_Ev.m jv_i46 (pc' := 9) (st' := [.ref (12 + 2 + 1)]) (G' := (jv_H K I L R)) rfl rfl (jv_m_aaldR hC.now.kt rfl (by decide) rfl (hC.now.rt 1 (by decide))) Kz) ?_
  refine jv_Wp.lift (fun _ Kz => jv_Ev.steps jv_i46 2 (pc' := 11) (l' := [(2, .ref (12 + 2 + 1)), (0, .ref 10), (1, .int (6 : Int32))]) (st' := [.ref 10]) rfl Kz) ?_
  refine jv_Wp.lift (fun _ Kz => jv_Ev.m jv_i46 (pc' := 14) (st' := [.ref 12]) (G' := (jv_H K I L R)) rfl rfl (jv_m_getR hC.k rfl rfl hC.rnow) Kz) ?_
  refine jv_Wp.lift (fun _ Kz => jv_Ev.m jv_i46 (pc' := 17) (st' := [.ref (12 + 1)]) (G' := (jv_H K I L R)) rfl rfl (jv_m_getR hC.now.k rfl rfl hC.now.r) Kz) ?_
  refine jv_Wp.lift (fun _ Kz => jv_Ev.steps jv_i46 1 (pc' := 18) (l' := [(2, .ref (12 + 2 + 1)), (0, .ref 10), (1, .int (6 : Int32))]) (st' := [.int (3 : Int32), .ref (12 + 1)]) rfl Kz) ?_
  refine jv_Wp.lift (fun _ Kz => jv_Ev.m jv_i46 (pc' := 19) (st' := [.ref (12 + 2 + 3)]) (G' := (jv_H K I L R)) rfl rfl (jv_m_aaldR hC.now.kt rfl (by decide) rfl (hC.now.rt 3 (by decide))) Kz) ?_
  refine jv_Wp.lift (fun _ Kz => jv_Ev.steps jv_i46 3 (pc' := 22) (l' := [(3, .ref (12 + 2 + 3)), (2, .ref (12 + 2 + 1)), (0, .ref 10), (1, .int (6 : Int32))]) (st' := [.int (5 : Int32), .int (6 : Int32)]) rfl Kz) ?_
  refine jv_Wp.lift (fun _ Kz => jv_Ev.br jv_i46 (pc' := 25) (st' := []) rfl (by rfl) Kz) ?_
  refine jv_Wp.lift (fun _ Kz => jv_Ev.steps jv_i46 2 (pc' := 27) (l' := [(3, .ref (12 + 2 + 3)), (2, .ref (12 + 2 + 1)), (0, .ref 10), (1, .int (6 : Int32))]) (st' := [.int (1 : Int32), .int (6 : Int32)]) rfl Kz) ?_
  refine jv_Wp.lift (fun _ Kz => jv_Ev.br jv_i46 (pc' := 30) (st' := []) rfl (by rfl) Kz) ?_
  refine jv_Wp.lift (fun _ Kz => jv_Ev.steps jv_i46 2 (pc' := 33) (l' := [(3, .ref (12 + 2 + 3)), (2, .ref (12 + 2 + 1)), (0, .ref 10), (1, .int (6 : Int32))]) (st' := [.int (6 : Int32), .int (6 : Int32)]) rfl Kz) ?_
  refine jv_Wp.lift (fun _ Kz => jv_Ev.br jv_i46 (pc' := 48) (st' := []) rfl (by rfl) Kz) ?_
  refine jv_Wp.lift (fun _ Kz => jv_Ev.steps jv_i46 1 (pc' := 49) (l' := [(3, .ref (12 + 2 + 3)), (2, .ref (12 + 2 + 1)), (0, .ref 10), (1, .int (6 : Int32))]) (st' := [.ref (12 + 2 + 1)]) rfl Kz) ?_
  refine jv_Wp.lift (fun _ Kz => jv_Ev.m jv_i46 (pc' := 52) (st' := [.int (I (12 + 2 + 1) 6)]) (G' := (jv_H K I L R)) rfl rfl (jv_m_getI (hC.now.kk 1 (by decide)) rfl rfl rfl) Kz) ?_
  refine jv_Wp.cnd jv_i46 (pt := 57) (pe := 55) (p := (¬ (I (12 + 2 + 1) 6) = 0)) (q := (¬ (I (12 + 2 + 1) 6) = 0)) rfl jv_bi_ne rfl rfl Iff.rfl (fun h1 => ?_) (fun h1 => ?_)
  · refine jv_Wp.lift (fun _ Kz => jv_Ev.steps jv_i46 2 (pc' := 60) (l' := [(3, .ref (12 + 2 + 3)), (2, .ref (12 + 2 + 1)), (0, .ref 10), (1, .int (6 : Int32))]) (st' := [.int (6 : Int32), .int (6 : Int32)]) rfl Kz) ?_
    refine jv_Wp.lift (fun _ Kz => jv_Ev.br jv_i46 (pc' := 63) (st' := []) rfl (by rfl) Kz) ?_
    refine jv_Wp.lift (fun _ Kz => jv_Ev.steps jv_i46 1 (pc' := 64) (l' := [(3, .ref (12 + 2 + 3)), (2, .ref (12 + 2 + 1)), (0, .ref 10), (1, .int (6 : Int32))]) (st' := [.ref (12 + 2 + 1)]) rfl Kz) ?_
    refine jv_Wp.lift (fun _ Kz => jv_Ev.m jv_i46 (pc' := 67) (st' := [.int (I (12 + 2 + 1) 6)]) (G' := (jv_H K I L R)) rfl rfl (jv_m_getI (hC.now.kk 1 (by decide)) rfl rfl rfl) Kz) ?_
    refine jv_Wp.lift (fun _ Kz => jv_Ev.steps jv_i46 1 (pc' := 68) (l' := [(3, .ref (12 + 2 + 3)), (2, .ref (12 + 2 + 1)), (0, .ref 10), (1, .int (6 : Int32))]) (st' := [.int (2 : Int32), .int (I (12 + 2 + 1) 6)]) rfl Kz) ?_
    refine jv_Wp.cnd jv_i46 (pt := 90) (pe := 71) (p := (¬ (I (12 + 2 + 1) 6) = (2 : Int32))) (q := (¬ (I (12 + 2 + 1) 6) = (2 : Int32))) rfl jv_bc_ne rfl rfl Iff.rfl (fun h2 => ?_) (fun h2 => ?_)
    · refine jv_Wp.lift (fun _ Kz => jv_Ev.steps jv_i46 1 (pc' := 92) (l' := [(3, .ref (12 + 2 + 3)), (2, .ref (12 + 2 + 1)), (0, .ref 10), (1, .int (6 : Int32))]) (st' := [.int (8 : Int32)]) rfl Kz) ?_
      refine jv_Wp.of (jv_Ev.ret jv_i46 rfl rfl) ?_
      rw [hQ]
      have eo1 : ((vc_A I L 12).1 1) = vc_T I L (12 + 2 + 1) := vc_A1 (by decide)
      have eo3 : ((vc_A I L 12).1 3) = vc_T I L (12 + 2 + 3) := vc_A1 (by decide)
      have s0 : ¬ ((vc_A I L 12).1 1).sort = 0 := fun z => h1 ((vc_is0 (oa 1 (by decide))).mp (eo1 ▸ z))
      have s2 : ¬ ((vc_A I L 12).1 1).sort = 2 := fun z => h2 ((vc_is2 (oa 1 (by decide))).mp (eo1 ▸ z))
      have e : (vx_allowed M (vc_A I L 12) 6) = 8 := vx_al6.trans ((if_neg s0).trans (if_neg (fun z => s2 z.1)))
      exact ⟨_, _, by rw [e] <;> rfl, rfl, rfl⟩
    · refine jv_Wp.lift (fun _ Kz => jv_Ev.steps jv_i46 1 (pc' := 72) (l' := [(3, .ref (12 + 2 + 3)), (2, .ref (12 + 2 + 1)), (0, .ref 10), (1, .int (6 : Int32))]) (st' := [.ref (12 + 2 + 1)]) rfl Kz) ?_
      refine jv_Wp.lift (fun _ Kz => jv_Ev.m jv_i46 (pc' := 75) (st' := [.long (L (12 + 2 + 1) 8)]) (G' := (jv_H K I L R)) rfl rfl (jv_m_getL (hC.now.kk 1 (by decide)) rfl rfl rfl) Kz) ?_
      refine jv_Wp.lift (fun _ Kz => jv_Ev.steps jv_i46 2 (pc' := 77) (l' := [(3, .ref (12 + 2 + 3)), (2, .ref (12 + 2 + 1)), (0, .ref 10), (1, .int (6 : Int32))]) (st' := [.int (lg_cmp (L (12 + 2 + 1) 8) (0 : Int64))]) rfl Kz) ?_
      refine jv_Wp.cnd jv_i46 (pt := 90) (pe := 80) (p := (¬ (lg_cmp (L (12 + 2 + 1) 8) (0 : Int64)) = 0)) (q := (¬ (L (12 + 2 + 1) 8) = (0 : Int64))) rfl jv_bi_ne rfl rfl (not_congr (lg_cmp_eq (L (12 + 2 + 1) 8) (0 : Int64))) (fun h3 => ?_) (fun h3 => ?_)
      · refine jv_Wp.lift (fun _ Kz => jv_Ev.steps jv_i46 1 (pc' := 92) (l' := [(3, .ref (12 + 2 + 3)), (2, .ref (12 + 2 + 1)), (0, .ref 10), (1, .int (6 : Int32))]) (st' := [.int (8 : Int32)]) rfl Kz) ?_
        refine jv_Wp.of (jv_Ev.ret jv_i46 rfl rfl) ?_
        rw [hQ]
        have eo1 : ((vc_A I L 12).1 1) = vc_T I L (12 + 2 + 1) := vc_A1 (by decide)
        have eo3 : ((vc_A I L 12).1 3) = vc_T I L (12 + 2 + 3) := vc_A1 (by decide)
        have s0 : ¬ ((vc_A I L 12).1 1).sort = 0 := fun z => h1 ((vc_is0 (oa 1 (by decide))).mp (eo1 ▸ z))
        have s2 : ((vc_A I L 12).1 1).sort = 2 := eo1 ▸ (vc_is2 (oa 1 (by decide))).mpr (Classical.not_not.mp h2)
        have d1 : ((vc_A I L 12).1 1).det = (L (12 + 2 + 1) 8).toInt := by rw [eo1]; exact vc_detk (Or.inl ((vc_is2 (oa 1 (by decide))).mp (eo1 ▸ s2)))
        have dz : ¬ ((vc_A I L 12).1 1).det = 0 := by rw [d1]; exact fun z => h3 (Int64.toInt_inj.mp z)
        have e : (vx_allowed M (vc_A I L 12) 6) = 8 := vx_al6.trans ((if_neg s0).trans (if_neg (fun z => dz z.2)))
        exact ⟨_, _, by rw [e] <;> rfl, rfl, rfl⟩
      · refine jv_Wp.lift (fun _ Kz => jv_Ev.steps jv_i46 3 (pc' := 84) (l' := [(3, .ref (12 + 2 + 3)), (2, .ref (12 + 2 + 1)), (0, .ref 10), (1, .int (6 : Int32))]) (st' := [.int (8 : Int32), .int (2 : Int32), .ref 10]) rfl Kz) ?_
        obtain ⟨I16, L16, H16, ei16, el16⟩ := vc_numberIn (I := I) (L := L) (R := R) (n := n) (sl := sl) 2 8 hC (by decide) oa
        rw [ei16, el16] at H16
        refine jv_Wp.lift (fun _ Kz => jv_Ev.c jv_i46 (pc' := 87) (S' := [.int (vl_I (vx_isnum (vc_A I L 12) 2 8))]) jv_i40 [.ref 10, .int (2 : Int32), .int (8 : Int32)] rfl rfl rfl rfl (jv_cal rfl (jv_H_at hC.k) rfl rfl) rfl H16 rfl rfl Kz) ?_
        refine jv_Wp.lift (fun _ Kz => jv_Ev.steps jv_i46 1 (pc' := 92) (l' := [(3, .ref (12 + 2 + 3)), (2, .ref (12 + 2 + 1)), (0, .ref 10), (1, .int (6 : Int32))]) (st' := [.int (vl_I (vx_isnum (vc_A I L 12) 2 8))]) rfl Kz) ?_
        refine jv_Wp.of (jv_Ev.ret jv_i46 rfl rfl) ?_
        rw [hQ]
        have eo1 : ((vc_A I L 12).1 1) = vc_T I L (12 + 2 + 1) := vc_A1 (by decide)
        have eo3 : ((vc_A I L 12).1 3) = vc_T I L (12 + 2 + 3) := vc_A1 (by decide)
        have s0 : ¬ ((vc_A I L 12).1 1).sort = 0 := fun z => h1 ((vc_is0 (oa 1 (by decide))).mp (eo1 ▸ z))
        have s2 : ((vc_A I L 12).1 1).sort = 2 := eo1 ▸ (vc_is2 (oa 1 (by decide))).mpr (Classical.not_not.mp h2)
        have d1 : ((vc_A I L 12).1 1).det = (L (12 + 2 + 1) 8).toInt := by rw [eo1]; exact vc_detk (Or.inl ((vc_is2 (oa 1 (by decide))).mp (eo1 ▸ s2)))
        have dz : ((vc_A I L 12).1 1).det = 0 := by rw [d1]; exact congrArg Int64.toInt (Classical.not_not.mp h3)
        have e : (vx_allowed M (vc_A I L 12) 6) = vx_isnum (vc_A I L 12) 2 8 := vx_al6.trans ((if_neg s0).trans (if_pos ⟨s2, dz⟩))
        exact ⟨_, _, by rw [e] <;> rfl, rfl, rfl⟩
  · refine jv_Wp.lift (fun _ Kz => jv_Ev.steps jv_i46 1 (pc' := 56) (l' := [(3, .ref (12 + 2 + 3)), (2, .ref (12 + 2 + 1)), (0, .ref 10), (1, .int (6 : Int32))]) (st' := [.int (1 : Int32)]) rfl Kz) ?_
    refine jv_Wp.of (jv_Ev.ret jv_i46 rfl rfl) ?_
    rw [hQ]
    have eo1 : ((vc_A I L 12).1 1) = vc_T I L (12 + 2 + 1) := vc_A1 (by decide)
    have eo3 : ((vc_A I L 12).1 3) = vc_T I L (12 + 2 + 3) := vc_A1 (by decide)
    have s0 : ((vc_A I L 12).1 1).sort = 0 := eo1 ▸ (vc_is0 (oa 1 (by decide))).mpr (Classical.not_not.mp h1)
    have e : (vx_allowed M (vc_A I L 12) 6) = 1 := vx_al6.trans (if_pos s0)
    exact ⟨_, _, by rw [e] <;> rfl, rfl, rfl⟩
theorem vc_allowedO {K : Nat → Option (Nat × Nat)} {I : Nat → Nat → Int32} {L : Nat → Nat → Int64} {R : Nat → Nat → Value} {M : vf_M} (i : Int32) (hC : vc_C K R) (hi : i.toInt < 1 ∨ 6 < i.toInt) {n sl : Nat} : ∃ I1 L1, jv_Ms 46 [.ref 10, .int i] (jv_H K I L R) n sl (some (.int (vl_I (vx_allowed M (vc_A I L 12) i.toInt))), jv_H K I1 L1 R, n, sl) ∧ I1 = I ∧ L1 = L := by
  obtain ⟨Q, hQ⟩ : ∃ Q : jv_R → Prop, Q = fun X => ∃ I1 L1, X = (some (.int (vl_I (vx_allowed M (vc_A I L 12) i.toInt))), jv_H K I1 L1 R, n, sl) ∧ I1 = I ∧ L1 = L := ⟨_, rfl⟩
  suffices h : jv_Wp 46 0 [(0, .ref 10), (1, .int i)] [] (jv_H K I L R) n sl Q by
    rw [hQ] at h
    obtain ⟨X, h, I1, L1, e, h'⟩ := h
    subst e
    exact ⟨I1, L1, h, h'⟩
  refine jv_Wp.lift (fun _ Kz => jv_Ev.steps jv_i46 1 (pc' := 1) (l' := [(0, .ref 10), (1, .int i)]) (st' := [.ref 10]) rfl Kz) ?_
  refine jv_Wp.lift (fun _ Kz => jv_Ev.m jv_i46 (pc' := 4) (st' := [.ref 12]) (G' := (jv_H K I L R)) rfl rfl (jv_m_getR hC.k rfl rfl hC.rnow) Kz) ?_
  refine jv_Wp.lift (fun _ Kz => jv_Ev.m jv_i46 (pc' := 7) (st' := [.ref (12 + 1)]) (G' := (jv_H K I L R)) rfl rfl (jv_m_getR hC.now.k rfl rfl hC.now.r) Kz) ?_
  refine jv_Wp.lift (fun _ Kz => jv_Ev.steps jv_i46 1 (pc' := 8) (l' := [(0, .ref 10), (1, .int i)]) (st' := [.int (1 : Int32), .ref (12 + 1)]) rfl Kz) ?_
  refine jv_Wp.lift (fun _ Kz => jv_Ev.m jv_i46 (pc' := 9) (st' := [.ref (12 + 2 + 1)]) (G' := (jv_H K I L R)) rfl rfl (jv_m_aaldR hC.now.kt rfl (by decide) rfl (hC.now.rt 1 (by decide))) Kz) ?_
  refine jv_Wp.lift (fun _ Kz => jv_Ev.steps jv_i46 2 (pc' := 11) (l' := [(2, .ref (12 + 2 + 1)), (0, .ref 10), (1, .int i)]) (st' := [.ref 10]) rfl Kz) ?_
  refine jv_Wp.lift (fun _ Kz => jv_Ev.m jv_i46 (pc' := 14) (st' := [.ref 12]) (G' := (jv_H K I L R)) rfl rfl (jv_m_getR hC.k rfl rfl hC.rnow) Kz) ?_
  refine jv_Wp.lift (fun _ Kz => jv_Ev.m jv_i46 (pc' := 17) (st' := [.ref (12 + 1)]) (G' := (jv_H K I L R)) rfl rfl (jv_m_getR hC.now.k rfl rfl hC.now.r) Kz) ?_
  refine jv_Wp.lift (fun _ Kz => jv_Ev.steps jv_i46 1 (pc' := 18) (l' := [(2, .ref (12 + 2 + 1)), (0, .ref 10), (1, .int i)]) (st' := [.int (3 : Int32), .ref (12 + 1)]) rfl Kz) ?_
  refine jv_Wp.lift (fun _ Kz => jv_Ev.m jv_i46 (pc' := 19) (st' := [.ref (12 + 2 + 3)]) (G' := (jv_H K I L R)) rfl rfl (jv_m_aaldR hC.now.kt rfl (by decide) rfl (hC.now.rt 3 (by decide))) Kz) ?_
  refine jv_Wp.lift (fun _ Kz => jv_Ev.steps jv_i46 3 (pc' := 22) (l' := [(3, .ref (12 + 2 + 3)), (2, .ref (12 + 2 + 1)), (0, .ref 10), (1, .int i)]) (st' := [.int (5 : Int32), .int i]) rfl Kz) ?_
  refine jv_Wp.cnd jv_i46 (pt := 36) (pe := 25) (p := (i = (5 : Int32))) (q := (i = (5 : Int32))) rfl jv_bc_eq rfl rfl Iff.rfl (fun hz => absurd hz (fun z => by rw [z] at hi; revert hi; decide)) (fun _ => ?_)
  refine jv_Wp.lift (fun _ Kz => jv_Ev.steps jv_i46 2 (pc' := 27) (l' := [(3, .ref (12 + 2 + 3)), (2, .ref (12 + 2 + 1)), (0, .ref 10), (1, .int i)]) (st' := [.int (1 : Int32), .int i]) rfl Kz) ?_
  refine jv_Wp.cnd jv_i46 (pt := 36) (pe := 30) (p := (i < (1 : Int32))) (q := (i < (1 : Int32))) rfl jv_bc_lt rfl rfl Iff.rfl (fun h1 => ?_) (fun h1 => ?_)
  · refine jv_Wp.lift (fun _ Kz => jv_Ev.steps jv_i46 2 (pc' := 38) (l' := [(3, .ref (12 + 2 + 3)), (2, .ref (12 + 2 + 1)), (0, .ref 10), (1, .int i)]) (st' := [.int (5 : Int32), .int i]) rfl Kz) ?_
    refine jv_Wp.cnd jv_i46 (pt := 45) (pe := 41) (p := (¬ i = (5 : Int32))) (q := (¬ i = (5 : Int32))) rfl jv_bc_ne rfl rfl Iff.rfl (fun _ => ?_) (fun hz => absurd (fun z => by rw [z] at hi; revert hi; decide) hz)
    refine jv_Wp.lift (fun _ Kz => jv_Ev.steps jv_i46 1 (pc' := 47) (l' := [(3, .ref (12 + 2 + 3)), (2, .ref (12 + 2 + 1)), (0, .ref 10), (1, .int i)]) (st' := [.int (7 : Int32)]) rfl Kz) ?_
    refine jv_Wp.of (jv_Ev.ret jv_i46 rfl rfl) ?_
    rw [hQ]
    exact ⟨_, _, by rw [vx_al7 hi]; rfl, rfl, rfl⟩
  · refine jv_Wp.lift (fun _ Kz => jv_Ev.steps jv_i46 2 (pc' := 33) (l' := [(3, .ref (12 + 2 + 3)), (2, .ref (12 + 2 + 1)), (0, .ref 10), (1, .int i)]) (st' := [.int (6 : Int32), .int i]) rfl Kz) ?_
    refine jv_Wp.cnd jv_i46 (pt := 48) (pe := 36) (p := (i ≤ (6 : Int32))) (q := (i ≤ (6 : Int32))) rfl jv_bc_le rfl rfl Iff.rfl (fun hz => absurd hz (fun z => by have a := Int32.le_iff_toInt_le.mp z; have b := (not_congr Int32.lt_iff_toInt_lt).mp h1; have c6 : (6 : Int32).toInt = 6 := rfl; have c1 : (1 : Int32).toInt = 1 := rfl; omega)) (fun _ => ?_)
    refine jv_Wp.lift (fun _ Kz => jv_Ev.steps jv_i46 2 (pc' := 38) (l' := [(3, .ref (12 + 2 + 3)), (2, .ref (12 + 2 + 1)), (0, .ref 10), (1, .int i)]) (st' := [.int (5 : Int32), .int i]) rfl Kz) ?_
    refine jv_Wp.cnd jv_i46 (pt := 45) (pe := 41) (p := (¬ i = (5 : Int32))) (q := (¬ i = (5 : Int32))) rfl jv_bc_ne rfl rfl Iff.rfl (fun _ => ?_) (fun hz => absurd (fun z => by rw [z] at hi; revert hi; decide) hz)
    refine jv_Wp.lift (fun _ Kz => jv_Ev.steps jv_i46 1 (pc' := 47) (l' := [(3, .ref (12 + 2 + 3)), (2, .ref (12 + 2 + 1)), (0, .ref 10), (1, .int i)]) (st' := [.int (7 : Int32)]) rfl Kz) ?_
    refine jv_Wp.of (jv_Ev.ret jv_i46 rfl rfl) ?_
    rw [hQ]
    exact ⟨_, _, by rw [vx_al7 hi]; rfl, rfl, rfl⟩