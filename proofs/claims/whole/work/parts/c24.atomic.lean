/-! part c24: atomic instructions of the reference (gen/tc24.py) -/
theorem vx_r7' {M : vf_M} {A : vt_A} {t : vt_T} {o : Int} {z : Nat} {w : Bool} (h : t.sort = 7) : vx_reach M A t o z w = 0 ∨ vx_reach M A t o z w = 4 := by
  rw [vx_r7 h]; split
  · exact Or.inl rfl
  · exact Or.inr rfl
theorem vi_lowz {z : Nat} (hz : z = 1 ∨ z = 2 ∨ z = 4 ∨ z = 8) : (vl_I z).toInt64 - (1 : Int64) = (vl_I z - (1 : Int32)).toInt64 := by
  rcases hz with e | e | e | e <;> subst e <;> decide
theorem vb_notand (x l : BitVec 64) : (x &&& l = 0) ↔ (~~~x &&& l = l) := by
  constructor
  · intro h
    refine BitVec.eq_of_getLsbD_eq (fun i hi => ?_)
    have q := congrArg (fun y => BitVec.getLsbD y i) h
    have q : (x &&& l).getLsbD i = false := q.trans (by show (0#64).getLsbD i = false; rw [BitVec.getLsbD_zero])
    rw [BitVec.getLsbD_and] at q
    rw [BitVec.getLsbD_and, BitVec.getLsbD_not, decide_eq_true hi]
    cases a : x.getLsbD i <;> cases b : l.getLsbD i <;> first | rfl | (rw [a, b] at q; exact absurd q (by decide))
  · intro h
    refine BitVec.eq_of_getLsbD_eq (fun i hi => ?_)
    have q := congrArg (fun y => BitVec.getLsbD y i) h
    have q : (~~~x &&& l).getLsbD i = l.getLsbD i := q
    rw [BitVec.getLsbD_and, BitVec.getLsbD_not, decide_eq_true hi] at q
    rw [BitVec.getLsbD_and]
    show _ = (0#64).getLsbD i
    rw [BitVec.getLsbD_zero]
    cases a : x.getLsbD i <;> cases b : l.getLsbD i <;> first | rfl | (rw [a, b] at q; exact absurd q (by decide))
theorem vx_even_r {L : Nat → Nat → Int64} {x z : Nat} {o : Int32} (hz : z = 1 ∨ z = 2 ∨ z = 4 ∨ z = 8) : vx_even (vb_toS (vr_S L x)) o.toInt z = (decide (((L 210 x) &&& ((vl_I z).toInt64 - (1 : Int64))) = (0 : Int64)) && decide (((L 209 x + o.toInt64) &&& ((vl_I z).toInt64 - (1 : Int64))) = (0 : Int64))) := by
  unfold vx_even
  rw [vi_lowz hz]
  have e1 : ((L 210 x) &&& (vl_I z - (1 : Int32)).toInt64 = (0 : Int64)) ↔ (vb_toS (vr_S L x)).mask &&& BitVec.ofNat 64 (z - 1) = BitVec.ofNat 64 (z - 1) := by
    rw [← Int64.toBitVec_inj, Int64.toBitVec_and, vi_low hz]
    exact vb_notand _ _
  rw [decide_eq_decide.mpr e1, decide_eq_decide.mpr (vi_e2 hz (L 209 x) o)]
  rfl
set_option maxRecDepth 100000 in
theorem vi_mod2 : ∀ c : Fin 256, vl_I c.val - vl_I c.val / (2 : Int32) * (2 : Int32) = vl_I (c.val % 2) := by decide +kernel
theorem vi_odd2 {i : Int} (h : 0 ≤ i ∧ i < 256) : (Int32.ofInt i - Int32.ofInt i / (2 : Int32) * (2 : Int32) = (1 : Int32)) ↔ i % 2 = 1 := by
  have e : Int32.ofInt i = vl_I i.toNat := by
    refine Int32.toInt_inj.mp ?_
    rw [show (vl_I i.toNat).toInt = (i.toNat : Int) from vl_I_int (by omega), Int32.toInt_ofInt, vi_bm32 (by omega) (by omega)]; omega
  rw [e, vi_mod2 ⟨i.toNat, by omega⟩]
  refine (vl_I_inj (b := 1) (by show i.toNat % 2 < _; omega) (by decide)).trans ?_
  show i.toNat % 2 = 1 ↔ _
  omega
theorem jv_i295 : jv_I 295 8 (some .int) 8 230 jv_c295 := ⟨rfl, rfl, rfl, rfl, rfl⟩
theorem vq_atomicN {K : Nat → Option (Nat × Nat)} {I : Nat → Nat → Int32} {L : Nat → Nat → Int64} {R : Nat → Nat → Value} (M : vf_M) (f : vf_F) (hW : jv_rW K R) (hf : vr_fl I) (hM : vr_M I M) (D : vr_dec I f) (hi : 0 ≤ f.i ∧ f.i < 256) (m241 : ¬ f.i = 241) (oa : vr_okA I 1024) (gA : ∀ n, n < 75 → vt_g (vr_T I L (76800 + n))) (hd11 : f.d < 11) (hs11 : f.s < 11) {n sl : Nat} : ∃ I1 L1, jv_Ms 295 [.ref 196] (jv_H K I L R) n sl (some (.int (vl_I (vx_atomic M f (vr_A I L 1024)).1)), jv_H K I1 L1 R, n, sl) ∧ ((vx_atomic M f (vr_A I L 1024)).1 = 0 → vr_A I1 L1 1024 = (vx_atomic M f (vr_A I L 1024)).2 ∧ vr_okA I1 1024) ∧ vr_fr (fun x => x = 76800 ∨ x = 76800 + f.s) noE I L I1 L1 := by
  obtain ⟨Q, hQ⟩ : ∃ Q : jv_R → Prop, Q = fun X => ∃ I1 L1, X = (some (.int (vl_I (vx_atomic M f (vr_A I L 1024)).1)), jv_H K I1 L1 R, n, sl) ∧ ((vx_atomic M f (vr_A I L 1024)).1 = 0 → vr_A I1 L1 1024 = (vx_atomic M f (vr_A I L 1024)).2 ∧ vr_okA I1 1024) ∧ vr_fr (fun x => x = 76800 ∨ x = 76800 + f.s) noE I L I1 L1 := ⟨_, rfl⟩
  suffices h : jv_Wp 295 0 [(0, .ref 196)] [] (jv_H K I L R) n sl Q by
    rw [hQ] at h
    obtain ⟨X, h, I1, L1, e, h'⟩ := h
    subst e
    exact ⟨I1, L1, h, h'⟩
  have hz := vf_z f
  have h241 : ¬ Int32.ofInt f.i = (241 : Int32) := fun z => m241 (by rw [← vr_dQ D, z]; rfl)
  have okd : vr_ok I (76800 + f.d) f.d := oa f.d (by omega)
  have eD : (vr_A I L 1024).1 f.d = (vr_T I L (76800 + f.d)) := vr_A1 (by omega)
  obtain ⟨zd, hd⟩ : ∃ x : Nat, ∀ _ : Unit, (vr_T I L (76800 + f.d)).sort = x := ⟨_, fun _ => rfl⟩
  obtain ⟨rd, hrd⟩ : ∃ x : Nat, ∀ _ : Unit, vr_rd (I 205 (76800 + f.d)) = x := ⟨_, fun _ => rfl⟩
  have rdfd : (zd = 0 → rd = 1) ∧ (zd ≠ 0 → rd = 0) := by rw [← hd (), ← hrd ()]; exact vr_rd_f okd hd11
  have oks : vr_ok I (76800 + f.s) f.s := oa f.s (by omega)
  have eS : (vr_A I L 1024).1 f.s = (vr_T I L (76800 + f.s)) := vr_A1 (by omega)
  obtain ⟨zs, hs⟩ : ∃ x : Nat, ∀ _ : Unit, (vr_T I L (76800 + f.s)).sort = x := ⟨_, fun _ => rfl⟩
  obtain ⟨rs, hrs⟩ : ∃ x : Nat, ∀ _ : Unit, vr_rd (I 205 (76800 + f.s)) = x := ⟨_, fun _ => rfl⟩
  have rdfs : (zs = 0 → rs = 1) ∧ (zs ≠ 0 → rs = 0) := by rw [← hs (), ← hrs ()]; exact vr_rd_f oks hs11
  have ok0 : vr_ok I (76800 + 0) 0 := oa 0 (by omega)
  have e0 : (vr_A I L 1024).1 0 = (vr_T I L (76800 + 0)) := vr_A1 (by omega)
  obtain ⟨z0, h0⟩ : ∃ x : Nat, ∀ _ : Unit, (vr_T I L (76800 + 0)).sort = x := ⟨_, fun _ => rfl⟩
  obtain ⟨r0, hr0⟩ : ∃ x : Nat, ∀ _ : Unit, vr_rd (I 205 (76800 + 0)) = x := ⟨_, fun _ => rfl⟩
  have rdf0 : (z0 = 0 → r0 = 1) ∧ (z0 ≠ 0 → r0 = 0) := by rw [← h0 (), ← hr0 ()]; exact vr_rd_f ok0 (by decide)
  obtain ⟨kd, k8, hkd⟩ := vr_kdx (L := L) okd (gA f.d (by omega))
  obtain ⟨bd, hbd⟩ : ∃ x : Nat, ∀ _ : Unit, vr_re M (vr_A I L 1024) (vr_T I L (76800 + f.d)) f.o f.z true = x := ⟨_, fun _ => rfl⟩
  have bd5 : bd < 5 := by rw [← hbd ()]; exact vr_re_lt
  obtain ⟨rr, hrr⟩ : ∃ x : Nat, ∀ _ : Unit, vx_reach M (vr_A I L 1024) (vr_T I L (76800 + f.d)) f.o f.z true = x := ⟨_, fun _ => rfl⟩
  have rr5 : rr < 5 := by rw [← hrr ()]; exact vx_reach_lt
  have bdf := vr_re_f (hbd ()) (hd ()) (hrr ())
  have eQ : vx_atp M f (vr_A I L 1024) = vx_atomic M f (vr_A I L 1024) := (vx_atp_eq M f (vr_A I L 1024)).symm
  refine jv_Wp.lift (fun _ Kz => jv_Ev.steps jv_i295 1 (pc' := 1) (l' := [(0, .ref 196)]) (st' := [.ref 196]) rfl Kz) ?_
  refine jv_Wp.lift (fun _ Kz => jv_Ev.c jv_i295 (pc' := 4) (S' := [.int (vl_I f.z)]) jv_i260 [.ref 196] rfl rfl rfl rfl (jv_cal rfl (jv_H_at (jv_rwK hW 196 12 24 (by decide))) rfl rfl) rfl (vq_size f hW D) rfl rfl Kz) ?_
  refine jv_Wp.lift (fun _ Kz => jv_Ev.steps jv_i295 3 (pc' := 7) (l' := [(1, .int (vl_I f.z)), (0, .ref 196)]) (st' := [.ref 196, .ref 196]) rfl Kz) ?_
  refine jv_Wp.lift (fun _ Kz => jv_Ev.m jv_i295 (pc' := 10) (st' := [.int (vl_I f.d), .ref 196]) (G' := (jv_H K I L R)) rfl rfl (jv_m_getI (jv_rwK hW 196 12 24 (by decide)) rfl rfl D.2.1) Kz) ?_
  have Hr1 := vq_reads (I := I) (L := L) (K := K) (R := R) (n := n) (sl := sl) f.d hW (by omega)
  rw [hrd ()] at Hr1
  refine jv_Wp.lift (fun _ Kz => jv_Ev.c jv_i295 (pc' := 13) (S' := [.int (vl_I rd)]) jv_i283 [.ref 196, .int (vl_I f.d)] rfl rfl rfl rfl (jv_cal rfl (jv_H_at (jv_rwK hW 196 12 24 (by decide))) rfl rfl) rfl Hr1 rfl rfl Kz) ?_
  refine jv_Wp.lift (fun _ Kz => jv_Ev.steps jv_i295 2 (pc' := 15) (l' := [(1, .int (vl_I f.z)), (0, .ref 196)]) (st' := [.ref 196, .ref 196, .int (vl_I rd)]) rfl Kz) ?_
  refine jv_Wp.lift (fun _ Kz => jv_Ev.m jv_i295 (pc' := 18) (st' := [.int (vl_I f.s), .ref 196, .int (vl_I rd)]) (G' := (jv_H K I L R)) rfl rfl (jv_m_getI (jv_rwK hW 196 12 24 (by decide)) rfl rfl D.2.2.1) Kz) ?_
  have Hr2 := vq_reads (I := I) (L := L) (K := K) (R := R) (n := n) (sl := sl) f.s hW (by omega)
  rw [hrs ()] at Hr2
  refine jv_Wp.lift (fun _ Kz => jv_Ev.c jv_i295 (pc' := 21) (S' := [.int (vl_I rs), .int (vl_I rd)]) jv_i283 [.ref 196, .int (vl_I f.s)] rfl rfl rfl rfl (jv_cal rfl (jv_H_at (jv_rwK hW 196 12 24 (by decide))) rfl rfl) rfl Hr2 rfl rfl Kz) ?_
  obtain ⟨w3, hq3⟩ : ∃ x : Nat, ∀ _ : Unit, vx_fst rd rs = x := ⟨_, fun _ => rfl⟩
  have fq3 : (rd = 0 → w3 = rs) ∧ (rs = 0 → w3 = rd) ∧ (w3 = rd ∨ w3 = rs) ∧ (rd ≠ 0 → rs ≠ 0 → w3 ≤ rd ∧ w3 ≤ rs) := by rw [← hq3 ()]; exact vx_fst_g rd rs
  have Hf3 := vq_first (I := I) (L := L) (K := K) (R := R) (n := n) (sl := sl) rd rs (by omega) (by omega)
  rw [hq3 ()] at Hf3
  refine jv_Wp.lift (fun _ Kz => jv_Ev.c jv_i295 (pc' := 24) (S' := [.int (vl_I w3)]) jv_i282 [.int (vl_I rd), .int (vl_I rs)] rfl rfl rfl rfl rfl rfl Hf3 rfl rfl Kz) ?_
  refine jv_Wp.lift (fun _ Kz => jv_Ev.steps jv_i295 3 (pc' := 27) (l' := [(2, .int (vl_I w3)), (1, .int (vl_I f.z)), (0, .ref 196)]) (st' := [.ref 196, .int (vl_I w3)]) rfl Kz) ?_
  refine jv_Wp.lift (fun _ Kz => jv_Ev.m jv_i295 (pc' := 30) (st' := [.int (Int32.ofInt f.i), .int (vl_I w3)]) (G' := (jv_H K I L R)) rfl rfl (jv_m_getI (jv_rwK hW 196 12 24 (by decide)) rfl rfl (vr_dJ D)) Kz) ?_
  refine jv_Wp.lift (fun _ Kz => jv_Ev.steps jv_i295 1 (pc' := 33) (l' := [(2, .int (vl_I w3)), (1, .int (vl_I f.z)), (0, .ref 196)]) (st' := [.int (241 : Int32), .int (Int32.ofInt f.i), .int (vl_I w3)]) rfl Kz) ?_
  refine jv_Wp.cnd jv_i295 (pt := 44) (pe := 36) (p := (¬ (Int32.ofInt f.i) = (241 : Int32))) (q := (¬ (Int32.ofInt f.i) = (241 : Int32))) rfl jv_bc_ne rfl rfl Iff.rfl (fun _ => ?_) (fun hz => absurd h241 hz)
  refine jv_Wp.lift (fun _ Kz => jv_Ev.steps jv_i295 1 (pc' := 45) (l' := [(2, .int (vl_I w3)), (1, .int (vl_I f.z)), (0, .ref 196)]) (st' := [.int (0 : Int32), .int (vl_I w3)]) rfl Kz) ?_
  obtain ⟨w4, hq4⟩ : ∃ x : Nat, ∀ _ : Unit, vx_fst w3 0 = x := ⟨_, fun _ => rfl⟩
  have fq4 : (w3 = 0 → w4 = 0) ∧ (0 = 0 → w4 = w3) ∧ (w4 = w3 ∨ w4 = 0) ∧ (w3 ≠ 0 → 0 ≠ 0 → w4 ≤ w3 ∧ w4 ≤ 0) := by rw [← hq4 ()]; exact vx_fst_g w3 0
  have Hf4 := vq_first (I := I) (L := L) (K := K) (R := R) (n := n) (sl := sl) w3 0 (by omega) (by omega)
  rw [hq4 ()] at Hf4
  refine jv_Wp.lift (fun _ Kz => jv_Ev.c jv_i295 (pc' := 48) (S' := [.int (vl_I w4)]) jv_i282 [.int (vl_I w3), .int (0 : Int32)] rfl rfl rfl rfl rfl rfl Hf4 rfl rfl Kz) ?_
  refine jv_Wp.lift (fun _ Kz => jv_Ev.steps jv_i295 3 (pc' := 51) (l' := [(2, .int (vl_I w4)), (1, .int (vl_I f.z)), (0, .ref 196)]) (st' := [.ref 196, .ref 196]) rfl Kz) ?_
  refine jv_Wp.lift (fun _ Kz => jv_Ev.m jv_i295 (pc' := 54) (st' := [.int (vl_I f.d), .ref 196]) (G' := (jv_H K I L R)) rfl rfl (jv_m_getI (jv_rwK hW 196 12 24 (by decide)) rfl rfl D.2.1) Kz) ?_
  refine jv_Wp.lift (fun _ Kz => jv_Ev.c jv_i295 (pc' := 57) (S' := [.int (I 205 (76800 + f.d))]) jv_i271 [.ref 196, .int (vl_I f.d)] rfl rfl rfl rfl (jv_cal rfl (jv_H_at (jv_rwK hW 196 12 24 (by decide))) rfl rfl) rfl (vq_sortOf f.d hW (by omega)) rfl rfl Kz) ?_
  refine jv_Wp.lift (fun _ Kz => jv_Ev.steps jv_i295 3 (pc' := 60) (l' := [(3, .int (I 205 (76800 + f.d))), (2, .int (vl_I w4)), (1, .int (vl_I f.z)), (0, .ref 196)]) (st' := [.int (I 205 (76800 + f.d)), .int (vl_I w4)]) rfl Kz) ?_
  refine jv_Wp.cnd jv_i295 (pt := 69) (pe := 63) (p := ((I 205 (76800 + f.d)) = 0)) (q := ((I 205 (76800 + f.d)) = 0)) rfl jv_bi_eq rfl rfl Iff.rfl (fun h1 => ?_) (fun h1 => ?_)
  · refine jv_Wp.lift (fun _ Kz => jv_Ev.steps jv_i295 2 (pc' := 74) (l' := [(3, .int (I 205 (76800 + f.d))), (2, .int (vl_I w4)), (1, .int (vl_I f.z)), (0, .ref 196)]) (st' := [.int (0 : Int32), .int (vl_I w4)]) rfl Kz) ?_
    obtain ⟨w5, hq5⟩ : ∃ x : Nat, ∀ _ : Unit, vx_fst w4 0 = x := ⟨_, fun _ => rfl⟩
    have fq5 : (w4 = 0 → w5 = 0) ∧ (0 = 0 → w5 = w4) ∧ (w5 = w4 ∨ w5 = 0) ∧ (w4 ≠ 0 → 0 ≠ 0 → w5 ≤ w4 ∧ w5 ≤ 0) := by rw [← hq5 ()]; exact vx_fst_g w4 0
    have Hf5 := vq_first (I := I) (L := L) (K := K) (R := R) (n := n) (sl := sl) w4 0 (by omega) (by omega)
    rw [hq5 ()] at Hf5
    refine jv_Wp.lift (fun _ Kz => jv_Ev.c jv_i295 (pc' := 77) (S' := [.int (vl_I w5)]) jv_i282 [.int (vl_I w4), .int (0 : Int32)] rfl rfl rfl rfl rfl rfl Hf5 rfl rfl Kz) ?_
    refine jv_Wp.lift (fun _ Kz => jv_Ev.steps jv_i295 3 (pc' := 81) (l' := [(2, .int (vl_I w5)), (3, .int (I 205 (76800 + f.d))), (1, .int (vl_I f.z)), (0, .ref 196)]) (st' := [.int (7 : Int32), .int (I 205 (76800 + f.d))]) rfl Kz) ?_
    refine jv_Wp.cnd jv_i295 (pt := 175) (pe := 84) (p := (¬ (I 205 (76800 + f.d)) = (7 : Int32))) (q := (¬ (I 205 (76800 + f.d)) = (7 : Int32))) rfl jv_bc_ne rfl rfl Iff.rfl (fun _ => ?_) (fun hz => absurd (fun z => absurd (z.symm.trans h1) (by decide)) hz)
    refine jv_Wp.lift (fun _ Kz => jv_Ev.steps jv_i295 3 (pc' := 178) (l' := [(2, .int (vl_I w5)), (3, .int (I 205 (76800 + f.d))), (1, .int (vl_I f.z)), (0, .ref 196)]) (st' := [.ref 196, .ref 196, .int (vl_I w5)]) rfl Kz) ?_
    refine jv_Wp.lift (fun _ Kz => jv_Ev.m jv_i295 (pc' := 181) (st' := [.int (vl_I f.s), .ref 196, .int (vl_I w5)]) (G' := (jv_H K I L R)) rfl rfl (jv_m_getI (jv_rwK hW 196 12 24 (by decide)) rfl rfl D.2.2.1) Kz) ?_
    refine jv_Wp.lift (fun _ Kz => jv_Ev.c jv_i295 (pc' := 184) (S' := [.int (I 205 (76800 + f.s)), .int (vl_I w5)]) jv_i271 [.ref 196, .int (vl_I f.s)] rfl rfl rfl rfl (jv_cal rfl (jv_H_at (jv_rwK hW 196 12 24 (by decide))) rfl rfl) rfl (vq_sortOf f.s hW (by omega)) rfl rfl Kz) ?_
    refine jv_Wp.cnd jv_i295 (pt := 204) (pe := 187) (p := ((I 205 (76800 + f.s)) = 0)) (q := ((I 205 (76800 + f.s)) = 0)) rfl jv_bi_eq rfl rfl Iff.rfl (fun h2 => ?_) (fun h2 => ?_)
    · refine jv_Wp.lift (fun _ Kz => jv_Ev.steps jv_i295 1 (pc' := 205) (l' := [(2, .int (vl_I w5)), (3, .int (I 205 (76800 + f.d))), (1, .int (vl_I f.z)), (0, .ref 196)]) (st' := [.int (0 : Int32), .int (vl_I w5)]) rfl Kz) ?_
      obtain ⟨w6, hq6⟩ : ∃ x : Nat, ∀ _ : Unit, vx_fst w5 0 = x := ⟨_, fun _ => rfl⟩
      have fq6 : (w5 = 0 → w6 = 0) ∧ (0 = 0 → w6 = w5) ∧ (w6 = w5 ∨ w6 = 0) ∧ (w5 ≠ 0 → 0 ≠ 0 → w6 ≤ w5 ∧ w6 ≤ 0) := by rw [← hq6 ()]; exact vx_fst_g w5 0
      have Hf6 := vq_first (I := I) (L := L) (K := K) (R := R) (n := n) (sl := sl) w5 0 (by omega) (by omega)
      rw [hq6 ()] at Hf6
      refine jv_Wp.lift (fun _ Kz => jv_Ev.c jv_i295 (pc' := 208) (S' := [.int (vl_I w6)]) jv_i282 [.int (vl_I w5), .int (0 : Int32)] rfl rfl rfl rfl rfl rfl Hf6 rfl rfl Kz) ?_
      refine jv_Wp.lift (fun _ Kz => jv_Ev.steps jv_i295 3 (pc' := 211) (l' := [(2, .int (vl_I w6)), (3, .int (I 205 (76800 + f.d))), (1, .int (vl_I f.z)), (0, .ref 196)]) (st' := [.ref 196, .int (vl_I w6)]) rfl Kz) ?_
      refine jv_Wp.lift (fun _ Kz => jv_Ev.m jv_i295 (pc' := 214) (st' := [.int (Int32.ofInt f.i), .int (vl_I w6)]) (G' := (jv_H K I L R)) rfl rfl (jv_m_getI (jv_rwK hW 196 12 24 (by decide)) rfl rfl (vr_dJ D)) Kz) ?_
      refine jv_Wp.lift (fun _ Kz => jv_Ev.steps jv_i295 1 (pc' := 217) (l' := [(2, .int (vl_I w6)), (3, .int (I 205 (76800 + f.d))), (1, .int (vl_I f.z)), (0, .ref 196)]) (st' := [.int (241 : Int32), .int (Int32.ofInt f.i), .int (vl_I w6)]) rfl Kz) ?_
      refine jv_Wp.cnd jv_i295 (pt := 242) (pe := 220) (p := (¬ (Int32.ofInt f.i) = (241 : Int32))) (q := (¬ (Int32.ofInt f.i) = (241 : Int32))) rfl jv_bc_ne rfl rfl Iff.rfl (fun _ => ?_) (fun hz => absurd h241 hz)
      refine jv_Wp.lift (fun _ Kz => jv_Ev.steps jv_i295 1 (pc' := 243) (l' := [(2, .int (vl_I w6)), (3, .int (I 205 (76800 + f.d))), (1, .int (vl_I f.z)), (0, .ref 196)]) (st' := [.int (0 : Int32), .int (vl_I w6)]) rfl Kz) ?_
      obtain ⟨w7, hq7⟩ : ∃ x : Nat, ∀ _ : Unit, vx_fst w6 0 = x := ⟨_, fun _ => rfl⟩
      have fq7 : (w6 = 0 → w7 = 0) ∧ (0 = 0 → w7 = w6) ∧ (w7 = w6 ∨ w7 = 0) ∧ (w6 ≠ 0 → 0 ≠ 0 → w7 ≤ w6 ∧ w7 ≤ 0) := by rw [← hq7 ()]; exact vx_fst_g w6 0
      have Hf7 := vq_first (I := I) (L := L) (K := K) (R := R) (n := n) (sl := sl) w6 0 (by omega) (by omega)
      rw [hq7 ()] at Hf7
      refine jv_Wp.lift (fun _ Kz => jv_Ev.c jv_i295 (pc' := 246) (S' := [.int (vl_I w7)]) jv_i282 [.int (vl_I w6), .int (0 : Int32)] rfl rfl rfl rfl rfl rfl Hf7 rfl rfl Kz) ?_
      refine jv_Wp.lift (fun _ Kz => jv_Ev.steps jv_i295 2 (pc' := 248) (l' := [(2, .int (vl_I w7)), (3, .int (I 205 (76800 + f.d))), (1, .int (vl_I f.z)), (0, .ref 196)]) (st' := [.int (vl_I w7)]) rfl Kz) ?_
      refine jv_Wp.cnd jv_i295 (pt := 253) (pe := 251) (p := ((vl_I w7) ≤ 0)) (q := ((vl_I w7) ≤ 0)) rfl jv_bi_le rfl rfl Iff.rfl (fun h3 => ?_) (fun h3 => ?_)
      · refine jv_Wp.lift (fun _ Kz => jv_Ev.steps jv_i295 1 (pc' := 254) (l' := [(2, .int (vl_I w7)), (3, .int (I 205 (76800 + f.d))), (1, .int (vl_I f.z)), (0, .ref 196)]) (st' := [.ref 196]) rfl Kz) ?_
        refine jv_Wp.lift (fun _ Kz => jv_Ev.m jv_i295 (pc' := 257) (st' := [.int (Int32.ofInt f.i)]) (G' := (jv_H K I L R)) rfl rfl (jv_m_getI (jv_rwK hW 196 12 24 (by decide)) rfl rfl (vr_dJ D)) Kz) ?_
        refine jv_Wp.lift (fun _ Kz => jv_Ev.steps jv_i295 1 (pc' := 260) (l' := [(2, .int (vl_I w7)), (3, .int (I 205 (76800 + f.d))), (1, .int (vl_I f.z)), (0, .ref 196)]) (st' := [.int (241 : Int32), .int (Int32.ofInt f.i)]) rfl Kz) ?_
        refine jv_Wp.cnd jv_i295 (pt := 272) (pe := 263) (p := (¬ (Int32.ofInt f.i) = (241 : Int32))) (q := (¬ (Int32.ofInt f.i) = (241 : Int32))) rfl jv_bc_ne rfl rfl Iff.rfl (fun _ => ?_) (fun hz => absurd h241 hz)
        refine jv_Wp.lift (fun _ Kz => jv_Ev.steps jv_i295 1 (pc' := 273) (l' := [(2, .int (vl_I w7)), (3, .int (I 205 (76800 + f.d))), (1, .int (vl_I f.z)), (0, .ref 196)]) (st' := [.ref 196]) rfl Kz) ?_
        refine jv_Wp.lift (fun _ Kz => jv_Ev.m jv_i295 (pc' := 276) (st' := [.int (Int32.ofInt f.i)]) (G' := (jv_H K I L R)) rfl rfl (jv_m_getI (jv_rwK hW 196 12 24 (by decide)) rfl rfl (vr_dJ D)) Kz) ?_
        refine jv_Wp.lift (fun _ Kz => jv_Ev.steps jv_i295 1 (pc' := 277) (l' := [(2, .int (vl_I w7)), (3, .int (I 205 (76800 + f.d))), (1, .int (vl_I f.z)), (0, .ref 196)]) (st' := [.int (2 : Int32), .int (Int32.ofInt f.i)]) rfl Kz) ?_
        refine jv_Wp.lift (fun _ Kz => jv_Ev.op jv_i295 (pc' := 278) (l' := [(2, .int (vl_I w7)), (3, .int (I 205 (76800 + f.d))), (1, .int (vl_I f.z)), (0, .ref 196)]) (st' := [.int ((Int32.ofInt f.i) - (Int32.ofInt f.i) / (2 : Int32) * (2 : Int32))]) rfl (jv_op_irem (by decide)) Kz) ?_
        refine jv_Wp.lift (fun _ Kz => jv_Ev.steps jv_i295 1 (pc' := 279) (l' := [(2, .int (vl_I w7)), (3, .int (I 205 (76800 + f.d))), (1, .int (vl_I f.z)), (0, .ref 196)]) (st' := [.int (1 : Int32), .int ((Int32.ofInt f.i) - (Int32.ofInt f.i) / (2 : Int32) * (2 : Int32))]) rfl Kz) ?_
        refine jv_Wp.cnd jv_i295 (pt := 291) (pe := 282) (p := (¬ ((Int32.ofInt f.i) - (Int32.ofInt f.i) / (2 : Int32) * (2 : Int32)) = (1 : Int32))) (q := (¬ ((Int32.ofInt f.i) - (Int32.ofInt f.i) / (2 : Int32) * (2 : Int32)) = (1 : Int32))) rfl jv_bc_ne rfl rfl Iff.rfl (fun h4 => ?_) (fun h4 => ?_)
        · refine jv_Wp.lift (fun _ Kz => jv_Ev.steps jv_i295 1 (pc' := 292) (l' := [(2, .int (vl_I w7)), (3, .int (I 205 (76800 + f.d))), (1, .int (vl_I f.z)), (0, .ref 196)]) (st' := [.int (0 : Int32)]) rfl Kz) ?_
          refine jv_Wp.of (jv_Ev.ret jv_i295 rfl rfl) ?_
          rw [hQ]
          have td0 : zd = 0 := (hd ()).symm.trans ((vr_isN (L := L) okd hd11).mpr h1)
          have ts0 : zs = 0 := (hs ()).symm.trans ((vr_isN (L := L) oks hs11).mpr h2)
          have nx1 : w7 ≤ 0 := (vl_I_le (a := w7) (b := 0) (by omega) (by omega)).mp h3
          exact absurd (show False by omega) (fun z => z)
        · refine jv_Wp.lift (fun _ Kz => jv_Ev.steps jv_i295 2 (pc' := 284) (l' := [(2, .int (vl_I w7)), (3, .int (I 205 (76800 + f.d))), (1, .int (vl_I f.z)), (0, .ref 196)]) (st' := [.ref 196, .ref 196]) rfl Kz) ?_
          refine jv_Wp.lift (fun _ Kz => jv_Ev.m jv_i295 (pc' := 287) (st' := [.int (vl_I f.s), .ref 196]) (G' := (jv_H K I L R)) rfl rfl (jv_m_getI (jv_rwK hW 196 12 24 (by decide)) rfl rfl D.2.2.1) Kz) ?_
          refine jv_Wp.lift (fun _ Kz => jv_Ev.steps jv_i295 1 (pc' := 288) (l' := [(2, .int (vl_I w7)), (3, .int (I 205 (76800 + f.d))), (1, .int (vl_I f.z)), (0, .ref 196)]) (st' := [.int (vl_I f.z), .int (vl_I f.s), .ref 196]) rfl Kz) ?_
          obtain ⟨I8, L8, H8, T8, O8, F8⟩ := vq_setAny (I := I) (L := L) (R := R) (n := n) (sl := sl) f.s f.z hW hf (by omega) hz
          refine jv_Wp.lift (fun _ Kz => jv_Ev.c jv_i295 (pc' := 291) (S' := []) (G1 := (jv_H K I8 L8 R)) jv_i274 [.ref 196, .int (vl_I f.s), .int (vl_I f.z)] rfl rfl rfl rfl (jv_cal rfl (jv_H_at (jv_rwK hW 196 12 24 (by decide))) rfl rfl) rfl H8 rfl rfl Kz) ?_
          refine jv_Wp.lift (fun _ Kz => jv_Ev.steps jv_i295 1 (pc' := 292) (l' := [(2, .int (vl_I w7)), (3, .int (I 205 (76800 + f.d))), (1, .int (vl_I f.z)), (0, .ref 196)]) (st' := [.int (0 : Int32)]) rfl Kz) ?_
          refine jv_Wp.of (jv_Ev.ret jv_i295 rfl rfl) ?_
          rw [hQ]
          have td0 : zd = 0 := (hd ()).symm.trans ((vr_isN (L := L) okd hd11).mpr h1)
          have ts0 : zs = 0 := (hs ()).symm.trans ((vr_isN (L := L) oks hs11).mpr h2)
          have nx1 : w7 ≤ 0 := (vl_I_le (a := w7) (b := 0) (by omega) (by omega)).mp h3
          exact absurd (show False by omega) (fun z => z)
      · refine jv_Wp.lift (fun _ Kz => jv_Ev.steps jv_i295 1 (pc' := 252) (l' := [(2, .int (vl_I w7)), (3, .int (I 205 (76800 + f.d))), (1, .int (vl_I f.z)), (0, .ref 196)]) (st' := [.int (vl_I w7)]) rfl Kz) ?_
        refine jv_Wp.of (jv_Ev.ret jv_i295 rfl rfl) ?_
        rw [hQ]
        have td0 : zd = 0 := (hd ()).symm.trans ((vr_isN (L := L) okd hd11).mpr h1)
        have ts0 : zs = 0 := (hs ()).symm.trans ((vr_isN (L := L) oks hs11).mpr h2)
        have nx1 : ¬ w7 ≤ 0 := fun z => h3 ((vl_I_le (a := w7) (b := 0) (by omega) (by omega)).mpr z)
        have e : vx_atp M f (vr_A I L 1024) = (w7, (vr_A I L 1024)) := by
          by_cases c1 : zd = 0 ∨ zs = 0 ∨ (f.i = 241 ∧ z0 = 0)
          · rw [show w7 = 1 by omega]; exact vx_at1 (by rw [eD, eS, e0, hd (), hs (), h0 ()]; omega)
          · rw [show w7 = 3 by omega]; exact vx_at2 (by rw [eD, eS, e0, hd (), hs (), h0 ()]; omega) (by rw [eD, hd ()]; omega)
        exact ⟨_, _, by rw [← eQ, e], fun z => by rw [← eQ, e] at z; exact absurd (show w7 = 0 from z) (by omega), vr_fr_refl hf⟩
    · refine jv_Wp.lift (fun _ Kz => jv_Ev.steps jv_i295 2 (pc' := 189) (l' := [(2, .int (vl_I w5)), (3, .int (I 205 (76800 + f.d))), (1, .int (vl_I f.z)), (0, .ref 196)]) (st' := [.ref 196, .ref 196, .int (vl_I w5)]) rfl Kz) ?_
      refine jv_Wp.lift (fun _ Kz => jv_Ev.m jv_i295 (pc' := 192) (st' := [.int (vl_I f.s), .ref 196, .int (vl_I w5)]) (G' := (jv_H K I L R)) rfl rfl (jv_m_getI (jv_rwK hW 196 12 24 (by decide)) rfl rfl D.2.2.1) Kz) ?_
      refine jv_Wp.lift (fun _ Kz => jv_Ev.c jv_i295 (pc' := 195) (S' := [.int (I 205 (76800 + f.s)), .int (vl_I w5)]) jv_i271 [.ref 196, .int (vl_I f.s)] rfl rfl rfl rfl (jv_cal rfl (jv_H_at (jv_rwK hW 196 12 24 (by decide))) rfl rfl) rfl (vq_sortOf f.s hW (by omega)) rfl rfl Kz) ?_
      refine jv_Wp.lift (fun _ Kz => jv_Ev.steps jv_i295 1 (pc' := 196) (l' := [(2, .int (vl_I w5)), (3, .int (I 205 (76800 + f.d))), (1, .int (vl_I f.z)), (0, .ref 196)]) (st' := [.int (1 : Int32), .int (I 205 (76800 + f.s)), .int (vl_I w5)]) rfl Kz) ?_
      refine jv_Wp.cnd jv_i295 (pt := 204) (pe := 199) (p := ((I 205 (76800 + f.s)) = (1 : Int32))) (q := ((I 205 (76800 + f.s)) = (1 : Int32))) rfl jv_bc_eq rfl rfl Iff.rfl (fun h5 => ?_) (fun h5 => ?_)
      · refine jv_Wp.lift (fun _ Kz => jv_Ev.steps jv_i295 1 (pc' := 205) (l' := [(2, .int (vl_I w5)), (3, .int (I 205 (76800 + f.d))), (1, .int (vl_I f.z)), (0, .ref 196)]) (st' := [.int (0 : Int32), .int (vl_I w5)]) rfl Kz) ?_
        obtain ⟨w9, hq9⟩ : ∃ x : Nat, ∀ _ : Unit, vx_fst w5 0 = x := ⟨_, fun _ => rfl⟩
        have fq9 : (w5 = 0 → w9 = 0) ∧ (0 = 0 → w9 = w5) ∧ (w9 = w5 ∨ w9 = 0) ∧ (w5 ≠ 0 → 0 ≠ 0 → w9 ≤ w5 ∧ w9 ≤ 0) := by rw [← hq9 ()]; exact vx_fst_g w5 0
        have Hf9 := vq_first (I := I) (L := L) (K := K) (R := R) (n := n) (sl := sl) w5 0 (by omega) (by omega)
        rw [hq9 ()] at Hf9
        refine jv_Wp.lift (fun _ Kz => jv_Ev.c jv_i295 (pc' := 208) (S' := [.int (vl_I w9)]) jv_i282 [.int (vl_I w5), .int (0 : Int32)] rfl rfl rfl rfl rfl rfl Hf9 rfl rfl Kz) ?_
        refine jv_Wp.lift (fun _ Kz => jv_Ev.steps jv_i295 3 (pc' := 211) (l' := [(2, .int (vl_I w9)), (3, .int (I 205 (76800 + f.d))), (1, .int (vl_I f.z)), (0, .ref 196)]) (st' := [.ref 196, .int (vl_I w9)]) rfl Kz) ?_
        refine jv_Wp.lift (fun _ Kz => jv_Ev.m jv_i295 (pc' := 214) (st' := [.int (Int32.ofInt f.i), .int (vl_I w9)]) (G' := (jv_H K I L R)) rfl rfl (jv_m_getI (jv_rwK hW 196 12 24 (by decide)) rfl rfl (vr_dJ D)) Kz) ?_
        refine jv_Wp.lift (fun _ Kz => jv_Ev.steps jv_i295 1 (pc' := 217) (l' := [(2, .int (vl_I w9)), (3, .int (I 205 (76800 + f.d))), (1, .int (vl_I f.z)), (0, .ref 196)]) (st' := [.int (241 : Int32), .int (Int32.ofInt f.i), .int (vl_I w9)]) rfl Kz) ?_
        refine jv_Wp.cnd jv_i295 (pt := 242) (pe := 220) (p := (¬ (Int32.ofInt f.i) = (241 : Int32))) (q := (¬ (Int32.ofInt f.i) = (241 : Int32))) rfl jv_bc_ne rfl rfl Iff.rfl (fun _ => ?_) (fun hz => absurd h241 hz)
        refine jv_Wp.lift (fun _ Kz => jv_Ev.steps jv_i295 1 (pc' := 243) (l' := [(2, .int (vl_I w9)), (3, .int (I 205 (76800 + f.d))), (1, .int (vl_I f.z)), (0, .ref 196)]) (st' := [.int (0 : Int32), .int (vl_I w9)]) rfl Kz) ?_
        obtain ⟨w10, hq10⟩ : ∃ x : Nat, ∀ _ : Unit, vx_fst w9 0 = x := ⟨_, fun _ => rfl⟩
        have fq10 : (w9 = 0 → w10 = 0) ∧ (0 = 0 → w10 = w9) ∧ (w10 = w9 ∨ w10 = 0) ∧ (w9 ≠ 0 → 0 ≠ 0 → w10 ≤ w9 ∧ w10 ≤ 0) := by rw [← hq10 ()]; exact vx_fst_g w9 0
        have Hf10 := vq_first (I := I) (L := L) (K := K) (R := R) (n := n) (sl := sl) w9 0 (by omega) (by omega)
        rw [hq10 ()] at Hf10
        refine jv_Wp.lift (fun _ Kz => jv_Ev.c jv_i295 (pc' := 246) (S' := [.int (vl_I w10)]) jv_i282 [.int (vl_I w9), .int (0 : Int32)] rfl rfl rfl rfl rfl rfl Hf10 rfl rfl Kz) ?_
        refine jv_Wp.lift (fun _ Kz => jv_Ev.steps jv_i295 2 (pc' := 248) (l' := [(2, .int (vl_I w10)), (3, .int (I 205 (76800 + f.d))), (1, .int (vl_I f.z)), (0, .ref 196)]) (st' := [.int (vl_I w10)]) rfl Kz) ?_
        refine jv_Wp.cnd jv_i295 (pt := 253) (pe := 251) (p := ((vl_I w10) ≤ 0)) (q := ((vl_I w10) ≤ 0)) rfl jv_bi_le rfl rfl Iff.rfl (fun h6 => ?_) (fun h6 => ?_)
        · refine jv_Wp.lift (fun _ Kz => jv_Ev.steps jv_i295 1 (pc' := 254) (l' := [(2, .int (vl_I w10)), (3, .int (I 205 (76800 + f.d))), (1, .int (vl_I f.z)), (0, .ref 196)]) (st' := [.ref 196]) rfl Kz) ?_
          refine jv_Wp.lift (fun _ Kz => jv_Ev.m jv_i295 (pc' := 257) (st' := [.int (Int32.ofInt f.i)]) (G' := (jv_H K I L R)) rfl rfl (jv_m_getI (jv_rwK hW 196 12 24 (by decide)) rfl rfl (vr_dJ D)) Kz) ?_
          refine jv_Wp.lift (fun _ Kz => jv_Ev.steps jv_i295 1 (pc' := 260) (l' := [(2, .int (vl_I w10)), (3, .int (I 205 (76800 + f.d))), (1, .int (vl_I f.z)), (0, .ref 196)]) (st' := [.int (241 : Int32), .int (Int32.ofInt f.i)]) rfl Kz) ?_
          refine jv_Wp.cnd jv_i295 (pt := 272) (pe := 263) (p := (¬ (Int32.ofInt f.i) = (241 : Int32))) (q := (¬ (Int32.ofInt f.i) = (241 : Int32))) rfl jv_bc_ne rfl rfl Iff.rfl (fun _ => ?_) (fun hz => absurd h241 hz)
          refine jv_Wp.lift (fun _ Kz => jv_Ev.steps jv_i295 1 (pc' := 273) (l' := [(2, .int (vl_I w10)), (3, .int (I 205 (76800 + f.d))), (1, .int (vl_I f.z)), (0, .ref 196)]) (st' := [.ref 196]) rfl Kz) ?_
          refine jv_Wp.lift (fun _ Kz => jv_Ev.m jv_i295 (pc' := 276) (st' := [.int (Int32.ofInt f.i)]) (G' := (jv_H K I L R)) rfl rfl (jv_m_getI (jv_rwK hW 196 12 24 (by decide)) rfl rfl (vr_dJ D)) Kz) ?_
          refine jv_Wp.lift (fun _ Kz => jv_Ev.steps jv_i295 1 (pc' := 277) (l' := [(2, .int (vl_I w10)), (3, .int (I 205 (76800 + f.d))), (1, .int (vl_I f.z)), (0, .ref 196)]) (st' := [.int (2 : Int32), .int (Int32.ofInt f.i)]) rfl Kz) ?_
          refine jv_Wp.lift (fun _ Kz => jv_Ev.op jv_i295 (pc' := 278) (l' := [(2, .int (vl_I w10)), (3, .int (I 205 (76800 + f.d))), (1, .int (vl_I f.z)), (0, .ref 196)]) (st' := [.int ((Int32.ofInt f.i) - (Int32.ofInt f.i) / (2 : Int32) * (2 : Int32))]) rfl (jv_op_irem (by decide)) Kz) ?_
          refine jv_Wp.lift (fun _ Kz => jv_Ev.steps jv_i295 1 (pc' := 279) (l' := [(2, .int (vl_I w10)), (3, .int (I 205 (76800 + f.d))), (1, .int (vl_I f.z)), (0, .ref 196)]) (st' := [.int (1 : Int32), .int ((Int32.ofInt f.i) - (Int32.ofInt f.i) / (2 : Int32) * (2 : Int32))]) rfl Kz) ?_
          refine jv_Wp.cnd jv_i295 (pt := 291) (pe := 282) (p := (¬ ((Int32.ofInt f.i) - (Int32.ofInt f.i) / (2 : Int32) * (2 : Int32)) = (1 : Int32))) (q := (¬ ((Int32.ofInt f.i) - (Int32.ofInt f.i) / (2 : Int32) * (2 : Int32)) = (1 : Int32))) rfl jv_bc_ne rfl rfl Iff.rfl (fun h7 => ?_) (fun h7 => ?_)
          · refine jv_Wp.lift (fun _ Kz => jv_Ev.steps jv_i295 1 (pc' := 292) (l' := [(2, .int (vl_I w10)), (3, .int (I 205 (76800 + f.d))), (1, .int (vl_I f.z)), (0, .ref 196)]) (st' := [.int (0 : Int32)]) rfl Kz) ?_
            refine jv_Wp.of (jv_Ev.ret jv_i295 rfl rfl) ?_
            rw [hQ]
            have td0 : zd = 0 := (hd ()).symm.trans ((vr_isN (L := L) okd hd11).mpr h1)
            have ts0 : ¬ zs = 0 := fun z => h2 ((vr_isN (L := L) oks hs11).mp ((hs ()).trans z))
            have ts1 : zs = 1 := (hs ()).symm.trans ((vr_is (L := L) 1 (by decide) oks).mpr h5)
            have nx1 : w10 ≤ 0 := (vl_I_le (a := w10) (b := 0) (by omega) (by omega)).mp h6
            exact absurd (show False by omega) (fun z => z)
          · refine jv_Wp.lift (fun _ Kz => jv_Ev.steps jv_i295 2 (pc' := 284) (l' := [(2, .int (vl_I w10)), (3, .int (I 205 (76800 + f.d))), (1, .int (vl_I f.z)), (0, .ref 196)]) (st' := [.ref 196, .ref 196]) rfl Kz) ?_
            refine jv_Wp.lift (fun _ Kz => jv_Ev.m jv_i295 (pc' := 287) (st' := [.int (vl_I f.s), .ref 196]) (G' := (jv_H K I L R)) rfl rfl (jv_m_getI (jv_rwK hW 196 12 24 (by decide)) rfl rfl D.2.2.1) Kz) ?_
            refine jv_Wp.lift (fun _ Kz => jv_Ev.steps jv_i295 1 (pc' := 288) (l' := [(2, .int (vl_I w10)), (3, .int (I 205 (76800 + f.d))), (1, .int (vl_I f.z)), (0, .ref 196)]) (st' := [.int (vl_I f.z), .int (vl_I f.s), .ref 196]) rfl Kz) ?_
            obtain ⟨I11, L11, H11, T11, O11, F11⟩ := vq_setAny (I := I) (L := L) (R := R) (n := n) (sl := sl) f.s f.z hW hf (by omega) hz
            refine jv_Wp.lift (fun _ Kz => jv_Ev.c jv_i295 (pc' := 291) (S' := []) (G1 := (jv_H K I11 L11 R)) jv_i274 [.ref 196, .int (vl_I f.s), .int (vl_I f.z)] rfl rfl rfl rfl (jv_cal rfl (jv_H_at (jv_rwK hW 196 12 24 (by decide))) rfl rfl) rfl H11 rfl rfl Kz) ?_
            refine jv_Wp.lift (fun _ Kz => jv_Ev.steps jv_i295 1 (pc' := 292) (l' := [(2, .int (vl_I w10)), (3, .int (I 205 (76800 + f.d))), (1, .int (vl_I f.z)), (0, .ref 196)]) (st' := [.int (0 : Int32)]) rfl Kz) ?_
            refine jv_Wp.of (jv_Ev.ret jv_i295 rfl rfl) ?_
            rw [hQ]
            have td0 : zd = 0 := (hd ()).symm.trans ((vr_isN (L := L) okd hd11).mpr h1)
            have ts0 : ¬ zs = 0 := fun z => h2 ((vr_isN (L := L) oks hs11).mp ((hs ()).trans z))
            have ts1 : zs = 1 := (hs ()).symm.trans ((vr_is (L := L) 1 (by decide) oks).mpr h5)
            have nx1 : w10 ≤ 0 := (vl_I_le (a := w10) (b := 0) (by omega) (by omega)).mp h6
            exact absurd (show False by omega) (fun z => z)
        · refine jv_Wp.lift (fun _ Kz => jv_Ev.steps jv_i295 1 (pc' := 252) (l' := [(2, .int (vl_I w10)), (3, .int (I 205 (76800 + f.d))), (1, .int (vl_I f.z)), (0, .ref 196)]) (st' := [.int (vl_I w10)]) rfl Kz) ?_
          refine jv_Wp.of (jv_Ev.ret jv_i295 rfl rfl) ?_
          rw [hQ]
          have td0 : zd = 0 := (hd ()).symm.trans ((vr_isN (L := L) okd hd11).mpr h1)
          have ts0 : ¬ zs = 0 := fun z => h2 ((vr_isN (L := L) oks hs11).mp ((hs ()).trans z))
          have ts1 : zs = 1 := (hs ()).symm.trans ((vr_is (L := L) 1 (by decide) oks).mpr h5)
          have nx1 : ¬ w10 ≤ 0 := fun z => h6 ((vl_I_le (a := w10) (b := 0) (by omega) (by omega)).mpr z)
          have e : vx_atp M f (vr_A I L 1024) = (w10, (vr_A I L 1024)) := by
            by_cases c1 : zd = 0 ∨ zs = 0 ∨ (f.i = 241 ∧ z0 = 0)
            · rw [show w10 = 1 by omega]; exact vx_at1 (by rw [eD, eS, e0, hd (), hs (), h0 ()]; omega)
            · rw [show w10 = 3 by omega]; exact vx_at2 (by rw [eD, eS, e0, hd (), hs (), h0 ()]; omega) (by rw [eD, hd ()]; omega)
          exact ⟨_, _, by rw [← eQ, e], fun z => by rw [← eQ, e] at z; exact absurd (show w10 = 0 from z) (by omega), vr_fr_refl hf⟩
      · refine jv_Wp.lift (fun _ Kz => jv_Ev.steps jv_i295 2 (pc' := 205) (l' := [(2, .int (vl_I w5)), (3, .int (I 205 (76800 + f.d))), (1, .int (vl_I f.z)), (0, .ref 196)]) (st' := [.int (6 : Int32), .int (vl_I w5)]) rfl Kz) ?_
        obtain ⟨w12, hq12⟩ : ∃ x : Nat, ∀ _ : Unit, vx_fst w5 6 = x := ⟨_, fun _ => rfl⟩
        have fq12 : (w5 = 0 → w12 = 6) ∧ (6 = 0 → w12 = w5) ∧ (w12 = w5 ∨ w12 = 6) ∧ (w5 ≠ 0 → 6 ≠ 0 → w12 ≤ w5 ∧ w12 ≤ 6) := by rw [← hq12 ()]; exact vx_fst_g w5 6
        have Hf12 := vq_first (I := I) (L := L) (K := K) (R := R) (n := n) (sl := sl) w5 6 (by omega) (by omega)
        rw [hq12 ()] at Hf12
        refine jv_Wp.lift (fun _ Kz => jv_Ev.c jv_i295 (pc' := 208) (S' := [.int (vl_I w12)]) jv_i282 [.int (vl_I w5), .int (6 : Int32)] rfl rfl rfl rfl rfl rfl Hf12 rfl rfl Kz) ?_
        refine jv_Wp.lift (fun _ Kz => jv_Ev.steps jv_i295 3 (pc' := 211) (l' := [(2, .int (vl_I w12)), (3, .int (I 205 (76800 + f.d))), (1, .int (vl_I f.z)), (0, .ref 196)]) (st' := [.ref 196, .int (vl_I w12)]) rfl Kz) ?_
        refine jv_Wp.lift (fun _ Kz => jv_Ev.m jv_i295 (pc' := 214) (st' := [.int (Int32.ofInt f.i), .int (vl_I w12)]) (G' := (jv_H K I L R)) rfl rfl (jv_m_getI (jv_rwK hW 196 12 24 (by decide)) rfl rfl (vr_dJ D)) Kz) ?_
        refine jv_Wp.lift (fun _ Kz => jv_Ev.steps jv_i295 1 (pc' := 217) (l' := [(2, .int (vl_I w12)), (3, .int (I 205 (76800 + f.d))), (1, .int (vl_I f.z)), (0, .ref 196)]) (st' := [.int (241 : Int32), .int (Int32.ofInt f.i), .int (vl_I w12)]) rfl Kz) ?_
        refine jv_Wp.cnd jv_i295 (pt := 242) (pe := 220) (p := (¬ (Int32.ofInt f.i) = (241 : Int32))) (q := (¬ (Int32.ofInt f.i) = (241 : Int32))) rfl jv_bc_ne rfl rfl Iff.rfl (fun _ => ?_) (fun hz => absurd h241 hz)
        refine jv_Wp.lift (fun _ Kz => jv_Ev.steps jv_i295 1 (pc' := 243) (l' := [(2, .int (vl_I w12)), (3, .int (I 205 (76800 + f.d))), (1, .int (vl_I f.z)), (0, .ref 196)]) (st' := [.int (0 : Int32), .int (vl_I w12)]) rfl Kz) ?_
        obtain ⟨w13, hq13⟩ : ∃ x : Nat, ∀ _ : Unit, vx_fst w12 0 = x := ⟨_, fun _ => rfl⟩
        have fq13 : (w12 = 0 → w13 = 0) ∧ (0 = 0 → w13 = w12) ∧ (w13 = w12 ∨ w13 = 0) ∧ (w12 ≠ 0 → 0 ≠ 0 → w13 ≤ w12 ∧ w13 ≤ 0) := by rw [← hq13 ()]; exact vx_fst_g w12 0
        have Hf13 := vq_first (I := I) (L := L) (K := K) (R := R) (n := n) (sl := sl) w12 0 (by omega) (by omega)
        rw [hq13 ()] at Hf13
        refine jv_Wp.lift (fun _ Kz => jv_Ev.c jv_i295 (pc' := 246) (S' := [.int (vl_I w13)]) jv_i282 [.int (vl_I w12), .int (0 : Int32)] rfl rfl rfl rfl rfl rfl Hf13 rfl rfl Kz) ?_
        refine jv_Wp.lift (fun _ Kz => jv_Ev.steps jv_i295 2 (pc' := 248) (l' := [(2, .int (vl_I w13)), (3, .int (I 205 (76800 + f.d))), (1, .int (vl_I f.z)), (0, .ref 196)]) (st' := [.int (vl_I w13)]) rfl Kz) ?_
        refine jv_Wp.cnd jv_i295 (pt := 253) (pe := 251) (p := ((vl_I w13) ≤ 0)) (q := ((vl_I w13) ≤ 0)) rfl jv_bi_le rfl rfl Iff.rfl (fun h8 => ?_) (fun h8 => ?_)
        · refine jv_Wp.lift (fun _ Kz => jv_Ev.steps jv_i295 1 (pc' := 254) (l' := [(2, .int (vl_I w13)), (3, .int (I 205 (76800 + f.d))), (1, .int (vl_I f.z)), (0, .ref 196)]) (st' := [.ref 196]) rfl Kz) ?_
          refine jv_Wp.lift (fun _ Kz => jv_Ev.m jv_i295 (pc' := 257) (st' := [.int (Int32.ofInt f.i)]) (G' := (jv_H K I L R)) rfl rfl (jv_m_getI (jv_rwK hW 196 12 24 (by decide)) rfl rfl (vr_dJ D)) Kz) ?_
          refine jv_Wp.lift (fun _ Kz => jv_Ev.steps jv_i295 1 (pc' := 260) (l' := [(2, .int (vl_I w13)), (3, .int (I 205 (76800 + f.d))), (1, .int (vl_I f.z)), (0, .ref 196)]) (st' := [.int (241 : Int32), .int (Int32.ofInt f.i)]) rfl Kz) ?_
          refine jv_Wp.cnd jv_i295 (pt := 272) (pe := 263) (p := (¬ (Int32.ofInt f.i) = (241 : Int32))) (q := (¬ (Int32.ofInt f.i) = (241 : Int32))) rfl jv_bc_ne rfl rfl Iff.rfl (fun _ => ?_) (fun hz => absurd h241 hz)
          refine jv_Wp.lift (fun _ Kz => jv_Ev.steps jv_i295 1 (pc' := 273) (l' := [(2, .int (vl_I w13)), (3, .int (I 205 (76800 + f.d))), (1, .int (vl_I f.z)), (0, .ref 196)]) (st' := [.ref 196]) rfl Kz) ?_
          refine jv_Wp.lift (fun _ Kz => jv_Ev.m jv_i295 (pc' := 276) (st' := [.int (Int32.ofInt f.i)]) (G' := (jv_H K I L R)) rfl rfl (jv_m_getI (jv_rwK hW 196 12 24 (by decide)) rfl rfl (vr_dJ D)) Kz) ?_
          refine jv_Wp.lift (fun _ Kz => jv_Ev.steps jv_i295 1 (pc' := 277) (l' := [(2, .int (vl_I w13)), (3, .int (I 205 (76800 + f.d))), (1, .int (vl_I f.z)), (0, .ref 196)]) (st' := [.int (2 : Int32), .int (Int32.ofInt f.i)]) rfl Kz) ?_
          refine jv_Wp.lift (fun _ Kz => jv_Ev.op jv_i295 (pc' := 278) (l' := [(2, .int (vl_I w13)), (3, .int (I 205 (76800 + f.d))), (1, .int (vl_I f.z)), (0, .ref 196)]) (st' := [.int ((Int32.ofInt f.i) - (Int32.ofInt f.i) / (2 : Int32) * (2 : Int32))]) rfl (jv_op_irem (by decide)) Kz) ?_
          refine jv_Wp.lift (fun _ Kz => jv_Ev.steps jv_i295 1 (pc' := 279) (l' := [(2, .int (vl_I w13)), (3, .int (I 205 (76800 + f.d))), (1, .int (vl_I f.z)), (0, .ref 196)]) (st' := [.int (1 : Int32), .int ((Int32.ofInt f.i) - (Int32.ofInt f.i) / (2 : Int32) * (2 : Int32))]) rfl Kz) ?_
          refine jv_Wp.cnd jv_i295 (pt := 291) (pe := 282) (p := (¬ ((Int32.ofInt f.i) - (Int32.ofInt f.i) / (2 : Int32) * (2 : Int32)) = (1 : Int32))) (q := (¬ ((Int32.ofInt f.i) - (Int32.ofInt f.i) / (2 : Int32) * (2 : Int32)) = (1 : Int32))) rfl jv_bc_ne rfl rfl Iff.rfl (fun h9 => ?_) (fun h9 => ?_)
          · refine jv_Wp.lift (fun _ Kz => jv_Ev.steps jv_i295 1 (pc' := 292) (l' := [(2, .int (vl_I w13)), (3, .int (I 205 (76800 + f.d))), (1, .int (vl_I f.z)), (0, .ref 196)]) (st' := [.int (0 : Int32)]) rfl Kz) ?_
            refine jv_Wp.of (jv_Ev.ret jv_i295 rfl rfl) ?_
            rw [hQ]
            have td0 : zd = 0 := (hd ()).symm.trans ((vr_isN (L := L) okd hd11).mpr h1)
            have ts0 : ¬ zs = 0 := fun z => h2 ((vr_isN (L := L) oks hs11).mp ((hs ()).trans z))
            have ts1 : ¬ zs = 1 := fun z => h5 ((vr_is (L := L) 1 (by decide) oks).mp ((hs ()).trans z))
            have nx1 : w13 ≤ 0 := (vl_I_le (a := w13) (b := 0) (by omega) (by omega)).mp h8
            exact absurd (show False by omega) (fun z => z)
          · refine jv_Wp.lift (fun _ Kz => jv_Ev.steps jv_i295 2 (pc' := 284) (l' := [(2, .int (vl_I w13)), (3, .int (I 205 (76800 + f.d))), (1, .int (vl_I f.z)), (0, .ref 196)]) (st' := [.ref 196, .ref 196]) rfl Kz) ?_
            refine jv_Wp.lift (fun _ Kz => jv_Ev.m jv_i295 (pc' := 287) (st' := [.int (vl_I f.s), .ref 196]) (G' := (jv_H K I L R)) rfl rfl (jv_m_getI (jv_rwK hW 196 12 24 (by decide)) rfl rfl D.2.2.1) Kz) ?_
            refine jv_Wp.lift (fun _ Kz => jv_Ev.steps jv_i295 1 (pc' := 288) (l' := [(2, .int (vl_I w13)), (3, .int (I 205 (76800 + f.d))), (1, .int (vl_I f.z)), (0, .ref 196)]) (st' := [.int (vl_I f.z), .int (vl_I f.s), .ref 196]) rfl Kz) ?_
            obtain ⟨I14, L14, H14, T14, O14, F14⟩ := vq_setAny (I := I) (L := L) (R := R) (n := n) (sl := sl) f.s f.z hW hf (by omega) hz
            refine jv_Wp.lift (fun _ Kz => jv_Ev.c jv_i295 (pc' := 291) (S' := []) (G1 := (jv_H K I14 L14 R)) jv_i274 [.ref 196, .int (vl_I f.s), .int (vl_I f.z)] rfl rfl rfl rfl (jv_cal rfl (jv_H_at (jv_rwK hW 196 12 24 (by decide))) rfl rfl) rfl H14 rfl rfl Kz) ?_
            refine jv_Wp.lift (fun _ Kz => jv_Ev.steps jv_i295 1 (pc' := 292) (l' := [(2, .int (vl_I w13)), (3, .int (I 205 (76800 + f.d))), (1, .int (vl_I f.z)), (0, .ref 196)]) (st' := [.int (0 : Int32)]) rfl Kz) ?_
            refine jv_Wp.of (jv_Ev.ret jv_i295 rfl rfl) ?_
            rw [hQ]
            have td0 : zd = 0 := (hd ()).symm.trans ((vr_isN (L := L) okd hd11).mpr h1)
            have ts0 : ¬ zs = 0 := fun z => h2 ((vr_isN (L := L) oks hs11).mp ((hs ()).trans z))
            have ts1 : ¬ zs = 1 := fun z => h5 ((vr_is (L := L) 1 (by decide) oks).mp ((hs ()).trans z))
            have nx1 : w13 ≤ 0 := (vl_I_le (a := w13) (b := 0) (by omega) (by omega)).mp h8
            exact absurd (show False by omega) (fun z => z)
        · refine jv_Wp.lift (fun _ Kz => jv_Ev.steps jv_i295 1 (pc' := 252) (l' := [(2, .int (vl_I w13)), (3, .int (I 205 (76800 + f.d))), (1, .int (vl_I f.z)), (0, .ref 196)]) (st' := [.int (vl_I w13)]) rfl Kz) ?_
          refine jv_Wp.of (jv_Ev.ret jv_i295 rfl rfl) ?_
          rw [hQ]
          have td0 : zd = 0 := (hd ()).symm.trans ((vr_isN (L := L) okd hd11).mpr h1)
          have ts0 : ¬ zs = 0 := fun z => h2 ((vr_isN (L := L) oks hs11).mp ((hs ()).trans z))
          have ts1 : ¬ zs = 1 := fun z => h5 ((vr_is (L := L) 1 (by decide) oks).mp ((hs ()).trans z))
          have nx1 : ¬ w13 ≤ 0 := fun z => h8 ((vl_I_le (a := w13) (b := 0) (by omega) (by omega)).mpr z)
          have e : vx_atp M f (vr_A I L 1024) = (w13, (vr_A I L 1024)) := by
            by_cases c1 : zd = 0 ∨ zs = 0 ∨ (f.i = 241 ∧ z0 = 0)
            · rw [show w13 = 1 by omega]; exact vx_at1 (by rw [eD, eS, e0, hd (), hs (), h0 ()]; omega)
            · rw [show w13 = 3 by omega]; exact vx_at2 (by rw [eD, eS, e0, hd (), hs (), h0 ()]; omega) (by rw [eD, hd ()]; omega)
          exact ⟨_, _, by rw [← eQ, e], fun z => by rw [← eQ, e] at z; exact absurd (show w13 = 0 from z) (by omega), vr_fr_refl hf⟩
  · refine jv_Wp.lift (fun _ Kz => jv_Ev.steps jv_i295 2 (pc' := 66) (l' := [(3, .int (I 205 (76800 + f.d))), (2, .int (vl_I w4)), (1, .int (vl_I f.z)), (0, .ref 196)]) (st' := [.int (7 : Int32), .int (I 205 (76800 + f.d)), .int (vl_I w4)]) rfl Kz) ?_
    refine jv_Wp.cnd jv_i295 (pt := 73) (pe := 69) (p := (¬ (I 205 (76800 + f.d)) = (7 : Int32))) (q := (¬ (I 205 (76800 + f.d)) = (7 : Int32))) rfl jv_bc_ne rfl rfl Iff.rfl (fun h10 => ?_) (fun h10 => ?_)
    · refine jv_Wp.lift (fun _ Kz => jv_Ev.steps jv_i295 1 (pc' := 74) (l' := [(3, .int (I 205 (76800 + f.d))), (2, .int (vl_I w4)), (1, .int (vl_I f.z)), (0, .ref 196)]) (st' := [.int (3 : Int32), .int (vl_I w4)]) rfl Kz) ?_
      obtain ⟨w15, hq15⟩ : ∃ x : Nat, ∀ _ : Unit, vx_fst w4 3 = x := ⟨_, fun _ => rfl⟩
      have fq15 : (w4 = 0 → w15 = 3) ∧ (3 = 0 → w15 = w4) ∧ (w15 = w4 ∨ w15 = 3) ∧ (w4 ≠ 0 → 3 ≠ 0 → w15 ≤ w4 ∧ w15 ≤ 3) := by rw [← hq15 ()]; exact vx_fst_g w4 3
      have Hf15 := vq_first (I := I) (L := L) (K := K) (R := R) (n := n) (sl := sl) w4 3 (by omega) (by omega)
      rw [hq15 ()] at Hf15
      refine jv_Wp.lift (fun _ Kz => jv_Ev.c jv_i295 (pc' := 77) (S' := [.int (vl_I w15)]) jv_i282 [.int (vl_I w4), .int (3 : Int32)] rfl rfl rfl rfl rfl rfl Hf15 rfl rfl Kz) ?_
      refine jv_Wp.lift (fun _ Kz => jv_Ev.steps jv_i295 3 (pc' := 81) (l' := [(2, .int (vl_I w15)), (3, .int (I 205 (76800 + f.d))), (1, .int (vl_I f.z)), (0, .ref 196)]) (st' := [.int (7 : Int32), .int (I 205 (76800 + f.d))]) rfl Kz) ?_
      refine jv_Wp.cnd jv_i295 (pt := 175) (pe := 84) (p := (¬ (I 205 (76800 + f.d)) = (7 : Int32))) (q := (¬ (I 205 (76800 + f.d)) = (7 : Int32))) rfl jv_bc_ne rfl rfl Iff.rfl (fun _ => ?_) (fun hz => absurd h10 hz)
      refine jv_Wp.lift (fun _ Kz => jv_Ev.steps jv_i295 3 (pc' := 178) (l' := [(2, .int (vl_I w15)), (3, .int (I 205 (76800 + f.d))), (1, .int (vl_I f.z)), (0, .ref 196)]) (st' := [.ref 196, .ref 196, .int (vl_I w15)]) rfl Kz) ?_
      refine jv_Wp.lift (fun _ Kz => jv_Ev.m jv_i295 (pc' := 181) (st' := [.int (vl_I f.s), .ref 196, .int (vl_I w15)]) (G' := (jv_H K I L R)) rfl rfl (jv_m_getI (jv_rwK hW 196 12 24 (by decide)) rfl rfl D.2.2.1) Kz) ?_
      refine jv_Wp.lift (fun _ Kz => jv_Ev.c jv_i295 (pc' := 184) (S' := [.int (I 205 (76800 + f.s)), .int (vl_I w15)]) jv_i271 [.ref 196, .int (vl_I f.s)] rfl rfl rfl rfl (jv_cal rfl (jv_H_at (jv_rwK hW 196 12 24 (by decide))) rfl rfl) rfl (vq_sortOf f.s hW (by omega)) rfl rfl Kz) ?_
      refine jv_Wp.cnd jv_i295 (pt := 204) (pe := 187) (p := ((I 205 (76800 + f.s)) = 0)) (q := ((I 205 (76800 + f.s)) = 0)) rfl jv_bi_eq rfl rfl Iff.rfl (fun h11 => ?_) (fun h11 => ?_)
      · refine jv_Wp.lift (fun _ Kz => jv_Ev.steps jv_i295 1 (pc' := 205) (l' := [(2, .int (vl_I w15)), (3, .int (I 205 (76800 + f.d))), (1, .int (vl_I f.z)), (0, .ref 196)]) (st' := [.int (0 : Int32), .int (vl_I w15)]) rfl Kz) ?_
        obtain ⟨w16, hq16⟩ : ∃ x : Nat, ∀ _ : Unit, vx_fst w15 0 = x := ⟨_, fun _ => rfl⟩
        have fq16 : (w15 = 0 → w16 = 0) ∧ (0 = 0 → w16 = w15) ∧ (w16 = w15 ∨ w16 = 0) ∧ (w15 ≠ 0 → 0 ≠ 0 → w16 ≤ w15 ∧ w16 ≤ 0) := by rw [← hq16 ()]; exact vx_fst_g w15 0
        have Hf16 := vq_first (I := I) (L := L) (K := K) (R := R) (n := n) (sl := sl) w15 0 (by omega) (by omega)
        rw [hq16 ()] at Hf16
        refine jv_Wp.lift (fun _ Kz => jv_Ev.c jv_i295 (pc' := 208) (S' := [.int (vl_I w16)]) jv_i282 [.int (vl_I w15), .int (0 : Int32)] rfl rfl rfl rfl rfl rfl Hf16 rfl rfl Kz) ?_
        refine jv_Wp.lift (fun _ Kz => jv_Ev.steps jv_i295 3 (pc' := 211) (l' := [(2, .int (vl_I w16)), (3, .int (I 205 (76800 + f.d))), (1, .int (vl_I f.z)), (0, .ref 196)]) (st' := [.ref 196, .int (vl_I w16)]) rfl Kz) ?_
        refine jv_Wp.lift (fun _ Kz => jv_Ev.m jv_i295 (pc' := 214) (st' := [.int (Int32.ofInt f.i), .int (vl_I w16)]) (G' := (jv_H K I L R)) rfl rfl (jv_m_getI (jv_rwK hW 196 12 24 (by decide)) rfl rfl (vr_dJ D)) Kz) ?_
        refine jv_Wp.lift (fun _ Kz => jv_Ev.steps jv_i295 1 (pc' := 217) (l' := [(2, .int (vl_I w16)), (3, .int (I 205 (76800 + f.d))), (1, .int (vl_I f.z)), (0, .ref 196)]) (st' := [.int (241 : Int32), .int (Int32.ofInt f.i), .int (vl_I w16)]) rfl Kz) ?_
        refine jv_Wp.cnd jv_i295 (pt := 242) (pe := 220) (p := (¬ (Int32.ofInt f.i) = (241 : Int32))) (q := (¬ (Int32.ofInt f.i) = (241 : Int32))) rfl jv_bc_ne rfl rfl Iff.rfl (fun _ => ?_) (fun hz => absurd h241 hz)
        refine jv_Wp.lift (fun _ Kz => jv_Ev.steps jv_i295 1 (pc' := 243) (l' := [(2, .int (vl_I w16)), (3, .int (I 205 (76800 + f.d))), (1, .int (vl_I f.z)), (0, .ref 196)]) (st' := [.int (0 : Int32), .int (vl_I w16)]) rfl Kz) ?_
        obtain ⟨w17, hq17⟩ : ∃ x : Nat, ∀ _ : Unit, vx_fst w16 0 = x := ⟨_, fun _ => rfl⟩
        have fq17 : (w16 = 0 → w17 = 0) ∧ (0 = 0 → w17 = w16) ∧ (w17 = w16 ∨ w17 = 0) ∧ (w16 ≠ 0 → 0 ≠ 0 → w17 ≤ w16 ∧ w17 ≤ 0) := by rw [← hq17 ()]; exact vx_fst_g w16 0
        have Hf17 := vq_first (I := I) (L := L) (K := K) (R := R) (n := n) (sl := sl) w16 0 (by omega) (by omega)
        rw [hq17 ()] at Hf17
        refine jv_Wp.lift (fun _ Kz => jv_Ev.c jv_i295 (pc' := 246) (S' := [.int (vl_I w17)]) jv_i282 [.int (vl_I w16), .int (0 : Int32)] rfl rfl rfl rfl rfl rfl Hf17 rfl rfl Kz) ?_
        refine jv_Wp.lift (fun _ Kz => jv_Ev.steps jv_i295 2 (pc' := 248) (l' := [(2, .int (vl_I w17)), (3, .int (I 205 (76800 + f.d))), (1, .int (vl_I f.z)), (0, .ref 196)]) (st' := [.int (vl_I w17)]) rfl Kz) ?_
        refine jv_Wp.cnd jv_i295 (pt := 253) (pe := 251) (p := ((vl_I w17) ≤ 0)) (q := ((vl_I w17) ≤ 0)) rfl jv_bi_le rfl rfl Iff.rfl (fun h12 => ?_) (fun h12 => ?_)
        · refine jv_Wp.lift (fun _ Kz => jv_Ev.steps jv_i295 1 (pc' := 254) (l' := [(2, .int (vl_I w17)), (3, .int (I 205 (76800 + f.d))), (1, .int (vl_I f.z)), (0, .ref 196)]) (st' := [.ref 196]) rfl Kz) ?_
          refine jv_Wp.lift (fun _ Kz => jv_Ev.m jv_i295 (pc' := 257) (st' := [.int (Int32.ofInt f.i)]) (G' := (jv_H K I L R)) rfl rfl (jv_m_getI (jv_rwK hW 196 12 24 (by decide)) rfl rfl (vr_dJ D)) Kz) ?_
          refine jv_Wp.lift (fun _ Kz => jv_Ev.steps jv_i295 1 (pc' := 260) (l' := [(2, .int (vl_I w17)), (3, .int (I 205 (76800 + f.d))), (1, .int (vl_I f.z)), (0, .ref 196)]) (st' := [.int (241 : Int32), .int (Int32.ofInt f.i)]) rfl Kz) ?_
          refine jv_Wp.cnd jv_i295 (pt := 272) (pe := 263) (p := (¬ (Int32.ofInt f.i) = (241 : Int32))) (q := (¬ (Int32.ofInt f.i) = (241 : Int32))) rfl jv_bc_ne rfl rfl Iff.rfl (fun _ => ?_) (fun hz => absurd h241 hz)
          refine jv_Wp.lift (fun _ Kz => jv_Ev.steps jv_i295 1 (pc' := 273) (l' := [(2, .int (vl_I w17)), (3, .int (I 205 (76800 + f.d))), (1, .int (vl_I f.z)), (0, .ref 196)]) (st' := [.ref 196]) rfl Kz) ?_
          refine jv_Wp.lift (fun _ Kz => jv_Ev.m jv_i295 (pc' := 276) (st' := [.int (Int32.ofInt f.i)]) (G' := (jv_H K I L R)) rfl rfl (jv_m_getI (jv_rwK hW 196 12 24 (by decide)) rfl rfl (vr_dJ D)) Kz) ?_
          refine jv_Wp.lift (fun _ Kz => jv_Ev.steps jv_i295 1 (pc' := 277) (l' := [(2, .int (vl_I w17)), (3, .int (I 205 (76800 + f.d))), (1, .int (vl_I f.z)), (0, .ref 196)]) (st' := [.int (2 : Int32), .int (Int32.ofInt f.i)]) rfl Kz) ?_
          refine jv_Wp.lift (fun _ Kz => jv_Ev.op jv_i295 (pc' := 278) (l' := [(2, .int (vl_I w17)), (3, .int (I 205 (76800 + f.d))), (1, .int (vl_I f.z)), (0, .ref 196)]) (st' := [.int ((Int32.ofInt f.i) - (Int32.ofInt f.i) / (2 : Int32) * (2 : Int32))]) rfl (jv_op_irem (by decide)) Kz) ?_
          refine jv_Wp.lift (fun _ Kz => jv_Ev.steps jv_i295 1 (pc' := 279) (l' := [(2, .int (vl_I w17)), (3, .int (I 205 (76800 + f.d))), (1, .int (vl_I f.z)), (0, .ref 196)]) (st' := [.int (1 : Int32), .int ((Int32.ofInt f.i) - (Int32.ofInt f.i) / (2 : Int32) * (2 : Int32))]) rfl Kz) ?_
          refine jv_Wp.cnd jv_i295 (pt := 291) (pe := 282) (p := (¬ ((Int32.ofInt f.i) - (Int32.ofInt f.i) / (2 : Int32) * (2 : Int32)) = (1 : Int32))) (q := (¬ ((Int32.ofInt f.i) - (Int32.ofInt f.i) / (2 : Int32) * (2 : Int32)) = (1 : Int32))) rfl jv_bc_ne rfl rfl Iff.rfl (fun h13 => ?_) (fun h13 => ?_)
          · refine jv_Wp.lift (fun _ Kz => jv_Ev.steps jv_i295 1 (pc' := 292) (l' := [(2, .int (vl_I w17)), (3, .int (I 205 (76800 + f.d))), (1, .int (vl_I f.z)), (0, .ref 196)]) (st' := [.int (0 : Int32)]) rfl Kz) ?_
            refine jv_Wp.of (jv_Ev.ret jv_i295 rfl rfl) ?_
            rw [hQ]
            have td0 : ¬ zd = 0 := fun z => h1 ((vr_isN (L := L) okd hd11).mp ((hd ()).trans z))
            have td7 : ¬ zd = 7 := fun z => h10 ((vr_is (L := L) 7 (by decide) okd).mp ((hd ()).trans z))
            have ts0 : zs = 0 := (hs ()).symm.trans ((vr_isN (L := L) oks hs11).mpr h11)
            have nx1 : w17 ≤ 0 := (vl_I_le (a := w17) (b := 0) (by omega) (by omega)).mp h12
            exact absurd (show False by omega) (fun z => z)
          · refine jv_Wp.lift (fun _ Kz => jv_Ev.steps jv_i295 2 (pc' := 284) (l' := [(2, .int (vl_I w17)), (3, .int (I 205 (76800 + f.d))), (1, .int (vl_I f.z)), (0, .ref 196)]) (st' := [.ref 196, .ref 196]) rfl Kz) ?_
            refine jv_Wp.lift (fun _ Kz => jv_Ev.m jv_i295 (pc' := 287) (st' := [.int (vl_I f.s), .ref 196]) (G' := (jv_H K I L R)) rfl rfl (jv_m_getI (jv_rwK hW 196 12 24 (by decide)) rfl rfl D.2.2.1) Kz) ?_
            refine jv_Wp.lift (fun _ Kz => jv_Ev.steps jv_i295 1 (pc' := 288) (l' := [(2, .int (vl_I w17)), (3, .int (I 205 (76800 + f.d))), (1, .int (vl_I f.z)), (0, .ref 196)]) (st' := [.int (vl_I f.z), .int (vl_I f.s), .ref 196]) rfl Kz) ?_
            obtain ⟨I18, L18, H18, T18, O18, F18⟩ := vq_setAny (I := I) (L := L) (R := R) (n := n) (sl := sl) f.s f.z hW hf (by omega) hz
            refine jv_Wp.lift (fun _ Kz => jv_Ev.c jv_i295 (pc' := 291) (S' := []) (G1 := (jv_H K I18 L18 R)) jv_i274 [.ref 196, .int (vl_I f.s), .int (vl_I f.z)] rfl rfl rfl rfl (jv_cal rfl (jv_H_at (jv_rwK hW 196 12 24 (by decide))) rfl rfl) rfl H18 rfl rfl Kz) ?_
            refine jv_Wp.lift (fun _ Kz => jv_Ev.steps jv_i295 1 (pc' := 292) (l' := [(2, .int (vl_I w17)), (3, .int (I 205 (76800 + f.d))), (1, .int (vl_I f.z)), (0, .ref 196)]) (st' := [.int (0 : Int32)]) rfl Kz) ?_
            refine jv_Wp.of (jv_Ev.ret jv_i295 rfl rfl) ?_
            rw [hQ]
            have td0 : ¬ zd = 0 := fun z => h1 ((vr_isN (L := L) okd hd11).mp ((hd ()).trans z))
            have td7 : ¬ zd = 7 := fun z => h10 ((vr_is (L := L) 7 (by decide) okd).mp ((hd ()).trans z))
            have ts0 : zs = 0 := (hs ()).symm.trans ((vr_isN (L := L) oks hs11).mpr h11)
            have nx1 : w17 ≤ 0 := (vl_I_le (a := w17) (b := 0) (by omega) (by omega)).mp h12
            exact absurd (show False by omega) (fun z => z)
        · refine jv_Wp.lift (fun _ Kz => jv_Ev.steps jv_i295 1 (pc' := 252) (l' := [(2, .int (vl_I w17)), (3, .int (I 205 (76800 + f.d))), (1, .int (vl_I f.z)), (0, .ref 196)]) (st' := [.int (vl_I w17)]) rfl Kz) ?_
          refine jv_Wp.of (jv_Ev.ret jv_i295 rfl rfl) ?_
          rw [hQ]
          have td0 : ¬ zd = 0 := fun z => h1 ((vr_isN (L := L) okd hd11).mp ((hd ()).trans z))
          have td7 : ¬ zd = 7 := fun z => h10 ((vr_is (L := L) 7 (by decide) okd).mp ((hd ()).trans z))
          have ts0 : zs = 0 := (hs ()).symm.trans ((vr_isN (L := L) oks hs11).mpr h11)
          have nx1 : ¬ w17 ≤ 0 := fun z => h12 ((vl_I_le (a := w17) (b := 0) (by omega) (by omega)).mpr z)
          have e : vx_atp M f (vr_A I L 1024) = (w17, (vr_A I L 1024)) := by
            by_cases c1 : zd = 0 ∨ zs = 0 ∨ (f.i = 241 ∧ z0 = 0)
            · rw [show w17 = 1 by omega]; exact vx_at1 (by rw [eD, eS, e0, hd (), hs (), h0 ()]; omega)
            · rw [show w17 = 3 by omega]; exact vx_at2 (by rw [eD, eS, e0, hd (), hs (), h0 ()]; omega) (by rw [eD, hd ()]; omega)
          exact ⟨_, _, by rw [← eQ, e], fun z => by rw [← eQ, e] at z; exact absurd (show w17 = 0 from z) (by omega), vr_fr_refl hf⟩
      · refine jv_Wp.lift (fun _ Kz => jv_Ev.steps jv_i295 2 (pc' := 189) (l' := [(2, .int (vl_I w15)), (3, .int (I 205 (76800 + f.d))), (1, .int (vl_I f.z)), (0, .ref 196)]) (st' := [.ref 196, .ref 196, .int (vl_I w15)]) rfl Kz) ?_
        refine jv_Wp.lift (fun _ Kz => jv_Ev.m jv_i295 (pc' := 192) (st' := [.int (vl_I f.s), .ref 196, .int (vl_I w15)]) (G' := (jv_H K I L R)) rfl rfl (jv_m_getI (jv_rwK hW 196 12 24 (by decide)) rfl rfl D.2.2.1) Kz) ?_
        refine jv_Wp.lift (fun _ Kz => jv_Ev.c jv_i295 (pc' := 195) (S' := [.int (I 205 (76800 + f.s)), .int (vl_I w15)]) jv_i271 [.ref 196, .int (vl_I f.s)] rfl rfl rfl rfl (jv_cal rfl (jv_H_at (jv_rwK hW 196 12 24 (by decide))) rfl rfl) rfl (vq_sortOf f.s hW (by omega)) rfl rfl Kz) ?_
        refine jv_Wp.lift (fun _ Kz => jv_Ev.steps jv_i295 1 (pc' := 196) (l' := [(2, .int (vl_I w15)), (3, .int (I 205 (76800 + f.d))), (1, .int (vl_I f.z)), (0, .ref 196)]) (st' := [.int (1 : Int32), .int (I 205 (76800 + f.s)), .int (vl_I w15)]) rfl Kz) ?_
        refine jv_Wp.cnd jv_i295 (pt := 204) (pe := 199) (p := ((I 205 (76800 + f.s)) = (1 : Int32))) (q := ((I 205 (76800 + f.s)) = (1 : Int32))) rfl jv_bc_eq rfl rfl Iff.rfl (fun h14 => ?_) (fun h14 => ?_)
        · refine jv_Wp.lift (fun _ Kz => jv_Ev.steps jv_i295 1 (pc' := 205) (l' := [(2, .int (vl_I w15)), (3, .int (I 205 (76800 + f.d))), (1, .int (vl_I f.z)), (0, .ref 196)]) (st' := [.int (0 : Int32), .int (vl_I w15)]) rfl Kz) ?_
          obtain ⟨w19, hq19⟩ : ∃ x : Nat, ∀ _ : Unit, vx_fst w15 0 = x := ⟨_, fun _ => rfl⟩
          have fq19 : (w15 = 0 → w19 = 0) ∧ (0 = 0 → w19 = w15) ∧ (w19 = w15 ∨ w19 = 0) ∧ (w15 ≠ 0 → 0 ≠ 0 → w19 ≤ w15 ∧ w19 ≤ 0) := by rw [← hq19 ()]; exact vx_fst_g w15 0
          have Hf19 := vq_first (I := I) (L := L) (K := K) (R := R) (n := n) (sl := sl) w15 0 (by omega) (by omega)
          rw [hq19 ()] at Hf19
          refine jv_Wp.lift (fun _ Kz => jv_Ev.c jv_i295 (pc' := 208) (S' := [.int (vl_I w19)]) jv_i282 [.int (vl_I w15), .int (0 : Int32)] rfl rfl rfl rfl rfl rfl Hf19 rfl rfl Kz) ?_
          refine jv_Wp.lift (fun _ Kz => jv_Ev.steps jv_i295 3 (pc' := 211) (l' := [(2, .int (vl_I w19)), (3, .int (I 205 (76800 + f.d))), (1, .int (vl_I f.z)), (0, .ref 196)]) (st' := [.ref 196, .int (vl_I w19)]) rfl Kz) ?_
          refine jv_Wp.lift (fun _ Kz => jv_Ev.m jv_i295 (pc' := 214) (st' := [.int (Int32.ofInt f.i), .int (vl_I w19)]) (G' := (jv_H K I L R)) rfl rfl (jv_m_getI (jv_rwK hW 196 12 24 (by decide)) rfl rfl (vr_dJ D)) Kz) ?_
          refine jv_Wp.lift (fun _ Kz => jv_Ev.steps jv_i295 1 (pc' := 217) (l' := [(2, .int (vl_I w19)), (3, .int (I 205 (76800 + f.d))), (1, .int (vl_I f.z)), (0, .ref 196)]) (st' := [.int (241 : Int32), .int (Int32.ofInt f.i), .int (vl_I w19)]) rfl Kz) ?_
          refine jv_Wp.cnd jv_i295 (pt := 242) (pe := 220) (p := (¬ (Int32.ofInt f.i) = (241 : Int32))) (q := (¬ (Int32.ofInt f.i) = (241 : Int32))) rfl jv_bc_ne rfl rfl Iff.rfl (fun _ => ?_) (fun hz => absurd h241 hz)
          refine jv_Wp.lift (fun _ Kz => jv_Ev.steps jv_i295 1 (pc' := 243) (l' := [(2, .int (vl_I w19)), (3, .int (I 205 (76800 + f.d))), (1, .int (vl_I f.z)), (0, .ref 196)]) (st' := [.int (0 : Int32), .int (vl_I w19)]) rfl Kz) ?_
          obtain ⟨w20, hq20⟩ : ∃ x : Nat, ∀ _ : Unit, vx_fst w19 0 = x := ⟨_, fun _ => rfl⟩
          have fq20 : (w19 = 0 → w20 = 0) ∧ (0 = 0 → w20 = w19) ∧ (w20 = w19 ∨ w20 = 0) ∧ (w19 ≠ 0 → 0 ≠ 0 → w20 ≤ w19 ∧ w20 ≤ 0) := by rw [← hq20 ()]; exact vx_fst_g w19 0
          have Hf20 := vq_first (I := I) (L := L) (K := K) (R := R) (n := n) (sl := sl) w19 0 (by omega) (by omega)
          rw [hq20 ()] at Hf20
          refine jv_Wp.lift (fun _ Kz => jv_Ev.c jv_i295 (pc' := 246) (S' := [.int (vl_I w20)]) jv_i282 [.int (vl_I w19), .int (0 : Int32)] rfl rfl rfl rfl rfl rfl Hf20 rfl rfl Kz) ?_
          refine jv_Wp.lift (fun _ Kz => jv_Ev.steps jv_i295 2 (pc' := 248) (l' := [(2, .int (vl_I w20)), (3, .int (I 205 (76800 + f.d))), (1, .int (vl_I f.z)), (0, .ref 196)]) (st' := [.int (vl_I w20)]) rfl Kz) ?_
          refine jv_Wp.cnd jv_i295 (pt := 253) (pe := 251) (p := ((vl_I w20) ≤ 0)) (q := ((vl_I w20) ≤ 0)) rfl jv_bi_le rfl rfl Iff.rfl (fun h15 => ?_) (fun h15 => ?_)
          · refine jv_Wp.lift (fun _ Kz => jv_Ev.steps jv_i295 1 (pc' := 254) (l' := [(2, .int (vl_I w20)), (3, .int (I 205 (76800 + f.d))), (1, .int (vl_I f.z)), (0, .ref 196)]) (st' := [.ref 196]) rfl Kz) ?_
            refine jv_Wp.lift (fun _ Kz => jv_Ev.m jv_i295 (pc' := 257) (st' := [.int (Int32.ofInt f.i)]) (G' := (jv_H K I L R)) rfl rfl (jv_m_getI (jv_rwK hW 196 12 24 (by decide)) rfl rfl (vr_dJ D)) Kz) ?_
            refine jv_Wp.lift (fun _ Kz => jv_Ev.steps jv_i295 1 (pc' := 260) (l' := [(2, .int (vl_I w20)), (3, .int (I 205 (76800 + f.d))), (1, .int (vl_I f.z)), (0, .ref 196)]) (st' := [.int (241 : Int32), .int (Int32.ofInt f.i)]) rfl Kz) ?_
            refine jv_Wp.cnd jv_i295 (pt := 272) (pe := 263) (p := (¬ (Int32.ofInt f.i) = (241 : Int32))) (q := (¬ (Int32.ofInt f.i) = (241 : Int32))) rfl jv_bc_ne rfl rfl Iff.rfl (fun _ => ?_) (fun hz => absurd h241 hz)
            refine jv_Wp.lift (fun _ Kz => jv_Ev.steps jv_i295 1 (pc' := 273) (l' := [(2, .int (vl_I w20)), (3, .int (I 205 (76800 + f.d))), (1, .int (vl_I f.z)), (0, .ref 196)]) (st' := [.ref 196]) rfl Kz) ?_
            refine jv_Wp.lift (fun _ Kz => jv_Ev.m jv_i295 (pc' := 276) (st' := [.int (Int32.ofInt f.i)]) (G' := (jv_H K I L R)) rfl rfl (jv_m_getI (jv_rwK hW 196 12 24 (by decide)) rfl rfl (vr_dJ D)) Kz) ?_
            refine jv_Wp.lift (fun _ Kz => jv_Ev.steps jv_i295 1 (pc' := 277) (l' := [(2, .int (vl_I w20)), (3, .int (I 205 (76800 + f.d))), (1, .int (vl_I f.z)), (0, .ref 196)]) (st' := [.int (2 : Int32), .int (Int32.ofInt f.i)]) rfl Kz) ?_
            refine jv_Wp.lift (fun _ Kz => jv_Ev.op jv_i295 (pc' := 278) (l' := [(2, .int (vl_I w20)), (3, .int (I 205 (76800 + f.d))), (1, .int (vl_I f.z)), (0, .ref 196)]) (st' := [.int ((Int32.ofInt f.i) - (Int32.ofInt f.i) / (2 : Int32) * (2 : Int32))]) rfl (jv_op_irem (by decide)) Kz) ?_
            refine jv_Wp.lift (fun _ Kz => jv_Ev.steps jv_i295 1 (pc' := 279) (l' := [(2, .int (vl_I w20)), (3, .int (I 205 (76800 + f.d))), (1, .int (vl_I f.z)), (0, .ref 196)]) (st' := [.int (1 : Int32), .int ((Int32.ofInt f.i) - (Int32.ofInt f.i) / (2 : Int32) * (2 : Int32))]) rfl Kz) ?_
            refine jv_Wp.cnd jv_i295 (pt := 291) (pe := 282) (p := (¬ ((Int32.ofInt f.i) - (Int32.ofInt f.i) / (2 : Int32) * (2 : Int32)) = (1 : Int32))) (q := (¬ ((Int32.ofInt f.i) - (Int32.ofInt f.i) / (2 : Int32) * (2 : Int32)) = (1 : Int32))) rfl jv_bc_ne rfl rfl Iff.rfl (fun h16 => ?_) (fun h16 => ?_)
            · refine jv_Wp.lift (fun _ Kz => jv_Ev.steps jv_i295 1 (pc' := 292) (l' := [(2, .int (vl_I w20)), (3, .int (I 205 (76800 + f.d))), (1, .int (vl_I f.z)), (0, .ref 196)]) (st' := [.int (0 : Int32)]) rfl Kz) ?_
              refine jv_Wp.of (jv_Ev.ret jv_i295 rfl rfl) ?_
              rw [hQ]
              have td0 : ¬ zd = 0 := fun z => h1 ((vr_isN (L := L) okd hd11).mp ((hd ()).trans z))
              have td7 : ¬ zd = 7 := fun z => h10 ((vr_is (L := L) 7 (by decide) okd).mp ((hd ()).trans z))
              have ts0 : ¬ zs = 0 := fun z => h11 ((vr_isN (L := L) oks hs11).mp ((hs ()).trans z))
              have ts1 : zs = 1 := (hs ()).symm.trans ((vr_is (L := L) 1 (by decide) oks).mpr h14)
              have nx1 : w20 ≤ 0 := (vl_I_le (a := w20) (b := 0) (by omega) (by omega)).mp h15
              exact absurd (show False by omega) (fun z => z)
            · refine jv_Wp.lift (fun _ Kz => jv_Ev.steps jv_i295 2 (pc' := 284) (l' := [(2, .int (vl_I w20)), (3, .int (I 205 (76800 + f.d))), (1, .int (vl_I f.z)), (0, .ref 196)]) (st' := [.ref 196, .ref 196]) rfl Kz) ?_
              refine jv_Wp.lift (fun _ Kz => jv_Ev.m jv_i295 (pc' := 287) (st' := [.int (vl_I f.s), .ref 196]) (G' := (jv_H K I L R)) rfl rfl (jv_m_getI (jv_rwK hW 196 12 24 (by decide)) rfl rfl D.2.2.1) Kz) ?_
              refine jv_Wp.lift (fun _ Kz => jv_Ev.steps jv_i295 1 (pc' := 288) (l' := [(2, .int (vl_I w20)), (3, .int (I 205 (76800 + f.d))), (1, .int (vl_I f.z)), (0, .ref 196)]) (st' := [.int (vl_I f.z), .int (vl_I f.s), .ref 196]) rfl Kz) ?_
              obtain ⟨I21, L21, H21, T21, O21, F21⟩ := vq_setAny (I := I) (L := L) (R := R) (n := n) (sl := sl) f.s f.z hW hf (by omega) hz
              refine jv_Wp.lift (fun _ Kz => jv_Ev.c jv_i295 (pc' := 291) (S' := []) (G1 := (jv_H K I21 L21 R)) jv_i274 [.ref 196, .int (vl_I f.s), .int (vl_I f.z)] rfl rfl rfl rfl (jv_cal rfl (jv_H_at (jv_rwK hW 196 12 24 (by decide))) rfl rfl) rfl H21 rfl rfl Kz) ?_
              refine jv_Wp.lift (fun _ Kz => jv_Ev.steps jv_i295 1 (pc' := 292) (l' := [(2, .int (vl_I w20)), (3, .int (I 205 (76800 + f.d))), (1, .int (vl_I f.z)), (0, .ref 196)]) (st' := [.int (0 : Int32)]) rfl Kz) ?_
              refine jv_Wp.of (jv_Ev.ret jv_i295 rfl rfl) ?_
              rw [hQ]
              have td0 : ¬ zd = 0 := fun z => h1 ((vr_isN (L := L) okd hd11).mp ((hd ()).trans z))
              have td7 : ¬ zd = 7 := fun z => h10 ((vr_is (L := L) 7 (by decide) okd).mp ((hd ()).trans z))
              have ts0 : ¬ zs = 0 := fun z => h11 ((vr_isN (L := L) oks hs11).mp ((hs ()).trans z))
              have ts1 : zs = 1 := (hs ()).symm.trans ((vr_is (L := L) 1 (by decide) oks).mpr h14)
              have nx1 : w20 ≤ 0 := (vl_I_le (a := w20) (b := 0) (by omega) (by omega)).mp h15
              exact absurd (show False by omega) (fun z => z)
          · refine jv_Wp.lift (fun _ Kz => jv_Ev.steps jv_i295 1 (pc' := 252) (l' := [(2, .int (vl_I w20)), (3, .int (I 205 (76800 + f.d))), (1, .int (vl_I f.z)), (0, .ref 196)]) (st' := [.int (vl_I w20)]) rfl Kz) ?_
            refine jv_Wp.of (jv_Ev.ret jv_i295 rfl rfl) ?_
            rw [hQ]
            have td0 : ¬ zd = 0 := fun z => h1 ((vr_isN (L := L) okd hd11).mp ((hd ()).trans z))
            have td7 : ¬ zd = 7 := fun z => h10 ((vr_is (L := L) 7 (by decide) okd).mp ((hd ()).trans z))
            have ts0 : ¬ zs = 0 := fun z => h11 ((vr_isN (L := L) oks hs11).mp ((hs ()).trans z))
            have ts1 : zs = 1 := (hs ()).symm.trans ((vr_is (L := L) 1 (by decide) oks).mpr h14)
            have nx1 : ¬ w20 ≤ 0 := fun z => h15 ((vl_I_le (a := w20) (b := 0) (by omega) (by omega)).mpr z)
            have e : vx_atp M f (vr_A I L 1024) = (w20, (vr_A I L 1024)) := by
              by_cases c1 : zd = 0 ∨ zs = 0 ∨ (f.i = 241 ∧ z0 = 0)
              · rw [show w20 = 1 by omega]; exact vx_at1 (by rw [eD, eS, e0, hd (), hs (), h0 ()]; omega)
              · rw [show w20 = 3 by omega]; exact vx_at2 (by rw [eD, eS, e0, hd (), hs (), h0 ()]; omega) (by rw [eD, hd ()]; omega)
            exact ⟨_, _, by rw [← eQ, e], fun z => by rw [← eQ, e] at z; exact absurd (show w20 = 0 from z) (by omega), vr_fr_refl hf⟩
        · refine jv_Wp.lift (fun _ Kz => jv_Ev.steps jv_i295 2 (pc' := 205) (l' := [(2, .int (vl_I w15)), (3, .int (I 205 (76800 + f.d))), (1, .int (vl_I f.z)), (0, .ref 196)]) (st' := [.int (6 : Int32), .int (vl_I w15)]) rfl Kz) ?_
          obtain ⟨w22, hq22⟩ : ∃ x : Nat, ∀ _ : Unit, vx_fst w15 6 = x := ⟨_, fun _ => rfl⟩
          have fq22 : (w15 = 0 → w22 = 6) ∧ (6 = 0 → w22 = w15) ∧ (w22 = w15 ∨ w22 = 6) ∧ (w15 ≠ 0 → 6 ≠ 0 → w22 ≤ w15 ∧ w22 ≤ 6) := by rw [← hq22 ()]; exact vx_fst_g w15 6
          have Hf22 := vq_first (I := I) (L := L) (K := K) (R := R) (n := n) (sl := sl) w15 6 (by omega) (by omega)
          rw [hq22 ()] at Hf22
          refine jv_Wp.lift (fun _ Kz => jv_Ev.c jv_i295 (pc' := 208) (S' := [.int (vl_I w22)]) jv_i282 [.int (vl_I w15), .int (6 : Int32)] rfl rfl rfl rfl rfl rfl Hf22 rfl rfl Kz) ?_
          refine jv_Wp.lift (fun _ Kz => jv_Ev.steps jv_i295 3 (pc' := 211) (l' := [(2, .int (vl_I w22)), (3, .int (I 205 (76800 + f.d))), (1, .int (vl_I f.z)), (0, .ref 196)]) (st' := [.ref 196, .int (vl_I w22)]) rfl Kz) ?_
          refine jv_Wp.lift (fun _ Kz => jv_Ev.m jv_i295 (pc' := 214) (st' := [.int (Int32.ofInt f.i), .int (vl_I w22)]) (G' := (jv_H K I L R)) rfl rfl (jv_m_getI (jv_rwK hW 196 12 24 (by decide)) rfl rfl (vr_dJ D)) Kz) ?_
          refine jv_Wp.lift (fun _ Kz => jv_Ev.steps jv_i295 1 (pc' := 217) (l' := [(2, .int (vl_I w22)), (3, .int (I 205 (76800 + f.d))), (1, .int (vl_I f.z)), (0, .ref 196)]) (st' := [.int (241 : Int32), .int (Int32.ofInt f.i), .int (vl_I w22)]) rfl Kz) ?_
          refine jv_Wp.cnd jv_i295 (pt := 242) (pe := 220) (p := (¬ (Int32.ofInt f.i) = (241 : Int32))) (q := (¬ (Int32.ofInt f.i) = (241 : Int32))) rfl jv_bc_ne rfl rfl Iff.rfl (fun _ => ?_) (fun hz => absurd h241 hz)
          refine jv_Wp.lift (fun _ Kz => jv_Ev.steps jv_i295 1 (pc' := 243) (l' := [(2, .int (vl_I w22)), (3, .int (I 205 (76800 + f.d))), (1, .int (vl_I f.z)), (0, .ref 196)]) (st' := [.int (0 : Int32), .int (vl_I w22)]) rfl Kz) ?_
          obtain ⟨w23, hq23⟩ : ∃ x : Nat, ∀ _ : Unit, vx_fst w22 0 = x := ⟨_, fun _ => rfl⟩
          have fq23 : (w22 = 0 → w23 = 0) ∧ (0 = 0 → w23 = w22) ∧ (w23 = w22 ∨ w23 = 0) ∧ (w22 ≠ 0 → 0 ≠ 0 → w23 ≤ w22 ∧ w23 ≤ 0) := by rw [← hq23 ()]; exact vx_fst_g w22 0
          have Hf23 := vq_first (I := I) (L := L) (K := K) (R := R) (n := n) (sl := sl) w22 0 (by omega) (by omega)
          rw [hq23 ()] at Hf23
          refine jv_Wp.lift (fun _ Kz => jv_Ev.c jv_i295 (pc' := 246) (S' := [.int (vl_I w23)]) jv_i282 [.int (vl_I w22), .int (0 : Int32)] rfl rfl rfl rfl rfl rfl Hf23 rfl rfl Kz) ?_
          refine jv_Wp.lift (fun _ Kz => jv_Ev.steps jv_i295 2 (pc' := 248) (l' := [(2, .int (vl_I w23)), (3, .int (I 205 (76800 + f.d))), (1, .int (vl_I f.z)), (0, .ref 196)]) (st' := [.int (vl_I w23)]) rfl Kz) ?_
          refine jv_Wp.cnd jv_i295 (pt := 253) (pe := 251) (p := ((vl_I w23) ≤ 0)) (q := ((vl_I w23) ≤ 0)) rfl jv_bi_le rfl rfl Iff.rfl (fun h17 => ?_) (fun h17 => ?_)
          · refine jv_Wp.lift (fun _ Kz => jv_Ev.steps jv_i295 1 (pc' := 254) (l' := [(2, .int (vl_I w23)), (3, .int (I 205 (76800 + f.d))), (1, .int (vl_I f.z)), (0, .ref 196)]) (st' := [.ref 196]) rfl Kz) ?_
            refine jv_Wp.lift (fun _ Kz => jv_Ev.m jv_i295 (pc' := 257) (st' := [.int (Int32.ofInt f.i)]) (G' := (jv_H K I L R)) rfl rfl (jv_m_getI (jv_rwK hW 196 12 24 (by decide)) rfl rfl (vr_dJ D)) Kz) ?_
            refine jv_Wp.lift (fun _ Kz => jv_Ev.steps jv_i295 1 (pc' := 260) (l' := [(2, .int (vl_I w23)), (3, .int (I 205 (76800 + f.d))), (1, .int (vl_I f.z)), (0, .ref 196)]) (st' := [.int (241 : Int32), .int (Int32.ofInt f.i)]) rfl Kz) ?_
            refine jv_Wp.cnd jv_i295 (pt := 272) (pe := 263) (p := (¬ (Int32.ofInt f.i) = (241 : Int32))) (q := (¬ (Int32.ofInt f.i) = (241 : Int32))) rfl jv_bc_ne rfl rfl Iff.rfl (fun _ => ?_) (fun hz => absurd h241 hz)
            refine jv_Wp.lift (fun _ Kz => jv_Ev.steps jv_i295 1 (pc' := 273) (l' := [(2, .int (vl_I w23)), (3, .int (I 205 (76800 + f.d))), (1, .int (vl_I f.z)), (0, .ref 196)]) (st' := [.ref 196]) rfl Kz) ?_
            refine jv_Wp.lift (fun _ Kz => jv_Ev.m jv_i295 (pc' := 276) (st' := [.int (Int32.ofInt f.i)]) (G' := (jv_H K I L R)) rfl rfl (jv_m_getI (jv_rwK hW 196 12 24 (by decide)) rfl rfl (vr_dJ D)) Kz) ?_
            refine jv_Wp.lift (fun _ Kz => jv_Ev.steps jv_i295 1 (pc' := 277) (l' := [(2, .int (vl_I w23)), (3, .int (I 205 (76800 + f.d))), (1, .int (vl_I f.z)), (0, .ref 196)]) (st' := [.int (2 : Int32), .int (Int32.ofInt f.i)]) rfl Kz) ?_
            refine jv_Wp.lift (fun _ Kz => jv_Ev.op jv_i295 (pc' := 278) (l' := [(2, .int (vl_I w23)), (3, .int (I 205 (76800 + f.d))), (1, .int (vl_I f.z)), (0, .ref 196)]) (st' := [.int ((Int32.ofInt f.i) - (Int32.ofInt f.i) / (2 : Int32) * (2 : Int32))]) rfl (jv_op_irem (by decide)) Kz) ?_
            refine jv_Wp.lift (fun _ Kz => jv_Ev.steps jv_i295 1 (pc' := 279) (l' := [(2, .int (vl_I w23)), (3, .int (I 205 (76800 + f.d))), (1, .int (vl_I f.z)), (0, .ref 196)]) (st' := [.int (1 : Int32), .int ((Int32.ofInt f.i) - (Int32.ofInt f.i) / (2 : Int32) * (2 : Int32))]) rfl Kz) ?_
            refine jv_Wp.cnd jv_i295 (pt := 291) (pe := 282) (p := (¬ ((Int32.ofInt f.i) - (Int32.ofInt f.i) / (2 : Int32) * (2 : Int32)) = (1 : Int32))) (q := (¬ ((Int32.ofInt f.i) - (Int32.ofInt f.i) / (2 : Int32) * (2 : Int32)) = (1 : Int32))) rfl jv_bc_ne rfl rfl Iff.rfl (fun h18 => ?_) (fun h18 => ?_)
            · refine jv_Wp.lift (fun _ Kz => jv_Ev.steps jv_i295 1 (pc' := 292) (l' := [(2, .int (vl_I w23)), (3, .int (I 205 (76800 + f.d))), (1, .int (vl_I f.z)), (0, .ref 196)]) (st' := [.int (0 : Int32)]) rfl Kz) ?_
              refine jv_Wp.of (jv_Ev.ret jv_i295 rfl rfl) ?_
              rw [hQ]
              have td0 : ¬ zd = 0 := fun z => h1 ((vr_isN (L := L) okd hd11).mp ((hd ()).trans z))
              have td7 : ¬ zd = 7 := fun z => h10 ((vr_is (L := L) 7 (by decide) okd).mp ((hd ()).trans z))
              have ts0 : ¬ zs = 0 := fun z => h11 ((vr_isN (L := L) oks hs11).mp ((hs ()).trans z))
              have ts1 : ¬ zs = 1 := fun z => h14 ((vr_is (L := L) 1 (by decide) oks).mp ((hs ()).trans z))
              have nx1 : w23 ≤ 0 := (vl_I_le (a := w23) (b := 0) (by omega) (by omega)).mp h17
              exact absurd (show False by omega) (fun z => z)
            · refine jv_Wp.lift (fun _ Kz => jv_Ev.steps jv_i295 2 (pc' := 284) (l' := [(2, .int (vl_I w23)), (3, .int (I 205 (76800 + f.d))), (1, .int (vl_I f.z)), (0, .ref 196)]) (st' := [.ref 196, .ref 196]) rfl Kz) ?_
              refine jv_Wp.lift (fun _ Kz => jv_Ev.m jv_i295 (pc' := 287) (st' := [.int (vl_I f.s), .ref 196]) (G' := (jv_H K I L R)) rfl rfl (jv_m_getI (jv_rwK hW 196 12 24 (by decide)) rfl rfl D.2.2.1) Kz) ?_
              refine jv_Wp.lift (fun _ Kz => jv_Ev.steps jv_i295 1 (pc' := 288) (l' := [(2, .int (vl_I w23)), (3, .int (I 205 (76800 + f.d))), (1, .int (vl_I f.z)), (0, .ref 196)]) (st' := [.int (vl_I f.z), .int (vl_I f.s), .ref 196]) rfl Kz) ?_
              obtain ⟨I24, L24, H24, T24, O24, F24⟩ := vq_setAny (I := I) (L := L) (R := R) (n := n) (sl := sl) f.s f.z hW hf (by omega) hz
              refine jv_Wp.lift (fun _ Kz => jv_Ev.c jv_i295 (pc' := 291) (S' := []) (G1 := (jv_H K I24 L24 R)) jv_i274 [.ref 196, .int (vl_I f.s), .int (vl_I f.z)] rfl rfl rfl rfl (jv_cal rfl (jv_H_at (jv_rwK hW 196 12 24 (by decide))) rfl rfl) rfl H24 rfl rfl Kz) ?_
              refine jv_Wp.lift (fun _ Kz => jv_Ev.steps jv_i295 1 (pc' := 292) (l' := [(2, .int (vl_I w23)), (3, .int (I 205 (76800 + f.d))), (1, .int (vl_I f.z)), (0, .ref 196)]) (st' := [.int (0 : Int32)]) rfl Kz) ?_
              refine jv_Wp.of (jv_Ev.ret jv_i295 rfl rfl) ?_
              rw [hQ]
              have td0 : ¬ zd = 0 := fun z => h1 ((vr_isN (L := L) okd hd11).mp ((hd ()).trans z))
              have td7 : ¬ zd = 7 := fun z => h10 ((vr_is (L := L) 7 (by decide) okd).mp ((hd ()).trans z))
              have ts0 : ¬ zs = 0 := fun z => h11 ((vr_isN (L := L) oks hs11).mp ((hs ()).trans z))
              have ts1 : ¬ zs = 1 := fun z => h14 ((vr_is (L := L) 1 (by decide) oks).mp ((hs ()).trans z))
              have nx1 : w23 ≤ 0 := (vl_I_le (a := w23) (b := 0) (by omega) (by omega)).mp h17
              exact absurd (show False by omega) (fun z => z)
          · refine jv_Wp.lift (fun _ Kz => jv_Ev.steps jv_i295 1 (pc' := 252) (l' := [(2, .int (vl_I w23)), (3, .int (I 205 (76800 + f.d))), (1, .int (vl_I f.z)), (0, .ref 196)]) (st' := [.int (vl_I w23)]) rfl Kz) ?_
            refine jv_Wp.of (jv_Ev.ret jv_i295 rfl rfl) ?_
            rw [hQ]
            have td0 : ¬ zd = 0 := fun z => h1 ((vr_isN (L := L) okd hd11).mp ((hd ()).trans z))
            have td7 : ¬ zd = 7 := fun z => h10 ((vr_is (L := L) 7 (by decide) okd).mp ((hd ()).trans z))
            have ts0 : ¬ zs = 0 := fun z => h11 ((vr_isN (L := L) oks hs11).mp ((hs ()).trans z))
            have ts1 : ¬ zs = 1 := fun z => h14 ((vr_is (L := L) 1 (by decide) oks).mp ((hs ()).trans z))
            have nx1 : ¬ w23 ≤ 0 := fun z => h17 ((vl_I_le (a := w23) (b := 0) (by omega) (by omega)).mpr z)
            have e : vx_atp M f (vr_A I L 1024) = (w23, (vr_A I L 1024)) := by
              by_cases c1 : zd = 0 ∨ zs = 0 ∨ (f.i = 241 ∧ z0 = 0)
              · rw [show w23 = 1 by omega]; exact vx_at1 (by rw [eD, eS, e0, hd (), hs (), h0 ()]; omega)
              · rw [show w23 = 3 by omega]; exact vx_at2 (by rw [eD, eS, e0, hd (), hs (), h0 ()]; omega) (by rw [eD, hd ()]; omega)
            exact ⟨_, _, by rw [← eQ, e], fun z => by rw [← eQ, e] at z; exact absurd (show w23 = 0 from z) (by omega), vr_fr_refl hf⟩
    · refine jv_Wp.lift (fun _ Kz => jv_Ev.steps jv_i295 2 (pc' := 74) (l' := [(3, .int (I 205 (76800 + f.d))), (2, .int (vl_I w4)), (1, .int (vl_I f.z)), (0, .ref 196)]) (st' := [.int (0 : Int32), .int (vl_I w4)]) rfl Kz) ?_
      obtain ⟨w25, hq25⟩ : ∃ x : Nat, ∀ _ : Unit, vx_fst w4 0 = x := ⟨_, fun _ => rfl⟩
      have fq25 : (w4 = 0 → w25 = 0) ∧ (0 = 0 → w25 = w4) ∧ (w25 = w4 ∨ w25 = 0) ∧ (w4 ≠ 0 → 0 ≠ 0 → w25 ≤ w4 ∧ w25 ≤ 0) := by rw [← hq25 ()]; exact vx_fst_g w4 0
      have Hf25 := vq_first (I := I) (L := L) (K := K) (R := R) (n := n) (sl := sl) w4 0 (by omega) (by omega)
      rw [hq25 ()] at Hf25
      refine jv_Wp.lift (fun _ Kz => jv_Ev.c jv_i295 (pc' := 77) (S' := [.int (vl_I w25)]) jv_i282 [.int (vl_I w4), .int (0 : Int32)] rfl rfl rfl rfl rfl rfl Hf25 rfl rfl Kz) ?_
      refine jv_Wp.lift (fun _ Kz => jv_Ev.steps jv_i295 3 (pc' := 81) (l' := [(2, .int (vl_I w25)), (3, .int (I 205 (76800 + f.d))), (1, .int (vl_I f.z)), (0, .ref 196)]) (st' := [.int (7 : Int32), .int (I 205 (76800 + f.d))]) rfl Kz) ?_
      refine jv_Wp.cnd jv_i295 (pt := 175) (pe := 84) (p := (¬ (I 205 (76800 + f.d)) = (7 : Int32))) (q := (¬ (I 205 (76800 + f.d)) = (7 : Int32))) rfl jv_bc_ne rfl rfl Iff.rfl (fun hz => absurd hz (fun z => z (Classical.not_not.mp h10))) (fun _ => ?_)
      refine jv_Wp.lift (fun _ Kz => jv_Ev.steps jv_i295 2 (pc' := 88) (l' := [(2, .int (vl_I w25)), (3, .int (I 205 (76800 + f.d))), (1, .int (vl_I f.z)), (0, .ref 196)]) (st' := [.ref 196, .int (1024 : Int32)]) rfl Kz) ?_
      refine jv_Wp.lift (fun _ Kz => jv_Ev.m jv_i295 (pc' := 91) (st' := [.int (vl_I f.d), .int (1024 : Int32)]) (G' := (jv_H K I L R)) rfl rfl (jv_m_getI (jv_rwK hW 196 12 24 (by decide)) rfl rfl D.2.1) Kz) ?_
      refine jv_Wp.lift (fun _ Kz => jv_Ev.c jv_i295 (pc' := 94) (S' := [.int (vl_I (8 + (76800 + f.d)))]) jv_i254 [.int (1024 : Int32), .int (vl_I f.d)] rfl rfl rfl rfl rfl rfl (vq_row 1024 f.d) rfl rfl Kz) ?_
      refine jv_Wp.lift (fun _ Kz => jv_Ev.steps jv_i295 7 (pc' := 103) (l' := [(5, .long ((vl_I f.z).toInt64 - (1 : Int64))), (4, .int (vl_I (8 + (76800 + f.d)))), (2, .int (vl_I w25)), (3, .int (I 205 (76800 + f.d))), (1, .int (vl_I f.z)), (0, .ref 196)]) (st' := [.ref 196]) rfl Kz) ?_
      refine jv_Wp.lift (fun _ Kz => jv_Ev.m jv_i295 (pc' := 106) (st' := [.ref 208]) (G' := (jv_H K I L R)) rfl rfl (jv_m_getR (jv_rwK hW 196 12 24 (by decide)) rfl rfl (jv_rwR hW 196 16 208 (by decide))) Kz) ?_
      refine jv_Wp.lift (fun _ Kz => jv_Ev.m jv_i295 (pc' := 109) (st' := [.ref 210]) (G' := (jv_H K I L R)) rfl rfl (jv_m_getR (jv_rwK hW 208 11 7 (by decide)) rfl rfl (jv_rwR hW 208 1 210 (by decide))) Kz) ?_
      refine jv_Wp.lift (fun _ Kz => jv_Ev.steps jv_i295 1 (pc' := 111) (l' := [(5, .long ((vl_I f.z).toInt64 - (1 : Int64))), (4, .int (vl_I (8 + (76800 + f.d)))), (2, .int (vl_I w25)), (3, .int (I 205 (76800 + f.d))), (1, .int (vl_I f.z)), (0, .ref 196)]) (st' := [.int (vl_I (8 + (76800 + f.d))), .ref 210]) rfl Kz) ?_
      refine jv_Wp.lift (fun _ Kz => jv_Ev.m jv_i295 (pc' := 112) (st' := [.long (L 210 (8 + (76800 + f.d)))]) (G' := (jv_H K I L R)) rfl rfl (jv_m_laldv (jv_rwK hW 210 103 77200 (by decide)) rfl (vl_I_ix (by omega) (by decide)) rfl ((congrArg (L 210) (vl_I_nat (by omega))).trans rfl)) Kz) ?_
      refine jv_Wp.lift (fun _ Kz => jv_Ev.steps jv_i295 4 (pc' := 117) (l' := [(5, .long ((vl_I f.z).toInt64 - (1 : Int64))), (4, .int (vl_I (8 + (76800 + f.d)))), (2, .int (vl_I w25)), (3, .int (I 205 (76800 + f.d))), (1, .int (vl_I f.z)), (0, .ref 196)]) (st' := [.int (lg_cmp ((L 210 (8 + (76800 + f.d))) &&& ((vl_I f.z).toInt64 - (1 : Int64))) (0 : Int64))]) rfl Kz) ?_
      refine jv_Wp.cnd jv_i295 (pt := 148) (pe := 120) (p := (¬ (lg_cmp ((L 210 (8 + (76800 + f.d))) &&& ((vl_I f.z).toInt64 - (1 : Int64))) (0 : Int64)) = 0)) (q := (¬ ((L 210 (8 + (76800 + f.d))) &&& ((vl_I f.z).toInt64 - (1 : Int64))) = (0 : Int64))) rfl jv_bi_ne rfl rfl (not_congr (lg_cmp_eq ((L 210 (8 + (76800 + f.d))) &&& ((vl_I f.z).toInt64 - (1 : Int64))) (0 : Int64))) (fun h19 => ?_) (fun h19 => ?_)
      · refine jv_Wp.lift (fun _ Kz => jv_Ev.steps jv_i295 4 (pc' := 154) (l' := [(7, .int (0 : Int32)), (5, .long ((vl_I f.z).toInt64 - (1 : Int64))), (4, .int (vl_I (8 + (76800 + f.d)))), (2, .int (vl_I w25)), (3, .int (I 205 (76800 + f.d))), (1, .int (vl_I f.z)), (0, .ref 196)]) (st' := [.int (0 : Int32), .int (vl_I w25)]) rfl Kz) ?_
        refine jv_Wp.lift (fun _ Kz => jv_Ev.br jv_i295 (pc' := 170) (st' := [.int (vl_I w25)]) rfl (by rfl) Kz) ?_
        refine jv_Wp.lift (fun _ Kz => jv_Ev.steps jv_i295 1 (pc' := 171) (l' := [(7, .int (0 : Int32)), (5, .long ((vl_I f.z).toInt64 - (1 : Int64))), (4, .int (vl_I (8 + (76800 + f.d)))), (2, .int (vl_I w25)), (3, .int (I 205 (76800 + f.d))), (1, .int (vl_I f.z)), (0, .ref 196)]) (st' := [.int (4 : Int32), .int (vl_I w25)]) rfl Kz) ?_
        obtain ⟨w26, hq26⟩ : ∃ x : Nat, ∀ _ : Unit, vx_fst w25 4 = x := ⟨_, fun _ => rfl⟩
        have fq26 : (w25 = 0 → w26 = 4) ∧ (4 = 0 → w26 = w25) ∧ (w26 = w25 ∨ w26 = 4) ∧ (w25 ≠ 0 → 4 ≠ 0 → w26 ≤ w25 ∧ w26 ≤ 4) := by rw [← hq26 ()]; exact vx_fst_g w25 4
        have Hf26 := vq_first (I := I) (L := L) (K := K) (R := R) (n := n) (sl := sl) w25 4 (by omega) (by omega)
        rw [hq26 ()] at Hf26
        refine jv_Wp.lift (fun _ Kz => jv_Ev.c jv_i295 (pc' := 174) (S' := [.int (vl_I w26)]) jv_i282 [.int (vl_I w25), .int (4 : Int32)] rfl rfl rfl rfl rfl rfl Hf26 rfl rfl Kz) ?_
        refine jv_Wp.lift (fun _ Kz => jv_Ev.steps jv_i295 4 (pc' := 178) (l' := [(2, .int (vl_I w26)), (7, .int (0 : Int32)), (5, .long ((vl_I f.z).toInt64 - (1 : Int64))), (4, .int (vl_I (8 + (76800 + f.d)))), (3, .int (I 205 (76800 + f.d))), (1, .int (vl_I f.z)), (0, .ref 196)]) (st' := [.ref 196, .ref 196, .int (vl_I w26)]) rfl Kz) ?_
        refine jv_Wp.lift (fun _ Kz => jv_Ev.m jv_i295 (pc' := 181) (st' := [.int (vl_I f.s), .ref 196, .int (vl_I w26)]) (G' := (jv_H K I L R)) rfl rfl (jv_m_getI (jv_rwK hW 196 12 24 (by decide)) rfl rfl D.2.2.1) Kz) ?_
        refine jv_Wp.lift (fun _ Kz => jv_Ev.c jv_i295 (pc' := 184) (S' := [.int (I 205 (76800 + f.s)), .int (vl_I w26)]) jv_i271 [.ref 196, .int (vl_I f.s)] rfl rfl rfl rfl (jv_cal rfl (jv_H_at (jv_rwK hW 196 12 24 (by decide))) rfl rfl) rfl (vq_sortOf f.s hW (by omega)) rfl rfl Kz) ?_
        refine jv_Wp.cnd jv_i295 (pt := 204) (pe := 187) (p := ((I 205 (76800 + f.s)) = 0)) (q := ((I 205 (76800 + f.s)) = 0)) rfl jv_bi_eq rfl rfl Iff.rfl (fun h20 => ?_) (fun h20 => ?_)
        · refine jv_Wp.lift (fun _ Kz => jv_Ev.steps jv_i295 1 (pc' := 205) (l' := [(2, .int (vl_I w26)), (7, .int (0 : Int32)), (5, .long ((vl_I f.z).toInt64 - (1 : Int64))), (4, .int (vl_I (8 + (76800 + f.d)))), (3, .int (I 205 (76800 + f.d))), (1, .int (vl_I f.z)), (0, .ref 196)]) (st' := [.int (0 : Int32), .int (vl_I w26)]) rfl Kz) ?_
          obtain ⟨w27, hq27⟩ : ∃ x : Nat, ∀ _ : Unit, vx_fst w26 0 = x := ⟨_, fun _ => rfl⟩
          have fq27 : (w26 = 0 → w27 = 0) ∧ (0 = 0 → w27 = w26) ∧ (w27 = w26 ∨ w27 = 0) ∧ (w26 ≠ 0 → 0 ≠ 0 → w27 ≤ w26 ∧ w27 ≤ 0) := by rw [← hq27 ()]; exact vx_fst_g w26 0
          have Hf27 := vq_first (I := I) (L := L) (K := K) (R := R) (n := n) (sl := sl) w26 0 (by omega) (by omega)
          rw [hq27 ()] at Hf27
          refine jv_Wp.lift (fun _ Kz => jv_Ev.c jv_i295 (pc' := 208) (S' := [.int (vl_I w27)]) jv_i282 [.int (vl_I w26), .int (0 : Int32)] rfl rfl rfl rfl rfl rfl Hf27 rfl rfl Kz) ?_
          refine jv_Wp.lift (fun _ Kz => jv_Ev.steps jv_i295 3 (pc' := 211) (l' := [(2, .int (vl_I w27)), (7, .int (0 : Int32)), (5, .long ((vl_I f.z).toInt64 - (1 : Int64))), (4, .int (vl_I (8 + (76800 + f.d)))), (3, .int (I 205 (76800 + f.d))), (1, .int (vl_I f.z)), (0, .ref 196)]) (st' := [.ref 196, .int (vl_I w27)]) rfl Kz) ?_
          refine jv_Wp.lift (fun _ Kz => jv_Ev.m jv_i295 (pc' := 214) (st' := [.int (Int32.ofInt f.i), .int (vl_I w27)]) (G' := (jv_H K I L R)) rfl rfl (jv_m_getI (jv_rwK hW 196 12 24 (by decide)) rfl rfl (vr_dJ D)) Kz) ?_
          refine jv_Wp.lift (fun _ Kz => jv_Ev.steps jv_i295 1 (pc' := 217) (l' := [(2, .int (vl_I w27)), (7, .int (0 : Int32)), (5, .long ((vl_I f.z).toInt64 - (1 : Int64))), (4, .int (vl_I (8 + (76800 + f.d)))), (3, .int (I 205 (76800 + f.d))), (1, .int (vl_I f.z)), (0, .ref 196)]) (st' := [.int (241 : Int32), .int (Int32.ofInt f.i), .int (vl_I w27)]) rfl Kz) ?_
          refine jv_Wp.cnd jv_i295 (pt := 242) (pe := 220) (p := (¬ (Int32.ofInt f.i) = (241 : Int32))) (q := (¬ (Int32.ofInt f.i) = (241 : Int32))) rfl jv_bc_ne rfl rfl Iff.rfl (fun _ => ?_) (fun hz => absurd h241 hz)
          refine jv_Wp.lift (fun _ Kz => jv_Ev.steps jv_i295 1 (pc' := 243) (l' := [(2, .int (vl_I w27)), (7, .int (0 : Int32)), (5, .long ((vl_I f.z).toInt64 - (1 : Int64))), (4, .int (vl_I (8 + (76800 + f.d)))), (3, .int (I 205 (76800 + f.d))), (1, .int (vl_I f.z)), (0, .ref 196)]) (st' := [.int (0 : Int32), .int (vl_I w27)]) rfl Kz) ?_
          obtain ⟨w28, hq28⟩ : ∃ x : Nat, ∀ _ : Unit, vx_fst w27 0 = x := ⟨_, fun _ => rfl⟩
          have fq28 : (w27 = 0 → w28 = 0) ∧ (0 = 0 → w28 = w27) ∧ (w28 = w27 ∨ w28 = 0) ∧ (w27 ≠ 0 → 0 ≠ 0 → w28 ≤ w27 ∧ w28 ≤ 0) := by rw [← hq28 ()]; exact vx_fst_g w27 0
          have Hf28 := vq_first (I := I) (L := L) (K := K) (R := R) (n := n) (sl := sl) w27 0 (by omega) (by omega)
          rw [hq28 ()] at Hf28
          refine jv_Wp.lift (fun _ Kz => jv_Ev.c jv_i295 (pc' := 246) (S' := [.int (vl_I w28)]) jv_i282 [.int (vl_I w27), .int (0 : Int32)] rfl rfl rfl rfl rfl rfl Hf28 rfl rfl Kz) ?_
          refine jv_Wp.lift (fun _ Kz => jv_Ev.steps jv_i295 2 (pc' := 248) (l' := [(2, .int (vl_I w28)), (7, .int (0 : Int32)), (5, .long ((vl_I f.z).toInt64 - (1 : Int64))), (4, .int (vl_I (8 + (76800 + f.d)))), (3, .int (I 205 (76800 + f.d))), (1, .int (vl_I f.z)), (0, .ref 196)]) (st' := [.int (vl_I w28)]) rfl Kz) ?_
          refine jv_Wp.cnd jv_i295 (pt := 253) (pe := 251) (p := ((vl_I w28) ≤ 0)) (q := ((vl_I w28) ≤ 0)) rfl jv_bi_le rfl rfl Iff.rfl (fun h21 => ?_) (fun h21 => ?_)
          · refine jv_Wp.lift (fun _ Kz => jv_Ev.steps jv_i295 1 (pc' := 254) (l' := [(2, .int (vl_I w28)), (7, .int (0 : Int32)), (5, .long ((vl_I f.z).toInt64 - (1 : Int64))), (4, .int (vl_I (8 + (76800 + f.d)))), (3, .int (I 205 (76800 + f.d))), (1, .int (vl_I f.z)), (0, .ref 196)]) (st' := [.ref 196]) rfl Kz) ?_
            refine jv_Wp.lift (fun _ Kz => jv_Ev.m jv_i295 (pc' := 257) (st' := [.int (Int32.ofInt f.i)]) (G' := (jv_H K I L R)) rfl rfl (jv_m_getI (jv_rwK hW 196 12 24 (by decide)) rfl rfl (vr_dJ D)) Kz) ?_
            refine jv_Wp.lift (fun _ Kz => jv_Ev.steps jv_i295 1 (pc' := 260) (l' := [(2, .int (vl_I w28)), (7, .int (0 : Int32)), (5, .long ((vl_I f.z).toInt64 - (1 : Int64))), (4, .int (vl_I (8 + (76800 + f.d)))), (3, .int (I 205 (76800 + f.d))), (1, .int (vl_I f.z)), (0, .ref 196)]) (st' := [.int (241 : Int32), .int (Int32.ofInt f.i)]) rfl Kz) ?_
            refine jv_Wp.cnd jv_i295 (pt := 272) (pe := 263) (p := (¬ (Int32.ofInt f.i) = (241 : Int32))) (q := (¬ (Int32.ofInt f.i) = (241 : Int32))) rfl jv_bc_ne rfl rfl Iff.rfl (fun _ => ?_) (fun hz => absurd h241 hz)
            refine jv_Wp.lift (fun _ Kz => jv_Ev.steps jv_i295 1 (pc' := 273) (l' := [(2, .int (vl_I w28)), (7, .int (0 : Int32)), (5, .long ((vl_I f.z).toInt64 - (1 : Int64))), (4, .int (vl_I (8 + (76800 + f.d)))), (3, .int (I 205 (76800 + f.d))), (1, .int (vl_I f.z)), (0, .ref 196)]) (st' := [.ref 196]) rfl Kz) ?_
            refine jv_Wp.lift (fun _ Kz => jv_Ev.m jv_i295 (pc' := 276) (st' := [.int (Int32.ofInt f.i)]) (G' := (jv_H K I L R)) rfl rfl (jv_m_getI (jv_rwK hW 196 12 24 (by decide)) rfl rfl (vr_dJ D)) Kz) ?_
            refine jv_Wp.lift (fun _ Kz => jv_Ev.steps jv_i295 1 (pc' := 277) (l' := [(2, .int (vl_I w28)), (7, .int (0 : Int32)), (5, .long ((vl_I f.z).toInt64 - (1 : Int64))), (4, .int (vl_I (8 + (76800 + f.d)))), (3, .int (I 205 (76800 + f.d))), (1, .int (vl_I f.z)), (0, .ref 196)]) (st' := [.int (2 : Int32), .int (Int32.ofInt f.i)]) rfl Kz) ?_
            refine jv_Wp.lift (fun _ Kz => jv_Ev.op jv_i295 (pc' := 278) (l' := [(2, .int (vl_I w28)), (7, .int (0 : Int32)), (5, .long ((vl_I f.z).toInt64 - (1 : Int64))), (4, .int (vl_I (8 + (76800 + f.d)))), (3, .int (I 205 (76800 + f.d))), (1, .int (vl_I f.z)), (0, .ref 196)]) (st' := [.int ((Int32.ofInt f.i) - (Int32.ofInt f.i) / (2 : Int32) * (2 : Int32))]) rfl (jv_op_irem (by decide)) Kz) ?_
            refine jv_Wp.lift (fun _ Kz => jv_Ev.steps jv_i295 1 (pc' := 279) (l' := [(2, .int (vl_I w28)), (7, .int (0 : Int32)), (5, .long ((vl_I f.z).toInt64 - (1 : Int64))), (4, .int (vl_I (8 + (76800 + f.d)))), (3, .int (I 205 (76800 + f.d))), (1, .int (vl_I f.z)), (0, .ref 196)]) (st' := [.int (1 : Int32), .int ((Int32.ofInt f.i) - (Int32.ofInt f.i) / (2 : Int32) * (2 : Int32))]) rfl Kz) ?_
            refine jv_Wp.cnd jv_i295 (pt := 291) (pe := 282) (p := (¬ ((Int32.ofInt f.i) - (Int32.ofInt f.i) / (2 : Int32) * (2 : Int32)) = (1 : Int32))) (q := (¬ ((Int32.ofInt f.i) - (Int32.ofInt f.i) / (2 : Int32) * (2 : Int32)) = (1 : Int32))) rfl jv_bc_ne rfl rfl Iff.rfl (fun h22 => ?_) (fun h22 => ?_)
            · refine jv_Wp.lift (fun _ Kz => jv_Ev.steps jv_i295 1 (pc' := 292) (l' := [(2, .int (vl_I w28)), (7, .int (0 : Int32)), (5, .long ((vl_I f.z).toInt64 - (1 : Int64))), (4, .int (vl_I (8 + (76800 + f.d)))), (3, .int (I 205 (76800 + f.d))), (1, .int (vl_I f.z)), (0, .ref 196)]) (st' := [.int (0 : Int32)]) rfl Kz) ?_
              refine jv_Wp.of (jv_Ev.ret jv_i295 rfl rfl) ?_
              rw [hQ]
              have td0 : ¬ zd = 0 := fun z => h1 ((vr_isN (L := L) okd hd11).mp ((hd ()).trans z))
              have td7 : zd = 7 := (hd ()).symm.trans ((vr_is (L := L) 7 (by decide) okd).mpr (Classical.not_not.mp h10))
              have ts0 : zs = 0 := (hs ()).symm.trans ((vr_isN (L := L) oks hs11).mpr h20)
              have nx1 : w28 ≤ 0 := (vl_I_le (a := w28) (b := 0) (by omega) (by omega)).mp h21
              have ev : vx_even (vr_T I L (76800 + f.d)).val f.o f.z = false := by rw [vr_valv (by rw [(vr_is (L := L) 7 (by decide) okd).mp ((hd ()).trans (by omega))]; rfl), ← vr_dO D, vx_even_r hz]; exact (by rw [decide_eq_false h19]; rfl)
              have r7 := vx_r7' (M := M) (A := (vr_A I L 1024)) (o := f.o) (z := f.z) (w := true) ((hd ()).trans (show zd = 7 by omega))
              rw [hrr ()] at r7
              exact absurd (show False by omega) (fun z => z)
            · refine jv_Wp.lift (fun _ Kz => jv_Ev.steps jv_i295 2 (pc' := 284) (l' := [(2, .int (vl_I w28)), (7, .int (0 : Int32)), (5, .long ((vl_I f.z).toInt64 - (1 : Int64))), (4, .int (vl_I (8 + (76800 + f.d)))), (3, .int (I 205 (76800 + f.d))), (1, .int (vl_I f.z)), (0, .ref 196)]) (st' := [.ref 196, .ref 196]) rfl Kz) ?_
              refine jv_Wp.lift (fun _ Kz => jv_Ev.m jv_i295 (pc' := 287) (st' := [.int (vl_I f.s), .ref 196]) (G' := (jv_H K I L R)) rfl rfl (jv_m_getI (jv_rwK hW 196 12 24 (by decide)) rfl rfl D.2.2.1) Kz) ?_
              refine jv_Wp.lift (fun _ Kz => jv_Ev.steps jv_i295 1 (pc' := 288) (l' := [(2, .int (vl_I w28)), (7, .int (0 : Int32)), (5, .long ((vl_I f.z).toInt64 - (1 : Int64))), (4, .int (vl_I (8 + (76800 + f.d)))), (3, .int (I 205 (76800 + f.d))), (1, .int (vl_I f.z)), (0, .ref 196)]) (st' := [.int (vl_I f.z), .int (vl_I f.s), .ref 196]) rfl Kz) ?_
              obtain ⟨I29, L29, H29, T29, O29, F29⟩ := vq_setAny (I := I) (L := L) (R := R) (n := n) (sl := sl) f.s f.z hW hf (by omega) hz
              refine jv_Wp.lift (fun _ Kz => jv_Ev.c jv_i295 (pc' := 291) (S' := []) (G1 := (jv_H K I29 L29 R)) jv_i274 [.ref 196, .int (vl_I f.s), .int (vl_I f.z)] rfl rfl rfl rfl (jv_cal rfl (jv_H_at (jv_rwK hW 196 12 24 (by decide))) rfl rfl) rfl H29 rfl rfl Kz) ?_
              refine jv_Wp.lift (fun _ Kz => jv_Ev.steps jv_i295 1 (pc' := 292) (l' := [(2, .int (vl_I w28)), (7, .int (0 : Int32)), (5, .long ((vl_I f.z).toInt64 - (1 : Int64))), (4, .int (vl_I (8 + (76800 + f.d)))), (3, .int (I 205 (76800 + f.d))), (1, .int (vl_I f.z)), (0, .ref 196)]) (st' := [.int (0 : Int32)]) rfl Kz) ?_
              refine jv_Wp.of (jv_Ev.ret jv_i295 rfl rfl) ?_
              rw [hQ]
              have td0 : ¬ zd = 0 := fun z => h1 ((vr_isN (L := L) okd hd11).mp ((hd ()).trans z))
              have td7 : zd = 7 := (hd ()).symm.trans ((vr_is (L := L) 7 (by decide) okd).mpr (Classical.not_not.mp h10))
              have ts0 : zs = 0 := (hs ()).symm.trans ((vr_isN (L := L) oks hs11).mpr h20)
              have nx1 : w28 ≤ 0 := (vl_I_le (a := w28) (b := 0) (by omega) (by omega)).mp h21
              have ev : vx_even (vr_T I L (76800 + f.d)).val f.o f.z = false := by rw [vr_valv (by rw [(vr_is (L := L) 7 (by decide) okd).mp ((hd ()).trans (by omega))]; rfl), ← vr_dO D, vx_even_r hz]; exact (by rw [decide_eq_false h19]; rfl)
              have r7 := vx_r7' (M := M) (A := (vr_A I L 1024)) (o := f.o) (z := f.z) (w := true) ((hd ()).trans (show zd = 7 by omega))
              rw [hrr ()] at r7
              exact absurd (show False by omega) (fun z => z)
          · refine jv_Wp.lift (fun _ Kz => jv_Ev.steps jv_i295 1 (pc' := 252) (l' := [(2, .int (vl_I w28)), (7, .int (0 : Int32)), (5, .long ((vl_I f.z).toInt64 - (1 : Int64))), (4, .int (vl_I (8 + (76800 + f.d)))), (3, .int (I 205 (76800 + f.d))), (1, .int (vl_I f.z)), (0, .ref 196)]) (st' := [.int (vl_I w28)]) rfl Kz) ?_
            refine jv_Wp.of (jv_Ev.ret jv_i295 rfl rfl) ?_
            rw [hQ]
            have td0 : ¬ zd = 0 := fun z => h1 ((vr_isN (L := L) okd hd11).mp ((hd ()).trans z))
            have td7 : zd = 7 := (hd ()).symm.trans ((vr_is (L := L) 7 (by decide) okd).mpr (Classical.not_not.mp h10))
            have ts0 : zs = 0 := (hs ()).symm.trans ((vr_isN (L := L) oks hs11).mpr h20)
            have nx1 : ¬ w28 ≤ 0 := fun z => h21 ((vl_I_le (a := w28) (b := 0) (by omega) (by omega)).mpr z)
            have ev : vx_even (vr_T I L (76800 + f.d)).val f.o f.z = false := by rw [vr_valv (by rw [(vr_is (L := L) 7 (by decide) okd).mp ((hd ()).trans (by omega))]; rfl), ← vr_dO D, vx_even_r hz]; exact (by rw [decide_eq_false h19]; rfl)
            have r7 := vx_r7' (M := M) (A := (vr_A I L 1024)) (o := f.o) (z := f.z) (w := true) ((hd ()).trans (show zd = 7 by omega))
            rw [hrr ()] at r7
            have e : vx_atp M f (vr_A I L 1024) = (w28, (vr_A I L 1024)) := by
              by_cases c1 : zd = 0 ∨ zs = 0 ∨ (f.i = 241 ∧ z0 = 0)
              · rw [show w28 = 1 by omega]; exact vx_at1 (by rw [eD, eS, e0, hd (), hs (), h0 ()]; omega)
              · rw [show w28 = 4 by omega]; exact vx_at3 (by rw [eD, eS, e0, hd (), hs (), h0 ()]; omega) (by rw [eD, hd ()]; omega) (Or.inl (by rw [eD]; exact ev))
            exact ⟨_, _, by rw [← eQ, e], fun z => by rw [← eQ, e] at z; exact absurd (show w28 = 0 from z) (by omega), vr_fr_refl hf⟩
        · refine jv_Wp.lift (fun _ Kz => jv_Ev.steps jv_i295 2 (pc' := 189) (l' := [(2, .int (vl_I w26)), (7, .int (0 : Int32)), (5, .long ((vl_I f.z).toInt64 - (1 : Int64))), (4, .int (vl_I (8 + (76800 + f.d)))), (3, .int (I 205 (76800 + f.d))), (1, .int (vl_I f.z)), (0, .ref 196)]) (st' := [.ref 196, .ref 196, .int (vl_I w26)]) rfl Kz) ?_
          refine jv_Wp.lift (fun _ Kz => jv_Ev.m jv_i295 (pc' := 192) (st' := [.int (vl_I f.s), .ref 196, .int (vl_I w26)]) (G' := (jv_H K I L R)) rfl rfl (jv_m_getI (jv_rwK hW 196 12 24 (by decide)) rfl rfl D.2.2.1) Kz) ?_
          refine jv_Wp.lift (fun _ Kz => jv_Ev.c jv_i295 (pc' := 195) (S' := [.int (I 205 (76800 + f.s)), .int (vl_I w26)]) jv_i271 [.ref 196, .int (vl_I f.s)] rfl rfl rfl rfl (jv_cal rfl (jv_H_at (jv_rwK hW 196 12 24 (by decide))) rfl rfl) rfl (vq_sortOf f.s hW (by omega)) rfl rfl Kz) ?_
          refine jv_Wp.lift (fun _ Kz => jv_Ev.steps jv_i295 1 (pc' := 196) (l' := [(2, .int (vl_I w26)), (7, .int (0 : Int32)), (5, .long ((vl_I f.z).toInt64 - (1 : Int64))), (4, .int (vl_I (8 + (76800 + f.d)))), (3, .int (I 205 (76800 + f.d))), (1, .int (vl_I f.z)), (0, .ref 196)]) (st' := [.int (1 : Int32), .int (I 205 (76800 + f.s)), .int (vl_I w26)]) rfl Kz) ?_
          refine jv_Wp.cnd jv_i295 (pt := 204) (pe := 199) (p := ((I 205 (76800 + f.s)) = (1 : Int32))) (q := ((I 205 (76800 + f.s)) = (1 : Int32))) rfl jv_bc_eq rfl rfl Iff.rfl (fun h23 => ?_) (fun h23 => ?_)
          · refine jv_Wp.lift (fun _ Kz => jv_Ev.steps jv_i295 1 (pc' := 205) (l' := [(2, .int (vl_I w26)), (7, .int (0 : Int32)), (5, .long ((vl_I f.z).toInt64 - (1 : Int64))), (4, .int (vl_I (8 + (76800 + f.d)))), (3, .int (I 205 (76800 + f.d))), (1, .int (vl_I f.z)), (0, .ref 196)]) (st' := [.int (0 : Int32), .int (vl_I w26)]) rfl Kz) ?_
            obtain ⟨w30, hq30⟩ : ∃ x : Nat, ∀ _ : Unit, vx_fst w26 0 = x := ⟨_, fun _ => rfl⟩
            have fq30 : (w26 = 0 → w30 = 0) ∧ (0 = 0 → w30 = w26) ∧ (w30 = w26 ∨ w30 = 0) ∧ (w26 ≠ 0 → 0 ≠ 0 → w30 ≤ w26 ∧ w30 ≤ 0) := by rw [← hq30 ()]; exact vx_fst_g w26 0
            have Hf30 := vq_first (I := I) (L := L) (K := K) (R := R) (n := n) (sl := sl) w26 0 (by omega) (by omega)
            rw [hq30 ()] at Hf30
            refine jv_Wp.lift (fun _ Kz => jv_Ev.c jv_i295 (pc' := 208) (S' := [.int (vl_I w30)]) jv_i282 [.int (vl_I w26), .int (0 : Int32)] rfl rfl rfl rfl rfl rfl Hf30 rfl rfl Kz) ?_
            refine jv_Wp.lift (fun _ Kz => jv_Ev.steps jv_i295 3 (pc' := 211) (l' := [(2, .int (vl_I w30)), (7, .int (0 : Int32)), (5, .long ((vl_I f.z).toInt64 - (1 : Int64))), (4, .int (vl_I (8 + (76800 + f.d)))), (3, .int (I 205 (76800 + f.d))), (1, .int (vl_I f.z)), (0, .ref 196)]) (st' := [.ref 196, .int (vl_I w30)]) rfl Kz) ?_
            refine jv_Wp.lift (fun _ Kz => jv_Ev.m jv_i295 (pc' := 214) (st' := [.int (Int32.ofInt f.i), .int (vl_I w30)]) (G' := (jv_H K I L R)) rfl rfl (jv_m_getI (jv_rwK hW 196 12 24 (by decide)) rfl rfl (vr_dJ D)) Kz) ?_
            refine jv_Wp.lift (fun _ Kz => jv_Ev.steps jv_i295 1 (pc' := 217) (l' := [(2, .int (vl_I w30)), (7, .int (0 : Int32)), (5, .long ((vl_I f.z).toInt64 - (1 : Int64))), (4, .int (vl_I (8 + (76800 + f.d)))), (3, .int (I 205 (76800 + f.d))), (1, .int (vl_I f.z)), (0, .ref 196)]) (st' := [.int (241 : Int32), .int (Int32.ofInt f.i), .int (vl_I w30)]) rfl Kz) ?_
            refine jv_Wp.cnd jv_i295 (pt := 242) (pe := 220) (p := (¬ (Int32.ofInt f.i) = (241 : Int32))) (q := (¬ (Int32.ofInt f.i) = (241 : Int32))) rfl jv_bc_ne rfl rfl Iff.rfl (fun _ => ?_) (fun hz => absurd h241 hz)
            refine jv_Wp.lift (fun _ Kz => jv_Ev.steps jv_i295 1 (pc' := 243) (l' := [(2, .int (vl_I w30)), (7, .int (0 : Int32)), (5, .long ((vl_I f.z).toInt64 - (1 : Int64))), (4, .int (vl_I (8 + (76800 + f.d)))), (3, .int (I 205 (76800 + f.d))), (1, .int (vl_I f.z)), (0, .ref 196)]) (st' := [.int (0 : Int32), .int (vl_I w30)]) rfl Kz) ?_
            obtain ⟨w31, hq31⟩ : ∃ x : Nat, ∀ _ : Unit, vx_fst w30 0 = x := ⟨_, fun _ => rfl⟩
            have fq31 : (w30 = 0 → w31 = 0) ∧ (0 = 0 → w31 = w30) ∧ (w31 = w30 ∨ w31 = 0) ∧ (w30 ≠ 0 → 0 ≠ 0 → w31 ≤ w30 ∧ w31 ≤ 0) := by rw [← hq31 ()]; exact vx_fst_g w30 0
            have Hf31 := vq_first (I := I) (L := L) (K := K) (R := R) (n := n) (sl := sl) w30 0 (by omega) (by omega)
            rw [hq31 ()] at Hf31
            refine jv_Wp.lift (fun _ Kz => jv_Ev.c jv_i295 (pc' := 246) (S' := [.int (vl_I w31)]) jv_i282 [.int (vl_I w30), .int (0 : Int32)] rfl rfl rfl rfl rfl rfl Hf31 rfl rfl Kz) ?_
            refine jv_Wp.lift (fun _ Kz => jv_Ev.steps jv_i295 2 (pc' := 248) (l' := [(2, .int (vl_I w31)), (7, .int (0 : Int32)), (5, .long ((vl_I f.z).toInt64 - (1 : Int64))), (4, .int (vl_I (8 + (76800 + f.d)))), (3, .int (I 205 (76800 + f.d))), (1, .int (vl_I f.z)), (0, .ref 196)]) (st' := [.int (vl_I w31)]) rfl Kz) ?_
            refine jv_Wp.cnd jv_i295 (pt := 253) (pe := 251) (p := ((vl_I w31) ≤ 0)) (q := ((vl_I w31) ≤ 0)) rfl jv_bi_le rfl rfl Iff.rfl (fun h24 => ?_) (fun h24 => ?_)
            · refine jv_Wp.lift (fun _ Kz => jv_Ev.steps jv_i295 1 (pc' := 254) (l' := [(2, .int (vl_I w31)), (7, .int (0 : Int32)), (5, .long ((vl_I f.z).toInt64 - (1 : Int64))), (4, .int (vl_I (8 + (76800 + f.d)))), (3, .int (I 205 (76800 + f.d))), (1, .int (vl_I f.z)), (0, .ref 196)]) (st' := [.ref 196]) rfl Kz) ?_
              refine jv_Wp.lift (fun _ Kz => jv_Ev.m jv_i295 (pc' := 257) (st' := [.int (Int32.ofInt f.i)]) (G' := (jv_H K I L R)) rfl rfl (jv_m_getI (jv_rwK hW 196 12 24 (by decide)) rfl rfl (vr_dJ D)) Kz) ?_
              refine jv_Wp.lift (fun _ Kz => jv_Ev.steps jv_i295 1 (pc' := 260) (l' := [(2, .int (vl_I w31)), (7, .int (0 : Int32)), (5, .long ((vl_I f.z).toInt64 - (1 : Int64))), (4, .int (vl_I (8 + (76800 + f.d)))), (3, .int (I 205 (76800 + f.d))), (1, .int (vl_I f.z)), (0, .ref 196)]) (st' := [.int (241 : Int32), .int (Int32.ofInt f.i)]) rfl Kz) ?_
              refine jv_Wp.cnd jv_i295 (pt := 272) (pe := 263) (p := (¬ (Int32.ofInt f.i) = (241 : Int32))) (q := (¬ (Int32.ofInt f.i) = (241 : Int32))) rfl jv_bc_ne rfl rfl Iff.rfl (fun _ => ?_) (fun hz => absurd h241 hz)
              refine jv_Wp.lift (fun _ Kz => jv_Ev.steps jv_i295 1 (pc' := 273) (l' := [(2, .int (vl_I w31)), (7, .int (0 : Int32)), (5, .long ((vl_I f.z).toInt64 - (1 : Int64))), (4, .int (vl_I (8 + (76800 + f.d)))), (3, .int (I 205 (76800 + f.d))), (1, .int (vl_I f.z)), (0, .ref 196)]) (st' := [.ref 196]) rfl Kz) ?_
              refine jv_Wp.lift (fun _ Kz => jv_Ev.m jv_i295 (pc' := 276) (st' := [.int (Int32.ofInt f.i)]) (G' := (jv_H K I L R)) rfl rfl (jv_m_getI (jv_rwK hW 196 12 24 (by decide)) rfl rfl (vr_dJ D)) Kz) ?_
              refine jv_Wp.lift (fun _ Kz => jv_Ev.steps jv_i295 1 (pc' := 277) (l' := [(2, .int (vl_I w31)), (7, .int (0 : Int32)), (5, .long ((vl_I f.z).toInt64 - (1 : Int64))), (4, .int (vl_I (8 + (76800 + f.d)))), (3, .int (I 205 (76800 + f.d))), (1, .int (vl_I f.z)), (0, .ref 196)]) (st' := [.int (2 : Int32), .int (Int32.ofInt f.i)]) rfl Kz) ?_
              refine jv_Wp.lift (fun _ Kz => jv_Ev.op jv_i295 (pc' := 278) (l' := [(2, .int (vl_I w31)), (7, .int (0 : Int32)), (5, .long ((vl_I f.z).toInt64 - (1 : Int64))), (4, .int (vl_I (8 + (76800 + f.d)))), (3, .int (I 205 (76800 + f.d))), (1, .int (vl_I f.z)), (0, .ref 196)]) (st' := [.int ((Int32.ofInt f.i) - (Int32.ofInt f.i) / (2 : Int32) * (2 : Int32))]) rfl (jv_op_irem (by decide)) Kz) ?_
              refine jv_Wp.lift (fun _ Kz => jv_Ev.steps jv_i295 1 (pc' := 279) (l' := [(2, .int (vl_I w31)), (7, .int (0 : Int32)), (5, .long ((vl_I f.z).toInt64 - (1 : Int64))), (4, .int (vl_I (8 + (76800 + f.d)))), (3, .int (I 205 (76800 + f.d))), (1, .int (vl_I f.z)), (0, .ref 196)]) (st' := [.int (1 : Int32), .int ((Int32.ofInt f.i) - (Int32.ofInt f.i) / (2 : Int32) * (2 : Int32))]) rfl Kz) ?_
              refine jv_Wp.cnd jv_i295 (pt := 291) (pe := 282) (p := (¬ ((Int32.ofInt f.i) - (Int32.ofInt f.i) / (2 : Int32) * (2 : Int32)) = (1 : Int32))) (q := (¬ ((Int32.ofInt f.i) - (Int32.ofInt f.i) / (2 : Int32) * (2 : Int32)) = (1 : Int32))) rfl jv_bc_ne rfl rfl Iff.rfl (fun h25 => ?_) (fun h25 => ?_)
              · refine jv_Wp.lift (fun _ Kz => jv_Ev.steps jv_i295 1 (pc' := 292) (l' := [(2, .int (vl_I w31)), (7, .int (0 : Int32)), (5, .long ((vl_I f.z).toInt64 - (1 : Int64))), (4, .int (vl_I (8 + (76800 + f.d)))), (3, .int (I 205 (76800 + f.d))), (1, .int (vl_I f.z)), (0, .ref 196)]) (st' := [.int (0 : Int32)]) rfl Kz) ?_
                refine jv_Wp.of (jv_Ev.ret jv_i295 rfl rfl) ?_
                rw [hQ]
                have td0 : ¬ zd = 0 := fun z => h1 ((vr_isN (L := L) okd hd11).mp ((hd ()).trans z))
                have td7 : zd = 7 := (hd ()).symm.trans ((vr_is (L := L) 7 (by decide) okd).mpr (Classical.not_not.mp h10))
                have ts0 : ¬ zs = 0 := fun z => h20 ((vr_isN (L := L) oks hs11).mp ((hs ()).trans z))
                have ts1 : zs = 1 := (hs ()).symm.trans ((vr_is (L := L) 1 (by decide) oks).mpr h23)
                have nx1 : w31 ≤ 0 := (vl_I_le (a := w31) (b := 0) (by omega) (by omega)).mp h24
                have ev : vx_even (vr_T I L (76800 + f.d)).val f.o f.z = false := by rw [vr_valv (by rw [(vr_is (L := L) 7 (by decide) okd).mp ((hd ()).trans (by omega))]; rfl), ← vr_dO D, vx_even_r hz]; exact (by rw [decide_eq_false h19]; rfl)
                have r7 := vx_r7' (M := M) (A := (vr_A I L 1024)) (o := f.o) (z := f.z) (w := true) ((hd ()).trans (show zd = 7 by omega))
                rw [hrr ()] at r7
                exact absurd (show False by omega) (fun z => z)
              · refine jv_Wp.lift (fun _ Kz => jv_Ev.steps jv_i295 2 (pc' := 284) (l' := [(2, .int (vl_I w31)), (7, .int (0 : Int32)), (5, .long ((vl_I f.z).toInt64 - (1 : Int64))), (4, .int (vl_I (8 + (76800 + f.d)))), (3, .int (I 205 (76800 + f.d))), (1, .int (vl_I f.z)), (0, .ref 196)]) (st' := [.ref 196, .ref 196]) rfl Kz) ?_
                refine jv_Wp.lift (fun _ Kz => jv_Ev.m jv_i295 (pc' := 287) (st' := [.int (vl_I f.s), .ref 196]) (G' := (jv_H K I L R)) rfl rfl (jv_m_getI (jv_rwK hW 196 12 24 (by decide)) rfl rfl D.2.2.1) Kz) ?_
                refine jv_Wp.lift (fun _ Kz => jv_Ev.steps jv_i295 1 (pc' := 288) (l' := [(2, .int (vl_I w31)), (7, .int (0 : Int32)), (5, .long ((vl_I f.z).toInt64 - (1 : Int64))), (4, .int (vl_I (8 + (76800 + f.d)))), (3, .int (I 205 (76800 + f.d))), (1, .int (vl_I f.z)), (0, .ref 196)]) (st' := [.int (vl_I f.z), .int (vl_I f.s), .ref 196]) rfl Kz) ?_
                obtain ⟨I32, L32, H32, T32, O32, F32⟩ := vq_setAny (I := I) (L := L) (R := R) (n := n) (sl := sl) f.s f.z hW hf (by omega) hz
                refine jv_Wp.lift (fun _ Kz => jv_Ev.c jv_i295 (pc' := 291) (S' := []) (G1 := (jv_H K I32 L32 R)) jv_i274 [.ref 196, .int (vl_I f.s), .int (vl_I f.z)] rfl rfl rfl rfl (jv_cal rfl (jv_H_at (jv_rwK hW 196 12 24 (by decide))) rfl rfl) rfl H32 rfl rfl Kz) ?_
                refine jv_Wp.lift (fun _ Kz => jv_Ev.steps jv_i295 1 (pc' := 292) (l' := [(2, .int (vl_I w31)), (7, .int (0 : Int32)), (5, .long ((vl_I f.z).toInt64 - (1 : Int64))), (4, .int (vl_I (8 + (76800 + f.d)))), (3, .int (I 205 (76800 + f.d))), (1, .int (vl_I f.z)), (0, .ref 196)]) (st' := [.int (0 : Int32)]) rfl Kz) ?_
                refine jv_Wp.of (jv_Ev.ret jv_i295 rfl rfl) ?_
                rw [hQ]
                have td0 : ¬ zd = 0 := fun z => h1 ((vr_isN (L := L) okd hd11).mp ((hd ()).trans z))
                have td7 : zd = 7 := (hd ()).symm.trans ((vr_is (L := L) 7 (by decide) okd).mpr (Classical.not_not.mp h10))
                have ts0 : ¬ zs = 0 := fun z => h20 ((vr_isN (L := L) oks hs11).mp ((hs ()).trans z))
                have ts1 : zs = 1 := (hs ()).symm.trans ((vr_is (L := L) 1 (by decide) oks).mpr h23)
                have nx1 : w31 ≤ 0 := (vl_I_le (a := w31) (b := 0) (by omega) (by omega)).mp h24
                have ev : vx_even (vr_T I L (76800 + f.d)).val f.o f.z = false := by rw [vr_valv (by rw [(vr_is (L := L) 7 (by decide) okd).mp ((hd ()).trans (by omega))]; rfl), ← vr_dO D, vx_even_r hz]; exact (by rw [decide_eq_false h19]; rfl)
                have r7 := vx_r7' (M := M) (A := (vr_A I L 1024)) (o := f.o) (z := f.z) (w := true) ((hd ()).trans (show zd = 7 by omega))
                rw [hrr ()] at r7
                exact absurd (show False by omega) (fun z => z)
            · refine jv_Wp.lift (fun _ Kz => jv_Ev.steps jv_i295 1 (pc' := 252) (l' := [(2, .int (vl_I w31)), (7, .int (0 : Int32)), (5, .long ((vl_I f.z).toInt64 - (1 : Int64))), (4, .int (vl_I (8 + (76800 + f.d)))), (3, .int (I 205 (76800 + f.d))), (1, .int (vl_I f.z)), (0, .ref 196)]) (st' := [.int (vl_I w31)]) rfl Kz) ?_
              refine jv_Wp.of (jv_Ev.ret jv_i295 rfl rfl) ?_
              rw [hQ]
              have td0 : ¬ zd = 0 := fun z => h1 ((vr_isN (L := L) okd hd11).mp ((hd ()).trans z))
              have td7 : zd = 7 := (hd ()).symm.trans ((vr_is (L := L) 7 (by decide) okd).mpr (Classical.not_not.mp h10))
              have ts0 : ¬ zs = 0 := fun z => h20 ((vr_isN (L := L) oks hs11).mp ((hs ()).trans z))
              have ts1 : zs = 1 := (hs ()).symm.trans ((vr_is (L := L) 1 (by decide) oks).mpr h23)
              have nx1 : ¬ w31 ≤ 0 := fun z => h24 ((vl_I_le (a := w31) (b := 0) (by omega) (by omega)).mpr z)
              have ev : vx_even (vr_T I L (76800 + f.d)).val f.o f.z = false := by rw [vr_valv (by rw [(vr_is (L := L) 7 (by decide) okd).mp ((hd ()).trans (by omega))]; rfl), ← vr_dO D, vx_even_r hz]; exact (by rw [decide_eq_false h19]; rfl)
              have r7 := vx_r7' (M := M) (A := (vr_A I L 1024)) (o := f.o) (z := f.z) (w := true) ((hd ()).trans (show zd = 7 by omega))
              rw [hrr ()] at r7
              have e : vx_atp M f (vr_A I L 1024) = (w31, (vr_A I L 1024)) := by
                by_cases c1 : zd = 0 ∨ zs = 0 ∨ (f.i = 241 ∧ z0 = 0)
                · rw [show w31 = 1 by omega]; exact vx_at1 (by rw [eD, eS, e0, hd (), hs (), h0 ()]; omega)
                · rw [show w31 = 4 by omega]; exact vx_at3 (by rw [eD, eS, e0, hd (), hs (), h0 ()]; omega) (by rw [eD, hd ()]; omega) (Or.inl (by rw [eD]; exact ev))
              exact ⟨_, _, by rw [← eQ, e], fun z => by rw [← eQ, e] at z; exact absurd (show w31 = 0 from z) (by omega), vr_fr_refl hf⟩
          · refine jv_Wp.lift (fun _ Kz => jv_Ev.steps jv_i295 2 (pc' := 205) (l' := [(2, .int (vl_I w26)), (7, .int (0 : Int32)), (5, .long ((vl_I f.z).toInt64 - (1 : Int64))), (4, .int (vl_I (8 + (76800 + f.d)))), (3, .int (I 205 (76800 + f.d))), (1, .int (vl_I f.z)), (0, .ref 196)]) (st' := [.int (6 : Int32), .int (vl_I w26)]) rfl Kz) ?_
            obtain ⟨w33, hq33⟩ : ∃ x : Nat, ∀ _ : Unit, vx_fst w26 6 = x := ⟨_, fun _ => rfl⟩
            have fq33 : (w26 = 0 → w33 = 6) ∧ (6 = 0 → w33 = w26) ∧ (w33 = w26 ∨ w33 = 6) ∧ (w26 ≠ 0 → 6 ≠ 0 → w33 ≤ w26 ∧ w33 ≤ 6) := by rw [← hq33 ()]; exact vx_fst_g w26 6
            have Hf33 := vq_first (I := I) (L := L) (K := K) (R := R) (n := n) (sl := sl) w26 6 (by omega) (by omega)
            rw [hq33 ()] at Hf33
            refine jv_Wp.lift (fun _ Kz => jv_Ev.c jv_i295 (pc' := 208) (S' := [.int (vl_I w33)]) jv_i282 [.int (vl_I w26), .int (6 : Int32)] rfl rfl rfl rfl rfl rfl Hf33 rfl rfl Kz) ?_
            refine jv_Wp.lift (fun _ Kz => jv_Ev.steps jv_i295 3 (pc' := 211) (l' := [(2, .int (vl_I w33)), (7, .int (0 : Int32)), (5, .long ((vl_I f.z).toInt64 - (1 : Int64))), (4, .int (vl_I (8 + (76800 + f.d)))), (3, .int (I 205 (76800 + f.d))), (1, .int (vl_I f.z)), (0, .ref 196)]) (st' := [.ref 196, .int (vl_I w33)]) rfl Kz) ?_
            refine jv_Wp.lift (fun _ Kz => jv_Ev.m jv_i295 (pc' := 214) (st' := [.int (Int32.ofInt f.i), .int (vl_I w33)]) (G' := (jv_H K I L R)) rfl rfl (jv_m_getI (jv_rwK hW 196 12 24 (by decide)) rfl rfl (vr_dJ D)) Kz) ?_
            refine jv_Wp.lift (fun _ Kz => jv_Ev.steps jv_i295 1 (pc' := 217) (l' := [(2, .int (vl_I w33)), (7, .int (0 : Int32)), (5, .long ((vl_I f.z).toInt64 - (1 : Int64))), (4, .int (vl_I (8 + (76800 + f.d)))), (3, .int (I 205 (76800 + f.d))), (1, .int (vl_I f.z)), (0, .ref 196)]) (st' := [.int (241 : Int32), .int (Int32.ofInt f.i), .int (vl_I w33)]) rfl Kz) ?_
            refine jv_Wp.cnd jv_i295 (pt := 242) (pe := 220) (p := (¬ (Int32.ofInt f.i) = (241 : Int32))) (q := (¬ (Int32.ofInt f.i) = (241 : Int32))) rfl jv_bc_ne rfl rfl Iff.rfl (fun _ => ?_) (fun hz => absurd h241 hz)
            refine jv_Wp.lift (fun _ Kz => jv_Ev.steps jv_i295 1 (pc' := 243) (l' := [(2, .int (vl_I w33)), (7, .int (0 : Int32)), (5, .long ((vl_I f.z).toInt64 - (1 : Int64))), (4, .int (vl_I (8 + (76800 + f.d)))), (3, .int (I 205 (76800 + f.d))), (1, .int (vl_I f.z)), (0, .ref 196)]) (st' := [.int (0 : Int32), .int (vl_I w33)]) rfl Kz) ?_
            obtain ⟨w34, hq34⟩ : ∃ x : Nat, ∀ _ : Unit, vx_fst w33 0 = x := ⟨_, fun _ => rfl⟩
            have fq34 : (w33 = 0 → w34 = 0) ∧ (0 = 0 → w34 = w33) ∧ (w34 = w33 ∨ w34 = 0) ∧ (w33 ≠ 0 → 0 ≠ 0 → w34 ≤ w33 ∧ w34 ≤ 0) := by rw [← hq34 ()]; exact vx_fst_g w33 0
            have Hf34 := vq_first (I := I) (L := L) (K := K) (R := R) (n := n) (sl := sl) w33 0 (by omega) (by omega)
            rw [hq34 ()] at Hf34
            refine jv_Wp.lift (fun _ Kz => jv_Ev.c jv_i295 (pc' := 246) (S' := [.int (vl_I w34)]) jv_i282 [.int (vl_I w33), .int (0 : Int32)] rfl rfl rfl rfl rfl rfl Hf34 rfl rfl Kz) ?_
            refine jv_Wp.lift (fun _ Kz => jv_Ev.steps jv_i295 2 (pc' := 248) (l' := [(2, .int (vl_I w34)), (7, .int (0 : Int32)), (5, .long ((vl_I f.z).toInt64 - (1 : Int64))), (4, .int (vl_I (8 + (76800 + f.d)))), (3, .int (I 205 (76800 + f.d))), (1, .int (vl_I f.z)), (0, .ref 196)]) (st' := [.int (vl_I w34)]) rfl Kz) ?_
            refine jv_Wp.cnd jv_i295 (pt := 253) (pe := 251) (p := ((vl_I w34) ≤ 0)) (q := ((vl_I w34) ≤ 0)) rfl jv_bi_le rfl rfl Iff.rfl (fun h26 => ?_) (fun h26 => ?_)
            · refine jv_Wp.lift (fun _ Kz => jv_Ev.steps jv_i295 1 (pc' := 254) (l' := [(2, .int (vl_I w34)), (7, .int (0 : Int32)), (5, .long ((vl_I f.z).toInt64 - (1 : Int64))), (4, .int (vl_I (8 + (76800 + f.d)))), (3, .int (I 205 (76800 + f.d))), (1, .int (vl_I f.z)), (0, .ref 196)]) (st' := [.ref 196]) rfl Kz) ?_
              refine jv_Wp.lift (fun _ Kz => jv_Ev.m jv_i295 (pc' := 257) (st' := [.int (Int32.ofInt f.i)]) (G' := (jv_H K I L R)) rfl rfl (jv_m_getI (jv_rwK hW 196 12 24 (by decide)) rfl rfl (vr_dJ D)) Kz) ?_
              refine jv_Wp.lift (fun _ Kz => jv_Ev.steps jv_i295 1 (pc' := 260) (l' := [(2, .int (vl_I w34)), (7, .int (0 : Int32)), (5, .long ((vl_I f.z).toInt64 - (1 : Int64))), (4, .int (vl_I (8 + (76800 + f.d)))), (3, .int (I 205 (76800 + f.d))), (1, .int (vl_I f.z)), (0, .ref 196)]) (st' := [.int (241 : Int32), .int (Int32.ofInt f.i)]) rfl Kz) ?_
              refine jv_Wp.cnd jv_i295 (pt := 272) (pe := 263) (p := (¬ (Int32.ofInt f.i) = (241 : Int32))) (q := (¬ (Int32.ofInt f.i) = (241 : Int32))) rfl jv_bc_ne rfl rfl Iff.rfl (fun _ => ?_) (fun hz => absurd h241 hz)
              refine jv_Wp.lift (fun _ Kz => jv_Ev.steps jv_i295 1 (pc' := 273) (l' := [(2, .int (vl_I w34)), (7, .int (0 : Int32)), (5, .long ((vl_I f.z).toInt64 - (1 : Int64))), (4, .int (vl_I (8 + (76800 + f.d)))), (3, .int (I 205 (76800 + f.d))), (1, .int (vl_I f.z)), (0, .ref 196)]) (st' := [.ref 196]) rfl Kz) ?_
              refine jv_Wp.lift (fun _ Kz => jv_Ev.m jv_i295 (pc' := 276) (st' := [.int (Int32.ofInt f.i)]) (G' := (jv_H K I L R)) rfl rfl (jv_m_getI (jv_rwK hW 196 12 24 (by decide)) rfl rfl (vr_dJ D)) Kz) ?_
              refine jv_Wp.lift (fun _ Kz => jv_Ev.steps jv_i295 1 (pc' := 277) (l' := [(2, .int (vl_I w34)), (7, .int (0 : Int32)), (5, .long ((vl_I f.z).toInt64 - (1 : Int64))), (4, .int (vl_I (8 + (76800 + f.d)))), (3, .int (I 205 (76800 + f.d))), (1, .int (vl_I f.z)), (0, .ref 196)]) (st' := [.int (2 : Int32), .int (Int32.ofInt f.i)]) rfl Kz) ?_
              refine jv_Wp.lift (fun _ Kz => jv_Ev.op jv_i295 (pc' := 278) (l' := [(2, .int (vl_I w34)), (7, .int (0 : Int32)), (5, .long ((vl_I f.z).toInt64 - (1 : Int64))), (4, .int (vl_I (8 + (76800 + f.d)))), (3, .int (I 205 (76800 + f.d))), (1, .int (vl_I f.z)), (0, .ref 196)]) (st' := [.int ((Int32.ofInt f.i) - (Int32.ofInt f.i) / (2 : Int32) * (2 : Int32))]) rfl (jv_op_irem (by decide)) Kz) ?_
              refine jv_Wp.lift (fun _ Kz => jv_Ev.steps jv_i295 1 (pc' := 279) (l' := [(2, .int (vl_I w34)), (7, .int (0 : Int32)), (5, .long ((vl_I f.z).toInt64 - (1 : Int64))), (4, .int (vl_I (8 + (76800 + f.d)))), (3, .int (I 205 (76800 + f.d))), (1, .int (vl_I f.z)), (0, .ref 196)]) (st' := [.int (1 : Int32), .int ((Int32.ofInt f.i) - (Int32.ofInt f.i) / (2 : Int32) * (2 : Int32))]) rfl Kz) ?_
              refine jv_Wp.cnd jv_i295 (pt := 291) (pe := 282) (p := (¬ ((Int32.ofInt f.i) - (Int32.ofInt f.i) / (2 : Int32) * (2 : Int32)) = (1 : Int32))) (q := (¬ ((Int32.ofInt f.i) - (Int32.ofInt f.i) / (2 : Int32) * (2 : Int32)) = (1 : Int32))) rfl jv_bc_ne rfl rfl Iff.rfl (fun h27 => ?_) (fun h27 => ?_)
              · refine jv_Wp.lift (fun _ Kz => jv_Ev.steps jv_i295 1 (pc' := 292) (l' := [(2, .int (vl_I w34)), (7, .int (0 : Int32)), (5, .long ((vl_I f.z).toInt64 - (1 : Int64))), (4, .int (vl_I (8 + (76800 + f.d)))), (3, .int (I 205 (76800 + f.d))), (1, .int (vl_I f.z)), (0, .ref 196)]) (st' := [.int (0 : Int32)]) rfl Kz) ?_
                refine jv_Wp.of (jv_Ev.ret jv_i295 rfl rfl) ?_
                rw [hQ]
                have td0 : ¬ zd = 0 := fun z => h1 ((vr_isN (L := L) okd hd11).mp ((hd ()).trans z))
                have td7 : zd = 7 := (hd ()).symm.trans ((vr_is (L := L) 7 (by decide) okd).mpr (Classical.not_not.mp h10))
                have ts0 : ¬ zs = 0 := fun z => h20 ((vr_isN (L := L) oks hs11).mp ((hs ()).trans z))
                have ts1 : ¬ zs = 1 := fun z => h23 ((vr_is (L := L) 1 (by decide) oks).mp ((hs ()).trans z))
                have nx1 : w34 ≤ 0 := (vl_I_le (a := w34) (b := 0) (by omega) (by omega)).mp h26
                have ev : vx_even (vr_T I L (76800 + f.d)).val f.o f.z = false := by rw [vr_valv (by rw [(vr_is (L := L) 7 (by decide) okd).mp ((hd ()).trans (by omega))]; rfl), ← vr_dO D, vx_even_r hz]; exact (by rw [decide_eq_false h19]; rfl)
                have r7 := vx_r7' (M := M) (A := (vr_A I L 1024)) (o := f.o) (z := f.z) (w := true) ((hd ()).trans (show zd = 7 by omega))
                rw [hrr ()] at r7
                exact absurd (show False by omega) (fun z => z)
              · refine jv_Wp.lift (fun _ Kz => jv_Ev.steps jv_i295 2 (pc' := 284) (l' := [(2, .int (vl_I w34)), (7, .int (0 : Int32)), (5, .long ((vl_I f.z).toInt64 - (1 : Int64))), (4, .int (vl_I (8 + (76800 + f.d)))), (3, .int (I 205 (76800 + f.d))), (1, .int (vl_I f.z)), (0, .ref 196)]) (st' := [.ref 196, .ref 196]) rfl Kz) ?_
                refine jv_Wp.lift (fun _ Kz => jv_Ev.m jv_i295 (pc' := 287) (st' := [.int (vl_I f.s), .ref 196]) (G' := (jv_H K I L R)) rfl rfl (jv_m_getI (jv_rwK hW 196 12 24 (by decide)) rfl rfl D.2.2.1) Kz) ?_
                refine jv_Wp.lift (fun _ Kz => jv_Ev.steps jv_i295 1 (pc' := 288) (l' := [(2, .int (vl_I w34)), (7, .int (0 : Int32)), (5, .long ((vl_I f.z).toInt64 - (1 : Int64))), (4, .int (vl_I (8 + (76800 + f.d)))), (3, .int (I 205 (76800 + f.d))), (1, .int (vl_I f.z)), (0, .ref 196)]) (st' := [.int (vl_I f.z), .int (vl_I f.s), .ref 196]) rfl Kz) ?_
                obtain ⟨I35, L35, H35, T35, O35, F35⟩ := vq_setAny (I := I) (L := L) (R := R) (n := n) (sl := sl) f.s f.z hW hf (by omega) hz
                refine jv_Wp.lift (fun _ Kz => jv_Ev.c jv_i295 (pc' := 291) (S' := []) (G1 := (jv_H K I35 L35 R)) jv_i274 [.ref 196, .int (vl_I f.s), .int (vl_I f.z)] rfl rfl rfl rfl (jv_cal rfl (jv_H_at (jv_rwK hW 196 12 24 (by decide))) rfl rfl) rfl H35 rfl rfl Kz) ?_
                refine jv_Wp.lift (fun _ Kz => jv_Ev.steps jv_i295 1 (pc' := 292) (l' := [(2, .int (vl_I w34)), (7, .int (0 : Int32)), (5, .long ((vl_I f.z).toInt64 - (1 : Int64))), (4, .int (vl_I (8 + (76800 + f.d)))), (3, .int (I 205 (76800 + f.d))), (1, .int (vl_I f.z)), (0, .ref 196)]) (st' := [.int (0 : Int32)]) rfl Kz) ?_
                refine jv_Wp.of (jv_Ev.ret jv_i295 rfl rfl) ?_
                rw [hQ]
                have td0 : ¬ zd = 0 := fun z => h1 ((vr_isN (L := L) okd hd11).mp ((hd ()).trans z))
                have td7 : zd = 7 := (hd ()).symm.trans ((vr_is (L := L) 7 (by decide) okd).mpr (Classical.not_not.mp h10))
                have ts0 : ¬ zs = 0 := fun z => h20 ((vr_isN (L := L) oks hs11).mp ((hs ()).trans z))
                have ts1 : ¬ zs = 1 := fun z => h23 ((vr_is (L := L) 1 (by decide) oks).mp ((hs ()).trans z))
                have nx1 : w34 ≤ 0 := (vl_I_le (a := w34) (b := 0) (by omega) (by omega)).mp h26
                have ev : vx_even (vr_T I L (76800 + f.d)).val f.o f.z = false := by rw [vr_valv (by rw [(vr_is (L := L) 7 (by decide) okd).mp ((hd ()).trans (by omega))]; rfl), ← vr_dO D, vx_even_r hz]; exact (by rw [decide_eq_false h19]; rfl)
                have r7 := vx_r7' (M := M) (A := (vr_A I L 1024)) (o := f.o) (z := f.z) (w := true) ((hd ()).trans (show zd = 7 by omega))
                rw [hrr ()] at r7
                exact absurd (show False by omega) (fun z => z)
            · refine jv_Wp.lift (fun _ Kz => jv_Ev.steps jv_i295 1 (pc' := 252) (l' := [(2, .int (vl_I w34)), (7, .int (0 : Int32)), (5, .long ((vl_I f.z).toInt64 - (1 : Int64))), (4, .int (vl_I (8 + (76800 + f.d)))), (3, .int (I 205 (76800 + f.d))), (1, .int (vl_I f.z)), (0, .ref 196)]) (st' := [.int (vl_I w34)]) rfl Kz) ?_
              refine jv_Wp.of (jv_Ev.ret jv_i295 rfl rfl) ?_
              rw [hQ]
              have td0 : ¬ zd = 0 := fun z => h1 ((vr_isN (L := L) okd hd11).mp ((hd ()).trans z))
              have td7 : zd = 7 := (hd ()).symm.trans ((vr_is (L := L) 7 (by decide) okd).mpr (Classical.not_not.mp h10))
              have ts0 : ¬ zs = 0 := fun z => h20 ((vr_isN (L := L) oks hs11).mp ((hs ()).trans z))
              have ts1 : ¬ zs = 1 := fun z => h23 ((vr_is (L := L) 1 (by decide) oks).mp ((hs ()).trans z))
              have nx1 : ¬ w34 ≤ 0 := fun z => h26 ((vl_I_le (a := w34) (b := 0) (by omega) (by omega)).mpr z)
              have ev : vx_even (vr_T I L (76800 + f.d)).val f.o f.z = false := by rw [vr_valv (by rw [(vr_is (L := L) 7 (by decide) okd).mp ((hd ()).trans (by omega))]; rfl), ← vr_dO D, vx_even_r hz]; exact (by rw [decide_eq_false h19]; rfl)
              have r7 := vx_r7' (M := M) (A := (vr_A I L 1024)) (o := f.o) (z := f.z) (w := true) ((hd ()).trans (show zd = 7 by omega))
              rw [hrr ()] at r7
              have e : vx_atp M f (vr_A I L 1024) = (w34, (vr_A I L 1024)) := by
                by_cases c1 : zd = 0 ∨ zs = 0 ∨ (f.i = 241 ∧ z0 = 0)
                · rw [show w34 = 1 by omega]; exact vx_at1 (by rw [eD, eS, e0, hd (), hs (), h0 ()]; omega)
                · rw [show w34 = 4 by omega]; exact vx_at3 (by rw [eD, eS, e0, hd (), hs (), h0 ()]; omega) (by rw [eD, hd ()]; omega) (Or.inl (by rw [eD]; exact ev))
              exact ⟨_, _, by rw [← eQ, e], fun z => by rw [← eQ, e] at z; exact absurd (show w34 = 0 from z) (by omega), vr_fr_refl hf⟩
      · refine jv_Wp.lift (fun _ Kz => jv_Ev.steps jv_i295 1 (pc' := 121) (l' := [(5, .long ((vl_I f.z).toInt64 - (1 : Int64))), (4, .int (vl_I (8 + (76800 + f.d)))), (2, .int (vl_I w25)), (3, .int (I 205 (76800 + f.d))), (1, .int (vl_I f.z)), (0, .ref 196)]) (st' := [.ref 196]) rfl Kz) ?_
        refine jv_Wp.lift (fun _ Kz => jv_Ev.m jv_i295 (pc' := 124) (st' := [.ref 208]) (G' := (jv_H K I L R)) rfl rfl (jv_m_getR (jv_rwK hW 196 12 24 (by decide)) rfl rfl (jv_rwR hW 196 16 208 (by decide))) Kz) ?_
        refine jv_Wp.lift (fun _ Kz => jv_Ev.m jv_i295 (pc' := 127) (st' := [.ref 209]) (G' := (jv_H K I L R)) rfl rfl (jv_m_getR (jv_rwK hW 208 11 7 (by decide)) rfl rfl (jv_rwR hW 208 0 209 (by decide))) Kz) ?_
        refine jv_Wp.lift (fun _ Kz => jv_Ev.steps jv_i295 1 (pc' := 129) (l' := [(5, .long ((vl_I f.z).toInt64 - (1 : Int64))), (4, .int (vl_I (8 + (76800 + f.d)))), (2, .int (vl_I w25)), (3, .int (I 205 (76800 + f.d))), (1, .int (vl_I f.z)), (0, .ref 196)]) (st' := [.int (vl_I (8 + (76800 + f.d))), .ref 209]) rfl Kz) ?_
        refine jv_Wp.lift (fun _ Kz => jv_Ev.m jv_i295 (pc' := 130) (st' := [.long (L 209 (8 + (76800 + f.d)))]) (G' := (jv_H K I L R)) rfl rfl (jv_m_laldv (jv_rwK hW 209 103 77200 (by decide)) rfl (vl_I_ix (by omega) (by decide)) rfl ((congrArg (L 209) (vl_I_nat (by omega))).trans rfl)) Kz) ?_
        refine jv_Wp.lift (fun _ Kz => jv_Ev.steps jv_i295 1 (pc' := 131) (l' := [(5, .long ((vl_I f.z).toInt64 - (1 : Int64))), (4, .int (vl_I (8 + (76800 + f.d)))), (2, .int (vl_I w25)), (3, .int (I 205 (76800 + f.d))), (1, .int (vl_I f.z)), (0, .ref 196)]) (st' := [.ref 196, .long (L 209 (8 + (76800 + f.d)))]) rfl Kz) ?_
        refine jv_Wp.lift (fun _ Kz => jv_Ev.m jv_i295 (pc' := 134) (st' := [.int (Int32.ofInt f.o), .long (L 209 (8 + (76800 + f.d)))]) (G' := (jv_H K I L R)) rfl rfl (jv_m_getI (jv_rwK hW 196 12 24 (by decide)) rfl rfl (vr_dI D)) Kz) ?_
        refine jv_Wp.lift (fun _ Kz => jv_Ev.steps jv_i295 6 (pc' := 141) (l' := [(5, .long ((vl_I f.z).toInt64 - (1 : Int64))), (4, .int (vl_I (8 + (76800 + f.d)))), (2, .int (vl_I w25)), (3, .int (I 205 (76800 + f.d))), (1, .int (vl_I f.z)), (0, .ref 196)]) (st' := [.int (lg_cmp (((L 209 (8 + (76800 + f.d))) + (Int32.ofInt f.o).toInt64) &&& ((vl_I f.z).toInt64 - (1 : Int64))) (0 : Int64))]) rfl Kz) ?_
        refine jv_Wp.cnd jv_i295 (pt := 148) (pe := 144) (p := (¬ (lg_cmp (((L 209 (8 + (76800 + f.d))) + (Int32.ofInt f.o).toInt64) &&& ((vl_I f.z).toInt64 - (1 : Int64))) (0 : Int64)) = 0)) (q := (¬ (((L 209 (8 + (76800 + f.d))) + (Int32.ofInt f.o).toInt64) &&& ((vl_I f.z).toInt64 - (1 : Int64))) = (0 : Int64))) rfl jv_bi_ne rfl rfl (not_congr (lg_cmp_eq (((L 209 (8 + (76800 + f.d))) + (Int32.ofInt f.o).toInt64) &&& ((vl_I f.z).toInt64 - (1 : Int64))) (0 : Int64))) (fun h28 => ?_) (fun h28 => ?_)
        · refine jv_Wp.lift (fun _ Kz => jv_Ev.steps jv_i295 4 (pc' := 154) (l' := [(7, .int (0 : Int32)), (5, .long ((vl_I f.z).toInt64 - (1 : Int64))), (4, .int (vl_I (8 + (76800 + f.d)))), (2, .int (vl_I w25)), (3, .int (I 205 (76800 + f.d))), (1, .int (vl_I f.z)), (0, .ref 196)]) (st' := [.int (0 : Int32), .int (vl_I w25)]) rfl Kz) ?_
          refine jv_Wp.lift (fun _ Kz => jv_Ev.br jv_i295 (pc' := 170) (st' := [.int (vl_I w25)]) rfl (by rfl) Kz) ?_
          refine jv_Wp.lift (fun _ Kz => jv_Ev.steps jv_i295 1 (pc' := 171) (l' := [(7, .int (0 : Int32)), (5, .long ((vl_I f.z).toInt64 - (1 : Int64))), (4, .int (vl_I (8 + (76800 + f.d)))), (2, .int (vl_I w25)), (3, .int (I 205 (76800 + f.d))), (1, .int (vl_I f.z)), (0, .ref 196)]) (st' := [.int (4 : Int32), .int (vl_I w25)]) rfl Kz) ?_
          obtain ⟨w36, hq36⟩ : ∃ x : Nat, ∀ _ : Unit, vx_fst w25 4 = x := ⟨_, fun _ => rfl⟩
          have fq36 : (w25 = 0 → w36 = 4) ∧ (4 = 0 → w36 = w25) ∧ (w36 = w25 ∨ w36 = 4) ∧ (w25 ≠ 0 → 4 ≠ 0 → w36 ≤ w25 ∧ w36 ≤ 4) := by rw [← hq36 ()]; exact vx_fst_g w25 4
          have Hf36 := vq_first (I := I) (L := L) (K := K) (R := R) (n := n) (sl := sl) w25 4 (by omega) (by omega)
          rw [hq36 ()] at Hf36
          refine jv_Wp.lift (fun _ Kz => jv_Ev.c jv_i295 (pc' := 174) (S' := [.int (vl_I w36)]) jv_i282 [.int (vl_I w25), .int (4 : Int32)] rfl rfl rfl rfl rfl rfl Hf36 rfl rfl Kz) ?_
          refine jv_Wp.lift (fun _ Kz => jv_Ev.steps jv_i295 4 (pc' := 178) (l' := [(2, .int (vl_I w36)), (7, .int (0 : Int32)), (5, .long ((vl_I f.z).toInt64 - (1 : Int64))), (4, .int (vl_I (8 + (76800 + f.d)))), (3, .int (I 205 (76800 + f.d))), (1, .int (vl_I f.z)), (0, .ref 196)]) (st' := [.ref 196, .ref 196, .int (vl_I w36)]) rfl Kz) ?_
          refine jv_Wp.lift (fun _ Kz => jv_Ev.m jv_i295 (pc' := 181) (st' := [.int (vl_I f.s), .ref 196, .int (vl_I w36)]) (G' := (jv_H K I L R)) rfl rfl (jv_m_getI (jv_rwK hW 196 12 24 (by decide)) rfl rfl D.2.2.1) Kz) ?_
          refine jv_Wp.lift (fun _ Kz => jv_Ev.c jv_i295 (pc' := 184) (S' := [.int (I 205 (76800 + f.s)), .int (vl_I w36)]) jv_i271 [.ref 196, .int (vl_I f.s)] rfl rfl rfl rfl (jv_cal rfl (jv_H_at (jv_rwK hW 196 12 24 (by decide))) rfl rfl) rfl (vq_sortOf f.s hW (by omega)) rfl rfl Kz) ?_
          refine jv_Wp.cnd jv_i295 (pt := 204) (pe := 187) (p := ((I 205 (76800 + f.s)) = 0)) (q := ((I 205 (76800 + f.s)) = 0)) rfl jv_bi_eq rfl rfl Iff.rfl (fun h29 => ?_) (fun h29 => ?_)
          · refine jv_Wp.lift (fun _ Kz => jv_Ev.steps jv_i295 1 (pc' := 205) (l' := [(2, .int (vl_I w36)), (7, .int (0 : Int32)), (5, .long ((vl_I f.z).toInt64 - (1 : Int64))), (4, .int (vl_I (8 + (76800 + f.d)))), (3, .int (I 205 (76800 + f.d))), (1, .int (vl_I f.z)), (0, .ref 196)]) (st' := [.int (0 : Int32), .int (vl_I w36)]) rfl Kz) ?_
            obtain ⟨w37, hq37⟩ : ∃ x : Nat, ∀ _ : Unit, vx_fst w36 0 = x := ⟨_, fun _ => rfl⟩
            have fq37 : (w36 = 0 → w37 = 0) ∧ (0 = 0 → w37 = w36) ∧ (w37 = w36 ∨ w37 = 0) ∧ (w36 ≠ 0 → 0 ≠ 0 → w37 ≤ w36 ∧ w37 ≤ 0) := by rw [← hq37 ()]; exact vx_fst_g w36 0
            have Hf37 := vq_first (I := I) (L := L) (K := K) (R := R) (n := n) (sl := sl) w36 0 (by omega) (by omega)
            rw [hq37 ()] at Hf37
            refine jv_Wp.lift (fun _ Kz => jv_Ev.c jv_i295 (pc' := 208) (S' := [.int (vl_I w37)]) jv_i282 [.int (vl_I w36), .int (0 : Int32)] rfl rfl rfl rfl rfl rfl Hf37 rfl rfl Kz) ?_
            refine jv_Wp.lift (fun _ Kz => jv_Ev.steps jv_i295 3 (pc' := 211) (l' := [(2, .int (vl_I w37)), (7, .int (0 : Int32)), (5, .long ((vl_I f.z).toInt64 - (1 : Int64))), (4, .int (vl_I (8 + (76800 + f.d)))), (3, .int (I 205 (76800 + f.d))), (1, .int (vl_I f.z)), (0, .ref 196)]) (st' := [.ref 196, .int (vl_I w37)]) rfl Kz) ?_
            refine jv_Wp.lift (fun _ Kz => jv_Ev.m jv_i295 (pc' := 214) (st' := [.int (Int32.ofInt f.i), .int (vl_I w37)]) (G' := (jv_H K I L R)) rfl rfl (jv_m_getI (jv_rwK hW 196 12 24 (by decide)) rfl rfl (vr_dJ D)) Kz) ?_
            refine jv_Wp.lift (fun _ Kz => jv_Ev.steps jv_i295 1 (pc' := 217) (l' := [(2, .int (vl_I w37)), (7, .int (0 : Int32)), (5, .long ((vl_I f.z).toInt64 - (1 : Int64))), (4, .int (vl_I (8 + (76800 + f.d)))), (3, .int (I 205 (76800 + f.d))), (1, .int (vl_I f.z)), (0, .ref 196)]) (st' := [.int (241 : Int32), .int (Int32.ofInt f.i), .int (vl_I w37)]) rfl Kz) ?_
            refine jv_Wp.cnd jv_i295 (pt := 242) (pe := 220) (p := (¬ (Int32.ofInt f.i) = (241 : Int32))) (q := (¬ (Int32.ofInt f.i) = (241 : Int32))) rfl jv_bc_ne rfl rfl Iff.rfl (fun _ => ?_) (fun hz => absurd h241 hz)
            refine jv_Wp.lift (fun _ Kz => jv_Ev.steps jv_i295 1 (pc' := 243) (l' := [(2, .int (vl_I w37)), (7, .int (0 : Int32)), (5, .long ((vl_I f.z).toInt64 - (1 : Int64))), (4, .int (vl_I (8 + (76800 + f.d)))), (3, .int (I 205 (76800 + f.d))), (1, .int (vl_I f.z)), (0, .ref 196)]) (st' := [.int (0 : Int32), .int (vl_I w37)]) rfl Kz) ?_
            obtain ⟨w38, hq38⟩ : ∃ x : Nat, ∀ _ : Unit, vx_fst w37 0 = x := ⟨_, fun _ => rfl⟩
            have fq38 : (w37 = 0 → w38 = 0) ∧ (0 = 0 → w38 = w37) ∧ (w38 = w37 ∨ w38 = 0) ∧ (w37 ≠ 0 → 0 ≠ 0 → w38 ≤ w37 ∧ w38 ≤ 0) := by rw [← hq38 ()]; exact vx_fst_g w37 0
            have Hf38 := vq_first (I := I) (L := L) (K := K) (R := R) (n := n) (sl := sl) w37 0 (by omega) (by omega)
            rw [hq38 ()] at Hf38
            refine jv_Wp.lift (fun _ Kz => jv_Ev.c jv_i295 (pc' := 246) (S' := [.int (vl_I w38)]) jv_i282 [.int (vl_I w37), .int (0 : Int32)] rfl rfl rfl rfl rfl rfl Hf38 rfl rfl Kz) ?_
            refine jv_Wp.lift (fun _ Kz => jv_Ev.steps jv_i295 2 (pc' := 248) (l' := [(2, .int (vl_I w38)), (7, .int (0 : Int32)), (5, .long ((vl_I f.z).toInt64 - (1 : Int64))), (4, .int (vl_I (8 + (76800 + f.d)))), (3, .int (I 205 (76800 + f.d))), (1, .int (vl_I f.z)), (0, .ref 196)]) (st' := [.int (vl_I w38)]) rfl Kz) ?_
            refine jv_Wp.cnd jv_i295 (pt := 253) (pe := 251) (p := ((vl_I w38) ≤ 0)) (q := ((vl_I w38) ≤ 0)) rfl jv_bi_le rfl rfl Iff.rfl (fun h30 => ?_) (fun h30 => ?_)
            · refine jv_Wp.lift (fun _ Kz => jv_Ev.steps jv_i295 1 (pc' := 254) (l' := [(2, .int (vl_I w38)), (7, .int (0 : Int32)), (5, .long ((vl_I f.z).toInt64 - (1 : Int64))), (4, .int (vl_I (8 + (76800 + f.d)))), (3, .int (I 205 (76800 + f.d))), (1, .int (vl_I f.z)), (0, .ref 196)]) (st' := [.ref 196]) rfl Kz) ?_
              refine jv_Wp.lift (fun _ Kz => jv_Ev.m jv_i295 (pc' := 257) (st' := [.int (Int32.ofInt f.i)]) (G' := (jv_H K I L R)) rfl rfl (jv_m_getI (jv_rwK hW 196 12 24 (by decide)) rfl rfl (vr_dJ D)) Kz) ?_
              refine jv_Wp.lift (fun _ Kz => jv_Ev.steps jv_i295 1 (pc' := 260) (l' := [(2, .int (vl_I w38)), (7, .int (0 : Int32)), (5, .long ((vl_I f.z).toInt64 - (1 : Int64))), (4, .int (vl_I (8 + (76800 + f.d)))), (3, .int (I 205 (76800 + f.d))), (1, .int (vl_I f.z)), (0, .ref 196)]) (st' := [.int (241 : Int32), .int (Int32.ofInt f.i)]) rfl Kz) ?_
              refine jv_Wp.cnd jv_i295 (pt := 272) (pe := 263) (p := (¬ (Int32.ofInt f.i) = (241 : Int32))) (q := (¬ (Int32.ofInt f.i) = (241 : Int32))) rfl jv_bc_ne rfl rfl Iff.rfl (fun _ => ?_) (fun hz => absurd h241 hz)
              refine jv_Wp.lift (fun _ Kz => jv_Ev.steps jv_i295 1 (pc' := 273) (l' := [(2, .int (vl_I w38)), (7, .int (0 : Int32)), (5, .long ((vl_I f.z).toInt64 - (1 : Int64))), (4, .int (vl_I (8 + (76800 + f.d)))), (3, .int (I 205 (76800 + f.d))), (1, .int (vl_I f.z)), (0, .ref 196)]) (st' := [.ref 196]) rfl Kz) ?_
              refine jv_Wp.lift (fun _ Kz => jv_Ev.m jv_i295 (pc' := 276) (st' := [.int (Int32.ofInt f.i)]) (G' := (jv_H K I L R)) rfl rfl (jv_m_getI (jv_rwK hW 196 12 24 (by decide)) rfl rfl (vr_dJ D)) Kz) ?_
              refine jv_Wp.lift (fun _ Kz => jv_Ev.steps jv_i295 1 (pc' := 277) (l' := [(2, .int (vl_I w38)), (7, .int (0 : Int32)), (5, .long ((vl_I f.z).toInt64 - (1 : Int64))), (4, .int (vl_I (8 + (76800 + f.d)))), (3, .int (I 205 (76800 + f.d))), (1, .int (vl_I f.z)), (0, .ref 196)]) (st' := [.int (2 : Int32), .int (Int32.ofInt f.i)]) rfl Kz) ?_
              refine jv_Wp.lift (fun _ Kz => jv_Ev.op jv_i295 (pc' := 278) (l' := [(2, .int (vl_I w38)), (7, .int (0 : Int32)), (5, .long ((vl_I f.z).toInt64 - (1 : Int64))), (4, .int (vl_I (8 + (76800 + f.d)))), (3, .int (I 205 (76800 + f.d))), (1, .int (vl_I f.z)), (0, .ref 196)]) (st' := [.int ((Int32.ofInt f.i) - (Int32.ofInt f.i) / (2 : Int32) * (2 : Int32))]) rfl (jv_op_irem (by decide)) Kz) ?_
              refine jv_Wp.lift (fun _ Kz => jv_Ev.steps jv_i295 1 (pc' := 279) (l' := [(2, .int (vl_I w38)), (7, .int (0 : Int32)), (5, .long ((vl_I f.z).toInt64 - (1 : Int64))), (4, .int (vl_I (8 + (76800 + f.d)))), (3, .int (I 205 (76800 + f.d))), (1, .int (vl_I f.z)), (0, .ref 196)]) (st' := [.int (1 : Int32), .int ((Int32.ofInt f.i) - (Int32.ofInt f.i) / (2 : Int32) * (2 : Int32))]) rfl Kz) ?_
              refine jv_Wp.cnd jv_i295 (pt := 291) (pe := 282) (p := (¬ ((Int32.ofInt f.i) - (Int32.ofInt f.i) / (2 : Int32) * (2 : Int32)) = (1 : Int32))) (q := (¬ ((Int32.ofInt f.i) - (Int32.ofInt f.i) / (2 : Int32) * (2 : Int32)) = (1 : Int32))) rfl jv_bc_ne rfl rfl Iff.rfl (fun h31 => ?_) (fun h31 => ?_)
              · refine jv_Wp.lift (fun _ Kz => jv_Ev.steps jv_i295 1 (pc' := 292) (l' := [(2, .int (vl_I w38)), (7, .int (0 : Int32)), (5, .long ((vl_I f.z).toInt64 - (1 : Int64))), (4, .int (vl_I (8 + (76800 + f.d)))), (3, .int (I 205 (76800 + f.d))), (1, .int (vl_I f.z)), (0, .ref 196)]) (st' := [.int (0 : Int32)]) rfl Kz) ?_
                refine jv_Wp.of (jv_Ev.ret jv_i295 rfl rfl) ?_
                rw [hQ]
                have td0 : ¬ zd = 0 := fun z => h1 ((vr_isN (L := L) okd hd11).mp ((hd ()).trans z))
                have td7 : zd = 7 := (hd ()).symm.trans ((vr_is (L := L) 7 (by decide) okd).mpr (Classical.not_not.mp h10))
                have ts0 : zs = 0 := (hs ()).symm.trans ((vr_isN (L := L) oks hs11).mpr h29)
                have nx1 : w38 ≤ 0 := (vl_I_le (a := w38) (b := 0) (by omega) (by omega)).mp h30
                have ev : vx_even (vr_T I L (76800 + f.d)).val f.o f.z = false := by rw [vr_valv (by rw [(vr_is (L := L) 7 (by decide) okd).mp ((hd ()).trans (by omega))]; rfl), ← vr_dO D, vx_even_r hz]; exact (by rw [decide_eq_false h28, Bool.and_false])
                have r7 := vx_r7' (M := M) (A := (vr_A I L 1024)) (o := f.o) (z := f.z) (w := true) ((hd ()).trans (show zd = 7 by omega))
                rw [hrr ()] at r7
                exact absurd (show False by omega) (fun z => z)
              · refine jv_Wp.lift (fun _ Kz => jv_Ev.steps jv_i295 2 (pc' := 284) (l' := [(2, .int (vl_I w38)), (7, .int (0 : Int32)), (5, .long ((vl_I f.z).toInt64 - (1 : Int64))), (4, .int (vl_I (8 + (76800 + f.d)))), (3, .int (I 205 (76800 + f.d))), (1, .int (vl_I f.z)), (0, .ref 196)]) (st' := [.ref 196, .ref 196]) rfl Kz) ?_
                refine jv_Wp.lift (fun _ Kz => jv_Ev.m jv_i295 (pc' := 287) (st' := [.int (vl_I f.s), .ref 196]) (G' := (jv_H K I L R)) rfl rfl (jv_m_getI (jv_rwK hW 196 12 24 (by decide)) rfl rfl D.2.2.1) Kz) ?_
                refine jv_Wp.lift (fun _ Kz => jv_Ev.steps jv_i295 1 (pc' := 288) (l' := [(2, .int (vl_I w38)), (7, .int (0 : Int32)), (5, .long ((vl_I f.z).toInt64 - (1 : Int64))), (4, .int (vl_I (8 + (76800 + f.d)))), (3, .int (I 205 (76800 + f.d))), (1, .int (vl_I f.z)), (0, .ref 196)]) (st' := [.int (vl_I f.z), .int (vl_I f.s), .ref 196]) rfl Kz) ?_
                obtain ⟨I39, L39, H39, T39, O39, F39⟩ := vq_setAny (I := I) (L := L) (R := R) (n := n) (sl := sl) f.s f.z hW hf (by omega) hz
                refine jv_Wp.lift (fun _ Kz => jv_Ev.c jv_i295 (pc' := 291) (S' := []) (G1 := (jv_H K I39 L39 R)) jv_i274 [.ref 196, .int (vl_I f.s), .int (vl_I f.z)] rfl rfl rfl rfl (jv_cal rfl (jv_H_at (jv_rwK hW 196 12 24 (by decide))) rfl rfl) rfl H39 rfl rfl Kz) ?_
                refine jv_Wp.lift (fun _ Kz => jv_Ev.steps jv_i295 1 (pc' := 292) (l' := [(2, .int (vl_I w38)), (7, .int (0 : Int32)), (5, .long ((vl_I f.z).toInt64 - (1 : Int64))), (4, .int (vl_I (8 + (76800 + f.d)))), (3, .int (I 205 (76800 + f.d))), (1, .int (vl_I f.z)), (0, .ref 196)]) (st' := [.int (0 : Int32)]) rfl Kz) ?_
                refine jv_Wp.of (jv_Ev.ret jv_i295 rfl rfl) ?_
                rw [hQ]
                have td0 : ¬ zd = 0 := fun z => h1 ((vr_isN (L := L) okd hd11).mp ((hd ()).trans z))
                have td7 : zd = 7 := (hd ()).symm.trans ((vr_is (L := L) 7 (by decide) okd).mpr (Classical.not_not.mp h10))
                have ts0 : zs = 0 := (hs ()).symm.trans ((vr_isN (L := L) oks hs11).mpr h29)
                have nx1 : w38 ≤ 0 := (vl_I_le (a := w38) (b := 0) (by omega) (by omega)).mp h30
                have ev : vx_even (vr_T I L (76800 + f.d)).val f.o f.z = false := by rw [vr_valv (by rw [(vr_is (L := L) 7 (by decide) okd).mp ((hd ()).trans (by omega))]; rfl), ← vr_dO D, vx_even_r hz]; exact (by rw [decide_eq_false h28, Bool.and_false])
                have r7 := vx_r7' (M := M) (A := (vr_A I L 1024)) (o := f.o) (z := f.z) (w := true) ((hd ()).trans (show zd = 7 by omega))
                rw [hrr ()] at r7
                exact absurd (show False by omega) (fun z => z)
            · refine jv_Wp.lift (fun _ Kz => jv_Ev.steps jv_i295 1 (pc' := 252) (l' := [(2, .int (vl_I w38)), (7, .int (0 : Int32)), (5, .long ((vl_I f.z).toInt64 - (1 : Int64))), (4, .int (vl_I (8 + (76800 + f.d)))), (3, .int (I 205 (76800 + f.d))), (1, .int (vl_I f.z)), (0, .ref 196)]) (st' := [.int (vl_I w38)]) rfl Kz) ?_
              refine jv_Wp.of (jv_Ev.ret jv_i295 rfl rfl) ?_
              rw [hQ]
              have td0 : ¬ zd = 0 := fun z => h1 ((vr_isN (L := L) okd hd11).mp ((hd ()).trans z))
              have td7 : zd = 7 := (hd ()).symm.trans ((vr_is (L := L) 7 (by decide) okd).mpr (Classical.not_not.mp h10))
              have ts0 : zs = 0 := (hs ()).symm.trans ((vr_isN (L := L) oks hs11).mpr h29)
              have nx1 : ¬ w38 ≤ 0 := fun z => h30 ((vl_I_le (a := w38) (b := 0) (by omega) (by omega)).mpr z)
              have ev : vx_even (vr_T I L (76800 + f.d)).val f.o f.z = false := by rw [vr_valv (by rw [(vr_is (L := L) 7 (by decide) okd).mp ((hd ()).trans (by omega))]; rfl), ← vr_dO D, vx_even_r hz]; exact (by rw [decide_eq_false h28, Bool.and_false])
              have r7 := vx_r7' (M := M) (A := (vr_A I L 1024)) (o := f.o) (z := f.z) (w := true) ((hd ()).trans (show zd = 7 by omega))
              rw [hrr ()] at r7
              have e : vx_atp M f (vr_A I L 1024) = (w38, (vr_A I L 1024)) := by
                by_cases c1 : zd = 0 ∨ zs = 0 ∨ (f.i = 241 ∧ z0 = 0)
                · rw [show w38 = 1 by omega]; exact vx_at1 (by rw [eD, eS, e0, hd (), hs (), h0 ()]; omega)
                · rw [show w38 = 4 by omega]; exact vx_at3 (by rw [eD, eS, e0, hd (), hs (), h0 ()]; omega) (by rw [eD, hd ()]; omega) (Or.inl (by rw [eD]; exact ev))
              exact ⟨_, _, by rw [← eQ, e], fun z => by rw [← eQ, e] at z; exact absurd (show w38 = 0 from z) (by omega), vr_fr_refl hf⟩
          · refine jv_Wp.lift (fun _ Kz => jv_Ev.steps jv_i295 2 (pc' := 189) (l' := [(2, .int (vl_I w36)), (7, .int (0 : Int32)), (5, .long ((vl_I f.z).toInt64 - (1 : Int64))), (4, .int (vl_I (8 + (76800 + f.d)))), (3, .int (I 205 (76800 + f.d))), (1, .int (vl_I f.z)), (0, .ref 196)]) (st' := [.ref 196, .ref 196, .int (vl_I w36)]) rfl Kz) ?_
            refine jv_Wp.lift (fun _ Kz => jv_Ev.m jv_i295 (pc' := 192) (st' := [.int (vl_I f.s), .ref 196, .int (vl_I w36)]) (G' := (jv_H K I L R)) rfl rfl (jv_m_getI (jv_rwK hW 196 12 24 (by decide)) rfl rfl D.2.2.1) Kz) ?_
            refine jv_Wp.lift (fun _ Kz => jv_Ev.c jv_i295 (pc' := 195) (S' := [.int (I 205 (76800 + f.s)), .int (vl_I w36)]) jv_i271 [.ref 196, .int (vl_I f.s)] rfl rfl rfl rfl (jv_cal rfl (jv_H_at (jv_rwK hW 196 12 24 (by decide))) rfl rfl) rfl (vq_sortOf f.s hW (by omega)) rfl rfl Kz) ?_
            refine jv_Wp.lift (fun _ Kz => jv_Ev.steps jv_i295 1 (pc' := 196) (l' := [(2, .int (vl_I w36)), (7, .int (0 : Int32)), (5, .long ((vl_I f.z).toInt64 - (1 : Int64))), (4, .int (vl_I (8 + (76800 + f.d)))), (3, .int (I 205 (76800 + f.d))), (1, .int (vl_I f.z)), (0, .ref 196)]) (st' := [.int (1 : Int32), .int (I 205 (76800 + f.s)), .int (vl_I w36)]) rfl Kz) ?_
            refine jv_Wp.cnd jv_i295 (pt := 204) (pe := 199) (p := ((I 205 (76800 + f.s)) = (1 : Int32))) (q := ((I 205 (76800 + f.s)) = (1 : Int32))) rfl jv_bc_eq rfl rfl Iff.rfl (fun h32 => ?_) (fun h32 => ?_)
            · refine jv_Wp.lift (fun _ Kz => jv_Ev.steps jv_i295 1 (pc' := 205) (l' := [(2, .int (vl_I w36)), (7, .int (0 : Int32)), (5, .long ((vl_I f.z).toInt64 - (1 : Int64))), (4, .int (vl_I (8 + (76800 + f.d)))), (3, .int (I 205 (76800 + f.d))), (1, .int (vl_I f.z)), (0, .ref 196)]) (st' := [.int (0 : Int32), .int (vl_I w36)]) rfl Kz) ?_
              obtain ⟨w40, hq40⟩ : ∃ x : Nat, ∀ _ : Unit, vx_fst w36 0 = x := ⟨_, fun _ => rfl⟩
              have fq40 : (w36 = 0 → w40 = 0) ∧ (0 = 0 → w40 = w36) ∧ (w40 = w36 ∨ w40 = 0) ∧ (w36 ≠ 0 → 0 ≠ 0 → w40 ≤ w36 ∧ w40 ≤ 0) := by rw [← hq40 ()]; exact vx_fst_g w36 0
              have Hf40 := vq_first (I := I) (L := L) (K := K) (R := R) (n := n) (sl := sl) w36 0 (by omega) (by omega)
              rw [hq40 ()] at Hf40
              refine jv_Wp.lift (fun _ Kz => jv_Ev.c jv_i295 (pc' := 208) (S' := [.int (vl_I w40)]) jv_i282 [.int (vl_I w36), .int (0 : Int32)] rfl rfl rfl rfl rfl rfl Hf40 rfl rfl Kz) ?_
              refine jv_Wp.lift (fun _ Kz => jv_Ev.steps jv_i295 3 (pc' := 211) (l' := [(2, .int (vl_I w40)), (7, .int (0 : Int32)), (5, .long ((vl_I f.z).toInt64 - (1 : Int64))), (4, .int (vl_I (8 + (76800 + f.d)))), (3, .int (I 205 (76800 + f.d))), (1, .int (vl_I f.z)), (0, .ref 196)]) (st' := [.ref 196, .int (vl_I w40)]) rfl Kz) ?_
              refine jv_Wp.lift (fun _ Kz => jv_Ev.m jv_i295 (pc' := 214) (st' := [.int (Int32.ofInt f.i), .int (vl_I w40)]) (G' := (jv_H K I L R)) rfl rfl (jv_m_getI (jv_rwK hW 196 12 24 (by decide)) rfl rfl (vr_dJ D)) Kz) ?_
              refine jv_Wp.lift (fun _ Kz => jv_Ev.steps jv_i295 1 (pc' := 217) (l' := [(2, .int (vl_I w40)), (7, .int (0 : Int32)), (5, .long ((vl_I f.z).toInt64 - (1 : Int64))), (4, .int (vl_I (8 + (76800 + f.d)))), (3, .int (I 205 (76800 + f.d))), (1, .int (vl_I f.z)), (0, .ref 196)]) (st' := [.int (241 : Int32), .int (Int32.ofInt f.i), .int (vl_I w40)]) rfl Kz) ?_
              refine jv_Wp.cnd jv_i295 (pt := 242) (pe := 220) (p := (¬ (Int32.ofInt f.i) = (241 : Int32))) (q := (¬ (Int32.ofInt f.i) = (241 : Int32))) rfl jv_bc_ne rfl rfl Iff.rfl (fun _ => ?_) (fun hz => absurd h241 hz)
              refine jv_Wp.lift (fun _ Kz => jv_Ev.steps jv_i295 1 (pc' := 243) (l' := [(2, .int (vl_I w40)), (7, .int (0 : Int32)), (5, .long ((vl_I f.z).toInt64 - (1 : Int64))), (4, .int (vl_I (8 + (76800 + f.d)))), (3, .int (I 205 (76800 + f.d))), (1, .int (vl_I f.z)), (0, .ref 196)]) (st' := [.int (0 : Int32), .int (vl_I w40)]) rfl Kz) ?_
              obtain ⟨w41, hq41⟩ : ∃ x : Nat, ∀ _ : Unit, vx_fst w40 0 = x := ⟨_, fun _ => rfl⟩
              have fq41 : (w40 = 0 → w41 = 0) ∧ (0 = 0 → w41 = w40) ∧ (w41 = w40 ∨ w41 = 0) ∧ (w40 ≠ 0 → 0 ≠ 0 → w41 ≤ w40 ∧ w41 ≤ 0) := by rw [← hq41 ()]; exact vx_fst_g w40 0
              have Hf41 := vq_first (I := I) (L := L) (K := K) (R := R) (n := n) (sl := sl) w40 0 (by omega) (by omega)
              rw [hq41 ()] at Hf41
              refine jv_Wp.lift (fun _ Kz => jv_Ev.c jv_i295 (pc' := 246) (S' := [.int (vl_I w41)]) jv_i282 [.int (vl_I w40), .int (0 : Int32)] rfl rfl rfl rfl rfl rfl Hf41 rfl rfl Kz) ?_
              refine jv_Wp.lift (fun _ Kz => jv_Ev.steps jv_i295 2 (pc' := 248) (l' := [(2, .int (vl_I w41)), (7, .int (0 : Int32)), (5, .long ((vl_I f.z).toInt64 - (1 : Int64))), (4, .int (vl_I (8 + (76800 + f.d)))), (3, .int (I 205 (76800 + f.d))), (1, .int (vl_I f.z)), (0, .ref 196)]) (st' := [.int (vl_I w41)]) rfl Kz) ?_
              refine jv_Wp.cnd jv_i295 (pt := 253) (pe := 251) (p := ((vl_I w41) ≤ 0)) (q := ((vl_I w41) ≤ 0)) rfl jv_bi_le rfl rfl Iff.rfl (fun h33 => ?_) (fun h33 => ?_)
              · refine jv_Wp.lift (fun _ Kz => jv_Ev.steps jv_i295 1 (pc' := 254) (l' := [(2, .int (vl_I w41)), (7, .int (0 : Int32)), (5, .long ((vl_I f.z).toInt64 - (1 : Int64))), (4, .int (vl_I (8 + (76800 + f.d)))), (3, .int (I 205 (76800 + f.d))), (1, .int (vl_I f.z)), (0, .ref 196)]) (st' := [.ref 196]) rfl Kz) ?_
                refine jv_Wp.lift (fun _ Kz => jv_Ev.m jv_i295 (pc' := 257) (st' := [.int (Int32.ofInt f.i)]) (G' := (jv_H K I L R)) rfl rfl (jv_m_getI (jv_rwK hW 196 12 24 (by decide)) rfl rfl (vr_dJ D)) Kz) ?_
                refine jv_Wp.lift (fun _ Kz => jv_Ev.steps jv_i295 1 (pc' := 260) (l' := [(2, .int (vl_I w41)), (7, .int (0 : Int32)), (5, .long ((vl_I f.z).toInt64 - (1 : Int64))), (4, .int (vl_I (8 + (76800 + f.d)))), (3, .int (I 205 (76800 + f.d))), (1, .int (vl_I f.z)), (0, .ref 196)]) (st' := [.int (241 : Int32), .int (Int32.ofInt f.i)]) rfl Kz) ?_
                refine jv_Wp.cnd jv_i295 (pt := 272) (pe := 263) (p := (¬ (Int32.ofInt f.i) = (241 : Int32))) (q := (¬ (Int32.ofInt f.i) = (241 : Int32))) rfl jv_bc_ne rfl rfl Iff.rfl (fun _ => ?_) (fun hz => absurd h241 hz)
                refine jv_Wp.lift (fun _ Kz => jv_Ev.steps jv_i295 1 (pc' := 273) (l' := [(2, .int (vl_I w41)), (7, .int (0 : Int32)), (5, .long ((vl_I f.z).toInt64 - (1 : Int64))), (4, .int (vl_I (8 + (76800 + f.d)))), (3, .int (I 205 (76800 + f.d))), (1, .int (vl_I f.z)), (0, .ref 196)]) (st' := [.ref 196]) rfl Kz) ?_
                refine jv_Wp.lift (fun _ Kz => jv_Ev.m jv_i295 (pc' := 276) (st' := [.int (Int32.ofInt f.i)]) (G' := (jv_H K I L R)) rfl rfl (jv_m_getI (jv_rwK hW 196 12 24 (by decide)) rfl rfl (vr_dJ D)) Kz) ?_
                refine jv_Wp.lift (fun _ Kz => jv_Ev.steps jv_i295 1 (pc' := 277) (l' := [(2, .int (vl_I w41)), (7, .int (0 : Int32)), (5, .long ((vl_I f.z).toInt64 - (1 : Int64))), (4, .int (vl_I (8 + (76800 + f.d)))), (3, .int (I 205 (76800 + f.d))), (1, .int (vl_I f.z)), (0, .ref 196)]) (st' := [.int (2 : Int32), .int (Int32.ofInt f.i)]) rfl Kz) ?_
                refine jv_Wp.lift (fun _ Kz => jv_Ev.op jv_i295 (pc' := 278) (l' := [(2, .int (vl_I w41)), (7, .int (0 : Int32)), (5, .long ((vl_I f.z).toInt64 - (1 : Int64))), (4, .int (vl_I (8 + (76800 + f.d)))), (3, .int (I 205 (76800 + f.d))), (1, .int (vl_I f.z)), (0, .ref 196)]) (st' := [.int ((Int32.ofInt f.i) - (Int32.ofInt f.i) / (2 : Int32) * (2 : Int32))]) rfl (jv_op_irem (by decide)) Kz) ?_
                refine jv_Wp.lift (fun _ Kz => jv_Ev.steps jv_i295 1 (pc' := 279) (l' := [(2, .int (vl_I w41)), (7, .int (0 : Int32)), (5, .long ((vl_I f.z).toInt64 - (1 : Int64))), (4, .int (vl_I (8 + (76800 + f.d)))), (3, .int (I 205 (76800 + f.d))), (1, .int (vl_I f.z)), (0, .ref 196)]) (st' := [.int (1 : Int32), .int ((Int32.ofInt f.i) - (Int32.ofInt f.i) / (2 : Int32) * (2 : Int32))]) rfl Kz) ?_
                refine jv_Wp.cnd jv_i295 (pt := 291) (pe := 282) (p := (¬ ((Int32.ofInt f.i) - (Int32.ofInt f.i) / (2 : Int32) * (2 : Int32)) = (1 : Int32))) (q := (¬ ((Int32.ofInt f.i) - (Int32.ofInt f.i) / (2 : Int32) * (2 : Int32)) = (1 : Int32))) rfl jv_bc_ne rfl rfl Iff.rfl (fun h34 => ?_) (fun h34 => ?_)
                · refine jv_Wp.lift (fun _ Kz => jv_Ev.steps jv_i295 1 (pc' := 292) (l' := [(2, .int (vl_I w41)), (7, .int (0 : Int32)), (5, .long ((vl_I f.z).toInt64 - (1 : Int64))), (4, .int (vl_I (8 + (76800 + f.d)))), (3, .int (I 205 (76800 + f.d))), (1, .int (vl_I f.z)), (0, .ref 196)]) (st' := [.int (0 : Int32)]) rfl Kz) ?_
                  refine jv_Wp.of (jv_Ev.ret jv_i295 rfl rfl) ?_
                  rw [hQ]
                  have td0 : ¬ zd = 0 := fun z => h1 ((vr_isN (L := L) okd hd11).mp ((hd ()).trans z))
                  have td7 : zd = 7 := (hd ()).symm.trans ((vr_is (L := L) 7 (by decide) okd).mpr (Classical.not_not.mp h10))
                  have ts0 : ¬ zs = 0 := fun z => h29 ((vr_isN (L := L) oks hs11).mp ((hs ()).trans z))
                  have ts1 : zs = 1 := (hs ()).symm.trans ((vr_is (L := L) 1 (by decide) oks).mpr h32)
                  have nx1 : w41 ≤ 0 := (vl_I_le (a := w41) (b := 0) (by omega) (by omega)).mp h33
                  have ev : vx_even (vr_T I L (76800 + f.d)).val f.o f.z = false := by rw [vr_valv (by rw [(vr_is (L := L) 7 (by decide) okd).mp ((hd ()).trans (by omega))]; rfl), ← vr_dO D, vx_even_r hz]; exact (by rw [decide_eq_false h28, Bool.and_false])
                  have r7 := vx_r7' (M := M) (A := (vr_A I L 1024)) (o := f.o) (z := f.z) (w := true) ((hd ()).trans (show zd = 7 by omega))
                  rw [hrr ()] at r7
                  exact absurd (show False by omega) (fun z => z)
                · refine jv_Wp.lift (fun _ Kz => jv_Ev.steps jv_i295 2 (pc' := 284) (l' := [(2, .int (vl_I w41)), (7, .int (0 : Int32)), (5, .long ((vl_I f.z).toInt64 - (1 : Int64))), (4, .int (vl_I (8 + (76800 + f.d)))), (3, .int (I 205 (76800 + f.d))), (1, .int (vl_I f.z)), (0, .ref 196)]) (st' := [.ref 196, .ref 196]) rfl Kz) ?_
                  refine jv_Wp.lift (fun _ Kz => jv_Ev.m jv_i295 (pc' := 287) (st' := [.int (vl_I f.s), .ref 196]) (G' := (jv_H K I L R)) rfl rfl (jv_m_getI (jv_rwK hW 196 12 24 (by decide)) rfl rfl D.2.2.1) Kz) ?_
                  refine jv_Wp.lift (fun _ Kz => jv_Ev.steps jv_i295 1 (pc' := 288) (l' := [(2, .int (vl_I w41)), (7, .int (0 : Int32)), (5, .long ((vl_I f.z).toInt64 - (1 : Int64))), (4, .int (vl_I (8 + (76800 + f.d)))), (3, .int (I 205 (76800 + f.d))), (1, .int (vl_I f.z)), (0, .ref 196)]) (st' := [.int (vl_I f.z), .int (vl_I f.s), .ref 196]) rfl Kz) ?_
                  obtain ⟨I42, L42, H42, T42, O42, F42⟩ := vq_setAny (I := I) (L := L) (R := R) (n := n) (sl := sl) f.s f.z hW hf (by omega) hz
                  refine jv_Wp.lift (fun _ Kz => jv_Ev.c jv_i295 (pc' := 291) (S' := []) (G1 := (jv_H K I42 L42 R)) jv_i274 [.ref 196, .int (vl_I f.s), .int (vl_I f.z)] rfl rfl rfl rfl (jv_cal rfl (jv_H_at (jv_rwK hW 196 12 24 (by decide))) rfl rfl) rfl H42 rfl rfl Kz) ?_
                  refine jv_Wp.lift (fun _ Kz => jv_Ev.steps jv_i295 1 (pc' := 292) (l' := [(2, .int (vl_I w41)), (7, .int (0 : Int32)), (5, .long ((vl_I f.z).toInt64 - (1 : Int64))), (4, .int (vl_I (8 + (76800 + f.d)))), (3, .int (I 205 (76800 + f.d))), (1, .int (vl_I f.z)), (0, .ref 196)]) (st' := [.int (0 : Int32)]) rfl Kz) ?_
                  refine jv_Wp.of (jv_Ev.ret jv_i295 rfl rfl) ?_
                  rw [hQ]
                  have td0 : ¬ zd = 0 := fun z => h1 ((vr_isN (L := L) okd hd11).mp ((hd ()).trans z))
                  have td7 : zd = 7 := (hd ()).symm.trans ((vr_is (L := L) 7 (by decide) okd).mpr (Classical.not_not.mp h10))
                  have ts0 : ¬ zs = 0 := fun z => h29 ((vr_isN (L := L) oks hs11).mp ((hs ()).trans z))
                  have ts1 : zs = 1 := (hs ()).symm.trans ((vr_is (L := L) 1 (by decide) oks).mpr h32)
                  have nx1 : w41 ≤ 0 := (vl_I_le (a := w41) (b := 0) (by omega) (by omega)).mp h33
                  have ev : vx_even (vr_T I L (76800 + f.d)).val f.o f.z = false := by rw [vr_valv (by rw [(vr_is (L := L) 7 (by decide) okd).mp ((hd ()).trans (by omega))]; rfl), ← vr_dO D, vx_even_r hz]; exact (by rw [decide_eq_false h28, Bool.and_false])
                  have r7 := vx_r7' (M := M) (A := (vr_A I L 1024)) (o := f.o) (z := f.z) (w := true) ((hd ()).trans (show zd = 7 by omega))
                  rw [hrr ()] at r7
                  exact absurd (show False by omega) (fun z => z)
              · refine jv_Wp.lift (fun _ Kz => jv_Ev.steps jv_i295 1 (pc' := 252) (l' := [(2, .int (vl_I w41)), (7, .int (0 : Int32)), (5, .long ((vl_I f.z).toInt64 - (1 : Int64))), (4, .int (vl_I (8 + (76800 + f.d)))), (3, .int (I 205 (76800 + f.d))), (1, .int (vl_I f.z)), (0, .ref 196)]) (st' := [.int (vl_I w41)]) rfl Kz) ?_
                refine jv_Wp.of (jv_Ev.ret jv_i295 rfl rfl) ?_
                rw [hQ]
                have td0 : ¬ zd = 0 := fun z => h1 ((vr_isN (L := L) okd hd11).mp ((hd ()).trans z))
                have td7 : zd = 7 := (hd ()).symm.trans ((vr_is (L := L) 7 (by decide) okd).mpr (Classical.not_not.mp h10))
                have ts0 : ¬ zs = 0 := fun z => h29 ((vr_isN (L := L) oks hs11).mp ((hs ()).trans z))
                have ts1 : zs = 1 := (hs ()).symm.trans ((vr_is (L := L) 1 (by decide) oks).mpr h32)
                have nx1 : ¬ w41 ≤ 0 := fun z => h33 ((vl_I_le (a := w41) (b := 0) (by omega) (by omega)).mpr z)
                have ev : vx_even (vr_T I L (76800 + f.d)).val f.o f.z = false := by rw [vr_valv (by rw [(vr_is (L := L) 7 (by decide) okd).mp ((hd ()).trans (by omega))]; rfl), ← vr_dO D, vx_even_r hz]; exact (by rw [decide_eq_false h28, Bool.and_false])
                have r7 := vx_r7' (M := M) (A := (vr_A I L 1024)) (o := f.o) (z := f.z) (w := true) ((hd ()).trans (show zd = 7 by omega))
                rw [hrr ()] at r7
                have e : vx_atp M f (vr_A I L 1024) = (w41, (vr_A I L 1024)) := by
                  by_cases c1 : zd = 0 ∨ zs = 0 ∨ (f.i = 241 ∧ z0 = 0)
                  · rw [show w41 = 1 by omega]; exact vx_at1 (by rw [eD, eS, e0, hd (), hs (), h0 ()]; omega)
                  · rw [show w41 = 4 by omega]; exact vx_at3 (by rw [eD, eS, e0, hd (), hs (), h0 ()]; omega) (by rw [eD, hd ()]; omega) (Or.inl (by rw [eD]; exact ev))
                exact ⟨_, _, by rw [← eQ, e], fun z => by rw [← eQ, e] at z; exact absurd (show w41 = 0 from z) (by omega), vr_fr_refl hf⟩
            · refine jv_Wp.lift (fun _ Kz => jv_Ev.steps jv_i295 2 (pc' := 205) (l' := [(2, .int (vl_I w36)), (7, .int (0 : Int32)), (5, .long ((vl_I f.z).toInt64 - (1 : Int64))), (4, .int (vl_I (8 + (76800 + f.d)))), (3, .int (I 205 (76800 + f.d))), (1, .int (vl_I f.z)), (0, .ref 196)]) (st' := [.int (6 : Int32), .int (vl_I w36)]) rfl Kz) ?_
              obtain ⟨w43, hq43⟩ : ∃ x : Nat, ∀ _ : Unit, vx_fst w36 6 = x := ⟨_, fun _ => rfl⟩
              have fq43 : (w36 = 0 → w43 = 6) ∧ (6 = 0 → w43 = w36) ∧ (w43 = w36 ∨ w43 = 6) ∧ (w36 ≠ 0 → 6 ≠ 0 → w43 ≤ w36 ∧ w43 ≤ 6) := by rw [← hq43 ()]; exact vx_fst_g w36 6
              have Hf43 := vq_first (I := I) (L := L) (K := K) (R := R) (n := n) (sl := sl) w36 6 (by omega) (by omega)
              rw [hq43 ()] at Hf43
              refine jv_Wp.lift (fun _ Kz => jv_Ev.c jv_i295 (pc' := 208) (S' := [.int (vl_I w43)]) jv_i282 [.int (vl_I w36), .int (6 : Int32)] rfl rfl rfl rfl rfl rfl Hf43 rfl rfl Kz) ?_
              refine jv_Wp.lift (fun _ Kz => jv_Ev.steps jv_i295 3 (pc' := 211) (l' := [(2, .int (vl_I w43)), (7, .int (0 : Int32)), (5, .long ((vl_I f.z).toInt64 - (1 : Int64))), (4, .int (vl_I (8 + (76800 + f.d)))), (3, .int (I 205 (76800 + f.d))), (1, .int (vl_I f.z)), (0, .ref 196)]) (st' := [.ref 196, .int (vl_I w43)]) rfl Kz) ?_
              refine jv_Wp.lift (fun _ Kz => jv_Ev.m jv_i295 (pc' := 214) (st' := [.int (Int32.ofInt f.i), .int (vl_I w43)]) (G' := (jv_H K I L R)) rfl rfl (jv_m_getI (jv_rwK hW 196 12 24 (by decide)) rfl rfl (vr_dJ D)) Kz) ?_
              refine jv_Wp.lift (fun _ Kz => jv_Ev.steps jv_i295 1 (pc' := 217) (l' := [(2, .int (vl_I w43)), (7, .int (0 : Int32)), (5, .long ((vl_I f.z).toInt64 - (1 : Int64))), (4, .int (vl_I (8 + (76800 + f.d)))), (3, .int (I 205 (76800 + f.d))), (1, .int (vl_I f.z)), (0, .ref 196)]) (st' := [.int (241 : Int32), .int (Int32.ofInt f.i), .int (vl_I w43)]) rfl Kz) ?_
              refine jv_Wp.cnd jv_i295 (pt := 242) (pe := 220) (p := (¬ (Int32.ofInt f.i) = (241 : Int32))) (q := (¬ (Int32.ofInt f.i) = (241 : Int32))) rfl jv_bc_ne rfl rfl Iff.rfl (fun _ => ?_) (fun hz => absurd h241 hz)
              refine jv_Wp.lift (fun _ Kz => jv_Ev.steps jv_i295 1 (pc' := 243) (l' := [(2, .int (vl_I w43)), (7, .int (0 : Int32)), (5, .long ((vl_I f.z).toInt64 - (1 : Int64))), (4, .int (vl_I (8 + (76800 + f.d)))), (3, .int (I 205 (76800 + f.d))), (1, .int (vl_I f.z)), (0, .ref 196)]) (st' := [.int (0 : Int32), .int (vl_I w43)]) rfl Kz) ?_
              obtain ⟨w44, hq44⟩ : ∃ x : Nat, ∀ _ : Unit, vx_fst w43 0 = x := ⟨_, fun _ => rfl⟩
              have fq44 : (w43 = 0 → w44 = 0) ∧ (0 = 0 → w44 = w43) ∧ (w44 = w43 ∨ w44 = 0) ∧ (w43 ≠ 0 → 0 ≠ 0 → w44 ≤ w43 ∧ w44 ≤ 0) := by rw [← hq44 ()]; exact vx_fst_g w43 0
              have Hf44 := vq_first (I := I) (L := L) (K := K) (R := R) (n := n) (sl := sl) w43 0 (by omega) (by omega)
              rw [hq44 ()] at Hf44
              refine jv_Wp.lift (fun _ Kz => jv_Ev.c jv_i295 (pc' := 246) (S' := [.int (vl_I w44)]) jv_i282 [.int (vl_I w43), .int (0 : Int32)] rfl rfl rfl rfl rfl rfl Hf44 rfl rfl Kz) ?_
              refine jv_Wp.lift (fun _ Kz => jv_Ev.steps jv_i295 2 (pc' := 248) (l' := [(2, .int (vl_I w44)), (7, .int (0 : Int32)), (5, .long ((vl_I f.z).toInt64 - (1 : Int64))), (4, .int (vl_I (8 + (76800 + f.d)))), (3, .int (I 205 (76800 + f.d))), (1, .int (vl_I f.z)), (0, .ref 196)]) (st' := [.int (vl_I w44)]) rfl Kz) ?_
              refine jv_Wp.cnd jv_i295 (pt := 253) (pe := 251) (p := ((vl_I w44) ≤ 0)) (q := ((vl_I w44) ≤ 0)) rfl jv_bi_le rfl rfl Iff.rfl (fun h35 => ?_) (fun h35 => ?_)
              · refine jv_Wp.lift (fun _ Kz => jv_Ev.steps jv_i295 1 (pc' := 254) (l' := [(2, .int (vl_I w44)), (7, .int (0 : Int32)), (5, .long ((vl_I f.z).toInt64 - (1 : Int64))), (4, .int (vl_I (8 + (76800 + f.d)))), (3, .int (I 205 (76800 + f.d))), (1, .int (vl_I f.z)), (0, .ref 196)]) (st' := [.ref 196]) rfl Kz) ?_
                refine jv_Wp.lift (fun _ Kz => jv_Ev.m jv_i295 (pc' := 257) (st' := [.int (Int32.ofInt f.i)]) (G' := (jv_H K I L R)) rfl rfl (jv_m_getI (jv_rwK hW 196 12 24 (by decide)) rfl rfl (vr_dJ D)) Kz) ?_
                refine jv_Wp.lift (fun _ Kz => jv_Ev.steps jv_i295 1 (pc' := 260) (l' := [(2, .int (vl_I w44)), (7, .int (0 : Int32)), (5, .long ((vl_I f.z).toInt64 - (1 : Int64))), (4, .int (vl_I (8 + (76800 + f.d)))), (3, .int (I 205 (76800 + f.d))), (1, .int (vl_I f.z)), (0, .ref 196)]) (st' := [.int (241 : Int32), .int (Int32.ofInt f.i)]) rfl Kz) ?_
                refine jv_Wp.cnd jv_i295 (pt := 272) (pe := 263) (p := (¬ (Int32.ofInt f.i) = (241 : Int32))) (q := (¬ (Int32.ofInt f.i) = (241 : Int32))) rfl jv_bc_ne rfl rfl Iff.rfl (fun _ => ?_) (fun hz => absurd h241 hz)
                refine jv_Wp.lift (fun _ Kz => jv_Ev.steps jv_i295 1 (pc' := 273) (l' := [(2, .int (vl_I w44)), (7, .int (0 : Int32)), (5, .long ((vl_I f.z).toInt64 - (1 : Int64))), (4, .int (vl_I (8 + (76800 + f.d)))), (3, .int (I 205 (76800 + f.d))), (1, .int (vl_I f.z)), (0, .ref 196)]) (st' := [.ref 196]) rfl Kz) ?_
                refine jv_Wp.lift (fun _ Kz => jv_Ev.m jv_i295 (pc' := 276) (st' := [.int (Int32.ofInt f.i)]) (G' := (jv_H K I L R)) rfl rfl (jv_m_getI (jv_rwK hW 196 12 24 (by decide)) rfl rfl (vr_dJ D)) Kz) ?_
                refine jv_Wp.lift (fun _ Kz => jv_Ev.steps jv_i295 1 (pc' := 277) (l' := [(2, .int (vl_I w44)), (7, .int (0 : Int32)), (5, .long ((vl_I f.z).toInt64 - (1 : Int64))), (4, .int (vl_I (8 + (76800 + f.d)))), (3, .int (I 205 (76800 + f.d))), (1, .int (vl_I f.z)), (0, .ref 196)]) (st' := [.int (2 : Int32), .int (Int32.ofInt f.i)]) rfl Kz) ?_
                refine jv_Wp.lift (fun _ Kz => jv_Ev.op jv_i295 (pc' := 278) (l' := [(2, .int (vl_I w44)), (7, .int (0 : Int32)), (5, .long ((vl_I f.z).toInt64 - (1 : Int64))), (4, .int (vl_I (8 + (76800 + f.d)))), (3, .int (I 205 (76800 + f.d))), (1, .int (vl_I f.z)), (0, .ref 196)]) (st' := [.int ((Int32.ofInt f.i) - (Int32.ofInt f.i) / (2 : Int32) * (2 : Int32))]) rfl (jv_op_irem (by decide)) Kz) ?_
                refine jv_Wp.lift (fun _ Kz => jv_Ev.steps jv_i295 1 (pc' := 279) (l' := [(2, .int (vl_I w44)), (7, .int (0 : Int32)), (5, .long ((vl_I f.z).toInt64 - (1 : Int64))), (4, .int (vl_I (8 + (76800 + f.d)))), (3, .int (I 205 (76800 + f.d))), (1, .int (vl_I f.z)), (0, .ref 196)]) (st' := [.int (1 : Int32), .int ((Int32.ofInt f.i) - (Int32.ofInt f.i) / (2 : Int32) * (2 : Int32))]) rfl Kz) ?_
                refine jv_Wp.cnd jv_i295 (pt := 291) (pe := 282) (p := (¬ ((Int32.ofInt f.i) - (Int32.ofInt f.i) / (2 : Int32) * (2 : Int32)) = (1 : Int32))) (q := (¬ ((Int32.ofInt f.i) - (Int32.ofInt f.i) / (2 : Int32) * (2 : Int32)) = (1 : Int32))) rfl jv_bc_ne rfl rfl Iff.rfl (fun h36 => ?_) (fun h36 => ?_)
                · refine jv_Wp.lift (fun _ Kz => jv_Ev.steps jv_i295 1 (pc' := 292) (l' := [(2, .int (vl_I w44)), (7, .int (0 : Int32)), (5, .long ((vl_I f.z).toInt64 - (1 : Int64))), (4, .int (vl_I (8 + (76800 + f.d)))), (3, .int (I 205 (76800 + f.d))), (1, .int (vl_I f.z)), (0, .ref 196)]) (st' := [.int (0 : Int32)]) rfl Kz) ?_
                  refine jv_Wp.of (jv_Ev.ret jv_i295 rfl rfl) ?_
                  rw [hQ]
                  have td0 : ¬ zd = 0 := fun z => h1 ((vr_isN (L := L) okd hd11).mp ((hd ()).trans z))
                  have td7 : zd = 7 := (hd ()).symm.trans ((vr_is (L := L) 7 (by decide) okd).mpr (Classical.not_not.mp h10))
                  have ts0 : ¬ zs = 0 := fun z => h29 ((vr_isN (L := L) oks hs11).mp ((hs ()).trans z))
                  have ts1 : ¬ zs = 1 := fun z => h32 ((vr_is (L := L) 1 (by decide) oks).mp ((hs ()).trans z))
                  have nx1 : w44 ≤ 0 := (vl_I_le (a := w44) (b := 0) (by omega) (by omega)).mp h35
                  have ev : vx_even (vr_T I L (76800 + f.d)).val f.o f.z = false := by rw [vr_valv (by rw [(vr_is (L := L) 7 (by decide) okd).mp ((hd ()).trans (by omega))]; rfl), ← vr_dO D, vx_even_r hz]; exact (by rw [decide_eq_false h28, Bool.and_false])
                  have r7 := vx_r7' (M := M) (A := (vr_A I L 1024)) (o := f.o) (z := f.z) (w := true) ((hd ()).trans (show zd = 7 by omega))
                  rw [hrr ()] at r7
                  exact absurd (show False by omega) (fun z => z)
                · refine jv_Wp.lift (fun _ Kz => jv_Ev.steps jv_i295 2 (pc' := 284) (l' := [(2, .int (vl_I w44)), (7, .int (0 : Int32)), (5, .long ((vl_I f.z).toInt64 - (1 : Int64))), (4, .int (vl_I (8 + (76800 + f.d)))), (3, .int (I 205 (76800 + f.d))), (1, .int (vl_I f.z)), (0, .ref 196)]) (st' := [.ref 196, .ref 196]) rfl Kz) ?_
                  refine jv_Wp.lift (fun _ Kz => jv_Ev.m jv_i295 (pc' := 287) (st' := [.int (vl_I f.s), .ref 196]) (G' := (jv_H K I L R)) rfl rfl (jv_m_getI (jv_rwK hW 196 12 24 (by decide)) rfl rfl D.2.2.1) Kz) ?_
                  refine jv_Wp.lift (fun _ Kz => jv_Ev.steps jv_i295 1 (pc' := 288) (l' := [(2, .int (vl_I w44)), (7, .int (0 : Int32)), (5, .long ((vl_I f.z).toInt64 - (1 : Int64))), (4, .int (vl_I (8 + (76800 + f.d)))), (3, .int (I 205 (76800 + f.d))), (1, .int (vl_I f.z)), (0, .ref 196)]) (st' := [.int (vl_I f.z), .int (vl_I f.s), .ref 196]) rfl Kz) ?_
                  obtain ⟨I45, L45, H45, T45, O45, F45⟩ := vq_setAny (I := I) (L := L) (R := R) (n := n) (sl := sl) f.s f.z hW hf (by omega) hz
                  refine jv_Wp.lift (fun _ Kz => jv_Ev.c jv_i295 (pc' := 291) (S' := []) (G1 := (jv_H K I45 L45 R)) jv_i274 [.ref 196, .int (vl_I f.s), .int (vl_I f.z)] rfl rfl rfl rfl (jv_cal rfl (jv_H_at (jv_rwK hW 196 12 24 (by decide))) rfl rfl) rfl H45 rfl rfl Kz) ?_
                  refine jv_Wp.lift (fun _ Kz => jv_Ev.steps jv_i295 1 (pc' := 292) (l' := [(2, .int (vl_I w44)), (7, .int (0 : Int32)), (5, .long ((vl_I f.z).toInt64 - (1 : Int64))), (4, .int (vl_I (8 + (76800 + f.d)))), (3, .int (I 205 (76800 + f.d))), (1, .int (vl_I f.z)), (0, .ref 196)]) (st' := [.int (0 : Int32)]) rfl Kz) ?_
                  refine jv_Wp.of (jv_Ev.ret jv_i295 rfl rfl) ?_
                  rw [hQ]
                  have td0 : ¬ zd = 0 := fun z => h1 ((vr_isN (L := L) okd hd11).mp ((hd ()).trans z))
                  have td7 : zd = 7 := (hd ()).symm.trans ((vr_is (L := L) 7 (by decide) okd).mpr (Classical.not_not.mp h10))
                  have ts0 : ¬ zs = 0 := fun z => h29 ((vr_isN (L := L) oks hs11).mp ((hs ()).trans z))
                  have ts1 : ¬ zs = 1 := fun z => h32 ((vr_is (L := L) 1 (by decide) oks).mp ((hs ()).trans z))
                  have nx1 : w44 ≤ 0 := (vl_I_le (a := w44) (b := 0) (by omega) (by omega)).mp h35
                  have ev : vx_even (vr_T I L (76800 + f.d)).val f.o f.z = false := by rw [vr_valv (by rw [(vr_is (L := L) 7 (by decide) okd).mp ((hd ()).trans (by omega))]; rfl), ← vr_dO D, vx_even_r hz]; exact (by rw [decide_eq_false h28, Bool.and_false])
                  have r7 := vx_r7' (M := M) (A := (vr_A I L 1024)) (o := f.o) (z := f.z) (w := true) ((hd ()).trans (show zd = 7 by omega))
                  rw [hrr ()] at r7
                  exact absurd (show False by omega) (fun z => z)
              · refine jv_Wp.lift (fun _ Kz => jv_Ev.steps jv_i295 1 (pc' := 252) (l' := [(2, .int (vl_I w44)), (7, .int (0 : Int32)), (5, .long ((vl_I f.z).toInt64 - (1 : Int64))), (4, .int (vl_I (8 + (76800 + f.d)))), (3, .int (I 205 (76800 + f.d))), (1, .int (vl_I f.z)), (0, .ref 196)]) (st' := [.int (vl_I w44)]) rfl Kz) ?_
                refine jv_Wp.of (jv_Ev.ret jv_i295 rfl rfl) ?_
                rw [hQ]
                have td0 : ¬ zd = 0 := fun z => h1 ((vr_isN (L := L) okd hd11).mp ((hd ()).trans z))
                have td7 : zd = 7 := (hd ()).symm.trans ((vr_is (L := L) 7 (by decide) okd).mpr (Classical.not_not.mp h10))
                have ts0 : ¬ zs = 0 := fun z => h29 ((vr_isN (L := L) oks hs11).mp ((hs ()).trans z))
                have ts1 : ¬ zs = 1 := fun z => h32 ((vr_is (L := L) 1 (by decide) oks).mp ((hs ()).trans z))
                have nx1 : ¬ w44 ≤ 0 := fun z => h35 ((vl_I_le (a := w44) (b := 0) (by omega) (by omega)).mpr z)
                have ev : vx_even (vr_T I L (76800 + f.d)).val f.o f.z = false := by rw [vr_valv (by rw [(vr_is (L := L) 7 (by decide) okd).mp ((hd ()).trans (by omega))]; rfl), ← vr_dO D, vx_even_r hz]; exact (by rw [decide_eq_false h28, Bool.and_false])
                have r7 := vx_r7' (M := M) (A := (vr_A I L 1024)) (o := f.o) (z := f.z) (w := true) ((hd ()).trans (show zd = 7 by omega))
                rw [hrr ()] at r7
                have e : vx_atp M f (vr_A I L 1024) = (w44, (vr_A I L 1024)) := by
                  by_cases c1 : zd = 0 ∨ zs = 0 ∨ (f.i = 241 ∧ z0 = 0)
                  · rw [show w44 = 1 by omega]; exact vx_at1 (by rw [eD, eS, e0, hd (), hs (), h0 ()]; omega)
                  · rw [show w44 = 4 by omega]; exact vx_at3 (by rw [eD, eS, e0, hd (), hs (), h0 ()]; omega) (by rw [eD, hd ()]; omega) (Or.inl (by rw [eD]; exact ev))
                exact ⟨_, _, by rw [← eQ, e], fun z => by rw [← eQ, e] at z; exact absurd (show w44 = 0 from z) (by omega), vr_fr_refl hf⟩
        · refine jv_Wp.lift (fun _ Kz => jv_Ev.steps jv_i295 5 (pc' := 154) (l' := [(7, .int (1 : Int32)), (5, .long ((vl_I f.z).toInt64 - (1 : Int64))), (4, .int (vl_I (8 + (76800 + f.d)))), (2, .int (vl_I w25)), (3, .int (I 205 (76800 + f.d))), (1, .int (vl_I f.z)), (0, .ref 196)]) (st' := [.int (1 : Int32), .int (vl_I w25)]) rfl Kz) ?_
          refine jv_Wp.lift (fun _ Kz => jv_Ev.br jv_i295 (pc' := 157) (st' := [.int (vl_I w25)]) rfl (by rfl) Kz) ?_
          refine jv_Wp.lift (fun _ Kz => jv_Ev.steps jv_i295 2 (pc' := 159) (l' := [(7, .int (1 : Int32)), (5, .long ((vl_I f.z).toInt64 - (1 : Int64))), (4, .int (vl_I (8 + (76800 + f.d)))), (2, .int (vl_I w25)), (3, .int (I 205 (76800 + f.d))), (1, .int (vl_I f.z)), (0, .ref 196)]) (st' := [.ref 196, .ref 196, .int (vl_I w25)]) rfl Kz) ?_
          refine jv_Wp.lift (fun _ Kz => jv_Ev.m jv_i295 (pc' := 162) (st' := [.int (vl_I f.d), .ref 196, .int (vl_I w25)]) (G' := (jv_H K I L R)) rfl rfl (jv_m_getI (jv_rwK hW 196 12 24 (by decide)) rfl rfl D.2.1) Kz) ?_
          refine jv_Wp.lift (fun _ Kz => jv_Ev.steps jv_i295 2 (pc' := 164) (l' := [(7, .int (1 : Int32)), (5, .long ((vl_I f.z).toInt64 - (1 : Int64))), (4, .int (vl_I (8 + (76800 + f.d)))), (2, .int (vl_I w25)), (3, .int (I 205 (76800 + f.d))), (1, .int (vl_I f.z)), (0, .ref 196)]) (st' := [.int (1 : Int32), .int (vl_I f.z), .int (vl_I f.d), .ref 196, .int (vl_I w25)]) rfl Kz) ?_
          have Hb := vq_reach (I := I) (L := L) (n := n) (sl := sl) M f f.d kd f.z true hW hM D okd hd11 hz k8 hkd
          rw [hbd ()] at Hb
          refine jv_Wp.lift (fun _ Kz => jv_Ev.c jv_i295 (pc' := 167) (S' := [.int (vl_I bd), .int (vl_I w25)]) jv_i290 [.ref 196, .int (vl_I f.d), .int (vl_I f.z), .int (1 : Int32)] rfl rfl rfl rfl (jv_cal rfl (jv_H_at (jv_rwK hW 196 12 24 (by decide))) rfl rfl) rfl Hb rfl rfl Kz) ?_
          refine jv_Wp.lift (fun _ Kz => jv_Ev.steps jv_i295 1 (pc' := 171) (l' := [(7, .int (1 : Int32)), (5, .long ((vl_I f.z).toInt64 - (1 : Int64))), (4, .int (vl_I (8 + (76800 + f.d)))), (2, .int (vl_I w25)), (3, .int (I 205 (76800 + f.d))), (1, .int (vl_I f.z)), (0, .ref 196)]) (st' := [.int (vl_I bd), .int (vl_I w25)]) rfl Kz) ?_
          obtain ⟨w46, hq46⟩ : ∃ x : Nat, ∀ _ : Unit, vx_fst w25 bd = x := ⟨_, fun _ => rfl⟩
          have fq46 : (w25 = 0 → w46 = bd) ∧ (bd = 0 → w46 = w25) ∧ (w46 = w25 ∨ w46 = bd) ∧ (w25 ≠ 0 → bd ≠ 0 → w46 ≤ w25 ∧ w46 ≤ bd) := by rw [← hq46 ()]; exact vx_fst_g w25 bd
          have Hf46 := vq_first (I := I) (L := L) (K := K) (R := R) (n := n) (sl := sl) w25 bd (by omega) (by omega)
          rw [hq46 ()] at Hf46
          refine jv_Wp.lift (fun _ Kz => jv_Ev.c jv_i295 (pc' := 174) (S' := [.int (vl_I w46)]) jv_i282 [.int (vl_I w25), .int (vl_I bd)] rfl rfl rfl rfl rfl rfl Hf46 rfl rfl Kz) ?_
          refine jv_Wp.lift (fun _ Kz => jv_Ev.steps jv_i295 4 (pc' := 178) (l' := [(2, .int (vl_I w46)), (7, .int (1 : Int32)), (5, .long ((vl_I f.z).toInt64 - (1 : Int64))), (4, .int (vl_I (8 + (76800 + f.d)))), (3, .int (I 205 (76800 + f.d))), (1, .int (vl_I f.z)), (0, .ref 196)]) (st' := [.ref 196, .ref 196, .int (vl_I w46)]) rfl Kz) ?_
          refine jv_Wp.lift (fun _ Kz => jv_Ev.m jv_i295 (pc' := 181) (st' := [.int (vl_I f.s), .ref 196, .int (vl_I w46)]) (G' := (jv_H K I L R)) rfl rfl (jv_m_getI (jv_rwK hW 196 12 24 (by decide)) rfl rfl D.2.2.1) Kz) ?_
          refine jv_Wp.lift (fun _ Kz => jv_Ev.c jv_i295 (pc' := 184) (S' := [.int (I 205 (76800 + f.s)), .int (vl_I w46)]) jv_i271 [.ref 196, .int (vl_I f.s)] rfl rfl rfl rfl (jv_cal rfl (jv_H_at (jv_rwK hW 196 12 24 (by decide))) rfl rfl) rfl (vq_sortOf f.s hW (by omega)) rfl rfl Kz) ?_
          refine jv_Wp.cnd jv_i295 (pt := 204) (pe := 187) (p := ((I 205 (76800 + f.s)) = 0)) (q := ((I 205 (76800 + f.s)) = 0)) rfl jv_bi_eq rfl rfl Iff.rfl (fun h37 => ?_) (fun h37 => ?_)
          · refine jv_Wp.lift (fun _ Kz => jv_Ev.steps jv_i295 1 (pc' := 205) (l' := [(2, .int (vl_I w46)), (7, .int (1 : Int32)), (5, .long ((vl_I f.z).toInt64 - (1 : Int64))), (4, .int (vl_I (8 + (76800 + f.d)))), (3, .int (I 205 (76800 + f.d))), (1, .int (vl_I f.z)), (0, .ref 196)]) (st' := [.int (0 : Int32), .int (vl_I w46)]) rfl Kz) ?_
            obtain ⟨w47, hq47⟩ : ∃ x : Nat, ∀ _ : Unit, vx_fst w46 0 = x := ⟨_, fun _ => rfl⟩
            have fq47 : (w46 = 0 → w47 = 0) ∧ (0 = 0 → w47 = w46) ∧ (w47 = w46 ∨ w47 = 0) ∧ (w46 ≠ 0 → 0 ≠ 0 → w47 ≤ w46 ∧ w47 ≤ 0) := by rw [← hq47 ()]; exact vx_fst_g w46 0
            have Hf47 := vq_first (I := I) (L := L) (K := K) (R := R) (n := n) (sl := sl) w46 0 (by omega) (by omega)
            rw [hq47 ()] at Hf47
            refine jv_Wp.lift (fun _ Kz => jv_Ev.c jv_i295 (pc' := 208) (S' := [.int (vl_I w47)]) jv_i282 [.int (vl_I w46), .int (0 : Int32)] rfl rfl rfl rfl rfl rfl Hf47 rfl rfl Kz) ?_
            refine jv_Wp.lift (fun _ Kz => jv_Ev.steps jv_i295 3 (pc' := 211) (l' := [(2, .int (vl_I w47)), (7, .int (1 : Int32)), (5, .long ((vl_I f.z).toInt64 - (1 : Int64))), (4, .int (vl_I (8 + (76800 + f.d)))), (3, .int (I 205 (76800 + f.d))), (1, .int (vl_I f.z)), (0, .ref 196)]) (st' := [.ref 196, .int (vl_I w47)]) rfl Kz) ?_
            refine jv_Wp.lift (fun _ Kz => jv_Ev.m jv_i295 (pc' := 214) (st' := [.int (Int32.ofInt f.i), .int (vl_I w47)]) (G' := (jv_H K I L R)) rfl rfl (jv_m_getI (jv_rwK hW 196 12 24 (by decide)) rfl rfl (vr_dJ D)) Kz) ?_
            refine jv_Wp.lift (fun _ Kz => jv_Ev.steps jv_i295 1 (pc' := 217) (l' := [(2, .int (vl_I w47)), (7, .int (1 : Int32)), (5, .long ((vl_I f.z).toInt64 - (1 : Int64))), (4, .int (vl_I (8 + (76800 + f.d)))), (3, .int (I 205 (76800 + f.d))), (1, .int (vl_I f.z)), (0, .ref 196)]) (st' := [.int (241 : Int32), .int (Int32.ofInt f.i), .int (vl_I w47)]) rfl Kz) ?_
            refine jv_Wp.cnd jv_i295 (pt := 242) (pe := 220) (p := (¬ (Int32.ofInt f.i) = (241 : Int32))) (q := (¬ (Int32.ofInt f.i) = (241 : Int32))) rfl jv_bc_ne rfl rfl Iff.rfl (fun _ => ?_) (fun hz => absurd h241 hz)
            refine jv_Wp.lift (fun _ Kz => jv_Ev.steps jv_i295 1 (pc' := 243) (l' := [(2, .int (vl_I w47)), (7, .int (1 : Int32)), (5, .long ((vl_I f.z).toInt64 - (1 : Int64))), (4, .int (vl_I (8 + (76800 + f.d)))), (3, .int (I 205 (76800 + f.d))), (1, .int (vl_I f.z)), (0, .ref 196)]) (st' := [.int (0 : Int32), .int (vl_I w47)]) rfl Kz) ?_
            obtain ⟨w48, hq48⟩ : ∃ x : Nat, ∀ _ : Unit, vx_fst w47 0 = x := ⟨_, fun _ => rfl⟩
            have fq48 : (w47 = 0 → w48 = 0) ∧ (0 = 0 → w48 = w47) ∧ (w48 = w47 ∨ w48 = 0) ∧ (w47 ≠ 0 → 0 ≠ 0 → w48 ≤ w47 ∧ w48 ≤ 0) := by rw [← hq48 ()]; exact vx_fst_g w47 0
            have Hf48 := vq_first (I := I) (L := L) (K := K) (R := R) (n := n) (sl := sl) w47 0 (by omega) (by omega)
            rw [hq48 ()] at Hf48
            refine jv_Wp.lift (fun _ Kz => jv_Ev.c jv_i295 (pc' := 246) (S' := [.int (vl_I w48)]) jv_i282 [.int (vl_I w47), .int (0 : Int32)] rfl rfl rfl rfl rfl rfl Hf48 rfl rfl Kz) ?_
            refine jv_Wp.lift (fun _ Kz => jv_Ev.steps jv_i295 2 (pc' := 248) (l' := [(2, .int (vl_I w48)), (7, .int (1 : Int32)), (5, .long ((vl_I f.z).toInt64 - (1 : Int64))), (4, .int (vl_I (8 + (76800 + f.d)))), (3, .int (I 205 (76800 + f.d))), (1, .int (vl_I f.z)), (0, .ref 196)]) (st' := [.int (vl_I w48)]) rfl Kz) ?_
            refine jv_Wp.cnd jv_i295 (pt := 253) (pe := 251) (p := ((vl_I w48) ≤ 0)) (q := ((vl_I w48) ≤ 0)) rfl jv_bi_le rfl rfl Iff.rfl (fun h38 => ?_) (fun h38 => ?_)
            · refine jv_Wp.lift (fun _ Kz => jv_Ev.steps jv_i295 1 (pc' := 254) (l' := [(2, .int (vl_I w48)), (7, .int (1 : Int32)), (5, .long ((vl_I f.z).toInt64 - (1 : Int64))), (4, .int (vl_I (8 + (76800 + f.d)))), (3, .int (I 205 (76800 + f.d))), (1, .int (vl_I f.z)), (0, .ref 196)]) (st' := [.ref 196]) rfl Kz) ?_
              refine jv_Wp.lift (fun _ Kz => jv_Ev.m jv_i295 (pc' := 257) (st' := [.int (Int32.ofInt f.i)]) (G' := (jv_H K I L R)) rfl rfl (jv_m_getI (jv_rwK hW 196 12 24 (by decide)) rfl rfl (vr_dJ D)) Kz) ?_
              refine jv_Wp.lift (fun _ Kz => jv_Ev.steps jv_i295 1 (pc' := 260) (l' := [(2, .int (vl_I w48)), (7, .int (1 : Int32)), (5, .long ((vl_I f.z).toInt64 - (1 : Int64))), (4, .int (vl_I (8 + (76800 + f.d)))), (3, .int (I 205 (76800 + f.d))), (1, .int (vl_I f.z)), (0, .ref 196)]) (st' := [.int (241 : Int32), .int (Int32.ofInt f.i)]) rfl Kz) ?_
              refine jv_Wp.cnd jv_i295 (pt := 272) (pe := 263) (p := (¬ (Int32.ofInt f.i) = (241 : Int32))) (q := (¬ (Int32.ofInt f.i) = (241 : Int32))) rfl jv_bc_ne rfl rfl Iff.rfl (fun _ => ?_) (fun hz => absurd h241 hz)
              refine jv_Wp.lift (fun _ Kz => jv_Ev.steps jv_i295 1 (pc' := 273) (l' := [(2, .int (vl_I w48)), (7, .int (1 : Int32)), (5, .long ((vl_I f.z).toInt64 - (1 : Int64))), (4, .int (vl_I (8 + (76800 + f.d)))), (3, .int (I 205 (76800 + f.d))), (1, .int (vl_I f.z)), (0, .ref 196)]) (st' := [.ref 196]) rfl Kz) ?_
              refine jv_Wp.lift (fun _ Kz => jv_Ev.m jv_i295 (pc' := 276) (st' := [.int (Int32.ofInt f.i)]) (G' := (jv_H K I L R)) rfl rfl (jv_m_getI (jv_rwK hW 196 12 24 (by decide)) rfl rfl (vr_dJ D)) Kz) ?_
              refine jv_Wp.lift (fun _ Kz => jv_Ev.steps jv_i295 1 (pc' := 277) (l' := [(2, .int (vl_I w48)), (7, .int (1 : Int32)), (5, .long ((vl_I f.z).toInt64 - (1 : Int64))), (4, .int (vl_I (8 + (76800 + f.d)))), (3, .int (I 205 (76800 + f.d))), (1, .int (vl_I f.z)), (0, .ref 196)]) (st' := [.int (2 : Int32), .int (Int32.ofInt f.i)]) rfl Kz) ?_
              refine jv_Wp.lift (fun _ Kz => jv_Ev.op jv_i295 (pc' := 278) (l' := [(2, .int (vl_I w48)), (7, .int (1 : Int32)), (5, .long ((vl_I f.z).toInt64 - (1 : Int64))), (4, .int (vl_I (8 + (76800 + f.d)))), (3, .int (I 205 (76800 + f.d))), (1, .int (vl_I f.z)), (0, .ref 196)]) (st' := [.int ((Int32.ofInt f.i) - (Int32.ofInt f.i) / (2 : Int32) * (2 : Int32))]) rfl (jv_op_irem (by decide)) Kz) ?_
              refine jv_Wp.lift (fun _ Kz => jv_Ev.steps jv_i295 1 (pc' := 279) (l' := [(2, .int (vl_I w48)), (7, .int (1 : Int32)), (5, .long ((vl_I f.z).toInt64 - (1 : Int64))), (4, .int (vl_I (8 + (76800 + f.d)))), (3, .int (I 205 (76800 + f.d))), (1, .int (vl_I f.z)), (0, .ref 196)]) (st' := [.int (1 : Int32), .int ((Int32.ofInt f.i) - (Int32.ofInt f.i) / (2 : Int32) * (2 : Int32))]) rfl Kz) ?_
              refine jv_Wp.cnd jv_i295 (pt := 291) (pe := 282) (p := (¬ ((Int32.ofInt f.i) - (Int32.ofInt f.i) / (2 : Int32) * (2 : Int32)) = (1 : Int32))) (q := (¬ ((Int32.ofInt f.i) - (Int32.ofInt f.i) / (2 : Int32) * (2 : Int32)) = (1 : Int32))) rfl jv_bc_ne rfl rfl Iff.rfl (fun h39 => ?_) (fun h39 => ?_)
              · refine jv_Wp.lift (fun _ Kz => jv_Ev.steps jv_i295 1 (pc' := 292) (l' := [(2, .int (vl_I w48)), (7, .int (1 : Int32)), (5, .long ((vl_I f.z).toInt64 - (1 : Int64))), (4, .int (vl_I (8 + (76800 + f.d)))), (3, .int (I 205 (76800 + f.d))), (1, .int (vl_I f.z)), (0, .ref 196)]) (st' := [.int (0 : Int32)]) rfl Kz) ?_
                refine jv_Wp.of (jv_Ev.ret jv_i295 rfl rfl) ?_
                rw [hQ]
                have td0 : ¬ zd = 0 := fun z => h1 ((vr_isN (L := L) okd hd11).mp ((hd ()).trans z))
                have td7 : zd = 7 := (hd ()).symm.trans ((vr_is (L := L) 7 (by decide) okd).mpr (Classical.not_not.mp h10))
                have ts0 : zs = 0 := (hs ()).symm.trans ((vr_isN (L := L) oks hs11).mpr h37)
                have nx1 : w48 ≤ 0 := (vl_I_le (a := w48) (b := 0) (by omega) (by omega)).mp h38
                have ev : vx_even (vr_T I L (76800 + f.d)).val f.o f.z = true := by rw [vr_valv (by rw [(vr_is (L := L) 7 (by decide) okd).mp ((hd ()).trans (by omega))]; rfl), ← vr_dO D, vx_even_r hz]; exact (by rw [decide_eq_true (Classical.not_not.mp h19), decide_eq_true (Classical.not_not.mp h28)]; rfl)
                have r7 := vx_r7' (M := M) (A := (vr_A I L 1024)) (o := f.o) (z := f.z) (w := true) ((hd ()).trans (show zd = 7 by omega))
                rw [hrr ()] at r7
                have e6 : vx_atp M f (vr_A I L 1024) = (0, (vr_A I L 1024)) := vx_at6 (by rw [eD, eS, e0, hd (), hs (), h0 ()]; omega) (by rw [eD, hd ()]; omega) (fun z => z.elim (fun z => by rw [eD, ev] at z; exact absurd z (by decide)) (fun z => by rw [eD, hrr ()] at z; omega)) (by rw [eS, e0, hs (), h0 ()]; omega) (fun z => h39 ((vi_odd2 hi).mpr z))
                exact ⟨_, _, by rw [← eQ, e6]; rfl, fun _ => by rw [← eQ, e6]; exact ⟨rfl, oa⟩, vr_fr_refl hf⟩
              · refine jv_Wp.lift (fun _ Kz => jv_Ev.steps jv_i295 2 (pc' := 284) (l' := [(2, .int (vl_I w48)), (7, .int (1 : Int32)), (5, .long ((vl_I f.z).toInt64 - (1 : Int64))), (4, .int (vl_I (8 + (76800 + f.d)))), (3, .int (I 205 (76800 + f.d))), (1, .int (vl_I f.z)), (0, .ref 196)]) (st' := [.ref 196, .ref 196]) rfl Kz) ?_
                refine jv_Wp.lift (fun _ Kz => jv_Ev.m jv_i295 (pc' := 287) (st' := [.int (vl_I f.s), .ref 196]) (G' := (jv_H K I L R)) rfl rfl (jv_m_getI (jv_rwK hW 196 12 24 (by decide)) rfl rfl D.2.2.1) Kz) ?_
                refine jv_Wp.lift (fun _ Kz => jv_Ev.steps jv_i295 1 (pc' := 288) (l' := [(2, .int (vl_I w48)), (7, .int (1 : Int32)), (5, .long ((vl_I f.z).toInt64 - (1 : Int64))), (4, .int (vl_I (8 + (76800 + f.d)))), (3, .int (I 205 (76800 + f.d))), (1, .int (vl_I f.z)), (0, .ref 196)]) (st' := [.int (vl_I f.z), .int (vl_I f.s), .ref 196]) rfl Kz) ?_
                obtain ⟨I49, L49, H49, T49, O49, F49⟩ := vq_setAny (I := I) (L := L) (R := R) (n := n) (sl := sl) f.s f.z hW hf (by omega) hz
                refine jv_Wp.lift (fun _ Kz => jv_Ev.c jv_i295 (pc' := 291) (S' := []) (G1 := (jv_H K I49 L49 R)) jv_i274 [.ref 196, .int (vl_I f.s), .int (vl_I f.z)] rfl rfl rfl rfl (jv_cal rfl (jv_H_at (jv_rwK hW 196 12 24 (by decide))) rfl rfl) rfl H49 rfl rfl Kz) ?_
                refine jv_Wp.lift (fun _ Kz => jv_Ev.steps jv_i295 1 (pc' := 292) (l' := [(2, .int (vl_I w48)), (7, .int (1 : Int32)), (5, .long ((vl_I f.z).toInt64 - (1 : Int64))), (4, .int (vl_I (8 + (76800 + f.d)))), (3, .int (I 205 (76800 + f.d))), (1, .int (vl_I f.z)), (0, .ref 196)]) (st' := [.int (0 : Int32)]) rfl Kz) ?_
                refine jv_Wp.of (jv_Ev.ret jv_i295 rfl rfl) ?_
                rw [hQ]
                have td0 : ¬ zd = 0 := fun z => h1 ((vr_isN (L := L) okd hd11).mp ((hd ()).trans z))
                have td7 : zd = 7 := (hd ()).symm.trans ((vr_is (L := L) 7 (by decide) okd).mpr (Classical.not_not.mp h10))
                have ts0 : zs = 0 := (hs ()).symm.trans ((vr_isN (L := L) oks hs11).mpr h37)
                have nx1 : w48 ≤ 0 := (vl_I_le (a := w48) (b := 0) (by omega) (by omega)).mp h38
                have ev : vx_even (vr_T I L (76800 + f.d)).val f.o f.z = true := by rw [vr_valv (by rw [(vr_is (L := L) 7 (by decide) okd).mp ((hd ()).trans (by omega))]; rfl), ← vr_dO D, vx_even_r hz]; exact (by rw [decide_eq_true (Classical.not_not.mp h19), decide_eq_true (Classical.not_not.mp h28)]; rfl)
                have r7 := vx_r7' (M := M) (A := (vr_A I L 1024)) (o := f.o) (z := f.z) (w := true) ((hd ()).trans (show zd = 7 by omega))
                rw [hrr ()] at r7
                have e5 : vx_atp M f (vr_A I L 1024) = (0, vt_up (vr_A I L 1024) f.s (vt_num (vx_anyz f.z))) := by have q := vx_at5 (M := M) (f := f) (A := (vr_A I L 1024)) (by rw [eD, eS, e0, hd (), hs (), h0 ()]; omega) (by rw [eD, hd ()]; omega) (fun z => z.elim (fun z => by rw [eD, ev] at z; exact absurd z (by decide)) (fun z => by rw [eD, hrr ()] at z; omega)) (by rw [eS, e0, hs (), h0 ()]; omega) ((vi_odd2 hi).mp (Classical.not_not.mp h39)); rw [if_neg m241] at q; exact q
                have u := vr_upA (I := I) (L := L) (k := 1024) (r := f.s) (t := (vt_num (vx_anyz f.z))) (by omega) T49 O49 F49 (fun n hn e q => e (by omega)) oa
                exact ⟨_, _, by rw [← eQ, e5]; rfl, fun _ => by rw [← eQ, e5]; exact u, vr_fr_P F49 (fun x z => by omega)⟩
            · refine jv_Wp.lift (fun _ Kz => jv_Ev.steps jv_i295 1 (pc' := 252) (l' := [(2, .int (vl_I w48)), (7, .int (1 : Int32)), (5, .long ((vl_I f.z).toInt64 - (1 : Int64))), (4, .int (vl_I (8 + (76800 + f.d)))), (3, .int (I 205 (76800 + f.d))), (1, .int (vl_I f.z)), (0, .ref 196)]) (st' := [.int (vl_I w48)]) rfl Kz) ?_
              refine jv_Wp.of (jv_Ev.ret jv_i295 rfl rfl) ?_
              rw [hQ]
              have td0 : ¬ zd = 0 := fun z => h1 ((vr_isN (L := L) okd hd11).mp ((hd ()).trans z))
              have td7 : zd = 7 := (hd ()).symm.trans ((vr_is (L := L) 7 (by decide) okd).mpr (Classical.not_not.mp h10))
              have ts0 : zs = 0 := (hs ()).symm.trans ((vr_isN (L := L) oks hs11).mpr h37)
              have nx1 : ¬ w48 ≤ 0 := fun z => h38 ((vl_I_le (a := w48) (b := 0) (by omega) (by omega)).mpr z)
              have ev : vx_even (vr_T I L (76800 + f.d)).val f.o f.z = true := by rw [vr_valv (by rw [(vr_is (L := L) 7 (by decide) okd).mp ((hd ()).trans (by omega))]; rfl), ← vr_dO D, vx_even_r hz]; exact (by rw [decide_eq_true (Classical.not_not.mp h19), decide_eq_true (Classical.not_not.mp h28)]; rfl)
              have r7 := vx_r7' (M := M) (A := (vr_A I L 1024)) (o := f.o) (z := f.z) (w := true) ((hd ()).trans (show zd = 7 by omega))
              rw [hrr ()] at r7
              have e : vx_atp M f (vr_A I L 1024) = (w48, (vr_A I L 1024)) := by
                by_cases c1 : zd = 0 ∨ zs = 0 ∨ (f.i = 241 ∧ z0 = 0)
                · rw [show w48 = 1 by omega]; exact vx_at1 (by rw [eD, eS, e0, hd (), hs (), h0 ()]; omega)
                · by_cases c2 : rr ≠ 0
                  · rw [show w48 = 4 by omega]; exact vx_at3 (by rw [eD, eS, e0, hd (), hs (), h0 ()]; omega) (by rw [eD, hd ()]; omega) (Or.inr (by rw [eD, hrr ()]; exact c2))
                  · rw [show w48 = 6 by omega]; exact vx_at4 (by rw [eD, eS, e0, hd (), hs (), h0 ()]; omega) (by rw [eD, hd ()]; omega) (fun z => z.elim (fun z => by rw [eD, ev] at z; exact absurd z (by decide)) (fun z => by rw [eD, hrr ()] at z; omega)) (by rw [eS, e0, hs (), h0 ()]; omega)
              exact ⟨_, _, by rw [← eQ, e], fun z => by rw [← eQ, e] at z; exact absurd (show w48 = 0 from z) (by omega), vr_fr_refl hf⟩
          · refine jv_Wp.lift (fun _ Kz => jv_Ev.steps jv_i295 2 (pc' := 189) (l' := [(2, .int (vl_I w46)), (7, .int (1 : Int32)), (5, .long ((vl_I f.z).toInt64 - (1 : Int64))), (4, .int (vl_I (8 + (76800 + f.d)))), (3, .int (I 205 (76800 + f.d))), (1, .int (vl_I f.z)), (0, .ref 196)]) (st' := [.ref 196, .ref 196, .int (vl_I w46)]) rfl Kz) ?_
            refine jv_Wp.lift (fun _ Kz => jv_Ev.m jv_i295 (pc' := 192) (st' := [.int (vl_I f.s), .ref 196, .int (vl_I w46)]) (G' := (jv_H K I L R)) rfl rfl (jv_m_getI (jv_rwK hW 196 12 24 (by decide)) rfl rfl D.2.2.1) Kz) ?_
            refine jv_Wp.lift (fun _ Kz => jv_Ev.c jv_i295 (pc' := 195) (S' := [.int (I 205 (76800 + f.s)), .int (vl_I w46)]) jv_i271 [.ref 196, .int (vl_I f.s)] rfl rfl rfl rfl (jv_cal rfl (jv_H_at (jv_rwK hW 196 12 24 (by decide))) rfl rfl) rfl (vq_sortOf f.s hW (by omega)) rfl rfl Kz) ?_
            refine jv_Wp.lift (fun _ Kz => jv_Ev.steps jv_i295 1 (pc' := 196) (l' := [(2, .int (vl_I w46)), (7, .int (1 : Int32)), (5, .long ((vl_I f.z).toInt64 - (1 : Int64))), (4, .int (vl_I (8 + (76800 + f.d)))), (3, .int (I 205 (76800 + f.d))), (1, .int (vl_I f.z)), (0, .ref 196)]) (st' := [.int (1 : Int32), .int (I 205 (76800 + f.s)), .int (vl_I w46)]) rfl Kz) ?_
            refine jv_Wp.cnd jv_i295 (pt := 204) (pe := 199) (p := ((I 205 (76800 + f.s)) = (1 : Int32))) (q := ((I 205 (76800 + f.s)) = (1 : Int32))) rfl jv_bc_eq rfl rfl Iff.rfl (fun h40 => ?_) (fun h40 => ?_)
            · refine jv_Wp.lift (fun _ Kz => jv_Ev.steps jv_i295 1 (pc' := 205) (l' := [(2, .int (vl_I w46)), (7, .int (1 : Int32)), (5, .long ((vl_I f.z).toInt64 - (1 : Int64))), (4, .int (vl_I (8 + (76800 + f.d)))), (3, .int (I 205 (76800 + f.d))), (1, .int (vl_I f.z)), (0, .ref 196)]) (st' := [.int (0 : Int32), .int (vl_I w46)]) rfl Kz) ?_
              obtain ⟨w50, hq50⟩ : ∃ x : Nat, ∀ _ : Unit, vx_fst w46 0 = x := ⟨_, fun _ => rfl⟩
              have fq50 : (w46 = 0 → w50 = 0) ∧ (0 = 0 → w50 = w46) ∧ (w50 = w46 ∨ w50 = 0) ∧ (w46 ≠ 0 → 0 ≠ 0 → w50 ≤ w46 ∧ w50 ≤ 0) := by rw [← hq50 ()]; exact vx_fst_g w46 0
              have Hf50 := vq_first (I := I) (L := L) (K := K) (R := R) (n := n) (sl := sl) w46 0 (by omega) (by omega)
              rw [hq50 ()] at Hf50
              refine jv_Wp.lift (fun _ Kz => jv_Ev.c jv_i295 (pc' := 208) (S' := [.int (vl_I w50)]) jv_i282 [.int (vl_I w46), .int (0 : Int32)] rfl rfl rfl rfl rfl rfl Hf50 rfl rfl Kz) ?_
              refine jv_Wp.lift (fun _ Kz => jv_Ev.steps jv_i295 3 (pc' := 211) (l' := [(2, .int (vl_I w50)), (7, .int (1 : Int32)), (5, .long ((vl_I f.z).toInt64 - (1 : Int64))), (4, .int (vl_I (8 + (76800 + f.d)))), (3, .int (I 205 (76800 + f.d))), (1, .int (vl_I f.z)), (0, .ref 196)]) (st' := [.ref 196, .int (vl_I w50)]) rfl Kz) ?_
              refine jv_Wp.lift (fun _ Kz => jv_Ev.m jv_i295 (pc' := 214) (st' := [.int (Int32.ofInt f.i), .int (vl_I w50)]) (G' := (jv_H K I L R)) rfl rfl (jv_m_getI (jv_rwK hW 196 12 24 (by decide)) rfl rfl (vr_dJ D)) Kz) ?_
              refine jv_Wp.lift (fun _ Kz => jv_Ev.steps jv_i295 1 (pc' := 217) (l' := [(2, .int (vl_I w50)), (7, .int (1 : Int32)), (5, .long ((vl_I f.z).toInt64 - (1 : Int64))), (4, .int (vl_I (8 + (76800 + f.d)))), (3, .int (I 205 (76800 + f.d))), (1, .int (vl_I f.z)), (0, .ref 196)]) (st' := [.int (241 : Int32), .int (Int32.ofInt f.i), .int (vl_I w50)]) rfl Kz) ?_
              refine jv_Wp.cnd jv_i295 (pt := 242) (pe := 220) (p := (¬ (Int32.ofInt f.i) = (241 : Int32))) (q := (¬ (Int32.ofInt f.i) = (241 : Int32))) rfl jv_bc_ne rfl rfl Iff.rfl (fun _ => ?_) (fun hz => absurd h241 hz)
              refine jv_Wp.lift (fun _ Kz => jv_Ev.steps jv_i295 1 (pc' := 243) (l' := [(2, .int (vl_I w50)), (7, .int (1 : Int32)), (5, .long ((vl_I f.z).toInt64 - (1 : Int64))), (4, .int (vl_I (8 + (76800 + f.d)))), (3, .int (I 205 (76800 + f.d))), (1, .int (vl_I f.z)), (0, .ref 196)]) (st' := [.int (0 : Int32), .int (vl_I w50)]) rfl Kz) ?_
              obtain ⟨w51, hq51⟩ : ∃ x : Nat, ∀ _ : Unit, vx_fst w50 0 = x := ⟨_, fun _ => rfl⟩
              have fq51 : (w50 = 0 → w51 = 0) ∧ (0 = 0 → w51 = w50) ∧ (w51 = w50 ∨ w51 = 0) ∧ (w50 ≠ 0 → 0 ≠ 0 → w51 ≤ w50 ∧ w51 ≤ 0) := by rw [← hq51 ()]; exact vx_fst_g w50 0
              have Hf51 := vq_first (I := I) (L := L) (K := K) (R := R) (n := n) (sl := sl) w50 0 (by omega) (by omega)
              rw [hq51 ()] at Hf51
              refine jv_Wp.lift (fun _ Kz => jv_Ev.c jv_i295 (pc' := 246) (S' := [.int (vl_I w51)]) jv_i282 [.int (vl_I w50), .int (0 : Int32)] rfl rfl rfl rfl rfl rfl Hf51 rfl rfl Kz) ?_
              refine jv_Wp.lift (fun _ Kz => jv_Ev.steps jv_i295 2 (pc' := 248) (l' := [(2, .int (vl_I w51)), (7, .int (1 : Int32)), (5, .long ((vl_I f.z).toInt64 - (1 : Int64))), (4, .int (vl_I (8 + (76800 + f.d)))), (3, .int (I 205 (76800 + f.d))), (1, .int (vl_I f.z)), (0, .ref 196)]) (st' := [.int (vl_I w51)]) rfl Kz) ?_
              refine jv_Wp.cnd jv_i295 (pt := 253) (pe := 251) (p := ((vl_I w51) ≤ 0)) (q := ((vl_I w51) ≤ 0)) rfl jv_bi_le rfl rfl Iff.rfl (fun h41 => ?_) (fun h41 => ?_)
              · refine jv_Wp.lift (fun _ Kz => jv_Ev.steps jv_i295 1 (pc' := 254) (l' := [(2, .int (vl_I w51)), (7, .int (1 : Int32)), (5, .long ((vl_I f.z).toInt64 - (1 : Int64))), (4, .int (vl_I (8 + (76800 + f.d)))), (3, .int (I 205 (76800 + f.d))), (1, .int (vl_I f.z)), (0, .ref 196)]) (st' := [.ref 196]) rfl Kz) ?_
                refine jv_Wp.lift (fun _ Kz => jv_Ev.m jv_i295 (pc' := 257) (st' := [.int (Int32.ofInt f.i)]) (G' := (jv_H K I L R)) rfl rfl (jv_m_getI (jv_rwK hW 196 12 24 (by decide)) rfl rfl (vr_dJ D)) Kz) ?_
                refine jv_Wp.lift (fun _ Kz => jv_Ev.steps jv_i295 1 (pc' := 260) (l' := [(2, .int (vl_I w51)), (7, .int (1 : Int32)), (5, .long ((vl_I f.z).toInt64 - (1 : Int64))), (4, .int (vl_I (8 + (76800 + f.d)))), (3, .int (I 205 (76800 + f.d))), (1, .int (vl_I f.z)), (0, .ref 196)]) (st' := [.int (241 : Int32), .int (Int32.ofInt f.i)]) rfl Kz) ?_
                refine jv_Wp.cnd jv_i295 (pt := 272) (pe := 263) (p := (¬ (Int32.ofInt f.i) = (241 : Int32))) (q := (¬ (Int32.ofInt f.i) = (241 : Int32))) rfl jv_bc_ne rfl rfl Iff.rfl (fun _ => ?_) (fun hz => absurd h241 hz)
                refine jv_Wp.lift (fun _ Kz => jv_Ev.steps jv_i295 1 (pc' := 273) (l' := [(2, .int (vl_I w51)), (7, .int (1 : Int32)), (5, .long ((vl_I f.z).toInt64 - (1 : Int64))), (4, .int (vl_I (8 + (76800 + f.d)))), (3, .int (I 205 (76800 + f.d))), (1, .int (vl_I f.z)), (0, .ref 196)]) (st' := [.ref 196]) rfl Kz) ?_
                refine jv_Wp.lift (fun _ Kz => jv_Ev.m jv_i295 (pc' := 276) (st' := [.int (Int32.ofInt f.i)]) (G' := (jv_H K I L R)) rfl rfl (jv_m_getI (jv_rwK hW 196 12 24 (by decide)) rfl rfl (vr_dJ D)) Kz) ?_
                refine jv_Wp.lift (fun _ Kz => jv_Ev.steps jv_i295 1 (pc' := 277) (l' := [(2, .int (vl_I w51)), (7, .int (1 : Int32)), (5, .long ((vl_I f.z).toInt64 - (1 : Int64))), (4, .int (vl_I (8 + (76800 + f.d)))), (3, .int (I 205 (76800 + f.d))), (1, .int (vl_I f.z)), (0, .ref 196)]) (st' := [.int (2 : Int32), .int (Int32.ofInt f.i)]) rfl Kz) ?_
                refine jv_Wp.lift (fun _ Kz => jv_Ev.op jv_i295 (pc' := 278) (l' := [(2, .int (vl_I w51)), (7, .int (1 : Int32)), (5, .long ((vl_I f.z).toInt64 - (1 : Int64))), (4, .int (vl_I (8 + (76800 + f.d)))), (3, .int (I 205 (76800 + f.d))), (1, .int (vl_I f.z)), (0, .ref 196)]) (st' := [.int ((Int32.ofInt f.i) - (Int32.ofInt f.i) / (2 : Int32) * (2 : Int32))]) rfl (jv_op_irem (by decide)) Kz) ?_
                refine jv_Wp.lift (fun _ Kz => jv_Ev.steps jv_i295 1 (pc' := 279) (l' := [(2, .int (vl_I w51)), (7, .int (1 : Int32)), (5, .long ((vl_I f.z).toInt64 - (1 : Int64))), (4, .int (vl_I (8 + (76800 + f.d)))), (3, .int (I 205 (76800 + f.d))), (1, .int (vl_I f.z)), (0, .ref 196)]) (st' := [.int (1 : Int32), .int ((Int32.ofInt f.i) - (Int32.ofInt f.i) / (2 : Int32) * (2 : Int32))]) rfl Kz) ?_
                refine jv_Wp.cnd jv_i295 (pt := 291) (pe := 282) (p := (¬ ((Int32.ofInt f.i) - (Int32.ofInt f.i) / (2 : Int32) * (2 : Int32)) = (1 : Int32))) (q := (¬ ((Int32.ofInt f.i) - (Int32.ofInt f.i) / (2 : Int32) * (2 : Int32)) = (1 : Int32))) rfl jv_bc_ne rfl rfl Iff.rfl (fun h42 => ?_) (fun h42 => ?_)
                · refine jv_Wp.lift (fun _ Kz => jv_Ev.steps jv_i295 1 (pc' := 292) (l' := [(2, .int (vl_I w51)), (7, .int (1 : Int32)), (5, .long ((vl_I f.z).toInt64 - (1 : Int64))), (4, .int (vl_I (8 + (76800 + f.d)))), (3, .int (I 205 (76800 + f.d))), (1, .int (vl_I f.z)), (0, .ref 196)]) (st' := [.int (0 : Int32)]) rfl Kz) ?_
                  refine jv_Wp.of (jv_Ev.ret jv_i295 rfl rfl) ?_
                  rw [hQ]
                  have td0 : ¬ zd = 0 := fun z => h1 ((vr_isN (L := L) okd hd11).mp ((hd ()).trans z))
                  have td7 : zd = 7 := (hd ()).symm.trans ((vr_is (L := L) 7 (by decide) okd).mpr (Classical.not_not.mp h10))
                  have ts0 : ¬ zs = 0 := fun z => h37 ((vr_isN (L := L) oks hs11).mp ((hs ()).trans z))
                  have ts1 : zs = 1 := (hs ()).symm.trans ((vr_is (L := L) 1 (by decide) oks).mpr h40)
                  have nx1 : w51 ≤ 0 := (vl_I_le (a := w51) (b := 0) (by omega) (by omega)).mp h41
                  have ev : vx_even (vr_T I L (76800 + f.d)).val f.o f.z = true := by rw [vr_valv (by rw [(vr_is (L := L) 7 (by decide) okd).mp ((hd ()).trans (by omega))]; rfl), ← vr_dO D, vx_even_r hz]; exact (by rw [decide_eq_true (Classical.not_not.mp h19), decide_eq_true (Classical.not_not.mp h28)]; rfl)
                  have r7 := vx_r7' (M := M) (A := (vr_A I L 1024)) (o := f.o) (z := f.z) (w := true) ((hd ()).trans (show zd = 7 by omega))
                  rw [hrr ()] at r7
                  have e6 : vx_atp M f (vr_A I L 1024) = (0, (vr_A I L 1024)) := vx_at6 (by rw [eD, eS, e0, hd (), hs (), h0 ()]; omega) (by rw [eD, hd ()]; omega) (fun z => z.elim (fun z => by rw [eD, ev] at z; exact absurd z (by decide)) (fun z => by rw [eD, hrr ()] at z; omega)) (by rw [eS, e0, hs (), h0 ()]; omega) (fun z => h42 ((vi_odd2 hi).mpr z))
                  exact ⟨_, _, by rw [← eQ, e6]; rfl, fun _ => by rw [← eQ, e6]; exact ⟨rfl, oa⟩, vr_fr_refl hf⟩
                · refine jv_Wp.lift (fun _ Kz => jv_Ev.steps jv_i295 2 (pc' := 284) (l' := [(2, .int (vl_I w51)), (7, .int (1 : Int32)), (5, .long ((vl_I f.z).toInt64 - (1 : Int64))), (4, .int (vl_I (8 + (76800 + f.d)))), (3, .int (I 205 (76800 + f.d))), (1, .int (vl_I f.z)), (0, .ref 196)]) (st' := [.ref 196, .ref 196]) rfl Kz) ?_
                  refine jv_Wp.lift (fun _ Kz => jv_Ev.m jv_i295 (pc' := 287) (st' := [.int (vl_I f.s), .ref 196]) (G' := (jv_H K I L R)) rfl rfl (jv_m_getI (jv_rwK hW 196 12 24 (by decide)) rfl rfl D.2.2.1) Kz) ?_
                  refine jv_Wp.lift (fun _ Kz => jv_Ev.steps jv_i295 1 (pc' := 288) (l' := [(2, .int (vl_I w51)), (7, .int (1 : Int32)), (5, .long ((vl_I f.z).toInt64 - (1 : Int64))), (4, .int (vl_I (8 + (76800 + f.d)))), (3, .int (I 205 (76800 + f.d))), (1, .int (vl_I f.z)), (0, .ref 196)]) (st' := [.int (vl_I f.z), .int (vl_I f.s), .ref 196]) rfl Kz) ?_
                  obtain ⟨I52, L52, H52, T52, O52, F52⟩ := vq_setAny (I := I) (L := L) (R := R) (n := n) (sl := sl) f.s f.z hW hf (by omega) hz
                  refine jv_Wp.lift (fun _ Kz => jv_Ev.c jv_i295 (pc' := 291) (S' := []) (G1 := (jv_H K I52 L52 R)) jv_i274 [.ref 196, .int (vl_I f.s), .int (vl_I f.z)] rfl rfl rfl rfl (jv_cal rfl (jv_H_at (jv_rwK hW 196 12 24 (by decide))) rfl rfl) rfl H52 rfl rfl Kz) ?_
                  refine jv_Wp.lift (fun _ Kz => jv_Ev.steps jv_i295 1 (pc' := 292) (l' := [(2, .int (vl_I w51)), (7, .int (1 : Int32)), (5, .long ((vl_I f.z).toInt64 - (1 : Int64))), (4, .int (vl_I (8 + (76800 + f.d)))), (3, .int (I 205 (76800 + f.d))), (1, .int (vl_I f.z)), (0, .ref 196)]) (st' := [.int (0 : Int32)]) rfl Kz) ?_
                  refine jv_Wp.of (jv_Ev.ret jv_i295 rfl rfl) ?_
                  rw [hQ]
                  have td0 : ¬ zd = 0 := fun z => h1 ((vr_isN (L := L) okd hd11).mp ((hd ()).trans z))
                  have td7 : zd = 7 := (hd ()).symm.trans ((vr_is (L := L) 7 (by decide) okd).mpr (Classical.not_not.mp h10))
                  have ts0 : ¬ zs = 0 := fun z => h37 ((vr_isN (L := L) oks hs11).mp ((hs ()).trans z))
                  have ts1 : zs = 1 := (hs ()).symm.trans ((vr_is (L := L) 1 (by decide) oks).mpr h40)
                  have nx1 : w51 ≤ 0 := (vl_I_le (a := w51) (b := 0) (by omega) (by omega)).mp h41
                  have ev : vx_even (vr_T I L (76800 + f.d)).val f.o f.z = true := by rw [vr_valv (by rw [(vr_is (L := L) 7 (by decide) okd).mp ((hd ()).trans (by omega))]; rfl), ← vr_dO D, vx_even_r hz]; exact (by rw [decide_eq_true (Classical.not_not.mp h19), decide_eq_true (Classical.not_not.mp h28)]; rfl)
                  have r7 := vx_r7' (M := M) (A := (vr_A I L 1024)) (o := f.o) (z := f.z) (w := true) ((hd ()).trans (show zd = 7 by omega))
                  rw [hrr ()] at r7
                  have e5 : vx_atp M f (vr_A I L 1024) = (0, vt_up (vr_A I L 1024) f.s (vt_num (vx_anyz f.z))) := by have q := vx_at5 (M := M) (f := f) (A := (vr_A I L 1024)) (by rw [eD, eS, e0, hd (), hs (), h0 ()]; omega) (by rw [eD, hd ()]; omega) (fun z => z.elim (fun z => by rw [eD, ev] at z; exact absurd z (by decide)) (fun z => by rw [eD, hrr ()] at z; omega)) (by rw [eS, e0, hs (), h0 ()]; omega) ((vi_odd2 hi).mp (Classical.not_not.mp h42)); rw [if_neg m241] at q; exact q
                  have u := vr_upA (I := I) (L := L) (k := 1024) (r := f.s) (t := (vt_num (vx_anyz f.z))) (by omega) T52 O52 F52 (fun n hn e q => e (by omega)) oa
                  exact ⟨_, _, by rw [← eQ, e5]; rfl, fun _ => by rw [← eQ, e5]; exact u, vr_fr_P F52 (fun x z => by omega)⟩
              · refine jv_Wp.lift (fun _ Kz => jv_Ev.steps jv_i295 1 (pc' := 252) (l' := [(2, .int (vl_I w51)), (7, .int (1 : Int32)), (5, .long ((vl_I f.z).toInt64 - (1 : Int64))), (4, .int (vl_I (8 + (76800 + f.d)))), (3, .int (I 205 (76800 + f.d))), (1, .int (vl_I f.z)), (0, .ref 196)]) (st' := [.int (vl_I w51)]) rfl Kz) ?_
                refine jv_Wp.of (jv_Ev.ret jv_i295 rfl rfl) ?_
                rw [hQ]
                have td0 : ¬ zd = 0 := fun z => h1 ((vr_isN (L := L) okd hd11).mp ((hd ()).trans z))
                have td7 : zd = 7 := (hd ()).symm.trans ((vr_is (L := L) 7 (by decide) okd).mpr (Classical.not_not.mp h10))
                have ts0 : ¬ zs = 0 := fun z => h37 ((vr_isN (L := L) oks hs11).mp ((hs ()).trans z))
                have ts1 : zs = 1 := (hs ()).symm.trans ((vr_is (L := L) 1 (by decide) oks).mpr h40)
                have nx1 : ¬ w51 ≤ 0 := fun z => h41 ((vl_I_le (a := w51) (b := 0) (by omega) (by omega)).mpr z)
                have ev : vx_even (vr_T I L (76800 + f.d)).val f.o f.z = true := by rw [vr_valv (by rw [(vr_is (L := L) 7 (by decide) okd).mp ((hd ()).trans (by omega))]; rfl), ← vr_dO D, vx_even_r hz]; exact (by rw [decide_eq_true (Classical.not_not.mp h19), decide_eq_true (Classical.not_not.mp h28)]; rfl)
                have r7 := vx_r7' (M := M) (A := (vr_A I L 1024)) (o := f.o) (z := f.z) (w := true) ((hd ()).trans (show zd = 7 by omega))
                rw [hrr ()] at r7
                have e : vx_atp M f (vr_A I L 1024) = (w51, (vr_A I L 1024)) := by
                  by_cases c1 : zd = 0 ∨ zs = 0 ∨ (f.i = 241 ∧ z0 = 0)
                  · rw [show w51 = 1 by omega]; exact vx_at1 (by rw [eD, eS, e0, hd (), hs (), h0 ()]; omega)
                  · by_cases c2 : rr ≠ 0
                    · rw [show w51 = 4 by omega]; exact vx_at3 (by rw [eD, eS, e0, hd (), hs (), h0 ()]; omega) (by rw [eD, hd ()]; omega) (Or.inr (by rw [eD, hrr ()]; exact c2))
                    · rw [show w51 = 6 by omega]; exact vx_at4 (by rw [eD, eS, e0, hd (), hs (), h0 ()]; omega) (by rw [eD, hd ()]; omega) (fun z => z.elim (fun z => by rw [eD, ev] at z; exact absurd z (by decide)) (fun z => by rw [eD, hrr ()] at z; omega)) (by rw [eS, e0, hs (), h0 ()]; omega)
                exact ⟨_, _, by rw [← eQ, e], fun z => by rw [← eQ, e] at z; exact absurd (show w51 = 0 from z) (by omega), vr_fr_refl hf⟩
            · refine jv_Wp.lift (fun _ Kz => jv_Ev.steps jv_i295 2 (pc' := 205) (l' := [(2, .int (vl_I w46)), (7, .int (1 : Int32)), (5, .long ((vl_I f.z).toInt64 - (1 : Int64))), (4, .int (vl_I (8 + (76800 + f.d)))), (3, .int (I 205 (76800 + f.d))), (1, .int (vl_I f.z)), (0, .ref 196)]) (st' := [.int (6 : Int32), .int (vl_I w46)]) rfl Kz) ?_
              obtain ⟨w53, hq53⟩ : ∃ x : Nat, ∀ _ : Unit, vx_fst w46 6 = x := ⟨_, fun _ => rfl⟩
              have fq53 : (w46 = 0 → w53 = 6) ∧ (6 = 0 → w53 = w46) ∧ (w53 = w46 ∨ w53 = 6) ∧ (w46 ≠ 0 → 6 ≠ 0 → w53 ≤ w46 ∧ w53 ≤ 6) := by rw [← hq53 ()]; exact vx_fst_g w46 6
              have Hf53 := vq_first (I := I) (L := L) (K := K) (R := R) (n := n) (sl := sl) w46 6 (by omega) (by omega)
              rw [hq53 ()] at Hf53
              refine jv_Wp.lift (fun _ Kz => jv_Ev.c jv_i295 (pc' := 208) (S' := [.int (vl_I w53)]) jv_i282 [.int (vl_I w46), .int (6 : Int32)] rfl rfl rfl rfl rfl rfl Hf53 rfl rfl Kz) ?_
              refine jv_Wp.lift (fun _ Kz => jv_Ev.steps jv_i295 3 (pc' := 211) (l' := [(2, .int (vl_I w53)), (7, .int (1 : Int32)), (5, .long ((vl_I f.z).toInt64 - (1 : Int64))), (4, .int (vl_I (8 + (76800 + f.d)))), (3, .int (I 205 (76800 + f.d))), (1, .int (vl_I f.z)), (0, .ref 196)]) (st' := [.ref 196, .int (vl_I w53)]) rfl Kz) ?_
              refine jv_Wp.lift (fun _ Kz => jv_Ev.m jv_i295 (pc' := 214) (st' := [.int (Int32.ofInt f.i), .int (vl_I w53)]) (G' := (jv_H K I L R)) rfl rfl (jv_m_getI (jv_rwK hW 196 12 24 (by decide)) rfl rfl (vr_dJ D)) Kz) ?_
              refine jv_Wp.lift (fun _ Kz => jv_Ev.steps jv_i295 1 (pc' := 217) (l' := [(2, .int (vl_I w53)), (7, .int (1 : Int32)), (5, .long ((vl_I f.z).toInt64 - (1 : Int64))), (4, .int (vl_I (8 + (76800 + f.d)))), (3, .int (I 205 (76800 + f.d))), (1, .int (vl_I f.z)), (0, .ref 196)]) (st' := [.int (241 : Int32), .int (Int32.ofInt f.i), .int (vl_I w53)]) rfl Kz) ?_
              refine jv_Wp.cnd jv_i295 (pt := 242) (pe := 220) (p := (¬ (Int32.ofInt f.i) = (241 : Int32))) (q := (¬ (Int32.ofInt f.i) = (241 : Int32))) rfl jv_bc_ne rfl rfl Iff.rfl (fun _ => ?_) (fun hz => absurd h241 hz)
              refine jv_Wp.lift (fun _ Kz => jv_Ev.steps jv_i295 1 (pc' := 243) (l' := [(2, .int (vl_I w53)), (7, .int (1 : Int32)), (5, .long ((vl_I f.z).toInt64 - (1 : Int64))), (4, .int (vl_I (8 + (76800 + f.d)))), (3, .int (I 205 (76800 + f.d))), (1, .int (vl_I f.z)), (0, .ref 196)]) (st' := [.int (0 : Int32), .int (vl_I w53)]) rfl Kz) ?_
              obtain ⟨w54, hq54⟩ : ∃ x : Nat, ∀ _ : Unit, vx_fst w53 0 = x := ⟨_, fun _ => rfl⟩
              have fq54 : (w53 = 0 → w54 = 0) ∧ (0 = 0 → w54 = w53) ∧ (w54 = w53 ∨ w54 = 0) ∧ (w53 ≠ 0 → 0 ≠ 0 → w54 ≤ w53 ∧ w54 ≤ 0) := by rw [← hq54 ()]; exact vx_fst_g w53 0
              have Hf54 := vq_first (I := I) (L := L) (K := K) (R := R) (n := n) (sl := sl) w53 0 (by omega) (by omega)
              rw [hq54 ()] at Hf54
              refine jv_Wp.lift (fun _ Kz => jv_Ev.c jv_i295 (pc' := 246) (S' := [.int (vl_I w54)]) jv_i282 [.int (vl_I w53), .int (0 : Int32)] rfl rfl rfl rfl rfl rfl Hf54 rfl rfl Kz) ?_
              refine jv_Wp.lift (fun _ Kz => jv_Ev.steps jv_i295 2 (pc' := 248) (l' := [(2, .int (vl_I w54)), (7, .int (1 : Int32)), (5, .long ((vl_I f.z).toInt64 - (1 : Int64))), (4, .int (vl_I (8 + (76800 + f.d)))), (3, .int (I 205 (76800 + f.d))), (1, .int (vl_I f.z)), (0, .ref 196)]) (st' := [.int (vl_I w54)]) rfl Kz) ?_
              refine jv_Wp.cnd jv_i295 (pt := 253) (pe := 251) (p := ((vl_I w54) ≤ 0)) (q := ((vl_I w54) ≤ 0)) rfl jv_bi_le rfl rfl Iff.rfl (fun h43 => ?_) (fun h43 => ?_)
              · refine jv_Wp.lift (fun _ Kz => jv_Ev.steps jv_i295 1 (pc' := 254) (l' := [(2, .int (vl_I w54)), (7, .int (1 : Int32)), (5, .long ((vl_I f.z).toInt64 - (1 : Int64))), (4, .int (vl_I (8 + (76800 + f.d)))), (3, .int (I 205 (76800 + f.d))), (1, .int (vl_I f.z)), (0, .ref 196)]) (st' := [.ref 196]) rfl Kz) ?_
                refine jv_Wp.lift (fun _ Kz => jv_Ev.m jv_i295 (pc' := 257) (st' := [.int (Int32.ofInt f.i)]) (G' := (jv_H K I L R)) rfl rfl (jv_m_getI (jv_rwK hW 196 12 24 (by decide)) rfl rfl (vr_dJ D)) Kz) ?_
                refine jv_Wp.lift (fun _ Kz => jv_Ev.steps jv_i295 1 (pc' := 260) (l' := [(2, .int (vl_I w54)), (7, .int (1 : Int32)), (5, .long ((vl_I f.z).toInt64 - (1 : Int64))), (4, .int (vl_I (8 + (76800 + f.d)))), (3, .int (I 205 (76800 + f.d))), (1, .int (vl_I f.z)), (0, .ref 196)]) (st' := [.int (241 : Int32), .int (Int32.ofInt f.i)]) rfl Kz) ?_
                refine jv_Wp.cnd jv_i295 (pt := 272) (pe := 263) (p := (¬ (Int32.ofInt f.i) = (241 : Int32))) (q := (¬ (Int32.ofInt f.i) = (241 : Int32))) rfl jv_bc_ne rfl rfl Iff.rfl (fun _ => ?_) (fun hz => absurd h241 hz)
                refine jv_Wp.lift (fun _ Kz => jv_Ev.steps jv_i295 1 (pc' := 273) (l' := [(2, .int (vl_I w54)), (7, .int (1 : Int32)), (5, .long ((vl_I f.z).toInt64 - (1 : Int64))), (4, .int (vl_I (8 + (76800 + f.d)))), (3, .int (I 205 (76800 + f.d))), (1, .int (vl_I f.z)), (0, .ref 196)]) (st' := [.ref 196]) rfl Kz) ?_
                refine jv_Wp.lift (fun _ Kz => jv_Ev.m jv_i295 (pc' := 276) (st' := [.int (Int32.ofInt f.i)]) (G' := (jv_H K I L R)) rfl rfl (jv_m_getI (jv_rwK hW 196 12 24 (by decide)) rfl rfl (vr_dJ D)) Kz) ?_
                refine jv_Wp.lift (fun _ Kz => jv_Ev.steps jv_i295 1 (pc' := 277) (l' := [(2, .int (vl_I w54)), (7, .int (1 : Int32)), (5, .long ((vl_I f.z).toInt64 - (1 : Int64))), (4, .int (vl_I (8 + (76800 + f.d)))), (3, .int (I 205 (76800 + f.d))), (1, .int (vl_I f.z)), (0, .ref 196)]) (st' := [.int (2 : Int32), .int (Int32.ofInt f.i)]) rfl Kz) ?_
                refine jv_Wp.lift (fun _ Kz => jv_Ev.op jv_i295 (pc' := 278) (l' := [(2, .int (vl_I w54)), (7, .int (1 : Int32)), (5, .long ((vl_I f.z).toInt64 - (1 : Int64))), (4, .int (vl_I (8 + (76800 + f.d)))), (3, .int (I 205 (76800 + f.d))), (1, .int (vl_I f.z)), (0, .ref 196)]) (st' := [.int ((Int32.ofInt f.i) - (Int32.ofInt f.i) / (2 : Int32) * (2 : Int32))]) rfl (jv_op_irem (by decide)) Kz) ?_
                refine jv_Wp.lift (fun _ Kz => jv_Ev.steps jv_i295 1 (pc' := 279) (l' := [(2, .int (vl_I w54)), (7, .int (1 : Int32)), (5, .long ((vl_I f.z).toInt64 - (1 : Int64))), (4, .int (vl_I (8 + (76800 + f.d)))), (3, .int (I 205 (76800 + f.d))), (1, .int (vl_I f.z)), (0, .ref 196)]) (st' := [.int (1 : Int32), .int ((Int32.ofInt f.i) - (Int32.ofInt f.i) / (2 : Int32) * (2 : Int32))]) rfl Kz) ?_
                refine jv_Wp.cnd jv_i295 (pt := 291) (pe := 282) (p := (¬ ((Int32.ofInt f.i) - (Int32.ofInt f.i) / (2 : Int32) * (2 : Int32)) = (1 : Int32))) (q := (¬ ((Int32.ofInt f.i) - (Int32.ofInt f.i) / (2 : Int32) * (2 : Int32)) = (1 : Int32))) rfl jv_bc_ne rfl rfl Iff.rfl (fun h44 => ?_) (fun h44 => ?_)
                · refine jv_Wp.lift (fun _ Kz => jv_Ev.steps jv_i295 1 (pc' := 292) (l' := [(2, .int (vl_I w54)), (7, .int (1 : Int32)), (5, .long ((vl_I f.z).toInt64 - (1 : Int64))), (4, .int (vl_I (8 + (76800 + f.d)))), (3, .int (I 205 (76800 + f.d))), (1, .int (vl_I f.z)), (0, .ref 196)]) (st' := [.int (0 : Int32)]) rfl Kz) ?_
                  refine jv_Wp.of (jv_Ev.ret jv_i295 rfl rfl) ?_
                  rw [hQ]
                  have td0 : ¬ zd = 0 := fun z => h1 ((vr_isN (L := L) okd hd11).mp ((hd ()).trans z))
                  have td7 : zd = 7 := (hd ()).symm.trans ((vr_is (L := L) 7 (by decide) okd).mpr (Classical.not_not.mp h10))
                  have ts0 : ¬ zs = 0 := fun z => h37 ((vr_isN (L := L) oks hs11).mp ((hs ()).trans z))
                  have ts1 : ¬ zs = 1 := fun z => h40 ((vr_is (L := L) 1 (by decide) oks).mp ((hs ()).trans z))
                  have nx1 : w54 ≤ 0 := (vl_I_le (a := w54) (b := 0) (by omega) (by omega)).mp h43
                  have ev : vx_even (vr_T I L (76800 + f.d)).val f.o f.z = true := by rw [vr_valv (by rw [(vr_is (L := L) 7 (by decide) okd).mp ((hd ()).trans (by omega))]; rfl), ← vr_dO D, vx_even_r hz]; exact (by rw [decide_eq_true (Classical.not_not.mp h19), decide_eq_true (Classical.not_not.mp h28)]; rfl)
                  have r7 := vx_r7' (M := M) (A := (vr_A I L 1024)) (o := f.o) (z := f.z) (w := true) ((hd ()).trans (show zd = 7 by omega))
                  rw [hrr ()] at r7
                  have e6 : vx_atp M f (vr_A I L 1024) = (0, (vr_A I L 1024)) := vx_at6 (by rw [eD, eS, e0, hd (), hs (), h0 ()]; omega) (by rw [eD, hd ()]; omega) (fun z => z.elim (fun z => by rw [eD, ev] at z; exact absurd z (by decide)) (fun z => by rw [eD, hrr ()] at z; omega)) (by rw [eS, e0, hs (), h0 ()]; omega) (fun z => h44 ((vi_odd2 hi).mpr z))
                  exact ⟨_, _, by rw [← eQ, e6]; rfl, fun _ => by rw [← eQ, e6]; exact ⟨rfl, oa⟩, vr_fr_refl hf⟩
                · refine jv_Wp.lift (fun _ Kz => jv_Ev.steps jv_i295 2 (pc' := 284) (l' := [(2, .int (vl_I w54)), (7, .int (1 : Int32)), (5, .long ((vl_I f.z).toInt64 - (1 : Int64))), (4, .int (vl_I (8 + (76800 + f.d)))), (3, .int (I 205 (76800 + f.d))), (1, .int (vl_I f.z)), (0, .ref 196)]) (st' := [.ref 196, .ref 196]) rfl Kz) ?_
                  refine jv_Wp.lift (fun _ Kz => jv_Ev.m jv_i295 (pc' := 287) (st' := [.int (vl_I f.s), .ref 196]) (G' := (jv_H K I L R)) rfl rfl (jv_m_getI (jv_rwK hW 196 12 24 (by decide)) rfl rfl D.2.2.1) Kz) ?_
                  refine jv_Wp.lift (fun _ Kz => jv_Ev.steps jv_i295 1 (pc' := 288) (l' := [(2, .int (vl_I w54)), (7, .int (1 : Int32)), (5, .long ((vl_I f.z).toInt64 - (1 : Int64))), (4, .int (vl_I (8 + (76800 + f.d)))), (3, .int (I 205 (76800 + f.d))), (1, .int (vl_I f.z)), (0, .ref 196)]) (st' := [.int (vl_I f.z), .int (vl_I f.s), .ref 196]) rfl Kz) ?_
                  obtain ⟨I55, L55, H55, T55, O55, F55⟩ := vq_setAny (I := I) (L := L) (R := R) (n := n) (sl := sl) f.s f.z hW hf (by omega) hz
                  refine jv_Wp.lift (fun _ Kz => jv_Ev.c jv_i295 (pc' := 291) (S' := []) (G1 := (jv_H K I55 L55 R)) jv_i274 [.ref 196, .int (vl_I f.s), .int (vl_I f.z)] rfl rfl rfl rfl (jv_cal rfl (jv_H_at (jv_rwK hW 196 12 24 (by decide))) rfl rfl) rfl H55 rfl rfl Kz) ?_
                  refine jv_Wp.lift (fun _ Kz => jv_Ev.steps jv_i295 1 (pc' := 292) (l' := [(2, .int (vl_I w54)), (7, .int (1 : Int32)), (5, .long ((vl_I f.z).toInt64 - (1 : Int64))), (4, .int (vl_I (8 + (76800 + f.d)))), (3, .int (I 205 (76800 + f.d))), (1, .int (vl_I f.z)), (0, .ref 196)]) (st' := [.int (0 : Int32)]) rfl Kz) ?_
                  refine jv_Wp.of (jv_Ev.ret jv_i295 rfl rfl) ?_
                  rw [hQ]
                  have td0 : ¬ zd = 0 := fun z => h1 ((vr_isN (L := L) okd hd11).mp ((hd ()).trans z))
                  have td7 : zd = 7 := (hd ()).symm.trans ((vr_is (L := L) 7 (by decide) okd).mpr (Classical.not_not.mp h10))
                  have ts0 : ¬ zs = 0 := fun z => h37 ((vr_isN (L := L) oks hs11).mp ((hs ()).trans z))
                  have ts1 : ¬ zs = 1 := fun z => h40 ((vr_is (L := L) 1 (by decide) oks).mp ((hs ()).trans z))
                  have nx1 : w54 ≤ 0 := (vl_I_le (a := w54) (b := 0) (by omega) (by omega)).mp h43
                  have ev : vx_even (vr_T I L (76800 + f.d)).val f.o f.z = true := by rw [vr_valv (by rw [(vr_is (L := L) 7 (by decide) okd).mp ((hd ()).trans (by omega))]; rfl), ← vr_dO D, vx_even_r hz]; exact (by rw [decide_eq_true (Classical.not_not.mp h19), decide_eq_true (Classical.not_not.mp h28)]; rfl)
                  have r7 := vx_r7' (M := M) (A := (vr_A I L 1024)) (o := f.o) (z := f.z) (w := true) ((hd ()).trans (show zd = 7 by omega))
                  rw [hrr ()] at r7
                  have e5 : vx_atp M f (vr_A I L 1024) = (0, vt_up (vr_A I L 1024) f.s (vt_num (vx_anyz f.z))) := by have q := vx_at5 (M := M) (f := f) (A := (vr_A I L 1024)) (by rw [eD, eS, e0, hd (), hs (), h0 ()]; omega) (by rw [eD, hd ()]; omega) (fun z => z.elim (fun z => by rw [eD, ev] at z; exact absurd z (by decide)) (fun z => by rw [eD, hrr ()] at z; omega)) (by rw [eS, e0, hs (), h0 ()]; omega) ((vi_odd2 hi).mp (Classical.not_not.mp h44)); rw [if_neg m241] at q; exact q
                  have u := vr_upA (I := I) (L := L) (k := 1024) (r := f.s) (t := (vt_num (vx_anyz f.z))) (by omega) T55 O55 F55 (fun n hn e q => e (by omega)) oa
                  exact ⟨_, _, by rw [← eQ, e5]; rfl, fun _ => by rw [← eQ, e5]; exact u, vr_fr_P F55 (fun x z => by omega)⟩
              · refine jv_Wp.lift (fun _ Kz => jv_Ev.steps jv_i295 1 (pc' := 252) (l' := [(2, .int (vl_I w54)), (7, .int (1 : Int32)), (5, .long ((vl_I f.z).toInt64 - (1 : Int64))), (4, .int (vl_I (8 + (76800 + f.d)))), (3, .int (I 205 (76800 + f.d))), (1, .int (vl_I f.z)), (0, .ref 196)]) (st' := [.int (vl_I w54)]) rfl Kz) ?_
                refine jv_Wp.of (jv_Ev.ret jv_i295 rfl rfl) ?_
                rw [hQ]
                have td0 : ¬ zd = 0 := fun z => h1 ((vr_isN (L := L) okd hd11).mp ((hd ()).trans z))
                have td7 : zd = 7 := (hd ()).symm.trans ((vr_is (L := L) 7 (by decide) okd).mpr (Classical.not_not.mp h10))
                have ts0 : ¬ zs = 0 := fun z => h37 ((vr_isN (L := L) oks hs11).mp ((hs ()).trans z))
                have ts1 : ¬ zs = 1 := fun z => h40 ((vr_is (L := L) 1 (by decide) oks).mp ((hs ()).trans z))
                have nx1 : ¬ w54 ≤ 0 := fun z => h43 ((vl_I_le (a := w54) (b := 0) (by omega) (by omega)).mpr z)
                have ev : vx_even (vr_T I L (76800 + f.d)).val f.o f.z = true := by rw [vr_valv (by rw [(vr_is (L := L) 7 (by decide) okd).mp ((hd ()).trans (by omega))]; rfl), ← vr_dO D, vx_even_r hz]; exact (by rw [decide_eq_true (Classical.not_not.mp h19), decide_eq_true (Classical.not_not.mp h28)]; rfl)
                have r7 := vx_r7' (M := M) (A := (vr_A I L 1024)) (o := f.o) (z := f.z) (w := true) ((hd ()).trans (show zd = 7 by omega))
                rw [hrr ()] at r7
                have e : vx_atp M f (vr_A I L 1024) = (w54, (vr_A I L 1024)) := by
                  by_cases c1 : zd = 0 ∨ zs = 0 ∨ (f.i = 241 ∧ z0 = 0)
                  · rw [show w54 = 1 by omega]; exact vx_at1 (by rw [eD, eS, e0, hd (), hs (), h0 ()]; omega)
                  · by_cases c2 : rr ≠ 0
                    · rw [show w54 = 4 by omega]; exact vx_at3 (by rw [eD, eS, e0, hd (), hs (), h0 ()]; omega) (by rw [eD, hd ()]; omega) (Or.inr (by rw [eD, hrr ()]; exact c2))
                    · rw [show w54 = 6 by omega]; exact vx_at4 (by rw [eD, eS, e0, hd (), hs (), h0 ()]; omega) (by rw [eD, hd ()]; omega) (fun z => z.elim (fun z => by rw [eD, ev] at z; exact absurd z (by decide)) (fun z => by rw [eD, hrr ()] at z; omega)) (by rw [eS, e0, hs (), h0 ()]; omega)
                exact ⟨_, _, by rw [← eQ, e], fun z => by rw [← eQ, e] at z; exact absurd (show w54 = 0 from z) (by omega), vr_fr_refl hf⟩
theorem vq_atomicX {K : Nat → Option (Nat × Nat)} {I : Nat → Nat → Int32} {L : Nat → Nat → Int64} {R : Nat → Nat → Value} (M : vf_M) (f : vf_F) (hW : jv_rW K R) (hf : vr_fl I) (hM : vr_M I M) (D : vr_dec I f) (hi : 0 ≤ f.i ∧ f.i < 256) (m241 : f.i = 241) (oa : vr_okA I 1024) (gA : ∀ n, n < 75 → vt_g (vr_T I L (76800 + n))) (hd11 : f.d < 11) (hs11 : f.s < 11) {n sl : Nat} : ∃ I1 L1, jv_Ms 295 [.ref 196] (jv_H K I L R) n sl (some (.int (vl_I (vx_atomic M f (vr_A I L 1024)).1)), jv_H K I1 L1 R, n, sl) ∧ ((vx_atomic M f (vr_A I L 1024)).1 = 0 → vr_A I1 L1 1024 = (vx_atomic M f (vr_A I L 1024)).2 ∧ vr_okA I1 1024) ∧ vr_fr (fun x => x = 76800 ∨ x = 76800 + f.s) noE I L I1 L1 := by
  obtain ⟨Q, hQ⟩ : ∃ Q : jv_R → Prop, Q = fun X => ∃ I1 L1, X = (some (.int (vl_I (vx_atomic M f (vr_A I L 1024)).1)), jv_H K I1 L1 R, n, sl) ∧ ((vx_atomic M f (vr_A I L 1024)).1 = 0 → vr_A I1 L1 1024 = (vx_atomic M f (vr_A I L 1024)).2 ∧ vr_okA I1 1024) ∧ vr_fr (fun x => x = 76800 ∨ x = 76800 + f.s) noE I L I1 L1 := ⟨_, rfl⟩
  suffices h : jv_Wp 295 0 [(0, .ref 196)] [] (jv_H K I L R) n sl Q by
    rw [hQ] at h
    obtain ⟨X, h, I1, L1, e, h'⟩ := h
    subst e
    exact ⟨I1, L1, h, h'⟩
  have hz := vf_z f
  have h241 : Int32.ofInt f.i = (241 : Int32) := by rw [m241]; rfl
  have okd : vr_ok I (76800 + f.d) f.d := oa f.d (by omega)
  have eD : (vr_A I L 1024).1 f.d = (vr_T I L (76800 + f.d)) := vr_A1 (by omega)
  obtain ⟨zd, hd⟩ : ∃ x : Nat, ∀ _ : Unit, (vr_T I L (76800 + f.d)).sort = x := ⟨_, fun _ => rfl⟩
  obtain ⟨rd, hrd⟩ : ∃ x : Nat, ∀ _ : Unit, vr_rd (I 205 (76800 + f.d)) = x := ⟨_, fun _ => rfl⟩
  have rdfd : (zd = 0 → rd = 1) ∧ (zd ≠ 0 → rd = 0) := by rw [← hd (), ← hrd ()]; exact vr_rd_f okd hd11
  have oks : vr_ok I (76800 + f.s) f.s := oa f.s (by omega)
  have eS : (vr_A I L 1024).1 f.s = (vr_T I L (76800 + f.s)) := vr_A1 (by omega)
  obtain ⟨zs, hs⟩ : ∃ x : Nat, ∀ _ : Unit, (vr_T I L (76800 + f.s)).sort = x := ⟨_, fun _ => rfl⟩
  obtain ⟨rs, hrs⟩ : ∃ x : Nat, ∀ _ : Unit, vr_rd (I 205 (76800 + f.s)) = x := ⟨_, fun _ => rfl⟩
  have rdfs : (zs = 0 → rs = 1) ∧ (zs ≠ 0 → rs = 0) := by rw [← hs (), ← hrs ()]; exact vr_rd_f oks hs11
  have ok0 : vr_ok I (76800 + 0) 0 := oa 0 (by omega)
  have e0 : (vr_A I L 1024).1 0 = (vr_T I L (76800 + 0)) := vr_A1 (by omega)
  obtain ⟨z0, h0⟩ : ∃ x : Nat, ∀ _ : Unit, (vr_T I L (76800 + 0)).sort = x := ⟨_, fun _ => rfl⟩
  obtain ⟨r0, hr0⟩ : ∃ x : Nat, ∀ _ : Unit, vr_rd (I 205 (76800 + 0)) = x := ⟨_, fun _ => rfl⟩
  have rdf0 : (z0 = 0 → r0 = 1) ∧ (z0 ≠ 0 → r0 = 0) := by rw [← h0 (), ← hr0 ()]; exact vr_rd_f ok0 (by decide)
  obtain ⟨kd, k8, hkd⟩ := vr_kdx (L := L) okd (gA f.d (by omega))
  obtain ⟨bd, hbd⟩ : ∃ x : Nat, ∀ _ : Unit, vr_re M (vr_A I L 1024) (vr_T I L (76800 + f.d)) f.o f.z true = x := ⟨_, fun _ => rfl⟩
  have bd5 : bd < 5 := by rw [← hbd ()]; exact vr_re_lt
  obtain ⟨rr, hrr⟩ : ∃ x : Nat, ∀ _ : Unit, vx_reach M (vr_A I L 1024) (vr_T I L (76800 + f.d)) f.o f.z true = x := ⟨_, fun _ => rfl⟩
  have rr5 : rr < 5 := by rw [← hrr ()]; exact vx_reach_lt
  have bdf := vr_re_f (hbd ()) (hd ()) (hrr ())
  have eQ : vx_atp M f (vr_A I L 1024) = vx_atomic M f (vr_A I L 1024) := (vx_atp_eq M f (vr_A I L 1024)).symm
  refine jv_Wp.lift (fun _ Kz => jv_Ev.steps jv_i295 1 (pc' := 1) (l' := [(0, .ref 196)]) (st' := [.ref 196]) rfl Kz) ?_
  refine jv_Wp.lift (fun _ Kz => jv_Ev.c jv_i295 (pc' := 4) (S' := [.int (vl_I f.z)]) jv_i260 [.ref 196] rfl rfl rfl rfl (jv_cal rfl (jv_H_at (jv_rwK hW 196 12 24 (by decide))) rfl rfl) rfl (vq_size f hW D) rfl rfl Kz) ?_
  refine jv_Wp.lift (fun _ Kz => jv_Ev.steps jv_i295 3 (pc' := 7) (l' := [(1, .int (vl_I f.z)), (0, .ref 196)]) (st' := [.ref 196, .ref 196]) rfl Kz) ?_
  refine jv_Wp.lift (fun _ Kz => jv_Ev.m jv_i295 (pc' := 10) (st' := [.int (vl_I f.d), .ref 196]) (G' := (jv_H K I L R)) rfl rfl (jv_m_getI (jv_rwK hW 196 12 24 (by decide)) rfl rfl D.2.1) Kz) ?_
  have Hr56 := vq_reads (I := I) (L := L) (K := K) (R := R) (n := n) (sl := sl) f.d hW (by omega)
  rw [hrd ()] at Hr56
  refine jv_Wp.lift (fun _ Kz => jv_Ev.c jv_i295 (pc' := 13) (S' := [.int (vl_I rd)]) jv_i283 [.ref 196, .int (vl_I f.d)] rfl rfl rfl rfl (jv_cal rfl (jv_H_at (jv_rwK hW 196 12 24 (by decide))) rfl rfl) rfl Hr56 rfl rfl Kz) ?_
  refine jv_Wp.lift (fun _ Kz => jv_Ev.steps jv_i295 2 (pc' := 15) (l' := [(1, .int (vl_I f.z)), (0, .ref 196)]) (st' := [.ref 196, .ref 196, .int (vl_I rd)]) rfl Kz) ?_
  refine jv_Wp.lift (fun _ Kz => jv_Ev.m jv_i295 (pc' := 18) (st' := [.int (vl_I f.s), .ref 196, .int (vl_I rd)]) (G' := (jv_H K I L R)) rfl rfl (jv_m_getI (jv_rwK hW 196 12 24 (by decide)) rfl rfl D.2.2.1) Kz) ?_
  have Hr57 := vq_reads (I := I) (L := L) (K := K) (R := R) (n := n) (sl := sl) f.s hW (by omega)
  rw [hrs ()] at Hr57
  refine jv_Wp.lift (fun _ Kz => jv_Ev.c jv_i295 (pc' := 21) (S' := [.int (vl_I rs), .int (vl_I rd)]) jv_i283 [.ref 196, .int (vl_I f.s)] rfl rfl rfl rfl (jv_cal rfl (jv_H_at (jv_rwK hW 196 12 24 (by decide))) rfl rfl) rfl Hr57 rfl rfl Kz) ?_
  obtain ⟨w58, hq58⟩ : ∃ x : Nat, ∀ _ : Unit, vx_fst rd rs = x := ⟨_, fun _ => rfl⟩
  have fq58 : (rd = 0 → w58 = rs) ∧ (rs = 0 → w58 = rd) ∧ (w58 = rd ∨ w58 = rs) ∧ (rd ≠ 0 → rs ≠ 0 → w58 ≤ rd ∧ w58 ≤ rs) := by rw [← hq58 ()]; exact vx_fst_g rd rs
  have Hf58 := vq_first (I := I) (L := L) (K := K) (R := R) (n := n) (sl := sl) rd rs (by omega) (by omega)
  rw [hq58 ()] at Hf58
  refine jv_Wp.lift (fun _ Kz => jv_Ev.c jv_i295 (pc' := 24) (S' := [.int (vl_I w58)]) jv_i282 [.int (vl_I rd), .int (vl_I rs)] rfl rfl rfl rfl rfl rfl Hf58 rfl rfl Kz) ?_
  refine jv_Wp.lift (fun _ Kz => jv_Ev.steps jv_i295 3 (pc' := 27) (l' := [(2, .int (vl_I w58)), (1, .int (vl_I f.z)), (0, .ref 196)]) (st' := [.ref 196, .int (vl_I w58)]) rfl Kz) ?_
  refine jv_Wp.lift (fun _ Kz => jv_Ev.m jv_i295 (pc' := 30) (st' := [.int (Int32.ofInt f.i), .int (vl_I w58)]) (G' := (jv_H K I L R)) rfl rfl (jv_m_getI (jv_rwK hW 196 12 24 (by decide)) rfl rfl (vr_dJ D)) Kz) ?_
  refine jv_Wp.lift (fun _ Kz => jv_Ev.steps jv_i295 1 (pc' := 33) (l' := [(2, .int (vl_I w58)), (1, .int (vl_I f.z)), (0, .ref 196)]) (st' := [.int (241 : Int32), .int (Int32.ofInt f.i), .int (vl_I w58)]) rfl Kz) ?_
  refine jv_Wp.cnd jv_i295 (pt := 44) (pe := 36) (p := (¬ (Int32.ofInt f.i) = (241 : Int32))) (q := (¬ (Int32.ofInt f.i) = (241 : Int32))) rfl jv_bc_ne rfl rfl Iff.rfl (fun hz => absurd hz (fun z => z h241)) (fun _ => ?_)
  refine jv_Wp.lift (fun _ Kz => jv_Ev.steps jv_i295 2 (pc' := 38) (l' := [(2, .int (vl_I w58)), (1, .int (vl_I f.z)), (0, .ref 196)]) (st' := [.int (0 : Int32), .ref 196, .int (vl_I w58)]) rfl Kz) ?_
  have Hr59 := vq_reads (I := I) (L := L) (K := K) (R := R) (n := n) (sl := sl) 0 hW (by omega)
  rw [hr0 ()] at Hr59
  refine jv_Wp.lift (fun _ Kz => jv_Ev.c jv_i295 (pc' := 41) (S' := [.int (vl_I r0), .int (vl_I w58)]) jv_i283 [.ref 196, .int (0 : Int32)] rfl rfl rfl rfl (jv_cal rfl (jv_H_at (jv_rwK hW 196 12 24 (by decide))) rfl rfl) rfl Hr59 rfl rfl Kz) ?_
  refine jv_Wp.lift (fun _ Kz => jv_Ev.steps jv_i295 1 (pc' := 45) (l' := [(2, .int (vl_I w58)), (1, .int (vl_I f.z)), (0, .ref 196)]) (st' := [.int (vl_I r0), .int (vl_I w58)]) rfl Kz) ?_
  obtain ⟨w60, hq60⟩ : ∃ x : Nat, ∀ _ : Unit, vx_fst w58 r0 = x := ⟨_, fun _ => rfl⟩
  have fq60 : (w58 = 0 → w60 = r0) ∧ (r0 = 0 → w60 = w58) ∧ (w60 = w58 ∨ w60 = r0) ∧ (w58 ≠ 0 → r0 ≠ 0 → w60 ≤ w58 ∧ w60 ≤ r0) := by rw [← hq60 ()]; exact vx_fst_g w58 r0
  have Hf60 := vq_first (I := I) (L := L) (K := K) (R := R) (n := n) (sl := sl) w58 r0 (by omega) (by omega)
  rw [hq60 ()] at Hf60
  refine jv_Wp.lift (fun _ Kz => jv_Ev.c jv_i295 (pc' := 48) (S' := [.int (vl_I w60)]) jv_i282 [.int (vl_I w58), .int (vl_I r0)] rfl rfl rfl rfl rfl rfl Hf60 rfl rfl Kz) ?_
  refine jv_Wp.lift (fun _ Kz => jv_Ev.steps jv_i295 3 (pc' := 51) (l' := [(2, .int (vl_I w60)), (1, .int (vl_I f.z)), (0, .ref 196)]) (st' := [.ref 196, .ref 196]) rfl Kz) ?_
  refine jv_Wp.lift (fun _ Kz => jv_Ev.m jv_i295 (pc' := 54) (st' := [.int (vl_I f.d), .ref 196]) (G' := (jv_H K I L R)) rfl rfl (jv_m_getI (jv_rwK hW 196 12 24 (by decide)) rfl rfl D.2.1) Kz) ?_
  refine jv_Wp.lift (fun _ Kz => jv_Ev.c jv_i295 (pc' := 57) (S' := [.int (I 205 (76800 + f.d))]) jv_i271 [.ref 196, .int (vl_I f.d)] rfl rfl rfl rfl (jv_cal rfl (jv_H_at (jv_rwK hW 196 12 24 (by decide))) rfl rfl) rfl (vq_sortOf f.d hW (by omega)) rfl rfl Kz) ?_
  refine jv_Wp.lift (fun _ Kz => jv_Ev.steps jv_i295 3 (pc' := 60) (l' := [(3, .int (I 205 (76800 + f.d))), (2, .int (vl_I w60)), (1, .int (vl_I f.z)), (0, .ref 196)]) (st' := [.int (I 205 (76800 + f.d)), .int (vl_I w60)]) rfl Kz) ?_
  refine jv_Wp.cnd jv_i295 (pt := 69) (pe := 63) (p := ((I 205 (76800 + f.d)) = 0)) (q := ((I 205 (76800 + f.d)) = 0)) rfl jv_bi_eq rfl rfl Iff.rfl (fun h1 => ?_) (fun h1 => ?_)
  · refine jv_Wp.lift (fun _ Kz => jv_Ev.steps jv_i295 2 (pc' := 74) (l' := [(3, .int (I 205 (76800 + f.d))), (2, .int (vl_I w60)), (1, .int (vl_I f.z)), (0, .ref 196)]) (st' := [.int (0 : Int32), .int (vl_I w60)]) rfl Kz) ?_
    obtain ⟨w61, hq61⟩ : ∃ x : Nat, ∀ _ : Unit, vx_fst w60 0 = x := ⟨_, fun _ => rfl⟩
    have fq61 : (w60 = 0 → w61 = 0) ∧ (0 = 0 → w61 = w60) ∧ (w61 = w60 ∨ w61 = 0) ∧ (w60 ≠ 0 → 0 ≠ 0 → w61 ≤ w60 ∧ w61 ≤ 0) := by rw [← hq61 ()]; exact vx_fst_g w60 0
    have Hf61 := vq_first (I := I) (L := L) (K := K) (R := R) (n := n) (sl := sl) w60 0 (by omega) (by omega)
    rw [hq61 ()] at Hf61
    refine jv_Wp.lift (fun _ Kz => jv_Ev.c jv_i295 (pc' := 77) (S' := [.int (vl_I w61)]) jv_i282 [.int (vl_I w60), .int (0 : Int32)] rfl rfl rfl rfl rfl rfl Hf61 rfl rfl Kz) ?_
    refine jv_Wp.lift (fun _ Kz => jv_Ev.steps jv_i295 3 (pc' := 81) (l' := [(2, .int (vl_I w61)), (3, .int (I 205 (76800 + f.d))), (1, .int (vl_I f.z)), (0, .ref 196)]) (st' := [.int (7 : Int32), .int (I 205 (76800 + f.d))]) rfl Kz) ?_
    refine jv_Wp.cnd jv_i295 (pt := 175) (pe := 84) (p := (¬ (I 205 (76800 + f.d)) = (7 : Int32))) (q := (¬ (I 205 (76800 + f.d)) = (7 : Int32))) rfl jv_bc_ne rfl rfl Iff.rfl (fun _ => ?_) (fun hz => absurd (fun z => absurd (z.symm.trans h1) (by decide)) hz)
    refine jv_Wp.lift (fun _ Kz => jv_Ev.steps jv_i295 3 (pc' := 178) (l' := [(2, .int (vl_I w61)), (3, .int (I 205 (76800 + f.d))), (1, .int (vl_I f.z)), (0, .ref 196)]) (st' := [.ref 196, .ref 196, .int (vl_I w61)]) rfl Kz) ?_
    refine jv_Wp.lift (fun _ Kz => jv_Ev.m jv_i295 (pc' := 181) (st' := [.int (vl_I f.s), .ref 196, .int (vl_I w61)]) (G' := (jv_H K I L R)) rfl rfl (jv_m_getI (jv_rwK hW 196 12 24 (by decide)) rfl rfl D.2.2.1) Kz) ?_
    refine jv_Wp.lift (fun _ Kz => jv_Ev.c jv_i295 (pc' := 184) (S' := [.int (I 205 (76800 + f.s)), .int (vl_I w61)]) jv_i271 [.ref 196, .int (vl_I f.s)] rfl rfl rfl rfl (jv_cal rfl (jv_H_at (jv_rwK hW 196 12 24 (by decide))) rfl rfl) rfl (vq_sortOf f.s hW (by omega)) rfl rfl Kz) ?_
    refine jv_Wp.cnd jv_i295 (pt := 204) (pe := 187) (p := ((I 205 (76800 + f.s)) = 0)) (q := ((I 205 (76800 + f.s)) = 0)) rfl jv_bi_eq rfl rfl Iff.rfl (fun h2 => ?_) (fun h2 => ?_)
    · refine jv_Wp.lift (fun _ Kz => jv_Ev.steps jv_i295 1 (pc' := 205) (l' := [(2, .int (vl_I w61)), (3, .int (I 205 (76800 + f.d))), (1, .int (vl_I f.z)), (0, .ref 196)]) (st' := [.int (0 : Int32), .int (vl_I w61)]) rfl Kz) ?_
      obtain ⟨w62, hq62⟩ : ∃ x : Nat, ∀ _ : Unit, vx_fst w61 0 = x := ⟨_, fun _ => rfl⟩
      have fq62 : (w61 = 0 → w62 = 0) ∧ (0 = 0 → w62 = w61) ∧ (w62 = w61 ∨ w62 = 0) ∧ (w61 ≠ 0 → 0 ≠ 0 → w62 ≤ w61 ∧ w62 ≤ 0) := by rw [← hq62 ()]; exact vx_fst_g w61 0
      have Hf62 := vq_first (I := I) (L := L) (K := K) (R := R) (n := n) (sl := sl) w61 0 (by omega) (by omega)
      rw [hq62 ()] at Hf62
      refine jv_Wp.lift (fun _ Kz => jv_Ev.c jv_i295 (pc' := 208) (S' := [.int (vl_I w62)]) jv_i282 [.int (vl_I w61), .int (0 : Int32)] rfl rfl rfl rfl rfl rfl Hf62 rfl rfl Kz) ?_
      refine jv_Wp.lift (fun _ Kz => jv_Ev.steps jv_i295 3 (pc' := 211) (l' := [(2, .int (vl_I w62)), (3, .int (I 205 (76800 + f.d))), (1, .int (vl_I f.z)), (0, .ref 196)]) (st' := [.ref 196, .int (vl_I w62)]) rfl Kz) ?_
      refine jv_Wp.lift (fun _ Kz => jv_Ev.m jv_i295 (pc' := 214) (st' := [.int (Int32.ofInt f.i), .int (vl_I w62)]) (G' := (jv_H K I L R)) rfl rfl (jv_m_getI (jv_rwK hW 196 12 24 (by decide)) rfl rfl (vr_dJ D)) Kz) ?_
      refine jv_Wp.lift (fun _ Kz => jv_Ev.steps jv_i295 1 (pc' := 217) (l' := [(2, .int (vl_I w62)), (3, .int (I 205 (76800 + f.d))), (1, .int (vl_I f.z)), (0, .ref 196)]) (st' := [.int (241 : Int32), .int (Int32.ofInt f.i), .int (vl_I w62)]) rfl Kz) ?_
      refine jv_Wp.cnd jv_i295 (pt := 242) (pe := 220) (p := (¬ (Int32.ofInt f.i) = (241 : Int32))) (q := (¬ (Int32.ofInt f.i) = (241 : Int32))) rfl jv_bc_ne rfl rfl Iff.rfl (fun hz => absurd hz (fun z => z h241)) (fun _ => ?_)
      refine jv_Wp.lift (fun _ Kz => jv_Ev.steps jv_i295 2 (pc' := 222) (l' := [(2, .int (vl_I w62)), (3, .int (I 205 (76800 + f.d))), (1, .int (vl_I f.z)), (0, .ref 196)]) (st' := [.int (0 : Int32), .ref 196, .int (vl_I w62)]) rfl Kz) ?_
      refine jv_Wp.lift (fun _ Kz => jv_Ev.c jv_i295 (pc' := 225) (S' := [.int (I 205 (76800 + 0)), .int (vl_I w62)]) jv_i271 [.ref 196, .int (0 : Int32)] rfl rfl rfl rfl (jv_cal rfl (jv_H_at (jv_rwK hW 196 12 24 (by decide))) rfl rfl) rfl (vq_sortOf 0 hW (by omega)) rfl rfl Kz) ?_
      refine jv_Wp.cnd jv_i295 (pt := 242) (pe := 228) (p := ((I 205 (76800 + 0)) = 0)) (q := ((I 205 (76800 + 0)) = 0)) rfl jv_bi_eq rfl rfl Iff.rfl (fun h3 => ?_) (fun h3 => ?_)
      · refine jv_Wp.lift (fun _ Kz => jv_Ev.steps jv_i295 1 (pc' := 243) (l' := [(2, .int (vl_I w62)), (3, .int (I 205 (76800 + f.d))), (1, .int (vl_I f.z)), (0, .ref 196)]) (st' := [.int (0 : Int32), .int (vl_I w62)]) rfl Kz) ?_
        obtain ⟨w63, hq63⟩ : ∃ x : Nat, ∀ _ : Unit, vx_fst w62 0 = x := ⟨_, fun _ => rfl⟩
        have fq63 : (w62 = 0 → w63 = 0) ∧ (0 = 0 → w63 = w62) ∧ (w63 = w62 ∨ w63 = 0) ∧ (w62 ≠ 0 → 0 ≠ 0 → w63 ≤ w62 ∧ w63 ≤ 0) := by rw [← hq63 ()]; exact vx_fst_g w62 0
        have Hf63 := vq_first (I := I) (L := L) (K := K) (R := R) (n := n) (sl := sl) w62 0 (by omega) (by omega)
        rw [hq63 ()] at Hf63
        refine jv_Wp.lift (fun _ Kz => jv_Ev.c jv_i295 (pc' := 246) (S' := [.int (vl_I w63)]) jv_i282 [.int (vl_I w62), .int (0 : Int32)] rfl rfl rfl rfl rfl rfl Hf63 rfl rfl Kz) ?_
        refine jv_Wp.lift (fun _ Kz => jv_Ev.steps jv_i295 2 (pc' := 248) (l' := [(2, .int (vl_I w63)), (3, .int (I 205 (76800 + f.d))), (1, .int (vl_I f.z)), (0, .ref 196)]) (st' := [.int (vl_I w63)]) rfl Kz) ?_
        refine jv_Wp.cnd jv_i295 (pt := 253) (pe := 251) (p := ((vl_I w63) ≤ 0)) (q := ((vl_I w63) ≤ 0)) rfl jv_bi_le rfl rfl Iff.rfl (fun h4 => ?_) (fun h4 => ?_)
        · refine jv_Wp.lift (fun _ Kz => jv_Ev.steps jv_i295 1 (pc' := 254) (l' := [(2, .int (vl_I w63)), (3, .int (I 205 (76800 + f.d))), (1, .int (vl_I f.z)), (0, .ref 196)]) (st' := [.ref 196]) rfl Kz) ?_
          refine jv_Wp.lift (fun _ Kz => jv_Ev.m jv_i295 (pc' := 257) (st' := [.int (Int32.ofInt f.i)]) (G' := (jv_H K I L R)) rfl rfl (jv_m_getI (jv_rwK hW 196 12 24 (by decide)) rfl rfl (vr_dJ D)) Kz) ?_
          refine jv_Wp.lift (fun _ Kz => jv_Ev.steps jv_i295 1 (pc' := 260) (l' := [(2, .int (vl_I w63)), (3, .int (I 205 (76800 + f.d))), (1, .int (vl_I f.z)), (0, .ref 196)]) (st' := [.int (241 : Int32), .int (Int32.ofInt f.i)]) rfl Kz) ?_
          refine jv_Wp.cnd jv_i295 (pt := 272) (pe := 263) (p := (¬ (Int32.ofInt f.i) = (241 : Int32))) (q := (¬ (Int32.ofInt f.i) = (241 : Int32))) rfl jv_bc_ne rfl rfl Iff.rfl (fun hz => absurd hz (fun z => z h241)) (fun _ => ?_)
          refine jv_Wp.lift (fun _ Kz => jv_Ev.steps jv_i295 3 (pc' := 266) (l' := [(2, .int (vl_I w63)), (3, .int (I 205 (76800 + f.d))), (1, .int (vl_I f.z)), (0, .ref 196)]) (st' := [.int (vl_I f.z), .int (0 : Int32), .ref 196]) rfl Kz) ?_
          obtain ⟨I64, L64, H64, T64, O64, F64⟩ := vq_setAny (I := I) (L := L) (R := R) (n := n) (sl := sl) 0 f.z hW hf (by omega) hz
          refine jv_Wp.lift (fun _ Kz => jv_Ev.c jv_i295 (pc' := 269) (S' := []) (G1 := (jv_H K I64 L64 R)) jv_i274 [.ref 196, .int (0 : Int32), .int (vl_I f.z)] rfl rfl rfl rfl (jv_cal rfl (jv_H_at (jv_rwK hW 196 12 24 (by decide))) rfl rfl) rfl H64 rfl rfl Kz) ?_
          refine jv_Wp.lift (fun _ Kz => jv_Ev.steps jv_i295 2 (pc' := 292) (l' := [(2, .int (vl_I w63)), (3, .int (I 205 (76800 + f.d))), (1, .int (vl_I f.z)), (0, .ref 196)]) (st' := [.int (0 : Int32)]) rfl Kz) ?_
          refine jv_Wp.of (jv_Ev.ret jv_i295 rfl rfl) ?_
          rw [hQ]
          have td0 : zd = 0 := (hd ()).symm.trans ((vr_isN (L := L) okd hd11).mpr h1)
          have ts0 : zs = 0 := (hs ()).symm.trans ((vr_isN (L := L) oks hs11).mpr h2)
          have t00 : z0 = 0 := (h0 ()).symm.trans ((vr_isN (L := L) ok0 (by decide)).mpr h3)
          have nx1 : w63 ≤ 0 := (vl_I_le (a := w63) (b := 0) (by omega) (by omega)).mp h4
          exact absurd (show False by omega) (fun z => z)
        · refine jv_Wp.lift (fun _ Kz => jv_Ev.steps jv_i295 1 (pc' := 252) (l' := [(2, .int (vl_I w63)), (3, .int (I 205 (76800 + f.d))), (1, .int (vl_I f.z)), (0, .ref 196)]) (st' := [.int (vl_I w63)]) rfl Kz) ?_
          refine jv_Wp.of (jv_Ev.ret jv_i295 rfl rfl) ?_
          rw [hQ]
          have td0 : zd = 0 := (hd ()).symm.trans ((vr_isN (L := L) okd hd11).mpr h1)
          have ts0 : zs = 0 := (hs ()).symm.trans ((vr_isN (L := L) oks hs11).mpr h2)
          have t00 : z0 = 0 := (h0 ()).symm.trans ((vr_isN (L := L) ok0 (by decide)).mpr h3)
          have nx1 : ¬ w63 ≤ 0 := fun z => h4 ((vl_I_le (a := w63) (b := 0) (by omega) (by omega)).mpr z)
          have e : vx_atp M f (vr_A I L 1024) = (w63, (vr_A I L 1024)) := by
            by_cases c1 : zd = 0 ∨ zs = 0 ∨ (f.i = 241 ∧ z0 = 0)
            · rw [show w63 = 1 by omega]; exact vx_at1 (by rw [eD, eS, e0, hd (), hs (), h0 ()]; omega)
            · rw [show w63 = 3 by omega]; exact vx_at2 (by rw [eD, eS, e0, hd (), hs (), h0 ()]; omega) (by rw [eD, hd ()]; omega)
          exact ⟨_, _, by rw [← eQ, e], fun z => by rw [← eQ, e] at z; exact absurd (show w63 = 0 from z) (by omega), vr_fr_refl hf⟩
      · refine jv_Wp.lift (fun _ Kz => jv_Ev.steps jv_i295 2 (pc' := 230) (l' := [(2, .int (vl_I w62)), (3, .int (I 205 (76800 + f.d))), (1, .int (vl_I f.z)), (0, .ref 196)]) (st' := [.int (0 : Int32), .ref 196, .int (vl_I w62)]) rfl Kz) ?_
        refine jv_Wp.lift (fun _ Kz => jv_Ev.c jv_i295 (pc' := 233) (S' := [.int (I 205 (76800 + 0)), .int (vl_I w62)]) jv_i271 [.ref 196, .int (0 : Int32)] rfl rfl rfl rfl (jv_cal rfl (jv_H_at (jv_rwK hW 196 12 24 (by decide))) rfl rfl) rfl (vq_sortOf 0 hW (by omega)) rfl rfl Kz) ?_
        refine jv_Wp.lift (fun _ Kz => jv_Ev.steps jv_i295 1 (pc' := 234) (l' := [(2, .int (vl_I w62)), (3, .int (I 205 (76800 + f.d))), (1, .int (vl_I f.z)), (0, .ref 196)]) (st' := [.int (1 : Int32), .int (I 205 (76800 + 0)), .int (vl_I w62)]) rfl Kz) ?_
        refine jv_Wp.cnd jv_i295 (pt := 242) (pe := 237) (p := ((I 205 (76800 + 0)) = (1 : Int32))) (q := ((I 205 (76800 + 0)) = (1 : Int32))) rfl jv_bc_eq rfl rfl Iff.rfl (fun h5 => ?_) (fun h5 => ?_)
        · refine jv_Wp.lift (fun _ Kz => jv_Ev.steps jv_i295 1 (pc' := 243) (l' := [(2, .int (vl_I w62)), (3, .int (I 205 (76800 + f.d))), (1, .int (vl_I f.z)), (0, .ref 196)]) (st' := [.int (0 : Int32), .int (vl_I w62)]) rfl Kz) ?_
          obtain ⟨w65, hq65⟩ : ∃ x : Nat, ∀ _ : Unit, vx_fst w62 0 = x := ⟨_, fun _ => rfl⟩
          have fq65 : (w62 = 0 → w65 = 0) ∧ (0 = 0 → w65 = w62) ∧ (w65 = w62 ∨ w65 = 0) ∧ (w62 ≠ 0 → 0 ≠ 0 → w65 ≤ w62 ∧ w65 ≤ 0) := by rw [← hq65 ()]; exact vx_fst_g w62 0
          have Hf65 := vq_first (I := I) (L := L) (K := K) (R := R) (n := n) (sl := sl) w62 0 (by omega) (by omega)
          rw [hq65 ()] at Hf65
          refine jv_Wp.lift (fun _ Kz => jv_Ev.c jv_i295 (pc' := 246) (S' := [.int (vl_I w65)]) jv_i282 [.int (vl_I w62), .int (0 : Int32)] rfl rfl rfl rfl rfl rfl Hf65 rfl rfl Kz) ?_
          refine jv_Wp.lift (fun _ Kz => jv_Ev.steps jv_i295 2 (pc' := 248) (l' := [(2, .int (vl_I w65)), (3, .int (I 205 (76800 + f.d))), (1, .int (vl_I f.z)), (0, .ref 196)]) (st' := [.int (vl_I w65)]) rfl Kz) ?_
          refine jv_Wp.cnd jv_i295 (pt := 253) (pe := 251) (p := ((vl_I w65) ≤ 0)) (q := ((vl_I w65) ≤ 0)) rfl jv_bi_le rfl rfl Iff.rfl (fun h6 => ?_) (fun h6 => ?_)
          · refine jv_Wp.lift (fun _ Kz => jv_Ev.steps jv_i295 1 (pc' := 254) (l' := [(2, .int (vl_I w65)), (3, .int (I 205 (76800 + f.d))), (1, .int (vl_I f.z)), (0, .ref 196)]) (st' := [.ref 196]) rfl Kz) ?_
            refine jv_Wp.lift (fun _ Kz => jv_Ev.m jv_i295 (pc' := 257) (st' := [.int (Int32.ofInt f.i)]) (G' := (jv_H K I L R)) rfl rfl (jv_m_getI (jv_rwK hW 196 12 24 (by decide)) rfl rfl (vr_dJ D)) Kz) ?_
            refine jv_Wp.lift (fun _ Kz => jv_Ev.steps jv_i295 1 (pc' := 260) (l' := [(2, .int (vl_I w65)), (3, .int (I 205 (76800 + f.d))), (1, .int (vl_I f.z)), (0, .ref 196)]) (st' := [.int (241 : Int32), .int (Int32.ofInt f.i)]) rfl Kz) ?_
            refine jv_Wp.cnd jv_i295 (pt := 272) (pe := 263) (p := (¬ (Int32.ofInt f.i) = (241 : Int32))) (q := (¬ (Int32.ofInt f.i) = (241 : Int32))) rfl jv_bc_ne rfl rfl Iff.rfl (fun hz => absurd hz (fun z => z h241)) (fun _ => ?_)
            refine jv_Wp.lift (fun _ Kz => jv_Ev.steps jv_i295 3 (pc' := 266) (l' := [(2, .int (vl_I w65)), (3, .int (I 205 (76800 + f.d))), (1, .int (vl_I f.z)), (0, .ref 196)]) (st' := [.int (vl_I f.z), .int (0 : Int32), .ref 196]) rfl Kz) ?_
            obtain ⟨I66, L66, H66, T66, O66, F66⟩ := vq_setAny (I := I) (L := L) (R := R) (n := n) (sl := sl) 0 f.z hW hf (by omega) hz
            refine jv_Wp.lift (fun _ Kz => jv_Ev.c jv_i295 (pc' := 269) (S' := []) (G1 := (jv_H K I66 L66 R)) jv_i274 [.ref 196, .int (0 : Int32), .int (vl_I f.z)] rfl rfl rfl rfl (jv_cal rfl (jv_H_at (jv_rwK hW 196 12 24 (by decide))) rfl rfl) rfl H66 rfl rfl Kz) ?_
            refine jv_Wp.lift (fun _ Kz => jv_Ev.steps jv_i295 2 (pc' := 292) (l' := [(2, .int (vl_I w65)), (3, .int (I 205 (76800 + f.d))), (1, .int (vl_I f.z)), (0, .ref 196)]) (st' := [.int (0 : Int32)]) rfl Kz) ?_
            refine jv_Wp.of (jv_Ev.ret jv_i295 rfl rfl) ?_
            rw [hQ]
            have td0 : zd = 0 := (hd ()).symm.trans ((vr_isN (L := L) okd hd11).mpr h1)
            have ts0 : zs = 0 := (hs ()).symm.trans ((vr_isN (L := L) oks hs11).mpr h2)
            have t00 : ¬ z0 = 0 := fun z => h3 ((vr_isN (L := L) ok0 (by decide)).mp ((h0 ()).trans z))
            have t01 : z0 = 1 := (h0 ()).symm.trans ((vr_is (L := L) 1 (by decide) ok0).mpr h5)
            have nx1 : w65 ≤ 0 := (vl_I_le (a := w65) (b := 0) (by omega) (by omega)).mp h6
            exact absurd (show False by omega) (fun z => z)
          · refine jv_Wp.lift (fun _ Kz => jv_Ev.steps jv_i295 1 (pc' := 252) (l' := [(2, .int (vl_I w65)), (3, .int (I 205 (76800 + f.d))), (1, .int (vl_I f.z)), (0, .ref 196)]) (st' := [.int (vl_I w65)]) rfl Kz) ?_
            refine jv_Wp.of (jv_Ev.ret jv_i295 rfl rfl) ?_
            rw [hQ]
            have td0 : zd = 0 := (hd ()).symm.trans ((vr_isN (L := L) okd hd11).mpr h1)
            have ts0 : zs = 0 := (hs ()).symm.trans ((vr_isN (L := L) oks hs11).mpr h2)
            have t00 : ¬ z0 = 0 := fun z => h3 ((vr_isN (L := L) ok0 (by decide)).mp ((h0 ()).trans z))
            have t01 : z0 = 1 := (h0 ()).symm.trans ((vr_is (L := L) 1 (by decide) ok0).mpr h5)
            have nx1 : ¬ w65 ≤ 0 := fun z => h6 ((vl_I_le (a := w65) (b := 0) (by omega) (by omega)).mpr z)
            have e : vx_atp M f (vr_A I L 1024) = (w65, (vr_A I L 1024)) := by
              by_cases c1 : zd = 0 ∨ zs = 0 ∨ (f.i = 241 ∧ z0 = 0)
              · rw [show w65 = 1 by omega]; exact vx_at1 (by rw [eD, eS, e0, hd (), hs (), h0 ()]; omega)
              · rw [show w65 = 3 by omega]; exact vx_at2 (by rw [eD, eS, e0, hd (), hs (), h0 ()]; omega) (by rw [eD, hd ()]; omega)
            exact ⟨_, _, by rw [← eQ, e], fun z => by rw [← eQ, e] at z; exact absurd (show w65 = 0 from z) (by omega), vr_fr_refl hf⟩
        · refine jv_Wp.lift (fun _ Kz => jv_Ev.steps jv_i295 2 (pc' := 243) (l' := [(2, .int (vl_I w62)), (3, .int (I 205 (76800 + f.d))), (1, .int (vl_I f.z)), (0, .ref 196)]) (st' := [.int (6 : Int32), .int (vl_I w62)]) rfl Kz) ?_
          obtain ⟨w67, hq67⟩ : ∃ x : Nat, ∀ _ : Unit, vx_fst w62 6 = x := ⟨_, fun _ => rfl⟩
          have fq67 : (w62 = 0 → w67 = 6) ∧ (6 = 0 → w67 = w62) ∧ (w67 = w62 ∨ w67 = 6) ∧ (w62 ≠ 0 → 6 ≠ 0 → w67 ≤ w62 ∧ w67 ≤ 6) := by rw [← hq67 ()]; exact vx_fst_g w62 6
          have Hf67 := vq_first (I := I) (L := L) (K := K) (R := R) (n := n) (sl := sl) w62 6 (by omega) (by omega)
          rw [hq67 ()] at Hf67
          refine jv_Wp.lift (fun _ Kz => jv_Ev.c jv_i295 (pc' := 246) (S' := [.int (vl_I w67)]) jv_i282 [.int (vl_I w62), .int (6 : Int32)] rfl rfl rfl rfl rfl rfl Hf67 rfl rfl Kz) ?_
          refine jv_Wp.lift (fun _ Kz => jv_Ev.steps jv_i295 2 (pc' := 248) (l' := [(2, .int (vl_I w67)), (3, .int (I 205 (76800 + f.d))), (1, .int (vl_I f.z)), (0, .ref 196)]) (st' := [.int (vl_I w67)]) rfl Kz) ?_
          refine jv_Wp.cnd jv_i295 (pt := 253) (pe := 251) (p := ((vl_I w67) ≤ 0)) (q := ((vl_I w67) ≤ 0)) rfl jv_bi_le rfl rfl Iff.rfl (fun h7 => ?_) (fun h7 => ?_)
          · refine jv_Wp.lift (fun _ Kz => jv_Ev.steps jv_i295 1 (pc' := 254) (l' := [(2, .int (vl_I w67)), (3, .int (I 205 (76800 + f.d))), (1, .int (vl_I f.z)), (0, .ref 196)]) (st' := [.ref 196]) rfl Kz) ?_
            refine jv_Wp.lift (fun _ Kz => jv_Ev.m jv_i295 (pc' := 257) (st' := [.int (Int32.ofInt f.i)]) (G' := (jv_H K I L R)) rfl rfl (jv_m_getI (jv_rwK hW 196 12 24 (by decide)) rfl rfl (vr_dJ D)) Kz) ?_
            refine jv_Wp.lift (fun _ Kz => jv_Ev.steps jv_i295 1 (pc' := 260) (l' := [(2, .int (vl_I w67)), (3, .int (I 205 (76800 + f.d))), (1, .int (vl_I f.z)), (0, .ref 196)]) (st' := [.int (241 : Int32), .int (Int32.ofInt f.i)]) rfl Kz) ?_
            refine jv_Wp.cnd jv_i295 (pt := 272) (pe := 263) (p := (¬ (Int32.ofInt f.i) = (241 : Int32))) (q := (¬ (Int32.ofInt f.i) = (241 : Int32))) rfl jv_bc_ne rfl rfl Iff.rfl (fun hz => absurd hz (fun z => z h241)) (fun _ => ?_)
            refine jv_Wp.lift (fun _ Kz => jv_Ev.steps jv_i295 3 (pc' := 266) (l' := [(2, .int (vl_I w67)), (3, .int (I 205 (76800 + f.d))), (1, .int (vl_I f.z)), (0, .ref 196)]) (st' := [.int (vl_I f.z), .int (0 : Int32), .ref 196]) rfl Kz) ?_
            obtain ⟨I68, L68, H68, T68, O68, F68⟩ := vq_setAny (I := I) (L := L) (R := R) (n := n) (sl := sl) 0 f.z hW hf (by omega) hz
            refine jv_Wp.lift (fun _ Kz => jv_Ev.c jv_i295 (pc' := 269) (S' := []) (G1 := (jv_H K I68 L68 R)) jv_i274 [.ref 196, .int (0 : Int32), .int (vl_I f.z)] rfl rfl rfl rfl (jv_cal rfl (jv_H_at (jv_rwK hW 196 12 24 (by decide))) rfl rfl) rfl H68 rfl rfl Kz) ?_
            refine jv_Wp.lift (fun _ Kz => jv_Ev.steps jv_i295 2 (pc' := 292) (l' := [(2, .int (vl_I w67)), (3, .int (I 205 (76800 + f.d))), (1, .int (vl_I f.z)), (0, .ref 196)]) (st' := [.int (0 : Int32)]) rfl Kz) ?_
            refine jv_Wp.of (jv_Ev.ret jv_i295 rfl rfl) ?_
            rw [hQ]
            have td0 : zd = 0 := (hd ()).symm.trans ((vr_isN (L := L) okd hd11).mpr h1)
            have ts0 : zs = 0 := (hs ()).symm.trans ((vr_isN (L := L) oks hs11).mpr h2)
            have t00 : ¬ z0 = 0 := fun z => h3 ((vr_isN (L := L) ok0 (by decide)).mp ((h0 ()).trans z))
            have t01 : ¬ z0 = 1 := fun z => h5 ((vr_is (L := L) 1 (by decide) ok0).mp ((h0 ()).trans z))
            have nx1 : w67 ≤ 0 := (vl_I_le (a := w67) (b := 0) (by omega) (by omega)).mp h7
            exact absurd (show False by omega) (fun z => z)
          · refine jv_Wp.lift (fun _ Kz => jv_Ev.steps jv_i295 1 (pc' := 252) (l' := [(2, .int (vl_I w67)), (3, .int (I 205 (76800 + f.d))), (1, .int (vl_I f.z)), (0, .ref 196)]) (st' := [.int (vl_I w67)]) rfl Kz) ?_
            refine jv_Wp.of (jv_Ev.ret jv_i295 rfl rfl) ?_
            rw [hQ]
            have td0 : zd = 0 := (hd ()).symm.trans ((vr_isN (L := L) okd hd11).mpr h1)
            have ts0 : zs = 0 := (hs ()).symm.trans ((vr_isN (L := L) oks hs11).mpr h2)
            have t00 : ¬ z0 = 0 := fun z => h3 ((vr_isN (L := L) ok0 (by decide)).mp ((h0 ()).trans z))
            have t01 : ¬ z0 = 1 := fun z => h5 ((vr_is (L := L) 1 (by decide) ok0).mp ((h0 ()).trans z))
            have nx1 : ¬ w67 ≤ 0 := fun z => h7 ((vl_I_le (a := w67) (b := 0) (by omega) (by omega)).mpr z)
            have e : vx_atp M f (vr_A I L 1024) = (w67, (vr_A I L 1024)) := by
              by_cases c1 : zd = 0 ∨ zs = 0 ∨ (f.i = 241 ∧ z0 = 0)
              · rw [show w67 = 1 by omega]; exact vx_at1 (by rw [eD, eS, e0, hd (), hs (), h0 ()]; omega)
              · rw [show w67 = 3 by omega]; exact vx_at2 (by rw [eD, eS, e0, hd (), hs (), h0 ()]; omega) (by rw [eD, hd ()]; omega)
            exact ⟨_, _, by rw [← eQ, e], fun z => by rw [← eQ, e] at z; exact absurd (show w67 = 0 from z) (by omega), vr_fr_refl hf⟩
    · refine jv_Wp.lift (fun _ Kz => jv_Ev.steps jv_i295 2 (pc' := 189) (l' := [(2, .int (vl_I w61)), (3, .int (I 205 (76800 + f.d))), (1, .int (vl_I f.z)), (0, .ref 196)]) (st' := [.ref 196, .ref 196, .int (vl_I w61)]) rfl Kz) ?_
      refine jv_Wp.lift (fun _ Kz => jv_Ev.m jv_i295 (pc' := 192) (st' := [.int (vl_I f.s), .ref 196, .int (vl_I w61)]) (G' := (jv_H K I L R)) rfl rfl (jv_m_getI (jv_rwK hW 196 12 24 (by decide)) rfl rfl D.2.2.1) Kz) ?_
      refine jv_Wp.lift (fun _ Kz => jv_Ev.c jv_i295 (pc' := 195) (S' := [.int (I 205 (76800 + f.s)), .int (vl_I w61)]) jv_i271 [.ref 196, .int (vl_I f.s)] rfl rfl rfl rfl (jv_cal rfl (jv_H_at (jv_rwK hW 196 12 24 (by decide))) rfl rfl) rfl (vq_sortOf f.s hW (by omega)) rfl rfl Kz) ?_
      refine jv_Wp.lift (fun _ Kz => jv_Ev.steps jv_i295 1 (pc' := 196) (l' := [(2, .int (vl_I w61)), (3, .int (I 205 (76800 + f.d))), (1, .int (vl_I f.z)), (0, .ref 196)]) (st' := [.int (1 : Int32), .int (I 205 (76800 + f.s)), .int (vl_I w61)]) rfl Kz) ?_
      refine jv_Wp.cnd jv_i295 (pt := 204) (pe := 199) (p := ((I 205 (76800 + f.s)) = (1 : Int32))) (q := ((I 205 (76800 + f.s)) = (1 : Int32))) rfl jv_bc_eq rfl rfl Iff.rfl (fun h8 => ?_) (fun h8 => ?_)
      · refine jv_Wp.lift (fun _ Kz => jv_Ev.steps jv_i295 1 (pc' := 205) (l' := [(2, .int (vl_I w61)), (3, .int (I 205 (76800 + f.d))), (1, .int (vl_I f.z)), (0, .ref 196)]) (st' := [.int (0 : Int32), .int (vl_I w61)]) rfl Kz) ?_
        obtain ⟨w69, hq69⟩ : ∃ x : Nat, ∀ _ : Unit, vx_fst w61 0 = x := ⟨_, fun _ => rfl⟩
        have fq69 : (w61 = 0 → w69 = 0) ∧ (0 = 0 → w69 = w61) ∧ (w69 = w61 ∨ w69 = 0) ∧ (w61 ≠ 0 → 0 ≠ 0 → w69 ≤ w61 ∧ w69 ≤ 0) := by rw [← hq69 ()]; exact vx_fst_g w61 0
        have Hf69 := vq_first (I := I) (L := L) (K := K) (R := R) (n := n) (sl := sl) w61 0 (by omega) (by omega)
        rw [hq69 ()] at Hf69
        refine jv_Wp.lift (fun _ Kz => jv_Ev.c jv_i295 (pc' := 208) (S' := [.int (vl_I w69)]) jv_i282 [.int (vl_I w61), .int (0 : Int32)] rfl rfl rfl rfl rfl rfl Hf69 rfl rfl Kz) ?_
        refine jv_Wp.lift (fun _ Kz => jv_Ev.steps jv_i295 3 (pc' := 211) (l' := [(2, .int (vl_I w69)), (3, .int (I 205 (76800 + f.d))), (1, .int (vl_I f.z)), (0, .ref 196)]) (st' := [.ref 196, .int (vl_I w69)]) rfl Kz) ?_
        refine jv_Wp.lift (fun _ Kz => jv_Ev.m jv_i295 (pc' := 214) (st' := [.int (Int32.ofInt f.i), .int (vl_I w69)]) (G' := (jv_H K I L R)) rfl rfl (jv_m_getI (jv_rwK hW 196 12 24 (by decide)) rfl rfl (vr_dJ D)) Kz) ?_
        refine jv_Wp.lift (fun _ Kz => jv_Ev.steps jv_i295 1 (pc' := 217) (l' := [(2, .int (vl_I w69)), (3, .int (I 205 (76800 + f.d))), (1, .int (vl_I f.z)), (0, .ref 196)]) (st' := [.int (241 : Int32), .int (Int32.ofInt f.i), .int (vl_I w69)]) rfl Kz) ?_
        refine jv_Wp.cnd jv_i295 (pt := 242) (pe := 220) (p := (¬ (Int32.ofInt f.i) = (241 : Int32))) (q := (¬ (Int32.ofInt f.i) = (241 : Int32))) rfl jv_bc_ne rfl rfl Iff.rfl (fun hz => absurd hz (fun z => z h241)) (fun _ => ?_)
        refine jv_Wp.lift (fun _ Kz => jv_Ev.steps jv_i295 2 (pc' := 222) (l' := [(2, .int (vl_I w69)), (3, .int (I 205 (76800 + f.d))), (1, .int (vl_I f.z)), (0, .ref 196)]) (st' := [.int (0 : Int32), .ref 196, .int (vl_I w69)]) rfl Kz) ?_
        refine jv_Wp.lift (fun _ Kz => jv_Ev.c jv_i295 (pc' := 225) (S' := [.int (I 205 (76800 + 0)), .int (vl_I w69)]) jv_i271 [.ref 196, .int (0 : Int32)] rfl rfl rfl rfl (jv_cal rfl (jv_H_at (jv_rwK hW 196 12 24 (by decide))) rfl rfl) rfl (vq_sortOf 0 hW (by omega)) rfl rfl Kz) ?_
        refine jv_Wp.cnd jv_i295 (pt := 242) (pe := 228) (p := ((I 205 (76800 + 0)) = 0)) (q := ((I 205 (76800 + 0)) = 0)) rfl jv_bi_eq rfl rfl Iff.rfl (fun h9 => ?_) (fun h9 => ?_)
        · refine jv_Wp.lift (fun _ Kz => jv_Ev.steps jv_i295 1 (pc' := 243) (l' := [(2, .int (vl_I w69)), (3, .int (I 205 (76800 + f.d))), (1, .int (vl_I f.z)), (0, .ref 196)]) (st' := [.int (0 : Int32), .int (vl_I w69)]) rfl Kz) ?_
          obtain ⟨w70, hq70⟩ : ∃ x : Nat, ∀ _ : Unit, vx_fst w69 0 = x := ⟨_, fun _ => rfl⟩
          have fq70 : (w69 = 0 → w70 = 0) ∧ (0 = 0 → w70 = w69) ∧ (w70 = w69 ∨ w70 = 0) ∧ (w69 ≠ 0 → 0 ≠ 0 → w70 ≤ w69 ∧ w70 ≤ 0) := by rw [← hq70 ()]; exact vx_fst_g w69 0
          have Hf70 := vq_first (I := I) (L := L) (K := K) (R := R) (n := n) (sl := sl) w69 0 (by omega) (by omega)
          rw [hq70 ()] at Hf70
          refine jv_Wp.lift (fun _ Kz => jv_Ev.c jv_i295 (pc' := 246) (S' := [.int (vl_I w70)]) jv_i282 [.int (vl_I w69), .int (0 : Int32)] rfl rfl rfl rfl rfl rfl Hf70 rfl rfl Kz) ?_
          refine jv_Wp.lift (fun _ Kz => jv_Ev.steps jv_i295 2 (pc' := 248) (l' := [(2, .int (vl_I w70)), (3, .int (I 205 (76800 + f.d))), (1, .int (vl_I f.z)), (0, .ref 196)]) (st' := [.int (vl_I w70)]) rfl Kz) ?_
          refine jv_Wp.cnd jv_i295 (pt := 253) (pe := 251) (p := ((vl_I w70) ≤ 0)) (q := ((vl_I w70) ≤ 0)) rfl jv_bi_le rfl rfl Iff.rfl (fun h10 => ?_) (fun h10 => ?_)
          · refine jv_Wp.lift (fun _ Kz => jv_Ev.steps jv_i295 1 (pc' := 254) (l' := [(2, .int (vl_I w70)), (3, .int (I 205 (76800 + f.d))), (1, .int (vl_I f.z)), (0, .ref 196)]) (st' := [.ref 196]) rfl Kz) ?_
            refine jv_Wp.lift (fun _ Kz => jv_Ev.m jv_i295 (pc' := 257) (st' := [.int (Int32.ofInt f.i)]) (G' := (jv_H K I L R)) rfl rfl (jv_m_getI (jv_rwK hW 196 12 24 (by decide)) rfl rfl (vr_dJ D)) Kz) ?_
            refine jv_Wp.lift (fun _ Kz => jv_Ev.steps jv_i295 1 (pc' := 260) (l' := [(2, .int (vl_I w70)), (3, .int (I 205 (76800 + f.d))), (1, .int (vl_I f.z)), (0, .ref 196)]) (st' := [.int (241 : Int32), .int (Int32.ofInt f.i)]) rfl Kz) ?_
            refine jv_Wp.cnd jv_i295 (pt := 272) (pe := 263) (p := (¬ (Int32.ofInt f.i) = (241 : Int32))) (q := (¬ (Int32.ofInt f.i) = (241 : Int32))) rfl jv_bc_ne rfl rfl Iff.rfl (fun hz => absurd hz (fun z => z h241)) (fun _ => ?_)
            refine jv_Wp.lift (fun _ Kz => jv_Ev.steps jv_i295 3 (pc' := 266) (l' := [(2, .int (vl_I w70)), (3, .int (I 205 (76800 + f.d))), (1, .int (vl_I f.z)), (0, .ref 196)]) (st' := [.int (vl_I f.z), .int (0 : Int32), .ref 196]) rfl Kz) ?_
            obtain ⟨I71, L71, H71, T71, O71, F71⟩ := vq_setAny (I := I) (L := L) (R := R) (n := n) (sl := sl) 0 f.z hW hf (by omega) hz
            refine jv_Wp.lift (fun _ Kz => jv_Ev.c jv_i295 (pc' := 269) (S' := []) (G1 := (jv_H K I71 L71 R)) jv_i274 [.ref 196, .int (0 : Int32), .int (vl_I f.z)] rfl rfl rfl rfl (jv_cal rfl (jv_H_at (jv_rwK hW 196 12 24 (by decide))) rfl rfl) rfl H71 rfl rfl Kz) ?_
            refine jv_Wp.lift (fun _ Kz => jv_Ev.steps jv_i295 2 (pc' := 292) (l' := [(2, .int (vl_I w70)), (3, .int (I 205 (76800 + f.d))), (1, .int (vl_I f.z)), (0, .ref 196)]) (st' := [.int (0 : Int32)]) rfl Kz) ?_
            refine jv_Wp.of (jv_Ev.ret jv_i295 rfl rfl) ?_
            rw [hQ]
            have td0 : zd = 0 := (hd ()).symm.trans ((vr_isN (L := L) okd hd11).mpr h1)
            have ts0 : ¬ zs = 0 := fun z => h2 ((vr_isN (L := L) oks hs11).mp ((hs ()).trans z))
            have ts1 : zs = 1 := (hs ()).symm.trans ((vr_is (L := L) 1 (by decide) oks).mpr h8)
            have t00 : z0 = 0 := (h0 ()).symm.trans ((vr_isN (L := L) ok0 (by decide)).mpr h9)
            have nx1 : w70 ≤ 0 := (vl_I_le (a := w70) (b := 0) (by omega) (by omega)).mp h10
            exact absurd (show False by omega) (fun z => z)
          · refine jv_Wp.lift (fun _ Kz => jv_Ev.steps jv_i295 1 (pc' := 252) (l' := [(2, .int (vl_I w70)), (3, .int (I 205 (76800 + f.d))), (1, .int (vl_I f.z)), (0, .ref 196)]) (st' := [.int (vl_I w70)]) rfl Kz) ?_
            refine jv_Wp.of (jv_Ev.ret jv_i295 rfl rfl) ?_
            rw [hQ]
            have td0 : zd = 0 := (hd ()).symm.trans ((vr_isN (L := L) okd hd11).mpr h1)
            have ts0 : ¬ zs = 0 := fun z => h2 ((vr_isN (L := L) oks hs11).mp ((hs ()).trans z))
            have ts1 : zs = 1 := (hs ()).symm.trans ((vr_is (L := L) 1 (by decide) oks).mpr h8)
            have t00 : z0 = 0 := (h0 ()).symm.trans ((vr_isN (L := L) ok0 (by decide)).mpr h9)
            have nx1 : ¬ w70 ≤ 0 := fun z => h10 ((vl_I_le (a := w70) (b := 0) (by omega) (by omega)).mpr z)
            have e : vx_atp M f (vr_A I L 1024) = (w70, (vr_A I L 1024)) := by
              by_cases c1 : zd = 0 ∨ zs = 0 ∨ (f.i = 241 ∧ z0 = 0)
              · rw [show w70 = 1 by omega]; exact vx_at1 (by rw [eD, eS, e0, hd (), hs (), h0 ()]; omega)
              · rw [show w70 = 3 by omega]; exact vx_at2 (by rw [eD, eS, e0, hd (), hs (), h0 ()]; omega) (by rw [eD, hd ()]; omega)
            exact ⟨_, _, by rw [← eQ, e], fun z => by rw [← eQ, e] at z; exact absurd (show w70 = 0 from z) (by omega), vr_fr_refl hf⟩
        · refine jv_Wp.lift (fun _ Kz => jv_Ev.steps jv_i295 2 (pc' := 230) (l' := [(2, .int (vl_I w69)), (3, .int (I 205 (76800 + f.d))), (1, .int (vl_I f.z)), (0, .ref 196)]) (st' := [.int (0 : Int32), .ref 196, .int (vl_I w69)]) rfl Kz) ?_
          refine jv_Wp.lift (fun _ Kz => jv_Ev.c jv_i295 (pc' := 233) (S' := [.int (I 205 (76800 + 0)), .int (vl_I w69)]) jv_i271 [.ref 196, .int (0 : Int32)] rfl rfl rfl rfl (jv_cal rfl (jv_H_at (jv_rwK hW 196 12 24 (by decide))) rfl rfl) rfl (vq_sortOf 0 hW (by omega)) rfl rfl Kz) ?_
          refine jv_Wp.lift (fun _ Kz => jv_Ev.steps jv_i295 1 (pc' := 234) (l' := [(2, .int (vl_I w69)), (3, .int (I 205 (76800 + f.d))), (1, .int (vl_I f.z)), (0, .ref 196)]) (st' := [.int (1 : Int32), .int (I 205 (76800 + 0)), .int (vl_I w69)]) rfl Kz) ?_
          refine jv_Wp.cnd jv_i295 (pt := 242) (pe := 237) (p := ((I 205 (76800 + 0)) = (1 : Int32))) (q := ((I 205 (76800 + 0)) = (1 : Int32))) rfl jv_bc_eq rfl rfl Iff.rfl (fun h11 => ?_) (fun h11 => ?_)
          · refine jv_Wp.lift (fun _ Kz => jv_Ev.steps jv_i295 1 (pc' := 243) (l' := [(2, .int (vl_I w69)), (3, .int (I 205 (76800 + f.d))), (1, .int (vl_I f.z)), (0, .ref 196)]) (st' := [.int (0 : Int32), .int (vl_I w69)]) rfl Kz) ?_
            obtain ⟨w72, hq72⟩ : ∃ x : Nat, ∀ _ : Unit, vx_fst w69 0 = x := ⟨_, fun _ => rfl⟩
            have fq72 : (w69 = 0 → w72 = 0) ∧ (0 = 0 → w72 = w69) ∧ (w72 = w69 ∨ w72 = 0) ∧ (w69 ≠ 0 → 0 ≠ 0 → w72 ≤ w69 ∧ w72 ≤ 0) := by rw [← hq72 ()]; exact vx_fst_g w69 0
            have Hf72 := vq_first (I := I) (L := L) (K := K) (R := R) (n := n) (sl := sl) w69 0 (by omega) (by omega)
            rw [hq72 ()] at Hf72
            refine jv_Wp.lift (fun _ Kz => jv_Ev.c jv_i295 (pc' := 246) (S' := [.int (vl_I w72)]) jv_i282 [.int (vl_I w69), .int (0 : Int32)] rfl rfl rfl rfl rfl rfl Hf72 rfl rfl Kz) ?_
            refine jv_Wp.lift (fun _ Kz => jv_Ev.steps jv_i295 2 (pc' := 248) (l' := [(2, .int (vl_I w72)), (3, .int (I 205 (76800 + f.d))), (1, .int (vl_I f.z)), (0, .ref 196)]) (st' := [.int (vl_I w72)]) rfl Kz) ?_
            refine jv_Wp.cnd jv_i295 (pt := 253) (pe := 251) (p := ((vl_I w72) ≤ 0)) (q := ((vl_I w72) ≤ 0)) rfl jv_bi_le rfl rfl Iff.rfl (fun h12 => ?_) (fun h12 => ?_)
            · refine jv_Wp.lift (fun _ Kz => jv_Ev.steps jv_i295 1 (pc' := 254) (l' := [(2, .int (vl_I w72)), (3, .int (I 205 (76800 + f.d))), (1, .int (vl_I f.z)), (0, .ref 196)]) (st' := [.ref 196]) rfl Kz) ?_
              refine jv_Wp.lift (fun _ Kz => jv_Ev.m jv_i295 (pc' := 257) (st' := [.int (Int32.ofInt f.i)]) (G' := (jv_H K I L R)) rfl rfl (jv_m_getI (jv_rwK hW 196 12 24 (by decide)) rfl rfl (vr_dJ D)) Kz) ?_
              refine jv_Wp.lift (fun _ Kz => jv_Ev.steps jv_i295 1 (pc' := 260) (l' := [(2, .int (vl_I w72)), (3, .int (I 205 (76800 + f.d))), (1, .int (vl_I f.z)), (0, .ref 196)]) (st' := [.int (241 : Int32), .int (Int32.ofInt f.i)]) rfl Kz) ?_
              refine jv_Wp.cnd jv_i295 (pt := 272) (pe := 263) (p := (¬ (Int32.ofInt f.i) = (241 : Int32))) (q := (¬ (Int32.ofInt f.i) = (241 : Int32))) rfl jv_bc_ne rfl rfl Iff.rfl (fun hz => absurd hz (fun z => z h241)) (fun _ => ?_)
              refine jv_Wp.lift (fun _ Kz => jv_Ev.steps jv_i295 3 (pc' := 266) (l' := [(2, .int (vl_I w72)), (3, .int (I 205 (76800 + f.d))), (1, .int (vl_I f.z)), (0, .ref 196)]) (st' := [.int (vl_I f.z), .int (0 : Int32), .ref 196]) rfl Kz) ?_
              obtain ⟨I73, L73, H73, T73, O73, F73⟩ := vq_setAny (I := I) (L := L) (R := R) (n := n) (sl := sl) 0 f.z hW hf (by omega) hz
              refine jv_Wp.lift (fun _ Kz => jv_Ev.c jv_i295 (pc' := 269) (S' := []) (G1 := (jv_H K I73 L73 R)) jv_i274 [.ref 196, .int (0 : Int32), .int (vl_I f.z)] rfl rfl rfl rfl (jv_cal rfl (jv_H_at (jv_rwK hW 196 12 24 (by decide))) rfl rfl) rfl H73 rfl rfl Kz) ?_
              refine jv_Wp.lift (fun _ Kz => jv_Ev.steps jv_i295 2 (pc' := 292) (l' := [(2, .int (vl_I w72)), (3, .int (I 205 (76800 + f.d))), (1, .int (vl_I f.z)), (0, .ref 196)]) (st' := [.int (0 : Int32)]) rfl Kz) ?_
              refine jv_Wp.of (jv_Ev.ret jv_i295 rfl rfl) ?_
              rw [hQ]
              have td0 : zd = 0 := (hd ()).symm.trans ((vr_isN (L := L) okd hd11).mpr h1)
              have ts0 : ¬ zs = 0 := fun z => h2 ((vr_isN (L := L) oks hs11).mp ((hs ()).trans z))
              have ts1 : zs = 1 := (hs ()).symm.trans ((vr_is (L := L) 1 (by decide) oks).mpr h8)
              have t00 : ¬ z0 = 0 := fun z => h9 ((vr_isN (L := L) ok0 (by decide)).mp ((h0 ()).trans z))
              have t01 : z0 = 1 := (h0 ()).symm.trans ((vr_is (L := L) 1 (by decide) ok0).mpr h11)
              have nx1 : w72 ≤ 0 := (vl_I_le (a := w72) (b := 0) (by omega) (by omega)).mp h12
              exact absurd (show False by omega) (fun z => z)
            · refine jv_Wp.lift (fun _ Kz => jv_Ev.steps jv_i295 1 (pc' := 252) (l' := [(2, .int (vl_I w72)), (3, .int (I 205 (76800 + f.d))), (1, .int (vl_I f.z)), (0, .ref 196)]) (st' := [.int (vl_I w72)]) rfl Kz) ?_
              refine jv_Wp.of (jv_Ev.ret jv_i295 rfl rfl) ?_
              rw [hQ]
              have td0 : zd = 0 := (hd ()).symm.trans ((vr_isN (L := L) okd hd11).mpr h1)
              have ts0 : ¬ zs = 0 := fun z => h2 ((vr_isN (L := L) oks hs11).mp ((hs ()).trans z))
              have ts1 : zs = 1 := (hs ()).symm.trans ((vr_is (L := L) 1 (by decide) oks).mpr h8)
              have t00 : ¬ z0 = 0 := fun z => h9 ((vr_isN (L := L) ok0 (by decide)).mp ((h0 ()).trans z))
              have t01 : z0 = 1 := (h0 ()).symm.trans ((vr_is (L := L) 1 (by decide) ok0).mpr h11)
              have nx1 : ¬ w72 ≤ 0 := fun z => h12 ((vl_I_le (a := w72) (b := 0) (by omega) (by omega)).mpr z)
              have e : vx_atp M f (vr_A I L 1024) = (w72, (vr_A I L 1024)) := by
                by_cases c1 : zd = 0 ∨ zs = 0 ∨ (f.i = 241 ∧ z0 = 0)
                · rw [show w72 = 1 by omega]; exact vx_at1 (by rw [eD, eS, e0, hd (), hs (), h0 ()]; omega)
                · rw [show w72 = 3 by omega]; exact vx_at2 (by rw [eD, eS, e0, hd (), hs (), h0 ()]; omega) (by rw [eD, hd ()]; omega)
              exact ⟨_, _, by rw [← eQ, e], fun z => by rw [← eQ, e] at z; exact absurd (show w72 = 0 from z) (by omega), vr_fr_refl hf⟩
          · refine jv_Wp.lift (fun _ Kz => jv_Ev.steps jv_i295 2 (pc' := 243) (l' := [(2, .int (vl_I w69)), (3, .int (I 205 (76800 + f.d))), (1, .int (vl_I f.z)), (0, .ref 196)]) (st' := [.int (6 : Int32), .int (vl_I w69)]) rfl Kz) ?_
            obtain ⟨w74, hq74⟩ : ∃ x : Nat, ∀ _ : Unit, vx_fst w69 6 = x := ⟨_, fun _ => rfl⟩
            have fq74 : (w69 = 0 → w74 = 6) ∧ (6 = 0 → w74 = w69) ∧ (w74 = w69 ∨ w74 = 6) ∧ (w69 ≠ 0 → 6 ≠ 0 → w74 ≤ w69 ∧ w74 ≤ 6) := by rw [← hq74 ()]; exact vx_fst_g w69 6
            have Hf74 := vq_first (I := I) (L := L) (K := K) (R := R) (n := n) (sl := sl) w69 6 (by omega) (by omega)
            rw [hq74 ()] at Hf74
            refine jv_Wp.lift (fun _ Kz => jv_Ev.c jv_i295 (pc' := 246) (S' := [.int (vl_I w74)]) jv_i282 [.int (vl_I w69), .int (6 : Int32)] rfl rfl rfl rfl rfl rfl Hf74 rfl rfl Kz) ?_
            refine jv_Wp.lift (fun _ Kz => jv_Ev.steps jv_i295 2 (pc' := 248) (l' := [(2, .int (vl_I w74)), (3, .int (I 205 (76800 + f.d))), (1, .int (vl_I f.z)), (0, .ref 196)]) (st' := [.int (vl_I w74)]) rfl Kz) ?_
            refine jv_Wp.cnd jv_i295 (pt := 253) (pe := 251) (p := ((vl_I w74) ≤ 0)) (q := ((vl_I w74) ≤ 0)) rfl jv_bi_le rfl rfl Iff.rfl (fun h13 => ?_) (fun h13 => ?_)
            · refine jv_Wp.lift (fun _ Kz => jv_Ev.steps jv_i295 1 (pc' := 254) (l' := [(2, .int (vl_I w74)), (3, .int (I 205 (76800 + f.d))), (1, .int (vl_I f.z)), (0, .ref 196)]) (st' := [.ref 196]) rfl Kz) ?_
              refine jv_Wp.lift (fun _ Kz => jv_Ev.m jv_i295 (pc' := 257) (st' := [.int (Int32.ofInt f.i)]) (G' := (jv_H K I L R)) rfl rfl (jv_m_getI (jv_rwK hW 196 12 24 (by decide)) rfl rfl (vr_dJ D)) Kz) ?_
              refine jv_Wp.lift (fun _ Kz => jv_Ev.steps jv_i295 1 (pc' := 260) (l' := [(2, .int (vl_I w74)), (3, .int (I 205 (76800 + f.d))), (1, .int (vl_I f.z)), (0, .ref 196)]) (st' := [.int (241 : Int32), .int (Int32.ofInt f.i)]) rfl Kz) ?_
              refine jv_Wp.cnd jv_i295 (pt := 272) (pe := 263) (p := (¬ (Int32.ofInt f.i) = (241 : Int32))) (q := (¬ (Int32.ofInt f.i) = (241 : Int32))) rfl jv_bc_ne rfl rfl Iff.rfl (fun hz => absurd hz (fun z => z h241)) (fun _ => ?_)
              refine jv_Wp.lift (fun _ Kz => jv_Ev.steps jv_i295 3 (pc' := 266) (l' := [(2, .int (vl_I w74)), (3, .int (I 205 (76800 + f.d))), (1, .int (vl_I f.z)), (0, .ref 196)]) (st' := [.int (vl_I f.z), .int (0 : Int32), .ref 196]) rfl Kz) ?_
              obtain ⟨I75, L75, H75, T75, O75, F75⟩ := vq_setAny (I := I) (L := L) (R := R) (n := n) (sl := sl) 0 f.z hW hf (by omega) hz
              refine jv_Wp.lift (fun _ Kz => jv_Ev.c jv_i295 (pc' := 269) (S' := []) (G1 := (jv_H K I75 L75 R)) jv_i274 [.ref 196, .int (0 : Int32), .int (vl_I f.z)] rfl rfl rfl rfl (jv_cal rfl (jv_H_at (jv_rwK hW 196 12 24 (by decide))) rfl rfl) rfl H75 rfl rfl Kz) ?_
              refine jv_Wp.lift (fun _ Kz => jv_Ev.steps jv_i295 2 (pc' := 292) (l' := [(2, .int (vl_I w74)), (3, .int (I 205 (76800 + f.d))), (1, .int (vl_I f.z)), (0, .ref 196)]) (st' := [.int (0 : Int32)]) rfl Kz) ?_
              refine jv_Wp.of (jv_Ev.ret jv_i295 rfl rfl) ?_
              rw [hQ]
              have td0 : zd = 0 := (hd ()).symm.trans ((vr_isN (L := L) okd hd11).mpr h1)
              have ts0 : ¬ zs = 0 := fun z => h2 ((vr_isN (L := L) oks hs11).mp ((hs ()).trans z))
              have ts1 : zs = 1 := (hs ()).symm.trans ((vr_is (L := L) 1 (by decide) oks).mpr h8)
              have t00 : ¬ z0 = 0 := fun z => h9 ((vr_isN (L := L) ok0 (by decide)).mp ((h0 ()).trans z))
              have t01 : ¬ z0 = 1 := fun z => h11 ((vr_is (L := L) 1 (by decide) ok0).mp ((h0 ()).trans z))
              have nx1 : w74 ≤ 0 := (vl_I_le (a := w74) (b := 0) (by omega) (by omega)).mp h13
              exact absurd (show False by omega) (fun z => z)
            · refine jv_Wp.lift (fun _ Kz => jv_Ev.steps jv_i295 1 (pc' := 252) (l' := [(2, .int (vl_I w74)), (3, .int (I 205 (76800 + f.d))), (1, .int (vl_I f.z)), (0, .ref 196)]) (st' := [.int (vl_I w74)]) rfl Kz) ?_
              refine jv_Wp.of (jv_Ev.ret jv_i295 rfl rfl) ?_
              rw [hQ]
              have td0 : zd = 0 := (hd ()).symm.trans ((vr_isN (L := L) okd hd11).mpr h1)
              have ts0 : ¬ zs = 0 := fun z => h2 ((vr_isN (L := L) oks hs11).mp ((hs ()).trans z))
              have ts1 : zs = 1 := (hs ()).symm.trans ((vr_is (L := L) 1 (by decide) oks).mpr h8)
              have t00 : ¬ z0 = 0 := fun z => h9 ((vr_isN (L := L) ok0 (by decide)).mp ((h0 ()).trans z))
              have t01 : ¬ z0 = 1 := fun z => h11 ((vr_is (L := L) 1 (by decide) ok0).mp ((h0 ()).trans z))
              have nx1 : ¬ w74 ≤ 0 := fun z => h13 ((vl_I_le (a := w74) (b := 0) (by omega) (by omega)).mpr z)
              have e : vx_atp M f (vr_A I L 1024) = (w74, (vr_A I L 1024)) := by
                by_cases c1 : zd = 0 ∨ zs = 0 ∨ (f.i = 241 ∧ z0 = 0)
                · rw [show w74 = 1 by omega]; exact vx_at1 (by rw [eD, eS, e0, hd (), hs (), h0 ()]; omega)
                · rw [show w74 = 3 by omega]; exact vx_at2 (by rw [eD, eS, e0, hd (), hs (), h0 ()]; omega) (by rw [eD, hd ()]; omega)
              exact ⟨_, _, by rw [← eQ, e], fun z => by rw [← eQ, e] at z; exact absurd (show w74 = 0 from z) (by omega), vr_fr_refl hf⟩
      · refine jv_Wp.lift (fun _ Kz => jv_Ev.steps jv_i295 2 (pc' := 205) (l' := [(2, .int (vl_I w61)), (3, .int (I 205 (76800 + f.d))), (1, .int (vl_I f.z)), (0, .ref 196)]) (st' := [.int (6 : Int32), .int (vl_I w61)]) rfl Kz) ?_
        obtain ⟨w76, hq76⟩ : ∃ x : Nat, ∀ _ : Unit, vx_fst w61 6 = x := ⟨_, fun _ => rfl⟩
        have fq76 : (w61 = 0 → w76 = 6) ∧ (6 = 0 → w76 = w61) ∧ (w76 = w61 ∨ w76 = 6) ∧ (w61 ≠ 0 → 6 ≠ 0 → w76 ≤ w61 ∧ w76 ≤ 6) := by rw [← hq76 ()]; exact vx_fst_g w61 6
        have Hf76 := vq_first (I := I) (L := L) (K := K) (R := R) (n := n) (sl := sl) w61 6 (by omega) (by omega)
        rw [hq76 ()] at Hf76
        refine jv_Wp.lift (fun _ Kz => jv_Ev.c jv_i295 (pc' := 208) (S' := [.int (vl_I w76)]) jv_i282 [.int (vl_I w61), .int (6 : Int32)] rfl rfl rfl rfl rfl rfl Hf76 rfl rfl Kz) ?_
        refine jv_Wp.lift (fun _ Kz => jv_Ev.steps jv_i295 3 (pc' := 211) (l' := [(2, .int (vl_I w76)), (3, .int (I 205 (76800 + f.d))), (1, .int (vl_I f.z)), (0, .ref 196)]) (st' := [.ref 196, .int (vl_I w76)]) rfl Kz) ?_
        refine jv_Wp.lift (fun _ Kz => jv_Ev.m jv_i295 (pc' := 214) (st' := [.int (Int32.ofInt f.i), .int (vl_I w76)]) (G' := (jv_H K I L R)) rfl rfl (jv_m_getI (jv_rwK hW 196 12 24 (by decide)) rfl rfl (vr_dJ D)) Kz) ?_
        refine jv_Wp.lift (fun _ Kz => jv_Ev.steps jv_i295 1 (pc' := 217) (l' := [(2, .int (vl_I w76)), (3, .int (I 205 (76800 + f.d))), (1, .int (vl_I f.z)), (0, .ref 196)]) (st' := [.int (241 : Int32), .int (Int32.ofInt f.i), .int (vl_I w76)]) rfl Kz) ?_
        refine jv_Wp.cnd jv_i295 (pt := 242) (pe := 220) (p := (¬ (Int32.ofInt f.i) = (241 : Int32))) (q := (¬ (Int32.ofInt f.i) = (241 : Int32))) rfl jv_bc_ne rfl rfl Iff.rfl (fun hz => absurd hz (fun z => z h241)) (fun _ => ?_)
        refine jv_Wp.lift (fun _ Kz => jv_Ev.steps jv_i295 2 (pc' := 222) (l' := [(2, .int (vl_I w76)), (3, .int (I 205 (76800 + f.d))), (1, .int (vl_I f.z)), (0, .ref 196)]) (st' := [.int (0 : Int32), .ref 196, .int (vl_I w76)]) rfl Kz) ?_
        refine jv_Wp.lift (fun _ Kz => jv_Ev.c jv_i295 (pc' := 225) (S' := [.int (I 205 (76800 + 0)), .int (vl_I w76)]) jv_i271 [.ref 196, .int (0 : Int32)] rfl rfl rfl rfl (jv_cal rfl (jv_H_at (jv_rwK hW 196 12 24 (by decide))) rfl rfl) rfl (vq_sortOf 0 hW (by omega)) rfl rfl Kz) ?_
        refine jv_Wp.cnd jv_i295 (pt := 242) (pe := 228) (p := ((I 205 (76800 + 0)) = 0)) (q := ((I 205 (76800 + 0)) = 0)) rfl jv_bi_eq rfl rfl Iff.rfl (fun h14 => ?_) (fun h14 => ?_)
        · refine jv_Wp.lift (fun _ Kz => jv_Ev.steps jv_i295 1 (pc' := 243) (l' := [(2, .int (vl_I w76)), (3, .int (I 205 (76800 + f.d))), (1, .int (vl_I f.z)), (0, .ref 196)]) (st' := [.int (0 : Int32), .int (vl_I w76)]) rfl Kz) ?_
          obtain ⟨w77, hq77⟩ : ∃ x : Nat, ∀ _ : Unit, vx_fst w76 0 = x := ⟨_, fun _ => rfl⟩
          have fq77 : (w76 = 0 → w77 = 0) ∧ (0 = 0 → w77 = w76) ∧ (w77 = w76 ∨ w77 = 0) ∧ (w76 ≠ 0 → 0 ≠ 0 → w77 ≤ w76 ∧ w77 ≤ 0) := by rw [← hq77 ()]; exact vx_fst_g w76 0
          have Hf77 := vq_first (I := I) (L := L) (K := K) (R := R) (n := n) (sl := sl) w76 0 (by omega) (by omega)
          rw [hq77 ()] at Hf77
          refine jv_Wp.lift (fun _ Kz => jv_Ev.c jv_i295 (pc' := 246) (S' := [.int (vl_I w77)]) jv_i282 [.int (vl_I w76), .int (0 : Int32)] rfl rfl rfl rfl rfl rfl Hf77 rfl rfl Kz) ?_
          refine jv_Wp.lift (fun _ Kz => jv_Ev.steps jv_i295 2 (pc' := 248) (l' := [(2, .int (vl_I w77)), (3, .int (I 205 (76800 + f.d))), (1, .int (vl_I f.z)), (0, .ref 196)]) (st' := [.int (vl_I w77)]) rfl Kz) ?_
          refine jv_Wp.cnd jv_i295 (pt := 253) (pe := 251) (p := ((vl_I w77) ≤ 0)) (q := ((vl_I w77) ≤ 0)) rfl jv_bi_le rfl rfl Iff.rfl (fun h15 => ?_) (fun h15 => ?_)
          · refine jv_Wp.lift (fun _ Kz => jv_Ev.steps jv_i295 1 (pc' := 254) (l' := [(2, .int (vl_I w77)), (3, .int (I 205 (76800 + f.d))), (1, .int (vl_I f.z)), (0, .ref 196)]) (st' := [.ref 196]) rfl Kz) ?_
            refine jv_Wp.lift (fun _ Kz => jv_Ev.m jv_i295 (pc' := 257) (st' := [.int (Int32.ofInt f.i)]) (G' := (jv_H K I L R)) rfl rfl (jv_m_getI (jv_rwK hW 196 12 24 (by decide)) rfl rfl (vr_dJ D)) Kz) ?_
            refine jv_Wp.lift (fun _ Kz => jv_Ev.steps jv_i295 1 (pc' := 260) (l' := [(2, .int (vl_I w77)), (3, .int (I 205 (76800 + f.d))), (1, .int (vl_I f.z)), (0, .ref 196)]) (st' := [.int (241 : Int32), .int (Int32.ofInt f.i)]) rfl Kz) ?_
            refine jv_Wp.cnd jv_i295 (pt := 272) (pe := 263) (p := (¬ (Int32.ofInt f.i) = (241 : Int32))) (q := (¬ (Int32.ofInt f.i) = (241 : Int32))) rfl jv_bc_ne rfl rfl Iff.rfl (fun hz => absurd hz (fun z => z h241)) (fun _ => ?_)
            refine jv_Wp.lift (fun _ Kz => jv_Ev.steps jv_i295 3 (pc' := 266) (l' := [(2, .int (vl_I w77)), (3, .int (I 205 (76800 + f.d))), (1, .int (vl_I f.z)), (0, .ref 196)]) (st' := [.int (vl_I f.z), .int (0 : Int32), .ref 196]) rfl Kz) ?_
            obtain ⟨I78, L78, H78, T78, O78, F78⟩ := vq_setAny (I := I) (L := L) (R := R) (n := n) (sl := sl) 0 f.z hW hf (by omega) hz
            refine jv_Wp.lift (fun _ Kz => jv_Ev.c jv_i295 (pc' := 269) (S' := []) (G1 := (jv_H K I78 L78 R)) jv_i274 [.ref 196, .int (0 : Int32), .int (vl_I f.z)] rfl rfl rfl rfl (jv_cal rfl (jv_H_at (jv_rwK hW 196 12 24 (by decide))) rfl rfl) rfl H78 rfl rfl Kz) ?_
            refine jv_Wp.lift (fun _ Kz => jv_Ev.steps jv_i295 2 (pc' := 292) (l' := [(2, .int (vl_I w77)), (3, .int (I 205 (76800 + f.d))), (1, .int (vl_I f.z)), (0, .ref 196)]) (st' := [.int (0 : Int32)]) rfl Kz) ?_
            refine jv_Wp.of (jv_Ev.ret jv_i295 rfl rfl) ?_
            rw [hQ]
            have td0 : zd = 0 := (hd ()).symm.trans ((vr_isN (L := L) okd hd11).mpr h1)
            have ts0 : ¬ zs = 0 := fun z => h2 ((vr_isN (L := L) oks hs11).mp ((hs ()).trans z))
            have ts1 : ¬ zs = 1 := fun z => h8 ((vr_is (L := L) 1 (by decide) oks).mp ((hs ()).trans z))
            have t00 : z0 = 0 := (h0 ()).symm.trans ((vr_isN (L := L) ok0 (by decide)).mpr h14)
            have nx1 : w77 ≤ 0 := (vl_I_le (a := w77) (b := 0) (by omega) (by omega)).mp h15
            exact absurd (show False by omega) (fun z => z)
          · refine jv_Wp.lift (fun _ Kz => jv_Ev.steps jv_i295 1 (pc' := 252) (l' := [(2, .int (vl_I w77)), (3, .int (I 205 (76800 + f.d))), (1, .int (vl_I f.z)), (0, .ref 196)]) (st' := [.int (vl_I w77)]) rfl Kz) ?_
            refine jv_Wp.of (jv_Ev.ret jv_i295 rfl rfl) ?_
            rw [hQ]
            have td0 : zd = 0 := (hd ()).symm.trans ((vr_isN (L := L) okd hd11).mpr h1)
            have ts0 : ¬ zs = 0 := fun z => h2 ((vr_isN (L := L) oks hs11).mp ((hs ()).trans z))
            have ts1 : ¬ zs = 1 := fun z => h8 ((vr_is (L := L) 1 (by decide) oks).mp ((hs ()).trans z))
            have t00 : z0 = 0 := (h0 ()).symm.trans ((vr_isN (L := L) ok0 (by decide)).mpr h14)
            have nx1 : ¬ w77 ≤ 0 := fun z => h15 ((vl_I_le (a := w77) (b := 0) (by omega) (by omega)).mpr z)
            have e : vx_atp M f (vr_A I L 1024) = (w77, (vr_A I L 1024)) := by
              by_cases c1 : zd = 0 ∨ zs = 0 ∨ (f.i = 241 ∧ z0 = 0)
              · rw [show w77 = 1 by omega]; exact vx_at1 (by rw [eD, eS, e0, hd (), hs (), h0 ()]; omega)
              · rw [show w77 = 3 by omega]; exact vx_at2 (by rw [eD, eS, e0, hd (), hs (), h0 ()]; omega) (by rw [eD, hd ()]; omega)
            exact ⟨_, _, by rw [← eQ, e], fun z => by rw [← eQ, e] at z; exact absurd (show w77 = 0 from z) (by omega), vr_fr_refl hf⟩
        · refine jv_Wp.lift (fun _ Kz => jv_Ev.steps jv_i295 2 (pc' := 230) (l' := [(2, .int (vl_I w76)), (3, .int (I 205 (76800 + f.d))), (1, .int (vl_I f.z)), (0, .ref 196)]) (st' := [.int (0 : Int32), .ref 196, .int (vl_I w76)]) rfl Kz) ?_
          refine jv_Wp.lift (fun _ Kz => jv_Ev.c jv_i295 (pc' := 233) (S' := [.int (I 205 (76800 + 0)), .int (vl_I w76)]) jv_i271 [.ref 196, .int (0 : Int32)] rfl rfl rfl rfl (jv_cal rfl (jv_H_at (jv_rwK hW 196 12 24 (by decide))) rfl rfl) rfl (vq_sortOf 0 hW (by omega)) rfl rfl Kz) ?_
          refine jv_Wp.lift (fun _ Kz => jv_Ev.steps jv_i295 1 (pc' := 234) (l' := [(2, .int (vl_I w76)), (3, .int (I 205 (76800 + f.d))), (1, .int (vl_I f.z)), (0, .ref 196)]) (st' := [.int (1 : Int32), .int (I 205 (76800 + 0)), .int (vl_I w76)]) rfl Kz) ?_
          refine jv_Wp.cnd jv_i295 (pt := 242) (pe := 237) (p := ((I 205 (76800 + 0)) = (1 : Int32))) (q := ((I 205 (76800 + 0)) = (1 : Int32))) rfl jv_bc_eq rfl rfl Iff.rfl (fun h16 => ?_) (fun h16 => ?_)
          · refine jv_Wp.lift (fun _ Kz => jv_Ev.steps jv_i295 1 (pc' := 243) (l' := [(2, .int (vl_I w76)), (3, .int (I 205 (76800 + f.d))), (1, .int (vl_I f.z)), (0, .ref 196)]) (st' := [.int (0 : Int32), .int (vl_I w76)]) rfl Kz) ?_
            obtain ⟨w79, hq79⟩ : ∃ x : Nat, ∀ _ : Unit, vx_fst w76 0 = x := ⟨_, fun _ => rfl⟩
            have fq79 : (w76 = 0 → w79 = 0) ∧ (0 = 0 → w79 = w76) ∧ (w79 = w76 ∨ w79 = 0) ∧ (w76 ≠ 0 → 0 ≠ 0 → w79 ≤ w76 ∧ w79 ≤ 0) := by rw [← hq79 ()]; exact vx_fst_g w76 0
            have Hf79 := vq_first (I := I) (L := L) (K := K) (R := R) (n := n) (sl := sl) w76 0 (by omega) (by omega)
            rw [hq79 ()] at Hf79
            refine jv_Wp.lift (fun _ Kz => jv_Ev.c jv_i295 (pc' := 246) (S' := [.int (vl_I w79)]) jv_i282 [.int (vl_I w76), .int (0 : Int32)] rfl rfl rfl rfl rfl rfl Hf79 rfl rfl Kz) ?_
            refine jv_Wp.lift (fun _ Kz => jv_Ev.steps jv_i295 2 (pc' := 248) (l' := [(2, .int (vl_I w79)), (3, .int (I 205 (76800 + f.d))), (1, .int (vl_I f.z)), (0, .ref 196)]) (st' := [.int (vl_I w79)]) rfl Kz) ?_
            refine jv_Wp.cnd jv_i295 (pt := 253) (pe := 251) (p := ((vl_I w79) ≤ 0)) (q := ((vl_I w79) ≤ 0)) rfl jv_bi_le rfl rfl Iff.rfl (fun h17 => ?_) (fun h17 => ?_)
            · refine jv_Wp.lift (fun _ Kz => jv_Ev.steps jv_i295 1 (pc' := 254) (l' := [(2, .int (vl_I w79)), (3, .int (I 205 (76800 + f.d))), (1, .int (vl_I f.z)), (0, .ref 196)]) (st' := [.ref 196]) rfl Kz) ?_
              refine jv_Wp.lift (fun _ Kz => jv_Ev.m jv_i295 (pc' := 257) (st' := [.int (Int32.ofInt f.i)]) (G' := (jv_H K I L R)) rfl rfl (jv_m_getI (jv_rwK hW 196 12 24 (by decide)) rfl rfl (vr_dJ D)) Kz) ?_
              refine jv_Wp.lift (fun _ Kz => jv_Ev.steps jv_i295 1 (pc' := 260) (l' := [(2, .int (vl_I w79)), (3, .int (I 205 (76800 + f.d))), (1, .int (vl_I f.z)), (0, .ref 196)]) (st' := [.int (241 : Int32), .int (Int32.ofInt f.i)]) rfl Kz) ?_
              refine jv_Wp.cnd jv_i295 (pt := 272) (pe := 263) (p := (¬ (Int32.ofInt f.i) = (241 : Int32))) (q := (¬ (Int32.ofInt f.i) = (241 : Int32))) rfl jv_bc_ne rfl rfl Iff.rfl (fun hz => absurd hz (fun z => z h241)) (fun _ => ?_)
              refine jv_Wp.lift (fun _ Kz => jv_Ev.steps jv_i295 3 (pc' := 266) (l' := [(2, .int (vl_I w79)), (3, .int (I 205 (76800 + f.d))), (1, .int (vl_I f.z)), (0, .ref 196)]) (st' := [.int (vl_I f.z), .int (0 : Int32), .ref 196]) rfl Kz) ?_
              obtain ⟨I80, L80, H80, T80, O80, F80⟩ := vq_setAny (I := I) (L := L) (R := R) (n := n) (sl := sl) 0 f.z hW hf (by omega) hz
              refine jv_Wp.lift (fun _ Kz => jv_Ev.c jv_i295 (pc' := 269) (S' := []) (G1 := (jv_H K I80 L80 R)) jv_i274 [.ref 196, .int (0 : Int32), .int (vl_I f.z)] rfl rfl rfl rfl (jv_cal rfl (jv_H_at (jv_rwK hW 196 12 24 (by decide))) rfl rfl) rfl H80 rfl rfl Kz) ?_
              refine jv_Wp.lift (fun _ Kz => jv_Ev.steps jv_i295 2 (pc' := 292) (l' := [(2, .int (vl_I w79)), (3, .int (I 205 (76800 + f.d))), (1, .int (vl_I f.z)), (0, .ref 196)]) (st' := [.int (0 : Int32)]) rfl Kz) ?_
              refine jv_Wp.of (jv_Ev.ret jv_i295 rfl rfl) ?_
              rw [hQ]
              have td0 : zd = 0 := (hd ()).symm.trans ((vr_isN (L := L) okd hd11).mpr h1)
              have ts0 : ¬ zs = 0 := fun z => h2 ((vr_isN (L := L) oks hs11).mp ((hs ()).trans z))
              have ts1 : ¬ zs = 1 := fun z => h8 ((vr_is (L := L) 1 (by decide) oks).mp ((hs ()).trans z))
              have t00 : ¬ z0 = 0 := fun z => h14 ((vr_isN (L := L) ok0 (by decide)).mp ((h0 ()).trans z))
              have t01 : z0 = 1 := (h0 ()).symm.trans ((vr_is (L := L) 1 (by decide) ok0).mpr h16)
              have nx1 : w79 ≤ 0 := (vl_I_le (a := w79) (b := 0) (by omega) (by omega)).mp h17
              exact absurd (show False by omega) (fun z => z)
            · refine jv_Wp.lift (fun _ Kz => jv_Ev.steps jv_i295 1 (pc' := 252) (l' := [(2, .int (vl_I w79)), (3, .int (I 205 (76800 + f.d))), (1, .int (vl_I f.z)), (0, .ref 196)]) (st' := [.int (vl_I w79)]) rfl Kz) ?_
              refine jv_Wp.of (jv_Ev.ret jv_i295 rfl rfl) ?_
              rw [hQ]
              have td0 : zd = 0 := (hd ()).symm.trans ((vr_isN (L := L) okd hd11).mpr h1)
              have ts0 : ¬ zs = 0 := fun z => h2 ((vr_isN (L := L) oks hs11).mp ((hs ()).trans z))
              have ts1 : ¬ zs = 1 := fun z => h8 ((vr_is (L := L) 1 (by decide) oks).mp ((hs ()).trans z))
              have t00 : ¬ z0 = 0 := fun z => h14 ((vr_isN (L := L) ok0 (by decide)).mp ((h0 ()).trans z))
              have t01 : z0 = 1 := (h0 ()).symm.trans ((vr_is (L := L) 1 (by decide) ok0).mpr h16)
              have nx1 : ¬ w79 ≤ 0 := fun z => h17 ((vl_I_le (a := w79) (b := 0) (by omega) (by omega)).mpr z)
              have e : vx_atp M f (vr_A I L 1024) = (w79, (vr_A I L 1024)) := by
                by_cases c1 : zd = 0 ∨ zs = 0 ∨ (f.i = 241 ∧ z0 = 0)
                · rw [show w79 = 1 by omega]; exact vx_at1 (by rw [eD, eS, e0, hd (), hs (), h0 ()]; omega)
                · rw [show w79 = 3 by omega]; exact vx_at2 (by rw [eD, eS, e0, hd (), hs (), h0 ()]; omega) (by rw [eD, hd ()]; omega)
              exact ⟨_, _, by rw [← eQ, e], fun z => by rw [← eQ, e] at z; exact absurd (show w79 = 0 from z) (by omega), vr_fr_refl hf⟩
          · refine jv_Wp.lift (fun _ Kz => jv_Ev.steps jv_i295 2 (pc' := 243) (l' := [(2, .int (vl_I w76)), (3, .int (I 205 (76800 + f.d))), (1, .int (vl_I f.z)), (0, .ref 196)]) (st' := [.int (6 : Int32), .int (vl_I w76)]) rfl Kz) ?_
            obtain ⟨w81, hq81⟩ : ∃ x : Nat, ∀ _ : Unit, vx_fst w76 6 = x := ⟨_, fun _ => rfl⟩
            have fq81 : (w76 = 0 → w81 = 6) ∧ (6 = 0 → w81 = w76) ∧ (w81 = w76 ∨ w81 = 6) ∧ (w76 ≠ 0 → 6 ≠ 0 → w81 ≤ w76 ∧ w81 ≤ 6) := by rw [← hq81 ()]; exact vx_fst_g w76 6
            have Hf81 := vq_first (I := I) (L := L) (K := K) (R := R) (n := n) (sl := sl) w76 6 (by omega) (by omega)
            rw [hq81 ()] at Hf81
            refine jv_Wp.lift (fun _ Kz => jv_Ev.c jv_i295 (pc' := 246) (S' := [.int (vl_I w81)]) jv_i282 [.int (vl_I w76), .int (6 : Int32)] rfl rfl rfl rfl rfl rfl Hf81 rfl rfl Kz) ?_
            refine jv_Wp.lift (fun _ Kz => jv_Ev.steps jv_i295 2 (pc' := 248) (l' := [(2, .int (vl_I w81)), (3, .int (I 205 (76800 + f.d))), (1, .int (vl_I f.z)), (0, .ref 196)]) (st' := [.int (vl_I w81)]) rfl Kz) ?_
            refine jv_Wp.cnd jv_i295 (pt := 253) (pe := 251) (p := ((vl_I w81) ≤ 0)) (q := ((vl_I w81) ≤ 0)) rfl jv_bi_le rfl rfl Iff.rfl (fun h18 => ?_) (fun h18 => ?_)
            · refine jv_Wp.lift (fun _ Kz => jv_Ev.steps jv_i295 1 (pc' := 254) (l' := [(2, .int (vl_I w81)), (3, .int (I 205 (76800 + f.d))), (1, .int (vl_I f.z)), (0, .ref 196)]) (st' := [.ref 196]) rfl Kz) ?_
              refine jv_Wp.lift (fun _ Kz => jv_Ev.m jv_i295 (pc' := 257) (st' := [.int (Int32.ofInt f.i)]) (G' := (jv_H K I L R)) rfl rfl (jv_m_getI (jv_rwK hW 196 12 24 (by decide)) rfl rfl (vr_dJ D)) Kz) ?_
              refine jv_Wp.lift (fun _ Kz => jv_Ev.steps jv_i295 1 (pc' := 260) (l' := [(2, .int (vl_I w81)), (3, .int (I 205 (76800 + f.d))), (1, .int (vl_I f.z)), (0, .ref 196)]) (st' := [.int (241 : Int32), .int (Int32.ofInt f.i)]) rfl Kz) ?_
              refine jv_Wp.cnd jv_i295 (pt := 272) (pe := 263) (p := (¬ (Int32.ofInt f.i) = (241 : Int32))) (q := (¬ (Int32.ofInt f.i) = (241 : Int32))) rfl jv_bc_ne rfl rfl Iff.rfl (fun hz => absurd hz (fun z => z h241)) (fun _ => ?_)
              refine jv_Wp.lift (fun _ Kz => jv_Ev.steps jv_i295 3 (pc' := 266) (l' := [(2, .int (vl_I w81)), (3, .int (I 205 (76800 + f.d))), (1, .int (vl_I f.z)), (0, .ref 196)]) (st' := [.int (vl_I f.z), .int (0 : Int32), .ref 196]) rfl Kz) ?_
              obtain ⟨I82, L82, H82, T82, O82, F82⟩ := vq_setAny (I := I) (L := L) (R := R) (n := n) (sl := sl) 0 f.z hW hf (by omega) hz
              refine jv_Wp.lift (fun _ Kz => jv_Ev.c jv_i295 (pc' := 269) (S' := []) (G1 := (jv_H K I82 L82 R)) jv_i274 [.ref 196, .int (0 : Int32), .int (vl_I f.z)] rfl rfl rfl rfl (jv_cal rfl (jv_H_at (jv_rwK hW 196 12 24 (by decide))) rfl rfl) rfl H82 rfl rfl Kz) ?_
              refine jv_Wp.lift (fun _ Kz => jv_Ev.steps jv_i295 2 (pc' := 292) (l' := [(2, .int (vl_I w81)), (3, .int (I 205 (76800 + f.d))), (1, .int (vl_I f.z)), (0, .ref 196)]) (st' := [.int (0 : Int32)]) rfl Kz) ?_
              refine jv_Wp.of (jv_Ev.ret jv_i295 rfl rfl) ?_
              rw [hQ]
              have td0 : zd = 0 := (hd ()).symm.trans ((vr_isN (L := L) okd hd11).mpr h1)
              have ts0 : ¬ zs = 0 := fun z => h2 ((vr_isN (L := L) oks hs11).mp ((hs ()).trans z))
              have ts1 : ¬ zs = 1 := fun z => h8 ((vr_is (L := L) 1 (by decide) oks).mp ((hs ()).trans z))
              have t00 : ¬ z0 = 0 := fun z => h14 ((vr_isN (L := L) ok0 (by decide)).mp ((h0 ()).trans z))
              have t01 : ¬ z0 = 1 := fun z => h16 ((vr_is (L := L) 1 (by decide) ok0).mp ((h0 ()).trans z))
              have nx1 : w81 ≤ 0 := (vl_I_le (a := w81) (b := 0) (by omega) (by omega)).mp h18
              exact absurd (show False by omega) (fun z => z)
            · refine jv_Wp.lift (fun _ Kz => jv_Ev.steps jv_i295 1 (pc' := 252) (l' := [(2, .int (vl_I w81)), (3, .int (I 205 (76800 + f.d))), (1, .int (vl_I f.z)), (0, .ref 196)]) (st' := [.int (vl_I w81)]) rfl Kz) ?_
              refine jv_Wp.of (jv_Ev.ret jv_i295 rfl rfl) ?_
              rw [hQ]
              have td0 : zd = 0 := (hd ()).symm.trans ((vr_isN (L := L) okd hd11).mpr h1)
              have ts0 : ¬ zs = 0 := fun z => h2 ((vr_isN (L := L) oks hs11).mp ((hs ()).trans z))
              have ts1 : ¬ zs = 1 := fun z => h8 ((vr_is (L := L) 1 (by decide) oks).mp ((hs ()).trans z))
              have t00 : ¬ z0 = 0 := fun z => h14 ((vr_isN (L := L) ok0 (by decide)).mp ((h0 ()).trans z))
              have t01 : ¬ z0 = 1 := fun z => h16 ((vr_is (L := L) 1 (by decide) ok0).mp ((h0 ()).trans z))
              have nx1 : ¬ w81 ≤ 0 := fun z => h18 ((vl_I_le (a := w81) (b := 0) (by omega) (by omega)).mpr z)
              have e : vx_atp M f (vr_A I L 1024) = (w81, (vr_A I L 1024)) := by
                by_cases c1 : zd = 0 ∨ zs = 0 ∨ (f.i = 241 ∧ z0 = 0)
                · rw [show w81 = 1 by omega]; exact vx_at1 (by rw [eD, eS, e0, hd (), hs (), h0 ()]; omega)
                · rw [show w81 = 3 by omega]; exact vx_at2 (by rw [eD, eS, e0, hd (), hs (), h0 ()]; omega) (by rw [eD, hd ()]; omega)
              exact ⟨_, _, by rw [← eQ, e], fun z => by rw [← eQ, e] at z; exact absurd (show w81 = 0 from z) (by omega), vr_fr_refl hf⟩
  · refine jv_Wp.lift (fun _ Kz => jv_Ev.steps jv_i295 2 (pc' := 66) (l' := [(3, .int (I 205 (76800 + f.d))), (2, .int (vl_I w60)), (1, .int (vl_I f.z)), (0, .ref 196)]) (st' := [.int (7 : Int32), .int (I 205 (76800 + f.d)), .int (vl_I w60)]) rfl Kz) ?_
    refine jv_Wp.cnd jv_i295 (pt := 73) (pe := 69) (p := (¬ (I 205 (76800 + f.d)) = (7 : Int32))) (q := (¬ (I 205 (76800 + f.d)) = (7 : Int32))) rfl jv_bc_ne rfl rfl Iff.rfl (fun h19 => ?_) (fun h19 => ?_)
    · refine jv_Wp.lift (fun _ Kz => jv_Ev.steps jv_i295 1 (pc' := 74) (l' := [(3, .int (I 205 (76800 + f.d))), (2, .int (vl_I w60)), (1, .int (vl_I f.z)), (0, .ref 196)]) (st' := [.int (3 : Int32), .int (vl_I w60)]) rfl Kz) ?_
      obtain ⟨w83, hq83⟩ : ∃ x : Nat, ∀ _ : Unit, vx_fst w60 3 = x := ⟨_, fun _ => rfl⟩
      have fq83 : (w60 = 0 → w83 = 3) ∧ (3 = 0 → w83 = w60) ∧ (w83 = w60 ∨ w83 = 3) ∧ (w60 ≠ 0 → 3 ≠ 0 → w83 ≤ w60 ∧ w83 ≤ 3) := by rw [← hq83 ()]; exact vx_fst_g w60 3
      have Hf83 := vq_first (I := I) (L := L) (K := K) (R := R) (n := n) (sl := sl) w60 3 (by omega) (by omega)
      rw [hq83 ()] at Hf83
      refine jv_Wp.lift (fun _ Kz => jv_Ev.c jv_i295 (pc' := 77) (S' := [.int (vl_I w83)]) jv_i282 [.int (vl_I w60), .int (3 : Int32)] rfl rfl rfl rfl rfl rfl Hf83 rfl rfl Kz) ?_
      refine jv_Wp.lift (fun _ Kz => jv_Ev.steps jv_i295 3 (pc' := 81) (l' := [(2, .int (vl_I w83)), (3, .int (I 205 (76800 + f.d))), (1, .int (vl_I f.z)), (0, .ref 196)]) (st' := [.int (7 : Int32), .int (I 205 (76800 + f.d))]) rfl Kz) ?_
      refine jv_Wp.cnd jv_i295 (pt := 175) (pe := 84) (p := (¬ (I 205 (76800 + f.d)) = (7 : Int32))) (q := (¬ (I 205 (76800 + f.d)) = (7 : Int32))) rfl jv_bc_ne rfl rfl Iff.rfl (fun _ => ?_) (fun hz => absurd h19 hz)
      refine jv_Wp.lift (fun _ Kz => jv_Ev.steps jv_i295 3 (pc' := 178) (l' := [(2, .int (vl_I w83)), (3, .int (I 205 (76800 + f.d))), (1, .int (vl_I f.z)), (0, .ref 196)]) (st' := [.ref 196, .ref 196, .int (vl_I w83)]) rfl Kz) ?_
      refine jv_Wp.lift (fun _ Kz => jv_Ev.m jv_i295 (pc' := 181) (st' := [.int (vl_I f.s), .ref 196, .int (vl_I w83)]) (G' := (jv_H K I L R)) rfl rfl (jv_m_getI (jv_rwK hW 196 12 24 (by decide)) rfl rfl D.2.2.1) Kz) ?_
      refine jv_Wp.lift (fun _ Kz => jv_Ev.c jv_i295 (pc' := 184) (S' := [.int (I 205 (76800 + f.s)), .int (vl_I w83)]) jv_i271 [.ref 196, .int (vl_I f.s)] rfl rfl rfl rfl (jv_cal rfl (jv_H_at (jv_rwK hW 196 12 24 (by decide))) rfl rfl) rfl (vq_sortOf f.s hW (by omega)) rfl rfl Kz) ?_
      refine jv_Wp.cnd jv_i295 (pt := 204) (pe := 187) (p := ((I 205 (76800 + f.s)) = 0)) (q := ((I 205 (76800 + f.s)) = 0)) rfl jv_bi_eq rfl rfl Iff.rfl (fun h20 => ?_) (fun h20 => ?_)
      · refine jv_Wp.lift (fun _ Kz => jv_Ev.steps jv_i295 1 (pc' := 205) (l' := [(2, .int (vl_I w83)), (3, .int (I 205 (76800 + f.d))), (1, .int (vl_I f.z)), (0, .ref 196)]) (st' := [.int (0 : Int32), .int (vl_I w83)]) rfl Kz) ?_
        obtain ⟨w84, hq84⟩ : ∃ x : Nat, ∀ _ : Unit, vx_fst w83 0 = x := ⟨_, fun _ => rfl⟩
        have fq84 : (w83 = 0 → w84 = 0) ∧ (0 = 0 → w84 = w83) ∧ (w84 = w83 ∨ w84 = 0) ∧ (w83 ≠ 0 → 0 ≠ 0 → w84 ≤ w83 ∧ w84 ≤ 0) := by rw [← hq84 ()]; exact vx_fst_g w83 0
        have Hf84 := vq_first (I := I) (L := L) (K := K) (R := R) (n := n) (sl := sl) w83 0 (by omega) (by omega)
        rw [hq84 ()] at Hf84
        refine jv_Wp.lift (fun _ Kz => jv_Ev.c jv_i295 (pc' := 208) (S' := [.int (vl_I w84)]) jv_i282 [.int (vl_I w83), .int (0 : Int32)] rfl rfl rfl rfl rfl rfl Hf84 rfl rfl Kz) ?_
        refine jv_Wp.lift (fun _ Kz => jv_Ev.steps jv_i295 3 (pc' := 211) (l' := [(2, .int (vl_I w84)), (3, .int (I 205 (76800 + f.d))), (1, .int (vl_I f.z)), (0, .ref 196)]) (st' := [.ref 196, .int (vl_I w84)]) rfl Kz) ?_
        refine jv_Wp.lift (fun _ Kz => jv_Ev.m jv_i295 (pc' := 214) (st' := [.int (Int32.ofInt f.i), .int (vl_I w84)]) (G' := (jv_H K I L R)) rfl rfl (jv_m_getI (jv_rwK hW 196 12 24 (by decide)) rfl rfl (vr_dJ D)) Kz) ?_
        refine jv_Wp.lift (fun _ Kz => jv_Ev.steps jv_i295 1 (pc' := 217) (l' := [(2, .int (vl_I w84)), (3, .int (I 205 (76800 + f.d))), (1, .int (vl_I f.z)), (0, .ref 196)]) (st' := [.int (241 : Int32), .int (Int32.ofInt f.i), .int (vl_I w84)]) rfl Kz) ?_
        refine jv_Wp.cnd jv_i295 (pt := 242) (pe := 220) (p := (¬ (Int32.ofInt f.i) = (241 : Int32))) (q := (¬ (Int32.ofInt f.i) = (241 : Int32))) rfl jv_bc_ne rfl rfl Iff.rfl (fun hz => absurd hz (fun z => z h241)) (fun _ => ?_)
        refine jv_Wp.lift (fun _ Kz => jv_Ev.steps jv_i295 2 (pc' := 222) (l' := [(2, .int (vl_I w84)), (3, .int (I 205 (76800 + f.d))), (1, .int (vl_I f.z)), (0, .ref 196)]) (st' := [.int (0 : Int32), .ref 196, .int (vl_I w84)]) rfl Kz) ?_
        refine jv_Wp.lift (fun _ Kz => jv_Ev.c jv_i295 (pc' := 225) (S' := [.int (I 205 (76800 + 0)), .int (vl_I w84)]) jv_i271 [.ref 196, .int (0 : Int32)] rfl rfl rfl rfl (jv_cal rfl (jv_H_at (jv_rwK hW 196 12 24 (by decide))) rfl rfl) rfl (vq_sortOf 0 hW (by omega)) rfl rfl Kz) ?_
        refine jv_Wp.cnd jv_i295 (pt := 242) (pe := 228) (p := ((I 205 (76800 + 0)) = 0)) (q := ((I 205 (76800 + 0)) = 0)) rfl jv_bi_eq rfl rfl Iff.rfl (fun h21 => ?_) (fun h21 => ?_)
        · refine jv_Wp.lift (fun _ Kz => jv_Ev.steps jv_i295 1 (pc' := 243) (l' := [(2, .int (vl_I w84)), (3, .int (I 205 (76800 + f.d))), (1, .int (vl_I f.z)), (0, .ref 196)]) (st' := [.int (0 : Int32), .int (vl_I w84)]) rfl Kz) ?_
          obtain ⟨w85, hq85⟩ : ∃ x : Nat, ∀ _ : Unit, vx_fst w84 0 = x := ⟨_, fun _ => rfl⟩
          have fq85 : (w84 = 0 → w85 = 0) ∧ (0 = 0 → w85 = w84) ∧ (w85 = w84 ∨ w85 = 0) ∧ (w84 ≠ 0 → 0 ≠ 0 → w85 ≤ w84 ∧ w85 ≤ 0) := by rw [← hq85 ()]; exact vx_fst_g w84 0
          have Hf85 := vq_first (I := I) (L := L) (K := K) (R := R) (n := n) (sl := sl) w84 0 (by omega) (by omega)
          rw [hq85 ()] at Hf85
          refine jv_Wp.lift (fun _ Kz => jv_Ev.c jv_i295 (pc' := 246) (S' := [.int (vl_I w85)]) jv_i282 [.int (vl_I w84), .int (0 : Int32)] rfl rfl rfl rfl rfl rfl Hf85 rfl rfl Kz) ?_
          refine jv_Wp.lift (fun _ Kz => jv_Ev.steps jv_i295 2 (pc' := 248) (l' := [(2, .int (vl_I w85)), (3, .int (I 205 (76800 + f.d))), (1, .int (vl_I f.z)), (0, .ref 196)]) (st' := [.int (vl_I w85)]) rfl Kz) ?_
          refine jv_Wp.cnd jv_i295 (pt := 253) (pe := 251) (p := ((vl_I w85) ≤ 0)) (q := ((vl_I w85) ≤ 0)) rfl jv_bi_le rfl rfl Iff.rfl (fun h22 => ?_) (fun h22 => ?_)
          · refine jv_Wp.lift (fun _ Kz => jv_Ev.steps jv_i295 1 (pc' := 254) (l' := [(2, .int (vl_I w85)), (3, .int (I 205 (76800 + f.d))), (1, .int (vl_I f.z)), (0, .ref 196)]) (st' := [.ref 196]) rfl Kz) ?_
            refine jv_Wp.lift (fun _ Kz => jv_Ev.m jv_i295 (pc' := 257) (st' := [.int (Int32.ofInt f.i)]) (G' := (jv_H K I L R)) rfl rfl (jv_m_getI (jv_rwK hW 196 12 24 (by decide)) rfl rfl (vr_dJ D)) Kz) ?_
            refine jv_Wp.lift (fun _ Kz => jv_Ev.steps jv_i295 1 (pc' := 260) (l' := [(2, .int (vl_I w85)), (3, .int (I 205 (76800 + f.d))), (1, .int (vl_I f.z)), (0, .ref 196)]) (st' := [.int (241 : Int32), .int (Int32.ofInt f.i)]) rfl Kz) ?_
            refine jv_Wp.cnd jv_i295 (pt := 272) (pe := 263) (p := (¬ (Int32.ofInt f.i) = (241 : Int32))) (q := (¬ (Int32.ofInt f.i) = (241 : Int32))) rfl jv_bc_ne rfl rfl Iff.rfl (fun hz => absurd hz (fun z => z h241)) (fun _ => ?_)
            refine jv_Wp.lift (fun _ Kz => jv_Ev.steps jv_i295 3 (pc' := 266) (l' := [(2, .int (vl_I w85)), (3, .int (I 205 (76800 + f.d))), (1, .int (vl_I f.z)), (0, .ref 196)]) (st' := [.int (vl_I f.z), .int (0 : Int32), .ref 196]) rfl Kz) ?_
            obtain ⟨I86, L86, H86, T86, O86, F86⟩ := vq_setAny (I := I) (L := L) (R := R) (n := n) (sl := sl) 0 f.z hW hf (by omega) hz
            refine jv_Wp.lift (fun _ Kz => jv_Ev.c jv_i295 (pc' := 269) (S' := []) (G1 := (jv_H K I86 L86 R)) jv_i274 [.ref 196, .int (0 : Int32), .int (vl_I f.z)] rfl rfl rfl rfl (jv_cal rfl (jv_H_at (jv_rwK hW 196 12 24 (by decide))) rfl rfl) rfl H86 rfl rfl Kz) ?_
            refine jv_Wp.lift (fun _ Kz => jv_Ev.steps jv_i295 2 (pc' := 292) (l' := [(2, .int (vl_I w85)), (3, .int (I 205 (76800 + f.d))), (1, .int (vl_I f.z)), (0, .ref 196)]) (st' := [.int (0 : Int32)]) rfl Kz) ?_
            refine jv_Wp.of (jv_Ev.ret jv_i295 rfl rfl) ?_
            rw [hQ]
            have td0 : ¬ zd = 0 := fun z => h1 ((vr_isN (L := L) okd hd11).mp ((hd ()).trans z))
            have td7 : ¬ zd = 7 := fun z => h19 ((vr_is (L := L) 7 (by decide) okd).mp ((hd ()).trans z))
            have ts0 : zs = 0 := (hs ()).symm.trans ((vr_isN (L := L) oks hs11).mpr h20)
            have t00 : z0 = 0 := (h0 ()).symm.trans ((vr_isN (L := L) ok0 (by decide)).mpr h21)
            have nx1 : w85 ≤ 0 := (vl_I_le (a := w85) (b := 0) (by omega) (by omega)).mp h22
            exact absurd (show False by omega) (fun z => z)
          · refine jv_Wp.lift (fun _ Kz => jv_Ev.steps jv_i295 1 (pc' := 252) (l' := [(2, .int (vl_I w85)), (3, .int (I 205 (76800 + f.d))), (1, .int (vl_I f.z)), (0, .ref 196)]) (st' := [.int (vl_I w85)]) rfl Kz) ?_
            refine jv_Wp.of (jv_Ev.ret jv_i295 rfl rfl) ?_
            rw [hQ]
            have td0 : ¬ zd = 0 := fun z => h1 ((vr_isN (L := L) okd hd11).mp ((hd ()).trans z))
            have td7 : ¬ zd = 7 := fun z => h19 ((vr_is (L := L) 7 (by decide) okd).mp ((hd ()).trans z))
            have ts0 : zs = 0 := (hs ()).symm.trans ((vr_isN (L := L) oks hs11).mpr h20)
            have t00 : z0 = 0 := (h0 ()).symm.trans ((vr_isN (L := L) ok0 (by decide)).mpr h21)
            have nx1 : ¬ w85 ≤ 0 := fun z => h22 ((vl_I_le (a := w85) (b := 0) (by omega) (by omega)).mpr z)
            have e : vx_atp M f (vr_A I L 1024) = (w85, (vr_A I L 1024)) := by
              by_cases c1 : zd = 0 ∨ zs = 0 ∨ (f.i = 241 ∧ z0 = 0)
              · rw [show w85 = 1 by omega]; exact vx_at1 (by rw [eD, eS, e0, hd (), hs (), h0 ()]; omega)
              · rw [show w85 = 3 by omega]; exact vx_at2 (by rw [eD, eS, e0, hd (), hs (), h0 ()]; omega) (by rw [eD, hd ()]; omega)
            exact ⟨_, _, by rw [← eQ, e], fun z => by rw [← eQ, e] at z; exact absurd (show w85 = 0 from z) (by omega), vr_fr_refl hf⟩
        · refine jv_Wp.lift (fun _ Kz => jv_Ev.steps jv_i295 2 (pc' := 230) (l' := [(2, .int (vl_I w84)), (3, .int (I 205 (76800 + f.d))), (1, .int (vl_I f.z)), (0, .ref 196)]) (st' := [.int (0 : Int32), .ref 196, .int (vl_I w84)]) rfl Kz) ?_
          refine jv_Wp.lift (fun _ Kz => jv_Ev.c jv_i295 (pc' := 233) (S' := [.int (I 205 (76800 + 0)), .int (vl_I w84)]) jv_i271 [.ref 196, .int (0 : Int32)] rfl rfl rfl rfl (jv_cal rfl (jv_H_at (jv_rwK hW 196 12 24 (by decide))) rfl rfl) rfl (vq_sortOf 0 hW (by omega)) rfl rfl Kz) ?_
          refine jv_Wp.lift (fun _ Kz => jv_Ev.steps jv_i295 1 (pc' := 234) (l' := [(2, .int (vl_I w84)), (3, .int (I 205 (76800 + f.d))), (1, .int (vl_I f.z)), (0, .ref 196)]) (st' := [.int (1 : Int32), .int (I 205 (76800 + 0)), .int (vl_I w84)]) rfl Kz) ?_
          refine jv_Wp.cnd jv_i295 (pt := 242) (pe := 237) (p := ((I 205 (76800 + 0)) = (1 : Int32))) (q := ((I 205 (76800 + 0)) = (1 : Int32))) rfl jv_bc_eq rfl rfl Iff.rfl (fun h23 => ?_) (fun h23 => ?_)
          · refine jv_Wp.lift (fun _ Kz => jv_Ev.steps jv_i295 1 (pc' := 243) (l' := [(2, .int (vl_I w84)), (3, .int (I 205 (76800 + f.d))), (1, .int (vl_I f.z)), (0, .ref 196)]) (st' := [.int (0 : Int32), .int (vl_I w84)]) rfl Kz) ?_
            obtain ⟨w87, hq87⟩ : ∃ x : Nat, ∀ _ : Unit, vx_fst w84 0 = x := ⟨_, fun _ => rfl⟩
            have fq87 : (w84 = 0 → w87 = 0) ∧ (0 = 0 → w87 = w84) ∧ (w87 = w84 ∨ w87 = 0) ∧ (w84 ≠ 0 → 0 ≠ 0 → w87 ≤ w84 ∧ w87 ≤ 0) := by rw [← hq87 ()]; exact vx_fst_g w84 0
            have Hf87 := vq_first (I := I) (L := L) (K := K) (R := R) (n := n) (sl := sl) w84 0 (by omega) (by omega)
            rw [hq87 ()] at Hf87
            refine jv_Wp.lift (fun _ Kz => jv_Ev.c jv_i295 (pc' := 246) (S' := [.int (vl_I w87)]) jv_i282 [.int (vl_I w84), .int (0 : Int32)] rfl rfl rfl rfl rfl rfl Hf87 rfl rfl Kz) ?_
            refine jv_Wp.lift (fun _ Kz => jv_Ev.steps jv_i295 2 (pc' := 248) (l' := [(2, .int (vl_I w87)), (3, .int (I 205 (76800 + f.d))), (1, .int (vl_I f.z)), (0, .ref 196)]) (st' := [.int (vl_I w87)]) rfl Kz) ?_
            refine jv_Wp.cnd jv_i295 (pt := 253) (pe := 251) (p := ((vl_I w87) ≤ 0)) (q := ((vl_I w87) ≤ 0)) rfl jv_bi_le rfl rfl Iff.rfl (fun h24 => ?_) (fun h24 => ?_)
            · refine jv_Wp.lift (fun _ Kz => jv_Ev.steps jv_i295 1 (pc' := 254) (l' := [(2, .int (vl_I w87)), (3, .int (I 205 (76800 + f.d))), (1, .int (vl_I f.z)), (0, .ref 196)]) (st' := [.ref 196]) rfl Kz) ?_
              refine jv_Wp.lift (fun _ Kz => jv_Ev.m jv_i295 (pc' := 257) (st' := [.int (Int32.ofInt f.i)]) (G' := (jv_H K I L R)) rfl rfl (jv_m_getI (jv_rwK hW 196 12 24 (by decide)) rfl rfl (vr_dJ D)) Kz) ?_
              refine jv_Wp.lift (fun _ Kz => jv_Ev.steps jv_i295 1 (pc' := 260) (l' := [(2, .int (vl_I w87)), (3, .int (I 205 (76800 + f.d))), (1, .int (vl_I f.z)), (0, .ref 196)]) (st' := [.int (241 : Int32), .int (Int32.ofInt f.i)]) rfl Kz) ?_
              refine jv_Wp.cnd jv_i295 (pt := 272) (pe := 263) (p := (¬ (Int32.ofInt f.i) = (241 : Int32))) (q := (¬ (Int32.ofInt f.i) = (241 : Int32))) rfl jv_bc_ne rfl rfl Iff.rfl (fun hz => absurd hz (fun z => z h241)) (fun _ => ?_)
              refine jv_Wp.lift (fun _ Kz => jv_Ev.steps jv_i295 3 (pc' := 266) (l' := [(2, .int (vl_I w87)), (3, .int (I 205 (76800 + f.d))), (1, .int (vl_I f.z)), (0, .ref 196)]) (st' := [.int (vl_I f.z), .int (0 : Int32), .ref 196]) rfl Kz) ?_
              obtain ⟨I88, L88, H88, T88, O88, F88⟩ := vq_setAny (I := I) (L := L) (R := R) (n := n) (sl := sl) 0 f.z hW hf (by omega) hz
              refine jv_Wp.lift (fun _ Kz => jv_Ev.c jv_i295 (pc' := 269) (S' := []) (G1 := (jv_H K I88 L88 R)) jv_i274 [.ref 196, .int (0 : Int32), .int (vl_I f.z)] rfl rfl rfl rfl (jv_cal rfl (jv_H_at (jv_rwK hW 196 12 24 (by decide))) rfl rfl) rfl H88 rfl rfl Kz) ?_
              refine jv_Wp.lift (fun _ Kz => jv_Ev.steps jv_i295 2 (pc' := 292) (l' := [(2, .int (vl_I w87)), (3, .int (I 205 (76800 + f.d))), (1, .int (vl_I f.z)), (0, .ref 196)]) (st' := [.int (0 : Int32)]) rfl Kz) ?_
              refine jv_Wp.of (jv_Ev.ret jv_i295 rfl rfl) ?_
              rw [hQ]
              have td0 : ¬ zd = 0 := fun z => h1 ((vr_isN (L := L) okd hd11).mp ((hd ()).trans z))
              have td7 : ¬ zd = 7 := fun z => h19 ((vr_is (L := L) 7 (by decide) okd).mp ((hd ()).trans z))
              have ts0 : zs = 0 := (hs ()).symm.trans ((vr_isN (L := L) oks hs11).mpr h20)
              have t00 : ¬ z0 = 0 := fun z => h21 ((vr_isN (L := L) ok0 (by decide)).mp ((h0 ()).trans z))
              have t01 : z0 = 1 := (h0 ()).symm.trans ((vr_is (L := L) 1 (by decide) ok0).mpr h23)
              have nx1 : w87 ≤ 0 := (vl_I_le (a := w87) (b := 0) (by omega) (by omega)).mp h24
              exact absurd (show False by omega) (fun z => z)
            · refine jv_Wp.lift (fun _ Kz => jv_Ev.steps jv_i295 1 (pc' := 252) (l' := [(2, .int (vl_I w87)), (3, .int (I 205 (76800 + f.d))), (1, .int (vl_I f.z)), (0, .ref 196)]) (st' := [.int (vl_I w87)]) rfl Kz) ?_
              refine jv_Wp.of (jv_Ev.ret jv_i295 rfl rfl) ?_
              rw [hQ]
              have td0 : ¬ zd = 0 := fun z => h1 ((vr_isN (L := L) okd hd11).mp ((hd ()).trans z))
              have td7 : ¬ zd = 7 := fun z => h19 ((vr_is (L := L) 7 (by decide) okd).mp ((hd ()).trans z))
              have ts0 : zs = 0 := (hs ()).symm.trans ((vr_isN (L := L) oks hs11).mpr h20)
              have t00 : ¬ z0 = 0 := fun z => h21 ((vr_isN (L := L) ok0 (by decide)).mp ((h0 ()).trans z))
              have t01 : z0 = 1 := (h0 ()).symm.trans ((vr_is (L := L) 1 (by decide) ok0).mpr h23)
              have nx1 : ¬ w87 ≤ 0 := fun z => h24 ((vl_I_le (a := w87) (b := 0) (by omega) (by omega)).mpr z)
              have e : vx_atp M f (vr_A I L 1024) = (w87, (vr_A I L 1024)) := by
                by_cases c1 : zd = 0 ∨ zs = 0 ∨ (f.i = 241 ∧ z0 = 0)
                · rw [show w87 = 1 by omega]; exact vx_at1 (by rw [eD, eS, e0, hd (), hs (), h0 ()]; omega)
                · rw [show w87 = 3 by omega]; exact vx_at2 (by rw [eD, eS, e0, hd (), hs (), h0 ()]; omega) (by rw [eD, hd ()]; omega)
              exact ⟨_, _, by rw [← eQ, e], fun z => by rw [← eQ, e] at z; exact absurd (show w87 = 0 from z) (by omega), vr_fr_refl hf⟩
          · refine jv_Wp.lift (fun _ Kz => jv_Ev.steps jv_i295 2 (pc' := 243) (l' := [(2, .int (vl_I w84)), (3, .int (I 205 (76800 + f.d))), (1, .int (vl_I f.z)), (0, .ref 196)]) (st' := [.int (6 : Int32), .int (vl_I w84)]) rfl Kz) ?_
            obtain ⟨w89, hq89⟩ : ∃ x : Nat, ∀ _ : Unit, vx_fst w84 6 = x := ⟨_, fun _ => rfl⟩
            have fq89 : (w84 = 0 → w89 = 6) ∧ (6 = 0 → w89 = w84) ∧ (w89 = w84 ∨ w89 = 6) ∧ (w84 ≠ 0 → 6 ≠ 0 → w89 ≤ w84 ∧ w89 ≤ 6) := by rw [← hq89 ()]; exact vx_fst_g w84 6
            have Hf89 := vq_first (I := I) (L := L) (K := K) (R := R) (n := n) (sl := sl) w84 6 (by omega) (by omega)
            rw [hq89 ()] at Hf89
            refine jv_Wp.lift (fun _ Kz => jv_Ev.c jv_i295 (pc' := 246) (S' := [.int (vl_I w89)]) jv_i282 [.int (vl_I w84), .int (6 : Int32)] rfl rfl rfl rfl rfl rfl Hf89 rfl rfl Kz) ?_
            refine jv_Wp.lift (fun _ Kz => jv_Ev.steps jv_i295 2 (pc' := 248) (l' := [(2, .int (vl_I w89)), (3, .int (I 205 (76800 + f.d))), (1, .int (vl_I f.z)), (0, .ref 196)]) (st' := [.int (vl_I w89)]) rfl Kz) ?_
            refine jv_Wp.cnd jv_i295 (pt := 253) (pe := 251) (p := ((vl_I w89) ≤ 0)) (q := ((vl_I w89) ≤ 0)) rfl jv_bi_le rfl rfl Iff.rfl (fun h25 => ?_) (fun h25 => ?_)
            · refine jv_Wp.lift (fun _ Kz => jv_Ev.steps jv_i295 1 (pc' := 254) (l' := [(2, .int (vl_I w89)), (3, .int (I 205 (76800 + f.d))), (1, .int (vl_I f.z)), (0, .ref 196)]) (st' := [.ref 196]) rfl Kz) ?_
              refine jv_Wp.lift (fun _ Kz => jv_Ev.m jv_i295 (pc' := 257) (st' := [.int (Int32.ofInt f.i)]) (G' := (jv_H K I L R)) rfl rfl (jv_m_getI (jv_rwK hW 196 12 24 (by decide)) rfl rfl (vr_dJ D)) Kz) ?_
              refine jv_Wp.lift (fun _ Kz => jv_Ev.steps jv_i295 1 (pc' := 260) (l' := [(2, .int (vl_I w89)), (3, .int (I 205 (76800 + f.d))), (1, .int (vl_I f.z)), (0, .ref 196)]) (st' := [.int (241 : Int32), .int (Int32.ofInt f.i)]) rfl Kz) ?_
              refine jv_Wp.cnd jv_i295 (pt := 272) (pe := 263) (p := (¬ (Int32.ofInt f.i) = (241 : Int32))) (q := (¬ (Int32.ofInt f.i) = (241 : Int32))) rfl jv_bc_ne rfl rfl Iff.rfl (fun hz => absurd hz (fun z => z h241)) (fun _ => ?_)
              refine jv_Wp.lift (fun _ Kz => jv_Ev.steps jv_i295 3 (pc' := 266) (l' := [(2, .int (vl_I w89)), (3, .int (I 205 (76800 + f.d))), (1, .int (vl_I f.z)), (0, .ref 196)]) (st' := [.int (vl_I f.z), .int (0 : Int32), .ref 196]) rfl Kz) ?_
              obtain ⟨I90, L90, H90, T90, O90, F90⟩ := vq_setAny (I := I) (L := L) (R := R) (n := n) (sl := sl) 0 f.z hW hf (by omega) hz
              refine jv_Wp.lift (fun _ Kz => jv_Ev.c jv_i295 (pc' := 269) (S' := []) (G1 := (jv_H K I90 L90 R)) jv_i274 [.ref 196, .int (0 : Int32), .int (vl_I f.z)] rfl rfl rfl rfl (jv_cal rfl (jv_H_at (jv_rwK hW 196 12 24 (by decide))) rfl rfl) rfl H90 rfl rfl Kz) ?_
              refine jv_Wp.lift (fun _ Kz => jv_Ev.steps jv_i295 2 (pc' := 292) (l' := [(2, .int (vl_I w89)), (3, .int (I 205 (76800 + f.d))), (1, .int (vl_I f.z)), (0, .ref 196)]) (st' := [.int (0 : Int32)]) rfl Kz) ?_
              refine jv_Wp.of (jv_Ev.ret jv_i295 rfl rfl) ?_
              rw [hQ]
              have td0 : ¬ zd = 0 := fun z => h1 ((vr_isN (L := L) okd hd11).mp ((hd ()).trans z))
              have td7 : ¬ zd = 7 := fun z => h19 ((vr_is (L := L) 7 (by decide) okd).mp ((hd ()).trans z))
              have ts0 : zs = 0 := (hs ()).symm.trans ((vr_isN (L := L) oks hs11).mpr h20)
              have t00 : ¬ z0 = 0 := fun z => h21 ((vr_isN (L := L) ok0 (by decide)).mp ((h0 ()).trans z))
              have t01 : ¬ z0 = 1 := fun z => h23 ((vr_is (L := L) 1 (by decide) ok0).mp ((h0 ()).trans z))
              have nx1 : w89 ≤ 0 := (vl_I_le (a := w89) (b := 0) (by omega) (by omega)).mp h25
              exact absurd (show False by omega) (fun z => z)
            · refine jv_Wp.lift (fun _ Kz => jv_Ev.steps jv_i295 1 (pc' := 252) (l' := [(2, .int (vl_I w89)), (3, .int (I 205 (76800 + f.d))), (1, .int (vl_I f.z)), (0, .ref 196)]) (st' := [.int (vl_I w89)]) rfl Kz) ?_
              refine jv_Wp.of (jv_Ev.ret jv_i295 rfl rfl) ?_
              rw [hQ]
              have td0 : ¬ zd = 0 := fun z => h1 ((vr_isN (L := L) okd hd11).mp ((hd ()).trans z))
              have td7 : ¬ zd = 7 := fun z => h19 ((vr_is (L := L) 7 (by decide) okd).mp ((hd ()).trans z))
              have ts0 : zs = 0 := (hs ()).symm.trans ((vr_isN (L := L) oks hs11).mpr h20)
              have t00 : ¬ z0 = 0 := fun z => h21 ((vr_isN (L := L) ok0 (by decide)).mp ((h0 ()).trans z))
              have t01 : ¬ z0 = 1 := fun z => h23 ((vr_is (L := L) 1 (by decide) ok0).mp ((h0 ()).trans z))
              have nx1 : ¬ w89 ≤ 0 := fun z => h25 ((vl_I_le (a := w89) (b := 0) (by omega) (by omega)).mpr z)
              have e : vx_atp M f (vr_A I L 1024) = (w89, (vr_A I L 1024)) := by
                by_cases c1 : zd = 0 ∨ zs = 0 ∨ (f.i = 241 ∧ z0 = 0)
                · rw [show w89 = 1 by omega]; exact vx_at1 (by rw [eD, eS, e0, hd (), hs (), h0 ()]; omega)
                · rw [show w89 = 3 by omega]; exact vx_at2 (by rw [eD, eS, e0, hd (), hs (), h0 ()]; omega) (by rw [eD, hd ()]; omega)
              exact ⟨_, _, by rw [← eQ, e], fun z => by rw [← eQ, e] at z; exact absurd (show w89 = 0 from z) (by omega), vr_fr_refl hf⟩
      · refine jv_Wp.lift (fun _ Kz => jv_Ev.steps jv_i295 2 (pc' := 189) (l' := [(2, .int (vl_I w83)), (3, .int (I 205 (76800 + f.d))), (1, .int (vl_I f.z)), (0, .ref 196)]) (st' := [.ref 196, .ref 196, .int (vl_I w83)]) rfl Kz) ?_
        refine jv_Wp.lift (fun _ Kz => jv_Ev.m jv_i295 (pc' := 192) (st' := [.int (vl_I f.s), .ref 196, .int (vl_I w83)]) (G' := (jv_H K I L R)) rfl rfl (jv_m_getI (jv_rwK hW 196 12 24 (by decide)) rfl rfl D.2.2.1) Kz) ?_
        refine jv_Wp.lift (fun _ Kz => jv_Ev.c jv_i295 (pc' := 195) (S' := [.int (I 205 (76800 + f.s)), .int (vl_I w83)]) jv_i271 [.ref 196, .int (vl_I f.s)] rfl rfl rfl rfl (jv_cal rfl (jv_H_at (jv_rwK hW 196 12 24 (by decide))) rfl rfl) rfl (vq_sortOf f.s hW (by omega)) rfl rfl Kz) ?_
        refine jv_Wp.lift (fun _ Kz => jv_Ev.steps jv_i295 1 (pc' := 196) (l' := [(2, .int (vl_I w83)), (3, .int (I 205 (76800 + f.d))), (1, .int (vl_I f.z)), (0, .ref 196)]) (st' := [.int (1 : Int32), .int (I 205 (76800 + f.s)), .int (vl_I w83)]) rfl Kz) ?_
        refine jv_Wp.cnd jv_i295 (pt := 204) (pe := 199) (p := ((I 205 (76800 + f.s)) = (1 : Int32))) (q := ((I 205 (76800 + f.s)) = (1 : Int32))) rfl jv_bc_eq rfl rfl Iff.rfl (fun h26 => ?_) (fun h26 => ?_)
        · refine jv_Wp.lift (fun _ Kz => jv_Ev.steps jv_i295 1 (pc' := 205) (l' := [(2, .int (vl_I w83)), (3, .int (I 205 (76800 + f.d))), (1, .int (vl_I f.z)), (0, .ref 196)]) (st' := [.int (0 : Int32), .int (vl_I w83)]) rfl Kz) ?_
          obtain ⟨w91, hq91⟩ : ∃ x : Nat, ∀ _ : Unit, vx_fst w83 0 = x := ⟨_, fun _ => rfl⟩
          have fq91 : (w83 = 0 → w91 = 0) ∧ (0 = 0 → w91 = w83) ∧ (w91 = w83 ∨ w91 = 0) ∧ (w83 ≠ 0 → 0 ≠ 0 → w91 ≤ w83 ∧ w91 ≤ 0) := by rw [← hq91 ()]; exact vx_fst_g w83 0
          have Hf91 := vq_first (I := I) (L := L) (K := K) (R := R) (n := n) (sl := sl) w83 0 (by omega) (by omega)
          rw [hq91 ()] at Hf91
          refine jv_Wp.lift (fun _ Kz => jv_Ev.c jv_i295 (pc' := 208) (S' := [.int (vl_I w91)]) jv_i282 [.int (vl_I w83), .int (0 : Int32)] rfl rfl rfl rfl rfl rfl Hf91 rfl rfl Kz) ?_
          refine jv_Wp.lift (fun _ Kz => jv_Ev.steps jv_i295 3 (pc' := 211) (l' := [(2, .int (vl_I w91)), (3, .int (I 205 (76800 + f.d))), (1, .int (vl_I f.z)), (0, .ref 196)]) (st' := [.ref 196, .int (vl_I w91)]) rfl Kz) ?_
          refine jv_Wp.lift (fun _ Kz => jv_Ev.m jv_i295 (pc' := 214) (st' := [.int (Int32.ofInt f.i), .int (vl_I w91)]) (G' := (jv_H K I L R)) rfl rfl (jv_m_getI (jv_rwK hW 196 12 24 (by decide)) rfl rfl (vr_dJ D)) Kz) ?_
          refine jv_Wp.lift (fun _ Kz => jv_Ev.steps jv_i295 1 (pc' := 217) (l' := [(2, .int (vl_I w91)), (3, .int (I 205 (76800 + f.d))), (1, .int (vl_I f.z)), (0, .ref 196)]) (st' := [.int (241 : Int32), .int (Int32.ofInt f.i), .int (vl_I w91)]) rfl Kz) ?_
          refine jv_Wp.cnd jv_i295 (pt := 242) (pe := 220) (p := (¬ (Int32.ofInt f.i) = (241 : Int32))) (q := (¬ (Int32.ofInt f.i) = (241 : Int32))) rfl jv_bc_ne rfl rfl Iff.rfl (fun hz => absurd hz (fun z => z h241)) (fun _ => ?_)
          refine jv_Wp.lift (fun _ Kz => jv_Ev.steps jv_i295 2 (pc' := 222) (l' := [(2, .int (vl_I w91)), (3, .int (I 205 (76800 + f.d))), (1, .int (vl_I f.z)), (0, .ref 196)]) (st' := [.int (0 : Int32), .ref 196, .int (vl_I w91)]) rfl Kz) ?_
          refine jv_Wp.lift (fun _ Kz => jv_Ev.c jv_i295 (pc' := 225) (S' := [.int (I 205 (76800 + 0)), .int (vl_I w91)]) jv_i271 [.ref 196, .int (0 : Int32)] rfl rfl rfl rfl (jv_cal rfl (jv_H_at (jv_rwK hW 196 12 24 (by decide))) rfl rfl) rfl (vq_sortOf 0 hW (by omega)) rfl rfl Kz) ?_
          refine jv_Wp.cnd jv_i295 (pt := 242) (pe := 228) (p := ((I 205 (76800 + 0)) = 0)) (q := ((I 205 (76800 + 0)) = 0)) rfl jv_bi_eq rfl rfl Iff.rfl (fun h27 => ?_) (fun h27 => ?_)
          · refine jv_Wp.lift (fun _ Kz => jv_Ev.steps jv_i295 1 (pc' := 243) (l' := [(2, .int (vl_I w91)), (3, .int (I 205 (76800 + f.d))), (1, .int (vl_I f.z)), (0, .ref 196)]) (st' := [.int (0 : Int32), .int (vl_I w91)]) rfl Kz) ?_
            obtain ⟨w92, hq92⟩ : ∃ x : Nat, ∀ _ : Unit, vx_fst w91 0 = x := ⟨_, fun _ => rfl⟩
            have fq92 : (w91 = 0 → w92 = 0) ∧ (0 = 0 → w92 = w91) ∧ (w92 = w91 ∨ w92 = 0) ∧ (w91 ≠ 0 → 0 ≠ 0 → w92 ≤ w91 ∧ w92 ≤ 0) := by rw [← hq92 ()]; exact vx_fst_g w91 0
            have Hf92 := vq_first (I := I) (L := L) (K := K) (R := R) (n := n) (sl := sl) w91 0 (by omega) (by omega)
            rw [hq92 ()] at Hf92
            refine jv_Wp.lift (fun _ Kz => jv_Ev.c jv_i295 (pc' := 246) (S' := [.int (vl_I w92)]) jv_i282 [.int (vl_I w91), .int (0 : Int32)] rfl rfl rfl rfl rfl rfl Hf92 rfl rfl Kz) ?_
            refine jv_Wp.lift (fun _ Kz => jv_Ev.steps jv_i295 2 (pc' := 248) (l' := [(2, .int (vl_I w92)), (3, .int (I 205 (76800 + f.d))), (1, .int (vl_I f.z)), (0, .ref 196)]) (st' := [.int (vl_I w92)]) rfl Kz) ?_
            refine jv_Wp.cnd jv_i295 (pt := 253) (pe := 251) (p := ((vl_I w92) ≤ 0)) (q := ((vl_I w92) ≤ 0)) rfl jv_bi_le rfl rfl Iff.rfl (fun h28 => ?_) (fun h28 => ?_)
            · refine jv_Wp.lift (fun _ Kz => jv_Ev.steps jv_i295 1 (pc' := 254) (l' := [(2, .int (vl_I w92)), (3, .int (I 205 (76800 + f.d))), (1, .int (vl_I f.z)), (0, .ref 196)]) (st' := [.ref 196]) rfl Kz) ?_
              refine jv_Wp.lift (fun _ Kz => jv_Ev.m jv_i295 (pc' := 257) (st' := [.int (Int32.ofInt f.i)]) (G' := (jv_H K I L R)) rfl rfl (jv_m_getI (jv_rwK hW 196 12 24 (by decide)) rfl rfl (vr_dJ D)) Kz) ?_
              refine jv_Wp.lift (fun _ Kz => jv_Ev.steps jv_i295 1 (pc' := 260) (l' := [(2, .int (vl_I w92)), (3, .int (I 205 (76800 + f.d))), (1, .int (vl_I f.z)), (0, .ref 196)]) (st' := [.int (241 : Int32), .int (Int32.ofInt f.i)]) rfl Kz) ?_
              refine jv_Wp.cnd jv_i295 (pt := 272) (pe := 263) (p := (¬ (Int32.ofInt f.i) = (241 : Int32))) (q := (¬ (Int32.ofInt f.i) = (241 : Int32))) rfl jv_bc_ne rfl rfl Iff.rfl (fun hz => absurd hz (fun z => z h241)) (fun _ => ?_)
              refine jv_Wp.lift (fun _ Kz => jv_Ev.steps jv_i295 3 (pc' := 266) (l' := [(2, .int (vl_I w92)), (3, .int (I 205 (76800 + f.d))), (1, .int (vl_I f.z)), (0, .ref 196)]) (st' := [.int (vl_I f.z), .int (0 : Int32), .ref 196]) rfl Kz) ?_
              obtain ⟨I93, L93, H93, T93, O93, F93⟩ := vq_setAny (I := I) (L := L) (R := R) (n := n) (sl := sl) 0 f.z hW hf (by omega) hz
              refine jv_Wp.lift (fun _ Kz => jv_Ev.c jv_i295 (pc' := 269) (S' := []) (G1 := (jv_H K I93 L93 R)) jv_i274 [.ref 196, .int (0 : Int32), .int (vl_I f.z)] rfl rfl rfl rfl (jv_cal rfl (jv_H_at (jv_rwK hW 196 12 24 (by decide))) rfl rfl) rfl H93 rfl rfl Kz) ?_
              refine jv_Wp.lift (fun _ Kz => jv_Ev.steps jv_i295 2 (pc' := 292) (l' := [(2, .int (vl_I w92)), (3, .int (I 205 (76800 + f.d))), (1, .int (vl_I f.z)), (0, .ref 196)]) (st' := [.int (0 : Int32)]) rfl Kz) ?_
              refine jv_Wp.of (jv_Ev.ret jv_i295 rfl rfl) ?_
              rw [hQ]
              have td0 : ¬ zd = 0 := fun z => h1 ((vr_isN (L := L) okd hd11).mp ((hd ()).trans z))
              have td7 : ¬ zd = 7 := fun z => h19 ((vr_is (L := L) 7 (by decide) okd).mp ((hd ()).trans z))
              have ts0 : ¬ zs = 0 := fun z => h20 ((vr_isN (L := L) oks hs11).mp ((hs ()).trans z))
              have ts1 : zs = 1 := (hs ()).symm.trans ((vr_is (L := L) 1 (by decide) oks).mpr h26)
              have t00 : z0 = 0 := (h0 ()).symm.trans ((vr_isN (L := L) ok0 (by decide)).mpr h27)
              have nx1 : w92 ≤ 0 := (vl_I_le (a := w92) (b := 0) (by omega) (by omega)).mp h28
              exact absurd (show False by omega) (fun z => z)
            · refine jv_Wp.lift (fun _ Kz => jv_Ev.steps jv_i295 1 (pc' := 252) (l' := [(2, .int (vl_I w92)), (3, .int (I 205 (76800 + f.d))), (1, .int (vl_I f.z)), (0, .ref 196)]) (st' := [.int (vl_I w92)]) rfl Kz) ?_
              refine jv_Wp.of (jv_Ev.ret jv_i295 rfl rfl) ?_
              rw [hQ]
              have td0 : ¬ zd = 0 := fun z => h1 ((vr_isN (L := L) okd hd11).mp ((hd ()).trans z))
              have td7 : ¬ zd = 7 := fun z => h19 ((vr_is (L := L) 7 (by decide) okd).mp ((hd ()).trans z))
              have ts0 : ¬ zs = 0 := fun z => h20 ((vr_isN (L := L) oks hs11).mp ((hs ()).trans z))
              have ts1 : zs = 1 := (hs ()).symm.trans ((vr_is (L := L) 1 (by decide) oks).mpr h26)
              have t00 : z0 = 0 := (h0 ()).symm.trans ((vr_isN (L := L) ok0 (by decide)).mpr h27)
              have nx1 : ¬ w92 ≤ 0 := fun z => h28 ((vl_I_le (a := w92) (b := 0) (by omega) (by omega)).mpr z)
              have e : vx_atp M f (vr_A I L 1024) = (w92, (vr_A I L 1024)) := by
                by_cases c1 : zd = 0 ∨ zs = 0 ∨ (f.i = 241 ∧ z0 = 0)
                · rw [show w92 = 1 by omega]; exact vx_at1 (by rw [eD, eS, e0, hd (), hs (), h0 ()]; omega)
                · rw [show w92 = 3 by omega]; exact vx_at2 (by rw [eD, eS, e0, hd (), hs (), h0 ()]; omega) (by rw [eD, hd ()]; omega)
              exact ⟨_, _, by rw [← eQ, e], fun z => by rw [← eQ, e] at z; exact absurd (show w92 = 0 from z) (by omega), vr_fr_refl hf⟩
          · refine jv_Wp.lift (fun _ Kz => jv_Ev.steps jv_i295 2 (pc' := 230) (l' := [(2, .int (vl_I w91)), (3, .int (I 205 (76800 + f.d))), (1, .int (vl_I f.z)), (0, .ref 196)]) (st' := [.int (0 : Int32), .ref 196, .int (vl_I w91)]) rfl Kz) ?_
            refine jv_Wp.lift (fun _ Kz => jv_Ev.c jv_i295 (pc' := 233) (S' := [.int (I 205 (76800 + 0)), .int (vl_I w91)]) jv_i271 [.ref 196, .int (0 : Int32)] rfl rfl rfl rfl (jv_cal rfl (jv_H_at (jv_rwK hW 196 12 24 (by decide))) rfl rfl) rfl (vq_sortOf 0 hW (by omega)) rfl rfl Kz) ?_
            refine jv_Wp.lift (fun _ Kz => jv_Ev.steps jv_i295 1 (pc' := 234) (l' := [(2, .int (vl_I w91)), (3, .int (I 205 (76800 + f.d))), (1, .int (vl_I f.z)), (0, .ref 196)]) (st' := [.int (1 : Int32), .int (I 205 (76800 + 0)), .int (vl_I w91)]) rfl Kz) ?_
            refine jv_Wp.cnd jv_i295 (pt := 242) (pe := 237) (p := ((I 205 (76800 + 0)) = (1 : Int32))) (q := ((I 205 (76800 + 0)) = (1 : Int32))) rfl jv_bc_eq rfl rfl Iff.rfl (fun h29 => ?_) (fun h29 => ?_)
            · refine jv_Wp.lift (fun _ Kz => jv_Ev.steps jv_i295 1 (pc' := 243) (l' := [(2, .int (vl_I w91)), (3, .int (I 205 (76800 + f.d))), (1, .int (vl_I f.z)), (0, .ref 196)]) (st' := [.int (0 : Int32), .int (vl_I w91)]) rfl Kz) ?_
              obtain ⟨w94, hq94⟩ : ∃ x : Nat, ∀ _ : Unit, vx_fst w91 0 = x := ⟨_, fun _ => rfl⟩
              have fq94 : (w91 = 0 → w94 = 0) ∧ (0 = 0 → w94 = w91) ∧ (w94 = w91 ∨ w94 = 0) ∧ (w91 ≠ 0 → 0 ≠ 0 → w94 ≤ w91 ∧ w94 ≤ 0) := by rw [← hq94 ()]; exact vx_fst_g w91 0
              have Hf94 := vq_first (I := I) (L := L) (K := K) (R := R) (n := n) (sl := sl) w91 0 (by omega) (by omega)
              rw [hq94 ()] at Hf94
              refine jv_Wp.lift (fun _ Kz => jv_Ev.c jv_i295 (pc' := 246) (S' := [.int (vl_I w94)]) jv_i282 [.int (vl_I w91), .int (0 : Int32)] rfl rfl rfl rfl rfl rfl Hf94 rfl rfl Kz) ?_
              refine jv_Wp.lift (fun _ Kz => jv_Ev.steps jv_i295 2 (pc' := 248) (l' := [(2, .int (vl_I w94)), (3, .int (I 205 (76800 + f.d))), (1, .int (vl_I f.z)), (0, .ref 196)]) (st' := [.int (vl_I w94)]) rfl Kz) ?_
              refine jv_Wp.cnd jv_i295 (pt := 253) (pe := 251) (p := ((vl_I w94) ≤ 0)) (q := ((vl_I w94) ≤ 0)) rfl jv_bi_le rfl rfl Iff.rfl (fun h30 => ?_) (fun h30 => ?_)
              · refine jv_Wp.lift (fun _ Kz => jv_Ev.steps jv_i295 1 (pc' := 254) (l' := [(2, .int (vl_I w94)), (3, .int (I 205 (76800 + f.d))), (1, .int (vl_I f.z)), (0, .ref 196)]) (st' := [.ref 196]) rfl Kz) ?_
                refine jv_Wp.lift (fun _ Kz => jv_Ev.m jv_i295 (pc' := 257) (st' := [.int (Int32.ofInt f.i)]) (G' := (jv_H K I L R)) rfl rfl (jv_m_getI (jv_rwK hW 196 12 24 (by decide)) rfl rfl (vr_dJ D)) Kz) ?_
                refine jv_Wp.lift (fun _ Kz => jv_Ev.steps jv_i295 1 (pc' := 260) (l' := [(2, .int (vl_I w94)), (3, .int (I 205 (76800 + f.d))), (1, .int (vl_I f.z)), (0, .ref 196)]) (st' := [.int (241 : Int32), .int (Int32.ofInt f.i)]) rfl Kz) ?_
                refine jv_Wp.cnd jv_i295 (pt := 272) (pe := 263) (p := (¬ (Int32.ofInt f.i) = (241 : Int32))) (q := (¬ (Int32.ofInt f.i) = (241 : Int32))) rfl jv_bc_ne rfl rfl Iff.rfl (fun hz => absurd hz (fun z => z h241)) (fun _ => ?_)
                refine jv_Wp.lift (fun _ Kz => jv_Ev.steps jv_i295 3 (pc' := 266) (l' := [(2, .int (vl_I w94)), (3, .int (I 205 (76800 + f.d))), (1, .int (vl_I f.z)), (0, .ref 196)]) (st' := [.int (vl_I f.z), .int (0 : Int32), .ref 196]) rfl Kz) ?_
                obtain ⟨I95, L95, H95, T95, O95, F95⟩ := vq_setAny (I := I) (L := L) (R := R) (n := n) (sl := sl) 0 f.z hW hf (by omega) hz
                refine jv_Wp.lift (fun _ Kz => jv_Ev.c jv_i295 (pc' := 269) (S' := []) (G1 := (jv_H K I95 L95 R)) jv_i274 [.ref 196, .int (0 : Int32), .int (vl_I f.z)] rfl rfl rfl rfl (jv_cal rfl (jv_H_at (jv_rwK hW 196 12 24 (by decide))) rfl rfl) rfl H95 rfl rfl Kz) ?_
                refine jv_Wp.lift (fun _ Kz => jv_Ev.steps jv_i295 2 (pc' := 292) (l' := [(2, .int (vl_I w94)), (3, .int (I 205 (76800 + f.d))), (1, .int (vl_I f.z)), (0, .ref 196)]) (st' := [.int (0 : Int32)]) rfl Kz) ?_
                refine jv_Wp.of (jv_Ev.ret jv_i295 rfl rfl) ?_
                rw [hQ]
                have td0 : ¬ zd = 0 := fun z => h1 ((vr_isN (L := L) okd hd11).mp ((hd ()).trans z))
                have td7 : ¬ zd = 7 := fun z => h19 ((vr_is (L := L) 7 (by decide) okd).mp ((hd ()).trans z))
                have ts0 : ¬ zs = 0 := fun z => h20 ((vr_isN (L := L) oks hs11).mp ((hs ()).trans z))
                have ts1 : zs = 1 := (hs ()).symm.trans ((vr_is (L := L) 1 (by decide) oks).mpr h26)
                have t00 : ¬ z0 = 0 := fun z => h27 ((vr_isN (L := L) ok0 (by decide)).mp ((h0 ()).trans z))
                have t01 : z0 = 1 := (h0 ()).symm.trans ((vr_is (L := L) 1 (by decide) ok0).mpr h29)
                have nx1 : w94 ≤ 0 := (vl_I_le (a := w94) (b := 0) (by omega) (by omega)).mp h30
                exact absurd (show False by omega) (fun z => z)
              · refine jv_Wp.lift (fun _ Kz => jv_Ev.steps jv_i295 1 (pc' := 252) (l' := [(2, .int (vl_I w94)), (3, .int (I 205 (76800 + f.d))), (1, .int (vl_I f.z)), (0, .ref 196)]) (st' := [.int (vl_I w94)]) rfl Kz) ?_
                refine jv_Wp.of (jv_Ev.ret jv_i295 rfl rfl) ?_
                rw [hQ]
                have td0 : ¬ zd = 0 := fun z => h1 ((vr_isN (L := L) okd hd11).mp ((hd ()).trans z))
                have td7 : ¬ zd = 7 := fun z => h19 ((vr_is (L := L) 7 (by decide) okd).mp ((hd ()).trans z))
                have ts0 : ¬ zs = 0 := fun z => h20 ((vr_isN (L := L) oks hs11).mp ((hs ()).trans z))
                have ts1 : zs = 1 := (hs ()).symm.trans ((vr_is (L := L) 1 (by decide) oks).mpr h26)
                have t00 : ¬ z0 = 0 := fun z => h27 ((vr_isN (L := L) ok0 (by decide)).mp ((h0 ()).trans z))
                have t01 : z0 = 1 := (h0 ()).symm.trans ((vr_is (L := L) 1 (by decide) ok0).mpr h29)
                have nx1 : ¬ w94 ≤ 0 := fun z => h30 ((vl_I_le (a := w94) (b := 0) (by omega) (by omega)).mpr z)
                have e : vx_atp M f (vr_A I L 1024) = (w94, (vr_A I L 1024)) := by
                  by_cases c1 : zd = 0 ∨ zs = 0 ∨ (f.i = 241 ∧ z0 = 0)
                  · rw [show w94 = 1 by omega]; exact vx_at1 (by rw [eD, eS, e0, hd (), hs (), h0 ()]; omega)
                  · rw [show w94 = 3 by omega]; exact vx_at2 (by rw [eD, eS, e0, hd (), hs (), h0 ()]; omega) (by rw [eD, hd ()]; omega)
                exact ⟨_, _, by rw [← eQ, e], fun z => by rw [← eQ, e] at z; exact absurd (show w94 = 0 from z) (by omega), vr_fr_refl hf⟩
            · refine jv_Wp.lift (fun _ Kz => jv_Ev.steps jv_i295 2 (pc' := 243) (l' := [(2, .int (vl_I w91)), (3, .int (I 205 (76800 + f.d))), (1, .int (vl_I f.z)), (0, .ref 196)]) (st' := [.int (6 : Int32), .int (vl_I w91)]) rfl Kz) ?_
              obtain ⟨w96, hq96⟩ : ∃ x : Nat, ∀ _ : Unit, vx_fst w91 6 = x := ⟨_, fun _ => rfl⟩
              have fq96 : (w91 = 0 → w96 = 6) ∧ (6 = 0 → w96 = w91) ∧ (w96 = w91 ∨ w96 = 6) ∧ (w91 ≠ 0 → 6 ≠ 0 → w96 ≤ w91 ∧ w96 ≤ 6) := by rw [← hq96 ()]; exact vx_fst_g w91 6
              have Hf96 := vq_first (I := I) (L := L) (K := K) (R := R) (n := n) (sl := sl) w91 6 (by omega) (by omega)
              rw [hq96 ()] at Hf96
              refine jv_Wp.lift (fun _ Kz => jv_Ev.c jv_i295 (pc' := 246) (S' := [.int (vl_I w96)]) jv_i282 [.int (vl_I w91), .int (6 : Int32)] rfl rfl rfl rfl rfl rfl Hf96 rfl rfl Kz) ?_
              refine jv_Wp.lift (fun _ Kz => jv_Ev.steps jv_i295 2 (pc' := 248) (l' := [(2, .int (vl_I w96)), (3, .int (I 205 (76800 + f.d))), (1, .int (vl_I f.z)), (0, .ref 196)]) (st' := [.int (vl_I w96)]) rfl Kz) ?_
              refine jv_Wp.cnd jv_i295 (pt := 253) (pe := 251) (p := ((vl_I w96) ≤ 0)) (q := ((vl_I w96) ≤ 0)) rfl jv_bi_le rfl rfl Iff.rfl (fun h31 => ?_) (fun h31 => ?_)
              · refine jv_Wp.lift (fun _ Kz => jv_Ev.steps jv_i295 1 (pc' := 254) (l' := [(2, .int (vl_I w96)), (3, .int (I 205 (76800 + f.d))), (1, .int (vl_I f.z)), (0, .ref 196)]) (st' := [.ref 196]) rfl Kz) ?_
                refine jv_Wp.lift (fun _ Kz => jv_Ev.m jv_i295 (pc' := 257) (st' := [.int (Int32.ofInt f.i)]) (G' := (jv_H K I L R)) rfl rfl (jv_m_getI (jv_rwK hW 196 12 24 (by decide)) rfl rfl (vr_dJ D)) Kz) ?_
                refine jv_Wp.lift (fun _ Kz => jv_Ev.steps jv_i295 1 (pc' := 260) (l' := [(2, .int (vl_I w96)), (3, .int (I 205 (76800 + f.d))), (1, .int (vl_I f.z)), (0, .ref 196)]) (st' := [.int (241 : Int32), .int (Int32.ofInt f.i)]) rfl Kz) ?_
                refine jv_Wp.cnd jv_i295 (pt := 272) (pe := 263) (p := (¬ (Int32.ofInt f.i) = (241 : Int32))) (q := (¬ (Int32.ofInt f.i) = (241 : Int32))) rfl jv_bc_ne rfl rfl Iff.rfl (fun hz => absurd hz (fun z => z h241)) (fun _ => ?_)
                refine jv_Wp.lift (fun _ Kz => jv_Ev.steps jv_i295 3 (pc' := 266) (l' := [(2, .int (vl_I w96)), (3, .int (I 205 (76800 + f.d))), (1, .int (vl_I f.z)), (0, .ref 196)]) (st' := [.int (vl_I f.z), .int (0 : Int32), .ref 196]) rfl Kz) ?_
                obtain ⟨I97, L97, H97, T97, O97, F97⟩ := vq_setAny (I := I) (L := L) (R := R) (n := n) (sl := sl) 0 f.z hW hf (by omega) hz
                refine jv_Wp.lift (fun _ Kz => jv_Ev.c jv_i295 (pc' := 269) (S' := []) (G1 := (jv_H K I97 L97 R)) jv_i274 [.ref 196, .int (0 : Int32), .int (vl_I f.z)] rfl rfl rfl rfl (jv_cal rfl (jv_H_at (jv_rwK hW 196 12 24 (by decide))) rfl rfl) rfl H97 rfl rfl Kz) ?_
                refine jv_Wp.lift (fun _ Kz => jv_Ev.steps jv_i295 2 (pc' := 292) (l' := [(2, .int (vl_I w96)), (3, .int (I 205 (76800 + f.d))), (1, .int (vl_I f.z)), (0, .ref 196)]) (st' := [.int (0 : Int32)]) rfl Kz) ?_
                refine jv_Wp.of (jv_Ev.ret jv_i295 rfl rfl) ?_
                rw [hQ]
                have td0 : ¬ zd = 0 := fun z => h1 ((vr_isN (L := L) okd hd11).mp ((hd ()).trans z))
                have td7 : ¬ zd = 7 := fun z => h19 ((vr_is (L := L) 7 (by decide) okd).mp ((hd ()).trans z))
                have ts0 : ¬ zs = 0 := fun z => h20 ((vr_isN (L := L) oks hs11).mp ((hs ()).trans z))
                have ts1 : zs = 1 := (hs ()).symm.trans ((vr_is (L := L) 1 (by decide) oks).mpr h26)
                have t00 : ¬ z0 = 0 := fun z => h27 ((vr_isN (L := L) ok0 (by decide)).mp ((h0 ()).trans z))
                have t01 : ¬ z0 = 1 := fun z => h29 ((vr_is (L := L) 1 (by decide) ok0).mp ((h0 ()).trans z))
                have nx1 : w96 ≤ 0 := (vl_I_le (a := w96) (b := 0) (by omega) (by omega)).mp h31
                exact absurd (show False by omega) (fun z => z)
              · refine jv_Wp.lift (fun _ Kz => jv_Ev.steps jv_i295 1 (pc' := 252) (l' := [(2, .int (vl_I w96)), (3, .int (I 205 (76800 + f.d))), (1, .int (vl_I f.z)), (0, .ref 196)]) (st' := [.int (vl_I w96)]) rfl Kz) ?_
                refine jv_Wp.of (jv_Ev.ret jv_i295 rfl rfl) ?_
                rw [hQ]
                have td0 : ¬ zd = 0 := fun z => h1 ((vr_isN (L := L) okd hd11).mp ((hd ()).trans z))
                have td7 : ¬ zd = 7 := fun z => h19 ((vr_is (L := L) 7 (by decide) okd).mp ((hd ()).trans z))
                have ts0 : ¬ zs = 0 := fun z => h20 ((vr_isN (L := L) oks hs11).mp ((hs ()).trans z))
                have ts1 : zs = 1 := (hs ()).symm.trans ((vr_is (L := L) 1 (by decide) oks).mpr h26)
                have t00 : ¬ z0 = 0 := fun z => h27 ((vr_isN (L := L) ok0 (by decide)).mp ((h0 ()).trans z))
                have t01 : ¬ z0 = 1 := fun z => h29 ((vr_is (L := L) 1 (by decide) ok0).mp ((h0 ()).trans z))
                have nx1 : ¬ w96 ≤ 0 := fun z => h31 ((vl_I_le (a := w96) (b := 0) (by omega) (by omega)).mpr z)
                have e : vx_atp M f (vr_A I L 1024) = (w96, (vr_A I L 1024)) := by
                  by_cases c1 : zd = 0 ∨ zs = 0 ∨ (f.i = 241 ∧ z0 = 0)
                  · rw [show w96 = 1 by omega]; exact vx_at1 (by rw [eD, eS, e0, hd (), hs (), h0 ()]; omega)
                  · rw [show w96 = 3 by omega]; exact vx_at2 (by rw [eD, eS, e0, hd (), hs (), h0 ()]; omega) (by rw [eD, hd ()]; omega)
                exact ⟨_, _, by rw [← eQ, e], fun z => by rw [← eQ, e] at z; exact absurd (show w96 = 0 from z) (by omega), vr_fr_refl hf⟩
        · refine jv_Wp.lift (fun _ Kz => jv_Ev.steps jv_i295 2 (pc' := 205) (l' := [(2, .int (vl_I w83)), (3, .int (I 205 (76800 + f.d))), (1, .int (vl_I f.z)), (0, .ref 196)]) (st' := [.int (6 : Int32), .int (vl_I w83)]) rfl Kz) ?_
          obtain ⟨w98, hq98⟩ : ∃ x : Nat, ∀ _ : Unit, vx_fst w83 6 = x := ⟨_, fun _ => rfl⟩
          have fq98 : (w83 = 0 → w98 = 6) ∧ (6 = 0 → w98 = w83) ∧ (w98 = w83 ∨ w98 = 6) ∧ (w83 ≠ 0 → 6 ≠ 0 → w98 ≤ w83 ∧ w98 ≤ 6) := by rw [← hq98 ()]; exact vx_fst_g w83 6
          have Hf98 := vq_first (I := I) (L := L) (K := K) (R := R) (n := n) (sl := sl) w83 6 (by omega) (by omega)
          rw [hq98 ()] at Hf98
          refine jv_Wp.lift (fun _ Kz => jv_Ev.c jv_i295 (pc' := 208) (S' := [.int (vl_I w98)]) jv_i282 [.int (vl_I w83), .int (6 : Int32)] rfl rfl rfl rfl rfl rfl Hf98 rfl rfl Kz) ?_
          refine jv_Wp.lift (fun _ Kz => jv_Ev.steps jv_i295 3 (pc' := 211) (l' := [(2, .int (vl_I w98)), (3, .int (I 205 (76800 + f.d))), (1, .int (vl_I f.z)), (0, .ref 196)]) (st' := [.ref 196, .int (vl_I w98)]) rfl Kz) ?_
          refine jv_Wp.lift (fun _ Kz => jv_Ev.m jv_i295 (pc' := 214) (st' := [.int (Int32.ofInt f.i), .int (vl_I w98)]) (G' := (jv_H K I L R)) rfl rfl (jv_m_getI (jv_rwK hW 196 12 24 (by decide)) rfl rfl (vr_dJ D)) Kz) ?_
          refine jv_Wp.lift (fun _ Kz => jv_Ev.steps jv_i295 1 (pc' := 217) (l' := [(2, .int (vl_I w98)), (3, .int (I 205 (76800 + f.d))), (1, .int (vl_I f.z)), (0, .ref 196)]) (st' := [.int (241 : Int32), .int (Int32.ofInt f.i), .int (vl_I w98)]) rfl Kz) ?_
          refine jv_Wp.cnd jv_i295 (pt := 242) (pe := 220) (p := (¬ (Int32.ofInt f.i) = (241 : Int32))) (q := (¬ (Int32.ofInt f.i) = (241 : Int32))) rfl jv_bc_ne rfl rfl Iff.rfl (fun hz => absurd hz (fun z => z h241)) (fun _ => ?_)
          refine jv_Wp.lift (fun _ Kz => jv_Ev.steps jv_i295 2 (pc' := 222) (l' := [(2, .int (vl_I w98)), (3, .int (I 205 (76800 + f.d))), (1, .int (vl_I f.z)), (0, .ref 196)]) (st' := [.int (0 : Int32), .ref 196, .int (vl_I w98)]) rfl Kz) ?_
          refine jv_Wp.lift (fun _ Kz => jv_Ev.c jv_i295 (pc' := 225) (S' := [.int (I 205 (76800 + 0)), .int (vl_I w98)]) jv_i271 [.ref 196, .int (0 : Int32)] rfl rfl rfl rfl (jv_cal rfl (jv_H_at (jv_rwK hW 196 12 24 (by decide))) rfl rfl) rfl (vq_sortOf 0 hW (by omega)) rfl rfl Kz) ?_
          refine jv_Wp.cnd jv_i295 (pt := 242) (pe := 228) (p := ((I 205 (76800 + 0)) = 0)) (q := ((I 205 (76800 + 0)) = 0)) rfl jv_bi_eq rfl rfl Iff.rfl (fun h32 => ?_) (fun h32 => ?_)
          · refine jv_Wp.lift (fun _ Kz => jv_Ev.steps jv_i295 1 (pc' := 243) (l' := [(2, .int (vl_I w98)), (3, .int (I 205 (76800 + f.d))), (1, .int (vl_I f.z)), (0, .ref 196)]) (st' := [.int (0 : Int32), .int (vl_I w98)]) rfl Kz) ?_
            obtain ⟨w99, hq99⟩ : ∃ x : Nat, ∀ _ : Unit, vx_fst w98 0 = x := ⟨_, fun _ => rfl⟩
            have fq99 : (w98 = 0 → w99 = 0) ∧ (0 = 0 → w99 = w98) ∧ (w99 = w98 ∨ w99 = 0) ∧ (w98 ≠ 0 → 0 ≠ 0 → w99 ≤ w98 ∧ w99 ≤ 0) := by rw [← hq99 ()]; exact vx_fst_g w98 0
            have Hf99 := vq_first (I := I) (L := L) (K := K) (R := R) (n := n) (sl := sl) w98 0 (by omega) (by omega)
            rw [hq99 ()] at Hf99
            refine jv_Wp.lift (fun _ Kz => jv_Ev.c jv_i295 (pc' := 246) (S' := [.int (vl_I w99)]) jv_i282 [.int (vl_I w98), .int (0 : Int32)] rfl rfl rfl rfl rfl rfl Hf99 rfl rfl Kz) ?_
            refine jv_Wp.lift (fun _ Kz => jv_Ev.steps jv_i295 2 (pc' := 248) (l' := [(2, .int (vl_I w99)), (3, .int (I 205 (76800 + f.d))), (1, .int (vl_I f.z)), (0, .ref 196)]) (st' := [.int (vl_I w99)]) rfl Kz) ?_
            refine jv_Wp.cnd jv_i295 (pt := 253) (pe := 251) (p := ((vl_I w99) ≤ 0)) (q := ((vl_I w99) ≤ 0)) rfl jv_bi_le rfl rfl Iff.rfl (fun h33 => ?_) (fun h33 => ?_)
            · refine jv_Wp.lift (fun _ Kz => jv_Ev.steps jv_i295 1 (pc' := 254) (l' := [(2, .int (vl_I w99)), (3, .int (I 205 (76800 + f.d))), (1, .int (vl_I f.z)), (0, .ref 196)]) (st' := [.ref 196]) rfl Kz) ?_
              refine jv_Wp.lift (fun _ Kz => jv_Ev.m jv_i295 (pc' := 257) (st' := [.int (Int32.ofInt f.i)]) (G' := (jv_H K I L R)) rfl rfl (jv_m_getI (jv_rwK hW 196 12 24 (by decide)) rfl rfl (vr_dJ D)) Kz) ?_
              refine jv_Wp.lift (fun _ Kz => jv_Ev.steps jv_i295 1 (pc' := 260) (l' := [(2, .int (vl_I w99)), (3, .int (I 205 (76800 + f.d))), (1, .int (vl_I f.z)), (0, .ref 196)]) (st' := [.int (241 : Int32), .int (Int32.ofInt f.i)]) rfl Kz) ?_
              refine jv_Wp.cnd jv_i295 (pt := 272) (pe := 263) (p := (¬ (Int32.ofInt f.i) = (241 : Int32))) (q := (¬ (Int32.ofInt f.i) = (241 : Int32))) rfl jv_bc_ne rfl rfl Iff.rfl (fun hz => absurd hz (fun z => z h241)) (fun _ => ?_)
              refine jv_Wp.lift (fun _ Kz => jv_Ev.steps jv_i295 3 (pc' := 266) (l' := [(2, .int (vl_I w99)), (3, .int (I 205 (76800 + f.d))), (1, .int (vl_I f.z)), (0, .ref 196)]) (st' := [.int (vl_I f.z), .int (0 : Int32), .ref 196]) rfl Kz) ?_
              obtain ⟨I100, L100, H100, T100, O100, F100⟩ := vq_setAny (I := I) (L := L) (R := R) (n := n) (sl := sl) 0 f.z hW hf (by omega) hz
              refine jv_Wp.lift (fun _ Kz => jv_Ev.c jv_i295 (pc' := 269) (S' := []) (G1 := (jv_H K I100 L100 R)) jv_i274 [.ref 196, .int (0 : Int32), .int (vl_I f.z)] rfl rfl rfl rfl (jv_cal rfl (jv_H_at (jv_rwK hW 196 12 24 (by decide))) rfl rfl) rfl H100 rfl rfl Kz) ?_
              refine jv_Wp.lift (fun _ Kz => jv_Ev.steps jv_i295 2 (pc' := 292) (l' := [(2, .int (vl_I w99)), (3, .int (I 205 (76800 + f.d))), (1, .int (vl_I f.z)), (0, .ref 196)]) (st' := [.int (0 : Int32)]) rfl Kz) ?_
              refine jv_Wp.of (jv_Ev.ret jv_i295 rfl rfl) ?_
              rw [hQ]
              have td0 : ¬ zd = 0 := fun z => h1 ((vr_isN (L := L) okd hd11).mp ((hd ()).trans z))
              have td7 : ¬ zd = 7 := fun z => h19 ((vr_is (L := L) 7 (by decide) okd).mp ((hd ()).trans z))
              have ts0 : ¬ zs = 0 := fun z => h20 ((vr_isN (L := L) oks hs11).mp ((hs ()).trans z))
              have ts1 : ¬ zs = 1 := fun z => h26 ((vr_is (L := L) 1 (by decide) oks).mp ((hs ()).trans z))
              have t00 : z0 = 0 := (h0 ()).symm.trans ((vr_isN (L := L) ok0 (by decide)).mpr h32)
              have nx1 : w99 ≤ 0 := (vl_I_le (a := w99) (b := 0) (by omega) (by omega)).mp h33
              exact absurd (show False by omega) (fun z => z)
            · refine jv_Wp.lift (fun _ Kz => jv_Ev.steps jv_i295 1 (pc' := 252) (l' := [(2, .int (vl_I w99)), (3, .int (I 205 (76800 + f.d))), (1, .int (vl_I f.z)), (0, .ref 196)]) (st' := [.int (vl_I w99)]) rfl Kz) ?_
              refine jv_Wp.of (jv_Ev.ret jv_i295 rfl rfl) ?_
              rw [hQ]
              have td0 : ¬ zd = 0 := fun z => h1 ((vr_isN (L := L) okd hd11).mp ((hd ()).trans z))
              have td7 : ¬ zd = 7 := fun z => h19 ((vr_is (L := L) 7 (by decide) okd).mp ((hd ()).trans z))
              have ts0 : ¬ zs = 0 := fun z => h20 ((vr_isN (L := L) oks hs11).mp ((hs ()).trans z))
              have ts1 : ¬ zs = 1 := fun z => h26 ((vr_is (L := L) 1 (by decide) oks).mp ((hs ()).trans z))
              have t00 : z0 = 0 := (h0 ()).symm.trans ((vr_isN (L := L) ok0 (by decide)).mpr h32)
              have nx1 : ¬ w99 ≤ 0 := fun z => h33 ((vl_I_le (a := w99) (b := 0) (by omega) (by omega)).mpr z)
              have e : vx_atp M f (vr_A I L 1024) = (w99, (vr_A I L 1024)) := by
                by_cases c1 : zd = 0 ∨ zs = 0 ∨ (f.i = 241 ∧ z0 = 0)
                · rw [show w99 = 1 by omega]; exact vx_at1 (by rw [eD, eS, e0, hd (), hs (), h0 ()]; omega)
                · rw [show w99 = 3 by omega]; exact vx_at2 (by rw [eD, eS, e0, hd (), hs (), h0 ()]; omega) (by rw [eD, hd ()]; omega)
              exact ⟨_, _, by rw [← eQ, e], fun z => by rw [← eQ, e] at z; exact absurd (show w99 = 0 from z) (by omega), vr_fr_refl hf⟩
          · refine jv_Wp.lift (fun _ Kz => jv_Ev.steps jv_i295 2 (pc' := 230) (l' := [(2, .int (vl_I w98)), (3, .int (I 205 (76800 + f.d))), (1, .int (vl_I f.z)), (0, .ref 196)]) (st' := [.int (0 : Int32), .ref 196, .int (vl_I w98)]) rfl Kz) ?_
            refine jv_Wp.lift (fun _ Kz => jv_Ev.c jv_i295 (pc' := 233) (S' := [.int (I 205 (76800 + 0)), .int (vl_I w98)]) jv_i271 [.ref 196, .int (0 : Int32)] rfl rfl rfl rfl (jv_cal rfl (jv_H_at (jv_rwK hW 196 12 24 (by decide))) rfl rfl) rfl (vq_sortOf 0 hW (by omega)) rfl rfl Kz) ?_
            refine jv_Wp.lift (fun _ Kz => jv_Ev.steps jv_i295 1 (pc' := 234) (l' := [(2, .int (vl_I w98)), (3, .int (I 205 (76800 + f.d))), (1, .int (vl_I f.z)), (0, .ref 196)]) (st' := [.int (1 : Int32), .int (I 205 (76800 + 0)), .int (vl_I w98)]) rfl Kz) ?_
            refine jv_Wp.cnd jv_i295 (pt := 242) (pe := 237) (p := ((I 205 (76800 + 0)) = (1 : Int32))) (q := ((I 205 (76800 + 0)) = (1 : Int32))) rfl jv_bc_eq rfl rfl Iff.rfl (fun h34 => ?_) (fun h34 => ?_)
            · refine jv_Wp.lift (fun _ Kz => jv_Ev.steps jv_i295 1 (pc' := 243) (l' := [(2, .int (vl_I w98)), (3, .int (I 205 (76800 + f.d))), (1, .int (vl_I f.z)), (0, .ref 196)]) (st' := [.int (0 : Int32), .int (vl_I w98)]) rfl Kz) ?_
              obtain ⟨w101, hq101⟩ : ∃ x : Nat, ∀ _ : Unit, vx_fst w98 0 = x := ⟨_, fun _ => rfl⟩
              have fq101 : (w98 = 0 → w101 = 0) ∧ (0 = 0 → w101 = w98) ∧ (w101 = w98 ∨ w101 = 0) ∧ (w98 ≠ 0 → 0 ≠ 0 → w101 ≤ w98 ∧ w101 ≤ 0) := by rw [← hq101 ()]; exact vx_fst_g w98 0
              have Hf101 := vq_first (I := I) (L := L) (K := K) (R := R) (n := n) (sl := sl) w98 0 (by omega) (by omega)
              rw [hq101 ()] at Hf101
              refine jv_Wp.lift (fun _ Kz => jv_Ev.c jv_i295 (pc' := 246) (S' := [.int (vl_I w101)]) jv_i282 [.int (vl_I w98), .int (0 : Int32)] rfl rfl rfl rfl rfl rfl Hf101 rfl rfl Kz) ?_
              refine jv_Wp.lift (fun _ Kz => jv_Ev.steps jv_i295 2 (pc' := 248) (l' := [(2, .int (vl_I w101)), (3, .int (I 205 (76800 + f.d))), (1, .int (vl_I f.z)), (0, .ref 196)]) (st' := [.int (vl_I w101)]) rfl Kz) ?_
              refine jv_Wp.cnd jv_i295 (pt := 253) (pe := 251) (p := ((vl_I w101) ≤ 0)) (q := ((vl_I w101) ≤ 0)) rfl jv_bi_le rfl rfl Iff.rfl (fun h35 => ?_) (fun h35 => ?_)
              · refine jv_Wp.lift (fun _ Kz => jv_Ev.steps jv_i295 1 (pc' := 254) (l' := [(2, .int (vl_I w101)), (3, .int (I 205 (76800 + f.d))), (1, .int (vl_I f.z)), (0, .ref 196)]) (st' := [.ref 196]) rfl Kz) ?_
                refine jv_Wp.lift (fun _ Kz => jv_Ev.m jv_i295 (pc' := 257) (st' := [.int (Int32.ofInt f.i)]) (G' := (jv_H K I L R)) rfl rfl (jv_m_getI (jv_rwK hW 196 12 24 (by decide)) rfl rfl (vr_dJ D)) Kz) ?_
                refine jv_Wp.lift (fun _ Kz => jv_Ev.steps jv_i295 1 (pc' := 260) (l' := [(2, .int (vl_I w101)), (3, .int (I 205 (76800 + f.d))), (1, .int (vl_I f.z)), (0, .ref 196)]) (st' := [.int (241 : Int32), .int (Int32.ofInt f.i)]) rfl Kz) ?_
                refine jv_Wp.cnd jv_i295 (pt := 272) (pe := 263) (p := (¬ (Int32.ofInt f.i) = (241 : Int32))) (q := (¬ (Int32.ofInt f.i) = (241 : Int32))) rfl jv_bc_ne rfl rfl Iff.rfl (fun hz => absurd hz (fun z => z h241)) (fun _ => ?_)
                refine jv_Wp.lift (fun _ Kz => jv_Ev.steps jv_i295 3 (pc' := 266) (l' := [(2, .int (vl_I w101)), (3, .int (I 205 (76800 + f.d))), (1, .int (vl_I f.z)), (0, .ref 196)]) (st' := [.int (vl_I f.z), .int (0 : Int32), .ref 196]) rfl Kz) ?_
                obtain ⟨I102, L102, H102, T102, O102, F102⟩ := vq_setAny (I := I) (L := L) (R := R) (n := n) (sl := sl) 0 f.z hW hf (by omega) hz
                refine jv_Wp.lift (fun _ Kz => jv_Ev.c jv_i295 (pc' := 269) (S' := []) (G1 := (jv_H K I102 L102 R)) jv_i274 [.ref 196, .int (0 : Int32), .int (vl_I f.z)] rfl rfl rfl rfl (jv_cal rfl (jv_H_at (jv_rwK hW 196 12 24 (by decide))) rfl rfl) rfl H102 rfl rfl Kz) ?_
                refine jv_Wp.lift (fun _ Kz => jv_Ev.steps jv_i295 2 (pc' := 292) (l' := [(2, .int (vl_I w101)), (3, .int (I 205 (76800 + f.d))), (1, .int (vl_I f.z)), (0, .ref 196)]) (st' := [.int (0 : Int32)]) rfl Kz) ?_
                refine jv_Wp.of (jv_Ev.ret jv_i295 rfl rfl) ?_
                rw [hQ]
                have td0 : ¬ zd = 0 := fun z => h1 ((vr_isN (L := L) okd hd11).mp ((hd ()).trans z))
                have td7 : ¬ zd = 7 := fun z => h19 ((vr_is (L := L) 7 (by decide) okd).mp ((hd ()).trans z))
                have ts0 : ¬ zs = 0 := fun z => h20 ((vr_isN (L := L) oks hs11).mp ((hs ()).trans z))
                have ts1 : ¬ zs = 1 := fun z => h26 ((vr_is (L := L) 1 (by decide) oks).mp ((hs ()).trans z))
                have t00 : ¬ z0 = 0 := fun z => h32 ((vr_isN (L := L) ok0 (by decide)).mp ((h0 ()).trans z))
                have t01 : z0 = 1 := (h0 ()).symm.trans ((vr_is (L := L) 1 (by decide) ok0).mpr h34)
                have nx1 : w101 ≤ 0 := (vl_I_le (a := w101) (b := 0) (by omega) (by omega)).mp h35
                exact absurd (show False by omega) (fun z => z)
              · refine jv_Wp.lift (fun _ Kz => jv_Ev.steps jv_i295 1 (pc' := 252) (l' := [(2, .int (vl_I w101)), (3, .int (I 205 (76800 + f.d))), (1, .int (vl_I f.z)), (0, .ref 196)]) (st' := [.int (vl_I w101)]) rfl Kz) ?_
                refine jv_Wp.of (jv_Ev.ret jv_i295 rfl rfl) ?_
                rw [hQ]
                have td0 : ¬ zd = 0 := fun z => h1 ((vr_isN (L := L) okd hd11).mp ((hd ()).trans z))
                have td7 : ¬ zd = 7 := fun z => h19 ((vr_is (L := L) 7 (by decide) okd).mp ((hd ()).trans z))
                have ts0 : ¬ zs = 0 := fun z => h20 ((vr_isN (L := L) oks hs11).mp ((hs ()).trans z))
                have ts1 : ¬ zs = 1 := fun z => h26 ((vr_is (L := L) 1 (by decide) oks).mp ((hs ()).trans z))
                have t00 : ¬ z0 = 0 := fun z => h32 ((vr_isN (L := L) ok0 (by decide)).mp ((h0 ()).trans z))
                have t01 : z0 = 1 := (h0 ()).symm.trans ((vr_is (L := L) 1 (by decide) ok0).mpr h34)
                have nx1 : ¬ w101 ≤ 0 := fun z => h35 ((vl_I_le (a := w101) (b := 0) (by omega) (by omega)).mpr z)
                have e : vx_atp M f (vr_A I L 1024) = (w101, (vr_A I L 1024)) := by
                  by_cases c1 : zd = 0 ∨ zs = 0 ∨ (f.i = 241 ∧ z0 = 0)
                  · rw [show w101 = 1 by omega]; exact vx_at1 (by rw [eD, eS, e0, hd (), hs (), h0 ()]; omega)
                  · rw [show w101 = 3 by omega]; exact vx_at2 (by rw [eD, eS, e0, hd (), hs (), h0 ()]; omega) (by rw [eD, hd ()]; omega)
                exact ⟨_, _, by rw [← eQ, e], fun z => by rw [← eQ, e] at z; exact absurd (show w101 = 0 from z) (by omega), vr_fr_refl hf⟩
            · refine jv_Wp.lift (fun _ Kz => jv_Ev.steps jv_i295 2 (pc' := 243) (l' := [(2, .int (vl_I w98)), (3, .int (I 205 (76800 + f.d))), (1, .int (vl_I f.z)), (0, .ref 196)]) (st' := [.int (6 : Int32), .int (vl_I w98)]) rfl Kz) ?_
              obtain ⟨w103, hq103⟩ : ∃ x : Nat, ∀ _ : Unit, vx_fst w98 6 = x := ⟨_, fun _ => rfl⟩
              have fq103 : (w98 = 0 → w103 = 6) ∧ (6 = 0 → w103 = w98) ∧ (w103 = w98 ∨ w103 = 6) ∧ (w98 ≠ 0 → 6 ≠ 0 → w103 ≤ w98 ∧ w103 ≤ 6) := by rw [← hq103 ()]; exact vx_fst_g w98 6
              have Hf103 := vq_first (I := I) (L := L) (K := K) (R := R) (n := n) (sl := sl) w98 6 (by omega) (by omega)
              rw [hq103 ()] at Hf103
              refine jv_Wp.lift (fun _ Kz => jv_Ev.c jv_i295 (pc' := 246) (S' := [.int (vl_I w103)]) jv_i282 [.int (vl_I w98), .int (6 : Int32)] rfl rfl rfl rfl rfl rfl Hf103 rfl rfl Kz) ?_
              refine jv_Wp.lift (fun _ Kz => jv_Ev.steps jv_i295 2 (pc' := 248) (l' := [(2, .int (vl_I w103)), (3, .int (I 205 (76800 + f.d))), (1, .int (vl_I f.z)), (0, .ref 196)]) (st' := [.int (vl_I w103)]) rfl Kz) ?_
              refine jv_Wp.cnd jv_i295 (pt := 253) (pe := 251) (p := ((vl_I w103) ≤ 0)) (q := ((vl_I w103) ≤ 0)) rfl jv_bi_le rfl rfl Iff.rfl (fun h36 => ?_) (fun h36 => ?_)
              · refine jv_Wp.lift (fun _ Kz => jv_Ev.steps jv_i295 1 (pc' := 254) (l' := [(2, .int (vl_I w103)), (3, .int (I 205 (76800 + f.d))), (1, .int (vl_I f.z)), (0, .ref 196)]) (st' := [.ref 196]) rfl Kz) ?_
                refine jv_Wp.lift (fun _ Kz => jv_Ev.m jv_i295 (pc' := 257) (st' := [.int (Int32.ofInt f.i)]) (G' := (jv_H K I L R)) rfl rfl (jv_m_getI (jv_rwK hW 196 12 24 (by decide)) rfl rfl (vr_dJ D)) Kz) ?_
                refine jv_Wp.lift (fun _ Kz => jv_Ev.steps jv_i295 1 (pc' := 260) (l' := [(2, .int (vl_I w103)), (3, .int (I 205 (76800 + f.d))), (1, .int (vl_I f.z)), (0, .ref 196)]) (st' := [.int (241 : Int32), .int (Int32.ofInt f.i)]) rfl Kz) ?_
                refine jv_Wp.cnd jv_i295 (pt := 272) (pe := 263) (p := (¬ (Int32.ofInt f.i) = (241 : Int32))) (q := (¬ (Int32.ofInt f.i) = (241 : Int32))) rfl jv_bc_ne rfl rfl Iff.rfl (fun hz => absurd hz (fun z => z h241)) (fun _ => ?_)
                refine jv_Wp.lift (fun _ Kz => jv_Ev.steps jv_i295 3 (pc' := 266) (l' := [(2, .int (vl_I w103)), (3, .int (I 205 (76800 + f.d))), (1, .int (vl_I f.z)), (0, .ref 196)]) (st' := [.int (vl_I f.z), .int (0 : Int32), .ref 196]) rfl Kz) ?_
                obtain ⟨I104, L104, H104, T104, O104, F104⟩ := vq_setAny (I := I) (L := L) (R := R) (n := n) (sl := sl) 0 f.z hW hf (by omega) hz
                refine jv_Wp.lift (fun _ Kz => jv_Ev.c jv_i295 (pc' := 269) (S' := []) (G1 := (jv_H K I104 L104 R)) jv_i274 [.ref 196, .int (0 : Int32), .int (vl_I f.z)] rfl rfl rfl rfl (jv_cal rfl (jv_H_at (jv_rwK hW 196 12 24 (by decide))) rfl rfl) rfl H104 rfl rfl Kz) ?_
                refine jv_Wp.lift (fun _ Kz => jv_Ev.steps jv_i295 2 (pc' := 292) (l' := [(2, .int (vl_I w103)), (3, .int (I 205 (76800 + f.d))), (1, .int (vl_I f.z)), (0, .ref 196)]) (st' := [.int (0 : Int32)]) rfl Kz) ?_
                refine jv_Wp.of (jv_Ev.ret jv_i295 rfl rfl) ?_
                rw [hQ]
                have td0 : ¬ zd = 0 := fun z => h1 ((vr_isN (L := L) okd hd11).mp ((hd ()).trans z))
                have td7 : ¬ zd = 7 := fun z => h19 ((vr_is (L := L) 7 (by decide) okd).mp ((hd ()).trans z))
                have ts0 : ¬ zs = 0 := fun z => h20 ((vr_isN (L := L) oks hs11).mp ((hs ()).trans z))
                have ts1 : ¬ zs = 1 := fun z => h26 ((vr_is (L := L) 1 (by decide) oks).mp ((hs ()).trans z))
                have t00 : ¬ z0 = 0 := fun z => h32 ((vr_isN (L := L) ok0 (by decide)).mp ((h0 ()).trans z))
                have t01 : ¬ z0 = 1 := fun z => h34 ((vr_is (L := L) 1 (by decide) ok0).mp ((h0 ()).trans z))
                have nx1 : w103 ≤ 0 := (vl_I_le (a := w103) (b := 0) (by omega) (by omega)).mp h36
                exact absurd (show False by omega) (fun z => z)
              · refine jv_Wp.lift (fun _ Kz => jv_Ev.steps jv_i295 1 (pc' := 252) (l' := [(2, .int (vl_I w103)), (3, .int (I 205 (76800 + f.d))), (1, .int (vl_I f.z)), (0, .ref 196)]) (st' := [.int (vl_I w103)]) rfl Kz) ?_
                refine jv_Wp.of (jv_Ev.ret jv_i295 rfl rfl) ?_
                rw [hQ]
                have td0 : ¬ zd = 0 := fun z => h1 ((vr_isN (L := L) okd hd11).mp ((hd ()).trans z))
                have td7 : ¬ zd = 7 := fun z => h19 ((vr_is (L := L) 7 (by decide) okd).mp ((hd ()).trans z))
                have ts0 : ¬ zs = 0 := fun z => h20 ((vr_isN (L := L) oks hs11).mp ((hs ()).trans z))
                have ts1 : ¬ zs = 1 := fun z => h26 ((vr_is (L := L) 1 (by decide) oks).mp ((hs ()).trans z))
                have t00 : ¬ z0 = 0 := fun z => h32 ((vr_isN (L := L) ok0 (by decide)).mp ((h0 ()).trans z))
                have t01 : ¬ z0 = 1 := fun z => h34 ((vr_is (L := L) 1 (by decide) ok0).mp ((h0 ()).trans z))
                have nx1 : ¬ w103 ≤ 0 := fun z => h36 ((vl_I_le (a := w103) (b := 0) (by omega) (by omega)).mpr z)
                have e : vx_atp M f (vr_A I L 1024) = (w103, (vr_A I L 1024)) := by
                  by_cases c1 : zd = 0 ∨ zs = 0 ∨ (f.i = 241 ∧ z0 = 0)
                  · rw [show w103 = 1 by omega]; exact vx_at1 (by rw [eD, eS, e0, hd (), hs (), h0 ()]; omega)
                  · rw [show w103 = 3 by omega]; exact vx_at2 (by rw [eD, eS, e0, hd (), hs (), h0 ()]; omega) (by rw [eD, hd ()]; omega)
                exact ⟨_, _, by rw [← eQ, e], fun z => by rw [← eQ, e] at z; exact absurd (show w103 = 0 from z) (by omega), vr_fr_refl hf⟩
    · refine jv_Wp.lift (fun _ Kz => jv_Ev.steps jv_i295 2 (pc' := 74) (l' := [(3, .int (I 205 (76800 + f.d))), (2, .int (vl_I w60)), (1, .int (vl_I f.z)), (0, .ref 196)]) (st' := [.int (0 : Int32), .int (vl_I w60)]) rfl Kz) ?_
      obtain ⟨w105, hq105⟩ : ∃ x : Nat, ∀ _ : Unit, vx_fst w60 0 = x := ⟨_, fun _ => rfl⟩
      have fq105 : (w60 = 0 → w105 = 0) ∧ (0 = 0 → w105 = w60) ∧ (w105 = w60 ∨ w105 = 0) ∧ (w60 ≠ 0 → 0 ≠ 0 → w105 ≤ w60 ∧ w105 ≤ 0) := by rw [← hq105 ()]; exact vx_fst_g w60 0
      have Hf105 := vq_first (I := I) (L := L) (K := K) (R := R) (n := n) (sl := sl) w60 0 (by omega) (by omega)
      rw [hq105 ()] at Hf105
      refine jv_Wp.lift (fun _ Kz => jv_Ev.c jv_i295 (pc' := 77) (S' := [.int (vl_I w105)]) jv_i282 [.int (vl_I w60), .int (0 : Int32)] rfl rfl rfl rfl rfl rfl Hf105 rfl rfl Kz) ?_
      refine jv_Wp.lift (fun _ Kz => jv_Ev.steps jv_i295 3 (pc' := 81) (l' := [(2, .int (vl_I w105)), (3, .int (I 205 (76800 + f.d))), (1, .int (vl_I f.z)), (0, .ref 196)]) (st' := [.int (7 : Int32), .int (I 205 (76800 + f.d))]) rfl Kz) ?_
      refine jv_Wp.cnd jv_i295 (pt := 175) (pe := 84) (p := (¬ (I 205 (76800 + f.d)) = (7 : Int32))) (q := (¬ (I 205 (76800 + f.d)) = (7 : Int32))) rfl jv_bc_ne rfl rfl Iff.rfl (fun hz => absurd hz (fun z => z (Classical.not_not.mp h19))) (fun _ => ?_)
      refine jv_Wp.lift (fun _ Kz => jv_Ev.steps jv_i295 2 (pc' := 88) (l' := [(2, .int (vl_I w105)), (3, .int (I 205 (76800 + f.d))), (1, .int (vl_I f.z)), (0, .ref 196)]) (st' := [.ref 196, .int (1024 : Int32)]) rfl Kz) ?_
      refine jv_Wp.lift (fun _ Kz => jv_Ev.m jv_i295 (pc' := 91) (st' := [.int (vl_I f.d), .int (1024 : Int32)]) (G' := (jv_H K I L R)) rfl rfl (jv_m_getI (jv_rwK hW 196 12 24 (by decide)) rfl rfl D.2.1) Kz) ?_
      refine jv_Wp.lift (fun _ Kz => jv_Ev.c jv_i295 (pc' := 94) (S' := [.int (vl_I (8 + (76800 + f.d)))]) jv_i254 [.int (1024 : Int32), .int (vl_I f.d)] rfl rfl rfl rfl rfl rfl (vq_row 1024 f.d) rfl rfl Kz) ?_
      refine jv_Wp.lift (fun _ Kz => jv_Ev.steps jv_i295 7 (pc' := 103) (l' := [(5, .long ((vl_I f.z).toInt64 - (1 : Int64))), (4, .int (vl_I (8 + (76800 + f.d)))), (2, .int (vl_I w105)), (3, .int (I 205 (76800 + f.d))), (1, .int (vl_I f.z)), (0, .ref 196)]) (st' := [.ref 196]) rfl Kz) ?_
      refine jv_Wp.lift (fun _ Kz => jv_Ev.m jv_i295 (pc' := 106) (st' := [.ref 208]) (G' := (jv_H K I L R)) rfl rfl (jv_m_getR (jv_rwK hW 196 12 24 (by decide)) rfl rfl (jv_rwR hW 196 16 208 (by decide))) Kz) ?_
      refine jv_Wp.lift (fun _ Kz => jv_Ev.m jv_i295 (pc' := 109) (st' := [.ref 210]) (G' := (jv_H K I L R)) rfl rfl (jv_m_getR (jv_rwK hW 208 11 7 (by decide)) rfl rfl (jv_rwR hW 208 1 210 (by decide))) Kz) ?_
      refine jv_Wp.lift (fun _ Kz => jv_Ev.steps jv_i295 1 (pc' := 111) (l' := [(5, .long ((vl_I f.z).toInt64 - (1 : Int64))), (4, .int (vl_I (8 + (76800 + f.d)))), (2, .int (vl_I w105)), (3, .int (I 205 (76800 + f.d))), (1, .int (vl_I f.z)), (0, .ref 196)]) (st' := [.int (vl_I (8 + (76800 + f.d))), .ref 210]) rfl Kz) ?_
      refine jv_Wp.lift (fun _ Kz => jv_Ev.m jv_i295 (pc' := 112) (st' := [.long (L 210 (8 + (76800 + f.d)))]) (G' := (jv_H K I L R)) rfl rfl (jv_m_laldv (jv_rwK hW 210 103 77200 (by decide)) rfl (vl_I_ix (by omega) (by decide)) rfl ((congrArg (L 210) (vl_I_nat (by omega))).trans rfl)) Kz) ?_
      refine jv_Wp.lift (fun _ Kz => jv_Ev.steps jv_i295 4 (pc' := 117) (l' := [(5, .long ((vl_I f.z).toInt64 - (1 : Int64))), (4, .int (vl_I (8 + (76800 + f.d)))), (2, .int (vl_I w105)), (3, .int (I 205 (76800 + f.d))), (1, .int (vl_I f.z)), (0, .ref 196)]) (st' := [.int (lg_cmp ((L 210 (8 + (76800 + f.d))) &&& ((vl_I f.z).toInt64 - (1 : Int64))) (0 : Int64))]) rfl Kz) ?_
      refine jv_Wp.cnd jv_i295 (pt := 148) (pe := 120) (p := (¬ (lg_cmp ((L 210 (8 + (76800 + f.d))) &&& ((vl_I f.z).toInt64 - (1 : Int64))) (0 : Int64)) = 0)) (q := (¬ ((L 210 (8 + (76800 + f.d))) &&& ((vl_I f.z).toInt64 - (1 : Int64))) = (0 : Int64))) rfl jv_bi_ne rfl rfl (not_congr (lg_cmp_eq ((L 210 (8 + (76800 + f.d))) &&& ((vl_I f.z).toInt64 - (1 : Int64))) (0 : Int64))) (fun h37 => ?_) (fun h37 => ?_)
      · refine jv_Wp.lift (fun _ Kz => jv_Ev.steps jv_i295 4 (pc' := 154) (l' := [(7, .int (0 : Int32)), (5, .long ((vl_I f.z).toInt64 - (1 : Int64))), (4, .int (vl_I (8 + (76800 + f.d)))), (2, .int (vl_I w105)), (3, .int (I 205 (76800 + f.d))), (1, .int (vl_I f.z)), (0, .ref 196)]) (st' := [.int (0 : Int32), .int (vl_I w105)]) rfl Kz) ?_
        refine jv_Wp.lift (fun _ Kz => jv_Ev.br jv_i295 (pc' := 170) (st' := [.int (vl_I w105)]) rfl (by rfl) Kz) ?_
        refine jv_Wp.lift (fun _ Kz => jv_Ev.steps jv_i295 1 (pc' := 171) (l' := [(7, .int (0 : Int32)), (5, .long ((vl_I f.z).toInt64 - (1 : Int64))), (4, .int (vl_I (8 + (76800 + f.d)))), (2, .int (vl_I w105)), (3, .int (I 205 (76800 + f.d))), (1, .int (vl_I f.z)), (0, .ref 196)]) (st' := [.int (4 : Int32), .int (vl_I w105)]) rfl Kz) ?_
        obtain ⟨w106, hq106⟩ : ∃ x : Nat, ∀ _ : Unit, vx_fst w105 4 = x := ⟨_, fun _ => rfl⟩
        have fq106 : (w105 = 0 → w106 = 4) ∧ (4 = 0 → w106 = w105) ∧ (w106 = w105 ∨ w106 = 4) ∧ (w105 ≠ 0 → 4 ≠ 0 → w106 ≤ w105 ∧ w106 ≤ 4) := by rw [← hq106 ()]; exact vx_fst_g w105 4
        have Hf106 := vq_first (I := I) (L := L) (K := K) (R := R) (n := n) (sl := sl) w105 4 (by omega) (by omega)
        rw [hq106 ()] at Hf106
        refine jv_Wp.lift (fun _ Kz => jv_Ev.c jv_i295 (pc' := 174) (S' := [.int (vl_I w106)]) jv_i282 [.int (vl_I w105), .int (4 : Int32)] rfl rfl rfl rfl rfl rfl Hf106 rfl rfl Kz) ?_
        refine jv_Wp.lift (fun _ Kz => jv_Ev.steps jv_i295 4 (pc' := 178) (l' := [(2, .int (vl_I w106)), (7, .int (0 : Int32)), (5, .long ((vl_I f.z).toInt64 - (1 : Int64))), (4, .int (vl_I (8 + (76800 + f.d)))), (3, .int (I 205 (76800 + f.d))), (1, .int (vl_I f.z)), (0, .ref 196)]) (st' := [.ref 196, .ref 196, .int (vl_I w106)]) rfl Kz) ?_
        refine jv_Wp.lift (fun _ Kz => jv_Ev.m jv_i295 (pc' := 181) (st' := [.int (vl_I f.s), .ref 196, .int (vl_I w106)]) (G' := (jv_H K I L R)) rfl rfl (jv_m_getI (jv_rwK hW 196 12 24 (by decide)) rfl rfl D.2.2.1) Kz) ?_
        refine jv_Wp.lift (fun _ Kz => jv_Ev.c jv_i295 (pc' := 184) (S' := [.int (I 205 (76800 + f.s)), .int (vl_I w106)]) jv_i271 [.ref 196, .int (vl_I f.s)] rfl rfl rfl rfl (jv_cal rfl (jv_H_at (jv_rwK hW 196 12 24 (by decide))) rfl rfl) rfl (vq_sortOf f.s hW (by omega)) rfl rfl Kz) ?_
        refine jv_Wp.cnd jv_i295 (pt := 204) (pe := 187) (p := ((I 205 (76800 + f.s)) = 0)) (q := ((I 205 (76800 + f.s)) = 0)) rfl jv_bi_eq rfl rfl Iff.rfl (fun h38 => ?_) (fun h38 => ?_)
        · refine jv_Wp.lift (fun _ Kz => jv_Ev.steps jv_i295 1 (pc' := 205) (l' := [(2, .int (vl_I w106)), (7, .int (0 : Int32)), (5, .long ((vl_I f.z).toInt64 - (1 : Int64))), (4, .int (vl_I (8 + (76800 + f.d)))), (3, .int (I 205 (76800 + f.d))), (1, .int (vl_I f.z)), (0, .ref 196)]) (st' := [.int (0 : Int32), .int (vl_I w106)]) rfl Kz) ?_
          obtain ⟨w107, hq107⟩ : ∃ x : Nat, ∀ _ : Unit, vx_fst w106 0 = x := ⟨_, fun _ => rfl⟩
          have fq107 : (w106 = 0 → w107 = 0) ∧ (0 = 0 → w107 = w106) ∧ (w107 = w106 ∨ w107 = 0) ∧ (w106 ≠ 0 → 0 ≠ 0 → w107 ≤ w106 ∧ w107 ≤ 0) := by rw [← hq107 ()]; exact vx_fst_g w106 0
          have Hf107 := vq_first (I := I) (L := L) (K := K) (R := R) (n := n) (sl := sl) w106 0 (by omega) (by omega)
          rw [hq107 ()] at Hf107
          refine jv_Wp.lift (fun _ Kz => jv_Ev.c jv_i295 (pc' := 208) (S' := [.int (vl_I w107)]) jv_i282 [.int (vl_I w106), .int (0 : Int32)] rfl rfl rfl rfl rfl rfl Hf107 rfl rfl Kz) ?_
          refine jv_Wp.lift (fun _ Kz => jv_Ev.steps jv_i295 3 (pc' := 211) (l' := [(2, .int (vl_I w107)), (7, .int (0 : Int32)), (5, .long ((vl_I f.z).toInt64 - (1 : Int64))), (4, .int (vl_I (8 + (76800 + f.d)))), (3, .int (I 205 (76800 + f.d))), (1, .int (vl_I f.z)), (0, .ref 196)]) (st' := [.ref 196, .int (vl_I w107)]) rfl Kz) ?_
          refine jv_Wp.lift (fun _ Kz => jv_Ev.m jv_i295 (pc' := 214) (st' := [.int (Int32.ofInt f.i), .int (vl_I w107)]) (G' := (jv_H K I L R)) rfl rfl (jv_m_getI (jv_rwK hW 196 12 24 (by decide)) rfl rfl (vr_dJ D)) Kz) ?_
          refine jv_Wp.lift (fun _ Kz => jv_Ev.steps jv_i295 1 (pc' := 217) (l' := [(2, .int (vl_I w107)), (7, .int (0 : Int32)), (5, .long ((vl_I f.z).toInt64 - (1 : Int64))), (4, .int (vl_I (8 + (76800 + f.d)))), (3, .int (I 205 (76800 + f.d))), (1, .int (vl_I f.z)), (0, .ref 196)]) (st' := [.int (241 : Int32), .int (Int32.ofInt f.i), .int (vl_I w107)]) rfl Kz) ?_
          refine jv_Wp.cnd jv_i295 (pt := 242) (pe := 220) (p := (¬ (Int32.ofInt f.i) = (241 : Int32))) (q := (¬ (Int32.ofInt f.i) = (241 : Int32))) rfl jv_bc_ne rfl rfl Iff.rfl (fun hz => absurd hz (fun z => z h241)) (fun _ => ?_)
          refine jv_Wp.lift (fun _ Kz => jv_Ev.steps jv_i295 2 (pc' := 222) (l' := [(2, .int (vl_I w107)), (7, .int (0 : Int32)), (5, .long ((vl_I f.z).toInt64 - (1 : Int64))), (4, .int (vl_I (8 + (76800 + f.d)))), (3, .int (I 205 (76800 + f.d))), (1, .int (vl_I f.z)), (0, .ref 196)]) (st' := [.int (0 : Int32), .ref 196, .int (vl_I w107)]) rfl Kz) ?_
          refine jv_Wp.lift (fun _ Kz => jv_Ev.c jv_i295 (pc' := 225) (S' := [.int (I 205 (76800 + 0)), .int (vl_I w107)]) jv_i271 [.ref 196, .int (0 : Int32)] rfl rfl rfl rfl (jv_cal rfl (jv_H_at (jv_rwK hW 196 12 24 (by decide))) rfl rfl) rfl (vq_sortOf 0 hW (by omega)) rfl rfl Kz) ?_
          refine jv_Wp.cnd jv_i295 (pt := 242) (pe := 228) (p := ((I 205 (76800 + 0)) = 0)) (q := ((I 205 (76800 + 0)) = 0)) rfl jv_bi_eq rfl rfl Iff.rfl (fun h39 => ?_) (fun h39 => ?_)
          · refine jv_Wp.lift (fun _ Kz => jv_Ev.steps jv_i295 1 (pc' := 243) (l' := [(2, .int (vl_I w107)), (7, .int (0 : Int32)), (5, .long ((vl_I f.z).toInt64 - (1 : Int64))), (4, .int (vl_I (8 + (76800 + f.d)))), (3, .int (I 205 (76800 + f.d))), (1, .int (vl_I f.z)), (0, .ref 196)]) (st' := [.int (0 : Int32), .int (vl_I w107)]) rfl Kz) ?_
            obtain ⟨w108, hq108⟩ : ∃ x : Nat, ∀ _ : Unit, vx_fst w107 0 = x := ⟨_, fun _ => rfl⟩
            have fq108 : (w107 = 0 → w108 = 0) ∧ (0 = 0 → w108 = w107) ∧ (w108 = w107 ∨ w108 = 0) ∧ (w107 ≠ 0 → 0 ≠ 0 → w108 ≤ w107 ∧ w108 ≤ 0) := by rw [← hq108 ()]; exact vx_fst_g w107 0
            have Hf108 := vq_first (I := I) (L := L) (K := K) (R := R) (n := n) (sl := sl) w107 0 (by omega) (by omega)
            rw [hq108 ()] at Hf108
            refine jv_Wp.lift (fun _ Kz => jv_Ev.c jv_i295 (pc' := 246) (S' := [.int (vl_I w108)]) jv_i282 [.int (vl_I w107), .int (0 : Int32)] rfl rfl rfl rfl rfl rfl Hf108 rfl rfl Kz) ?_
            refine jv_Wp.lift (fun _ Kz => jv_Ev.steps jv_i295 2 (pc' := 248) (l' := [(2, .int (vl_I w108)), (7, .int (0 : Int32)), (5, .long ((vl_I f.z).toInt64 - (1 : Int64))), (4, .int (vl_I (8 + (76800 + f.d)))), (3, .int (I 205 (76800 + f.d))), (1, .int (vl_I f.z)), (0, .ref 196)]) (st' := [.int (vl_I w108)]) rfl Kz) ?_
            refine jv_Wp.cnd jv_i295 (pt := 253) (pe := 251) (p := ((vl_I w108) ≤ 0)) (q := ((vl_I w108) ≤ 0)) rfl jv_bi_le rfl rfl Iff.rfl (fun h40 => ?_) (fun h40 => ?_)
            · refine jv_Wp.lift (fun _ Kz => jv_Ev.steps jv_i295 1 (pc' := 254) (l' := [(2, .int (vl_I w108)), (7, .int (0 : Int32)), (5, .long ((vl_I f.z).toInt64 - (1 : Int64))), (4, .int (vl_I (8 + (76800 + f.d)))), (3, .int (I 205 (76800 + f.d))), (1, .int (vl_I f.z)), (0, .ref 196)]) (st' := [.ref 196]) rfl Kz) ?_
              refine jv_Wp.lift (fun _ Kz => jv_Ev.m jv_i295 (pc' := 257) (st' := [.int (Int32.ofInt f.i)]) (G' := (jv_H K I L R)) rfl rfl (jv_m_getI (jv_rwK hW 196 12 24 (by decide)) rfl rfl (vr_dJ D)) Kz) ?_
              refine jv_Wp.lift (fun _ Kz => jv_Ev.steps jv_i295 1 (pc' := 260) (l' := [(2, .int (vl_I w108)), (7, .int (0 : Int32)), (5, .long ((vl_I f.z).toInt64 - (1 : Int64))), (4, .int (vl_I (8 + (76800 + f.d)))), (3, .int (I 205 (76800 + f.d))), (1, .int (vl_I f.z)), (0, .ref 196)]) (st' := [.int (241 : Int32), .int (Int32.ofInt f.i)]) rfl Kz) ?_
              refine jv_Wp.cnd jv_i295 (pt := 272) (pe := 263) (p := (¬ (Int32.ofInt f.i) = (241 : Int32))) (q := (¬ (Int32.ofInt f.i) = (241 : Int32))) rfl jv_bc_ne rfl rfl Iff.rfl (fun hz => absurd hz (fun z => z h241)) (fun _ => ?_)
              refine jv_Wp.lift (fun _ Kz => jv_Ev.steps jv_i295 3 (pc' := 266) (l' := [(2, .int (vl_I w108)), (7, .int (0 : Int32)), (5, .long ((vl_I f.z).toInt64 - (1 : Int64))), (4, .int (vl_I (8 + (76800 + f.d)))), (3, .int (I 205 (76800 + f.d))), (1, .int (vl_I f.z)), (0, .ref 196)]) (st' := [.int (vl_I f.z), .int (0 : Int32), .ref 196]) rfl Kz) ?_
              obtain ⟨I109, L109, H109, T109, O109, F109⟩ := vq_setAny (I := I) (L := L) (R := R) (n := n) (sl := sl) 0 f.z hW hf (by omega) hz
              refine jv_Wp.lift (fun _ Kz => jv_Ev.c jv_i295 (pc' := 269) (S' := []) (G1 := (jv_H K I109 L109 R)) jv_i274 [.ref 196, .int (0 : Int32), .int (vl_I f.z)] rfl rfl rfl rfl (jv_cal rfl (jv_H_at (jv_rwK hW 196 12 24 (by decide))) rfl rfl) rfl H109 rfl rfl Kz) ?_
              refine jv_Wp.lift (fun _ Kz => jv_Ev.steps jv_i295 2 (pc' := 292) (l' := [(2, .int (vl_I w108)), (7, .int (0 : Int32)), (5, .long ((vl_I f.z).toInt64 - (1 : Int64))), (4, .int (vl_I (8 + (76800 + f.d)))), (3, .int (I 205 (76800 + f.d))), (1, .int (vl_I f.z)), (0, .ref 196)]) (st' := [.int (0 : Int32)]) rfl Kz) ?_
              refine jv_Wp.of (jv_Ev.ret jv_i295 rfl rfl) ?_
              rw [hQ]
              have td0 : ¬ zd = 0 := fun z => h1 ((vr_isN (L := L) okd hd11).mp ((hd ()).trans z))
              have td7 : zd = 7 := (hd ()).symm.trans ((vr_is (L := L) 7 (by decide) okd).mpr (Classical.not_not.mp h19))
              have ts0 : zs = 0 := (hs ()).symm.trans ((vr_isN (L := L) oks hs11).mpr h38)
              have t00 : z0 = 0 := (h0 ()).symm.trans ((vr_isN (L := L) ok0 (by decide)).mpr h39)
              have nx1 : w108 ≤ 0 := (vl_I_le (a := w108) (b := 0) (by omega) (by omega)).mp h40
              have ev : vx_even (vr_T I L (76800 + f.d)).val f.o f.z = false := by rw [vr_valv (by rw [(vr_is (L := L) 7 (by decide) okd).mp ((hd ()).trans (by omega))]; rfl), ← vr_dO D, vx_even_r hz]; exact (by rw [decide_eq_false h37]; rfl)
              have r7 := vx_r7' (M := M) (A := (vr_A I L 1024)) (o := f.o) (z := f.z) (w := true) ((hd ()).trans (show zd = 7 by omega))
              rw [hrr ()] at r7
              exact absurd (show False by omega) (fun z => z)
            · refine jv_Wp.lift (fun _ Kz => jv_Ev.steps jv_i295 1 (pc' := 252) (l' := [(2, .int (vl_I w108)), (7, .int (0 : Int32)), (5, .long ((vl_I f.z).toInt64 - (1 : Int64))), (4, .int (vl_I (8 + (76800 + f.d)))), (3, .int (I 205 (76800 + f.d))), (1, .int (vl_I f.z)), (0, .ref 196)]) (st' := [.int (vl_I w108)]) rfl Kz) ?_
              refine jv_Wp.of (jv_Ev.ret jv_i295 rfl rfl) ?_
              rw [hQ]
              have td0 : ¬ zd = 0 := fun z => h1 ((vr_isN (L := L) okd hd11).mp ((hd ()).trans z))
              have td7 : zd = 7 := (hd ()).symm.trans ((vr_is (L := L) 7 (by decide) okd).mpr (Classical.not_not.mp h19))
              have ts0 : zs = 0 := (hs ()).symm.trans ((vr_isN (L := L) oks hs11).mpr h38)
              have t00 : z0 = 0 := (h0 ()).symm.trans ((vr_isN (L := L) ok0 (by decide)).mpr h39)
              have nx1 : ¬ w108 ≤ 0 := fun z => h40 ((vl_I_le (a := w108) (b := 0) (by omega) (by omega)).mpr z)
              have ev : vx_even (vr_T I L (76800 + f.d)).val f.o f.z = false := by rw [vr_valv (by rw [(vr_is (L := L) 7 (by decide) okd).mp ((hd ()).trans (by omega))]; rfl), ← vr_dO D, vx_even_r hz]; exact (by rw [decide_eq_false h37]; rfl)
              have r7 := vx_r7' (M := M) (A := (vr_A I L 1024)) (o := f.o) (z := f.z) (w := true) ((hd ()).trans (show zd = 7 by omega))
              rw [hrr ()] at r7
              have e : vx_atp M f (vr_A I L 1024) = (w108, (vr_A I L 1024)) := by
                by_cases c1 : zd = 0 ∨ zs = 0 ∨ (f.i = 241 ∧ z0 = 0)
                · rw [show w108 = 1 by omega]; exact vx_at1 (by rw [eD, eS, e0, hd (), hs (), h0 ()]; omega)
                · rw [show w108 = 4 by omega]; exact vx_at3 (by rw [eD, eS, e0, hd (), hs (), h0 ()]; omega) (by rw [eD, hd ()]; omega) (Or.inl (by rw [eD]; exact ev))
              exact ⟨_, _, by rw [← eQ, e], fun z => by rw [← eQ, e] at z; exact absurd (show w108 = 0 from z) (by omega), vr_fr_refl hf⟩
          · refine jv_Wp.lift (fun _ Kz => jv_Ev.steps jv_i295 2 (pc' := 230) (l' := [(2, .int (vl_I w107)), (7, .int (0 : Int32)), (5, .long ((vl_I f.z).toInt64 - (1 : Int64))), (4, .int (vl_I (8 + (76800 + f.d)))), (3, .int (I 205 (76800 + f.d))), (1, .int (vl_I f.z)), (0, .ref 196)]) (st' := [.int (0 : Int32), .ref 196, .int (vl_I w107)]) rfl Kz) ?_
            refine jv_Wp.lift (fun _ Kz => jv_Ev.c jv_i295 (pc' := 233) (S' := [.int (I 205 (76800 + 0)), .int (vl_I w107)]) jv_i271 [.ref 196, .int (0 : Int32)] rfl rfl rfl rfl (jv_cal rfl (jv_H_at (jv_rwK hW 196 12 24 (by decide))) rfl rfl) rfl (vq_sortOf 0 hW (by omega)) rfl rfl Kz) ?_
            refine jv_Wp.lift (fun _ Kz => jv_Ev.steps jv_i295 1 (pc' := 234) (l' := [(2, .int (vl_I w107)), (7, .int (0 : Int32)), (5, .long ((vl_I f.z).toInt64 - (1 : Int64))), (4, .int (vl_I (8 + (76800 + f.d)))), (3, .int (I 205 (76800 + f.d))), (1, .int (vl_I f.z)), (0, .ref 196)]) (st' := [.int (1 : Int32), .int (I 205 (76800 + 0)), .int (vl_I w107)]) rfl Kz) ?_
            refine jv_Wp.cnd jv_i295 (pt := 242) (pe := 237) (p := ((I 205 (76800 + 0)) = (1 : Int32))) (q := ((I 205 (76800 + 0)) = (1 : Int32))) rfl jv_bc_eq rfl rfl Iff.rfl (fun h41 => ?_) (fun h41 => ?_)
            · refine jv_Wp.lift (fun _ Kz => jv_Ev.steps jv_i295 1 (pc' := 243) (l' := [(2, .int (vl_I w107)), (7, .int (0 : Int32)), (5, .long ((vl_I f.z).toInt64 - (1 : Int64))), (4, .int (vl_I (8 + (76800 + f.d)))), (3, .int (I 205 (76800 + f.d))), (1, .int (vl_I f.z)), (0, .ref 196)]) (st' := [.int (0 : Int32), .int (vl_I w107)]) rfl Kz) ?_
              obtain ⟨w110, hq110⟩ : ∃ x : Nat, ∀ _ : Unit, vx_fst w107 0 = x := ⟨_, fun _ => rfl⟩
              have fq110 : (w107 = 0 → w110 = 0) ∧ (0 = 0 → w110 = w107) ∧ (w110 = w107 ∨ w110 = 0) ∧ (w107 ≠ 0 → 0 ≠ 0 → w110 ≤ w107 ∧ w110 ≤ 0) := by rw [← hq110 ()]; exact vx_fst_g w107 0
              have Hf110 := vq_first (I := I) (L := L) (K := K) (R := R) (n := n) (sl := sl) w107 0 (by omega) (by omega)
              rw [hq110 ()] at Hf110
              refine jv_Wp.lift (fun _ Kz => jv_Ev.c jv_i295 (pc' := 246) (S' := [.int (vl_I w110)]) jv_i282 [.int (vl_I w107), .int (0 : Int32)] rfl rfl rfl rfl rfl rfl Hf110 rfl rfl Kz) ?_
              refine jv_Wp.lift (fun _ Kz => jv_Ev.steps jv_i295 2 (pc' := 248) (l' := [(2, .int (vl_I w110)), (7, .int (0 : Int32)), (5, .long ((vl_I f.z).toInt64 - (1 : Int64))), (4, .int (vl_I (8 + (76800 + f.d)))), (3, .int (I 205 (76800 + f.d))), (1, .int (vl_I f.z)), (0, .ref 196)]) (st' := [.int (vl_I w110)]) rfl Kz) ?_
              refine jv_Wp.cnd jv_i295 (pt := 253) (pe := 251) (p := ((vl_I w110) ≤ 0)) (q := ((vl_I w110) ≤ 0)) rfl jv_bi_le rfl rfl Iff.rfl (fun h42 => ?_) (fun h42 => ?_)
              · refine jv_Wp.lift (fun _ Kz => jv_Ev.steps jv_i295 1 (pc' := 254) (l' := [(2, .int (vl_I w110)), (7, .int (0 : Int32)), (5, .long ((vl_I f.z).toInt64 - (1 : Int64))), (4, .int (vl_I (8 + (76800 + f.d)))), (3, .int (I 205 (76800 + f.d))), (1, .int (vl_I f.z)), (0, .ref 196)]) (st' := [.ref 196]) rfl Kz) ?_
                refine jv_Wp.lift (fun _ Kz => jv_Ev.m jv_i295 (pc' := 257) (st' := [.int (Int32.ofInt f.i)]) (G' := (jv_H K I L R)) rfl rfl (jv_m_getI (jv_rwK hW 196 12 24 (by decide)) rfl rfl (vr_dJ D)) Kz) ?_
                refine jv_Wp.lift (fun _ Kz => jv_Ev.steps jv_i295 1 (pc' := 260) (l' := [(2, .int (vl_I w110)), (7, .int (0 : Int32)), (5, .long ((vl_I f.z).toInt64 - (1 : Int64))), (4, .int (vl_I (8 + (76800 + f.d)))), (3, .int (I 205 (76800 + f.d))), (1, .int (vl_I f.z)), (0, .ref 196)]) (st' := [.int (241 : Int32), .int (Int32.ofInt f.i)]) rfl Kz) ?_
                refine jv_Wp.cnd jv_i295 (pt := 272) (pe := 263) (p := (¬ (Int32.ofInt f.i) = (241 : Int32))) (q := (¬ (Int32.ofInt f.i) = (241 : Int32))) rfl jv_bc_ne rfl rfl Iff.rfl (fun hz => absurd hz (fun z => z h241)) (fun _ => ?_)
                refine jv_Wp.lift (fun _ Kz => jv_Ev.steps jv_i295 3 (pc' := 266) (l' := [(2, .int (vl_I w110)), (7, .int (0 : Int32)), (5, .long ((vl_I f.z).toInt64 - (1 : Int64))), (4, .int (vl_I (8 + (76800 + f.d)))), (3, .int (I 205 (76800 + f.d))), (1, .int (vl_I f.z)), (0, .ref 196)]) (st' := [.int (vl_I f.z), .int (0 : Int32), .ref 196]) rfl Kz) ?_
                obtain ⟨I111, L111, H111, T111, O111, F111⟩ := vq_setAny (I := I) (L := L) (R := R) (n := n) (sl := sl) 0 f.z hW hf (by omega) hz
                refine jv_Wp.lift (fun _ Kz => jv_Ev.c jv_i295 (pc' := 269) (S' := []) (G1 := (jv_H K I111 L111 R)) jv_i274 [.ref 196, .int (0 : Int32), .int (vl_I f.z)] rfl rfl rfl rfl (jv_cal rfl (jv_H_at (jv_rwK hW 196 12 24 (by decide))) rfl rfl) rfl H111 rfl rfl Kz) ?_
                refine jv_Wp.lift (fun _ Kz => jv_Ev.steps jv_i295 2 (pc' := 292) (l' := [(2, .int (vl_I w110)), (7, .int (0 : Int32)), (5, .long ((vl_I f.z).toInt64 - (1 : Int64))), (4, .int (vl_I (8 + (76800 + f.d)))), (3, .int (I 205 (76800 + f.d))), (1, .int (vl_I f.z)), (0, .ref 196)]) (st' := [.int (0 : Int32)]) rfl Kz) ?_
                refine jv_Wp.of (jv_Ev.ret jv_i295 rfl rfl) ?_
                rw [hQ]
                have td0 : ¬ zd = 0 := fun z => h1 ((vr_isN (L := L) okd hd11).mp ((hd ()).trans z))
                have td7 : zd = 7 := (hd ()).symm.trans ((vr_is (L := L) 7 (by decide) okd).mpr (Classical.not_not.mp h19))
                have ts0 : zs = 0 := (hs ()).symm.trans ((vr_isN (L := L) oks hs11).mpr h38)
                have t00 : ¬ z0 = 0 := fun z => h39 ((vr_isN (L := L) ok0 (by decide)).mp ((h0 ()).trans z))
                have t01 : z0 = 1 := (h0 ()).symm.trans ((vr_is (L := L) 1 (by decide) ok0).mpr h41)
                have nx1 : w110 ≤ 0 := (vl_I_le (a := w110) (b := 0) (by omega) (by omega)).mp h42
                have ev : vx_even (vr_T I L (76800 + f.d)).val f.o f.z = false := by rw [vr_valv (by rw [(vr_is (L := L) 7 (by decide) okd).mp ((hd ()).trans (by omega))]; rfl), ← vr_dO D, vx_even_r hz]; exact (by rw [decide_eq_false h37]; rfl)
                have r7 := vx_r7' (M := M) (A := (vr_A I L 1024)) (o := f.o) (z := f.z) (w := true) ((hd ()).trans (show zd = 7 by omega))
                rw [hrr ()] at r7
                exact absurd (show False by omega) (fun z => z)
              · refine jv_Wp.lift (fun _ Kz => jv_Ev.steps jv_i295 1 (pc' := 252) (l' := [(2, .int (vl_I w110)), (7, .int (0 : Int32)), (5, .long ((vl_I f.z).toInt64 - (1 : Int64))), (4, .int (vl_I (8 + (76800 + f.d)))), (3, .int (I 205 (76800 + f.d))), (1, .int (vl_I f.z)), (0, .ref 196)]) (st' := [.int (vl_I w110)]) rfl Kz) ?_
                refine jv_Wp.of (jv_Ev.ret jv_i295 rfl rfl) ?_
                rw [hQ]
                have td0 : ¬ zd = 0 := fun z => h1 ((vr_isN (L := L) okd hd11).mp ((hd ()).trans z))
                have td7 : zd = 7 := (hd ()).symm.trans ((vr_is (L := L) 7 (by decide) okd).mpr (Classical.not_not.mp h19))
                have ts0 : zs = 0 := (hs ()).symm.trans ((vr_isN (L := L) oks hs11).mpr h38)
                have t00 : ¬ z0 = 0 := fun z => h39 ((vr_isN (L := L) ok0 (by decide)).mp ((h0 ()).trans z))
                have t01 : z0 = 1 := (h0 ()).symm.trans ((vr_is (L := L) 1 (by decide) ok0).mpr h41)
                have nx1 : ¬ w110 ≤ 0 := fun z => h42 ((vl_I_le (a := w110) (b := 0) (by omega) (by omega)).mpr z)
                have ev : vx_even (vr_T I L (76800 + f.d)).val f.o f.z = false := by rw [vr_valv (by rw [(vr_is (L := L) 7 (by decide) okd).mp ((hd ()).trans (by omega))]; rfl), ← vr_dO D, vx_even_r hz]; exact (by rw [decide_eq_false h37]; rfl)
                have r7 := vx_r7' (M := M) (A := (vr_A I L 1024)) (o := f.o) (z := f.z) (w := true) ((hd ()).trans (show zd = 7 by omega))
                rw [hrr ()] at r7
                have e : vx_atp M f (vr_A I L 1024) = (w110, (vr_A I L 1024)) := by
                  by_cases c1 : zd = 0 ∨ zs = 0 ∨ (f.i = 241 ∧ z0 = 0)
                  · rw [show w110 = 1 by omega]; exact vx_at1 (by rw [eD, eS, e0, hd (), hs (), h0 ()]; omega)
                  · rw [show w110 = 4 by omega]; exact vx_at3 (by rw [eD, eS, e0, hd (), hs (), h0 ()]; omega) (by rw [eD, hd ()]; omega) (Or.inl (by rw [eD]; exact ev))
                exact ⟨_, _, by rw [← eQ, e], fun z => by rw [← eQ, e] at z; exact absurd (show w110 = 0 from z) (by omega), vr_fr_refl hf⟩
            · refine jv_Wp.lift (fun _ Kz => jv_Ev.steps jv_i295 2 (pc' := 243) (l' := [(2, .int (vl_I w107)), (7, .int (0 : Int32)), (5, .long ((vl_I f.z).toInt64 - (1 : Int64))), (4, .int (vl_I (8 + (76800 + f.d)))), (3, .int (I 205 (76800 + f.d))), (1, .int (vl_I f.z)), (0, .ref 196)]) (st' := [.int (6 : Int32), .int (vl_I w107)]) rfl Kz) ?_
              obtain ⟨w112, hq112⟩ : ∃ x : Nat, ∀ _ : Unit, vx_fst w107 6 = x := ⟨_, fun _ => rfl⟩
              have fq112 : (w107 = 0 → w112 = 6) ∧ (6 = 0 → w112 = w107) ∧ (w112 = w107 ∨ w112 = 6) ∧ (w107 ≠ 0 → 6 ≠ 0 → w112 ≤ w107 ∧ w112 ≤ 6) := by rw [← hq112 ()]; exact vx_fst_g w107 6
              have Hf112 := vq_first (I := I) (L := L) (K := K) (R := R) (n := n) (sl := sl) w107 6 (by omega) (by omega)
              rw [hq112 ()] at Hf112
              refine jv_Wp.lift (fun _ Kz => jv_Ev.c jv_i295 (pc' := 246) (S' := [.int (vl_I w112)]) jv_i282 [.int (vl_I w107), .int (6 : Int32)] rfl rfl rfl rfl rfl rfl Hf112 rfl rfl Kz) ?_
              refine jv_Wp.lift (fun _ Kz => jv_Ev.steps jv_i295 2 (pc' := 248) (l' := [(2, .int (vl_I w112)), (7, .int (0 : Int32)), (5, .long ((vl_I f.z).toInt64 - (1 : Int64))), (4, .int (vl_I (8 + (76800 + f.d)))), (3, .int (I 205 (76800 + f.d))), (1, .int (vl_I f.z)), (0, .ref 196)]) (st' := [.int (vl_I w112)]) rfl Kz) ?_
              refine jv_Wp.cnd jv_i295 (pt := 253) (pe := 251) (p := ((vl_I w112) ≤ 0)) (q := ((vl_I w112) ≤ 0)) rfl jv_bi_le rfl rfl Iff.rfl (fun h43 => ?_) (fun h43 => ?_)
              · refine jv_Wp.lift (fun _ Kz => jv_Ev.steps jv_i295 1 (pc' := 254) (l' := [(2, .int (vl_I w112)), (7, .int (0 : Int32)), (5, .long ((vl_I f.z).toInt64 - (1 : Int64))), (4, .int (vl_I (8 + (76800 + f.d)))), (3, .int (I 205 (76800 + f.d))), (1, .int (vl_I f.z)), (0, .ref 196)]) (st' := [.ref 196]) rfl Kz) ?_
                refine jv_Wp.lift (fun _ Kz => jv_Ev.m jv_i295 (pc' := 257) (st' := [.int (Int32.ofInt f.i)]) (G' := (jv_H K I L R)) rfl rfl (jv_m_getI (jv_rwK hW 196 12 24 (by decide)) rfl rfl (vr_dJ D)) Kz) ?_
                refine jv_Wp.lift (fun _ Kz => jv_Ev.steps jv_i295 1 (pc' := 260) (l' := [(2, .int (vl_I w112)), (7, .int (0 : Int32)), (5, .long ((vl_I f.z).toInt64 - (1 : Int64))), (4, .int (vl_I (8 + (76800 + f.d)))), (3, .int (I 205 (76800 + f.d))), (1, .int (vl_I f.z)), (0, .ref 196)]) (st' := [.int (241 : Int32), .int (Int32.ofInt f.i)]) rfl Kz) ?_
                refine jv_Wp.cnd jv_i295 (pt := 272) (pe := 263) (p := (¬ (Int32.ofInt f.i) = (241 : Int32))) (q := (¬ (Int32.ofInt f.i) = (241 : Int32))) rfl jv_bc_ne rfl rfl Iff.rfl (fun hz => absurd hz (fun z => z h241)) (fun _ => ?_)
                refine jv_Wp.lift (fun _ Kz => jv_Ev.steps jv_i295 3 (pc' := 266) (l' := [(2, .int (vl_I w112)), (7, .int (0 : Int32)), (5, .long ((vl_I f.z).toInt64 - (1 : Int64))), (4, .int (vl_I (8 + (76800 + f.d)))), (3, .int (I 205 (76800 + f.d))), (1, .int (vl_I f.z)), (0, .ref 196)]) (st' := [.int (vl_I f.z), .int (0 : Int32), .ref 196]) rfl Kz) ?_
                obtain ⟨I113, L113, H113, T113, O113, F113⟩ := vq_setAny (I := I) (L := L) (R := R) (n := n) (sl := sl) 0 f.z hW hf (by omega) hz
                refine jv_Wp.lift (fun _ Kz => jv_Ev.c jv_i295 (pc' := 269) (S' := []) (G1 := (jv_H K I113 L113 R)) jv_i274 [.ref 196, .int (0 : Int32), .int (vl_I f.z)] rfl rfl rfl rfl (jv_cal rfl (jv_H_at (jv_rwK hW 196 12 24 (by decide))) rfl rfl) rfl H113 rfl rfl Kz) ?_
                refine jv_Wp.lift (fun _ Kz => jv_Ev.steps jv_i295 2 (pc' := 292) (l' := [(2, .int (vl_I w112)), (7, .int (0 : Int32)), (5, .long ((vl_I f.z).toInt64 - (1 : Int64))), (4, .int (vl_I (8 + (76800 + f.d)))), (3, .int (I 205 (76800 + f.d))), (1, .int (vl_I f.z)), (0, .ref 196)]) (st' := [.int (0 : Int32)]) rfl Kz) ?_
                refine jv_Wp.of (jv_Ev.ret jv_i295 rfl rfl) ?_
                rw [hQ]
                have td0 : ¬ zd = 0 := fun z => h1 ((vr_isN (L := L) okd hd11).mp ((hd ()).trans z))
                have td7 : zd = 7 := (hd ()).symm.trans ((vr_is (L := L) 7 (by decide) okd).mpr (Classical.not_not.mp h19))
                have ts0 : zs = 0 := (hs ()).symm.trans ((vr_isN (L := L) oks hs11).mpr h38)
                have t00 : ¬ z0 = 0 := fun z => h39 ((vr_isN (L := L) ok0 (by decide)).mp ((h0 ()).trans z))
                have t01 : ¬ z0 = 1 := fun z => h41 ((vr_is (L := L) 1 (by decide) ok0).mp ((h0 ()).trans z))
                have nx1 : w112 ≤ 0 := (vl_I_le (a := w112) (b := 0) (by omega) (by omega)).mp h43
                have ev : vx_even (vr_T I L (76800 + f.d)).val f.o f.z = false := by rw [vr_valv (by rw [(vr_is (L := L) 7 (by decide) okd).mp ((hd ()).trans (by omega))]; rfl), ← vr_dO D, vx_even_r hz]; exact (by rw [decide_eq_false h37]; rfl)
                have r7 := vx_r7' (M := M) (A := (vr_A I L 1024)) (o := f.o) (z := f.z) (w := true) ((hd ()).trans (show zd = 7 by omega))
                rw [hrr ()] at r7
                exact absurd (show False by omega) (fun z => z)
              · refine jv_Wp.lift (fun _ Kz => jv_Ev.steps jv_i295 1 (pc' := 252) (l' := [(2, .int (vl_I w112)), (7, .int (0 : Int32)), (5, .long ((vl_I f.z).toInt64 - (1 : Int64))), (4, .int (vl_I (8 + (76800 + f.d)))), (3, .int (I 205 (76800 + f.d))), (1, .int (vl_I f.z)), (0, .ref 196)]) (st' := [.int (vl_I w112)]) rfl Kz) ?_
                refine jv_Wp.of (jv_Ev.ret jv_i295 rfl rfl) ?_
                rw [hQ]
                have td0 : ¬ zd = 0 := fun z => h1 ((vr_isN (L := L) okd hd11).mp ((hd ()).trans z))
                have td7 : zd = 7 := (hd ()).symm.trans ((vr_is (L := L) 7 (by decide) okd).mpr (Classical.not_not.mp h19))
                have ts0 : zs = 0 := (hs ()).symm.trans ((vr_isN (L := L) oks hs11).mpr h38)
                have t00 : ¬ z0 = 0 := fun z => h39 ((vr_isN (L := L) ok0 (by decide)).mp ((h0 ()).trans z))
                have t01 : ¬ z0 = 1 := fun z => h41 ((vr_is (L := L) 1 (by decide) ok0).mp ((h0 ()).trans z))
                have nx1 : ¬ w112 ≤ 0 := fun z => h43 ((vl_I_le (a := w112) (b := 0) (by omega) (by omega)).mpr z)
                have ev : vx_even (vr_T I L (76800 + f.d)).val f.o f.z = false := by rw [vr_valv (by rw [(vr_is (L := L) 7 (by decide) okd).mp ((hd ()).trans (by omega))]; rfl), ← vr_dO D, vx_even_r hz]; exact (by rw [decide_eq_false h37]; rfl)
                have r7 := vx_r7' (M := M) (A := (vr_A I L 1024)) (o := f.o) (z := f.z) (w := true) ((hd ()).trans (show zd = 7 by omega))
                rw [hrr ()] at r7
                have e : vx_atp M f (vr_A I L 1024) = (w112, (vr_A I L 1024)) := by
                  by_cases c1 : zd = 0 ∨ zs = 0 ∨ (f.i = 241 ∧ z0 = 0)
                  · rw [show w112 = 1 by omega]; exact vx_at1 (by rw [eD, eS, e0, hd (), hs (), h0 ()]; omega)
                  · rw [show w112 = 4 by omega]; exact vx_at3 (by rw [eD, eS, e0, hd (), hs (), h0 ()]; omega) (by rw [eD, hd ()]; omega) (Or.inl (by rw [eD]; exact ev))
                exact ⟨_, _, by rw [← eQ, e], fun z => by rw [← eQ, e] at z; exact absurd (show w112 = 0 from z) (by omega), vr_fr_refl hf⟩
        · refine jv_Wp.lift (fun _ Kz => jv_Ev.steps jv_i295 2 (pc' := 189) (l' := [(2, .int (vl_I w106)), (7, .int (0 : Int32)), (5, .long ((vl_I f.z).toInt64 - (1 : Int64))), (4, .int (vl_I (8 + (76800 + f.d)))), (3, .int (I 205 (76800 + f.d))), (1, .int (vl_I f.z)), (0, .ref 196)]) (st' := [.ref 196, .ref 196, .int (vl_I w106)]) rfl Kz) ?_
          refine jv_Wp.lift (fun _ Kz => jv_Ev.m jv_i295 (pc' := 192) (st' := [.int (vl_I f.s), .ref 196, .int (vl_I w106)]) (G' := (jv_H K I L R)) rfl rfl (jv_m_getI (jv_rwK hW 196 12 24 (by decide)) rfl rfl D.2.2.1) Kz) ?_
          refine jv_Wp.lift (fun _ Kz => jv_Ev.c jv_i295 (pc' := 195) (S' := [.int (I 205 (76800 + f.s)), .int (vl_I w106)]) jv_i271 [.ref 196, .int (vl_I f.s)] rfl rfl rfl rfl (jv_cal rfl (jv_H_at (jv_rwK hW 196 12 24 (by decide))) rfl rfl) rfl (vq_sortOf f.s hW (by omega)) rfl rfl Kz) ?_
          refine jv_Wp.lift (fun _ Kz => jv_Ev.steps jv_i295 1 (pc' := 196) (l' := [(2, .int (vl_I w106)), (7, .int (0 : Int32)), (5, .long ((vl_I f.z).toInt64 - (1 : Int64))), (4, .int (vl_I (8 + (76800 + f.d)))), (3, .int (I 205 (76800 + f.d))), (1, .int (vl_I f.z)), (0, .ref 196)]) (st' := [.int (1 : Int32), .int (I 205 (76800 + f.s)), .int (vl_I w106)]) rfl Kz) ?_
          refine jv_Wp.cnd jv_i295 (pt := 204) (pe := 199) (p := ((I 205 (76800 + f.s)) = (1 : Int32))) (q := ((I 205 (76800 + f.s)) = (1 : Int32))) rfl jv_bc_eq rfl rfl Iff.rfl (fun h44 => ?_) (fun h44 => ?_)
          · refine jv_Wp.lift (fun _ Kz => jv_Ev.steps jv_i295 1 (pc' := 205) (l' := [(2, .int (vl_I w106)), (7, .int (0 : Int32)), (5, .long ((vl_I f.z).toInt64 - (1 : Int64))), (4, .int (vl_I (8 + (76800 + f.d)))), (3, .int (I 205 (76800 + f.d))), (1, .int (vl_I f.z)), (0, .ref 196)]) (st' := [.int (0 : Int32), .int (vl_I w106)]) rfl Kz) ?_
            obtain ⟨w114, hq114⟩ : ∃ x : Nat, ∀ _ : Unit, vx_fst w106 0 = x := ⟨_, fun _ => rfl⟩
            have fq114 : (w106 = 0 → w114 = 0) ∧ (0 = 0 → w114 = w106) ∧ (w114 = w106 ∨ w114 = 0) ∧ (w106 ≠ 0 → 0 ≠ 0 → w114 ≤ w106 ∧ w114 ≤ 0) := by rw [← hq114 ()]; exact vx_fst_g w106 0
            have Hf114 := vq_first (I := I) (L := L) (K := K) (R := R) (n := n) (sl := sl) w106 0 (by omega) (by omega)
            rw [hq114 ()] at Hf114
            refine jv_Wp.lift (fun _ Kz => jv_Ev.c jv_i295 (pc' := 208) (S' := [.int (vl_I w114)]) jv_i282 [.int (vl_I w106), .int (0 : Int32)] rfl rfl rfl rfl rfl rfl Hf114 rfl rfl Kz) ?_
            refine jv_Wp.lift (fun _ Kz => jv_Ev.steps jv_i295 3 (pc' := 211) (l' := [(2, .int (vl_I w114)), (7, .int (0 : Int32)), (5, .long ((vl_I f.z).toInt64 - (1 : Int64))), (4, .int (vl_I (8 + (76800 + f.d)))), (3, .int (I 205 (76800 + f.d))), (1, .int (vl_I f.z)), (0, .ref 196)]) (st' := [.ref 196, .int (vl_I w114)]) rfl Kz) ?_
            refine jv_Wp.lift (fun _ Kz => jv_Ev.m jv_i295 (pc' := 214) (st' := [.int (Int32.ofInt f.i), .int (vl_I w114)]) (G' := (jv_H K I L R)) rfl rfl (jv_m_getI (jv_rwK hW 196 12 24 (by decide)) rfl rfl (vr_dJ D)) Kz) ?_
            refine jv_Wp.lift (fun _ Kz => jv_Ev.steps jv_i295 1 (pc' := 217) (l' := [(2, .int (vl_I w114)), (7, .int (0 : Int32)), (5, .long ((vl_I f.z).toInt64 - (1 : Int64))), (4, .int (vl_I (8 + (76800 + f.d)))), (3, .int (I 205 (76800 + f.d))), (1, .int (vl_I f.z)), (0, .ref 196)]) (st' := [.int (241 : Int32), .int (Int32.ofInt f.i), .int (vl_I w114)]) rfl Kz) ?_
            refine jv_Wp.cnd jv_i295 (pt := 242) (pe := 220) (p := (¬ (Int32.ofInt f.i) = (241 : Int32))) (q := (¬ (Int32.ofInt f.i) = (241 : Int32))) rfl jv_bc_ne rfl rfl Iff.rfl (fun hz => absurd hz (fun z => z h241)) (fun _ => ?_)
            refine jv_Wp.lift (fun _ Kz => jv_Ev.steps jv_i295 2 (pc' := 222) (l' := [(2, .int (vl_I w114)), (7, .int (0 : Int32)), (5, .long ((vl_I f.z).toInt64 - (1 : Int64))), (4, .int (vl_I (8 + (76800 + f.d)))), (3, .int (I 205 (76800 + f.d))), (1, .int (vl_I f.z)), (0, .ref 196)]) (st' := [.int (0 : Int32), .ref 196, .int (vl_I w114)]) rfl Kz) ?_
            refine jv_Wp.lift (fun _ Kz => jv_Ev.c jv_i295 (pc' := 225) (S' := [.int (I 205 (76800 + 0)), .int (vl_I w114)]) jv_i271 [.ref 196, .int (0 : Int32)] rfl rfl rfl rfl (jv_cal rfl (jv_H_at (jv_rwK hW 196 12 24 (by decide))) rfl rfl) rfl (vq_sortOf 0 hW (by omega)) rfl rfl Kz) ?_
            refine jv_Wp.cnd jv_i295 (pt := 242) (pe := 228) (p := ((I 205 (76800 + 0)) = 0)) (q := ((I 205 (76800 + 0)) = 0)) rfl jv_bi_eq rfl rfl Iff.rfl (fun h45 => ?_) (fun h45 => ?_)
            · refine jv_Wp.lift (fun _ Kz => jv_Ev.steps jv_i295 1 (pc' := 243) (l' := [(2, .int (vl_I w114)), (7, .int (0 : Int32)), (5, .long ((vl_I f.z).toInt64 - (1 : Int64))), (4, .int (vl_I (8 + (76800 + f.d)))), (3, .int (I 205 (76800 + f.d))), (1, .int (vl_I f.z)), (0, .ref 196)]) (st' := [.int (0 : Int32), .int (vl_I w114)]) rfl Kz) ?_
              obtain ⟨w115, hq115⟩ : ∃ x : Nat, ∀ _ : Unit, vx_fst w114 0 = x := ⟨_, fun _ => rfl⟩
              have fq115 : (w114 = 0 → w115 = 0) ∧ (0 = 0 → w115 = w114) ∧ (w115 = w114 ∨ w115 = 0) ∧ (w114 ≠ 0 → 0 ≠ 0 → w115 ≤ w114 ∧ w115 ≤ 0) := by rw [← hq115 ()]; exact vx_fst_g w114 0
              have Hf115 := vq_first (I := I) (L := L) (K := K) (R := R) (n := n) (sl := sl) w114 0 (by omega) (by omega)
              rw [hq115 ()] at Hf115
              refine jv_Wp.lift (fun _ Kz => jv_Ev.c jv_i295 (pc' := 246) (S' := [.int (vl_I w115)]) jv_i282 [.int (vl_I w114), .int (0 : Int32)] rfl rfl rfl rfl rfl rfl Hf115 rfl rfl Kz) ?_
              refine jv_Wp.lift (fun _ Kz => jv_Ev.steps jv_i295 2 (pc' := 248) (l' := [(2, .int (vl_I w115)), (7, .int (0 : Int32)), (5, .long ((vl_I f.z).toInt64 - (1 : Int64))), (4, .int (vl_I (8 + (76800 + f.d)))), (3, .int (I 205 (76800 + f.d))), (1, .int (vl_I f.z)), (0, .ref 196)]) (st' := [.int (vl_I w115)]) rfl Kz) ?_
              refine jv_Wp.cnd jv_i295 (pt := 253) (pe := 251) (p := ((vl_I w115) ≤ 0)) (q := ((vl_I w115) ≤ 0)) rfl jv_bi_le rfl rfl Iff.rfl (fun h46 => ?_) (fun h46 => ?_)
              · refine jv_Wp.lift (fun _ Kz => jv_Ev.steps jv_i295 1 (pc' := 254) (l' := [(2, .int (vl_I w115)), (7, .int (0 : Int32)), (5, .long ((vl_I f.z).toInt64 - (1 : Int64))), (4, .int (vl_I (8 + (76800 + f.d)))), (3, .int (I 205 (76800 + f.d))), (1, .int (vl_I f.z)), (0, .ref 196)]) (st' := [.ref 196]) rfl Kz) ?_
                refine jv_Wp.lift (fun _ Kz => jv_Ev.m jv_i295 (pc' := 257) (st' := [.int (Int32.ofInt f.i)]) (G' := (jv_H K I L R)) rfl rfl (jv_m_getI (jv_rwK hW 196 12 24 (by decide)) rfl rfl (vr_dJ D)) Kz) ?_
                refine jv_Wp.lift (fun _ Kz => jv_Ev.steps jv_i295 1 (pc' := 260) (l' := [(2, .int (vl_I w115)), (7, .int (0 : Int32)), (5, .long ((vl_I f.z).toInt64 - (1 : Int64))), (4, .int (vl_I (8 + (76800 + f.d)))), (3, .int (I 205 (76800 + f.d))), (1, .int (vl_I f.z)), (0, .ref 196)]) (st' := [.int (241 : Int32), .int (Int32.ofInt f.i)]) rfl Kz) ?_
                refine jv_Wp.cnd jv_i295 (pt := 272) (pe := 263) (p := (¬ (Int32.ofInt f.i) = (241 : Int32))) (q := (¬ (Int32.ofInt f.i) = (241 : Int32))) rfl jv_bc_ne rfl rfl Iff.rfl (fun hz => absurd hz (fun z => z h241)) (fun _ => ?_)
                refine jv_Wp.lift (fun _ Kz => jv_Ev.steps jv_i295 3 (pc' := 266) (l' := [(2, .int (vl_I w115)), (7, .int (0 : Int32)), (5, .long ((vl_I f.z).toInt64 - (1 : Int64))), (4, .int (vl_I (8 + (76800 + f.d)))), (3, .int (I 205 (76800 + f.d))), (1, .int (vl_I f.z)), (0, .ref 196)]) (st' := [.int (vl_I f.z), .int (0 : Int32), .ref 196]) rfl Kz) ?_
                obtain ⟨I116, L116, H116, T116, O116, F116⟩ := vq_setAny (I := I) (L := L) (R := R) (n := n) (sl := sl) 0 f.z hW hf (by omega) hz
                refine jv_Wp.lift (fun _ Kz => jv_Ev.c jv_i295 (pc' := 269) (S' := []) (G1 := (jv_H K I116 L116 R)) jv_i274 [.ref 196, .int (0 : Int32), .int (vl_I f.z)] rfl rfl rfl rfl (jv_cal rfl (jv_H_at (jv_rwK hW 196 12 24 (by decide))) rfl rfl) rfl H116 rfl rfl Kz) ?_
                refine jv_Wp.lift (fun _ Kz => jv_Ev.steps jv_i295 2 (pc' := 292) (l' := [(2, .int (vl_I w115)), (7, .int (0 : Int32)), (5, .long ((vl_I f.z).toInt64 - (1 : Int64))), (4, .int (vl_I (8 + (76800 + f.d)))), (3, .int (I 205 (76800 + f.d))), (1, .int (vl_I f.z)), (0, .ref 196)]) (st' := [.int (0 : Int32)]) rfl Kz) ?_
                refine jv_Wp.of (jv_Ev.ret jv_i295 rfl rfl) ?_
                rw [hQ]
                have td0 : ¬ zd = 0 := fun z => h1 ((vr_isN (L := L) okd hd11).mp ((hd ()).trans z))
                have td7 : zd = 7 := (hd ()).symm.trans ((vr_is (L := L) 7 (by decide) okd).mpr (Classical.not_not.mp h19))
                have ts0 : ¬ zs = 0 := fun z => h38 ((vr_isN (L := L) oks hs11).mp ((hs ()).trans z))
                have ts1 : zs = 1 := (hs ()).symm.trans ((vr_is (L := L) 1 (by decide) oks).mpr h44)
                have t00 : z0 = 0 := (h0 ()).symm.trans ((vr_isN (L := L) ok0 (by decide)).mpr h45)
                have nx1 : w115 ≤ 0 := (vl_I_le (a := w115) (b := 0) (by omega) (by omega)).mp h46
                have ev : vx_even (vr_T I L (76800 + f.d)).val f.o f.z = false := by rw [vr_valv (by rw [(vr_is (L := L) 7 (by decide) okd).mp ((hd ()).trans (by omega))]; rfl), ← vr_dO D, vx_even_r hz]; exact (by rw [decide_eq_false h37]; rfl)
                have r7 := vx_r7' (M := M) (A := (vr_A I L 1024)) (o := f.o) (z := f.z) (w := true) ((hd ()).trans (show zd = 7 by omega))
                rw [hrr ()] at r7
                exact absurd (show False by omega) (fun z => z)
              · refine jv_Wp.lift (fun _ Kz => jv_Ev.steps jv_i295 1 (pc' := 252) (l' := [(2, .int (vl_I w115)), (7, .int (0 : Int32)), (5, .long ((vl_I f.z).toInt64 - (1 : Int64))), (4, .int (vl_I (8 + (76800 + f.d)))), (3, .int (I 205 (76800 + f.d))), (1, .int (vl_I f.z)), (0, .ref 196)]) (st' := [.int (vl_I w115)]) rfl Kz) ?_
                refine jv_Wp.of (jv_Ev.ret jv_i295 rfl rfl) ?_
                rw [hQ]
                have td0 : ¬ zd = 0 := fun z => h1 ((vr_isN (L := L) okd hd11).mp ((hd ()).trans z))
                have td7 : zd = 7 := (hd ()).symm.trans ((vr_is (L := L) 7 (by decide) okd).mpr (Classical.not_not.mp h19))
                have ts0 : ¬ zs = 0 := fun z => h38 ((vr_isN (L := L) oks hs11).mp ((hs ()).trans z))
                have ts1 : zs = 1 := (hs ()).symm.trans ((vr_is (L := L) 1 (by decide) oks).mpr h44)
                have t00 : z0 = 0 := (h0 ()).symm.trans ((vr_isN (L := L) ok0 (by decide)).mpr h45)
                have nx1 : ¬ w115 ≤ 0 := fun z => h46 ((vl_I_le (a := w115) (b := 0) (by omega) (by omega)).mpr z)
                have ev : vx_even (vr_T I L (76800 + f.d)).val f.o f.z = false := by rw [vr_valv (by rw [(vr_is (L := L) 7 (by decide) okd).mp ((hd ()).trans (by omega))]; rfl), ← vr_dO D, vx_even_r hz]; exact (by rw [decide_eq_false h37]; rfl)
                have r7 := vx_r7' (M := M) (A := (vr_A I L 1024)) (o := f.o) (z := f.z) (w := true) ((hd ()).trans (show zd = 7 by omega))
                rw [hrr ()] at r7
                have e : vx_atp M f (vr_A I L 1024) = (w115, (vr_A I L 1024)) := by
                  by_cases c1 : zd = 0 ∨ zs = 0 ∨ (f.i = 241 ∧ z0 = 0)
                  · rw [show w115 = 1 by omega]; exact vx_at1 (by rw [eD, eS, e0, hd (), hs (), h0 ()]; omega)
                  · rw [show w115 = 4 by omega]; exact vx_at3 (by rw [eD, eS, e0, hd (), hs (), h0 ()]; omega) (by rw [eD, hd ()]; omega) (Or.inl (by rw [eD]; exact ev))
                exact ⟨_, _, by rw [← eQ, e], fun z => by rw [← eQ, e] at z; exact absurd (show w115 = 0 from z) (by omega), vr_fr_refl hf⟩
            · refine jv_Wp.lift (fun _ Kz => jv_Ev.steps jv_i295 2 (pc' := 230) (l' := [(2, .int (vl_I w114)), (7, .int (0 : Int32)), (5, .long ((vl_I f.z).toInt64 - (1 : Int64))), (4, .int (vl_I (8 + (76800 + f.d)))), (3, .int (I 205 (76800 + f.d))), (1, .int (vl_I f.z)), (0, .ref 196)]) (st' := [.int (0 : Int32), .ref 196, .int (vl_I w114)]) rfl Kz) ?_
              refine jv_Wp.lift (fun _ Kz => jv_Ev.c jv_i295 (pc' := 233) (S' := [.int (I 205 (76800 + 0)), .int (vl_I w114)]) jv_i271 [.ref 196, .int (0 : Int32)] rfl rfl rfl rfl (jv_cal rfl (jv_H_at (jv_rwK hW 196 12 24 (by decide))) rfl rfl) rfl (vq_sortOf 0 hW (by omega)) rfl rfl Kz) ?_
              refine jv_Wp.lift (fun _ Kz => jv_Ev.steps jv_i295 1 (pc' := 234) (l' := [(2, .int (vl_I w114)), (7, .int (0 : Int32)), (5, .long ((vl_I f.z).toInt64 - (1 : Int64))), (4, .int (vl_I (8 + (76800 + f.d)))), (3, .int (I 205 (76800 + f.d))), (1, .int (vl_I f.z)), (0, .ref 196)]) (st' := [.int (1 : Int32), .int (I 205 (76800 + 0)), .int (vl_I w114)]) rfl Kz) ?_
              refine jv_Wp.cnd jv_i295 (pt := 242) (pe := 237) (p := ((I 205 (76800 + 0)) = (1 : Int32))) (q := ((I 205 (76800 + 0)) = (1 : Int32))) rfl jv_bc_eq rfl rfl Iff.rfl (fun h47 => ?_) (fun h47 => ?_)
              · refine jv_Wp.lift (fun _ Kz => jv_Ev.steps jv_i295 1 (pc' := 243) (l' := [(2, .int (vl_I w114)), (7, .int (0 : Int32)), (5, .long ((vl_I f.z).toInt64 - (1 : Int64))), (4, .int (vl_I (8 + (76800 + f.d)))), (3, .int (I 205 (76800 + f.d))), (1, .int (vl_I f.z)), (0, .ref 196)]) (st' := [.int (0 : Int32), .int (vl_I w114)]) rfl Kz) ?_
                obtain ⟨w117, hq117⟩ : ∃ x : Nat, ∀ _ : Unit, vx_fst w114 0 = x := ⟨_, fun _ => rfl⟩
                have fq117 : (w114 = 0 → w117 = 0) ∧ (0 = 0 → w117 = w114) ∧ (w117 = w114 ∨ w117 = 0) ∧ (w114 ≠ 0 → 0 ≠ 0 → w117 ≤ w114 ∧ w117 ≤ 0) := by rw [← hq117 ()]; exact vx_fst_g w114 0
                have Hf117 := vq_first (I := I) (L := L) (K := K) (R := R) (n := n) (sl := sl) w114 0 (by omega) (by omega)
                rw [hq117 ()] at Hf117
                refine jv_Wp.lift (fun _ Kz => jv_Ev.c jv_i295 (pc' := 246) (S' := [.int (vl_I w117)]) jv_i282 [.int (vl_I w114), .int (0 : Int32)] rfl rfl rfl rfl rfl rfl Hf117 rfl rfl Kz) ?_
                refine jv_Wp.lift (fun _ Kz => jv_Ev.steps jv_i295 2 (pc' := 248) (l' := [(2, .int (vl_I w117)), (7, .int (0 : Int32)), (5, .long ((vl_I f.z).toInt64 - (1 : Int64))), (4, .int (vl_I (8 + (76800 + f.d)))), (3, .int (I 205 (76800 + f.d))), (1, .int (vl_I f.z)), (0, .ref 196)]) (st' := [.int (vl_I w117)]) rfl Kz) ?_
                refine jv_Wp.cnd jv_i295 (pt := 253) (pe := 251) (p := ((vl_I w117) ≤ 0)) (q := ((vl_I w117) ≤ 0)) rfl jv_bi_le rfl rfl Iff.rfl (fun h48 => ?_) (fun h48 => ?_)
                · refine jv_Wp.lift (fun _ Kz => jv_Ev.steps jv_i295 1 (pc' := 254) (l' := [(2, .int (vl_I w117)), (7, .int (0 : Int32)), (5, .long ((vl_I f.z).toInt64 - (1 : Int64))), (4, .int (vl_I (8 + (76800 + f.d)))), (3, .int (I 205 (76800 + f.d))), (1, .int (vl_I f.z)), (0, .ref 196)]) (st' := [.ref 196]) rfl Kz) ?_
                  refine jv_Wp.lift (fun _ Kz => jv_Ev.m jv_i295 (pc' := 257) (st' := [.int (Int32.ofInt f.i)]) (G' := (jv_H K I L R)) rfl rfl (jv_m_getI (jv_rwK hW 196 12 24 (by decide)) rfl rfl (vr_dJ D)) Kz) ?_
                  refine jv_Wp.lift (fun _ Kz => jv_Ev.steps jv_i295 1 (pc' := 260) (l' := [(2, .int (vl_I w117)), (7, .int (0 : Int32)), (5, .long ((vl_I f.z).toInt64 - (1 : Int64))), (4, .int (vl_I (8 + (76800 + f.d)))), (3, .int (I 205 (76800 + f.d))), (1, .int (vl_I f.z)), (0, .ref 196)]) (st' := [.int (241 : Int32), .int (Int32.ofInt f.i)]) rfl Kz) ?_
                  refine jv_Wp.cnd jv_i295 (pt := 272) (pe := 263) (p := (¬ (Int32.ofInt f.i) = (241 : Int32))) (q := (¬ (Int32.ofInt f.i) = (241 : Int32))) rfl jv_bc_ne rfl rfl Iff.rfl (fun hz => absurd hz (fun z => z h241)) (fun _ => ?_)
                  refine jv_Wp.lift (fun _ Kz => jv_Ev.steps jv_i295 3 (pc' := 266) (l' := [(2, .int (vl_I w117)), (7, .int (0 : Int32)), (5, .long ((vl_I f.z).toInt64 - (1 : Int64))), (4, .int (vl_I (8 + (76800 + f.d)))), (3, .int (I 205 (76800 + f.d))), (1, .int (vl_I f.z)), (0, .ref 196)]) (st' := [.int (vl_I f.z), .int (0 : Int32), .ref 196]) rfl Kz) ?_
                  obtain ⟨I118, L118, H118, T118, O118, F118⟩ := vq_setAny (I := I) (L := L) (R := R) (n := n) (sl := sl) 0 f.z hW hf (by omega) hz
                  refine jv_Wp.lift (fun _ Kz => jv_Ev.c jv_i295 (pc' := 269) (S' := []) (G1 := (jv_H K I118 L118 R)) jv_i274 [.ref 196, .int (0 : Int32), .int (vl_I f.z)] rfl rfl rfl rfl (jv_cal rfl (jv_H_at (jv_rwK hW 196 12 24 (by decide))) rfl rfl) rfl H118 rfl rfl Kz) ?_
                  refine jv_Wp.lift (fun _ Kz => jv_Ev.steps jv_i295 2 (pc' := 292) (l' := [(2, .int (vl_I w117)), (7, .int (0 : Int32)), (5, .long ((vl_I f.z).toInt64 - (1 : Int64))), (4, .int (vl_I (8 + (76800 + f.d)))), (3, .int (I 205 (76800 + f.d))), (1, .int (vl_I f.z)), (0, .ref 196)]) (st' := [.int (0 : Int32)]) rfl Kz) ?_
                  refine jv_Wp.of (jv_Ev.ret jv_i295 rfl rfl) ?_
                  rw [hQ]
                  have td0 : ¬ zd = 0 := fun z => h1 ((vr_isN (L := L) okd hd11).mp ((hd ()).trans z))
                  have td7 : zd = 7 := (hd ()).symm.trans ((vr_is (L := L) 7 (by decide) okd).mpr (Classical.not_not.mp h19))
                  have ts0 : ¬ zs = 0 := fun z => h38 ((vr_isN (L := L) oks hs11).mp ((hs ()).trans z))
                  have ts1 : zs = 1 := (hs ()).symm.trans ((vr_is (L := L) 1 (by decide) oks).mpr h44)
                  have t00 : ¬ z0 = 0 := fun z => h45 ((vr_isN (L := L) ok0 (by decide)).mp ((h0 ()).trans z))
                  have t01 : z0 = 1 := (h0 ()).symm.trans ((vr_is (L := L) 1 (by decide) ok0).mpr h47)
                  have nx1 : w117 ≤ 0 := (vl_I_le (a := w117) (b := 0) (by omega) (by omega)).mp h48
                  have ev : vx_even (vr_T I L (76800 + f.d)).val f.o f.z = false := by rw [vr_valv (by rw [(vr_is (L := L) 7 (by decide) okd).mp ((hd ()).trans (by omega))]; rfl), ← vr_dO D, vx_even_r hz]; exact (by rw [decide_eq_false h37]; rfl)
                  have r7 := vx_r7' (M := M) (A := (vr_A I L 1024)) (o := f.o) (z := f.z) (w := true) ((hd ()).trans (show zd = 7 by omega))
                  rw [hrr ()] at r7
                  exact absurd (show False by omega) (fun z => z)
                · refine jv_Wp.lift (fun _ Kz => jv_Ev.steps jv_i295 1 (pc' := 252) (l' := [(2, .int (vl_I w117)), (7, .int (0 : Int32)), (5, .long ((vl_I f.z).toInt64 - (1 : Int64))), (4, .int (vl_I (8 + (76800 + f.d)))), (3, .int (I 205 (76800 + f.d))), (1, .int (vl_I f.z)), (0, .ref 196)]) (st' := [.int (vl_I w117)]) rfl Kz) ?_
                  refine jv_Wp.of (jv_Ev.ret jv_i295 rfl rfl) ?_
                  rw [hQ]
                  have td0 : ¬ zd = 0 := fun z => h1 ((vr_isN (L := L) okd hd11).mp ((hd ()).trans z))
                  have td7 : zd = 7 := (hd ()).symm.trans ((vr_is (L := L) 7 (by decide) okd).mpr (Classical.not_not.mp h19))
                  have ts0 : ¬ zs = 0 := fun z => h38 ((vr_isN (L := L) oks hs11).mp ((hs ()).trans z))
                  have ts1 : zs = 1 := (hs ()).symm.trans ((vr_is (L := L) 1 (by decide) oks).mpr h44)
                  have t00 : ¬ z0 = 0 := fun z => h45 ((vr_isN (L := L) ok0 (by decide)).mp ((h0 ()).trans z))
                  have t01 : z0 = 1 := (h0 ()).symm.trans ((vr_is (L := L) 1 (by decide) ok0).mpr h47)
                  have nx1 : ¬ w117 ≤ 0 := fun z => h48 ((vl_I_le (a := w117) (b := 0) (by omega) (by omega)).mpr z)
                  have ev : vx_even (vr_T I L (76800 + f.d)).val f.o f.z = false := by rw [vr_valv (by rw [(vr_is (L := L) 7 (by decide) okd).mp ((hd ()).trans (by omega))]; rfl), ← vr_dO D, vx_even_r hz]; exact (by rw [decide_eq_false h37]; rfl)
                  have r7 := vx_r7' (M := M) (A := (vr_A I L 1024)) (o := f.o) (z := f.z) (w := true) ((hd ()).trans (show zd = 7 by omega))
                  rw [hrr ()] at r7
                  have e : vx_atp M f (vr_A I L 1024) = (w117, (vr_A I L 1024)) := by
                    by_cases c1 : zd = 0 ∨ zs = 0 ∨ (f.i = 241 ∧ z0 = 0)
                    · rw [show w117 = 1 by omega]; exact vx_at1 (by rw [eD, eS, e0, hd (), hs (), h0 ()]; omega)
                    · rw [show w117 = 4 by omega]; exact vx_at3 (by rw [eD, eS, e0, hd (), hs (), h0 ()]; omega) (by rw [eD, hd ()]; omega) (Or.inl (by rw [eD]; exact ev))
                  exact ⟨_, _, by rw [← eQ, e], fun z => by rw [← eQ, e] at z; exact absurd (show w117 = 0 from z) (by omega), vr_fr_refl hf⟩
              · refine jv_Wp.lift (fun _ Kz => jv_Ev.steps jv_i295 2 (pc' := 243) (l' := [(2, .int (vl_I w114)), (7, .int (0 : Int32)), (5, .long ((vl_I f.z).toInt64 - (1 : Int64))), (4, .int (vl_I (8 + (76800 + f.d)))), (3, .int (I 205 (76800 + f.d))), (1, .int (vl_I f.z)), (0, .ref 196)]) (st' := [.int (6 : Int32), .int (vl_I w114)]) rfl Kz) ?_
                obtain ⟨w119, hq119⟩ : ∃ x : Nat, ∀ _ : Unit, vx_fst w114 6 = x := ⟨_, fun _ => rfl⟩
                have fq119 : (w114 = 0 → w119 = 6) ∧ (6 = 0 → w119 = w114) ∧ (w119 = w114 ∨ w119 = 6) ∧ (w114 ≠ 0 → 6 ≠ 0 → w119 ≤ w114 ∧ w119 ≤ 6) := by rw [← hq119 ()]; exact vx_fst_g w114 6
                have Hf119 := vq_first (I := I) (L := L) (K := K) (R := R) (n := n) (sl := sl) w114 6 (by omega) (by omega)
                rw [hq119 ()] at Hf119
                refine jv_Wp.lift (fun _ Kz => jv_Ev.c jv_i295 (pc' := 246) (S' := [.int (vl_I w119)]) jv_i282 [.int (vl_I w114), .int (6 : Int32)] rfl rfl rfl rfl rfl rfl Hf119 rfl rfl Kz) ?_
                refine jv_Wp.lift (fun _ Kz => jv_Ev.steps jv_i295 2 (pc' := 248) (l' := [(2, .int (vl_I w119)), (7, .int (0 : Int32)), (5, .long ((vl_I f.z).toInt64 - (1 : Int64))), (4, .int (vl_I (8 + (76800 + f.d)))), (3, .int (I 205 (76800 + f.d))), (1, .int (vl_I f.z)), (0, .ref 196)]) (st' := [.int (vl_I w119)]) rfl Kz) ?_
                refine jv_Wp.cnd jv_i295 (pt := 253) (pe := 251) (p := ((vl_I w119) ≤ 0)) (q := ((vl_I w119) ≤ 0)) rfl jv_bi_le rfl rfl Iff.rfl (fun h49 => ?_) (fun h49 => ?_)
                · refine jv_Wp.lift (fun _ Kz => jv_Ev.steps jv_i295 1 (pc' := 254) (l' := [(2, .int (vl_I w119)), (7, .int (0 : Int32)), (5, .long ((vl_I f.z).toInt64 - (1 : Int64))), (4, .int (vl_I (8 + (76800 + f.d)))), (3, .int (I 205 (76800 + f.d))), (1, .int (vl_I f.z)), (0, .ref 196)]) (st' := [.ref 196]) rfl Kz) ?_
                  refine jv_Wp.lift (fun _ Kz => jv_Ev.m jv_i295 (pc' := 257) (st' := [.int (Int32.ofInt f.i)]) (G' := (jv_H K I L R)) rfl rfl (jv_m_getI (jv_rwK hW 196 12 24 (by decide)) rfl rfl (vr_dJ D)) Kz) ?_
                  refine jv_Wp.lift (fun _ Kz => jv_Ev.steps jv_i295 1 (pc' := 260) (l' := [(2, .int (vl_I w119)), (7, .int (0 : Int32)), (5, .long ((vl_I f.z).toInt64 - (1 : Int64))), (4, .int (vl_I (8 + (76800 + f.d)))), (3, .int (I 205 (76800 + f.d))), (1, .int (vl_I f.z)), (0, .ref 196)]) (st' := [.int (241 : Int32), .int (Int32.ofInt f.i)]) rfl Kz) ?_
                  refine jv_Wp.cnd jv_i295 (pt := 272) (pe := 263) (p := (¬ (Int32.ofInt f.i) = (241 : Int32))) (q := (¬ (Int32.ofInt f.i) = (241 : Int32))) rfl jv_bc_ne rfl rfl Iff.rfl (fun hz => absurd hz (fun z => z h241)) (fun _ => ?_)
                  refine jv_Wp.lift (fun _ Kz => jv_Ev.steps jv_i295 3 (pc' := 266) (l' := [(2, .int (vl_I w119)), (7, .int (0 : Int32)), (5, .long ((vl_I f.z).toInt64 - (1 : Int64))), (4, .int (vl_I (8 + (76800 + f.d)))), (3, .int (I 205 (76800 + f.d))), (1, .int (vl_I f.z)), (0, .ref 196)]) (st' := [.int (vl_I f.z), .int (0 : Int32), .ref 196]) rfl Kz) ?_
                  obtain ⟨I120, L120, H120, T120, O120, F120⟩ := vq_setAny (I := I) (L := L) (R := R) (n := n) (sl := sl) 0 f.z hW hf (by omega) hz
                  refine jv_Wp.lift (fun _ Kz => jv_Ev.c jv_i295 (pc' := 269) (S' := []) (G1 := (jv_H K I120 L120 R)) jv_i274 [.ref 196, .int (0 : Int32), .int (vl_I f.z)] rfl rfl rfl rfl (jv_cal rfl (jv_H_at (jv_rwK hW 196 12 24 (by decide))) rfl rfl) rfl H120 rfl rfl Kz) ?_
                  refine jv_Wp.lift (fun _ Kz => jv_Ev.steps jv_i295 2 (pc' := 292) (l' := [(2, .int (vl_I w119)), (7, .int (0 : Int32)), (5, .long ((vl_I f.z).toInt64 - (1 : Int64))), (4, .int (vl_I (8 + (76800 + f.d)))), (3, .int (I 205 (76800 + f.d))), (1, .int (vl_I f.z)), (0, .ref 196)]) (st' := [.int (0 : Int32)]) rfl Kz) ?_
                  refine jv_Wp.of (jv_Ev.ret jv_i295 rfl rfl) ?_
                  rw [hQ]
                  have td0 : ¬ zd = 0 := fun z => h1 ((vr_isN (L := L) okd hd11).mp ((hd ()).trans z))
                  have td7 : zd = 7 := (hd ()).symm.trans ((vr_is (L := L) 7 (by decide) okd).mpr (Classical.not_not.mp h19))
                  have ts0 : ¬ zs = 0 := fun z => h38 ((vr_isN (L := L) oks hs11).mp ((hs ()).trans z))
                  have ts1 : zs = 1 := (hs ()).symm.trans ((vr_is (L := L) 1 (by decide) oks).mpr h44)
                  have t00 : ¬ z0 = 0 := fun z => h45 ((vr_isN (L := L) ok0 (by decide)).mp ((h0 ()).trans z))
                  have t01 : ¬ z0 = 1 := fun z => h47 ((vr_is (L := L) 1 (by decide) ok0).mp ((h0 ()).trans z))
                  have nx1 : w119 ≤ 0 := (vl_I_le (a := w119) (b := 0) (by omega) (by omega)).mp h49
                  have ev : vx_even (vr_T I L (76800 + f.d)).val f.o f.z = false := by rw [vr_valv (by rw [(vr_is (L := L) 7 (by decide) okd).mp ((hd ()).trans (by omega))]; rfl), ← vr_dO D, vx_even_r hz]; exact (by rw [decide_eq_false h37]; rfl)
                  have r7 := vx_r7' (M := M) (A := (vr_A I L 1024)) (o := f.o) (z := f.z) (w := true) ((hd ()).trans (show zd = 7 by omega))
                  rw [hrr ()] at r7
                  exact absurd (show False by omega) (fun z => z)
                · refine jv_Wp.lift (fun _ Kz => jv_Ev.steps jv_i295 1 (pc' := 252) (l' := [(2, .int (vl_I w119)), (7, .int (0 : Int32)), (5, .long ((vl_I f.z).toInt64 - (1 : Int64))), (4, .int (vl_I (8 + (76800 + f.d)))), (3, .int (I 205 (76800 + f.d))), (1, .int (vl_I f.z)), (0, .ref 196)]) (st' := [.int (vl_I w119)]) rfl Kz) ?_
                  refine jv_Wp.of (jv_Ev.ret jv_i295 rfl rfl) ?_
                  rw [hQ]
                  have td0 : ¬ zd = 0 := fun z => h1 ((vr_isN (L := L) okd hd11).mp ((hd ()).trans z))
                  have td7 : zd = 7 := (hd ()).symm.trans ((vr_is (L := L) 7 (by decide) okd).mpr (Classical.not_not.mp h19))
                  have ts0 : ¬ zs = 0 := fun z => h38 ((vr_isN (L := L) oks hs11).mp ((hs ()).trans z))
                  have ts1 : zs = 1 := (hs ()).symm.trans ((vr_is (L := L) 1 (by decide) oks).mpr h44)
                  have t00 : ¬ z0 = 0 := fun z => h45 ((vr_isN (L := L) ok0 (by decide)).mp ((h0 ()).trans z))
                  have t01 : ¬ z0 = 1 := fun z => h47 ((vr_is (L := L) 1 (by decide) ok0).mp ((h0 ()).trans z))
                  have nx1 : ¬ w119 ≤ 0 := fun z => h49 ((vl_I_le (a := w119) (b := 0) (by omega) (by omega)).mpr z)
                  have ev : vx_even (vr_T I L (76800 + f.d)).val f.o f.z = false := by rw [vr_valv (by rw [(vr_is (L := L) 7 (by decide) okd).mp ((hd ()).trans (by omega))]; rfl), ← vr_dO D, vx_even_r hz]; exact (by rw [decide_eq_false h37]; rfl)
                  have r7 := vx_r7' (M := M) (A := (vr_A I L 1024)) (o := f.o) (z := f.z) (w := true) ((hd ()).trans (show zd = 7 by omega))
                  rw [hrr ()] at r7
                  have e : vx_atp M f (vr_A I L 1024) = (w119, (vr_A I L 1024)) := by
                    by_cases c1 : zd = 0 ∨ zs = 0 ∨ (f.i = 241 ∧ z0 = 0)
                    · rw [show w119 = 1 by omega]; exact vx_at1 (by rw [eD, eS, e0, hd (), hs (), h0 ()]; omega)
                    · rw [show w119 = 4 by omega]; exact vx_at3 (by rw [eD, eS, e0, hd (), hs (), h0 ()]; omega) (by rw [eD, hd ()]; omega) (Or.inl (by rw [eD]; exact ev))
                  exact ⟨_, _, by rw [← eQ, e], fun z => by rw [← eQ, e] at z; exact absurd (show w119 = 0 from z) (by omega), vr_fr_refl hf⟩
          · refine jv_Wp.lift (fun _ Kz => jv_Ev.steps jv_i295 2 (pc' := 205) (l' := [(2, .int (vl_I w106)), (7, .int (0 : Int32)), (5, .long ((vl_I f.z).toInt64 - (1 : Int64))), (4, .int (vl_I (8 + (76800 + f.d)))), (3, .int (I 205 (76800 + f.d))), (1, .int (vl_I f.z)), (0, .ref 196)]) (st' := [.int (6 : Int32), .int (vl_I w106)]) rfl Kz) ?_
            obtain ⟨w121, hq121⟩ : ∃ x : Nat, ∀ _ : Unit, vx_fst w106 6 = x := ⟨_, fun _ => rfl⟩
            have fq121 : (w106 = 0 → w121 = 6) ∧ (6 = 0 → w121 = w106) ∧ (w121 = w106 ∨ w121 = 6) ∧ (w106 ≠ 0 → 6 ≠ 0 → w121 ≤ w106 ∧ w121 ≤ 6) := by rw [← hq121 ()]; exact vx_fst_g w106 6
            have Hf121 := vq_first (I := I) (L := L) (K := K) (R := R) (n := n) (sl := sl) w106 6 (by omega) (by omega)
            rw [hq121 ()] at Hf121
            refine jv_Wp.lift (fun _ Kz => jv_Ev.c jv_i295 (pc' := 208) (S' := [.int (vl_I w121)]) jv_i282 [.int (vl_I w106), .int (6 : Int32)] rfl rfl rfl rfl rfl rfl Hf121 rfl rfl Kz) ?_
            refine jv_Wp.lift (fun _ Kz => jv_Ev.steps jv_i295 3 (pc' := 211) (l' := [(2, .int (vl_I w121)), (7, .int (0 : Int32)), (5, .long ((vl_I f.z).toInt64 - (1 : Int64))), (4, .int (vl_I (8 + (76800 + f.d)))), (3, .int (I 205 (76800 + f.d))), (1, .int (vl_I f.z)), (0, .ref 196)]) (st' := [.ref 196, .int (vl_I w121)]) rfl Kz) ?_
            refine jv_Wp.lift (fun _ Kz => jv_Ev.m jv_i295 (pc' := 214) (st' := [.int (Int32.ofInt f.i), .int (vl_I w121)]) (G' := (jv_H K I L R)) rfl rfl (jv_m_getI (jv_rwK hW 196 12 24 (by decide)) rfl rfl (vr_dJ D)) Kz) ?_
            refine jv_Wp.lift (fun _ Kz => jv_Ev.steps jv_i295 1 (pc' := 217) (l' := [(2, .int (vl_I w121)), (7, .int (0 : Int32)), (5, .long ((vl_I f.z).toInt64 - (1 : Int64))), (4, .int (vl_I (8 + (76800 + f.d)))), (3, .int (I 205 (76800 + f.d))), (1, .int (vl_I f.z)), (0, .ref 196)]) (st' := [.int (241 : Int32), .int (Int32.ofInt f.i), .int (vl_I w121)]) rfl Kz) ?_
            refine jv_Wp.cnd jv_i295 (pt := 242) (pe := 220) (p := (¬ (Int32.ofInt f.i) = (241 : Int32))) (q := (¬ (Int32.ofInt f.i) = (241 : Int32))) rfl jv_bc_ne rfl rfl Iff.rfl (fun hz => absurd hz (fun z => z h241)) (fun _ => ?_)
            refine jv_Wp.lift (fun _ Kz => jv_Ev.steps jv_i295 2 (pc' := 222) (l' := [(2, .int (vl_I w121)), (7, .int (0 : Int32)), (5, .long ((vl_I f.z).toInt64 - (1 : Int64))), (4, .int (vl_I (8 + (76800 + f.d)))), (3, .int (I 205 (76800 + f.d))), (1, .int (vl_I f.z)), (0, .ref 196)]) (st' := [.int (0 : Int32), .ref 196, .int (vl_I w121)]) rfl Kz) ?_
            refine jv_Wp.lift (fun _ Kz => jv_Ev.c jv_i295 (pc' := 225) (S' := [.int (I 205 (76800 + 0)), .int (vl_I w121)]) jv_i271 [.ref 196, .int (0 : Int32)] rfl rfl rfl rfl (jv_cal rfl (jv_H_at (jv_rwK hW 196 12 24 (by decide))) rfl rfl) rfl (vq_sortOf 0 hW (by omega)) rfl rfl Kz) ?_
            refine jv_Wp.cnd jv_i295 (pt := 242) (pe := 228) (p := ((I 205 (76800 + 0)) = 0)) (q := ((I 205 (76800 + 0)) = 0)) rfl jv_bi_eq rfl rfl Iff.rfl (fun h50 => ?_) (fun h50 => ?_)
            · refine jv_Wp.lift (fun _ Kz => jv_Ev.steps jv_i295 1 (pc' := 243) (l' := [(2, .int (vl_I w121)), (7, .int (0 : Int32)), (5, .long ((vl_I f.z).toInt64 - (1 : Int64))), (4, .int (vl_I (8 + (76800 + f.d)))), (3, .int (I 205 (76800 + f.d))), (1, .int (vl_I f.z)), (0, .ref 196)]) (st' := [.int (0 : Int32), .int (vl_I w121)]) rfl Kz) ?_
              obtain ⟨w122, hq122⟩ : ∃ x : Nat, ∀ _ : Unit, vx_fst w121 0 = x := ⟨_, fun _ => rfl⟩
              have fq122 : (w121 = 0 → w122 = 0) ∧ (0 = 0 → w122 = w121) ∧ (w122 = w121 ∨ w122 = 0) ∧ (w121 ≠ 0 → 0 ≠ 0 → w122 ≤ w121 ∧ w122 ≤ 0) := by rw [← hq122 ()]; exact vx_fst_g w121 0
              have Hf122 := vq_first (I := I) (L := L) (K := K) (R := R) (n := n) (sl := sl) w121 0 (by omega) (by omega)
              rw [hq122 ()] at Hf122
              refine jv_Wp.lift (fun _ Kz => jv_Ev.c jv_i295 (pc' := 246) (S' := [.int (vl_I w122)]) jv_i282 [.int (vl_I w121), .int (0 : Int32)] rfl rfl rfl rfl rfl rfl Hf122 rfl rfl Kz) ?_
              refine jv_Wp.lift (fun _ Kz => jv_Ev.steps jv_i295 2 (pc' := 248) (l' := [(2, .int (vl_I w122)), (7, .int (0 : Int32)), (5, .long ((vl_I f.z).toInt64 - (1 : Int64))), (4, .int (vl_I (8 + (76800 + f.d)))), (3, .int (I 205 (76800 + f.d))), (1, .int (vl_I f.z)), (0, .ref 196)]) (st' := [.int (vl_I w122)]) rfl Kz) ?_
              refine jv_Wp.cnd jv_i295 (pt := 253) (pe := 251) (p := ((vl_I w122) ≤ 0)) (q := ((vl_I w122) ≤ 0)) rfl jv_bi_le rfl rfl Iff.rfl (fun h51 => ?_) (fun h51 => ?_)
              · refine jv_Wp.lift (fun _ Kz => jv_Ev.steps jv_i295 1 (pc' := 254) (l' := [(2, .int (vl_I w122)), (7, .int (0 : Int32)), (5, .long ((vl_I f.z).toInt64 - (1 : Int64))), (4, .int (vl_I (8 + (76800 + f.d)))), (3, .int (I 205 (76800 + f.d))), (1, .int (vl_I f.z)), (0, .ref 196)]) (st' := [.ref 196]) rfl Kz) ?_
                refine jv_Wp.lift (fun _ Kz => jv_Ev.m jv_i295 (pc' := 257) (st' := [.int (Int32.ofInt f.i)]) (G' := (jv_H K I L R)) rfl rfl (jv_m_getI (jv_rwK hW 196 12 24 (by decide)) rfl rfl (vr_dJ D)) Kz) ?_
                refine jv_Wp.lift (fun _ Kz => jv_Ev.steps jv_i295 1 (pc' := 260) (l' := [(2, .int (vl_I w122)), (7, .int (0 : Int32)), (5, .long ((vl_I f.z).toInt64 - (1 : Int64))), (4, .int (vl_I (8 + (76800 + f.d)))), (3, .int (I 205 (76800 + f.d))), (1, .int (vl_I f.z)), (0, .ref 196)]) (st' := [.int (241 : Int32), .int (Int32.ofInt f.i)]) rfl Kz) ?_
                refine jv_Wp.cnd jv_i295 (pt := 272) (pe := 263) (p := (¬ (Int32.ofInt f.i) = (241 : Int32))) (q := (¬ (Int32.ofInt f.i) = (241 : Int32))) rfl jv_bc_ne rfl rfl Iff.rfl (fun hz => absurd hz (fun z => z h241)) (fun _ => ?_)
                refine jv_Wp.lift (fun _ Kz => jv_Ev.steps jv_i295 3 (pc' := 266) (l' := [(2, .int (vl_I w122)), (7, .int (0 : Int32)), (5, .long ((vl_I f.z).toInt64 - (1 : Int64))), (4, .int (vl_I (8 + (76800 + f.d)))), (3, .int (I 205 (76800 + f.d))), (1, .int (vl_I f.z)), (0, .ref 196)]) (st' := [.int (vl_I f.z), .int (0 : Int32), .ref 196]) rfl Kz) ?_
                obtain ⟨I123, L123, H123, T123, O123, F123⟩ := vq_setAny (I := I) (L := L) (R := R) (n := n) (sl := sl) 0 f.z hW hf (by omega) hz
                refine jv_Wp.lift (fun _ Kz => jv_Ev.c jv_i295 (pc' := 269) (S' := []) (G1 := (jv_H K I123 L123 R)) jv_i274 [.ref 196, .int (0 : Int32), .int (vl_I f.z)] rfl rfl rfl rfl (jv_cal rfl (jv_H_at (jv_rwK hW 196 12 24 (by decide))) rfl rfl) rfl H123 rfl rfl Kz) ?_
                refine jv_Wp.lift (fun _ Kz => jv_Ev.steps jv_i295 2 (pc' := 292) (l' := [(2, .int (vl_I w122)), (7, .int (0 : Int32)), (5, .long ((vl_I f.z).toInt64 - (1 : Int64))), (4, .int (vl_I (8 + (76800 + f.d)))), (3, .int (I 205 (76800 + f.d))), (1, .int (vl_I f.z)), (0, .ref 196)]) (st' := [.int (0 : Int32)]) rfl Kz) ?_
                refine jv_Wp.of (jv_Ev.ret jv_i295 rfl rfl) ?_
                rw [hQ]
                have td0 : ¬ zd = 0 := fun z => h1 ((vr_isN (L := L) okd hd11).mp ((hd ()).trans z))
                have td7 : zd = 7 := (hd ()).symm.trans ((vr_is (L := L) 7 (by decide) okd).mpr (Classical.not_not.mp h19))
                have ts0 : ¬ zs = 0 := fun z => h38 ((vr_isN (L := L) oks hs11).mp ((hs ()).trans z))
                have ts1 : ¬ zs = 1 := fun z => h44 ((vr_is (L := L) 1 (by decide) oks).mp ((hs ()).trans z))
                have t00 : z0 = 0 := (h0 ()).symm.trans ((vr_isN (L := L) ok0 (by decide)).mpr h50)
                have nx1 : w122 ≤ 0 := (vl_I_le (a := w122) (b := 0) (by omega) (by omega)).mp h51
                have ev : vx_even (vr_T I L (76800 + f.d)).val f.o f.z = false := by rw [vr_valv (by rw [(vr_is (L := L) 7 (by decide) okd).mp ((hd ()).trans (by omega))]; rfl), ← vr_dO D, vx_even_r hz]; exact (by rw [decide_eq_false h37]; rfl)
                have r7 := vx_r7' (M := M) (A := (vr_A I L 1024)) (o := f.o) (z := f.z) (w := true) ((hd ()).trans (show zd = 7 by omega))
                rw [hrr ()] at r7
                exact absurd (show False by omega) (fun z => z)
              · refine jv_Wp.lift (fun _ Kz => jv_Ev.steps jv_i295 1 (pc' := 252) (l' := [(2, .int (vl_I w122)), (7, .int (0 : Int32)), (5, .long ((vl_I f.z).toInt64 - (1 : Int64))), (4, .int (vl_I (8 + (76800 + f.d)))), (3, .int (I 205 (76800 + f.d))), (1, .int (vl_I f.z)), (0, .ref 196)]) (st' := [.int (vl_I w122)]) rfl Kz) ?_
                refine jv_Wp.of (jv_Ev.ret jv_i295 rfl rfl) ?_
                rw [hQ]
                have td0 : ¬ zd = 0 := fun z => h1 ((vr_isN (L := L) okd hd11).mp ((hd ()).trans z))
                have td7 : zd = 7 := (hd ()).symm.trans ((vr_is (L := L) 7 (by decide) okd).mpr (Classical.not_not.mp h19))
                have ts0 : ¬ zs = 0 := fun z => h38 ((vr_isN (L := L) oks hs11).mp ((hs ()).trans z))
                have ts1 : ¬ zs = 1 := fun z => h44 ((vr_is (L := L) 1 (by decide) oks).mp ((hs ()).trans z))
                have t00 : z0 = 0 := (h0 ()).symm.trans ((vr_isN (L := L) ok0 (by decide)).mpr h50)
                have nx1 : ¬ w122 ≤ 0 := fun z => h51 ((vl_I_le (a := w122) (b := 0) (by omega) (by omega)).mpr z)
                have ev : vx_even (vr_T I L (76800 + f.d)).val f.o f.z = false := by rw [vr_valv (by rw [(vr_is (L := L) 7 (by decide) okd).mp ((hd ()).trans (by omega))]; rfl), ← vr_dO D, vx_even_r hz]; exact (by rw [decide_eq_false h37]; rfl)
                have r7 := vx_r7' (M := M) (A := (vr_A I L 1024)) (o := f.o) (z := f.z) (w := true) ((hd ()).trans (show zd = 7 by omega))
                rw [hrr ()] at r7
                have e : vx_atp M f (vr_A I L 1024) = (w122, (vr_A I L 1024)) := by
                  by_cases c1 : zd = 0 ∨ zs = 0 ∨ (f.i = 241 ∧ z0 = 0)
                  · rw [show w122 = 1 by omega]; exact vx_at1 (by rw [eD, eS, e0, hd (), hs (), h0 ()]; omega)
                  · rw [show w122 = 4 by omega]; exact vx_at3 (by rw [eD, eS, e0, hd (), hs (), h0 ()]; omega) (by rw [eD, hd ()]; omega) (Or.inl (by rw [eD]; exact ev))
                exact ⟨_, _, by rw [← eQ, e], fun z => by rw [← eQ, e] at z; exact absurd (show w122 = 0 from z) (by omega), vr_fr_refl hf⟩
            · refine jv_Wp.lift (fun _ Kz => jv_Ev.steps jv_i295 2 (pc' := 230) (l' := [(2, .int (vl_I w121)), (7, .int (0 : Int32)), (5, .long ((vl_I f.z).toInt64 - (1 : Int64))), (4, .int (vl_I (8 + (76800 + f.d)))), (3, .int (I 205 (76800 + f.d))), (1, .int (vl_I f.z)), (0, .ref 196)]) (st' := [.int (0 : Int32), .ref 196, .int (vl_I w121)]) rfl Kz) ?_
              refine jv_Wp.lift (fun _ Kz => jv_Ev.c jv_i295 (pc' := 233) (S' := [.int (I 205 (76800 + 0)), .int (vl_I w121)]) jv_i271 [.ref 196, .int (0 : Int32)] rfl rfl rfl rfl (jv_cal rfl (jv_H_at (jv_rwK hW 196 12 24 (by decide))) rfl rfl) rfl (vq_sortOf 0 hW (by omega)) rfl rfl Kz) ?_
              refine jv_Wp.lift (fun _ Kz => jv_Ev.steps jv_i295 1 (pc' := 234) (l' := [(2, .int (vl_I w121)), (7, .int (0 : Int32)), (5, .long ((vl_I f.z).toInt64 - (1 : Int64))), (4, .int (vl_I (8 + (76800 + f.d)))), (3, .int (I 205 (76800 + f.d))), (1, .int (vl_I f.z)), (0, .ref 196)]) (st' := [.int (1 : Int32), .int (I 205 (76800 + 0)), .int (vl_I w121)]) rfl Kz) ?_
              refine jv_Wp.cnd jv_i295 (pt := 242) (pe := 237) (p := ((I 205 (76800 + 0)) = (1 : Int32))) (q := ((I 205 (76800 + 0)) = (1 : Int32))) rfl jv_bc_eq rfl rfl Iff.rfl (fun h52 => ?_) (fun h52 => ?_)
              · refine jv_Wp.lift (fun _ Kz => jv_Ev.steps jv_i295 1 (pc' := 243) (l' := [(2, .int (vl_I w121)), (7, .int (0 : Int32)), (5, .long ((vl_I f.z).toInt64 - (1 : Int64))), (4, .int (vl_I (8 + (76800 + f.d)))), (3, .int (I 205 (76800 + f.d))), (1, .int (vl_I f.z)), (0, .ref 196)]) (st' := [.int (0 : Int32), .int (vl_I w121)]) rfl Kz) ?_
                obtain ⟨w124, hq124⟩ : ∃ x : Nat, ∀ _ : Unit, vx_fst w121 0 = x := ⟨_, fun _ => rfl⟩
                have fq124 : (w121 = 0 → w124 = 0) ∧ (0 = 0 → w124 = w121) ∧ (w124 = w121 ∨ w124 = 0) ∧ (w121 ≠ 0 → 0 ≠ 0 → w124 ≤ w121 ∧ w124 ≤ 0) := by rw [← hq124 ()]; exact vx_fst_g w121 0
                have Hf124 := vq_first (I := I) (L := L) (K := K) (R := R) (n := n) (sl := sl) w121 0 (by omega) (by omega)
                rw [hq124 ()] at Hf124
                refine jv_Wp.lift (fun _ Kz => jv_Ev.c jv_i295 (pc' := 246) (S' := [.int (vl_I w124)]) jv_i282 [.int (vl_I w121), .int (0 : Int32)] rfl rfl rfl rfl rfl rfl Hf124 rfl rfl Kz) ?_
                refine jv_Wp.lift (fun _ Kz => jv_Ev.steps jv_i295 2 (pc' := 248) (l' := [(2, .int (vl_I w124)), (7, .int (0 : Int32)), (5, .long ((vl_I f.z).toInt64 - (1 : Int64))), (4, .int (vl_I (8 + (76800 + f.d)))), (3, .int (I 205 (76800 + f.d))), (1, .int (vl_I f.z)), (0, .ref 196)]) (st' := [.int (vl_I w124)]) rfl Kz) ?_
                refine jv_Wp.cnd jv_i295 (pt := 253) (pe := 251) (p := ((vl_I w124) ≤ 0)) (q := ((vl_I w124) ≤ 0)) rfl jv_bi_le rfl rfl Iff.rfl (fun h53 => ?_) (fun h53 => ?_)
                · refine jv_Wp.lift (fun _ Kz => jv_Ev.steps jv_i295 1 (pc' := 254) (l' := [(2, .int (vl_I w124)), (7, .int (0 : Int32)), (5, .long ((vl_I f.z).toInt64 - (1 : Int64))), (4, .int (vl_I (8 + (76800 + f.d)))), (3, .int (I 205 (76800 + f.d))), (1, .int (vl_I f.z)), (0, .ref 196)]) (st' := [.ref 196]) rfl Kz) ?_
                  refine jv_Wp.lift (fun _ Kz => jv_Ev.m jv_i295 (pc' := 257) (st' := [.int (Int32.ofInt f.i)]) (G' := (jv_H K I L R)) rfl rfl (jv_m_getI (jv_rwK hW 196 12 24 (by decide)) rfl rfl (vr_dJ D)) Kz) ?_
                  refine jv_Wp.lift (fun _ Kz => jv_Ev.steps jv_i295 1 (pc' := 260) (l' := [(2, .int (vl_I w124)), (7, .int (0 : Int32)), (5, .long ((vl_I f.z).toInt64 - (1 : Int64))), (4, .int (vl_I (8 + (76800 + f.d)))), (3, .int (I 205 (76800 + f.d))), (1, .int (vl_I f.z)), (0, .ref 196)]) (st' := [.int (241 : Int32), .int (Int32.ofInt f.i)]) rfl Kz) ?_
                  refine jv_Wp.cnd jv_i295 (pt := 272) (pe := 263) (p := (¬ (Int32.ofInt f.i) = (241 : Int32))) (q := (¬ (Int32.ofInt f.i) = (241 : Int32))) rfl jv_bc_ne rfl rfl Iff.rfl (fun hz => absurd hz (fun z => z h241)) (fun _ => ?_)
                  refine jv_Wp.lift (fun _ Kz => jv_Ev.steps jv_i295 3 (pc' := 266) (l' := [(2, .int (vl_I w124)), (7, .int (0 : Int32)), (5, .long ((vl_I f.z).toInt64 - (1 : Int64))), (4, .int (vl_I (8 + (76800 + f.d)))), (3, .int (I 205 (76800 + f.d))), (1, .int (vl_I f.z)), (0, .ref 196)]) (st' := [.int (vl_I f.z), .int (0 : Int32), .ref 196]) rfl Kz) ?_
                  obtain ⟨I125, L125, H125, T125, O125, F125⟩ := vq_setAny (I := I) (L := L) (R := R) (n := n) (sl := sl) 0 f.z hW hf (by omega) hz
                  refine jv_Wp.lift (fun _ Kz => jv_Ev.c jv_i295 (pc' := 269) (S' := []) (G1 := (jv_H K I125 L125 R)) jv_i274 [.ref 196, .int (0 : Int32), .int (vl_I f.z)] rfl rfl rfl rfl (jv_cal rfl (jv_H_at (jv_rwK hW 196 12 24 (by decide))) rfl rfl) rfl H125 rfl rfl Kz) ?_
                  refine jv_Wp.lift (fun _ Kz => jv_Ev.steps jv_i295 2 (pc' := 292) (l' := [(2, .int (vl_I w124)), (7, .int (0 : Int32)), (5, .long ((vl_I f.z).toInt64 - (1 : Int64))), (4, .int (vl_I (8 + (76800 + f.d)))), (3, .int (I 205 (76800 + f.d))), (1, .int (vl_I f.z)), (0, .ref 196)]) (st' := [.int (0 : Int32)]) rfl Kz) ?_
                  refine jv_Wp.of (jv_Ev.ret jv_i295 rfl rfl) ?_
                  rw [hQ]
                  have td0 : ¬ zd = 0 := fun z => h1 ((vr_isN (L := L) okd hd11).mp ((hd ()).trans z))
                  have td7 : zd = 7 := (hd ()).symm.trans ((vr_is (L := L) 7 (by decide) okd).mpr (Classical.not_not.mp h19))
                  have ts0 : ¬ zs = 0 := fun z => h38 ((vr_isN (L := L) oks hs11).mp ((hs ()).trans z))
                  have ts1 : ¬ zs = 1 := fun z => h44 ((vr_is (L := L) 1 (by decide) oks).mp ((hs ()).trans z))
                  have t00 : ¬ z0 = 0 := fun z => h50 ((vr_isN (L := L) ok0 (by decide)).mp ((h0 ()).trans z))
                  have t01 : z0 = 1 := (h0 ()).symm.trans ((vr_is (L := L) 1 (by decide) ok0).mpr h52)
                  have nx1 : w124 ≤ 0 := (vl_I_le (a := w124) (b := 0) (by omega) (by omega)).mp h53
                  have ev : vx_even (vr_T I L (76800 + f.d)).val f.o f.z = false := by rw [vr_valv (by rw [(vr_is (L := L) 7 (by decide) okd).mp ((hd ()).trans (by omega))]; rfl), ← vr_dO D, vx_even_r hz]; exact (by rw [decide_eq_false h37]; rfl)
                  have r7 := vx_r7' (M := M) (A := (vr_A I L 1024)) (o := f.o) (z := f.z) (w := true) ((hd ()).trans (show zd = 7 by omega))
                  rw [hrr ()] at r7
                  exact absurd (show False by omega) (fun z => z)
                · refine jv_Wp.lift (fun _ Kz => jv_Ev.steps jv_i295 1 (pc' := 252) (l' := [(2, .int (vl_I w124)), (7, .int (0 : Int32)), (5, .long ((vl_I f.z).toInt64 - (1 : Int64))), (4, .int (vl_I (8 + (76800 + f.d)))), (3, .int (I 205 (76800 + f.d))), (1, .int (vl_I f.z)), (0, .ref 196)]) (st' := [.int (vl_I w124)]) rfl Kz) ?_
                  refine jv_Wp.of (jv_Ev.ret jv_i295 rfl rfl) ?_
                  rw [hQ]
                  have td0 : ¬ zd = 0 := fun z => h1 ((vr_isN (L := L) okd hd11).mp ((hd ()).trans z))
                  have td7 : zd = 7 := (hd ()).symm.trans ((vr_is (L := L) 7 (by decide) okd).mpr (Classical.not_not.mp h19))
                  have ts0 : ¬ zs = 0 := fun z => h38 ((vr_isN (L := L) oks hs11).mp ((hs ()).trans z))
                  have ts1 : ¬ zs = 1 := fun z => h44 ((vr_is (L := L) 1 (by decide) oks).mp ((hs ()).trans z))
                  have t00 : ¬ z0 = 0 := fun z => h50 ((vr_isN (L := L) ok0 (by decide)).mp ((h0 ()).trans z))
                  have t01 : z0 = 1 := (h0 ()).symm.trans ((vr_is (L := L) 1 (by decide) ok0).mpr h52)
                  have nx1 : ¬ w124 ≤ 0 := fun z => h53 ((vl_I_le (a := w124) (b := 0) (by omega) (by omega)).mpr z)
                  have ev : vx_even (vr_T I L (76800 + f.d)).val f.o f.z = false := by rw [vr_valv (by rw [(vr_is (L := L) 7 (by decide) okd).mp ((hd ()).trans (by omega))]; rfl), ← vr_dO D, vx_even_r hz]; exact (by rw [decide_eq_false h37]; rfl)
                  have r7 := vx_r7' (M := M) (A := (vr_A I L 1024)) (o := f.o) (z := f.z) (w := true) ((hd ()).trans (show zd = 7 by omega))
                  rw [hrr ()] at r7
                  have e : vx_atp M f (vr_A I L 1024) = (w124, (vr_A I L 1024)) := by
                    by_cases c1 : zd = 0 ∨ zs = 0 ∨ (f.i = 241 ∧ z0 = 0)
                    · rw [show w124 = 1 by omega]; exact vx_at1 (by rw [eD, eS, e0, hd (), hs (), h0 ()]; omega)
                    · rw [show w124 = 4 by omega]; exact vx_at3 (by rw [eD, eS, e0, hd (), hs (), h0 ()]; omega) (by rw [eD, hd ()]; omega) (Or.inl (by rw [eD]; exact ev))
                  exact ⟨_, _, by rw [← eQ, e], fun z => by rw [← eQ, e] at z; exact absurd (show w124 = 0 from z) (by omega), vr_fr_refl hf⟩
              · refine jv_Wp.lift (fun _ Kz => jv_Ev.steps jv_i295 2 (pc' := 243) (l' := [(2, .int (vl_I w121)), (7, .int (0 : Int32)), (5, .long ((vl_I f.z).toInt64 - (1 : Int64))), (4, .int (vl_I (8 + (76800 + f.d)))), (3, .int (I 205 (76800 + f.d))), (1, .int (vl_I f.z)), (0, .ref 196)]) (st' := [.int (6 : Int32), .int (vl_I w121)]) rfl Kz) ?_
                obtain ⟨w126, hq126⟩ : ∃ x : Nat, ∀ _ : Unit, vx_fst w121 6 = x := ⟨_, fun _ => rfl⟩
                have fq126 : (w121 = 0 → w126 = 6) ∧ (6 = 0 → w126 = w121) ∧ (w126 = w121 ∨ w126 = 6) ∧ (w121 ≠ 0 → 6 ≠ 0 → w126 ≤ w121 ∧ w126 ≤ 6) := by rw [← hq126 ()]; exact vx_fst_g w121 6
                have Hf126 := vq_first (I := I) (L := L) (K := K) (R := R) (n := n) (sl := sl) w121 6 (by omega) (by omega)
                rw [hq126 ()] at Hf126
                refine jv_Wp.lift (fun _ Kz => jv_Ev.c jv_i295 (pc' := 246) (S' := [.int (vl_I w126)]) jv_i282 [.int (vl_I w121), .int (6 : Int32)] rfl rfl rfl rfl rfl rfl Hf126 rfl rfl Kz) ?_
                refine jv_Wp.lift (fun _ Kz => jv_Ev.steps jv_i295 2 (pc' := 248) (l' := [(2, .int (vl_I w126)), (7, .int (0 : Int32)), (5, .long ((vl_I f.z).toInt64 - (1 : Int64))), (4, .int (vl_I (8 + (76800 + f.d)))), (3, .int (I 205 (76800 + f.d))), (1, .int (vl_I f.z)), (0, .ref 196)]) (st' := [.int (vl_I w126)]) rfl Kz) ?_
                refine jv_Wp.cnd jv_i295 (pt := 253) (pe := 251) (p := ((vl_I w126) ≤ 0)) (q := ((vl_I w126) ≤ 0)) rfl jv_bi_le rfl rfl Iff.rfl (fun h54 => ?_) (fun h54 => ?_)
                · refine jv_Wp.lift (fun _ Kz => jv_Ev.steps jv_i295 1 (pc' := 254) (l' := [(2, .int (vl_I w126)), (7, .int (0 : Int32)), (5, .long ((vl_I f.z).toInt64 - (1 : Int64))), (4, .int (vl_I (8 + (76800 + f.d)))), (3, .int (I 205 (76800 + f.d))), (1, .int (vl_I f.z)), (0, .ref 196)]) (st' := [.ref 196]) rfl Kz) ?_
                  refine jv_Wp.lift (fun _ Kz => jv_Ev.m jv_i295 (pc' := 257) (st' := [.int (Int32.ofInt f.i)]) (G' := (jv_H K I L R)) rfl rfl (jv_m_getI (jv_rwK hW 196 12 24 (by decide)) rfl rfl (vr_dJ D)) Kz) ?_
                  refine jv_Wp.lift (fun _ Kz => jv_Ev.steps jv_i295 1 (pc' := 260) (l' := [(2, .int (vl_I w126)), (7, .int (0 : Int32)), (5, .long ((vl_I f.z).toInt64 - (1 : Int64))), (4, .int (vl_I (8 + (76800 + f.d)))), (3, .int (I 205 (76800 + f.d))), (1, .int (vl_I f.z)), (0, .ref 196)]) (st' := [.int (241 : Int32), .int (Int32.ofInt f.i)]) rfl Kz) ?_
                  refine jv_Wp.cnd jv_i295 (pt := 272) (pe := 263) (p := (¬ (Int32.ofInt f.i) = (241 : Int32))) (q := (¬ (Int32.ofInt f.i) = (241 : Int32))) rfl jv_bc_ne rfl rfl Iff.rfl (fun hz => absurd hz (fun z => z h241)) (fun _ => ?_)
                  refine jv_Wp.lift (fun _ Kz => jv_Ev.steps jv_i295 3 (pc' := 266) (l' := [(2, .int (vl_I w126)), (7, .int (0 : Int32)), (5, .long ((vl_I f.z).toInt64 - (1 : Int64))), (4, .int (vl_I (8 + (76800 + f.d)))), (3, .int (I 205 (76800 + f.d))), (1, .int (vl_I f.z)), (0, .ref 196)]) (st' := [.int (vl_I f.z), .int (0 : Int32), .ref 196]) rfl Kz) ?_
                  obtain ⟨I127, L127, H127, T127, O127, F127⟩ := vq_setAny (I := I) (L := L) (R := R) (n := n) (sl := sl) 0 f.z hW hf (by omega) hz
                  refine jv_Wp.lift (fun _ Kz => jv_Ev.c jv_i295 (pc' := 269) (S' := []) (G1 := (jv_H K I127 L127 R)) jv_i274 [.ref 196, .int (0 : Int32), .int (vl_I f.z)] rfl rfl rfl rfl (jv_cal rfl (jv_H_at (jv_rwK hW 196 12 24 (by decide))) rfl rfl) rfl H127 rfl rfl Kz) ?_
                  refine jv_Wp.lift (fun _ Kz => jv_Ev.steps jv_i295 2 (pc' := 292) (l' := [(2, .int (vl_I w126)), (7, .int (0 : Int32)), (5, .long ((vl_I f.z).toInt64 - (1 : Int64))), (4, .int (vl_I (8 + (76800 + f.d)))), (3, .int (I 205 (76800 + f.d))), (1, .int (vl_I f.z)), (0, .ref 196)]) (st' := [.int (0 : Int32)]) rfl Kz) ?_
                  refine jv_Wp.of (jv_Ev.ret jv_i295 rfl rfl) ?_
                  rw [hQ]
                  have td0 : ¬ zd = 0 := fun z => h1 ((vr_isN (L := L) okd hd11).mp ((hd ()).trans z))
                  have td7 : zd = 7 := (hd ()).symm.trans ((vr_is (L := L) 7 (by decide) okd).mpr (Classical.not_not.mp h19))
                  have ts0 : ¬ zs = 0 := fun z => h38 ((vr_isN (L := L) oks hs11).mp ((hs ()).trans z))
                  have ts1 : ¬ zs = 1 := fun z => h44 ((vr_is (L := L) 1 (by decide) oks).mp ((hs ()).trans z))
                  have t00 : ¬ z0 = 0 := fun z => h50 ((vr_isN (L := L) ok0 (by decide)).mp ((h0 ()).trans z))
                  have t01 : ¬ z0 = 1 := fun z => h52 ((vr_is (L := L) 1 (by decide) ok0).mp ((h0 ()).trans z))
                  have nx1 : w126 ≤ 0 := (vl_I_le (a := w126) (b := 0) (by omega) (by omega)).mp h54
                  have ev : vx_even (vr_T I L (76800 + f.d)).val f.o f.z = false := by rw [vr_valv (by rw [(vr_is (L := L) 7 (by decide) okd).mp ((hd ()).trans (by omega))]; rfl), ← vr_dO D, vx_even_r hz]; exact (by rw [decide_eq_false h37]; rfl)
                  have r7 := vx_r7' (M := M) (A := (vr_A I L 1024)) (o := f.o) (z := f.z) (w := true) ((hd ()).trans (show zd = 7 by omega))
                  rw [hrr ()] at r7
                  exact absurd (show False by omega) (fun z => z)
                · refine jv_Wp.lift (fun _ Kz => jv_Ev.steps jv_i295 1 (pc' := 252) (l' := [(2, .int (vl_I w126)), (7, .int (0 : Int32)), (5, .long ((vl_I f.z).toInt64 - (1 : Int64))), (4, .int (vl_I (8 + (76800 + f.d)))), (3, .int (I 205 (76800 + f.d))), (1, .int (vl_I f.z)), (0, .ref 196)]) (st' := [.int (vl_I w126)]) rfl Kz) ?_
                  refine jv_Wp.of (jv_Ev.ret jv_i295 rfl rfl) ?_
                  rw [hQ]
                  have td0 : ¬ zd = 0 := fun z => h1 ((vr_isN (L := L) okd hd11).mp ((hd ()).trans z))
                  have td7 : zd = 7 := (hd ()).symm.trans ((vr_is (L := L) 7 (by decide) okd).mpr (Classical.not_not.mp h19))
                  have ts0 : ¬ zs = 0 := fun z => h38 ((vr_isN (L := L) oks hs11).mp ((hs ()).trans z))
                  have ts1 : ¬ zs = 1 := fun z => h44 ((vr_is (L := L) 1 (by decide) oks).mp ((hs ()).trans z))
                  have t00 : ¬ z0 = 0 := fun z => h50 ((vr_isN (L := L) ok0 (by decide)).mp ((h0 ()).trans z))
                  have t01 : ¬ z0 = 1 := fun z => h52 ((vr_is (L := L) 1 (by decide) ok0).mp ((h0 ()).trans z))
                  have nx1 : ¬ w126 ≤ 0 := fun z => h54 ((vl_I_le (a := w126) (b := 0) (by omega) (by omega)).mpr z)
                  have ev : vx_even (vr_T I L (76800 + f.d)).val f.o f.z = false := by rw [vr_valv (by rw [(vr_is (L := L) 7 (by decide) okd).mp ((hd ()).trans (by omega))]; rfl), ← vr_dO D, vx_even_r hz]; exact (by rw [decide_eq_false h37]; rfl)
                  have r7 := vx_r7' (M := M) (A := (vr_A I L 1024)) (o := f.o) (z := f.z) (w := true) ((hd ()).trans (show zd = 7 by omega))
                  rw [hrr ()] at r7
                  have e : vx_atp M f (vr_A I L 1024) = (w126, (vr_A I L 1024)) := by
                    by_cases c1 : zd = 0 ∨ zs = 0 ∨ (f.i = 241 ∧ z0 = 0)
                    · rw [show w126 = 1 by omega]; exact vx_at1 (by rw [eD, eS, e0, hd (), hs (), h0 ()]; omega)
                    · rw [show w126 = 4 by omega]; exact vx_at3 (by rw [eD, eS, e0, hd (), hs (), h0 ()]; omega) (by rw [eD, hd ()]; omega) (Or.inl (by rw [eD]; exact ev))
                  exact ⟨_, _, by rw [← eQ, e], fun z => by rw [← eQ, e] at z; exact absurd (show w126 = 0 from z) (by omega), vr_fr_refl hf⟩
      · refine jv_Wp.lift (fun _ Kz => jv_Ev.steps jv_i295 1 (pc' := 121) (l' := [(5, .long ((vl_I f.z).toInt64 - (1 : Int64))), (4, .int (vl_I (8 + (76800 + f.d)))), (2, .int (vl_I w105)), (3, .int (I 205 (76800 + f.d))), (1, .int (vl_I f.z)), (0, .ref 196)]) (st' := [.ref 196]) rfl Kz) ?_
        refine jv_Wp.lift (fun _ Kz => jv_Ev.m jv_i295 (pc' := 124) (st' := [.ref 208]) (G' := (jv_H K I L R)) rfl rfl (jv_m_getR (jv_rwK hW 196 12 24 (by decide)) rfl rfl (jv_rwR hW 196 16 208 (by decide))) Kz) ?_
        refine jv_Wp.lift (fun _ Kz => jv_Ev.m jv_i295 (pc' := 127) (st' := [.ref 209]) (G' := (jv_H K I L R)) rfl rfl (jv_m_getR (jv_rwK hW 208 11 7 (by decide)) rfl rfl (jv_rwR hW 208 0 209 (by decide))) Kz) ?_
        refine jv_Wp.lift (fun _ Kz => jv_Ev.steps jv_i295 1 (pc' := 129) (l' := [(5, .long ((vl_I f.z).toInt64 - (1 : Int64))), (4, .int (vl_I (8 + (76800 + f.d)))), (2, .int (vl_I w105)), (3, .int (I 205 (76800 + f.d))), (1, .int (vl_I f.z)), (0, .ref 196)]) (st' := [.int (vl_I (8 + (76800 + f.d))), .ref 209]) rfl Kz) ?_
        refine jv_Wp.lift (fun _ Kz => jv_Ev.m jv_i295 (pc' := 130) (st' := [.long (L 209 (8 + (76800 + f.d)))]) (G' := (jv_H K I L R)) rfl rfl (jv_m_laldv (jv_rwK hW 209 103 77200 (by decide)) rfl (vl_I_ix (by omega) (by decide)) rfl ((congrArg (L 209) (vl_I_nat (by omega))).trans rfl)) Kz) ?_
        refine jv_Wp.lift (fun _ Kz => jv_Ev.steps jv_i295 1 (pc' := 131) (l' := [(5, .long ((vl_I f.z).toInt64 - (1 : Int64))), (4, .int (vl_I (8 + (76800 + f.d)))), (2, .int (vl_I w105)), (3, .int (I 205 (76800 + f.d))), (1, .int (vl_I f.z)), (0, .ref 196)]) (st' := [.ref 196, .long (L 209 (8 + (76800 + f.d)))]) rfl Kz) ?_
        refine jv_Wp.lift (fun _ Kz => jv_Ev.m jv_i295 (pc' := 134) (st' := [.int (Int32.ofInt f.o), .long (L 209 (8 + (76800 + f.d)))]) (G' := (jv_H K I L R)) rfl rfl (jv_m_getI (jv_rwK hW 196 12 24 (by decide)) rfl rfl (vr_dI D)) Kz) ?_
        refine jv_Wp.lift (fun _ Kz => jv_Ev.steps jv_i295 6 (pc' := 141) (l' := [(5, .long ((vl_I f.z).toInt64 - (1 : Int64))), (4, .int (vl_I (8 + (76800 + f.d)))), (2, .int (vl_I w105)), (3, .int (I 205 (76800 + f.d))), (1, .int (vl_I f.z)), (0, .ref 196)]) (st' := [.int (lg_cmp (((L 209 (8 + (76800 + f.d))) + (Int32.ofInt f.o).toInt64) &&& ((vl_I f.z).toInt64 - (1 : Int64))) (0 : Int64))]) rfl Kz) ?_
        refine jv_Wp.cnd jv_i295 (pt := 148) (pe := 144) (p := (¬ (lg_cmp (((L 209 (8 + (76800 + f.d))) + (Int32.ofInt f.o).toInt64) &&& ((vl_I f.z).toInt64 - (1 : Int64))) (0 : Int64)) = 0)) (q := (¬ (((L 209 (8 + (76800 + f.d))) + (Int32.ofInt f.o).toInt64) &&& ((vl_I f.z).toInt64 - (1 : Int64))) = (0 : Int64))) rfl jv_bi_ne rfl rfl (not_congr (lg_cmp_eq (((L 209 (8 + (76800 + f.d))) + (Int32.ofInt f.o).toInt64) &&& ((vl_I f.z).toInt64 - (1 : Int64))) (0 : Int64))) (fun h55 => ?_) (fun h55 => ?_)
        · refine jv_Wp.lift (fun _ Kz => jv_Ev.steps jv_i295 4 (pc' := 154) (l' := [(7, .int (0 : Int32)), (5, .long ((vl_I f.z).toInt64 - (1 : Int64))), (4, .int (vl_I (8 + (76800 + f.d)))), (2, .int (vl_I w105)), (3, .int (I 205 (76800 + f.d))), (1, .int (vl_I f.z)), (0, .ref 196)]) (st' := [.int (0 : Int32), .int (vl_I w105)]) rfl Kz) ?_
          refine jv_Wp.lift (fun _ Kz => jv_Ev.br jv_i295 (pc' := 170) (st' := [.int (vl_I w105)]) rfl (by rfl) Kz) ?_
          refine jv_Wp.lift (fun _ Kz => jv_Ev.steps jv_i295 1 (pc' := 171) (l' := [(7, .int (0 : Int32)), (5, .long ((vl_I f.z).toInt64 - (1 : Int64))), (4, .int (vl_I (8 + (76800 + f.d)))), (2, .int (vl_I w105)), (3, .int (I 205 (76800 + f.d))), (1, .int (vl_I f.z)), (0, .ref 196)]) (st' := [.int (4 : Int32), .int (vl_I w105)]) rfl Kz) ?_
          obtain ⟨w128, hq128⟩ : ∃ x : Nat, ∀ _ : Unit, vx_fst w105 4 = x := ⟨_, fun _ => rfl⟩
          have fq128 : (w105 = 0 → w128 = 4) ∧ (4 = 0 → w128 = w105) ∧ (w128 = w105 ∨ w128 = 4) ∧ (w105 ≠ 0 → 4 ≠ 0 → w128 ≤ w105 ∧ w128 ≤ 4) := by rw [← hq128 ()]; exact vx_fst_g w105 4
          have Hf128 := vq_first (I := I) (L := L) (K := K) (R := R) (n := n) (sl := sl) w105 4 (by omega) (by omega)
          rw [hq128 ()] at Hf128
          refine jv_Wp.lift (fun _ Kz => jv_Ev.c jv_i295 (pc' := 174) (S' := [.int (vl_I w128)]) jv_i282 [.int (vl_I w105), .int (4 : Int32)] rfl rfl rfl rfl rfl rfl Hf128 rfl rfl Kz) ?_
          refine jv_Wp.lift (fun _ Kz => jv_Ev.steps jv_i295 4 (pc' := 178) (l' := [(2, .int (vl_I w128)), (7, .int (0 : Int32)), (5, .long ((vl_I f.z).toInt64 - (1 : Int64))), (4, .int (vl_I (8 + (76800 + f.d)))), (3, .int (I 205 (76800 + f.d))), (1, .int (vl_I f.z)), (0, .ref 196)]) (st' := [.ref 196, .ref 196, .int (vl_I w128)]) rfl Kz) ?_
          refine jv_Wp.lift (fun _ Kz => jv_Ev.m jv_i295 (pc' := 181) (st' := [.int (vl_I f.s), .ref 196, .int (vl_I w128)]) (G' := (jv_H K I L R)) rfl rfl (jv_m_getI (jv_rwK hW 196 12 24 (by decide)) rfl rfl D.2.2.1) Kz) ?_
          refine jv_Wp.lift (fun _ Kz => jv_Ev.c jv_i295 (pc' := 184) (S' := [.int (I 205 (76800 + f.s)), .int (vl_I w128)]) jv_i271 [.ref 196, .int (vl_I f.s)] rfl rfl rfl rfl (jv_cal rfl (jv_H_at (jv_rwK hW 196 12 24 (by decide))) rfl rfl) rfl (vq_sortOf f.s hW (by omega)) rfl rfl Kz) ?_
          refine jv_Wp.cnd jv_i295 (pt := 204) (pe := 187) (p := ((I 205 (76800 + f.s)) = 0)) (q := ((I 205 (76800 + f.s)) = 0)) rfl jv_bi_eq rfl rfl Iff.rfl (fun h56 => ?_) (fun h56 => ?_)
          · refine jv_Wp.lift (fun _ Kz => jv_Ev.steps jv_i295 1 (pc' := 205) (l' := [(2, .int (vl_I w128)), (7, .int (0 : Int32)), (5, .long ((vl_I f.z).toInt64 - (1 : Int64))), (4, .int (vl_I (8 + (76800 + f.d)))), (3, .int (I 205 (76800 + f.d))), (1, .int (vl_I f.z)), (0, .ref 196)]) (st' := [.int (0 : Int32), .int (vl_I w128)]) rfl Kz) ?_
            obtain ⟨w129, hq129⟩ : ∃ x : Nat, ∀ _ : Unit, vx_fst w128 0 = x := ⟨_, fun _ => rfl⟩
            have fq129 : (w128 = 0 → w129 = 0) ∧ (0 = 0 → w129 = w128) ∧ (w129 = w128 ∨ w129 = 0) ∧ (w128 ≠ 0 → 0 ≠ 0 → w129 ≤ w128 ∧ w129 ≤ 0) := by rw [← hq129 ()]; exact vx_fst_g w128 0
            have Hf129 := vq_first (I := I) (L := L) (K := K) (R := R) (n := n) (sl := sl) w128 0 (by omega) (by omega)
            rw [hq129 ()] at Hf129
            refine jv_Wp.lift (fun _ Kz => jv_Ev.c jv_i295 (pc' := 208) (S' := [.int (vl_I w129)]) jv_i282 [.int (vl_I w128), .int (0 : Int32)] rfl rfl rfl rfl rfl rfl Hf129 rfl rfl Kz) ?_
            refine jv_Wp.lift (fun _ Kz => jv_Ev.steps jv_i295 3 (pc' := 211) (l' := [(2, .int (vl_I w129)), (7, .int (0 : Int32)), (5, .long ((vl_I f.z).toInt64 - (1 : Int64))), (4, .int (vl_I (8 + (76800 + f.d)))), (3, .int (I 205 (76800 + f.d))), (1, .int (vl_I f.z)), (0, .ref 196)]) (st' := [.ref 196, .int (vl_I w129)]) rfl Kz) ?_
            refine jv_Wp.lift (fun _ Kz => jv_Ev.m jv_i295 (pc' := 214) (st' := [.int (Int32.ofInt f.i), .int (vl_I w129)]) (G' := (jv_H K I L R)) rfl rfl (jv_m_getI (jv_rwK hW 196 12 24 (by decide)) rfl rfl (vr_dJ D)) Kz) ?_
            refine jv_Wp.lift (fun _ Kz => jv_Ev.steps jv_i295 1 (pc' := 217) (l' := [(2, .int (vl_I w129)), (7, .int (0 : Int32)), (5, .long ((vl_I f.z).toInt64 - (1 : Int64))), (4, .int (vl_I (8 + (76800 + f.d)))), (3, .int (I 205 (76800 + f.d))), (1, .int (vl_I f.z)), (0, .ref 196)]) (st' := [.int (241 : Int32), .int (Int32.ofInt f.i), .int (vl_I w129)]) rfl Kz) ?_
            refine jv_Wp.cnd jv_i295 (pt := 242) (pe := 220) (p := (¬ (Int32.ofInt f.i) = (241 : Int32))) (q := (¬ (Int32.ofInt f.i) = (241 : Int32))) rfl jv_bc_ne rfl rfl Iff.rfl (fun hz => absurd hz (fun z => z h241)) (fun _ => ?_)
            refine jv_Wp.lift (fun _ Kz => jv_Ev.steps jv_i295 2 (pc' := 222) (l' := [(2, .int (vl_I w129)), (7, .int (0 : Int32)), (5, .long ((vl_I f.z).toInt64 - (1 : Int64))), (4, .int (vl_I (8 + (76800 + f.d)))), (3, .int (I 205 (76800 + f.d))), (1, .int (vl_I f.z)), (0, .ref 196)]) (st' := [.int (0 : Int32), .ref 196, .int (vl_I w129)]) rfl Kz) ?_
            refine jv_Wp.lift (fun _ Kz => jv_Ev.c jv_i295 (pc' := 225) (S' := [.int (I 205 (76800 + 0)), .int (vl_I w129)]) jv_i271 [.ref 196, .int (0 : Int32)] rfl rfl rfl rfl (jv_cal rfl (jv_H_at (jv_rwK hW 196 12 24 (by decide))) rfl rfl) rfl (vq_sortOf 0 hW (by omega)) rfl rfl Kz) ?_
            refine jv_Wp.cnd jv_i295 (pt := 242) (pe := 228) (p := ((I 205 (76800 + 0)) = 0)) (q := ((I 205 (76800 + 0)) = 0)) rfl jv_bi_eq rfl rfl Iff.rfl (fun h57 => ?_) (fun h57 => ?_)
            · refine jv_Wp.lift (fun _ Kz => jv_Ev.steps jv_i295 1 (pc' := 243) (l' := [(2, .int (vl_I w129)), (7, .int (0 : Int32)), (5, .long ((vl_I f.z).toInt64 - (1 : Int64))), (4, .int (vl_I (8 + (76800 + f.d)))), (3, .int (I 205 (76800 + f.d))), (1, .int (vl_I f.z)), (0, .ref 196)]) (st' := [.int (0 : Int32), .int (vl_I w129)]) rfl Kz) ?_
              obtain ⟨w130, hq130⟩ : ∃ x : Nat, ∀ _ : Unit, vx_fst w129 0 = x := ⟨_, fun _ => rfl⟩
              have fq130 : (w129 = 0 → w130 = 0) ∧ (0 = 0 → w130 = w129) ∧ (w130 = w129 ∨ w130 = 0) ∧ (w129 ≠ 0 → 0 ≠ 0 → w130 ≤ w129 ∧ w130 ≤ 0) := by rw [← hq130 ()]; exact vx_fst_g w129 0
              have Hf130 := vq_first (I := I) (L := L) (K := K) (R := R) (n := n) (sl := sl) w129 0 (by omega) (by omega)
              rw [hq130 ()] at Hf130
              refine jv_Wp.lift (fun _ Kz => jv_Ev.c jv_i295 (pc' := 246) (S' := [.int (vl_I w130)]) jv_i282 [.int (vl_I w129), .int (0 : Int32)] rfl rfl rfl rfl rfl rfl Hf130 rfl rfl Kz) ?_
              refine jv_Wp.lift (fun _ Kz => jv_Ev.steps jv_i295 2 (pc' := 248) (l' := [(2, .int (vl_I w130)), (7, .int (0 : Int32)), (5, .long ((vl_I f.z).toInt64 - (1 : Int64))), (4, .int (vl_I (8 + (76800 + f.d)))), (3, .int (I 205 (76800 + f.d))), (1, .int (vl_I f.z)), (0, .ref 196)]) (st' := [.int (vl_I w130)]) rfl Kz) ?_
              refine jv_Wp.cnd jv_i295 (pt := 253) (pe := 251) (p := ((vl_I w130) ≤ 0)) (q := ((vl_I w130) ≤ 0)) rfl jv_bi_le rfl rfl Iff.rfl (fun h58 => ?_) (fun h58 => ?_)
              · refine jv_Wp.lift (fun _ Kz => jv_Ev.steps jv_i295 1 (pc' := 254) (l' := [(2, .int (vl_I w130)), (7, .int (0 : Int32)), (5, .long ((vl_I f.z).toInt64 - (1 : Int64))), (4, .int (vl_I (8 + (76800 + f.d)))), (3, .int (I 205 (76800 + f.d))), (1, .int (vl_I f.z)), (0, .ref 196)]) (st' := [.ref 196]) rfl Kz) ?_
                refine jv_Wp.lift (fun _ Kz => jv_Ev.m jv_i295 (pc' := 257) (st' := [.int (Int32.ofInt f.i)]) (G' := (jv_H K I L R)) rfl rfl (jv_m_getI (jv_rwK hW 196 12 24 (by decide)) rfl rfl (vr_dJ D)) Kz) ?_
                refine jv_Wp.lift (fun _ Kz => jv_Ev.steps jv_i295 1 (pc' := 260) (l' := [(2, .int (vl_I w130)), (7, .int (0 : Int32)), (5, .long ((vl_I f.z).toInt64 - (1 : Int64))), (4, .int (vl_I (8 + (76800 + f.d)))), (3, .int (I 205 (76800 + f.d))), (1, .int (vl_I f.z)), (0, .ref 196)]) (st' := [.int (241 : Int32), .int (Int32.ofInt f.i)]) rfl Kz) ?_
                refine jv_Wp.cnd jv_i295 (pt := 272) (pe := 263) (p := (¬ (Int32.ofInt f.i) = (241 : Int32))) (q := (¬ (Int32.ofInt f.i) = (241 : Int32))) rfl jv_bc_ne rfl rfl Iff.rfl (fun hz => absurd hz (fun z => z h241)) (fun _ => ?_)
                refine jv_Wp.lift (fun _ Kz => jv_Ev.steps jv_i295 3 (pc' := 266) (l' := [(2, .int (vl_I w130)), (7, .int (0 : Int32)), (5, .long ((vl_I f.z).toInt64 - (1 : Int64))), (4, .int (vl_I (8 + (76800 + f.d)))), (3, .int (I 205 (76800 + f.d))), (1, .int (vl_I f.z)), (0, .ref 196)]) (st' := [.int (vl_I f.z), .int (0 : Int32), .ref 196]) rfl Kz) ?_
                obtain ⟨I131, L131, H131, T131, O131, F131⟩ := vq_setAny (I := I) (L := L) (R := R) (n := n) (sl := sl) 0 f.z hW hf (by omega) hz
                refine jv_Wp.lift (fun _ Kz => jv_Ev.c jv_i295 (pc' := 269) (S' := []) (G1 := (jv_H K I131 L131 R)) jv_i274 [.ref 196, .int (0 : Int32), .int (vl_I f.z)] rfl rfl rfl rfl (jv_cal rfl (jv_H_at (jv_rwK hW 196 12 24 (by decide))) rfl rfl) rfl H131 rfl rfl Kz) ?_
                refine jv_Wp.lift (fun _ Kz => jv_Ev.steps jv_i295 2 (pc' := 292) (l' := [(2, .int (vl_I w130)), (7, .int (0 : Int32)), (5, .long ((vl_I f.z).toInt64 - (1 : Int64))), (4, .int (vl_I (8 + (76800 + f.d)))), (3, .int (I 205 (76800 + f.d))), (1, .int (vl_I f.z)), (0, .ref 196)]) (st' := [.int (0 : Int32)]) rfl Kz) ?_
                refine jv_Wp.of (jv_Ev.ret jv_i295 rfl rfl) ?_
                rw [hQ]
                have td0 : ¬ zd = 0 := fun z => h1 ((vr_isN (L := L) okd hd11).mp ((hd ()).trans z))
                have td7 : zd = 7 := (hd ()).symm.trans ((vr_is (L := L) 7 (by decide) okd).mpr (Classical.not_not.mp h19))
                have ts0 : zs = 0 := (hs ()).symm.trans ((vr_isN (L := L) oks hs11).mpr h56)
                have t00 : z0 = 0 := (h0 ()).symm.trans ((vr_isN (L := L) ok0 (by decide)).mpr h57)
                have nx1 : w130 ≤ 0 := (vl_I_le (a := w130) (b := 0) (by omega) (by omega)).mp h58
                have ev : vx_even (vr_T I L (76800 + f.d)).val f.o f.z = false := by rw [vr_valv (by rw [(vr_is (L := L) 7 (by decide) okd).mp ((hd ()).trans (by omega))]; rfl), ← vr_dO D, vx_even_r hz]; exact (by rw [decide_eq_false h55, Bool.and_false])
                have r7 := vx_r7' (M := M) (A := (vr_A I L 1024)) (o := f.o) (z := f.z) (w := true) ((hd ()).trans (show zd = 7 by omega))
                rw [hrr ()] at r7
                exact absurd (show False by omega) (fun z => z)
              · refine jv_Wp.lift (fun _ Kz => jv_Ev.steps jv_i295 1 (pc' := 252) (l' := [(2, .int (vl_I w130)), (7, .int (0 : Int32)), (5, .long ((vl_I f.z).toInt64 - (1 : Int64))), (4, .int (vl_I (8 + (76800 + f.d)))), (3, .int (I 205 (76800 + f.d))), (1, .int (vl_I f.z)), (0, .ref 196)]) (st' := [.int (vl_I w130)]) rfl Kz) ?_
                refine jv_Wp.of (jv_Ev.ret jv_i295 rfl rfl) ?_
                rw [hQ]
                have td0 : ¬ zd = 0 := fun z => h1 ((vr_isN (L := L) okd hd11).mp ((hd ()).trans z))
                have td7 : zd = 7 := (hd ()).symm.trans ((vr_is (L := L) 7 (by decide) okd).mpr (Classical.not_not.mp h19))
                have ts0 : zs = 0 := (hs ()).symm.trans ((vr_isN (L := L) oks hs11).mpr h56)
                have t00 : z0 = 0 := (h0 ()).symm.trans ((vr_isN (L := L) ok0 (by decide)).mpr h57)
                have nx1 : ¬ w130 ≤ 0 := fun z => h58 ((vl_I_le (a := w130) (b := 0) (by omega) (by omega)).mpr z)
                have ev : vx_even (vr_T I L (76800 + f.d)).val f.o f.z = false := by rw [vr_valv (by rw [(vr_is (L := L) 7 (by decide) okd).mp ((hd ()).trans (by omega))]; rfl), ← vr_dO D, vx_even_r hz]; exact (by rw [decide_eq_false h55, Bool.and_false])
                have r7 := vx_r7' (M := M) (A := (vr_A I L 1024)) (o := f.o) (z := f.z) (w := true) ((hd ()).trans (show zd = 7 by omega))
                rw [hrr ()] at r7
                have e : vx_atp M f (vr_A I L 1024) = (w130, (vr_A I L 1024)) := by
                  by_cases c1 : zd = 0 ∨ zs = 0 ∨ (f.i = 241 ∧ z0 = 0)
                  · rw [show w130 = 1 by omega]; exact vx_at1 (by rw [eD, eS, e0, hd (), hs (), h0 ()]; omega)
                  · rw [show w130 = 4 by omega]; exact vx_at3 (by rw [eD, eS, e0, hd (), hs (), h0 ()]; omega) (by rw [eD, hd ()]; omega) (Or.inl (by rw [eD]; exact ev))
                exact ⟨_, _, by rw [← eQ, e], fun z => by rw [← eQ, e] at z; exact absurd (show w130 = 0 from z) (by omega), vr_fr_refl hf⟩
            · refine jv_Wp.lift (fun _ Kz => jv_Ev.steps jv_i295 2 (pc' := 230) (l' := [(2, .int (vl_I w129)), (7, .int (0 : Int32)), (5, .long ((vl_I f.z).toInt64 - (1 : Int64))), (4, .int (vl_I (8 + (76800 + f.d)))), (3, .int (I 205 (76800 + f.d))), (1, .int (vl_I f.z)), (0, .ref 196)]) (st' := [.int (0 : Int32), .ref 196, .int (vl_I w129)]) rfl Kz) ?_
              refine jv_Wp.lift (fun _ Kz => jv_Ev.c jv_i295 (pc' := 233) (S' := [.int (I 205 (76800 + 0)), .int (vl_I w129)]) jv_i271 [.ref 196, .int (0 : Int32)] rfl rfl rfl rfl (jv_cal rfl (jv_H_at (jv_rwK hW 196 12 24 (by decide))) rfl rfl) rfl (vq_sortOf 0 hW (by omega)) rfl rfl Kz) ?_
              refine jv_Wp.lift (fun _ Kz => jv_Ev.steps jv_i295 1 (pc' := 234) (l' := [(2, .int (vl_I w129)), (7, .int (0 : Int32)), (5, .long ((vl_I f.z).toInt64 - (1 : Int64))), (4, .int (vl_I (8 + (76800 + f.d)))), (3, .int (I 205 (76800 + f.d))), (1, .int (vl_I f.z)), (0, .ref 196)]) (st' := [.int (1 : Int32), .int (I 205 (76800 + 0)), .int (vl_I w129)]) rfl Kz) ?_
              refine jv_Wp.cnd jv_i295 (pt := 242) (pe := 237) (p := ((I 205 (76800 + 0)) = (1 : Int32))) (q := ((I 205 (76800 + 0)) = (1 : Int32))) rfl jv_bc_eq rfl rfl Iff.rfl (fun h59 => ?_) (fun h59 => ?_)
              · refine jv_Wp.lift (fun _ Kz => jv_Ev.steps jv_i295 1 (pc' := 243) (l' := [(2, .int (vl_I w129)), (7, .int (0 : Int32)), (5, .long ((vl_I f.z).toInt64 - (1 : Int64))), (4, .int (vl_I (8 + (76800 + f.d)))), (3, .int (I 205 (76800 + f.d))), (1, .int (vl_I f.z)), (0, .ref 196)]) (st' := [.int (0 : Int32), .int (vl_I w129)]) rfl Kz) ?_
                obtain ⟨w132, hq132⟩ : ∃ x : Nat, ∀ _ : Unit, vx_fst w129 0 = x := ⟨_, fun _ => rfl⟩
                have fq132 : (w129 = 0 → w132 = 0) ∧ (0 = 0 → w132 = w129) ∧ (w132 = w129 ∨ w132 = 0) ∧ (w129 ≠ 0 → 0 ≠ 0 → w132 ≤ w129 ∧ w132 ≤ 0) := by rw [← hq132 ()]; exact vx_fst_g w129 0
                have Hf132 := vq_first (I := I) (L := L) (K := K) (R := R) (n := n) (sl := sl) w129 0 (by omega) (by omega)
                rw [hq132 ()] at Hf132
                refine jv_Wp.lift (fun _ Kz => jv_Ev.c jv_i295 (pc' := 246) (S' := [.int (vl_I w132)]) jv_i282 [.int (vl_I w129), .int (0 : Int32)] rfl rfl rfl rfl rfl rfl Hf132 rfl rfl Kz) ?_
                refine jv_Wp.lift (fun _ Kz => jv_Ev.steps jv_i295 2 (pc' := 248) (l' := [(2, .int (vl_I w132)), (7, .int (0 : Int32)), (5, .long ((vl_I f.z).toInt64 - (1 : Int64))), (4, .int (vl_I (8 + (76800 + f.d)))), (3, .int (I 205 (76800 + f.d))), (1, .int (vl_I f.z)), (0, .ref 196)]) (st' := [.int (vl_I w132)]) rfl Kz) ?_
                refine jv_Wp.cnd jv_i295 (pt := 253) (pe := 251) (p := ((vl_I w132) ≤ 0)) (q := ((vl_I w132) ≤ 0)) rfl jv_bi_le rfl rfl Iff.rfl (fun h60 => ?_) (fun h60 => ?_)
                · refine jv_Wp.lift (fun _ Kz => jv_Ev.steps jv_i295 1 (pc' := 254) (l' := [(2, .int (vl_I w132)), (7, .int (0 : Int32)), (5, .long ((vl_I f.z).toInt64 - (1 : Int64))), (4, .int (vl_I (8 + (76800 + f.d)))), (3, .int (I 205 (76800 + f.d))), (1, .int (vl_I f.z)), (0, .ref 196)]) (st' := [.ref 196]) rfl Kz) ?_
                  refine jv_Wp.lift (fun _ Kz => jv_Ev.m jv_i295 (pc' := 257) (st' := [.int (Int32.ofInt f.i)]) (G' := (jv_H K I L R)) rfl rfl (jv_m_getI (jv_rwK hW 196 12 24 (by decide)) rfl rfl (vr_dJ D)) Kz) ?_
                  refine jv_Wp.lift (fun _ Kz => jv_Ev.steps jv_i295 1 (pc' := 260) (l' := [(2, .int (vl_I w132)), (7, .int (0 : Int32)), (5, .long ((vl_I f.z).toInt64 - (1 : Int64))), (4, .int (vl_I (8 + (76800 + f.d)))), (3, .int (I 205 (76800 + f.d))), (1, .int (vl_I f.z)), (0, .ref 196)]) (st' := [.int (241 : Int32), .int (Int32.ofInt f.i)]) rfl Kz) ?_
                  refine jv_Wp.cnd jv_i295 (pt := 272) (pe := 263) (p := (¬ (Int32.ofInt f.i) = (241 : Int32))) (q := (¬ (Int32.ofInt f.i) = (241 : Int32))) rfl jv_bc_ne rfl rfl Iff.rfl (fun hz => absurd hz (fun z => z h241)) (fun _ => ?_)
                  refine jv_Wp.lift (fun _ Kz => jv_Ev.steps jv_i295 3 (pc' := 266) (l' := [(2, .int (vl_I w132)), (7, .int (0 : Int32)), (5, .long ((vl_I f.z).toInt64 - (1 : Int64))), (4, .int (vl_I (8 + (76800 + f.d)))), (3, .int (I 205 (76800 + f.d))), (1, .int (vl_I f.z)), (0, .ref 196)]) (st' := [.int (vl_I f.z), .int (0 : Int32), .ref 196]) rfl Kz) ?_
                  obtain ⟨I133, L133, H133, T133, O133, F133⟩ := vq_setAny (I := I) (L := L) (R := R) (n := n) (sl := sl) 0 f.z hW hf (by omega) hz
                  refine jv_Wp.lift (fun _ Kz => jv_Ev.c jv_i295 (pc' := 269) (S' := []) (G1 := (jv_H K I133 L133 R)) jv_i274 [.ref 196, .int (0 : Int32), .int (vl_I f.z)] rfl rfl rfl rfl (jv_cal rfl (jv_H_at (jv_rwK hW 196 12 24 (by decide))) rfl rfl) rfl H133 rfl rfl Kz) ?_
                  refine jv_Wp.lift (fun _ Kz => jv_Ev.steps jv_i295 2 (pc' := 292) (l' := [(2, .int (vl_I w132)), (7, .int (0 : Int32)), (5, .long ((vl_I f.z).toInt64 - (1 : Int64))), (4, .int (vl_I (8 + (76800 + f.d)))), (3, .int (I 205 (76800 + f.d))), (1, .int (vl_I f.z)), (0, .ref 196)]) (st' := [.int (0 : Int32)]) rfl Kz) ?_
                  refine jv_Wp.of (jv_Ev.ret jv_i295 rfl rfl) ?_
                  rw [hQ]
                  have td0 : ¬ zd = 0 := fun z => h1 ((vr_isN (L := L) okd hd11).mp ((hd ()).trans z))
                  have td7 : zd = 7 := (hd ()).symm.trans ((vr_is (L := L) 7 (by decide) okd).mpr (Classical.not_not.mp h19))
                  have ts0 : zs = 0 := (hs ()).symm.trans ((vr_isN (L := L) oks hs11).mpr h56)
                  have t00 : ¬ z0 = 0 := fun z => h57 ((vr_isN (L := L) ok0 (by decide)).mp ((h0 ()).trans z))
                  have t01 : z0 = 1 := (h0 ()).symm.trans ((vr_is (L := L) 1 (by decide) ok0).mpr h59)
                  have nx1 : w132 ≤ 0 := (vl_I_le (a := w132) (b := 0) (by omega) (by omega)).mp h60
                  have ev : vx_even (vr_T I L (76800 + f.d)).val f.o f.z = false := by rw [vr_valv (by rw [(vr_is (L := L) 7 (by decide) okd).mp ((hd ()).trans (by omega))]; rfl), ← vr_dO D, vx_even_r hz]; exact (by rw [decide_eq_false h55, Bool.and_false])
                  have r7 := vx_r7' (M := M) (A := (vr_A I L 1024)) (o := f.o) (z := f.z) (w := true) ((hd ()).trans (show zd = 7 by omega))
                  rw [hrr ()] at r7
                  exact absurd (show False by omega) (fun z => z)
                · refine jv_Wp.lift (fun _ Kz => jv_Ev.steps jv_i295 1 (pc' := 252) (l' := [(2, .int (vl_I w132)), (7, .int (0 : Int32)), (5, .long ((vl_I f.z).toInt64 - (1 : Int64))), (4, .int (vl_I (8 + (76800 + f.d)))), (3, .int (I 205 (76800 + f.d))), (1, .int (vl_I f.z)), (0, .ref 196)]) (st' := [.int (vl_I w132)]) rfl Kz) ?_
                  refine jv_Wp.of (jv_Ev.ret jv_i295 rfl rfl) ?_
                  rw [hQ]
                  have td0 : ¬ zd = 0 := fun z => h1 ((vr_isN (L := L) okd hd11).mp ((hd ()).trans z))
                  have td7 : zd = 7 := (hd ()).symm.trans ((vr_is (L := L) 7 (by decide) okd).mpr (Classical.not_not.mp h19))
                  have ts0 : zs = 0 := (hs ()).symm.trans ((vr_isN (L := L) oks hs11).mpr h56)
                  have t00 : ¬ z0 = 0 := fun z => h57 ((vr_isN (L := L) ok0 (by decide)).mp ((h0 ()).trans z))
                  have t01 : z0 = 1 := (h0 ()).symm.trans ((vr_is (L := L) 1 (by decide) ok0).mpr h59)
                  have nx1 : ¬ w132 ≤ 0 := fun z => h60 ((vl_I_le (a := w132) (b := 0) (by omega) (by omega)).mpr z)
                  have ev : vx_even (vr_T I L (76800 + f.d)).val f.o f.z = false := by rw [vr_valv (by rw [(vr_is (L := L) 7 (by decide) okd).mp ((hd ()).trans (by omega))]; rfl), ← vr_dO D, vx_even_r hz]; exact (by rw [decide_eq_false h55, Bool.and_false])
                  have r7 := vx_r7' (M := M) (A := (vr_A I L 1024)) (o := f.o) (z := f.z) (w := true) ((hd ()).trans (show zd = 7 by omega))
                  rw [hrr ()] at r7
                  have e : vx_atp M f (vr_A I L 1024) = (w132, (vr_A I L 1024)) := by
                    by_cases c1 : zd = 0 ∨ zs = 0 ∨ (f.i = 241 ∧ z0 = 0)
                    · rw [show w132 = 1 by omega]; exact vx_at1 (by rw [eD, eS, e0, hd (), hs (), h0 ()]; omega)
                    · rw [show w132 = 4 by omega]; exact vx_at3 (by rw [eD, eS, e0, hd (), hs (), h0 ()]; omega) (by rw [eD, hd ()]; omega) (Or.inl (by rw [eD]; exact ev))
                  exact ⟨_, _, by rw [← eQ, e], fun z => by rw [← eQ, e] at z; exact absurd (show w132 = 0 from z) (by omega), vr_fr_refl hf⟩
              · refine jv_Wp.lift (fun _ Kz => jv_Ev.steps jv_i295 2 (pc' := 243) (l' := [(2, .int (vl_I w129)), (7, .int (0 : Int32)), (5, .long ((vl_I f.z).toInt64 - (1 : Int64))), (4, .int (vl_I (8 + (76800 + f.d)))), (3, .int (I 205 (76800 + f.d))), (1, .int (vl_I f.z)), (0, .ref 196)]) (st' := [.int (6 : Int32), .int (vl_I w129)]) rfl Kz) ?_
                obtain ⟨w134, hq134⟩ : ∃ x : Nat, ∀ _ : Unit, vx_fst w129 6 = x := ⟨_, fun _ => rfl⟩
                have fq134 : (w129 = 0 → w134 = 6) ∧ (6 = 0 → w134 = w129) ∧ (w134 = w129 ∨ w134 = 6) ∧ (w129 ≠ 0 → 6 ≠ 0 → w134 ≤ w129 ∧ w134 ≤ 6) := by rw [← hq134 ()]; exact vx_fst_g w129 6
                have Hf134 := vq_first (I := I) (L := L) (K := K) (R := R) (n := n) (sl := sl) w129 6 (by omega) (by omega)
                rw [hq134 ()] at Hf134
                refine jv_Wp.lift (fun _ Kz => jv_Ev.c jv_i295 (pc' := 246) (S' := [.int (vl_I w134)]) jv_i282 [.int (vl_I w129), .int (6 : Int32)] rfl rfl rfl rfl rfl rfl Hf134 rfl rfl Kz) ?_
                refine jv_Wp.lift (fun _ Kz => jv_Ev.steps jv_i295 2 (pc' := 248) (l' := [(2, .int (vl_I w134)), (7, .int (0 : Int32)), (5, .long ((vl_I f.z).toInt64 - (1 : Int64))), (4, .int (vl_I (8 + (76800 + f.d)))), (3, .int (I 205 (76800 + f.d))), (1, .int (vl_I f.z)), (0, .ref 196)]) (st' := [.int (vl_I w134)]) rfl Kz) ?_
                refine jv_Wp.cnd jv_i295 (pt := 253) (pe := 251) (p := ((vl_I w134) ≤ 0)) (q := ((vl_I w134) ≤ 0)) rfl jv_bi_le rfl rfl Iff.rfl (fun h61 => ?_) (fun h61 => ?_)
                · refine jv_Wp.lift (fun _ Kz => jv_Ev.steps jv_i295 1 (pc' := 254) (l' := [(2, .int (vl_I w134)), (7, .int (0 : Int32)), (5, .long ((vl_I f.z).toInt64 - (1 : Int64))), (4, .int (vl_I (8 + (76800 + f.d)))), (3, .int (I 205 (76800 + f.d))), (1, .int (vl_I f.z)), (0, .ref 196)]) (st' := [.ref 196]) rfl Kz) ?_
                  refine jv_Wp.lift (fun _ Kz => jv_Ev.m jv_i295 (pc' := 257) (st' := [.int (Int32.ofInt f.i)]) (G' := (jv_H K I L R)) rfl rfl (jv_m_getI (jv_rwK hW 196 12 24 (by decide)) rfl rfl (vr_dJ D)) Kz) ?_
                  refine jv_Wp.lift (fun _ Kz => jv_Ev.steps jv_i295 1 (pc' := 260) (l' := [(2, .int (vl_I w134)), (7, .int (0 : Int32)), (5, .long ((vl_I f.z).toInt64 - (1 : Int64))), (4, .int (vl_I (8 + (76800 + f.d)))), (3, .int (I 205 (76800 + f.d))), (1, .int (vl_I f.z)), (0, .ref 196)]) (st' := [.int (241 : Int32), .int (Int32.ofInt f.i)]) rfl Kz) ?_
                  refine jv_Wp.cnd jv_i295 (pt := 272) (pe := 263) (p := (¬ (Int32.ofInt f.i) = (241 : Int32))) (q := (¬ (Int32.ofInt f.i) = (241 : Int32))) rfl jv_bc_ne rfl rfl Iff.rfl (fun hz => absurd hz (fun z => z h241)) (fun _ => ?_)
                  refine jv_Wp.lift (fun _ Kz => jv_Ev.steps jv_i295 3 (pc' := 266) (l' := [(2, .int (vl_I w134)), (7, .int (0 : Int32)), (5, .long ((vl_I f.z).toInt64 - (1 : Int64))), (4, .int (vl_I (8 + (76800 + f.d)))), (3, .int (I 205 (76800 + f.d))), (1, .int (vl_I f.z)), (0, .ref 196)]) (st' := [.int (vl_I f.z), .int (0 : Int32), .ref 196]) rfl Kz) ?_
                  obtain ⟨I135, L135, H135, T135, O135, F135⟩ := vq_setAny (I := I) (L := L) (R := R) (n := n) (sl := sl) 0 f.z hW hf (by omega) hz
                  refine jv_Wp.lift (fun _ Kz => jv_Ev.c jv_i295 (pc' := 269) (S' := []) (G1 := (jv_H K I135 L135 R)) jv_i274 [.ref 196, .int (0 : Int32), .int (vl_I f.z)] rfl rfl rfl rfl (jv_cal rfl (jv_H_at (jv_rwK hW 196 12 24 (by decide))) rfl rfl) rfl H135 rfl rfl Kz) ?_
                  refine jv_Wp.lift (fun _ Kz => jv_Ev.steps jv_i295 2 (pc' := 292) (l' := [(2, .int (vl_I w134)), (7, .int (0 : Int32)), (5, .long ((vl_I f.z).toInt64 - (1 : Int64))), (4, .int (vl_I (8 + (76800 + f.d)))), (3, .int (I 205 (76800 + f.d))), (1, .int (vl_I f.z)), (0, .ref 196)]) (st' := [.int (0 : Int32)]) rfl Kz) ?_
                  refine jv_Wp.of (jv_Ev.ret jv_i295 rfl rfl) ?_
                  rw [hQ]
                  have td0 : ¬ zd = 0 := fun z => h1 ((vr_isN (L := L) okd hd11).mp ((hd ()).trans z))
                  have td7 : zd = 7 := (hd ()).symm.trans ((vr_is (L := L) 7 (by decide) okd).mpr (Classical.not_not.mp h19))
                  have ts0 : zs = 0 := (hs ()).symm.trans ((vr_isN (L := L) oks hs11).mpr h56)
                  have t00 : ¬ z0 = 0 := fun z => h57 ((vr_isN (L := L) ok0 (by decide)).mp ((h0 ()).trans z))
                  have t01 : ¬ z0 = 1 := fun z => h59 ((vr_is (L := L) 1 (by decide) ok0).mp ((h0 ()).trans z))
                  have nx1 : w134 ≤ 0 := (vl_I_le (a := w134) (b := 0) (by omega) (by omega)).mp h61
                  have ev : vx_even (vr_T I L (76800 + f.d)).val f.o f.z = false := by rw [vr_valv (by rw [(vr_is (L := L) 7 (by decide) okd).mp ((hd ()).trans (by omega))]; rfl), ← vr_dO D, vx_even_r hz]; exact (by rw [decide_eq_false h55, Bool.and_false])
                  have r7 := vx_r7' (M := M) (A := (vr_A I L 1024)) (o := f.o) (z := f.z) (w := true) ((hd ()).trans (show zd = 7 by omega))
                  rw [hrr ()] at r7
                  exact absurd (show False by omega) (fun z => z)
                · refine jv_Wp.lift (fun _ Kz => jv_Ev.steps jv_i295 1 (pc' := 252) (l' := [(2, .int (vl_I w134)), (7, .int (0 : Int32)), (5, .long ((vl_I f.z).toInt64 - (1 : Int64))), (4, .int (vl_I (8 + (76800 + f.d)))), (3, .int (I 205 (76800 + f.d))), (1, .int (vl_I f.z)), (0, .ref 196)]) (st' := [.int (vl_I w134)]) rfl Kz) ?_
                  refine jv_Wp.of (jv_Ev.ret jv_i295 rfl rfl) ?_
                  rw [hQ]
                  have td0 : ¬ zd = 0 := fun z => h1 ((vr_isN (L := L) okd hd11).mp ((hd ()).trans z))
                  have td7 : zd = 7 := (hd ()).symm.trans ((vr_is (L := L) 7 (by decide) okd).mpr (Classical.not_not.mp h19))
                  have ts0 : zs = 0 := (hs ()).symm.trans ((vr_isN (L := L) oks hs11).mpr h56)
                  have t00 : ¬ z0 = 0 := fun z => h57 ((vr_isN (L := L) ok0 (by decide)).mp ((h0 ()).trans z))
                  have t01 : ¬ z0 = 1 := fun z => h59 ((vr_is (L := L) 1 (by decide) ok0).mp ((h0 ()).trans z))
                  have nx1 : ¬ w134 ≤ 0 := fun z => h61 ((vl_I_le (a := w134) (b := 0) (by omega) (by omega)).mpr z)
                  have ev : vx_even (vr_T I L (76800 + f.d)).val f.o f.z = false := by rw [vr_valv (by rw [(vr_is (L := L) 7 (by decide) okd).mp ((hd ()).trans (by omega))]; rfl), ← vr_dO D, vx_even_r hz]; exact (by rw [decide_eq_false h55, Bool.and_false])
                  have r7 := vx_r7' (M := M) (A := (vr_A I L 1024)) (o := f.o) (z := f.z) (w := true) ((hd ()).trans (show zd = 7 by omega))
                  rw [hrr ()] at r7
                  have e : vx_atp M f (vr_A I L 1024) = (w134, (vr_A I L 1024)) := by
                    by_cases c1 : zd = 0 ∨ zs = 0 ∨ (f.i = 241 ∧ z0 = 0)
                    · rw [show w134 = 1 by omega]; exact vx_at1 (by rw [eD, eS, e0, hd (), hs (), h0 ()]; omega)
                    · rw [show w134 = 4 by omega]; exact vx_at3 (by rw [eD, eS, e0, hd (), hs (), h0 ()]; omega) (by rw [eD, hd ()]; omega) (Or.inl (by rw [eD]; exact ev))
                  exact ⟨_, _, by rw [← eQ, e], fun z => by rw [← eQ, e] at z; exact absurd (show w134 = 0 from z) (by omega), vr_fr_refl hf⟩
          · refine jv_Wp.lift (fun _ Kz => jv_Ev.steps jv_i295 2 (pc' := 189) (l' := [(2, .int (vl_I w128)), (7, .int (0 : Int32)), (5, .long ((vl_I f.z).toInt64 - (1 : Int64))), (4, .int (vl_I (8 + (76800 + f.d)))), (3, .int (I 205 (76800 + f.d))), (1, .int (vl_I f.z)), (0, .ref 196)]) (st' := [.ref 196, .ref 196, .int (vl_I w128)]) rfl Kz) ?_
            refine jv_Wp.lift (fun _ Kz => jv_Ev.m jv_i295 (pc' := 192) (st' := [.int (vl_I f.s), .ref 196, .int (vl_I w128)]) (G' := (jv_H K I L R)) rfl rfl (jv_m_getI (jv_rwK hW 196 12 24 (by decide)) rfl rfl D.2.2.1) Kz) ?_
            refine jv_Wp.lift (fun _ Kz => jv_Ev.c jv_i295 (pc' := 195) (S' := [.int (I 205 (76800 + f.s)), .int (vl_I w128)]) jv_i271 [.ref 196, .int (vl_I f.s)] rfl rfl rfl rfl (jv_cal rfl (jv_H_at (jv_rwK hW 196 12 24 (by decide))) rfl rfl) rfl (vq_sortOf f.s hW (by omega)) rfl rfl Kz) ?_
            refine jv_Wp.lift (fun _ Kz => jv_Ev.steps jv_i295 1 (pc' := 196) (l' := [(2, .int (vl_I w128)), (7, .int (0 : Int32)), (5, .long ((vl_I f.z).toInt64 - (1 : Int64))), (4, .int (vl_I (8 + (76800 + f.d)))), (3, .int (I 205 (76800 + f.d))), (1, .int (vl_I f.z)), (0, .ref 196)]) (st' := [.int (1 : Int32), .int (I 205 (76800 + f.s)), .int (vl_I w128)]) rfl Kz) ?_
            refine jv_Wp.cnd jv_i295 (pt := 204) (pe := 199) (p := ((I 205 (76800 + f.s)) = (1 : Int32))) (q := ((I 205 (76800 + f.s)) = (1 : Int32))) rfl jv_bc_eq rfl rfl Iff.rfl (fun h62 => ?_) (fun h62 => ?_)
            · refine jv_Wp.lift (fun _ Kz => jv_Ev.steps jv_i295 1 (pc' := 205) (l' := [(2, .int (vl_I w128)), (7, .int (0 : Int32)), (5, .long ((vl_I f.z).toInt64 - (1 : Int64))), (4, .int (vl_I (8 + (76800 + f.d)))), (3, .int (I 205 (76800 + f.d))), (1, .int (vl_I f.z)), (0, .ref 196)]) (st' := [.int (0 : Int32), .int (vl_I w128)]) rfl Kz) ?_
              obtain ⟨w136, hq136⟩ : ∃ x : Nat, ∀ _ : Unit, vx_fst w128 0 = x := ⟨_, fun _ => rfl⟩
              have fq136 : (w128 = 0 → w136 = 0) ∧ (0 = 0 → w136 = w128) ∧ (w136 = w128 ∨ w136 = 0) ∧ (w128 ≠ 0 → 0 ≠ 0 → w136 ≤ w128 ∧ w136 ≤ 0) := by rw [← hq136 ()]; exact vx_fst_g w128 0
              have Hf136 := vq_first (I := I) (L := L) (K := K) (R := R) (n := n) (sl := sl) w128 0 (by omega) (by omega)
              rw [hq136 ()] at Hf136
              refine jv_Wp.lift (fun _ Kz => jv_Ev.c jv_i295 (pc' := 208) (S' := [.int (vl_I w136)]) jv_i282 [.int (vl_I w128), .int (0 : Int32)] rfl rfl rfl rfl rfl rfl Hf136 rfl rfl Kz) ?_
              refine jv_Wp.lift (fun _ Kz => jv_Ev.steps jv_i295 3 (pc' := 211) (l' := [(2, .int (vl_I w136)), (7, .int (0 : Int32)), (5, .long ((vl_I f.z).toInt64 - (1 : Int64))), (4, .int (vl_I (8 + (76800 + f.d)))), (3, .int (I 205 (76800 + f.d))), (1, .int (vl_I f.z)), (0, .ref 196)]) (st' := [.ref 196, .int (vl_I w136)]) rfl Kz) ?_
              refine jv_Wp.lift (fun _ Kz => jv_Ev.m jv_i295 (pc' := 214) (st' := [.int (Int32.ofInt f.i), .int (vl_I w136)]) (G' := (jv_H K I L R)) rfl rfl (jv_m_getI (jv_rwK hW 196 12 24 (by decide)) rfl rfl (vr_dJ D)) Kz) ?_
              refine jv_Wp.lift (fun _ Kz => jv_Ev.steps jv_i295 1 (pc' := 217) (l' := [(2, .int (vl_I w136)), (7, .int (0 : Int32)), (5, .long ((vl_I f.z).toInt64 - (1 : Int64))), (4, .int (vl_I (8 + (76800 + f.d)))), (3, .int (I 205 (76800 + f.d))), (1, .int (vl_I f.z)), (0, .ref 196)]) (st' := [.int (241 : Int32), .int (Int32.ofInt f.i), .int (vl_I w136)]) rfl Kz) ?_
              refine jv_Wp.cnd jv_i295 (pt := 242) (pe := 220) (p := (¬ (Int32.ofInt f.i) = (241 : Int32))) (q := (¬ (Int32.ofInt f.i) = (241 : Int32))) rfl jv_bc_ne rfl rfl Iff.rfl (fun hz => absurd hz (fun z => z h241)) (fun _ => ?_)
              refine jv_Wp.lift (fun _ Kz => jv_Ev.steps jv_i295 2 (pc' := 222) (l' := [(2, .int (vl_I w136)), (7, .int (0 : Int32)), (5, .long ((vl_I f.z).toInt64 - (1 : Int64))), (4, .int (vl_I (8 + (76800 + f.d)))), (3, .int (I 205 (76800 + f.d))), (1, .int (vl_I f.z)), (0, .ref 196)]) (st' := [.int (0 : Int32), .ref 196, .int (vl_I w136)]) rfl Kz) ?_
              refine jv_Wp.lift (fun _ Kz => jv_Ev.c jv_i295 (pc' := 225) (S' := [.int (I 205 (76800 + 0)), .int (vl_I w136)]) jv_i271 [.ref 196, .int (0 : Int32)] rfl rfl rfl rfl (jv_cal rfl (jv_H_at (jv_rwK hW 196 12 24 (by decide))) rfl rfl) rfl (vq_sortOf 0 hW (by omega)) rfl rfl Kz) ?_
              refine jv_Wp.cnd jv_i295 (pt := 242) (pe := 228) (p := ((I 205 (76800 + 0)) = 0)) (q := ((I 205 (76800 + 0)) = 0)) rfl jv_bi_eq rfl rfl Iff.rfl (fun h63 => ?_) (fun h63 => ?_)
              · refine jv_Wp.lift (fun _ Kz => jv_Ev.steps jv_i295 1 (pc' := 243) (l' := [(2, .int (vl_I w136)), (7, .int (0 : Int32)), (5, .long ((vl_I f.z).toInt64 - (1 : Int64))), (4, .int (vl_I (8 + (76800 + f.d)))), (3, .int (I 205 (76800 + f.d))), (1, .int (vl_I f.z)), (0, .ref 196)]) (st' := [.int (0 : Int32), .int (vl_I w136)]) rfl Kz) ?_
                obtain ⟨w137, hq137⟩ : ∃ x : Nat, ∀ _ : Unit, vx_fst w136 0 = x := ⟨_, fun _ => rfl⟩
                have fq137 : (w136 = 0 → w137 = 0) ∧ (0 = 0 → w137 = w136) ∧ (w137 = w136 ∨ w137 = 0) ∧ (w136 ≠ 0 → 0 ≠ 0 → w137 ≤ w136 ∧ w137 ≤ 0) := by rw [← hq137 ()]; exact vx_fst_g w136 0
                have Hf137 := vq_first (I := I) (L := L) (K := K) (R := R) (n := n) (sl := sl) w136 0 (by omega) (by omega)
                rw [hq137 ()] at Hf137
                refine jv_Wp.lift (fun _ Kz => jv_Ev.c jv_i295 (pc' := 246) (S' := [.int (vl_I w137)]) jv_i282 [.int (vl_I w136), .int (0 : Int32)] rfl rfl rfl rfl rfl rfl Hf137 rfl rfl Kz) ?_
                refine jv_Wp.lift (fun _ Kz => jv_Ev.steps jv_i295 2 (pc' := 248) (l' := [(2, .int (vl_I w137)), (7, .int (0 : Int32)), (5, .long ((vl_I f.z).toInt64 - (1 : Int64))), (4, .int (vl_I (8 + (76800 + f.d)))), (3, .int (I 205 (76800 + f.d))), (1, .int (vl_I f.z)), (0, .ref 196)]) (st' := [.int (vl_I w137)]) rfl Kz) ?_
                refine jv_Wp.cnd jv_i295 (pt := 253) (pe := 251) (p := ((vl_I w137) ≤ 0)) (q := ((vl_I w137) ≤ 0)) rfl jv_bi_le rfl rfl Iff.rfl (fun h64 => ?_) (fun h64 => ?_)
                · refine jv_Wp.lift (fun _ Kz => jv_Ev.steps jv_i295 1 (pc' := 254) (l' := [(2, .int (vl_I w137)), (7, .int (0 : Int32)), (5, .long ((vl_I f.z).toInt64 - (1 : Int64))), (4, .int (vl_I (8 + (76800 + f.d)))), (3, .int (I 205 (76800 + f.d))), (1, .int (vl_I f.z)), (0, .ref 196)]) (st' := [.ref 196]) rfl Kz) ?_
                  refine jv_Wp.lift (fun _ Kz => jv_Ev.m jv_i295 (pc' := 257) (st' := [.int (Int32.ofInt f.i)]) (G' := (jv_H K I L R)) rfl rfl (jv_m_getI (jv_rwK hW 196 12 24 (by decide)) rfl rfl (vr_dJ D)) Kz) ?_
                  refine jv_Wp.lift (fun _ Kz => jv_Ev.steps jv_i295 1 (pc' := 260) (l' := [(2, .int (vl_I w137)), (7, .int (0 : Int32)), (5, .long ((vl_I f.z).toInt64 - (1 : Int64))), (4, .int (vl_I (8 + (76800 + f.d)))), (3, .int (I 205 (76800 + f.d))), (1, .int (vl_I f.z)), (0, .ref 196)]) (st' := [.int (241 : Int32), .int (Int32.ofInt f.i)]) rfl Kz) ?_
                  refine jv_Wp.cnd jv_i295 (pt := 272) (pe := 263) (p := (¬ (Int32.ofInt f.i) = (241 : Int32))) (q := (¬ (Int32.ofInt f.i) = (241 : Int32))) rfl jv_bc_ne rfl rfl Iff.rfl (fun hz => absurd hz (fun z => z h241)) (fun _ => ?_)
                  refine jv_Wp.lift (fun _ Kz => jv_Ev.steps jv_i295 3 (pc' := 266) (l' := [(2, .int (vl_I w137)), (7, .int (0 : Int32)), (5, .long ((vl_I f.z).toInt64 - (1 : Int64))), (4, .int (vl_I (8 + (76800 + f.d)))), (3, .int (I 205 (76800 + f.d))), (1, .int (vl_I f.z)), (0, .ref 196)]) (st' := [.int (vl_I f.z), .int (0 : Int32), .ref 196]) rfl Kz) ?_
                  obtain ⟨I138, L138, H138, T138, O138, F138⟩ := vq_setAny (I := I) (L := L) (R := R) (n := n) (sl := sl) 0 f.z hW hf (by omega) hz
                  refine jv_Wp.lift (fun _ Kz => jv_Ev.c jv_i295 (pc' := 269) (S' := []) (G1 := (jv_H K I138 L138 R)) jv_i274 [.ref 196, .int (0 : Int32), .int (vl_I f.z)] rfl rfl rfl rfl (jv_cal rfl (jv_H_at (jv_rwK hW 196 12 24 (by decide))) rfl rfl) rfl H138 rfl rfl Kz) ?_
                  refine jv_Wp.lift (fun _ Kz => jv_Ev.steps jv_i295 2 (pc' := 292) (l' := [(2, .int (vl_I w137)), (7, .int (0 : Int32)), (5, .long ((vl_I f.z).toInt64 - (1 : Int64))), (4, .int (vl_I (8 + (76800 + f.d)))), (3, .int (I 205 (76800 + f.d))), (1, .int (vl_I f.z)), (0, .ref 196)]) (st' := [.int (0 : Int32)]) rfl Kz) ?_
                  refine jv_Wp.of (jv_Ev.ret jv_i295 rfl rfl) ?_
                  rw [hQ]
                  have td0 : ¬ zd = 0 := fun z => h1 ((vr_isN (L := L) okd hd11).mp ((hd ()).trans z))
                  have td7 : zd = 7 := (hd ()).symm.trans ((vr_is (L := L) 7 (by decide) okd).mpr (Classical.not_not.mp h19))
                  have ts0 : ¬ zs = 0 := fun z => h56 ((vr_isN (L := L) oks hs11).mp ((hs ()).trans z))
                  have ts1 : zs = 1 := (hs ()).symm.trans ((vr_is (L := L) 1 (by decide) oks).mpr h62)
                  have t00 : z0 = 0 := (h0 ()).symm.trans ((vr_isN (L := L) ok0 (by decide)).mpr h63)
                  have nx1 : w137 ≤ 0 := (vl_I_le (a := w137) (b := 0) (by omega) (by omega)).mp h64
                  have ev : vx_even (vr_T I L (76800 + f.d)).val f.o f.z = false := by rw [vr_valv (by rw [(vr_is (L := L) 7 (by decide) okd).mp ((hd ()).trans (by omega))]; rfl), ← vr_dO D, vx_even_r hz]; exact (by rw [decide_eq_false h55, Bool.and_false])
                  have r7 := vx_r7' (M := M) (A := (vr_A I L 1024)) (o := f.o) (z := f.z) (w := true) ((hd ()).trans (show zd = 7 by omega))
                  rw [hrr ()] at r7
                  exact absurd (show False by omega) (fun z => z)
                · refine jv_Wp.lift (fun _ Kz => jv_Ev.steps jv_i295 1 (pc' := 252) (l' := [(2, .int (vl_I w137)), (7, .int (0 : Int32)), (5, .long ((vl_I f.z).toInt64 - (1 : Int64))), (4, .int (vl_I (8 + (76800 + f.d)))), (3, .int (I 205 (76800 + f.d))), (1, .int (vl_I f.z)), (0, .ref 196)]) (st' := [.int (vl_I w137)]) rfl Kz) ?_
                  refine jv_Wp.of (jv_Ev.ret jv_i295 rfl rfl) ?_
                  rw [hQ]
                  have td0 : ¬ zd = 0 := fun z => h1 ((vr_isN (L := L) okd hd11).mp ((hd ()).trans z))
                  have td7 : zd = 7 := (hd ()).symm.trans ((vr_is (L := L) 7 (by decide) okd).mpr (Classical.not_not.mp h19))
                  have ts0 : ¬ zs = 0 := fun z => h56 ((vr_isN (L := L) oks hs11).mp ((hs ()).trans z))
                  have ts1 : zs = 1 := (hs ()).symm.trans ((vr_is (L := L) 1 (by decide) oks).mpr h62)
                  have t00 : z0 = 0 := (h0 ()).symm.trans ((vr_isN (L := L) ok0 (by decide)).mpr h63)
                  have nx1 : ¬ w137 ≤ 0 := fun z => h64 ((vl_I_le (a := w137) (b := 0) (by omega) (by omega)).mpr z)
                  have ev : vx_even (vr_T I L (76800 + f.d)).val f.o f.z = false := by rw [vr_valv (by rw [(vr_is (L := L) 7 (by decide) okd).mp ((hd ()).trans (by omega))]; rfl), ← vr_dO D, vx_even_r hz]; exact (by rw [decide_eq_false h55, Bool.and_false])
                  have r7 := vx_r7' (M := M) (A := (vr_A I L 1024)) (o := f.o) (z := f.z) (w := true) ((hd ()).trans (show zd = 7 by omega))
                  rw [hrr ()] at r7
                  have e : vx_atp M f (vr_A I L 1024) = (w137, (vr_A I L 1024)) := by
                    by_cases c1 : zd = 0 ∨ zs = 0 ∨ (f.i = 241 ∧ z0 = 0)
                    · rw [show w137 = 1 by omega]; exact vx_at1 (by rw [eD, eS, e0, hd (), hs (), h0 ()]; omega)
                    · rw [show w137 = 4 by omega]; exact vx_at3 (by rw [eD, eS, e0, hd (), hs (), h0 ()]; omega) (by rw [eD, hd ()]; omega) (Or.inl (by rw [eD]; exact ev))
                  exact ⟨_, _, by rw [← eQ, e], fun z => by rw [← eQ, e] at z; exact absurd (show w137 = 0 from z) (by omega), vr_fr_refl hf⟩
              · refine jv_Wp.lift (fun _ Kz => jv_Ev.steps jv_i295 2 (pc' := 230) (l' := [(2, .int (vl_I w136)), (7, .int (0 : Int32)), (5, .long ((vl_I f.z).toInt64 - (1 : Int64))), (4, .int (vl_I (8 + (76800 + f.d)))), (3, .int (I 205 (76800 + f.d))), (1, .int (vl_I f.z)), (0, .ref 196)]) (st' := [.int (0 : Int32), .ref 196, .int (vl_I w136)]) rfl Kz) ?_
                refine jv_Wp.lift (fun _ Kz => jv_Ev.c jv_i295 (pc' := 233) (S' := [.int (I 205 (76800 + 0)), .int (vl_I w136)]) jv_i271 [.ref 196, .int (0 : Int32)] rfl rfl rfl rfl (jv_cal rfl (jv_H_at (jv_rwK hW 196 12 24 (by decide))) rfl rfl) rfl (vq_sortOf 0 hW (by omega)) rfl rfl Kz) ?_
                refine jv_Wp.lift (fun _ Kz => jv_Ev.steps jv_i295 1 (pc' := 234) (l' := [(2, .int (vl_I w136)), (7, .int (0 : Int32)), (5, .long ((vl_I f.z).toInt64 - (1 : Int64))), (4, .int (vl_I (8 + (76800 + f.d)))), (3, .int (I 205 (76800 + f.d))), (1, .int (vl_I f.z)), (0, .ref 196)]) (st' := [.int (1 : Int32), .int (I 205 (76800 + 0)), .int (vl_I w136)]) rfl Kz) ?_
                refine jv_Wp.cnd jv_i295 (pt := 242) (pe := 237) (p := ((I 205 (76800 + 0)) = (1 : Int32))) (q := ((I 205 (76800 + 0)) = (1 : Int32))) rfl jv_bc_eq rfl rfl Iff.rfl (fun h65 => ?_) (fun h65 => ?_)
                · refine jv_Wp.lift (fun _ Kz => jv_Ev.steps jv_i295 1 (pc' := 243) (l' := [(2, .int (vl_I w136)), (7, .int (0 : Int32)), (5, .long ((vl_I f.z).toInt64 - (1 : Int64))), (4, .int (vl_I (8 + (76800 + f.d)))), (3, .int (I 205 (76800 + f.d))), (1, .int (vl_I f.z)), (0, .ref 196)]) (st' := [.int (0 : Int32), .int (vl_I w136)]) rfl Kz) ?_
                  obtain ⟨w139, hq139⟩ : ∃ x : Nat, ∀ _ : Unit, vx_fst w136 0 = x := ⟨_, fun _ => rfl⟩
                  have fq139 : (w136 = 0 → w139 = 0) ∧ (0 = 0 → w139 = w136) ∧ (w139 = w136 ∨ w139 = 0) ∧ (w136 ≠ 0 → 0 ≠ 0 → w139 ≤ w136 ∧ w139 ≤ 0) := by rw [← hq139 ()]; exact vx_fst_g w136 0
                  have Hf139 := vq_first (I := I) (L := L) (K := K) (R := R) (n := n) (sl := sl) w136 0 (by omega) (by omega)
                  rw [hq139 ()] at Hf139
                  refine jv_Wp.lift (fun _ Kz => jv_Ev.c jv_i295 (pc' := 246) (S' := [.int (vl_I w139)]) jv_i282 [.int (vl_I w136), .int (0 : Int32)] rfl rfl rfl rfl rfl rfl Hf139 rfl rfl Kz) ?_
                  refine jv_Wp.lift (fun _ Kz => jv_Ev.steps jv_i295 2 (pc' := 248) (l' := [(2, .int (vl_I w139)), (7, .int (0 : Int32)), (5, .long ((vl_I f.z).toInt64 - (1 : Int64))), (4, .int (vl_I (8 + (76800 + f.d)))), (3, .int (I 205 (76800 + f.d))), (1, .int (vl_I f.z)), (0, .ref 196)]) (st' := [.int (vl_I w139)]) rfl Kz) ?_
                  refine jv_Wp.cnd jv_i295 (pt := 253) (pe := 251) (p := ((vl_I w139) ≤ 0)) (q := ((vl_I w139) ≤ 0)) rfl jv_bi_le rfl rfl Iff.rfl (fun h66 => ?_) (fun h66 => ?_)
                  · refine jv_Wp.lift (fun _ Kz => jv_Ev.steps jv_i295 1 (pc' := 254) (l' := [(2, .int (vl_I w139)), (7, .int (0 : Int32)), (5, .long ((vl_I f.z).toInt64 - (1 : Int64))), (4, .int (vl_I (8 + (76800 + f.d)))), (3, .int (I 205 (76800 + f.d))), (1, .int (vl_I f.z)), (0, .ref 196)]) (st' := [.ref 196]) rfl Kz) ?_
                    refine jv_Wp.lift (fun _ Kz => jv_Ev.m jv_i295 (pc' := 257) (st' := [.int (Int32.ofInt f.i)]) (G' := (jv_H K I L R)) rfl rfl (jv_m_getI (jv_rwK hW 196 12 24 (by decide)) rfl rfl (vr_dJ D)) Kz) ?_
                    refine jv_Wp.lift (fun _ Kz => jv_Ev.steps jv_i295 1 (pc' := 260) (l' := [(2, .int (vl_I w139)), (7, .int (0 : Int32)), (5, .long ((vl_I f.z).toInt64 - (1 : Int64))), (4, .int (vl_I (8 + (76800 + f.d)))), (3, .int (I 205 (76800 + f.d))), (1, .int (vl_I f.z)), (0, .ref 196)]) (st' := [.int (241 : Int32), .int (Int32.ofInt f.i)]) rfl Kz) ?_
                    refine jv_Wp.cnd jv_i295 (pt := 272) (pe := 263) (p := (¬ (Int32.ofInt f.i) = (241 : Int32))) (q := (¬ (Int32.ofInt f.i) = (241 : Int32))) rfl jv_bc_ne rfl rfl Iff.rfl (fun hz => absurd hz (fun z => z h241)) (fun _ => ?_)
                    refine jv_Wp.lift (fun _ Kz => jv_Ev.steps jv_i295 3 (pc' := 266) (l' := [(2, .int (vl_I w139)), (7, .int (0 : Int32)), (5, .long ((vl_I f.z).toInt64 - (1 : Int64))), (4, .int (vl_I (8 + (76800 + f.d)))), (3, .int (I 205 (76800 + f.d))), (1, .int (vl_I f.z)), (0, .ref 196)]) (st' := [.int (vl_I f.z), .int (0 : Int32), .ref 196]) rfl Kz) ?_
                    obtain ⟨I140, L140, H140, T140, O140, F140⟩ := vq_setAny (I := I) (L := L) (R := R) (n := n) (sl := sl) 0 f.z hW hf (by omega) hz
                    refine jv_Wp.lift (fun _ Kz => jv_Ev.c jv_i295 (pc' := 269) (S' := []) (G1 := (jv_H K I140 L140 R)) jv_i274 [.ref 196, .int (0 : Int32), .int (vl_I f.z)] rfl rfl rfl rfl (jv_cal rfl (jv_H_at (jv_rwK hW 196 12 24 (by decide))) rfl rfl) rfl H140 rfl rfl Kz) ?_
                    refine jv_Wp.lift (fun _ Kz => jv_Ev.steps jv_i295 2 (pc' := 292) (l' := [(2, .int (vl_I w139)), (7, .int (0 : Int32)), (5, .long ((vl_I f.z).toInt64 - (1 : Int64))), (4, .int (vl_I (8 + (76800 + f.d)))), (3, .int (I 205 (76800 + f.d))), (1, .int (vl_I f.z)), (0, .ref 196)]) (st' := [.int (0 : Int32)]) rfl Kz) ?_
                    refine jv_Wp.of (jv_Ev.ret jv_i295 rfl rfl) ?_
                    rw [hQ]
                    have td0 : ¬ zd = 0 := fun z => h1 ((vr_isN (L := L) okd hd11).mp ((hd ()).trans z))
                    have td7 : zd = 7 := (hd ()).symm.trans ((vr_is (L := L) 7 (by decide) okd).mpr (Classical.not_not.mp h19))
                    have ts0 : ¬ zs = 0 := fun z => h56 ((vr_isN (L := L) oks hs11).mp ((hs ()).trans z))
                    have ts1 : zs = 1 := (hs ()).symm.trans ((vr_is (L := L) 1 (by decide) oks).mpr h62)
                    have t00 : ¬ z0 = 0 := fun z => h63 ((vr_isN (L := L) ok0 (by decide)).mp ((h0 ()).trans z))
                    have t01 : z0 = 1 := (h0 ()).symm.trans ((vr_is (L := L) 1 (by decide) ok0).mpr h65)
                    have nx1 : w139 ≤ 0 := (vl_I_le (a := w139) (b := 0) (by omega) (by omega)).mp h66
                    have ev : vx_even (vr_T I L (76800 + f.d)).val f.o f.z = false := by rw [vr_valv (by rw [(vr_is (L := L) 7 (by decide) okd).mp ((hd ()).trans (by omega))]; rfl), ← vr_dO D, vx_even_r hz]; exact (by rw [decide_eq_false h55, Bool.and_false])
                    have r7 := vx_r7' (M := M) (A := (vr_A I L 1024)) (o := f.o) (z := f.z) (w := true) ((hd ()).trans (show zd = 7 by omega))
                    rw [hrr ()] at r7
                    exact absurd (show False by omega) (fun z => z)
                  · refine jv_Wp.lift (fun _ Kz => jv_Ev.steps jv_i295 1 (pc' := 252) (l' := [(2, .int (vl_I w139)), (7, .int (0 : Int32)), (5, .long ((vl_I f.z).toInt64 - (1 : Int64))), (4, .int (vl_I (8 + (76800 + f.d)))), (3, .int (I 205 (76800 + f.d))), (1, .int (vl_I f.z)), (0, .ref 196)]) (st' := [.int (vl_I w139)]) rfl Kz) ?_
                    refine jv_Wp.of (jv_Ev.ret jv_i295 rfl rfl) ?_
                    rw [hQ]
                    have td0 : ¬ zd = 0 := fun z => h1 ((vr_isN (L := L) okd hd11).mp ((hd ()).trans z))
                    have td7 : zd = 7 := (hd ()).symm.trans ((vr_is (L := L) 7 (by decide) okd).mpr (Classical.not_not.mp h19))
                    have ts0 : ¬ zs = 0 := fun z => h56 ((vr_isN (L := L) oks hs11).mp ((hs ()).trans z))
                    have ts1 : zs = 1 := (hs ()).symm.trans ((vr_is (L := L) 1 (by decide) oks).mpr h62)
                    have t00 : ¬ z0 = 0 := fun z => h63 ((vr_isN (L := L) ok0 (by decide)).mp ((h0 ()).trans z))
                    have t01 : z0 = 1 := (h0 ()).symm.trans ((vr_is (L := L) 1 (by decide) ok0).mpr h65)
                    have nx1 : ¬ w139 ≤ 0 := fun z => h66 ((vl_I_le (a := w139) (b := 0) (by omega) (by omega)).mpr z)
                    have ev : vx_even (vr_T I L (76800 + f.d)).val f.o f.z = false := by rw [vr_valv (by rw [(vr_is (L := L) 7 (by decide) okd).mp ((hd ()).trans (by omega))]; rfl), ← vr_dO D, vx_even_r hz]; exact (by rw [decide_eq_false h55, Bool.and_false])
                    have r7 := vx_r7' (M := M) (A := (vr_A I L 1024)) (o := f.o) (z := f.z) (w := true) ((hd ()).trans (show zd = 7 by omega))
                    rw [hrr ()] at r7
                    have e : vx_atp M f (vr_A I L 1024) = (w139, (vr_A I L 1024)) := by
                      by_cases c1 : zd = 0 ∨ zs = 0 ∨ (f.i = 241 ∧ z0 = 0)
                      · rw [show w139 = 1 by omega]; exact vx_at1 (by rw [eD, eS, e0, hd (), hs (), h0 ()]; omega)
                      · rw [show w139 = 4 by omega]; exact vx_at3 (by rw [eD, eS, e0, hd (), hs (), h0 ()]; omega) (by rw [eD, hd ()]; omega) (Or.inl (by rw [eD]; exact ev))
                    exact ⟨_, _, by rw [← eQ, e], fun z => by rw [← eQ, e] at z; exact absurd (show w139 = 0 from z) (by omega), vr_fr_refl hf⟩
                · refine jv_Wp.lift (fun _ Kz => jv_Ev.steps jv_i295 2 (pc' := 243) (l' := [(2, .int (vl_I w136)), (7, .int (0 : Int32)), (5, .long ((vl_I f.z).toInt64 - (1 : Int64))), (4, .int (vl_I (8 + (76800 + f.d)))), (3, .int (I 205 (76800 + f.d))), (1, .int (vl_I f.z)), (0, .ref 196)]) (st' := [.int (6 : Int32), .int (vl_I w136)]) rfl Kz) ?_
                  obtain ⟨w141, hq141⟩ : ∃ x : Nat, ∀ _ : Unit, vx_fst w136 6 = x := ⟨_, fun _ => rfl⟩
                  have fq141 : (w136 = 0 → w141 = 6) ∧ (6 = 0 → w141 = w136) ∧ (w141 = w136 ∨ w141 = 6) ∧ (w136 ≠ 0 → 6 ≠ 0 → w141 ≤ w136 ∧ w141 ≤ 6) := by rw [← hq141 ()]; exact vx_fst_g w136 6
                  have Hf141 := vq_first (I := I) (L := L) (K := K) (R := R) (n := n) (sl := sl) w136 6 (by omega) (by omega)
                  rw [hq141 ()] at Hf141
                  refine jv_Wp.lift (fun _ Kz => jv_Ev.c jv_i295 (pc' := 246) (S' := [.int (vl_I w141)]) jv_i282 [.int (vl_I w136), .int (6 : Int32)] rfl rfl rfl rfl rfl rfl Hf141 rfl rfl Kz) ?_
                  refine jv_Wp.lift (fun _ Kz => jv_Ev.steps jv_i295 2 (pc' := 248) (l' := [(2, .int (vl_I w141)), (7, .int (0 : Int32)), (5, .long ((vl_I f.z).toInt64 - (1 : Int64))), (4, .int (vl_I (8 + (76800 + f.d)))), (3, .int (I 205 (76800 + f.d))), (1, .int (vl_I f.z)), (0, .ref 196)]) (st' := [.int (vl_I w141)]) rfl Kz) ?_
                  refine jv_Wp.cnd jv_i295 (pt := 253) (pe := 251) (p := ((vl_I w141) ≤ 0)) (q := ((vl_I w141) ≤ 0)) rfl jv_bi_le rfl rfl Iff.rfl (fun h67 => ?_) (fun h67 => ?_)
                  · refine jv_Wp.lift (fun _ Kz => jv_Ev.steps jv_i295 1 (pc' := 254) (l' := [(2, .int (vl_I w141)), (7, .int (0 : Int32)), (5, .long ((vl_I f.z).toInt64 - (1 : Int64))), (4, .int (vl_I (8 + (76800 + f.d)))), (3, .int (I 205 (76800 + f.d))), (1, .int (vl_I f.z)), (0, .ref 196)]) (st' := [.ref 196]) rfl Kz) ?_
                    refine jv_Wp.lift (fun _ Kz => jv_Ev.m jv_i295 (pc' := 257) (st' := [.int (Int32.ofInt f.i)]) (G' := (jv_H K I L R)) rfl rfl (jv_m_getI (jv_rwK hW 196 12 24 (by decide)) rfl rfl (vr_dJ D)) Kz) ?_
                    refine jv_Wp.lift (fun _ Kz => jv_Ev.steps jv_i295 1 (pc' := 260) (l' := [(2, .int (vl_I w141)), (7, .int (0 : Int32)), (5, .long ((vl_I f.z).toInt64 - (1 : Int64))), (4, .int (vl_I (8 + (76800 + f.d)))), (3, .int (I 205 (76800 + f.d))), (1, .int (vl_I f.z)), (0, .ref 196)]) (st' := [.int (241 : Int32), .int (Int32.ofInt f.i)]) rfl Kz) ?_
                    refine jv_Wp.cnd jv_i295 (pt := 272) (pe := 263) (p := (¬ (Int32.ofInt f.i) = (241 : Int32))) (q := (¬ (Int32.ofInt f.i) = (241 : Int32))) rfl jv_bc_ne rfl rfl Iff.rfl (fun hz => absurd hz (fun z => z h241)) (fun _ => ?_)
                    refine jv_Wp.lift (fun _ Kz => jv_Ev.steps jv_i295 3 (pc' := 266) (l' := [(2, .int (vl_I w141)), (7, .int (0 : Int32)), (5, .long ((vl_I f.z).toInt64 - (1 : Int64))), (4, .int (vl_I (8 + (76800 + f.d)))), (3, .int (I 205 (76800 + f.d))), (1, .int (vl_I f.z)), (0, .ref 196)]) (st' := [.int (vl_I f.z), .int (0 : Int32), .ref 196]) rfl Kz) ?_
                    obtain ⟨I142, L142, H142, T142, O142, F142⟩ := vq_setAny (I := I) (L := L) (R := R) (n := n) (sl := sl) 0 f.z hW hf (by omega) hz
                    refine jv_Wp.lift (fun _ Kz => jv_Ev.c jv_i295 (pc' := 269) (S' := []) (G1 := (jv_H K I142 L142 R)) jv_i274 [.ref 196, .int (0 : Int32), .int (vl_I f.z)] rfl rfl rfl rfl (jv_cal rfl (jv_H_at (jv_rwK hW 196 12 24 (by decide))) rfl rfl) rfl H142 rfl rfl Kz) ?_
                    refine jv_Wp.lift (fun _ Kz => jv_Ev.steps jv_i295 2 (pc' := 292) (l' := [(2, .int (vl_I w141)), (7, .int (0 : Int32)), (5, .long ((vl_I f.z).toInt64 - (1 : Int64))), (4, .int (vl_I (8 + (76800 + f.d)))), (3, .int (I 205 (76800 + f.d))), (1, .int (vl_I f.z)), (0, .ref 196)]) (st' := [.int (0 : Int32)]) rfl Kz) ?_
                    refine jv_Wp.of (jv_Ev.ret jv_i295 rfl rfl) ?_
                    rw [hQ]
                    have td0 : ¬ zd = 0 := fun z => h1 ((vr_isN (L := L) okd hd11).mp ((hd ()).trans z))
                    have td7 : zd = 7 := (hd ()).symm.trans ((vr_is (L := L) 7 (by decide) okd).mpr (Classical.not_not.mp h19))
                    have ts0 : ¬ zs = 0 := fun z => h56 ((vr_isN (L := L) oks hs11).mp ((hs ()).trans z))
                    have ts1 : zs = 1 := (hs ()).symm.trans ((vr_is (L := L) 1 (by decide) oks).mpr h62)
                    have t00 : ¬ z0 = 0 := fun z => h63 ((vr_isN (L := L) ok0 (by decide)).mp ((h0 ()).trans z))
                    have t01 : ¬ z0 = 1 := fun z => h65 ((vr_is (L := L) 1 (by decide) ok0).mp ((h0 ()).trans z))
                    have nx1 : w141 ≤ 0 := (vl_I_le (a := w141) (b := 0) (by omega) (by omega)).mp h67
                    have ev : vx_even (vr_T I L (76800 + f.d)).val f.o f.z = false := by rw [vr_valv (by rw [(vr_is (L := L) 7 (by decide) okd).mp ((hd ()).trans (by omega))]; rfl), ← vr_dO D, vx_even_r hz]; exact (by rw [decide_eq_false h55, Bool.and_false])
                    have r7 := vx_r7' (M := M) (A := (vr_A I L 1024)) (o := f.o) (z := f.z) (w := true) ((hd ()).trans (show zd = 7 by omega))
                    rw [hrr ()] at r7
                    exact absurd (show False by omega) (fun z => z)
                  · refine jv_Wp.lift (fun _ Kz => jv_Ev.steps jv_i295 1 (pc' := 252) (l' := [(2, .int (vl_I w141)), (7, .int (0 : Int32)), (5, .long ((vl_I f.z).toInt64 - (1 : Int64))), (4, .int (vl_I (8 + (76800 + f.d)))), (3, .int (I 205 (76800 + f.d))), (1, .int (vl_I f.z)), (0, .ref 196)]) (st' := [.int (vl_I w141)]) rfl Kz) ?_
                    refine jv_Wp.of (jv_Ev.ret jv_i295 rfl rfl) ?_
                    rw [hQ]
                    have td0 : ¬ zd = 0 := fun z => h1 ((vr_isN (L := L) okd hd11).mp ((hd ()).trans z))
                    have td7 : zd = 7 := (hd ()).symm.trans ((vr_is (L := L) 7 (by decide) okd).mpr (Classical.not_not.mp h19))
                    have ts0 : ¬ zs = 0 := fun z => h56 ((vr_isN (L := L) oks hs11).mp ((hs ()).trans z))
                    have ts1 : zs = 1 := (hs ()).symm.trans ((vr_is (L := L) 1 (by decide) oks).mpr h62)
                    have t00 : ¬ z0 = 0 := fun z => h63 ((vr_isN (L := L) ok0 (by decide)).mp ((h0 ()).trans z))
                    have t01 : ¬ z0 = 1 := fun z => h65 ((vr_is (L := L) 1 (by decide) ok0).mp ((h0 ()).trans z))
                    have nx1 : ¬ w141 ≤ 0 := fun z => h67 ((vl_I_le (a := w141) (b := 0) (by omega) (by omega)).mpr z)
                    have ev : vx_even (vr_T I L (76800 + f.d)).val f.o f.z = false := by rw [vr_valv (by rw [(vr_is (L := L) 7 (by decide) okd).mp ((hd ()).trans (by omega))]; rfl), ← vr_dO D, vx_even_r hz]; exact (by rw [decide_eq_false h55, Bool.and_false])
                    have r7 := vx_r7' (M := M) (A := (vr_A I L 1024)) (o := f.o) (z := f.z) (w := true) ((hd ()).trans (show zd = 7 by omega))
                    rw [hrr ()] at r7
                    have e : vx_atp M f (vr_A I L 1024) = (w141, (vr_A I L 1024)) := by
                      by_cases c1 : zd = 0 ∨ zs = 0 ∨ (f.i = 241 ∧ z0 = 0)
                      · rw [show w141 = 1 by omega]; exact vx_at1 (by rw [eD, eS, e0, hd (), hs (), h0 ()]; omega)
                      · rw [show w141 = 4 by omega]; exact vx_at3 (by rw [eD, eS, e0, hd (), hs (), h0 ()]; omega) (by rw [eD, hd ()]; omega) (Or.inl (by rw [eD]; exact ev))
                    exact ⟨_, _, by rw [← eQ, e], fun z => by rw [← eQ, e] at z; exact absurd (show w141 = 0 from z) (by omega), vr_fr_refl hf⟩
            · refine jv_Wp.lift (fun _ Kz => jv_Ev.steps jv_i295 2 (pc' := 205) (l' := [(2, .int (vl_I w128)), (7, .int (0 : Int32)), (5, .long ((vl_I f.z).toInt64 - (1 : Int64))), (4, .int (vl_I (8 + (76800 + f.d)))), (3, .int (I 205 (76800 + f.d))), (1, .int (vl_I f.z)), (0, .ref 196)]) (st' := [.int (6 : Int32), .int (vl_I w128)]) rfl Kz) ?_
              obtain ⟨w143, hq143⟩ : ∃ x : Nat, ∀ _ : Unit, vx_fst w128 6 = x := ⟨_, fun _ => rfl⟩
              have fq143 : (w128 = 0 → w143 = 6) ∧ (6 = 0 → w143 = w128) ∧ (w143 = w128 ∨ w143 = 6) ∧ (w128 ≠ 0 → 6 ≠ 0 → w143 ≤ w128 ∧ w143 ≤ 6) := by rw [← hq143 ()]; exact vx_fst_g w128 6
              have Hf143 := vq_first (I := I) (L := L) (K := K) (R := R) (n := n) (sl := sl) w128 6 (by omega) (by omega)
              rw [hq143 ()] at Hf143
              refine jv_Wp.lift (fun _ Kz => jv_Ev.c jv_i295 (pc' := 208) (S' := [.int (vl_I w143)]) jv_i282 [.int (vl_I w128), .int (6 : Int32)] rfl rfl rfl rfl rfl rfl Hf143 rfl rfl Kz) ?_
              refine jv_Wp.lift (fun _ Kz => jv_Ev.steps jv_i295 3 (pc' := 211) (l' := [(2, .int (vl_I w143)), (7, .int (0 : Int32)), (5, .long ((vl_I f.z).toInt64 - (1 : Int64))), (4, .int (vl_I (8 + (76800 + f.d)))), (3, .int (I 205 (76800 + f.d))), (1, .int (vl_I f.z)), (0, .ref 196)]) (st' := [.ref 196, .int (vl_I w143)]) rfl Kz) ?_
              refine jv_Wp.lift (fun _ Kz => jv_Ev.m jv_i295 (pc' := 214) (st' := [.int (Int32.ofInt f.i), .int (vl_I w143)]) (G' := (jv_H K I L R)) rfl rfl (jv_m_getI (jv_rwK hW 196 12 24 (by decide)) rfl rfl (vr_dJ D)) Kz) ?_
              refine jv_Wp.lift (fun _ Kz => jv_Ev.steps jv_i295 1 (pc' := 217) (l' := [(2, .int (vl_I w143)), (7, .int (0 : Int32)), (5, .long ((vl_I f.z).toInt64 - (1 : Int64))), (4, .int (vl_I (8 + (76800 + f.d)))), (3, .int (I 205 (76800 + f.d))), (1, .int (vl_I f.z)), (0, .ref 196)]) (st' := [.int (241 : Int32), .int (Int32.ofInt f.i), .int (vl_I w143)]) rfl Kz) ?_
              refine jv_Wp.cnd jv_i295 (pt := 242) (pe := 220) (p := (¬ (Int32.ofInt f.i) = (241 : Int32))) (q := (¬ (Int32.ofInt f.i) = (241 : Int32))) rfl jv_bc_ne rfl rfl Iff.rfl (fun hz => absurd hz (fun z => z h241)) (fun _ => ?_)
              refine jv_Wp.lift (fun _ Kz => jv_Ev.steps jv_i295 2 (pc' := 222) (l' := [(2, .int (vl_I w143)), (7, .int (0 : Int32)), (5, .long ((vl_I f.z).toInt64 - (1 : Int64))), (4, .int (vl_I (8 + (76800 + f.d)))), (3, .int (I 205 (76800 + f.d))), (1, .int (vl_I f.z)), (0, .ref 196)]) (st' := [.int (0 : Int32), .ref 196, .int (vl_I w143)]) rfl Kz) ?_
              refine jv_Wp.lift (fun _ Kz => jv_Ev.c jv_i295 (pc' := 225) (S' := [.int (I 205 (76800 + 0)), .int (vl_I w143)]) jv_i271 [.ref 196, .int (0 : Int32)] rfl rfl rfl rfl (jv_cal rfl (jv_H_at (jv_rwK hW 196 12 24 (by decide))) rfl rfl) rfl (vq_sortOf 0 hW (by omega)) rfl rfl Kz) ?_
              refine jv_Wp.cnd jv_i295 (pt := 242) (pe := 228) (p := ((I 205 (76800 + 0)) = 0)) (q := ((I 205 (76800 + 0)) = 0)) rfl jv_bi_eq rfl rfl Iff.rfl (fun h68 => ?_) (fun h68 => ?_)
              · refine jv_Wp.lift (fun _ Kz => jv_Ev.steps jv_i295 1 (pc' := 243) (l' := [(2, .int (vl_I w143)), (7, .int (0 : Int32)), (5, .long ((vl_I f.z).toInt64 - (1 : Int64))), (4, .int (vl_I (8 + (76800 + f.d)))), (3, .int (I 205 (76800 + f.d))), (1, .int (vl_I f.z)), (0, .ref 196)]) (st' := [.int (0 : Int32), .int (vl_I w143)]) rfl Kz) ?_
                obtain ⟨w144, hq144⟩ : ∃ x : Nat, ∀ _ : Unit, vx_fst w143 0 = x := ⟨_, fun _ => rfl⟩
                have fq144 : (w143 = 0 → w144 = 0) ∧ (0 = 0 → w144 = w143) ∧ (w144 = w143 ∨ w144 = 0) ∧ (w143 ≠ 0 → 0 ≠ 0 → w144 ≤ w143 ∧ w144 ≤ 0) := by rw [← hq144 ()]; exact vx_fst_g w143 0
                have Hf144 := vq_first (I := I) (L := L) (K := K) (R := R) (n := n) (sl := sl) w143 0 (by omega) (by omega)
                rw [hq144 ()] at Hf144
                refine jv_Wp.lift (fun _ Kz => jv_Ev.c jv_i295 (pc' := 246) (S' := [.int (vl_I w144)]) jv_i282 [.int (vl_I w143), .int (0 : Int32)] rfl rfl rfl rfl rfl rfl Hf144 rfl rfl Kz) ?_
                refine jv_Wp.lift (fun _ Kz => jv_Ev.steps jv_i295 2 (pc' := 248) (l' := [(2, .int (vl_I w144)), (7, .int (0 : Int32)), (5, .long ((vl_I f.z).toInt64 - (1 : Int64))), (4, .int (vl_I (8 + (76800 + f.d)))), (3, .int (I 205 (76800 + f.d))), (1, .int (vl_I f.z)), (0, .ref 196)]) (st' := [.int (vl_I w144)]) rfl Kz) ?_
                refine jv_Wp.cnd jv_i295 (pt := 253) (pe := 251) (p := ((vl_I w144) ≤ 0)) (q := ((vl_I w144) ≤ 0)) rfl jv_bi_le rfl rfl Iff.rfl (fun h69 => ?_) (fun h69 => ?_)
                · refine jv_Wp.lift (fun _ Kz => jv_Ev.steps jv_i295 1 (pc' := 254) (l' := [(2, .int (vl_I w144)), (7, .int (0 : Int32)), (5, .long ((vl_I f.z).toInt64 - (1 : Int64))), (4, .int (vl_I (8 + (76800 + f.d)))), (3, .int (I 205 (76800 + f.d))), (1, .int (vl_I f.z)), (0, .ref 196)]) (st' := [.ref 196]) rfl Kz) ?_
                  refine jv_Wp.lift (fun _ Kz => jv_Ev.m jv_i295 (pc' := 257) (st' := [.int (Int32.ofInt f.i)]) (G' := (jv_H K I L R)) rfl rfl (jv_m_getI (jv_rwK hW 196 12 24 (by decide)) rfl rfl (vr_dJ D)) Kz) ?_
                  refine jv_Wp.lift (fun _ Kz => jv_Ev.steps jv_i295 1 (pc' := 260) (l' := [(2, .int (vl_I w144)), (7, .int (0 : Int32)), (5, .long ((vl_I f.z).toInt64 - (1 : Int64))), (4, .int (vl_I (8 + (76800 + f.d)))), (3, .int (I 205 (76800 + f.d))), (1, .int (vl_I f.z)), (0, .ref 196)]) (st' := [.int (241 : Int32), .int (Int32.ofInt f.i)]) rfl Kz) ?_
                  refine jv_Wp.cnd jv_i295 (pt := 272) (pe := 263) (p := (¬ (Int32.ofInt f.i) = (241 : Int32))) (q := (¬ (Int32.ofInt f.i) = (241 : Int32))) rfl jv_bc_ne rfl rfl Iff.rfl (fun hz => absurd hz (fun z => z h241)) (fun _ => ?_)
                  refine jv_Wp.lift (fun _ Kz => jv_Ev.steps jv_i295 3 (pc' := 266) (l' := [(2, .int (vl_I w144)), (7, .int (0 : Int32)), (5, .long ((vl_I f.z).toInt64 - (1 : Int64))), (4, .int (vl_I (8 + (76800 + f.d)))), (3, .int (I 205 (76800 + f.d))), (1, .int (vl_I f.z)), (0, .ref 196)]) (st' := [.int (vl_I f.z), .int (0 : Int32), .ref 196]) rfl Kz) ?_
                  obtain ⟨I145, L145, H145, T145, O145, F145⟩ := vq_setAny (I := I) (L := L) (R := R) (n := n) (sl := sl) 0 f.z hW hf (by omega) hz
                  refine jv_Wp.lift (fun _ Kz => jv_Ev.c jv_i295 (pc' := 269) (S' := []) (G1 := (jv_H K I145 L145 R)) jv_i274 [.ref 196, .int (0 : Int32), .int (vl_I f.z)] rfl rfl rfl rfl (jv_cal rfl (jv_H_at (jv_rwK hW 196 12 24 (by decide))) rfl rfl) rfl H145 rfl rfl Kz) ?_
                  refine jv_Wp.lift (fun _ Kz => jv_Ev.steps jv_i295 2 (pc' := 292) (l' := [(2, .int (vl_I w144)), (7, .int (0 : Int32)), (5, .long ((vl_I f.z).toInt64 - (1 : Int64))), (4, .int (vl_I (8 + (76800 + f.d)))), (3, .int (I 205 (76800 + f.d))), (1, .int (vl_I f.z)), (0, .ref 196)]) (st' := [.int (0 : Int32)]) rfl Kz) ?_
                  refine jv_Wp.of (jv_Ev.ret jv_i295 rfl rfl) ?_
                  rw [hQ]
                  have td0 : ¬ zd = 0 := fun z => h1 ((vr_isN (L := L) okd hd11).mp ((hd ()).trans z))
                  have td7 : zd = 7 := (hd ()).symm.trans ((vr_is (L := L) 7 (by decide) okd).mpr (Classical.not_not.mp h19))
                  have ts0 : ¬ zs = 0 := fun z => h56 ((vr_isN (L := L) oks hs11).mp ((hs ()).trans z))
                  have ts1 : ¬ zs = 1 := fun z => h62 ((vr_is (L := L) 1 (by decide) oks).mp ((hs ()).trans z))
                  have t00 : z0 = 0 := (h0 ()).symm.trans ((vr_isN (L := L) ok0 (by decide)).mpr h68)
                  have nx1 : w144 ≤ 0 := (vl_I_le (a := w144) (b := 0) (by omega) (by omega)).mp h69
                  have ev : vx_even (vr_T I L (76800 + f.d)).val f.o f.z = false := by rw [vr_valv (by rw [(vr_is (L := L) 7 (by decide) okd).mp ((hd ()).trans (by omega))]; rfl), ← vr_dO D, vx_even_r hz]; exact (by rw [decide_eq_false h55, Bool.and_false])
                  have r7 := vx_r7' (M := M) (A := (vr_A I L 1024)) (o := f.o) (z := f.z) (w := true) ((hd ()).trans (show zd = 7 by omega))
                  rw [hrr ()] at r7
                  exact absurd (show False by omega) (fun z => z)
                · refine jv_Wp.lift (fun _ Kz => jv_Ev.steps jv_i295 1 (pc' := 252) (l' := [(2, .int (vl_I w144)), (7, .int (0 : Int32)), (5, .long ((vl_I f.z).toInt64 - (1 : Int64))), (4, .int (vl_I (8 + (76800 + f.d)))), (3, .int (I 205 (76800 + f.d))), (1, .int (vl_I f.z)), (0, .ref 196)]) (st' := [.int (vl_I w144)]) rfl Kz) ?_
                  refine jv_Wp.of (jv_Ev.ret jv_i295 rfl rfl) ?_
                  rw [hQ]
                  have td0 : ¬ zd = 0 := fun z => h1 ((vr_isN (L := L) okd hd11).mp ((hd ()).trans z))
                  have td7 : zd = 7 := (hd ()).symm.trans ((vr_is (L := L) 7 (by decide) okd).mpr (Classical.not_not.mp h19))
                  have ts0 : ¬ zs = 0 := fun z => h56 ((vr_isN (L := L) oks hs11).mp ((hs ()).trans z))
                  have ts1 : ¬ zs = 1 := fun z => h62 ((vr_is (L := L) 1 (by decide) oks).mp ((hs ()).trans z))
                  have t00 : z0 = 0 := (h0 ()).symm.trans ((vr_isN (L := L) ok0 (by decide)).mpr h68)
                  have nx1 : ¬ w144 ≤ 0 := fun z => h69 ((vl_I_le (a := w144) (b := 0) (by omega) (by omega)).mpr z)
                  have ev : vx_even (vr_T I L (76800 + f.d)).val f.o f.z = false := by rw [vr_valv (by rw [(vr_is (L := L) 7 (by decide) okd).mp ((hd ()).trans (by omega))]; rfl), ← vr_dO D, vx_even_r hz]; exact (by rw [decide_eq_false h55, Bool.and_false])
                  have r7 := vx_r7' (M := M) (A := (vr_A I L 1024)) (o := f.o) (z := f.z) (w := true) ((hd ()).trans (show zd = 7 by omega))
                  rw [hrr ()] at r7
                  have e : vx_atp M f (vr_A I L 1024) = (w144, (vr_A I L 1024)) := by
                    by_cases c1 : zd = 0 ∨ zs = 0 ∨ (f.i = 241 ∧ z0 = 0)
                    · rw [show w144 = 1 by omega]; exact vx_at1 (by rw [eD, eS, e0, hd (), hs (), h0 ()]; omega)
                    · rw [show w144 = 4 by omega]; exact vx_at3 (by rw [eD, eS, e0, hd (), hs (), h0 ()]; omega) (by rw [eD, hd ()]; omega) (Or.inl (by rw [eD]; exact ev))
                  exact ⟨_, _, by rw [← eQ, e], fun z => by rw [← eQ, e] at z; exact absurd (show w144 = 0 from z) (by omega), vr_fr_refl hf⟩
              · refine jv_Wp.lift (fun _ Kz => jv_Ev.steps jv_i295 2 (pc' := 230) (l' := [(2, .int (vl_I w143)), (7, .int (0 : Int32)), (5, .long ((vl_I f.z).toInt64 - (1 : Int64))), (4, .int (vl_I (8 + (76800 + f.d)))), (3, .int (I 205 (76800 + f.d))), (1, .int (vl_I f.z)), (0, .ref 196)]) (st' := [.int (0 : Int32), .ref 196, .int (vl_I w143)]) rfl Kz) ?_
                refine jv_Wp.lift (fun _ Kz => jv_Ev.c jv_i295 (pc' := 233) (S' := [.int (I 205 (76800 + 0)), .int (vl_I w143)]) jv_i271 [.ref 196, .int (0 : Int32)] rfl rfl rfl rfl (jv_cal rfl (jv_H_at (jv_rwK hW 196 12 24 (by decide))) rfl rfl) rfl (vq_sortOf 0 hW (by omega)) rfl rfl Kz) ?_
                refine jv_Wp.lift (fun _ Kz => jv_Ev.steps jv_i295 1 (pc' := 234) (l' := [(2, .int (vl_I w143)), (7, .int (0 : Int32)), (5, .long ((vl_I f.z).toInt64 - (1 : Int64))), (4, .int (vl_I (8 + (76800 + f.d)))), (3, .int (I 205 (76800 + f.d))), (1, .int (vl_I f.z)), (0, .ref 196)]) (st' := [.int (1 : Int32), .int (I 205 (76800 + 0)), .int (vl_I w143)]) rfl Kz) ?_
                refine jv_Wp.cnd jv_i295 (pt := 242) (pe := 237) (p := ((I 205 (76800 + 0)) = (1 : Int32))) (q := ((I 205 (76800 + 0)) = (1 : Int32))) rfl jv_bc_eq rfl rfl Iff.rfl (fun h70 => ?_) (fun h70 => ?_)
                · refine jv_Wp.lift (fun _ Kz => jv_Ev.steps jv_i295 1 (pc' := 243) (l' := [(2, .int (vl_I w143)), (7, .int (0 : Int32)), (5, .long ((vl_I f.z).toInt64 - (1 : Int64))), (4, .int (vl_I (8 + (76800 + f.d)))), (3, .int (I 205 (76800 + f.d))), (1, .int (vl_I f.z)), (0, .ref 196)]) (st' := [.int (0 : Int32), .int (vl_I w143)]) rfl Kz) ?_
                  obtain ⟨w146, hq146⟩ : ∃ x : Nat, ∀ _ : Unit, vx_fst w143 0 = x := ⟨_, fun _ => rfl⟩
                  have fq146 : (w143 = 0 → w146 = 0) ∧ (0 = 0 → w146 = w143) ∧ (w146 = w143 ∨ w146 = 0) ∧ (w143 ≠ 0 → 0 ≠ 0 → w146 ≤ w143 ∧ w146 ≤ 0) := by rw [← hq146 ()]; exact vx_fst_g w143 0
                  have Hf146 := vq_first (I := I) (L := L) (K := K) (R := R) (n := n) (sl := sl) w143 0 (by omega) (by omega)
                  rw [hq146 ()] at Hf146
                  refine jv_Wp.lift (fun _ Kz => jv_Ev.c jv_i295 (pc' := 246) (S' := [.int (vl_I w146)]) jv_i282 [.int (vl_I w143), .int (0 : Int32)] rfl rfl rfl rfl rfl rfl Hf146 rfl rfl Kz) ?_
                  refine jv_Wp.lift (fun _ Kz => jv_Ev.steps jv_i295 2 (pc' := 248) (l' := [(2, .int (vl_I w146)), (7, .int (0 : Int32)), (5, .long ((vl_I f.z).toInt64 - (1 : Int64))), (4, .int (vl_I (8 + (76800 + f.d)))), (3, .int (I 205 (76800 + f.d))), (1, .int (vl_I f.z)), (0, .ref 196)]) (st' := [.int (vl_I w146)]) rfl Kz) ?_
                  refine jv_Wp.cnd jv_i295 (pt := 253) (pe := 251) (p := ((vl_I w146) ≤ 0)) (q := ((vl_I w146) ≤ 0)) rfl jv_bi_le rfl rfl Iff.rfl (fun h71 => ?_) (fun h71 => ?_)
                  · refine jv_Wp.lift (fun _ Kz => jv_Ev.steps jv_i295 1 (pc' := 254) (l' := [(2, .int (vl_I w146)), (7, .int (0 : Int32)), (5, .long ((vl_I f.z).toInt64 - (1 : Int64))), (4, .int (vl_I (8 + (76800 + f.d)))), (3, .int (I 205 (76800 + f.d))), (1, .int (vl_I f.z)), (0, .ref 196)]) (st' := [.ref 196]) rfl Kz) ?_
                    refine jv_Wp.lift (fun _ Kz => jv_Ev.m jv_i295 (pc' := 257) (st' := [.int (Int32.ofInt f.i)]) (G' := (jv_H K I L R)) rfl rfl (jv_m_getI (jv_rwK hW 196 12 24 (by decide)) rfl rfl (vr_dJ D)) Kz) ?_
                    refine jv_Wp.lift (fun _ Kz => jv_Ev.steps jv_i295 1 (pc' := 260) (l' := [(2, .int (vl_I w146)), (7, .int (0 : Int32)), (5, .long ((vl_I f.z).toInt64 - (1 : Int64))), (4, .int (vl_I (8 + (76800 + f.d)))), (3, .int (I 205 (76800 + f.d))), (1, .int (vl_I f.z)), (0, .ref 196)]) (st' := [.int (241 : Int32), .int (Int32.ofInt f.i)]) rfl Kz) ?_
                    refine jv_Wp.cnd jv_i295 (pt := 272) (pe := 263) (p := (¬ (Int32.ofInt f.i) = (241 : Int32))) (q := (¬ (Int32.ofInt f.i) = (241 : Int32))) rfl jv_bc_ne rfl rfl Iff.rfl (fun hz => absurd hz (fun z => z h241)) (fun _ => ?_)
                    refine jv_Wp.lift (fun _ Kz => jv_Ev.steps jv_i295 3 (pc' := 266) (l' := [(2, .int (vl_I w146)), (7, .int (0 : Int32)), (5, .long ((vl_I f.z).toInt64 - (1 : Int64))), (4, .int (vl_I (8 + (76800 + f.d)))), (3, .int (I 205 (76800 + f.d))), (1, .int (vl_I f.z)), (0, .ref 196)]) (st' := [.int (vl_I f.z), .int (0 : Int32), .ref 196]) rfl Kz) ?_
                    obtain ⟨I147, L147, H147, T147, O147, F147⟩ := vq_setAny (I := I) (L := L) (R := R) (n := n) (sl := sl) 0 f.z hW hf (by omega) hz
                    refine jv_Wp.lift (fun _ Kz => jv_Ev.c jv_i295 (pc' := 269) (S' := []) (G1 := (jv_H K I147 L147 R)) jv_i274 [.ref 196, .int (0 : Int32), .int (vl_I f.z)] rfl rfl rfl rfl (jv_cal rfl (jv_H_at (jv_rwK hW 196 12 24 (by decide))) rfl rfl) rfl H147 rfl rfl Kz) ?_
                    refine jv_Wp.lift (fun _ Kz => jv_Ev.steps jv_i295 2 (pc' := 292) (l' := [(2, .int (vl_I w146)), (7, .int (0 : Int32)), (5, .long ((vl_I f.z).toInt64 - (1 : Int64))), (4, .int (vl_I (8 + (76800 + f.d)))), (3, .int (I 205 (76800 + f.d))), (1, .int (vl_I f.z)), (0, .ref 196)]) (st' := [.int (0 : Int32)]) rfl Kz) ?_
                    refine jv_Wp.of (jv_Ev.ret jv_i295 rfl rfl) ?_
                    rw [hQ]
                    have td0 : ¬ zd = 0 := fun z => h1 ((vr_isN (L := L) okd hd11).mp ((hd ()).trans z))
                    have td7 : zd = 7 := (hd ()).symm.trans ((vr_is (L := L) 7 (by decide) okd).mpr (Classical.not_not.mp h19))
                    have ts0 : ¬ zs = 0 := fun z => h56 ((vr_isN (L := L) oks hs11).mp ((hs ()).trans z))
                    have ts1 : ¬ zs = 1 := fun z => h62 ((vr_is (L := L) 1 (by decide) oks).mp ((hs ()).trans z))
                    have t00 : ¬ z0 = 0 := fun z => h68 ((vr_isN (L := L) ok0 (by decide)).mp ((h0 ()).trans z))
                    have t01 : z0 = 1 := (h0 ()).symm.trans ((vr_is (L := L) 1 (by decide) ok0).mpr h70)
                    have nx1 : w146 ≤ 0 := (vl_I_le (a := w146) (b := 0) (by omega) (by omega)).mp h71
                    have ev : vx_even (vr_T I L (76800 + f.d)).val f.o f.z = false := by rw [vr_valv (by rw [(vr_is (L := L) 7 (by decide) okd).mp ((hd ()).trans (by omega))]; rfl), ← vr_dO D, vx_even_r hz]; exact (by rw [decide_eq_false h55, Bool.and_false])
                    have r7 := vx_r7' (M := M) (A := (vr_A I L 1024)) (o := f.o) (z := f.z) (w := true) ((hd ()).trans (show zd = 7 by omega))
                    rw [hrr ()] at r7
                    exact absurd (show False by omega) (fun z => z)
                  · refine jv_Wp.lift (fun _ Kz => jv_Ev.steps jv_i295 1 (pc' := 252) (l' := [(2, .int (vl_I w146)), (7, .int (0 : Int32)), (5, .long ((vl_I f.z).toInt64 - (1 : Int64))), (4, .int (vl_I (8 + (76800 + f.d)))), (3, .int (I 205 (76800 + f.d))), (1, .int (vl_I f.z)), (0, .ref 196)]) (st' := [.int (vl_I w146)]) rfl Kz) ?_
                    refine jv_Wp.of (jv_Ev.ret jv_i295 rfl rfl) ?_
                    rw [hQ]
                    have td0 : ¬ zd = 0 := fun z => h1 ((vr_isN (L := L) okd hd11).mp ((hd ()).trans z))
                    have td7 : zd = 7 := (hd ()).symm.trans ((vr_is (L := L) 7 (by decide) okd).mpr (Classical.not_not.mp h19))
                    have ts0 : ¬ zs = 0 := fun z => h56 ((vr_isN (L := L) oks hs11).mp ((hs ()).trans z))
                    have ts1 : ¬ zs = 1 := fun z => h62 ((vr_is (L := L) 1 (by decide) oks).mp ((hs ()).trans z))
                    have t00 : ¬ z0 = 0 := fun z => h68 ((vr_isN (L := L) ok0 (by decide)).mp ((h0 ()).trans z))
                    have t01 : z0 = 1 := (h0 ()).symm.trans ((vr_is (L := L) 1 (by decide) ok0).mpr h70)
                    have nx1 : ¬ w146 ≤ 0 := fun z => h71 ((vl_I_le (a := w146) (b := 0) (by omega) (by omega)).mpr z)
                    have ev : vx_even (vr_T I L (76800 + f.d)).val f.o f.z = false := by rw [vr_valv (by rw [(vr_is (L := L) 7 (by decide) okd).mp ((hd ()).trans (by omega))]; rfl), ← vr_dO D, vx_even_r hz]; exact (by rw [decide_eq_false h55, Bool.and_false])
                    have r7 := vx_r7' (M := M) (A := (vr_A I L 1024)) (o := f.o) (z := f.z) (w := true) ((hd ()).trans (show zd = 7 by omega))
                    rw [hrr ()] at r7
                    have e : vx_atp M f (vr_A I L 1024) = (w146, (vr_A I L 1024)) := by
                      by_cases c1 : zd = 0 ∨ zs = 0 ∨ (f.i = 241 ∧ z0 = 0)
                      · rw [show w146 = 1 by omega]; exact vx_at1 (by rw [eD, eS, e0, hd (), hs (), h0 ()]; omega)
                      · rw [show w146 = 4 by omega]; exact vx_at3 (by rw [eD, eS, e0, hd (), hs (), h0 ()]; omega) (by rw [eD, hd ()]; omega) (Or.inl (by rw [eD]; exact ev))
                    exact ⟨_, _, by rw [← eQ, e], fun z => by rw [← eQ, e] at z; exact absurd (show w146 = 0 from z) (by omega), vr_fr_refl hf⟩
                · refine jv_Wp.lift (fun _ Kz => jv_Ev.steps jv_i295 2 (pc' := 243) (l' := [(2, .int (vl_I w143)), (7, .int (0 : Int32)), (5, .long ((vl_I f.z).toInt64 - (1 : Int64))), (4, .int (vl_I (8 + (76800 + f.d)))), (3, .int (I 205 (76800 + f.d))), (1, .int (vl_I f.z)), (0, .ref 196)]) (st' := [.int (6 : Int32), .int (vl_I w143)]) rfl Kz) ?_
                  obtain ⟨w148, hq148⟩ : ∃ x : Nat, ∀ _ : Unit, vx_fst w143 6 = x := ⟨_, fun _ => rfl⟩
                  have fq148 : (w143 = 0 → w148 = 6) ∧ (6 = 0 → w148 = w143) ∧ (w148 = w143 ∨ w148 = 6) ∧ (w143 ≠ 0 → 6 ≠ 0 → w148 ≤ w143 ∧ w148 ≤ 6) := by rw [← hq148 ()]; exact vx_fst_g w143 6
                  have Hf148 := vq_first (I := I) (L := L) (K := K) (R := R) (n := n) (sl := sl) w143 6 (by omega) (by omega)
                  rw [hq148 ()] at Hf148
                  refine jv_Wp.lift (fun _ Kz => jv_Ev.c jv_i295 (pc' := 246) (S' := [.int (vl_I w148)]) jv_i282 [.int (vl_I w143), .int (6 : Int32)] rfl rfl rfl rfl rfl rfl Hf148 rfl rfl Kz) ?_
                  refine jv_Wp.lift (fun _ Kz => jv_Ev.steps jv_i295 2 (pc' := 248) (l' := [(2, .int (vl_I w148)), (7, .int (0 : Int32)), (5, .long ((vl_I f.z).toInt64 - (1 : Int64))), (4, .int (vl_I (8 + (76800 + f.d)))), (3, .int (I 205 (76800 + f.d))), (1, .int (vl_I f.z)), (0, .ref 196)]) (st' := [.int (vl_I w148)]) rfl Kz) ?_
                  refine jv_Wp.cnd jv_i295 (pt := 253) (pe := 251) (p := ((vl_I w148) ≤ 0)) (q := ((vl_I w148) ≤ 0)) rfl jv_bi_le rfl rfl Iff.rfl (fun h72 => ?_) (fun h72 => ?_)
                  · refine jv_Wp.lift (fun _ Kz => jv_Ev.steps jv_i295 1 (pc' := 254) (l' := [(2, .int (vl_I w148)), (7, .int (0 : Int32)), (5, .long ((vl_I f.z).toInt64 - (1 : Int64))), (4, .int (vl_I (8 + (76800 + f.d)))), (3, .int (I 205 (76800 + f.d))), (1, .int (vl_I f.z)), (0, .ref 196)]) (st' := [.ref 196]) rfl Kz) ?_
                    refine jv_Wp.lift (fun _ Kz => jv_Ev.m jv_i295 (pc' := 257) (st' := [.int (Int32.ofInt f.i)]) (G' := (jv_H K I L R)) rfl rfl (jv_m_getI (jv_rwK hW 196 12 24 (by decide)) rfl rfl (vr_dJ D)) Kz) ?_
                    refine jv_Wp.lift (fun _ Kz => jv_Ev.steps jv_i295 1 (pc' := 260) (l' := [(2, .int (vl_I w148)), (7, .int (0 : Int32)), (5, .long ((vl_I f.z).toInt64 - (1 : Int64))), (4, .int (vl_I (8 + (76800 + f.d)))), (3, .int (I 205 (76800 + f.d))), (1, .int (vl_I f.z)), (0, .ref 196)]) (st' := [.int (241 : Int32), .int (Int32.ofInt f.i)]) rfl Kz) ?_
                    refine jv_Wp.cnd jv_i295 (pt := 272) (pe := 263) (p := (¬ (Int32.ofInt f.i) = (241 : Int32))) (q := (¬ (Int32.ofInt f.i) = (241 : Int32))) rfl jv_bc_ne rfl rfl Iff.rfl (fun hz => absurd hz (fun z => z h241)) (fun _ => ?_)
                    refine jv_Wp.lift (fun _ Kz => jv_Ev.steps jv_i295 3 (pc' := 266) (l' := [(2, .int (vl_I w148)), (7, .int (0 : Int32)), (5, .long ((vl_I f.z).toInt64 - (1 : Int64))), (4, .int (vl_I (8 + (76800 + f.d)))), (3, .int (I 205 (76800 + f.d))), (1, .int (vl_I f.z)), (0, .ref 196)]) (st' := [.int (vl_I f.z), .int (0 : Int32), .ref 196]) rfl Kz) ?_
                    obtain ⟨I149, L149, H149, T149, O149, F149⟩ := vq_setAny (I := I) (L := L) (R := R) (n := n) (sl := sl) 0 f.z hW hf (by omega) hz
                    refine jv_Wp.lift (fun _ Kz => jv_Ev.c jv_i295 (pc' := 269) (S' := []) (G1 := (jv_H K I149 L149 R)) jv_i274 [.ref 196, .int (0 : Int32), .int (vl_I f.z)] rfl rfl rfl rfl (jv_cal rfl (jv_H_at (jv_rwK hW 196 12 24 (by decide))) rfl rfl) rfl H149 rfl rfl Kz) ?_
                    refine jv_Wp.lift (fun _ Kz => jv_Ev.steps jv_i295 2 (pc' := 292) (l' := [(2, .int (vl_I w148)), (7, .int (0 : Int32)), (5, .long ((vl_I f.z).toInt64 - (1 : Int64))), (4, .int (vl_I (8 + (76800 + f.d)))), (3, .int (I 205 (76800 + f.d))), (1, .int (vl_I f.z)), (0, .ref 196)]) (st' := [.int (0 : Int32)]) rfl Kz) ?_
                    refine jv_Wp.of (jv_Ev.ret jv_i295 rfl rfl) ?_
                    rw [hQ]
                    have td0 : ¬ zd = 0 := fun z => h1 ((vr_isN (L := L) okd hd11).mp ((hd ()).trans z))
                    have td7 : zd = 7 := (hd ()).symm.trans ((vr_is (L := L) 7 (by decide) okd).mpr (Classical.not_not.mp h19))
                    have ts0 : ¬ zs = 0 := fun z => h56 ((vr_isN (L := L) oks hs11).mp ((hs ()).trans z))
                    have ts1 : ¬ zs = 1 := fun z => h62 ((vr_is (L := L) 1 (by decide) oks).mp ((hs ()).trans z))
                    have t00 : ¬ z0 = 0 := fun z => h68 ((vr_isN (L := L) ok0 (by decide)).mp ((h0 ()).trans z))
                    have t01 : ¬ z0 = 1 := fun z => h70 ((vr_is (L := L) 1 (by decide) ok0).mp ((h0 ()).trans z))
                    have nx1 : w148 ≤ 0 := (vl_I_le (a := w148) (b := 0) (by omega) (by omega)).mp h72
                    have ev : vx_even (vr_T I L (76800 + f.d)).val f.o f.z = false := by rw [vr_valv (by rw [(vr_is (L := L) 7 (by decide) okd).mp ((hd ()).trans (by omega))]; rfl), ← vr_dO D, vx_even_r hz]; exact (by rw [decide_eq_false h55, Bool.and_false])
                    have r7 := vx_r7' (M := M) (A := (vr_A I L 1024)) (o := f.o) (z := f.z) (w := true) ((hd ()).trans (show zd = 7 by omega))
                    rw [hrr ()] at r7
                    exact absurd (show False by omega) (fun z => z)
                  · refine jv_Wp.lift (fun _ Kz => jv_Ev.steps jv_i295 1 (pc' := 252) (l' := [(2, .int (vl_I w148)), (7, .int (0 : Int32)), (5, .long ((vl_I f.z).toInt64 - (1 : Int64))), (4, .int (vl_I (8 + (76800 + f.d)))), (3, .int (I 205 (76800 + f.d))), (1, .int (vl_I f.z)), (0, .ref 196)]) (st' := [.int (vl_I w148)]) rfl Kz) ?_
                    refine jv_Wp.of (jv_Ev.ret jv_i295 rfl rfl) ?_
                    rw [hQ]
                    have td0 : ¬ zd = 0 := fun z => h1 ((vr_isN (L := L) okd hd11).mp ((hd ()).trans z))
                    have td7 : zd = 7 := (hd ()).symm.trans ((vr_is (L := L) 7 (by decide) okd).mpr (Classical.not_not.mp h19))
                    have ts0 : ¬ zs = 0 := fun z => h56 ((vr_isN (L := L) oks hs11).mp ((hs ()).trans z))
                    have ts1 : ¬ zs = 1 := fun z => h62 ((vr_is (L := L) 1 (by decide) oks).mp ((hs ()).trans z))
                    have t00 : ¬ z0 = 0 := fun z => h68 ((vr_isN (L := L) ok0 (by decide)).mp ((h0 ()).trans z))
                    have t01 : ¬ z0 = 1 := fun z => h70 ((vr_is (L := L) 1 (by decide) ok0).mp ((h0 ()).trans z))
                    have nx1 : ¬ w148 ≤ 0 := fun z => h72 ((vl_I_le (a := w148) (b := 0) (by omega) (by omega)).mpr z)
                    have ev : vx_even (vr_T I L (76800 + f.d)).val f.o f.z = false := by rw [vr_valv (by rw [(vr_is (L := L) 7 (by decide) okd).mp ((hd ()).trans (by omega))]; rfl), ← vr_dO D, vx_even_r hz]; exact (by rw [decide_eq_false h55, Bool.and_false])
                    have r7 := vx_r7' (M := M) (A := (vr_A I L 1024)) (o := f.o) (z := f.z) (w := true) ((hd ()).trans (show zd = 7 by omega))
                    rw [hrr ()] at r7
                    have e : vx_atp M f (vr_A I L 1024) = (w148, (vr_A I L 1024)) := by
                      by_cases c1 : zd = 0 ∨ zs = 0 ∨ (f.i = 241 ∧ z0 = 0)
                      · rw [show w148 = 1 by omega]; exact vx_at1 (by rw [eD, eS, e0, hd (), hs (), h0 ()]; omega)
                      · rw [show w148 = 4 by omega]; exact vx_at3 (by rw [eD, eS, e0, hd (), hs (), h0 ()]; omega) (by rw [eD, hd ()]; omega) (Or.inl (by rw [eD]; exact ev))
                    exact ⟨_, _, by rw [← eQ, e], fun z => by rw [← eQ, e] at z; exact absurd (show w148 = 0 from z) (by omega), vr_fr_refl hf⟩
        · refine jv_Wp.lift (fun _ Kz => jv_Ev.steps jv_i295 5 (pc' := 154) (l' := [(7, .int (1 : Int32)), (5, .long ((vl_I f.z).toInt64 - (1 : Int64))), (4, .int (vl_I (8 + (76800 + f.d)))), (2, .int (vl_I w105)), (3, .int (I 205 (76800 + f.d))), (1, .int (vl_I f.z)), (0, .ref 196)]) (st' := [.int (1 : Int32), .int (vl_I w105)]) rfl Kz) ?_
          refine jv_Wp.lift (fun _ Kz => jv_Ev.br jv_i295 (pc' := 157) (st' := [.int (vl_I w105)]) rfl (by rfl) Kz) ?_
          refine jv_Wp.lift (fun _ Kz => jv_Ev.steps jv_i295 2 (pc' := 159) (l' := [(7, .int (1 : Int32)), (5, .long ((vl_I f.z).toInt64 - (1 : Int64))), (4, .int (vl_I (8 + (76800 + f.d)))), (2, .int (vl_I w105)), (3, .int (I 205 (76800 + f.d))), (1, .int (vl_I f.z)), (0, .ref 196)]) (st' := [.ref 196, .ref 196, .int (vl_I w105)]) rfl Kz) ?_
          refine jv_Wp.lift (fun _ Kz => jv_Ev.m jv_i295 (pc' := 162) (st' := [.int (vl_I f.d), .ref 196, .int (vl_I w105)]) (G' := (jv_H K I L R)) rfl rfl (jv_m_getI (jv_rwK hW 196 12 24 (by decide)) rfl rfl D.2.1) Kz) ?_
          refine jv_Wp.lift (fun _ Kz => jv_Ev.steps jv_i295 2 (pc' := 164) (l' := [(7, .int (1 : Int32)), (5, .long ((vl_I f.z).toInt64 - (1 : Int64))), (4, .int (vl_I (8 + (76800 + f.d)))), (2, .int (vl_I w105)), (3, .int (I 205 (76800 + f.d))), (1, .int (vl_I f.z)), (0, .ref 196)]) (st' := [.int (1 : Int32), .int (vl_I f.z), .int (vl_I f.d), .ref 196, .int (vl_I w105)]) rfl Kz) ?_
          have Hb := vq_reach (I := I) (L := L) (n := n) (sl := sl) M f f.d kd f.z true hW hM D okd hd11 hz k8 hkd
          rw [hbd ()] at Hb
          refine jv_Wp.lift (fun _ Kz => jv_Ev.c jv_i295 (pc' := 167) (S' := [.int (vl_I bd), .int (vl_I w105)]) jv_i290 [.ref 196, .int (vl_I f.d), .int (vl_I f.z), .int (1 : Int32)] rfl rfl rfl rfl (jv_cal rfl (jv_H_at (jv_rwK hW 196 12 24 (by decide))) rfl rfl) rfl Hb rfl rfl Kz) ?_
          refine jv_Wp.lift (fun _ Kz => jv_Ev.steps jv_i295 1 (pc' := 171) (l' := [(7, .int (1 : Int32)), (5, .long ((vl_I f.z).toInt64 - (1 : Int64))), (4, .int (vl_I (8 + (76800 + f.d)))), (2, .int (vl_I w105)), (3, .int (I 205 (76800 + f.d))), (1, .int (vl_I f.z)), (0, .ref 196)]) (st' := [.int (vl_I bd), .int (vl_I w105)]) rfl Kz) ?_
          obtain ⟨w150, hq150⟩ : ∃ x : Nat, ∀ _ : Unit, vx_fst w105 bd = x := ⟨_, fun _ => rfl⟩
          have fq150 : (w105 = 0 → w150 = bd) ∧ (bd = 0 → w150 = w105) ∧ (w150 = w105 ∨ w150 = bd) ∧ (w105 ≠ 0 → bd ≠ 0 → w150 ≤ w105 ∧ w150 ≤ bd) := by rw [← hq150 ()]; exact vx_fst_g w105 bd
          have Hf150 := vq_first (I := I) (L := L) (K := K) (R := R) (n := n) (sl := sl) w105 bd (by omega) (by omega)
          rw [hq150 ()] at Hf150
          refine jv_Wp.lift (fun _ Kz => jv_Ev.c jv_i295 (pc' := 174) (S' := [.int (vl_I w150)]) jv_i282 [.int (vl_I w105), .int (vl_I bd)] rfl rfl rfl rfl rfl rfl Hf150 rfl rfl Kz) ?_
          refine jv_Wp.lift (fun _ Kz => jv_Ev.steps jv_i295 4 (pc' := 178) (l' := [(2, .int (vl_I w150)), (7, .int (1 : Int32)), (5, .long ((vl_I f.z).toInt64 - (1 : Int64))), (4, .int (vl_I (8 + (76800 + f.d)))), (3, .int (I 205 (76800 + f.d))), (1, .int (vl_I f.z)), (0, .ref 196)]) (st' := [.ref 196, .ref 196, .int (vl_I w150)]) rfl Kz) ?_
          refine jv_Wp.lift (fun _ Kz => jv_Ev.m jv_i295 (pc' := 181) (st' := [.int (vl_I f.s), .ref 196, .int (vl_I w150)]) (G' := (jv_H K I L R)) rfl rfl (jv_m_getI (jv_rwK hW 196 12 24 (by decide)) rfl rfl D.2.2.1) Kz) ?_
          refine jv_Wp.lift (fun _ Kz => jv_Ev.c jv_i295 (pc' := 184) (S' := [.int (I 205 (76800 + f.s)), .int (vl_I w150)]) jv_i271 [.ref 196, .int (vl_I f.s)] rfl rfl rfl rfl (jv_cal rfl (jv_H_at (jv_rwK hW 196 12 24 (by decide))) rfl rfl) rfl (vq_sortOf f.s hW (by omega)) rfl rfl Kz) ?_
          refine jv_Wp.cnd jv_i295 (pt := 204) (pe := 187) (p := ((I 205 (76800 + f.s)) = 0)) (q := ((I 205 (76800 + f.s)) = 0)) rfl jv_bi_eq rfl rfl Iff.rfl (fun h73 => ?_) (fun h73 => ?_)
          · refine jv_Wp.lift (fun _ Kz => jv_Ev.steps jv_i295 1 (pc' := 205) (l' := [(2, .int (vl_I w150)), (7, .int (1 : Int32)), (5, .long ((vl_I f.z).toInt64 - (1 : Int64))), (4, .int (vl_I (8 + (76800 + f.d)))), (3, .int (I 205 (76800 + f.d))), (1, .int (vl_I f.z)), (0, .ref 196)]) (st' := [.int (0 : Int32), .int (vl_I w150)]) rfl Kz) ?_
            obtain ⟨w151, hq151⟩ : ∃ x : Nat, ∀ _ : Unit, vx_fst w150 0 = x := ⟨_, fun _ => rfl⟩
            have fq151 : (w150 = 0 → w151 = 0) ∧ (0 = 0 → w151 = w150) ∧ (w151 = w150 ∨ w151 = 0) ∧ (w150 ≠ 0 → 0 ≠ 0 → w151 ≤ w150 ∧ w151 ≤ 0) := by rw [← hq151 ()]; exact vx_fst_g w150 0
            have Hf151 := vq_first (I := I) (L := L) (K := K) (R := R) (n := n) (sl := sl) w150 0 (by omega) (by omega)
            rw [hq151 ()] at Hf151
            refine jv_Wp.lift (fun _ Kz => jv_Ev.c jv_i295 (pc' := 208) (S' := [.int (vl_I w151)]) jv_i282 [.int (vl_I w150), .int (0 : Int32)] rfl rfl rfl rfl rfl rfl Hf151 rfl rfl Kz) ?_
            refine jv_Wp.lift (fun _ Kz => jv_Ev.steps jv_i295 3 (pc' := 211) (l' := [(2, .int (vl_I w151)), (7, .int (1 : Int32)), (5, .long ((vl_I f.z).toInt64 - (1 : Int64))), (4, .int (vl_I (8 + (76800 + f.d)))), (3, .int (I 205 (76800 + f.d))), (1, .int (vl_I f.z)), (0, .ref 196)]) (st' := [.ref 196, .int (vl_I w151)]) rfl Kz) ?_
            refine jv_Wp.lift (fun _ Kz => jv_Ev.m jv_i295 (pc' := 214) (st' := [.int (Int32.ofInt f.i), .int (vl_I w151)]) (G' := (jv_H K I L R)) rfl rfl (jv_m_getI (jv_rwK hW 196 12 24 (by decide)) rfl rfl (vr_dJ D)) Kz) ?_
            refine jv_Wp.lift (fun _ Kz => jv_Ev.steps jv_i295 1 (pc' := 217) (l' := [(2, .int (vl_I w151)), (7, .int (1 : Int32)), (5, .long ((vl_I f.z).toInt64 - (1 : Int64))), (4, .int (vl_I (8 + (76800 + f.d)))), (3, .int (I 205 (76800 + f.d))), (1, .int (vl_I f.z)), (0, .ref 196)]) (st' := [.int (241 : Int32), .int (Int32.ofInt f.i), .int (vl_I w151)]) rfl Kz) ?_
            refine jv_Wp.cnd jv_i295 (pt := 242) (pe := 220) (p := (¬ (Int32.ofInt f.i) = (241 : Int32))) (q := (¬ (Int32.ofInt f.i) = (241 : Int32))) rfl jv_bc_ne rfl rfl Iff.rfl (fun hz => absurd hz (fun z => z h241)) (fun _ => ?_)
            refine jv_Wp.lift (fun _ Kz => jv_Ev.steps jv_i295 2 (pc' := 222) (l' := [(2, .int (vl_I w151)), (7, .int (1 : Int32)), (5, .long ((vl_I f.z).toInt64 - (1 : Int64))), (4, .int (vl_I (8 + (76800 + f.d)))), (3, .int (I 205 (76800 + f.d))), (1, .int (vl_I f.z)), (0, .ref 196)]) (st' := [.int (0 : Int32), .ref 196, .int (vl_I w151)]) rfl Kz) ?_
            refine jv_Wp.lift (fun _ Kz => jv_Ev.c jv_i295 (pc' := 225) (S' := [.int (I 205 (76800 + 0)), .int (vl_I w151)]) jv_i271 [.ref 196, .int (0 : Int32)] rfl rfl rfl rfl (jv_cal rfl (jv_H_at (jv_rwK hW 196 12 24 (by decide))) rfl rfl) rfl (vq_sortOf 0 hW (by omega)) rfl rfl Kz) ?_
            refine jv_Wp.cnd jv_i295 (pt := 242) (pe := 228) (p := ((I 205 (76800 + 0)) = 0)) (q := ((I 205 (76800 + 0)) = 0)) rfl jv_bi_eq rfl rfl Iff.rfl (fun h74 => ?_) (fun h74 => ?_)
            · refine jv_Wp.lift (fun _ Kz => jv_Ev.steps jv_i295 1 (pc' := 243) (l' := [(2, .int (vl_I w151)), (7, .int (1 : Int32)), (5, .long ((vl_I f.z).toInt64 - (1 : Int64))), (4, .int (vl_I (8 + (76800 + f.d)))), (3, .int (I 205 (76800 + f.d))), (1, .int (vl_I f.z)), (0, .ref 196)]) (st' := [.int (0 : Int32), .int (vl_I w151)]) rfl Kz) ?_
              obtain ⟨w152, hq152⟩ : ∃ x : Nat, ∀ _ : Unit, vx_fst w151 0 = x := ⟨_, fun _ => rfl⟩
              have fq152 : (w151 = 0 → w152 = 0) ∧ (0 = 0 → w152 = w151) ∧ (w152 = w151 ∨ w152 = 0) ∧ (w151 ≠ 0 → 0 ≠ 0 → w152 ≤ w151 ∧ w152 ≤ 0) := by rw [← hq152 ()]; exact vx_fst_g w151 0
              have Hf152 := vq_first (I := I) (L := L) (K := K) (R := R) (n := n) (sl := sl) w151 0 (by omega) (by omega)
              rw [hq152 ()] at Hf152
              refine jv_Wp.lift (fun _ Kz => jv_Ev.c jv_i295 (pc' := 246) (S' := [.int (vl_I w152)]) jv_i282 [.int (vl_I w151), .int (0 : Int32)] rfl rfl rfl rfl rfl rfl Hf152 rfl rfl Kz) ?_
              refine jv_Wp.lift (fun _ Kz => jv_Ev.steps jv_i295 2 (pc' := 248) (l' := [(2, .int (vl_I w152)), (7, .int (1 : Int32)), (5, .long ((vl_I f.z).toInt64 - (1 : Int64))), (4, .int (vl_I (8 + (76800 + f.d)))), (3, .int (I 205 (76800 + f.d))), (1, .int (vl_I f.z)), (0, .ref 196)]) (st' := [.int (vl_I w152)]) rfl Kz) ?_
              refine jv_Wp.cnd jv_i295 (pt := 253) (pe := 251) (p := ((vl_I w152) ≤ 0)) (q := ((vl_I w152) ≤ 0)) rfl jv_bi_le rfl rfl Iff.rfl (fun h75 => ?_) (fun h75 => ?_)
              · refine jv_Wp.lift (fun _ Kz => jv_Ev.steps jv_i295 1 (pc' := 254) (l' := [(2, .int (vl_I w152)), (7, .int (1 : Int32)), (5, .long ((vl_I f.z).toInt64 - (1 : Int64))), (4, .int (vl_I (8 + (76800 + f.d)))), (3, .int (I 205 (76800 + f.d))), (1, .int (vl_I f.z)), (0, .ref 196)]) (st' := [.ref 196]) rfl Kz) ?_
                refine jv_Wp.lift (fun _ Kz => jv_Ev.m jv_i295 (pc' := 257) (st' := [.int (Int32.ofInt f.i)]) (G' := (jv_H K I L R)) rfl rfl (jv_m_getI (jv_rwK hW 196 12 24 (by decide)) rfl rfl (vr_dJ D)) Kz) ?_
                refine jv_Wp.lift (fun _ Kz => jv_Ev.steps jv_i295 1 (pc' := 260) (l' := [(2, .int (vl_I w152)), (7, .int (1 : Int32)), (5, .long ((vl_I f.z).toInt64 - (1 : Int64))), (4, .int (vl_I (8 + (76800 + f.d)))), (3, .int (I 205 (76800 + f.d))), (1, .int (vl_I f.z)), (0, .ref 196)]) (st' := [.int (241 : Int32), .int (Int32.ofInt f.i)]) rfl Kz) ?_
                refine jv_Wp.cnd jv_i295 (pt := 272) (pe := 263) (p := (¬ (Int32.ofInt f.i) = (241 : Int32))) (q := (¬ (Int32.ofInt f.i) = (241 : Int32))) rfl jv_bc_ne rfl rfl Iff.rfl (fun hz => absurd hz (fun z => z h241)) (fun _ => ?_)
                refine jv_Wp.lift (fun _ Kz => jv_Ev.steps jv_i295 3 (pc' := 266) (l' := [(2, .int (vl_I w152)), (7, .int (1 : Int32)), (5, .long ((vl_I f.z).toInt64 - (1 : Int64))), (4, .int (vl_I (8 + (76800 + f.d)))), (3, .int (I 205 (76800 + f.d))), (1, .int (vl_I f.z)), (0, .ref 196)]) (st' := [.int (vl_I f.z), .int (0 : Int32), .ref 196]) rfl Kz) ?_
                obtain ⟨I153, L153, H153, T153, O153, F153⟩ := vq_setAny (I := I) (L := L) (R := R) (n := n) (sl := sl) 0 f.z hW hf (by omega) hz
                refine jv_Wp.lift (fun _ Kz => jv_Ev.c jv_i295 (pc' := 269) (S' := []) (G1 := (jv_H K I153 L153 R)) jv_i274 [.ref 196, .int (0 : Int32), .int (vl_I f.z)] rfl rfl rfl rfl (jv_cal rfl (jv_H_at (jv_rwK hW 196 12 24 (by decide))) rfl rfl) rfl H153 rfl rfl Kz) ?_
                refine jv_Wp.lift (fun _ Kz => jv_Ev.steps jv_i295 2 (pc' := 292) (l' := [(2, .int (vl_I w152)), (7, .int (1 : Int32)), (5, .long ((vl_I f.z).toInt64 - (1 : Int64))), (4, .int (vl_I (8 + (76800 + f.d)))), (3, .int (I 205 (76800 + f.d))), (1, .int (vl_I f.z)), (0, .ref 196)]) (st' := [.int (0 : Int32)]) rfl Kz) ?_
                refine jv_Wp.of (jv_Ev.ret jv_i295 rfl rfl) ?_
                rw [hQ]
                have td0 : ¬ zd = 0 := fun z => h1 ((vr_isN (L := L) okd hd11).mp ((hd ()).trans z))
                have td7 : zd = 7 := (hd ()).symm.trans ((vr_is (L := L) 7 (by decide) okd).mpr (Classical.not_not.mp h19))
                have ts0 : zs = 0 := (hs ()).symm.trans ((vr_isN (L := L) oks hs11).mpr h73)
                have t00 : z0 = 0 := (h0 ()).symm.trans ((vr_isN (L := L) ok0 (by decide)).mpr h74)
                have nx1 : w152 ≤ 0 := (vl_I_le (a := w152) (b := 0) (by omega) (by omega)).mp h75
                have ev : vx_even (vr_T I L (76800 + f.d)).val f.o f.z = true := by rw [vr_valv (by rw [(vr_is (L := L) 7 (by decide) okd).mp ((hd ()).trans (by omega))]; rfl), ← vr_dO D, vx_even_r hz]; exact (by rw [decide_eq_true (Classical.not_not.mp h37), decide_eq_true (Classical.not_not.mp h55)]; rfl)
                have r7 := vx_r7' (M := M) (A := (vr_A I L 1024)) (o := f.o) (z := f.z) (w := true) ((hd ()).trans (show zd = 7 by omega))
                rw [hrr ()] at r7
                have e5 : vx_atp M f (vr_A I L 1024) = (0, vt_up (vr_A I L 1024) 0 (vt_num (vx_anyz f.z))) := by have q := vx_at5 (M := M) (f := f) (A := (vr_A I L 1024)) (by rw [eD, eS, e0, hd (), hs (), h0 ()]; omega) (by rw [eD, hd ()]; omega) (fun z => z.elim (fun z => by rw [eD, ev] at z; exact absurd z (by decide)) (fun z => by rw [eD, hrr ()] at z; omega)) (by rw [eS, e0, hs (), h0 ()]; omega) (by omega); rw [if_pos m241] at q; exact q
                have u := vr_upA (I := I) (L := L) (k := 1024) (r := 0) (t := (vt_num (vx_anyz f.z))) (by omega) T153 O153 F153 (fun n hn e q => e (by omega)) oa
                exact ⟨_, _, by rw [← eQ, e5]; rfl, fun _ => by rw [← eQ, e5]; exact u, vr_fr_P F153 (fun x z => by omega)⟩
              · refine jv_Wp.lift (fun _ Kz => jv_Ev.steps jv_i295 1 (pc' := 252) (l' := [(2, .int (vl_I w152)), (7, .int (1 : Int32)), (5, .long ((vl_I f.z).toInt64 - (1 : Int64))), (4, .int (vl_I (8 + (76800 + f.d)))), (3, .int (I 205 (76800 + f.d))), (1, .int (vl_I f.z)), (0, .ref 196)]) (st' := [.int (vl_I w152)]) rfl Kz) ?_
                refine jv_Wp.of (jv_Ev.ret jv_i295 rfl rfl) ?_
                rw [hQ]
                have td0 : ¬ zd = 0 := fun z => h1 ((vr_isN (L := L) okd hd11).mp ((hd ()).trans z))
                have td7 : zd = 7 := (hd ()).symm.trans ((vr_is (L := L) 7 (by decide) okd).mpr (Classical.not_not.mp h19))
                have ts0 : zs = 0 := (hs ()).symm.trans ((vr_isN (L := L) oks hs11).mpr h73)
                have t00 : z0 = 0 := (h0 ()).symm.trans ((vr_isN (L := L) ok0 (by decide)).mpr h74)
                have nx1 : ¬ w152 ≤ 0 := fun z => h75 ((vl_I_le (a := w152) (b := 0) (by omega) (by omega)).mpr z)
                have ev : vx_even (vr_T I L (76800 + f.d)).val f.o f.z = true := by rw [vr_valv (by rw [(vr_is (L := L) 7 (by decide) okd).mp ((hd ()).trans (by omega))]; rfl), ← vr_dO D, vx_even_r hz]; exact (by rw [decide_eq_true (Classical.not_not.mp h37), decide_eq_true (Classical.not_not.mp h55)]; rfl)
                have r7 := vx_r7' (M := M) (A := (vr_A I L 1024)) (o := f.o) (z := f.z) (w := true) ((hd ()).trans (show zd = 7 by omega))
                rw [hrr ()] at r7
                have e : vx_atp M f (vr_A I L 1024) = (w152, (vr_A I L 1024)) := by
                  by_cases c1 : zd = 0 ∨ zs = 0 ∨ (f.i = 241 ∧ z0 = 0)
                  · rw [show w152 = 1 by omega]; exact vx_at1 (by rw [eD, eS, e0, hd (), hs (), h0 ()]; omega)
                  · by_cases c2 : rr ≠ 0
                    · rw [show w152 = 4 by omega]; exact vx_at3 (by rw [eD, eS, e0, hd (), hs (), h0 ()]; omega) (by rw [eD, hd ()]; omega) (Or.inr (by rw [eD, hrr ()]; exact c2))
                    · rw [show w152 = 6 by omega]; exact vx_at4 (by rw [eD, eS, e0, hd (), hs (), h0 ()]; omega) (by rw [eD, hd ()]; omega) (fun z => z.elim (fun z => by rw [eD, ev] at z; exact absurd z (by decide)) (fun z => by rw [eD, hrr ()] at z; omega)) (by rw [eS, e0, hs (), h0 ()]; omega)
                exact ⟨_, _, by rw [← eQ, e], fun z => by rw [← eQ, e] at z; exact absurd (show w152 = 0 from z) (by omega), vr_fr_refl hf⟩
            · refine jv_Wp.lift (fun _ Kz => jv_Ev.steps jv_i295 2 (pc' := 230) (l' := [(2, .int (vl_I w151)), (7, .int (1 : Int32)), (5, .long ((vl_I f.z).toInt64 - (1 : Int64))), (4, .int (vl_I (8 + (76800 + f.d)))), (3, .int (I 205 (76800 + f.d))), (1, .int (vl_I f.z)), (0, .ref 196)]) (st' := [.int (0 : Int32), .ref 196, .int (vl_I w151)]) rfl Kz) ?_
              refine jv_Wp.lift (fun _ Kz => jv_Ev.c jv_i295 (pc' := 233) (S' := [.int (I 205 (76800 + 0)), .int (vl_I w151)]) jv_i271 [.ref 196, .int (0 : Int32)] rfl rfl rfl rfl (jv_cal rfl (jv_H_at (jv_rwK hW 196 12 24 (by decide))) rfl rfl) rfl (vq_sortOf 0 hW (by omega)) rfl rfl Kz) ?_
              refine jv_Wp.lift (fun _ Kz => jv_Ev.steps jv_i295 1 (pc' := 234) (l' := [(2, .int (vl_I w151)), (7, .int (1 : Int32)), (5, .long ((vl_I f.z).toInt64 - (1 : Int64))), (4, .int (vl_I (8 + (76800 + f.d)))), (3, .int (I 205 (76800 + f.d))), (1, .int (vl_I f.z)), (0, .ref 196)]) (st' := [.int (1 : Int32), .int (I 205 (76800 + 0)), .int (vl_I w151)]) rfl Kz) ?_
              refine jv_Wp.cnd jv_i295 (pt := 242) (pe := 237) (p := ((I 205 (76800 + 0)) = (1 : Int32))) (q := ((I 205 (76800 + 0)) = (1 : Int32))) rfl jv_bc_eq rfl rfl Iff.rfl (fun h76 => ?_) (fun h76 => ?_)
              · refine jv_Wp.lift (fun _ Kz => jv_Ev.steps jv_i295 1 (pc' := 243) (l' := [(2, .int (vl_I w151)), (7, .int (1 : Int32)), (5, .long ((vl_I f.z).toInt64 - (1 : Int64))), (4, .int (vl_I (8 + (76800 + f.d)))), (3, .int (I 205 (76800 + f.d))), (1, .int (vl_I f.z)), (0, .ref 196)]) (st' := [.int (0 : Int32), .int (vl_I w151)]) rfl Kz) ?_
                obtain ⟨w154, hq154⟩ : ∃ x : Nat, ∀ _ : Unit, vx_fst w151 0 = x := ⟨_, fun _ => rfl⟩
                have fq154 : (w151 = 0 → w154 = 0) ∧ (0 = 0 → w154 = w151) ∧ (w154 = w151 ∨ w154 = 0) ∧ (w151 ≠ 0 → 0 ≠ 0 → w154 ≤ w151 ∧ w154 ≤ 0) := by rw [← hq154 ()]; exact vx_fst_g w151 0
                have Hf154 := vq_first (I := I) (L := L) (K := K) (R := R) (n := n) (sl := sl) w151 0 (by omega) (by omega)
                rw [hq154 ()] at Hf154
                refine jv_Wp.lift (fun _ Kz => jv_Ev.c jv_i295 (pc' := 246) (S' := [.int (vl_I w154)]) jv_i282 [.int (vl_I w151), .int (0 : Int32)] rfl rfl rfl rfl rfl rfl Hf154 rfl rfl Kz) ?_
                refine jv_Wp.lift (fun _ Kz => jv_Ev.steps jv_i295 2 (pc' := 248) (l' := [(2, .int (vl_I w154)), (7, .int (1 : Int32)), (5, .long ((vl_I f.z).toInt64 - (1 : Int64))), (4, .int (vl_I (8 + (76800 + f.d)))), (3, .int (I 205 (76800 + f.d))), (1, .int (vl_I f.z)), (0, .ref 196)]) (st' := [.int (vl_I w154)]) rfl Kz) ?_
                refine jv_Wp.cnd jv_i295 (pt := 253) (pe := 251) (p := ((vl_I w154) ≤ 0)) (q := ((vl_I w154) ≤ 0)) rfl jv_bi_le rfl rfl Iff.rfl (fun h77 => ?_) (fun h77 => ?_)
                · refine jv_Wp.lift (fun _ Kz => jv_Ev.steps jv_i295 1 (pc' := 254) (l' := [(2, .int (vl_I w154)), (7, .int (1 : Int32)), (5, .long ((vl_I f.z).toInt64 - (1 : Int64))), (4, .int (vl_I (8 + (76800 + f.d)))), (3, .int (I 205 (76800 + f.d))), (1, .int (vl_I f.z)), (0, .ref 196)]) (st' := [.ref 196]) rfl Kz) ?_
                  refine jv_Wp.lift (fun _ Kz => jv_Ev.m jv_i295 (pc' := 257) (st' := [.int (Int32.ofInt f.i)]) (G' := (jv_H K I L R)) rfl rfl (jv_m_getI (jv_rwK hW 196 12 24 (by decide)) rfl rfl (vr_dJ D)) Kz) ?_
                  refine jv_Wp.lift (fun _ Kz => jv_Ev.steps jv_i295 1 (pc' := 260) (l' := [(2, .int (vl_I w154)), (7, .int (1 : Int32)), (5, .long ((vl_I f.z).toInt64 - (1 : Int64))), (4, .int (vl_I (8 + (76800 + f.d)))), (3, .int (I 205 (76800 + f.d))), (1, .int (vl_I f.z)), (0, .ref 196)]) (st' := [.int (241 : Int32), .int (Int32.ofInt f.i)]) rfl Kz) ?_
                  refine jv_Wp.cnd jv_i295 (pt := 272) (pe := 263) (p := (¬ (Int32.ofInt f.i) = (241 : Int32))) (q := (¬ (Int32.ofInt f.i) = (241 : Int32))) rfl jv_bc_ne rfl rfl Iff.rfl (fun hz => absurd hz (fun z => z h241)) (fun _ => ?_)
                  refine jv_Wp.lift (fun _ Kz => jv_Ev.steps jv_i295 3 (pc' := 266) (l' := [(2, .int (vl_I w154)), (7, .int (1 : Int32)), (5, .long ((vl_I f.z).toInt64 - (1 : Int64))), (4, .int (vl_I (8 + (76800 + f.d)))), (3, .int (I 205 (76800 + f.d))), (1, .int (vl_I f.z)), (0, .ref 196)]) (st' := [.int (vl_I f.z), .int (0 : Int32), .ref 196]) rfl Kz) ?_
                  obtain ⟨I155, L155, H155, T155, O155, F155⟩ := vq_setAny (I := I) (L := L) (R := R) (n := n) (sl := sl) 0 f.z hW hf (by omega) hz
                  refine jv_Wp.lift (fun _ Kz => jv_Ev.c jv_i295 (pc' := 269) (S' := []) (G1 := (jv_H K I155 L155 R)) jv_i274 [.ref 196, .int (0 : Int32), .int (vl_I f.z)] rfl rfl rfl rfl (jv_cal rfl (jv_H_at (jv_rwK hW 196 12 24 (by decide))) rfl rfl) rfl H155 rfl rfl Kz) ?_
                  refine jv_Wp.lift (fun _ Kz => jv_Ev.steps jv_i295 2 (pc' := 292) (l' := [(2, .int (vl_I w154)), (7, .int (1 : Int32)), (5, .long ((vl_I f.z).toInt64 - (1 : Int64))), (4, .int (vl_I (8 + (76800 + f.d)))), (3, .int (I 205 (76800 + f.d))), (1, .int (vl_I f.z)), (0, .ref 196)]) (st' := [.int (0 : Int32)]) rfl Kz) ?_
                  refine jv_Wp.of (jv_Ev.ret jv_i295 rfl rfl) ?_
                  rw [hQ]
                  have td0 : ¬ zd = 0 := fun z => h1 ((vr_isN (L := L) okd hd11).mp ((hd ()).trans z))
                  have td7 : zd = 7 := (hd ()).symm.trans ((vr_is (L := L) 7 (by decide) okd).mpr (Classical.not_not.mp h19))
                  have ts0 : zs = 0 := (hs ()).symm.trans ((vr_isN (L := L) oks hs11).mpr h73)
                  have t00 : ¬ z0 = 0 := fun z => h74 ((vr_isN (L := L) ok0 (by decide)).mp ((h0 ()).trans z))
                  have t01 : z0 = 1 := (h0 ()).symm.trans ((vr_is (L := L) 1 (by decide) ok0).mpr h76)
                  have nx1 : w154 ≤ 0 := (vl_I_le (a := w154) (b := 0) (by omega) (by omega)).mp h77
                  have ev : vx_even (vr_T I L (76800 + f.d)).val f.o f.z = true := by rw [vr_valv (by rw [(vr_is (L := L) 7 (by decide) okd).mp ((hd ()).trans (by omega))]; rfl), ← vr_dO D, vx_even_r hz]; exact (by rw [decide_eq_true (Classical.not_not.mp h37), decide_eq_true (Classical.not_not.mp h55)]; rfl)
                  have r7 := vx_r7' (M := M) (A := (vr_A I L 1024)) (o := f.o) (z := f.z) (w := true) ((hd ()).trans (show zd = 7 by omega))
                  rw [hrr ()] at r7
                  have e5 : vx_atp M f (vr_A I L 1024) = (0, vt_up (vr_A I L 1024) 0 (vt_num (vx_anyz f.z))) := by have q := vx_at5 (M := M) (f := f) (A := (vr_A I L 1024)) (by rw [eD, eS, e0, hd (), hs (), h0 ()]; omega) (by rw [eD, hd ()]; omega) (fun z => z.elim (fun z => by rw [eD, ev] at z; exact absurd z (by decide)) (fun z => by rw [eD, hrr ()] at z; omega)) (by rw [eS, e0, hs (), h0 ()]; omega) (by omega); rw [if_pos m241] at q; exact q
                  have u := vr_upA (I := I) (L := L) (k := 1024) (r := 0) (t := (vt_num (vx_anyz f.z))) (by omega) T155 O155 F155 (fun n hn e q => e (by omega)) oa
                  exact ⟨_, _, by rw [← eQ, e5]; rfl, fun _ => by rw [← eQ, e5]; exact u, vr_fr_P F155 (fun x z => by omega)⟩
                · refine jv_Wp.lift (fun _ Kz => jv_Ev.steps jv_i295 1 (pc' := 252) (l' := [(2, .int (vl_I w154)), (7, .int (1 : Int32)), (5, .long ((vl_I f.z).toInt64 - (1 : Int64))), (4, .int (vl_I (8 + (76800 + f.d)))), (3, .int (I 205 (76800 + f.d))), (1, .int (vl_I f.z)), (0, .ref 196)]) (st' := [.int (vl_I w154)]) rfl Kz) ?_
                  refine jv_Wp.of (jv_Ev.ret jv_i295 rfl rfl) ?_
                  rw [hQ]
                  have td0 : ¬ zd = 0 := fun z => h1 ((vr_isN (L := L) okd hd11).mp ((hd ()).trans z))
                  have td7 : zd = 7 := (hd ()).symm.trans ((vr_is (L := L) 7 (by decide) okd).mpr (Classical.not_not.mp h19))
                  have ts0 : zs = 0 := (hs ()).symm.trans ((vr_isN (L := L) oks hs11).mpr h73)
                  have t00 : ¬ z0 = 0 := fun z => h74 ((vr_isN (L := L) ok0 (by decide)).mp ((h0 ()).trans z))
                  have t01 : z0 = 1 := (h0 ()).symm.trans ((vr_is (L := L) 1 (by decide) ok0).mpr h76)
                  have nx1 : ¬ w154 ≤ 0 := fun z => h77 ((vl_I_le (a := w154) (b := 0) (by omega) (by omega)).mpr z)
                  have ev : vx_even (vr_T I L (76800 + f.d)).val f.o f.z = true := by rw [vr_valv (by rw [(vr_is (L := L) 7 (by decide) okd).mp ((hd ()).trans (by omega))]; rfl), ← vr_dO D, vx_even_r hz]; exact (by rw [decide_eq_true (Classical.not_not.mp h37), decide_eq_true (Classical.not_not.mp h55)]; rfl)
                  have r7 := vx_r7' (M := M) (A := (vr_A I L 1024)) (o := f.o) (z := f.z) (w := true) ((hd ()).trans (show zd = 7 by omega))
                  rw [hrr ()] at r7
                  have e : vx_atp M f (vr_A I L 1024) = (w154, (vr_A I L 1024)) := by
                    by_cases c1 : zd = 0 ∨ zs = 0 ∨ (f.i = 241 ∧ z0 = 0)
                    · rw [show w154 = 1 by omega]; exact vx_at1 (by rw [eD, eS, e0, hd (), hs (), h0 ()]; omega)
                    · by_cases c2 : rr ≠ 0
                      · rw [show w154 = 4 by omega]; exact vx_at3 (by rw [eD, eS, e0, hd (), hs (), h0 ()]; omega) (by rw [eD, hd ()]; omega) (Or.inr (by rw [eD, hrr ()]; exact c2))
                      · rw [show w154 = 6 by omega]; exact vx_at4 (by rw [eD, eS, e0, hd (), hs (), h0 ()]; omega) (by rw [eD, hd ()]; omega) (fun z => z.elim (fun z => by rw [eD, ev] at z; exact absurd z (by decide)) (fun z => by rw [eD, hrr ()] at z; omega)) (by rw [eS, e0, hs (), h0 ()]; omega)
                  exact ⟨_, _, by rw [← eQ, e], fun z => by rw [← eQ, e] at z; exact absurd (show w154 = 0 from z) (by omega), vr_fr_refl hf⟩
              · refine jv_Wp.lift (fun _ Kz => jv_Ev.steps jv_i295 2 (pc' := 243) (l' := [(2, .int (vl_I w151)), (7, .int (1 : Int32)), (5, .long ((vl_I f.z).toInt64 - (1 : Int64))), (4, .int (vl_I (8 + (76800 + f.d)))), (3, .int (I 205 (76800 + f.d))), (1, .int (vl_I f.z)), (0, .ref 196)]) (st' := [.int (6 : Int32), .int (vl_I w151)]) rfl Kz) ?_
                obtain ⟨w156, hq156⟩ : ∃ x : Nat, ∀ _ : Unit, vx_fst w151 6 = x := ⟨_, fun _ => rfl⟩
                have fq156 : (w151 = 0 → w156 = 6) ∧ (6 = 0 → w156 = w151) ∧ (w156 = w151 ∨ w156 = 6) ∧ (w151 ≠ 0 → 6 ≠ 0 → w156 ≤ w151 ∧ w156 ≤ 6) := by rw [← hq156 ()]; exact vx_fst_g w151 6
                have Hf156 := vq_first (I := I) (L := L) (K := K) (R := R) (n := n) (sl := sl) w151 6 (by omega) (by omega)
                rw [hq156 ()] at Hf156
                refine jv_Wp.lift (fun _ Kz => jv_Ev.c jv_i295 (pc' := 246) (S' := [.int (vl_I w156)]) jv_i282 [.int (vl_I w151), .int (6 : Int32)] rfl rfl rfl rfl rfl rfl Hf156 rfl rfl Kz) ?_
                refine jv_Wp.lift (fun _ Kz => jv_Ev.steps jv_i295 2 (pc' := 248) (l' := [(2, .int (vl_I w156)), (7, .int (1 : Int32)), (5, .long ((vl_I f.z).toInt64 - (1 : Int64))), (4, .int (vl_I (8 + (76800 + f.d)))), (3, .int (I 205 (76800 + f.d))), (1, .int (vl_I f.z)), (0, .ref 196)]) (st' := [.int (vl_I w156)]) rfl Kz) ?_
                refine jv_Wp.cnd jv_i295 (pt := 253) (pe := 251) (p := ((vl_I w156) ≤ 0)) (q := ((vl_I w156) ≤ 0)) rfl jv_bi_le rfl rfl Iff.rfl (fun h78 => ?_) (fun h78 => ?_)
                · refine jv_Wp.lift (fun _ Kz => jv_Ev.steps jv_i295 1 (pc' := 254) (l' := [(2, .int (vl_I w156)), (7, .int (1 : Int32)), (5, .long ((vl_I f.z).toInt64 - (1 : Int64))), (4, .int (vl_I (8 + (76800 + f.d)))), (3, .int (I 205 (76800 + f.d))), (1, .int (vl_I f.z)), (0, .ref 196)]) (st' := [.ref 196]) rfl Kz) ?_
                  refine jv_Wp.lift (fun _ Kz => jv_Ev.m jv_i295 (pc' := 257) (st' := [.int (Int32.ofInt f.i)]) (G' := (jv_H K I L R)) rfl rfl (jv_m_getI (jv_rwK hW 196 12 24 (by decide)) rfl rfl (vr_dJ D)) Kz) ?_
                  refine jv_Wp.lift (fun _ Kz => jv_Ev.steps jv_i295 1 (pc' := 260) (l' := [(2, .int (vl_I w156)), (7, .int (1 : Int32)), (5, .long ((vl_I f.z).toInt64 - (1 : Int64))), (4, .int (vl_I (8 + (76800 + f.d)))), (3, .int (I 205 (76800 + f.d))), (1, .int (vl_I f.z)), (0, .ref 196)]) (st' := [.int (241 : Int32), .int (Int32.ofInt f.i)]) rfl Kz) ?_
                  refine jv_Wp.cnd jv_i295 (pt := 272) (pe := 263) (p := (¬ (Int32.ofInt f.i) = (241 : Int32))) (q := (¬ (Int32.ofInt f.i) = (241 : Int32))) rfl jv_bc_ne rfl rfl Iff.rfl (fun hz => absurd hz (fun z => z h241)) (fun _ => ?_)
                  refine jv_Wp.lift (fun _ Kz => jv_Ev.steps jv_i295 3 (pc' := 266) (l' := [(2, .int (vl_I w156)), (7, .int (1 : Int32)), (5, .long ((vl_I f.z).toInt64 - (1 : Int64))), (4, .int (vl_I (8 + (76800 + f.d)))), (3, .int (I 205 (76800 + f.d))), (1, .int (vl_I f.z)), (0, .ref 196)]) (st' := [.int (vl_I f.z), .int (0 : Int32), .ref 196]) rfl Kz) ?_
                  obtain ⟨I157, L157, H157, T157, O157, F157⟩ := vq_setAny (I := I) (L := L) (R := R) (n := n) (sl := sl) 0 f.z hW hf (by omega) hz
                  refine jv_Wp.lift (fun _ Kz => jv_Ev.c jv_i295 (pc' := 269) (S' := []) (G1 := (jv_H K I157 L157 R)) jv_i274 [.ref 196, .int (0 : Int32), .int (vl_I f.z)] rfl rfl rfl rfl (jv_cal rfl (jv_H_at (jv_rwK hW 196 12 24 (by decide))) rfl rfl) rfl H157 rfl rfl Kz) ?_
                  refine jv_Wp.lift (fun _ Kz => jv_Ev.steps jv_i295 2 (pc' := 292) (l' := [(2, .int (vl_I w156)), (7, .int (1 : Int32)), (5, .long ((vl_I f.z).toInt64 - (1 : Int64))), (4, .int (vl_I (8 + (76800 + f.d)))), (3, .int (I 205 (76800 + f.d))), (1, .int (vl_I f.z)), (0, .ref 196)]) (st' := [.int (0 : Int32)]) rfl Kz) ?_
                  refine jv_Wp.of (jv_Ev.ret jv_i295 rfl rfl) ?_
                  rw [hQ]
                  have td0 : ¬ zd = 0 := fun z => h1 ((vr_isN (L := L) okd hd11).mp ((hd ()).trans z))
                  have td7 : zd = 7 := (hd ()).symm.trans ((vr_is (L := L) 7 (by decide) okd).mpr (Classical.not_not.mp h19))
                  have ts0 : zs = 0 := (hs ()).symm.trans ((vr_isN (L := L) oks hs11).mpr h73)
                  have t00 : ¬ z0 = 0 := fun z => h74 ((vr_isN (L := L) ok0 (by decide)).mp ((h0 ()).trans z))
                  have t01 : ¬ z0 = 1 := fun z => h76 ((vr_is (L := L) 1 (by decide) ok0).mp ((h0 ()).trans z))
                  have nx1 : w156 ≤ 0 := (vl_I_le (a := w156) (b := 0) (by omega) (by omega)).mp h78
                  have ev : vx_even (vr_T I L (76800 + f.d)).val f.o f.z = true := by rw [vr_valv (by rw [(vr_is (L := L) 7 (by decide) okd).mp ((hd ()).trans (by omega))]; rfl), ← vr_dO D, vx_even_r hz]; exact (by rw [decide_eq_true (Classical.not_not.mp h37), decide_eq_true (Classical.not_not.mp h55)]; rfl)
                  have r7 := vx_r7' (M := M) (A := (vr_A I L 1024)) (o := f.o) (z := f.z) (w := true) ((hd ()).trans (show zd = 7 by omega))
                  rw [hrr ()] at r7
                  have e5 : vx_atp M f (vr_A I L 1024) = (0, vt_up (vr_A I L 1024) 0 (vt_num (vx_anyz f.z))) := by have q := vx_at5 (M := M) (f := f) (A := (vr_A I L 1024)) (by rw [eD, eS, e0, hd (), hs (), h0 ()]; omega) (by rw [eD, hd ()]; omega) (fun z => z.elim (fun z => by rw [eD, ev] at z; exact absurd z (by decide)) (fun z => by rw [eD, hrr ()] at z; omega)) (by rw [eS, e0, hs (), h0 ()]; omega) (by omega); rw [if_pos m241] at q; exact q
                  have u := vr_upA (I := I) (L := L) (k := 1024) (r := 0) (t := (vt_num (vx_anyz f.z))) (by omega) T157 O157 F157 (fun n hn e q => e (by omega)) oa
                  exact ⟨_, _, by rw [← eQ, e5]; rfl, fun _ => by rw [← eQ, e5]; exact u, vr_fr_P F157 (fun x z => by omega)⟩
                · refine jv_Wp.lift (fun _ Kz => jv_Ev.steps jv_i295 1 (pc' := 252) (l' := [(2, .int (vl_I w156)), (7, .int (1 : Int32)), (5, .long ((vl_I f.z).toInt64 - (1 : Int64))), (4, .int (vl_I (8 + (76800 + f.d)))), (3, .int (I 205 (76800 + f.d))), (1, .int (vl_I f.z)), (0, .ref 196)]) (st' := [.int (vl_I w156)]) rfl Kz) ?_
                  refine jv_Wp.of (jv_Ev.ret jv_i295 rfl rfl) ?_
                  rw [hQ]
                  have td0 : ¬ zd = 0 := fun z => h1 ((vr_isN (L := L) okd hd11).mp ((hd ()).trans z))
                  have td7 : zd = 7 := (hd ()).symm.trans ((vr_is (L := L) 7 (by decide) okd).mpr (Classical.not_not.mp h19))
                  have ts0 : zs = 0 := (hs ()).symm.trans ((vr_isN (L := L) oks hs11).mpr h73)
                  have t00 : ¬ z0 = 0 := fun z => h74 ((vr_isN (L := L) ok0 (by decide)).mp ((h0 ()).trans z))
                  have t01 : ¬ z0 = 1 := fun z => h76 ((vr_is (L := L) 1 (by decide) ok0).mp ((h0 ()).trans z))
                  have nx1 : ¬ w156 ≤ 0 := fun z => h78 ((vl_I_le (a := w156) (b := 0) (by omega) (by omega)).mpr z)
                  have ev : vx_even (vr_T I L (76800 + f.d)).val f.o f.z = true := by rw [vr_valv (by rw [(vr_is (L := L) 7 (by decide) okd).mp ((hd ()).trans (by omega))]; rfl), ← vr_dO D, vx_even_r hz]; exact (by rw [decide_eq_true (Classical.not_not.mp h37), decide_eq_true (Classical.not_not.mp h55)]; rfl)
                  have r7 := vx_r7' (M := M) (A := (vr_A I L 1024)) (o := f.o) (z := f.z) (w := true) ((hd ()).trans (show zd = 7 by omega))
                  rw [hrr ()] at r7
                  have e : vx_atp M f (vr_A I L 1024) = (w156, (vr_A I L 1024)) := by
                    by_cases c1 : zd = 0 ∨ zs = 0 ∨ (f.i = 241 ∧ z0 = 0)
                    · rw [show w156 = 1 by omega]; exact vx_at1 (by rw [eD, eS, e0, hd (), hs (), h0 ()]; omega)
                    · by_cases c2 : rr ≠ 0
                      · rw [show w156 = 4 by omega]; exact vx_at3 (by rw [eD, eS, e0, hd (), hs (), h0 ()]; omega) (by rw [eD, hd ()]; omega) (Or.inr (by rw [eD, hrr ()]; exact c2))
                      · rw [show w156 = 6 by omega]; exact vx_at4 (by rw [eD, eS, e0, hd (), hs (), h0 ()]; omega) (by rw [eD, hd ()]; omega) (fun z => z.elim (fun z => by rw [eD, ev] at z; exact absurd z (by decide)) (fun z => by rw [eD, hrr ()] at z; omega)) (by rw [eS, e0, hs (), h0 ()]; omega)
                  exact ⟨_, _, by rw [← eQ, e], fun z => by rw [← eQ, e] at z; exact absurd (show w156 = 0 from z) (by omega), vr_fr_refl hf⟩
          · refine jv_Wp.lift (fun _ Kz => jv_Ev.steps jv_i295 2 (pc' := 189) (l' := [(2, .int (vl_I w150)), (7, .int (1 : Int32)), (5, .long ((vl_I f.z).toInt64 - (1 : Int64))), (4, .int (vl_I (8 + (76800 + f.d)))), (3, .int (I 205 (76800 + f.d))), (1, .int (vl_I f.z)), (0, .ref 196)]) (st' := [.ref 196, .ref 196, .int (vl_I w150)]) rfl Kz) ?_
            refine jv_Wp.lift (fun _ Kz => jv_Ev.m jv_i295 (pc' := 192) (st' := [.int (vl_I f.s), .ref 196, .int (vl_I w150)]) (G' := (jv_H K I L R)) rfl rfl (jv_m_getI (jv_rwK hW 196 12 24 (by decide)) rfl rfl D.2.2.1) Kz) ?_
            refine jv_Wp.lift (fun _ Kz => jv_Ev.c jv_i295 (pc' := 195) (S' := [.int (I 205 (76800 + f.s)), .int (vl_I w150)]) jv_i271 [.ref 196, .int (vl_I f.s)] rfl rfl rfl rfl (jv_cal rfl (jv_H_at (jv_rwK hW 196 12 24 (by decide))) rfl rfl) rfl (vq_sortOf f.s hW (by omega)) rfl rfl Kz) ?_
            refine jv_Wp.lift (fun _ Kz => jv_Ev.steps jv_i295 1 (pc' := 196) (l' := [(2, .int (vl_I w150)), (7, .int (1 : Int32)), (5, .long ((vl_I f.z).toInt64 - (1 : Int64))), (4, .int (vl_I (8 + (76800 + f.d)))), (3, .int (I 205 (76800 + f.d))), (1, .int (vl_I f.z)), (0, .ref 196)]) (st' := [.int (1 : Int32), .int (I 205 (76800 + f.s)), .int (vl_I w150)]) rfl Kz) ?_
            refine jv_Wp.cnd jv_i295 (pt := 204) (pe := 199) (p := ((I 205 (76800 + f.s)) = (1 : Int32))) (q := ((I 205 (76800 + f.s)) = (1 : Int32))) rfl jv_bc_eq rfl rfl Iff.rfl (fun h79 => ?_) (fun h79 => ?_)
            · refine jv_Wp.lift (fun _ Kz => jv_Ev.steps jv_i295 1 (pc' := 205) (l' := [(2, .int (vl_I w150)), (7, .int (1 : Int32)), (5, .long ((vl_I f.z).toInt64 - (1 : Int64))), (4, .int (vl_I (8 + (76800 + f.d)))), (3, .int (I 205 (76800 + f.d))), (1, .int (vl_I f.z)), (0, .ref 196)]) (st' := [.int (0 : Int32), .int (vl_I w150)]) rfl Kz) ?_
              obtain ⟨w158, hq158⟩ : ∃ x : Nat, ∀ _ : Unit, vx_fst w150 0 = x := ⟨_, fun _ => rfl⟩
              have fq158 : (w150 = 0 → w158 = 0) ∧ (0 = 0 → w158 = w150) ∧ (w158 = w150 ∨ w158 = 0) ∧ (w150 ≠ 0 → 0 ≠ 0 → w158 ≤ w150 ∧ w158 ≤ 0) := by rw [← hq158 ()]; exact vx_fst_g w150 0
              have Hf158 := vq_first (I := I) (L := L) (K := K) (R := R) (n := n) (sl := sl) w150 0 (by omega) (by omega)
              rw [hq158 ()] at Hf158
              refine jv_Wp.lift (fun _ Kz => jv_Ev.c jv_i295 (pc' := 208) (S' := [.int (vl_I w158)]) jv_i282 [.int (vl_I w150), .int (0 : Int32)] rfl rfl rfl rfl rfl rfl Hf158 rfl rfl Kz) ?_
              refine jv_Wp.lift (fun _ Kz => jv_Ev.steps jv_i295 3 (pc' := 211) (l' := [(2, .int (vl_I w158)), (7, .int (1 : Int32)), (5, .long ((vl_I f.z).toInt64 - (1 : Int64))), (4, .int (vl_I (8 + (76800 + f.d)))), (3, .int (I 205 (76800 + f.d))), (1, .int (vl_I f.z)), (0, .ref 196)]) (st' := [.ref 196, .int (vl_I w158)]) rfl Kz) ?_
              refine jv_Wp.lift (fun _ Kz => jv_Ev.m jv_i295 (pc' := 214) (st' := [.int (Int32.ofInt f.i), .int (vl_I w158)]) (G' := (jv_H K I L R)) rfl rfl (jv_m_getI (jv_rwK hW 196 12 24 (by decide)) rfl rfl (vr_dJ D)) Kz) ?_
              refine jv_Wp.lift (fun _ Kz => jv_Ev.steps jv_i295 1 (pc' := 217) (l' := [(2, .int (vl_I w158)), (7, .int (1 : Int32)), (5, .long ((vl_I f.z).toInt64 - (1 : Int64))), (4, .int (vl_I (8 + (76800 + f.d)))), (3, .int (I 205 (76800 + f.d))), (1, .int (vl_I f.z)), (0, .ref 196)]) (st' := [.int (241 : Int32), .int (Int32.ofInt f.i), .int (vl_I w158)]) rfl Kz) ?_
              refine jv_Wp.cnd jv_i295 (pt := 242) (pe := 220) (p := (¬ (Int32.ofInt f.i) = (241 : Int32))) (q := (¬ (Int32.ofInt f.i) = (241 : Int32))) rfl jv_bc_ne rfl rfl Iff.rfl (fun hz => absurd hz (fun z => z h241)) (fun _ => ?_)
              refine jv_Wp.lift (fun _ Kz => jv_Ev.steps jv_i295 2 (pc' := 222) (l' := [(2, .int (vl_I w158)), (7, .int (1 : Int32)), (5, .long ((vl_I f.z).toInt64 - (1 : Int64))), (4, .int (vl_I (8 + (76800 + f.d)))), (3, .int (I 205 (76800 + f.d))), (1, .int (vl_I f.z)), (0, .ref 196)]) (st' := [.int (0 : Int32), .ref 196, .int (vl_I w158)]) rfl Kz) ?_
              refine jv_Wp.lift (fun _ Kz => jv_Ev.c jv_i295 (pc' := 225) (S' := [.int (I 205 (76800 + 0)), .int (vl_I w158)]) jv_i271 [.ref 196, .int (0 : Int32)] rfl rfl rfl rfl (jv_cal rfl (jv_H_at (jv_rwK hW 196 12 24 (by decide))) rfl rfl) rfl (vq_sortOf 0 hW (by omega)) rfl rfl Kz) ?_
              refine jv_Wp.cnd jv_i295 (pt := 242) (pe := 228) (p := ((I 205 (76800 + 0)) = 0)) (q := ((I 205 (76800 + 0)) = 0)) rfl jv_bi_eq rfl rfl Iff.rfl (fun h80 => ?_) (fun h80 => ?_)
              · refine jv_Wp.lift (fun _ Kz => jv_Ev.steps jv_i295 1 (pc' := 243) (l' := [(2, .int (vl_I w158)), (7, .int (1 : Int32)), (5, .long ((vl_I f.z).toInt64 - (1 : Int64))), (4, .int (vl_I (8 + (76800 + f.d)))), (3, .int (I 205 (76800 + f.d))), (1, .int (vl_I f.z)), (0, .ref 196)]) (st' := [.int (0 : Int32), .int (vl_I w158)]) rfl Kz) ?_
                obtain ⟨w159, hq159⟩ : ∃ x : Nat, ∀ _ : Unit, vx_fst w158 0 = x := ⟨_, fun _ => rfl⟩
                have fq159 : (w158 = 0 → w159 = 0) ∧ (0 = 0 → w159 = w158) ∧ (w159 = w158 ∨ w159 = 0) ∧ (w158 ≠ 0 → 0 ≠ 0 → w159 ≤ w158 ∧ w159 ≤ 0) := by rw [← hq159 ()]; exact vx_fst_g w158 0
                have Hf159 := vq_first (I := I) (L := L) (K := K) (R := R) (n := n) (sl := sl) w158 0 (by omega) (by omega)
                rw [hq159 ()] at Hf159
                refine jv_Wp.lift (fun _ Kz => jv_Ev.c jv_i295 (pc' := 246) (S' := [.int (vl_I w159)]) jv_i282 [.int (vl_I w158), .int (0 : Int32)] rfl rfl rfl rfl rfl rfl Hf159 rfl rfl Kz) ?_
                refine jv_Wp.lift (fun _ Kz => jv_Ev.steps jv_i295 2 (pc' := 248) (l' := [(2, .int (vl_I w159)), (7, .int (1 : Int32)), (5, .long ((vl_I f.z).toInt64 - (1 : Int64))), (4, .int (vl_I (8 + (76800 + f.d)))), (3, .int (I 205 (76800 + f.d))), (1, .int (vl_I f.z)), (0, .ref 196)]) (st' := [.int (vl_I w159)]) rfl Kz) ?_
                refine jv_Wp.cnd jv_i295 (pt := 253) (pe := 251) (p := ((vl_I w159) ≤ 0)) (q := ((vl_I w159) ≤ 0)) rfl jv_bi_le rfl rfl Iff.rfl (fun h81 => ?_) (fun h81 => ?_)
                · refine jv_Wp.lift (fun _ Kz => jv_Ev.steps jv_i295 1 (pc' := 254) (l' := [(2, .int (vl_I w159)), (7, .int (1 : Int32)), (5, .long ((vl_I f.z).toInt64 - (1 : Int64))), (4, .int (vl_I (8 + (76800 + f.d)))), (3, .int (I 205 (76800 + f.d))), (1, .int (vl_I f.z)), (0, .ref 196)]) (st' := [.ref 196]) rfl Kz) ?_
                  refine jv_Wp.lift (fun _ Kz => jv_Ev.m jv_i295 (pc' := 257) (st' := [.int (Int32.ofInt f.i)]) (G' := (jv_H K I L R)) rfl rfl (jv_m_getI (jv_rwK hW 196 12 24 (by decide)) rfl rfl (vr_dJ D)) Kz) ?_
                  refine jv_Wp.lift (fun _ Kz => jv_Ev.steps jv_i295 1 (pc' := 260) (l' := [(2, .int (vl_I w159)), (7, .int (1 : Int32)), (5, .long ((vl_I f.z).toInt64 - (1 : Int64))), (4, .int (vl_I (8 + (76800 + f.d)))), (3, .int (I 205 (76800 + f.d))), (1, .int (vl_I f.z)), (0, .ref 196)]) (st' := [.int (241 : Int32), .int (Int32.ofInt f.i)]) rfl Kz) ?_
                  refine jv_Wp.cnd jv_i295 (pt := 272) (pe := 263) (p := (¬ (Int32.ofInt f.i) = (241 : Int32))) (q := (¬ (Int32.ofInt f.i) = (241 : Int32))) rfl jv_bc_ne rfl rfl Iff.rfl (fun hz => absurd hz (fun z => z h241)) (fun _ => ?_)
                  refine jv_Wp.lift (fun _ Kz => jv_Ev.steps jv_i295 3 (pc' := 266) (l' := [(2, .int (vl_I w159)), (7, .int (1 : Int32)), (5, .long ((vl_I f.z).toInt64 - (1 : Int64))), (4, .int (vl_I (8 + (76800 + f.d)))), (3, .int (I 205 (76800 + f.d))), (1, .int (vl_I f.z)), (0, .ref 196)]) (st' := [.int (vl_I f.z), .int (0 : Int32), .ref 196]) rfl Kz) ?_
                  obtain ⟨I160, L160, H160, T160, O160, F160⟩ := vq_setAny (I := I) (L := L) (R := R) (n := n) (sl := sl) 0 f.z hW hf (by omega) hz
                  refine jv_Wp.lift (fun _ Kz => jv_Ev.c jv_i295 (pc' := 269) (S' := []) (G1 := (jv_H K I160 L160 R)) jv_i274 [.ref 196, .int (0 : Int32), .int (vl_I f.z)] rfl rfl rfl rfl (jv_cal rfl (jv_H_at (jv_rwK hW 196 12 24 (by decide))) rfl rfl) rfl H160 rfl rfl Kz) ?_
                  refine jv_Wp.lift (fun _ Kz => jv_Ev.steps jv_i295 2 (pc' := 292) (l' := [(2, .int (vl_I w159)), (7, .int (1 : Int32)), (5, .long ((vl_I f.z).toInt64 - (1 : Int64))), (4, .int (vl_I (8 + (76800 + f.d)))), (3, .int (I 205 (76800 + f.d))), (1, .int (vl_I f.z)), (0, .ref 196)]) (st' := [.int (0 : Int32)]) rfl Kz) ?_
                  refine jv_Wp.of (jv_Ev.ret jv_i295 rfl rfl) ?_
                  rw [hQ]
                  have td0 : ¬ zd = 0 := fun z => h1 ((vr_isN (L := L) okd hd11).mp ((hd ()).trans z))
                  have td7 : zd = 7 := (hd ()).symm.trans ((vr_is (L := L) 7 (by decide) okd).mpr (Classical.not_not.mp h19))
                  have ts0 : ¬ zs = 0 := fun z => h73 ((vr_isN (L := L) oks hs11).mp ((hs ()).trans z))
                  have ts1 : zs = 1 := (hs ()).symm.trans ((vr_is (L := L) 1 (by decide) oks).mpr h79)
                  have t00 : z0 = 0 := (h0 ()).symm.trans ((vr_isN (L := L) ok0 (by decide)).mpr h80)
                  have nx1 : w159 ≤ 0 := (vl_I_le (a := w159) (b := 0) (by omega) (by omega)).mp h81
                  have ev : vx_even (vr_T I L (76800 + f.d)).val f.o f.z = true := by rw [vr_valv (by rw [(vr_is (L := L) 7 (by decide) okd).mp ((hd ()).trans (by omega))]; rfl), ← vr_dO D, vx_even_r hz]; exact (by rw [decide_eq_true (Classical.not_not.mp h37), decide_eq_true (Classical.not_not.mp h55)]; rfl)
                  have r7 := vx_r7' (M := M) (A := (vr_A I L 1024)) (o := f.o) (z := f.z) (w := true) ((hd ()).trans (show zd = 7 by omega))
                  rw [hrr ()] at r7
                  have e5 : vx_atp M f (vr_A I L 1024) = (0, vt_up (vr_A I L 1024) 0 (vt_num (vx_anyz f.z))) := by have q := vx_at5 (M := M) (f := f) (A := (vr_A I L 1024)) (by rw [eD, eS, e0, hd (), hs (), h0 ()]; omega) (by rw [eD, hd ()]; omega) (fun z => z.elim (fun z => by rw [eD, ev] at z; exact absurd z (by decide)) (fun z => by rw [eD, hrr ()] at z; omega)) (by rw [eS, e0, hs (), h0 ()]; omega) (by omega); rw [if_pos m241] at q; exact q
                  have u := vr_upA (I := I) (L := L) (k := 1024) (r := 0) (t := (vt_num (vx_anyz f.z))) (by omega) T160 O160 F160 (fun n hn e q => e (by omega)) oa
                  exact ⟨_, _, by rw [← eQ, e5]; rfl, fun _ => by rw [← eQ, e5]; exact u, vr_fr_P F160 (fun x z => by omega)⟩
                · refine jv_Wp.lift (fun _ Kz => jv_Ev.steps jv_i295 1 (pc' := 252) (l' := [(2, .int (vl_I w159)), (7, .int (1 : Int32)), (5, .long ((vl_I f.z).toInt64 - (1 : Int64))), (4, .int (vl_I (8 + (76800 + f.d)))), (3, .int (I 205 (76800 + f.d))), (1, .int (vl_I f.z)), (0, .ref 196)]) (st' := [.int (vl_I w159)]) rfl Kz) ?_
                  refine jv_Wp.of (jv_Ev.ret jv_i295 rfl rfl) ?_
                  rw [hQ]
                  have td0 : ¬ zd = 0 := fun z => h1 ((vr_isN (L := L) okd hd11).mp ((hd ()).trans z))
                  have td7 : zd = 7 := (hd ()).symm.trans ((vr_is (L := L) 7 (by decide) okd).mpr (Classical.not_not.mp h19))
                  have ts0 : ¬ zs = 0 := fun z => h73 ((vr_isN (L := L) oks hs11).mp ((hs ()).trans z))
                  have ts1 : zs = 1 := (hs ()).symm.trans ((vr_is (L := L) 1 (by decide) oks).mpr h79)
                  have t00 : z0 = 0 := (h0 ()).symm.trans ((vr_isN (L := L) ok0 (by decide)).mpr h80)
                  have nx1 : ¬ w159 ≤ 0 := fun z => h81 ((vl_I_le (a := w159) (b := 0) (by omega) (by omega)).mpr z)
                  have ev : vx_even (vr_T I L (76800 + f.d)).val f.o f.z = true := by rw [vr_valv (by rw [(vr_is (L := L) 7 (by decide) okd).mp ((hd ()).trans (by omega))]; rfl), ← vr_dO D, vx_even_r hz]; exact (by rw [decide_eq_true (Classical.not_not.mp h37), decide_eq_true (Classical.not_not.mp h55)]; rfl)
                  have r7 := vx_r7' (M := M) (A := (vr_A I L 1024)) (o := f.o) (z := f.z) (w := true) ((hd ()).trans (show zd = 7 by omega))
                  rw [hrr ()] at r7
                  have e : vx_atp M f (vr_A I L 1024) = (w159, (vr_A I L 1024)) := by
                    by_cases c1 : zd = 0 ∨ zs = 0 ∨ (f.i = 241 ∧ z0 = 0)
                    · rw [show w159 = 1 by omega]; exact vx_at1 (by rw [eD, eS, e0, hd (), hs (), h0 ()]; omega)
                    · by_cases c2 : rr ≠ 0
                      · rw [show w159 = 4 by omega]; exact vx_at3 (by rw [eD, eS, e0, hd (), hs (), h0 ()]; omega) (by rw [eD, hd ()]; omega) (Or.inr (by rw [eD, hrr ()]; exact c2))
                      · rw [show w159 = 6 by omega]; exact vx_at4 (by rw [eD, eS, e0, hd (), hs (), h0 ()]; omega) (by rw [eD, hd ()]; omega) (fun z => z.elim (fun z => by rw [eD, ev] at z; exact absurd z (by decide)) (fun z => by rw [eD, hrr ()] at z; omega)) (by rw [eS, e0, hs (), h0 ()]; omega)
                  exact ⟨_, _, by rw [← eQ, e], fun z => by rw [← eQ, e] at z; exact absurd (show w159 = 0 from z) (by omega), vr_fr_refl hf⟩
              · refine jv_Wp.lift (fun _ Kz => jv_Ev.steps jv_i295 2 (pc' := 230) (l' := [(2, .int (vl_I w158)), (7, .int (1 : Int32)), (5, .long ((vl_I f.z).toInt64 - (1 : Int64))), (4, .int (vl_I (8 + (76800 + f.d)))), (3, .int (I 205 (76800 + f.d))), (1, .int (vl_I f.z)), (0, .ref 196)]) (st' := [.int (0 : Int32), .ref 196, .int (vl_I w158)]) rfl Kz) ?_
                refine jv_Wp.lift (fun _ Kz => jv_Ev.c jv_i295 (pc' := 233) (S' := [.int (I 205 (76800 + 0)), .int (vl_I w158)]) jv_i271 [.ref 196, .int (0 : Int32)] rfl rfl rfl rfl (jv_cal rfl (jv_H_at (jv_rwK hW 196 12 24 (by decide))) rfl rfl) rfl (vq_sortOf 0 hW (by omega)) rfl rfl Kz) ?_
                refine jv_Wp.lift (fun _ Kz => jv_Ev.steps jv_i295 1 (pc' := 234) (l' := [(2, .int (vl_I w158)), (7, .int (1 : Int32)), (5, .long ((vl_I f.z).toInt64 - (1 : Int64))), (4, .int (vl_I (8 + (76800 + f.d)))), (3, .int (I 205 (76800 + f.d))), (1, .int (vl_I f.z)), (0, .ref 196)]) (st' := [.int (1 : Int32), .int (I 205 (76800 + 0)), .int (vl_I w158)]) rfl Kz) ?_
                refine jv_Wp.cnd jv_i295 (pt := 242) (pe := 237) (p := ((I 205 (76800 + 0)) = (1 : Int32))) (q := ((I 205 (76800 + 0)) = (1 : Int32))) rfl jv_bc_eq rfl rfl Iff.rfl (fun h82 => ?_) (fun h82 => ?_)
                · refine jv_Wp.lift (fun _ Kz => jv_Ev.steps jv_i295 1 (pc' := 243) (l' := [(2, .int (vl_I w158)), (7, .int (1 : Int32)), (5, .long ((vl_I f.z).toInt64 - (1 : Int64))), (4, .int (vl_I (8 + (76800 + f.d)))), (3, .int (I 205 (76800 + f.d))), (1, .int (vl_I f.z)), (0, .ref 196)]) (st' := [.int (0 : Int32), .int (vl_I w158)]) rfl Kz) ?_
                  obtain ⟨w161, hq161⟩ : ∃ x : Nat, ∀ _ : Unit, vx_fst w158 0 = x := ⟨_, fun _ => rfl⟩
                  have fq161 : (w158 = 0 → w161 = 0) ∧ (0 = 0 → w161 = w158) ∧ (w161 = w158 ∨ w161 = 0) ∧ (w158 ≠ 0 → 0 ≠ 0 → w161 ≤ w158 ∧ w161 ≤ 0) := by rw [← hq161 ()]; exact vx_fst_g w158 0
                  have Hf161 := vq_first (I := I) (L := L) (K := K) (R := R) (n := n) (sl := sl) w158 0 (by omega) (by omega)
                  rw [hq161 ()] at Hf161
                  refine jv_Wp.lift (fun _ Kz => jv_Ev.c jv_i295 (pc' := 246) (S' := [.int (vl_I w161)]) jv_i282 [.int (vl_I w158), .int (0 : Int32)] rfl rfl rfl rfl rfl rfl Hf161 rfl rfl Kz) ?_
                  refine jv_Wp.lift (fun _ Kz => jv_Ev.steps jv_i295 2 (pc' := 248) (l' := [(2, .int (vl_I w161)), (7, .int (1 : Int32)), (5, .long ((vl_I f.z).toInt64 - (1 : Int64))), (4, .int (vl_I (8 + (76800 + f.d)))), (3, .int (I 205 (76800 + f.d))), (1, .int (vl_I f.z)), (0, .ref 196)]) (st' := [.int (vl_I w161)]) rfl Kz) ?_
                  refine jv_Wp.cnd jv_i295 (pt := 253) (pe := 251) (p := ((vl_I w161) ≤ 0)) (q := ((vl_I w161) ≤ 0)) rfl jv_bi_le rfl rfl Iff.rfl (fun h83 => ?_) (fun h83 => ?_)
                  · refine jv_Wp.lift (fun _ Kz => jv_Ev.steps jv_i295 1 (pc' := 254) (l' := [(2, .int (vl_I w161)), (7, .int (1 : Int32)), (5, .long ((vl_I f.z).toInt64 - (1 : Int64))), (4, .int (vl_I (8 + (76800 + f.d)))), (3, .int (I 205 (76800 + f.d))), (1, .int (vl_I f.z)), (0, .ref 196)]) (st' := [.ref 196]) rfl Kz) ?_
                    refine jv_Wp.lift (fun _ Kz => jv_Ev.m jv_i295 (pc' := 257) (st' := [.int (Int32.ofInt f.i)]) (G' := (jv_H K I L R)) rfl rfl (jv_m_getI (jv_rwK hW 196 12 24 (by decide)) rfl rfl (vr_dJ D)) Kz) ?_
                    refine jv_Wp.lift (fun _ Kz => jv_Ev.steps jv_i295 1 (pc' := 260) (l' := [(2, .int (vl_I w161)), (7, .int (1 : Int32)), (5, .long ((vl_I f.z).toInt64 - (1 : Int64))), (4, .int (vl_I (8 + (76800 + f.d)))), (3, .int (I 205 (76800 + f.d))), (1, .int (vl_I f.z)), (0, .ref 196)]) (st' := [.int (241 : Int32), .int (Int32.ofInt f.i)]) rfl Kz) ?_
                    refine jv_Wp.cnd jv_i295 (pt := 272) (pe := 263) (p := (¬ (Int32.ofInt f.i) = (241 : Int32))) (q := (¬ (Int32.ofInt f.i) = (241 : Int32))) rfl jv_bc_ne rfl rfl Iff.rfl (fun hz => absurd hz (fun z => z h241)) (fun _ => ?_)
                    refine jv_Wp.lift (fun _ Kz => jv_Ev.steps jv_i295 3 (pc' := 266) (l' := [(2, .int (vl_I w161)), (7, .int (1 : Int32)), (5, .long ((vl_I f.z).toInt64 - (1 : Int64))), (4, .int (vl_I (8 + (76800 + f.d)))), (3, .int (I 205 (76800 + f.d))), (1, .int (vl_I f.z)), (0, .ref 196)]) (st' := [.int (vl_I f.z), .int (0 : Int32), .ref 196]) rfl Kz) ?_
                    obtain ⟨I162, L162, H162, T162, O162, F162⟩ := vq_setAny (I := I) (L := L) (R := R) (n := n) (sl := sl) 0 f.z hW hf (by omega) hz
                    refine jv_Wp.lift (fun _ Kz => jv_Ev.c jv_i295 (pc' := 269) (S' := []) (G1 := (jv_H K I162 L162 R)) jv_i274 [.ref 196, .int (0 : Int32), .int (vl_I f.z)] rfl rfl rfl rfl (jv_cal rfl (jv_H_at (jv_rwK hW 196 12 24 (by decide))) rfl rfl) rfl H162 rfl rfl Kz) ?_
                    refine jv_Wp.lift (fun _ Kz => jv_Ev.steps jv_i295 2 (pc' := 292) (l' := [(2, .int (vl_I w161)), (7, .int (1 : Int32)), (5, .long ((vl_I f.z).toInt64 - (1 : Int64))), (4, .int (vl_I (8 + (76800 + f.d)))), (3, .int (I 205 (76800 + f.d))), (1, .int (vl_I f.z)), (0, .ref 196)]) (st' := [.int (0 : Int32)]) rfl Kz) ?_
                    refine jv_Wp.of (jv_Ev.ret jv_i295 rfl rfl) ?_
                    rw [hQ]
                    have td0 : ¬ zd = 0 := fun z => h1 ((vr_isN (L := L) okd hd11).mp ((hd ()).trans z))
                    have td7 : zd = 7 := (hd ()).symm.trans ((vr_is (L := L) 7 (by decide) okd).mpr (Classical.not_not.mp h19))
                    have ts0 : ¬ zs = 0 := fun z => h73 ((vr_isN (L := L) oks hs11).mp ((hs ()).trans z))
                    have ts1 : zs = 1 := (hs ()).symm.trans ((vr_is (L := L) 1 (by decide) oks).mpr h79)
                    have t00 : ¬ z0 = 0 := fun z => h80 ((vr_isN (L := L) ok0 (by decide)).mp ((h0 ()).trans z))
                    have t01 : z0 = 1 := (h0 ()).symm.trans ((vr_is (L := L) 1 (by decide) ok0).mpr h82)
                    have nx1 : w161 ≤ 0 := (vl_I_le (a := w161) (b := 0) (by omega) (by omega)).mp h83
                    have ev : vx_even (vr_T I L (76800 + f.d)).val f.o f.z = true := by rw [vr_valv (by rw [(vr_is (L := L) 7 (by decide) okd).mp ((hd ()).trans (by omega))]; rfl), ← vr_dO D, vx_even_r hz]; exact (by rw [decide_eq_true (Classical.not_not.mp h37), decide_eq_true (Classical.not_not.mp h55)]; rfl)
                    have r7 := vx_r7' (M := M) (A := (vr_A I L 1024)) (o := f.o) (z := f.z) (w := true) ((hd ()).trans (show zd = 7 by omega))
                    rw [hrr ()] at r7
                    have e5 : vx_atp M f (vr_A I L 1024) = (0, vt_up (vr_A I L 1024) 0 (vt_num (vx_anyz f.z))) := by have q := vx_at5 (M := M) (f := f) (A := (vr_A I L 1024)) (by rw [eD, eS, e0, hd (), hs (), h0 ()]; omega) (by rw [eD, hd ()]; omega) (fun z => z.elim (fun z => by rw [eD, ev] at z; exact absurd z (by decide)) (fun z => by rw [eD, hrr ()] at z; omega)) (by rw [eS, e0, hs (), h0 ()]; omega) (by omega); rw [if_pos m241] at q; exact q
                    have u := vr_upA (I := I) (L := L) (k := 1024) (r := 0) (t := (vt_num (vx_anyz f.z))) (by omega) T162 O162 F162 (fun n hn e q => e (by omega)) oa
                    exact ⟨_, _, by rw [← eQ, e5]; rfl, fun _ => by rw [← eQ, e5]; exact u, vr_fr_P F162 (fun x z => by omega)⟩
                  · refine jv_Wp.lift (fun _ Kz => jv_Ev.steps jv_i295 1 (pc' := 252) (l' := [(2, .int (vl_I w161)), (7, .int (1 : Int32)), (5, .long ((vl_I f.z).toInt64 - (1 : Int64))), (4, .int (vl_I (8 + (76800 + f.d)))), (3, .int (I 205 (76800 + f.d))), (1, .int (vl_I f.z)), (0, .ref 196)]) (st' := [.int (vl_I w161)]) rfl Kz) ?_
                    refine jv_Wp.of (jv_Ev.ret jv_i295 rfl rfl) ?_
                    rw [hQ]
                    have td0 : ¬ zd = 0 := fun z => h1 ((vr_isN (L := L) okd hd11).mp ((hd ()).trans z))
                    have td7 : zd = 7 := (hd ()).symm.trans ((vr_is (L := L) 7 (by decide) okd).mpr (Classical.not_not.mp h19))
                    have ts0 : ¬ zs = 0 := fun z => h73 ((vr_isN (L := L) oks hs11).mp ((hs ()).trans z))
                    have ts1 : zs = 1 := (hs ()).symm.trans ((vr_is (L := L) 1 (by decide) oks).mpr h79)
                    have t00 : ¬ z0 = 0 := fun z => h80 ((vr_isN (L := L) ok0 (by decide)).mp ((h0 ()).trans z))
                    have t01 : z0 = 1 := (h0 ()).symm.trans ((vr_is (L := L) 1 (by decide) ok0).mpr h82)
                    have nx1 : ¬ w161 ≤ 0 := fun z => h83 ((vl_I_le (a := w161) (b := 0) (by omega) (by omega)).mpr z)
                    have ev : vx_even (vr_T I L (76800 + f.d)).val f.o f.z = true := by rw [vr_valv (by rw [(vr_is (L := L) 7 (by decide) okd).mp ((hd ()).trans (by omega))]; rfl), ← vr_dO D, vx_even_r hz]; exact (by rw [decide_eq_true (Classical.not_not.mp h37), decide_eq_true (Classical.not_not.mp h55)]; rfl)
                    have r7 := vx_r7' (M := M) (A := (vr_A I L 1024)) (o := f.o) (z := f.z) (w := true) ((hd ()).trans (show zd = 7 by omega))
                    rw [hrr ()] at r7
                    have e : vx_atp M f (vr_A I L 1024) = (w161, (vr_A I L 1024)) := by
                      by_cases c1 : zd = 0 ∨ zs = 0 ∨ (f.i = 241 ∧ z0 = 0)
                      · rw [show w161 = 1 by omega]; exact vx_at1 (by rw [eD, eS, e0, hd (), hs (), h0 ()]; omega)
                      · by_cases c2 : rr ≠ 0
                        · rw [show w161 = 4 by omega]; exact vx_at3 (by rw [eD, eS, e0, hd (), hs (), h0 ()]; omega) (by rw [eD, hd ()]; omega) (Or.inr (by rw [eD, hrr ()]; exact c2))
                        · rw [show w161 = 6 by omega]; exact vx_at4 (by rw [eD, eS, e0, hd (), hs (), h0 ()]; omega) (by rw [eD, hd ()]; omega) (fun z => z.elim (fun z => by rw [eD, ev] at z; exact absurd z (by decide)) (fun z => by rw [eD, hrr ()] at z; omega)) (by rw [eS, e0, hs (), h0 ()]; omega)
                    exact ⟨_, _, by rw [← eQ, e], fun z => by rw [← eQ, e] at z; exact absurd (show w161 = 0 from z) (by omega), vr_fr_refl hf⟩
                · refine jv_Wp.lift (fun _ Kz => jv_Ev.steps jv_i295 2 (pc' := 243) (l' := [(2, .int (vl_I w158)), (7, .int (1 : Int32)), (5, .long ((vl_I f.z).toInt64 - (1 : Int64))), (4, .int (vl_I (8 + (76800 + f.d)))), (3, .int (I 205 (76800 + f.d))), (1, .int (vl_I f.z)), (0, .ref 196)]) (st' := [.int (6 : Int32), .int (vl_I w158)]) rfl Kz) ?_
                  obtain ⟨w163, hq163⟩ : ∃ x : Nat, ∀ _ : Unit, vx_fst w158 6 = x := ⟨_, fun _ => rfl⟩
                  have fq163 : (w158 = 0 → w163 = 6) ∧ (6 = 0 → w163 = w158) ∧ (w163 = w158 ∨ w163 = 6) ∧ (w158 ≠ 0 → 6 ≠ 0 → w163 ≤ w158 ∧ w163 ≤ 6) := by rw [← hq163 ()]; exact vx_fst_g w158 6
                  have Hf163 := vq_first (I := I) (L := L) (K := K) (R := R) (n := n) (sl := sl) w158 6 (by omega) (by omega)
                  rw [hq163 ()] at Hf163
                  refine jv_Wp.lift (fun _ Kz => jv_Ev.c jv_i295 (pc' := 246) (S' := [.int (vl_I w163)]) jv_i282 [.int (vl_I w158), .int (6 : Int32)] rfl rfl rfl rfl rfl rfl Hf163 rfl rfl Kz) ?_
                  refine jv_Wp.lift (fun _ Kz => jv_Ev.steps jv_i295 2 (pc' := 248) (l' := [(2, .int (vl_I w163)), (7, .int (1 : Int32)), (5, .long ((vl_I f.z).toInt64 - (1 : Int64))), (4, .int (vl_I (8 + (76800 + f.d)))), (3, .int (I 205 (76800 + f.d))), (1, .int (vl_I f.z)), (0, .ref 196)]) (st' := [.int (vl_I w163)]) rfl Kz) ?_
                  refine jv_Wp.cnd jv_i295 (pt := 253) (pe := 251) (p := ((vl_I w163) ≤ 0)) (q := ((vl_I w163) ≤ 0)) rfl jv_bi_le rfl rfl Iff.rfl (fun h84 => ?_) (fun h84 => ?_)
                  · refine jv_Wp.lift (fun _ Kz => jv_Ev.steps jv_i295 1 (pc' := 254) (l' := [(2, .int (vl_I w163)), (7, .int (1 : Int32)), (5, .long ((vl_I f.z).toInt64 - (1 : Int64))), (4, .int (vl_I (8 + (76800 + f.d)))), (3, .int (I 205 (76800 + f.d))), (1, .int (vl_I f.z)), (0, .ref 196)]) (st' := [.ref 196]) rfl Kz) ?_
                    refine jv_Wp.lift (fun _ Kz => jv_Ev.m jv_i295 (pc' := 257) (st' := [.int (Int32.ofInt f.i)]) (G' := (jv_H K I L R)) rfl rfl (jv_m_getI (jv_rwK hW 196 12 24 (by decide)) rfl rfl (vr_dJ D)) Kz) ?_
                    refine jv_Wp.lift (fun _ Kz => jv_Ev.steps jv_i295 1 (pc' := 260) (l' := [(2, .int (vl_I w163)), (7, .int (1 : Int32)), (5, .long ((vl_I f.z).toInt64 - (1 : Int64))), (4, .int (vl_I (8 + (76800 + f.d)))), (3, .int (I 205 (76800 + f.d))), (1, .int (vl_I f.z)), (0, .ref 196)]) (st' := [.int (241 : Int32), .int (Int32.ofInt f.i)]) rfl Kz) ?_
                    refine jv_Wp.cnd jv_i295 (pt := 272) (pe := 263) (p := (¬ (Int32.ofInt f.i) = (241 : Int32))) (q := (¬ (Int32.ofInt f.i) = (241 : Int32))) rfl jv_bc_ne rfl rfl Iff.rfl (fun hz => absurd hz (fun z => z h241)) (fun _ => ?_)
                    refine jv_Wp.lift (fun _ Kz => jv_Ev.steps jv_i295 3 (pc' := 266) (l' := [(2, .int (vl_I w163)), (7, .int (1 : Int32)), (5, .long ((vl_I f.z).toInt64 - (1 : Int64))), (4, .int (vl_I (8 + (76800 + f.d)))), (3, .int (I 205 (76800 + f.d))), (1, .int (vl_I f.z)), (0, .ref 196)]) (st' := [.int (vl_I f.z), .int (0 : Int32), .ref 196]) rfl Kz) ?_
                    obtain ⟨I164, L164, H164, T164, O164, F164⟩ := vq_setAny (I := I) (L := L) (R := R) (n := n) (sl := sl) 0 f.z hW hf (by omega) hz
                    refine jv_Wp.lift (fun _ Kz => jv_Ev.c jv_i295 (pc' := 269) (S' := []) (G1 := (jv_H K I164 L164 R)) jv_i274 [.ref 196, .int (0 : Int32), .int (vl_I f.z)] rfl rfl rfl rfl (jv_cal rfl (jv_H_at (jv_rwK hW 196 12 24 (by decide))) rfl rfl) rfl H164 rfl rfl Kz) ?_
                    refine jv_Wp.lift (fun _ Kz => jv_Ev.steps jv_i295 2 (pc' := 292) (l' := [(2, .int (vl_I w163)), (7, .int (1 : Int32)), (5, .long ((vl_I f.z).toInt64 - (1 : Int64))), (4, .int (vl_I (8 + (76800 + f.d)))), (3, .int (I 205 (76800 + f.d))), (1, .int (vl_I f.z)), (0, .ref 196)]) (st' := [.int (0 : Int32)]) rfl Kz) ?_
                    refine jv_Wp.of (jv_Ev.ret jv_i295 rfl rfl) ?_
                    rw [hQ]
                    have td0 : ¬ zd = 0 := fun z => h1 ((vr_isN (L := L) okd hd11).mp ((hd ()).trans z))
                    have td7 : zd = 7 := (hd ()).symm.trans ((vr_is (L := L) 7 (by decide) okd).mpr (Classical.not_not.mp h19))
                    have ts0 : ¬ zs = 0 := fun z => h73 ((vr_isN (L := L) oks hs11).mp ((hs ()).trans z))
                    have ts1 : zs = 1 := (hs ()).symm.trans ((vr_is (L := L) 1 (by decide) oks).mpr h79)
                    have t00 : ¬ z0 = 0 := fun z => h80 ((vr_isN (L := L) ok0 (by decide)).mp ((h0 ()).trans z))
                    have t01 : ¬ z0 = 1 := fun z => h82 ((vr_is (L := L) 1 (by decide) ok0).mp ((h0 ()).trans z))
                    have nx1 : w163 ≤ 0 := (vl_I_le (a := w163) (b := 0) (by omega) (by omega)).mp h84
                    have ev : vx_even (vr_T I L (76800 + f.d)).val f.o f.z = true := by rw [vr_valv (by rw [(vr_is (L := L) 7 (by decide) okd).mp ((hd ()).trans (by omega))]; rfl), ← vr_dO D, vx_even_r hz]; exact (by rw [decide_eq_true (Classical.not_not.mp h37), decide_eq_true (Classical.not_not.mp h55)]; rfl)
                    have r7 := vx_r7' (M := M) (A := (vr_A I L 1024)) (o := f.o) (z := f.z) (w := true) ((hd ()).trans (show zd = 7 by omega))
                    rw [hrr ()] at r7
                    have e5 : vx_atp M f (vr_A I L 1024) = (0, vt_up (vr_A I L 1024) 0 (vt_num (vx_anyz f.z))) := by have q := vx_at5 (M := M) (f := f) (A := (vr_A I L 1024)) (by rw [eD, eS, e0, hd (), hs (), h0 ()]; omega) (by rw [eD, hd ()]; omega) (fun z => z.elim (fun z => by rw [eD, ev] at z; exact absurd z (by decide)) (fun z => by rw [eD, hrr ()] at z; omega)) (by rw [eS, e0, hs (), h0 ()]; omega) (by omega); rw [if_pos m241] at q; exact q
                    have u := vr_upA (I := I) (L := L) (k := 1024) (r := 0) (t := (vt_num (vx_anyz f.z))) (by omega) T164 O164 F164 (fun n hn e q => e (by omega)) oa
                    exact ⟨_, _, by rw [← eQ, e5]; rfl, fun _ => by rw [← eQ, e5]; exact u, vr_fr_P F164 (fun x z => by omega)⟩
                  · refine jv_Wp.lift (fun _ Kz => jv_Ev.steps jv_i295 1 (pc' := 252) (l' := [(2, .int (vl_I w163)), (7, .int (1 : Int32)), (5, .long ((vl_I f.z).toInt64 - (1 : Int64))), (4, .int (vl_I (8 + (76800 + f.d)))), (3, .int (I 205 (76800 + f.d))), (1, .int (vl_I f.z)), (0, .ref 196)]) (st' := [.int (vl_I w163)]) rfl Kz) ?_
                    refine jv_Wp.of (jv_Ev.ret jv_i295 rfl rfl) ?_
                    rw [hQ]
                    have td0 : ¬ zd = 0 := fun z => h1 ((vr_isN (L := L) okd hd11).mp ((hd ()).trans z))
                    have td7 : zd = 7 := (hd ()).symm.trans ((vr_is (L := L) 7 (by decide) okd).mpr (Classical.not_not.mp h19))
                    have ts0 : ¬ zs = 0 := fun z => h73 ((vr_isN (L := L) oks hs11).mp ((hs ()).trans z))
                    have ts1 : zs = 1 := (hs ()).symm.trans ((vr_is (L := L) 1 (by decide) oks).mpr h79)
                    have t00 : ¬ z0 = 0 := fun z => h80 ((vr_isN (L := L) ok0 (by decide)).mp ((h0 ()).trans z))
                    have t01 : ¬ z0 = 1 := fun z => h82 ((vr_is (L := L) 1 (by decide) ok0).mp ((h0 ()).trans z))
                    have nx1 : ¬ w163 ≤ 0 := fun z => h84 ((vl_I_le (a := w163) (b := 0) (by omega) (by omega)).mpr z)
                    have ev : vx_even (vr_T I L (76800 + f.d)).val f.o f.z = true := by rw [vr_valv (by rw [(vr_is (L := L) 7 (by decide) okd).mp ((hd ()).trans (by omega))]; rfl), ← vr_dO D, vx_even_r hz]; exact (by rw [decide_eq_true (Classical.not_not.mp h37), decide_eq_true (Classical.not_not.mp h55)]; rfl)
                    have r7 := vx_r7' (M := M) (A := (vr_A I L 1024)) (o := f.o) (z := f.z) (w := true) ((hd ()).trans (show zd = 7 by omega))
                    rw [hrr ()] at r7
                    have e : vx_atp M f (vr_A I L 1024) = (w163, (vr_A I L 1024)) := by
                      by_cases c1 : zd = 0 ∨ zs = 0 ∨ (f.i = 241 ∧ z0 = 0)
                      · rw [show w163 = 1 by omega]; exact vx_at1 (by rw [eD, eS, e0, hd (), hs (), h0 ()]; omega)
                      · by_cases c2 : rr ≠ 0
                        · rw [show w163 = 4 by omega]; exact vx_at3 (by rw [eD, eS, e0, hd (), hs (), h0 ()]; omega) (by rw [eD, hd ()]; omega) (Or.inr (by rw [eD, hrr ()]; exact c2))
                        · rw [show w163 = 6 by omega]; exact vx_at4 (by rw [eD, eS, e0, hd (), hs (), h0 ()]; omega) (by rw [eD, hd ()]; omega) (fun z => z.elim (fun z => by rw [eD, ev] at z; exact absurd z (by decide)) (fun z => by rw [eD, hrr ()] at z; omega)) (by rw [eS, e0, hs (), h0 ()]; omega)
                    exact ⟨_, _, by rw [← eQ, e], fun z => by rw [← eQ, e] at z; exact absurd (show w163 = 0 from z) (by omega), vr_fr_refl hf⟩
            · refine jv_Wp.lift (fun _ Kz => jv_Ev.steps jv_i295 2 (pc' := 205) (l' := [(2, .int (vl_I w150)), (7, .int (1 : Int32)), (5, .long ((vl_I f.z).toInt64 - (1 : Int64))), (4, .int (vl_I (8 + (76800 + f.d)))), (3, .int (I 205 (76800 + f.d))), (1, .int (vl_I f.z)), (0, .ref 196)]) (st' := [.int (6 : Int32), .int (vl_I w150)]) rfl Kz) ?_
              obtain ⟨w165, hq165⟩ : ∃ x : Nat, ∀ _ : Unit, vx_fst w150 6 = x := ⟨_, fun _ => rfl⟩
              have fq165 : (w150 = 0 → w165 = 6) ∧ (6 = 0 → w165 = w150) ∧ (w165 = w150 ∨ w165 = 6) ∧ (w150 ≠ 0 → 6 ≠ 0 → w165 ≤ w150 ∧ w165 ≤ 6) := by rw [← hq165 ()]; exact vx_fst_g w150 6
              have Hf165 := vq_first (I := I) (L := L) (K := K) (R := R) (n := n) (sl := sl) w150 6 (by omega) (by omega)
              rw [hq165 ()] at Hf165
              refine jv_Wp.lift (fun _ Kz => jv_Ev.c jv_i295 (pc' := 208) (S' := [.int (vl_I w165)]) jv_i282 [.int (vl_I w150), .int (6 : Int32)] rfl rfl rfl rfl rfl rfl Hf165 rfl rfl Kz) ?_
              refine jv_Wp.lift (fun _ Kz => jv_Ev.steps jv_i295 3 (pc' := 211) (l' := [(2, .int (vl_I w165)), (7, .int (1 : Int32)), (5, .long ((vl_I f.z).toInt64 - (1 : Int64))), (4, .int (vl_I (8 + (76800 + f.d)))), (3, .int (I 205 (76800 + f.d))), (1, .int (vl_I f.z)), (0, .ref 196)]) (st' := [.ref 196, .int (vl_I w165)]) rfl Kz) ?_
              refine jv_Wp.lift (fun _ Kz => jv_Ev.m jv_i295 (pc' := 214) (st' := [.int (Int32.ofInt f.i), .int (vl_I w165)]) (G' := (jv_H K I L R)) rfl rfl (jv_m_getI (jv_rwK hW 196 12 24 (by decide)) rfl rfl (vr_dJ D)) Kz) ?_
              refine jv_Wp.lift (fun _ Kz => jv_Ev.steps jv_i295 1 (pc' := 217) (l' := [(2, .int (vl_I w165)), (7, .int (1 : Int32)), (5, .long ((vl_I f.z).toInt64 - (1 : Int64))), (4, .int (vl_I (8 + (76800 + f.d)))), (3, .int (I 205 (76800 + f.d))), (1, .int (vl_I f.z)), (0, .ref 196)]) (st' := [.int (241 : Int32), .int (Int32.ofInt f.i), .int (vl_I w165)]) rfl Kz) ?_
              refine jv_Wp.cnd jv_i295 (pt := 242) (pe := 220) (p := (¬ (Int32.ofInt f.i) = (241 : Int32))) (q := (¬ (Int32.ofInt f.i) = (241 : Int32))) rfl jv_bc_ne rfl rfl Iff.rfl (fun hz => absurd hz (fun z => z h241)) (fun _ => ?_)
              refine jv_Wp.lift (fun _ Kz => jv_Ev.steps jv_i295 2 (pc' := 222) (l' := [(2, .int (vl_I w165)), (7, .int (1 : Int32)), (5, .long ((vl_I f.z).toInt64 - (1 : Int64))), (4, .int (vl_I (8 + (76800 + f.d)))), (3, .int (I 205 (76800 + f.d))), (1, .int (vl_I f.z)), (0, .ref 196)]) (st' := [.int (0 : Int32), .ref 196, .int (vl_I w165)]) rfl Kz) ?_
              refine jv_Wp.lift (fun _ Kz => jv_Ev.c jv_i295 (pc' := 225) (S' := [.int (I 205 (76800 + 0)), .int (vl_I w165)]) jv_i271 [.ref 196, .int (0 : Int32)] rfl rfl rfl rfl (jv_cal rfl (jv_H_at (jv_rwK hW 196 12 24 (by decide))) rfl rfl) rfl (vq_sortOf 0 hW (by omega)) rfl rfl Kz) ?_
              refine jv_Wp.cnd jv_i295 (pt := 242) (pe := 228) (p := ((I 205 (76800 + 0)) = 0)) (q := ((I 205 (76800 + 0)) = 0)) rfl jv_bi_eq rfl rfl Iff.rfl (fun h85 => ?_) (fun h85 => ?_)
              · refine jv_Wp.lift (fun _ Kz => jv_Ev.steps jv_i295 1 (pc' := 243) (l' := [(2, .int (vl_I w165)), (7, .int (1 : Int32)), (5, .long ((vl_I f.z).toInt64 - (1 : Int64))), (4, .int (vl_I (8 + (76800 + f.d)))), (3, .int (I 205 (76800 + f.d))), (1, .int (vl_I f.z)), (0, .ref 196)]) (st' := [.int (0 : Int32), .int (vl_I w165)]) rfl Kz) ?_
                obtain ⟨w166, hq166⟩ : ∃ x : Nat, ∀ _ : Unit, vx_fst w165 0 = x := ⟨_, fun _ => rfl⟩
                have fq166 : (w165 = 0 → w166 = 0) ∧ (0 = 0 → w166 = w165) ∧ (w166 = w165 ∨ w166 = 0) ∧ (w165 ≠ 0 → 0 ≠ 0 → w166 ≤ w165 ∧ w166 ≤ 0) := by rw [← hq166 ()]; exact vx_fst_g w165 0
                have Hf166 := vq_first (I := I) (L := L) (K := K) (R := R) (n := n) (sl := sl) w165 0 (by omega) (by omega)
                rw [hq166 ()] at Hf166
                refine jv_Wp.lift (fun _ Kz => jv_Ev.c jv_i295 (pc' := 246) (S' := [.int (vl_I w166)]) jv_i282 [.int (vl_I w165), .int (0 : Int32)] rfl rfl rfl rfl rfl rfl Hf166 rfl rfl Kz) ?_
                refine jv_Wp.lift (fun _ Kz => jv_Ev.steps jv_i295 2 (pc' := 248) (l' := [(2, .int (vl_I w166)), (7, .int (1 : Int32)), (5, .long ((vl_I f.z).toInt64 - (1 : Int64))), (4, .int (vl_I (8 + (76800 + f.d)))), (3, .int (I 205 (76800 + f.d))), (1, .int (vl_I f.z)), (0, .ref 196)]) (st' := [.int (vl_I w166)]) rfl Kz) ?_
                refine jv_Wp.cnd jv_i295 (pt := 253) (pe := 251) (p := ((vl_I w166) ≤ 0)) (q := ((vl_I w166) ≤ 0)) rfl jv_bi_le rfl rfl Iff.rfl (fun h86 => ?_) (fun h86 => ?_)
                · refine jv_Wp.lift (fun _ Kz => jv_Ev.steps jv_i295 1 (pc' := 254) (l' := [(2, .int (vl_I w166)), (7, .int (1 : Int32)), (5, .long ((vl_I f.z).toInt64 - (1 : Int64))), (4, .int (vl_I (8 + (76800 + f.d)))), (3, .int (I 205 (76800 + f.d))), (1, .int (vl_I f.z)), (0, .ref 196)]) (st' := [.ref 196]) rfl Kz) ?_
                  refine jv_Wp.lift (fun _ Kz => jv_Ev.m jv_i295 (pc' := 257) (st' := [.int (Int32.ofInt f.i)]) (G' := (jv_H K I L R)) rfl rfl (jv_m_getI (jv_rwK hW 196 12 24 (by decide)) rfl rfl (vr_dJ D)) Kz) ?_
                  refine jv_Wp.lift (fun _ Kz => jv_Ev.steps jv_i295 1 (pc' := 260) (l' := [(2, .int (vl_I w166)), (7, .int (1 : Int32)), (5, .long ((vl_I f.z).toInt64 - (1 : Int64))), (4, .int (vl_I (8 + (76800 + f.d)))), (3, .int (I 205 (76800 + f.d))), (1, .int (vl_I f.z)), (0, .ref 196)]) (st' := [.int (241 : Int32), .int (Int32.ofInt f.i)]) rfl Kz) ?_
                  refine jv_Wp.cnd jv_i295 (pt := 272) (pe := 263) (p := (¬ (Int32.ofInt f.i) = (241 : Int32))) (q := (¬ (Int32.ofInt f.i) = (241 : Int32))) rfl jv_bc_ne rfl rfl Iff.rfl (fun hz => absurd hz (fun z => z h241)) (fun _ => ?_)
                  refine jv_Wp.lift (fun _ Kz => jv_Ev.steps jv_i295 3 (pc' := 266) (l' := [(2, .int (vl_I w166)), (7, .int (1 : Int32)), (5, .long ((vl_I f.z).toInt64 - (1 : Int64))), (4, .int (vl_I (8 + (76800 + f.d)))), (3, .int (I 205 (76800 + f.d))), (1, .int (vl_I f.z)), (0, .ref 196)]) (st' := [.int (vl_I f.z), .int (0 : Int32), .ref 196]) rfl Kz) ?_
                  obtain ⟨I167, L167, H167, T167, O167, F167⟩ := vq_setAny (I := I) (L := L) (R := R) (n := n) (sl := sl) 0 f.z hW hf (by omega) hz
                  refine jv_Wp.lift (fun _ Kz => jv_Ev.c jv_i295 (pc' := 269) (S' := []) (G1 := (jv_H K I167 L167 R)) jv_i274 [.ref 196, .int (0 : Int32), .int (vl_I f.z)] rfl rfl rfl rfl (jv_cal rfl (jv_H_at (jv_rwK hW 196 12 24 (by decide))) rfl rfl) rfl H167 rfl rfl Kz) ?_
                  refine jv_Wp.lift (fun _ Kz => jv_Ev.steps jv_i295 2 (pc' := 292) (l' := [(2, .int (vl_I w166)), (7, .int (1 : Int32)), (5, .long ((vl_I f.z).toInt64 - (1 : Int64))), (4, .int (vl_I (8 + (76800 + f.d)))), (3, .int (I 205 (76800 + f.d))), (1, .int (vl_I f.z)), (0, .ref 196)]) (st' := [.int (0 : Int32)]) rfl Kz) ?_
                  refine jv_Wp.of (jv_Ev.ret jv_i295 rfl rfl) ?_
                  rw [hQ]
                  have td0 : ¬ zd = 0 := fun z => h1 ((vr_isN (L := L) okd hd11).mp ((hd ()).trans z))
                  have td7 : zd = 7 := (hd ()).symm.trans ((vr_is (L := L) 7 (by decide) okd).mpr (Classical.not_not.mp h19))
                  have ts0 : ¬ zs = 0 := fun z => h73 ((vr_isN (L := L) oks hs11).mp ((hs ()).trans z))
                  have ts1 : ¬ zs = 1 := fun z => h79 ((vr_is (L := L) 1 (by decide) oks).mp ((hs ()).trans z))
                  have t00 : z0 = 0 := (h0 ()).symm.trans ((vr_isN (L := L) ok0 (by decide)).mpr h85)
                  have nx1 : w166 ≤ 0 := (vl_I_le (a := w166) (b := 0) (by omega) (by omega)).mp h86
                  have ev : vx_even (vr_T I L (76800 + f.d)).val f.o f.z = true := by rw [vr_valv (by rw [(vr_is (L := L) 7 (by decide) okd).mp ((hd ()).trans (by omega))]; rfl), ← vr_dO D, vx_even_r hz]; exact (by rw [decide_eq_true (Classical.not_not.mp h37), decide_eq_true (Classical.not_not.mp h55)]; rfl)
                  have r7 := vx_r7' (M := M) (A := (vr_A I L 1024)) (o := f.o) (z := f.z) (w := true) ((hd ()).trans (show zd = 7 by omega))
                  rw [hrr ()] at r7
                  have e5 : vx_atp M f (vr_A I L 1024) = (0, vt_up (vr_A I L 1024) 0 (vt_num (vx_anyz f.z))) := by have q := vx_at5 (M := M) (f := f) (A := (vr_A I L 1024)) (by rw [eD, eS, e0, hd (), hs (), h0 ()]; omega) (by rw [eD, hd ()]; omega) (fun z => z.elim (fun z => by rw [eD, ev] at z; exact absurd z (by decide)) (fun z => by rw [eD, hrr ()] at z; omega)) (by rw [eS, e0, hs (), h0 ()]; omega) (by omega); rw [if_pos m241] at q; exact q
                  have u := vr_upA (I := I) (L := L) (k := 1024) (r := 0) (t := (vt_num (vx_anyz f.z))) (by omega) T167 O167 F167 (fun n hn e q => e (by omega)) oa
                  exact ⟨_, _, by rw [← eQ, e5]; rfl, fun _ => by rw [← eQ, e5]; exact u, vr_fr_P F167 (fun x z => by omega)⟩
                · refine jv_Wp.lift (fun _ Kz => jv_Ev.steps jv_i295 1 (pc' := 252) (l' := [(2, .int (vl_I w166)), (7, .int (1 : Int32)), (5, .long ((vl_I f.z).toInt64 - (1 : Int64))), (4, .int (vl_I (8 + (76800 + f.d)))), (3, .int (I 205 (76800 + f.d))), (1, .int (vl_I f.z)), (0, .ref 196)]) (st' := [.int (vl_I w166)]) rfl Kz) ?_
                  refine jv_Wp.of (jv_Ev.ret jv_i295 rfl rfl) ?_
                  rw [hQ]
                  have td0 : ¬ zd = 0 := fun z => h1 ((vr_isN (L := L) okd hd11).mp ((hd ()).trans z))
                  have td7 : zd = 7 := (hd ()).symm.trans ((vr_is (L := L) 7 (by decide) okd).mpr (Classical.not_not.mp h19))
                  have ts0 : ¬ zs = 0 := fun z => h73 ((vr_isN (L := L) oks hs11).mp ((hs ()).trans z))
                  have ts1 : ¬ zs = 1 := fun z => h79 ((vr_is (L := L) 1 (by decide) oks).mp ((hs ()).trans z))
                  have t00 : z0 = 0 := (h0 ()).symm.trans ((vr_isN (L := L) ok0 (by decide)).mpr h85)
                  have nx1 : ¬ w166 ≤ 0 := fun z => h86 ((vl_I_le (a := w166) (b := 0) (by omega) (by omega)).mpr z)
                  have ev : vx_even (vr_T I L (76800 + f.d)).val f.o f.z = true := by rw [vr_valv (by rw [(vr_is (L := L) 7 (by decide) okd).mp ((hd ()).trans (by omega))]; rfl), ← vr_dO D, vx_even_r hz]; exact (by rw [decide_eq_true (Classical.not_not.mp h37), decide_eq_true (Classical.not_not.mp h55)]; rfl)
                  have r7 := vx_r7' (M := M) (A := (vr_A I L 1024)) (o := f.o) (z := f.z) (w := true) ((hd ()).trans (show zd = 7 by omega))
                  rw [hrr ()] at r7
                  have e : vx_atp M f (vr_A I L 1024) = (w166, (vr_A I L 1024)) := by
                    by_cases c1 : zd = 0 ∨ zs = 0 ∨ (f.i = 241 ∧ z0 = 0)
                    · rw [show w166 = 1 by omega]; exact vx_at1 (by rw [eD, eS, e0, hd (), hs (), h0 ()]; omega)
                    · by_cases c2 : rr ≠ 0
                      · rw [show w166 = 4 by omega]; exact vx_at3 (by rw [eD, eS, e0, hd (), hs (), h0 ()]; omega) (by rw [eD, hd ()]; omega) (Or.inr (by rw [eD, hrr ()]; exact c2))
                      · rw [show w166 = 6 by omega]; exact vx_at4 (by rw [eD, eS, e0, hd (), hs (), h0 ()]; omega) (by rw [eD, hd ()]; omega) (fun z => z.elim (fun z => by rw [eD, ev] at z; exact absurd z (by decide)) (fun z => by rw [eD, hrr ()] at z; omega)) (by rw [eS, e0, hs (), h0 ()]; omega)
                  exact ⟨_, _, by rw [← eQ, e], fun z => by rw [← eQ, e] at z; exact absurd (show w166 = 0 from z) (by omega), vr_fr_refl hf⟩
              · refine jv_Wp.lift (fun _ Kz => jv_Ev.steps jv_i295 2 (pc' := 230) (l' := [(2, .int (vl_I w165)), (7, .int (1 : Int32)), (5, .long ((vl_I f.z).toInt64 - (1 : Int64))), (4, .int (vl_I (8 + (76800 + f.d)))), (3, .int (I 205 (76800 + f.d))), (1, .int (vl_I f.z)), (0, .ref 196)]) (st' := [.int (0 : Int32), .ref 196, .int (vl_I w165)]) rfl Kz) ?_
                refine jv_Wp.lift (fun _ Kz => jv_Ev.c jv_i295 (pc' := 233) (S' := [.int (I 205 (76800 + 0)), .int (vl_I w165)]) jv_i271 [.ref 196, .int (0 : Int32)] rfl rfl rfl rfl (jv_cal rfl (jv_H_at (jv_rwK hW 196 12 24 (by decide))) rfl rfl) rfl (vq_sortOf 0 hW (by omega)) rfl rfl Kz) ?_
                refine jv_Wp.lift (fun _ Kz => jv_Ev.steps jv_i295 1 (pc' := 234) (l' := [(2, .int (vl_I w165)), (7, .int (1 : Int32)), (5, .long ((vl_I f.z).toInt64 - (1 : Int64))), (4, .int (vl_I (8 + (76800 + f.d)))), (3, .int (I 205 (76800 + f.d))), (1, .int (vl_I f.z)), (0, .ref 196)]) (st' := [.int (1 : Int32), .int (I 205 (76800 + 0)), .int (vl_I w165)]) rfl Kz) ?_
                refine jv_Wp.cnd jv_i295 (pt := 242) (pe := 237) (p := ((I 205 (76800 + 0)) = (1 : Int32))) (q := ((I 205 (76800 + 0)) = (1 : Int32))) rfl jv_bc_eq rfl rfl Iff.rfl (fun h87 => ?_) (fun h87 => ?_)
                · refine jv_Wp.lift (fun _ Kz => jv_Ev.steps jv_i295 1 (pc' := 243) (l' := [(2, .int (vl_I w165)), (7, .int (1 : Int32)), (5, .long ((vl_I f.z).toInt64 - (1 : Int64))), (4, .int (vl_I (8 + (76800 + f.d)))), (3, .int (I 205 (76800 + f.d))), (1, .int (vl_I f.z)), (0, .ref 196)]) (st' := [.int (0 : Int32), .int (vl_I w165)]) rfl Kz) ?_
                  obtain ⟨w168, hq168⟩ : ∃ x : Nat, ∀ _ : Unit, vx_fst w165 0 = x := ⟨_, fun _ => rfl⟩
                  have fq168 : (w165 = 0 → w168 = 0) ∧ (0 = 0 → w168 = w165) ∧ (w168 = w165 ∨ w168 = 0) ∧ (w165 ≠ 0 → 0 ≠ 0 → w168 ≤ w165 ∧ w168 ≤ 0) := by rw [← hq168 ()]; exact vx_fst_g w165 0
                  have Hf168 := vq_first (I := I) (L := L) (K := K) (R := R) (n := n) (sl := sl) w165 0 (by omega) (by omega)
                  rw [hq168 ()] at Hf168
                  refine jv_Wp.lift (fun _ Kz => jv_Ev.c jv_i295 (pc' := 246) (S' := [.int (vl_I w168)]) jv_i282 [.int (vl_I w165), .int (0 : Int32)] rfl rfl rfl rfl rfl rfl Hf168 rfl rfl Kz) ?_
                  refine jv_Wp.lift (fun _ Kz => jv_Ev.steps jv_i295 2 (pc' := 248) (l' := [(2, .int (vl_I w168)), (7, .int (1 : Int32)), (5, .long ((vl_I f.z).toInt64 - (1 : Int64))), (4, .int (vl_I (8 + (76800 + f.d)))), (3, .int (I 205 (76800 + f.d))), (1, .int (vl_I f.z)), (0, .ref 196)]) (st' := [.int (vl_I w168)]) rfl Kz) ?_
                  refine jv_Wp.cnd jv_i295 (pt := 253) (pe := 251) (p := ((vl_I w168) ≤ 0)) (q := ((vl_I w168) ≤ 0)) rfl jv_bi_le rfl rfl Iff.rfl (fun h88 => ?_) (fun h88 => ?_)
                  · refine jv_Wp.lift (fun _ Kz => jv_Ev.steps jv_i295 1 (pc' := 254) (l' := [(2, .int (vl_I w168)), (7, .int (1 : Int32)), (5, .long ((vl_I f.z).toInt64 - (1 : Int64))), (4, .int (vl_I (8 + (76800 + f.d)))), (3, .int (I 205 (76800 + f.d))), (1, .int (vl_I f.z)), (0, .ref 196)]) (st' := [.ref 196]) rfl Kz) ?_
                    refine jv_Wp.lift (fun _ Kz => jv_Ev.m jv_i295 (pc' := 257) (st' := [.int (Int32.ofInt f.i)]) (G' := (jv_H K I L R)) rfl rfl (jv_m_getI (jv_rwK hW 196 12 24 (by decide)) rfl rfl (vr_dJ D)) Kz) ?_
                    refine jv_Wp.lift (fun _ Kz => jv_Ev.steps jv_i295 1 (pc' := 260) (l' := [(2, .int (vl_I w168)), (7, .int (1 : Int32)), (5, .long ((vl_I f.z).toInt64 - (1 : Int64))), (4, .int (vl_I (8 + (76800 + f.d)))), (3, .int (I 205 (76800 + f.d))), (1, .int (vl_I f.z)), (0, .ref 196)]) (st' := [.int (241 : Int32), .int (Int32.ofInt f.i)]) rfl Kz) ?_
                    refine jv_Wp.cnd jv_i295 (pt := 272) (pe := 263) (p := (¬ (Int32.ofInt f.i) = (241 : Int32))) (q := (¬ (Int32.ofInt f.i) = (241 : Int32))) rfl jv_bc_ne rfl rfl Iff.rfl (fun hz => absurd hz (fun z => z h241)) (fun _ => ?_)
                    refine jv_Wp.lift (fun _ Kz => jv_Ev.steps jv_i295 3 (pc' := 266) (l' := [(2, .int (vl_I w168)), (7, .int (1 : Int32)), (5, .long ((vl_I f.z).toInt64 - (1 : Int64))), (4, .int (vl_I (8 + (76800 + f.d)))), (3, .int (I 205 (76800 + f.d))), (1, .int (vl_I f.z)), (0, .ref 196)]) (st' := [.int (vl_I f.z), .int (0 : Int32), .ref 196]) rfl Kz) ?_
                    obtain ⟨I169, L169, H169, T169, O169, F169⟩ := vq_setAny (I := I) (L := L) (R := R) (n := n) (sl := sl) 0 f.z hW hf (by omega) hz
                    refine jv_Wp.lift (fun _ Kz => jv_Ev.c jv_i295 (pc' := 269) (S' := []) (G1 := (jv_H K I169 L169 R)) jv_i274 [.ref 196, .int (0 : Int32), .int (vl_I f.z)] rfl rfl rfl rfl (jv_cal rfl (jv_H_at (jv_rwK hW 196 12 24 (by decide))) rfl rfl) rfl H169 rfl rfl Kz) ?_
                    refine jv_Wp.lift (fun _ Kz => jv_Ev.steps jv_i295 2 (pc' := 292) (l' := [(2, .int (vl_I w168)), (7, .int (1 : Int32)), (5, .long ((vl_I f.z).toInt64 - (1 : Int64))), (4, .int (vl_I (8 + (76800 + f.d)))), (3, .int (I 205 (76800 + f.d))), (1, .int (vl_I f.z)), (0, .ref 196)]) (st' := [.int (0 : Int32)]) rfl Kz) ?_
                    refine jv_Wp.of (jv_Ev.ret jv_i295 rfl rfl) ?_
                    rw [hQ]
                    have td0 : ¬ zd = 0 := fun z => h1 ((vr_isN (L := L) okd hd11).mp ((hd ()).trans z))
                    have td7 : zd = 7 := (hd ()).symm.trans ((vr_is (L := L) 7 (by decide) okd).mpr (Classical.not_not.mp h19))
                    have ts0 : ¬ zs = 0 := fun z => h73 ((vr_isN (L := L) oks hs11).mp ((hs ()).trans z))
                    have ts1 : ¬ zs = 1 := fun z => h79 ((vr_is (L := L) 1 (by decide) oks).mp ((hs ()).trans z))
                    have t00 : ¬ z0 = 0 := fun z => h85 ((vr_isN (L := L) ok0 (by decide)).mp ((h0 ()).trans z))
                    have t01 : z0 = 1 := (h0 ()).symm.trans ((vr_is (L := L) 1 (by decide) ok0).mpr h87)
                    have nx1 : w168 ≤ 0 := (vl_I_le (a := w168) (b := 0) (by omega) (by omega)).mp h88
                    have ev : vx_even (vr_T I L (76800 + f.d)).val f.o f.z = true := by rw [vr_valv (by rw [(vr_is (L := L) 7 (by decide) okd).mp ((hd ()).trans (by omega))]; rfl), ← vr_dO D, vx_even_r hz]; exact (by rw [decide_eq_true (Classical.not_not.mp h37), decide_eq_true (Classical.not_not.mp h55)]; rfl)
                    have r7 := vx_r7' (M := M) (A := (vr_A I L 1024)) (o := f.o) (z := f.z) (w := true) ((hd ()).trans (show zd = 7 by omega))
                    rw [hrr ()] at r7
                    have e5 : vx_atp M f (vr_A I L 1024) = (0, vt_up (vr_A I L 1024) 0 (vt_num (vx_anyz f.z))) := by have q := vx_at5 (M := M) (f := f) (A := (vr_A I L 1024)) (by rw [eD, eS, e0, hd (), hs (), h0 ()]; omega) (by rw [eD, hd ()]; omega) (fun z => z.elim (fun z => by rw [eD, ev] at z; exact absurd z (by decide)) (fun z => by rw [eD, hrr ()] at z; omega)) (by rw [eS, e0, hs (), h0 ()]; omega) (by omega); rw [if_pos m241] at q; exact q
                    have u := vr_upA (I := I) (L := L) (k := 1024) (r := 0) (t := (vt_num (vx_anyz f.z))) (by omega) T169 O169 F169 (fun n hn e q => e (by omega)) oa
                    exact ⟨_, _, by rw [← eQ, e5]; rfl, fun _ => by rw [← eQ, e5]; exact u, vr_fr_P F169 (fun x z => by omega)⟩
                  · refine jv_Wp.lift (fun _ Kz => jv_Ev.steps jv_i295 1 (pc' := 252) (l' := [(2, .int (vl_I w168)), (7, .int (1 : Int32)), (5, .long ((vl_I f.z).toInt64 - (1 : Int64))), (4, .int (vl_I (8 + (76800 + f.d)))), (3, .int (I 205 (76800 + f.d))), (1, .int (vl_I f.z)), (0, .ref 196)]) (st' := [.int (vl_I w168)]) rfl Kz) ?_
                    refine jv_Wp.of (jv_Ev.ret jv_i295 rfl rfl) ?_
                    rw [hQ]
                    have td0 : ¬ zd = 0 := fun z => h1 ((vr_isN (L := L) okd hd11).mp ((hd ()).trans z))
                    have td7 : zd = 7 := (hd ()).symm.trans ((vr_is (L := L) 7 (by decide) okd).mpr (Classical.not_not.mp h19))
                    have ts0 : ¬ zs = 0 := fun z => h73 ((vr_isN (L := L) oks hs11).mp ((hs ()).trans z))
                    have ts1 : ¬ zs = 1 := fun z => h79 ((vr_is (L := L) 1 (by decide) oks).mp ((hs ()).trans z))
                    have t00 : ¬ z0 = 0 := fun z => h85 ((vr_isN (L := L) ok0 (by decide)).mp ((h0 ()).trans z))
                    have t01 : z0 = 1 := (h0 ()).symm.trans ((vr_is (L := L) 1 (by decide) ok0).mpr h87)
                    have nx1 : ¬ w168 ≤ 0 := fun z => h88 ((vl_I_le (a := w168) (b := 0) (by omega) (by omega)).mpr z)
                    have ev : vx_even (vr_T I L (76800 + f.d)).val f.o f.z = true := by rw [vr_valv (by rw [(vr_is (L := L) 7 (by decide) okd).mp ((hd ()).trans (by omega))]; rfl), ← vr_dO D, vx_even_r hz]; exact (by rw [decide_eq_true (Classical.not_not.mp h37), decide_eq_true (Classical.not_not.mp h55)]; rfl)
                    have r7 := vx_r7' (M := M) (A := (vr_A I L 1024)) (o := f.o) (z := f.z) (w := true) ((hd ()).trans (show zd = 7 by omega))
                    rw [hrr ()] at r7
                    have e : vx_atp M f (vr_A I L 1024) = (w168, (vr_A I L 1024)) := by
                      by_cases c1 : zd = 0 ∨ zs = 0 ∨ (f.i = 241 ∧ z0 = 0)
                      · rw [show w168 = 1 by omega]; exact vx_at1 (by rw [eD, eS, e0, hd (), hs (), h0 ()]; omega)
                      · by_cases c2 : rr ≠ 0
                        · rw [show w168 = 4 by omega]; exact vx_at3 (by rw [eD, eS, e0, hd (), hs (), h0 ()]; omega) (by rw [eD, hd ()]; omega) (Or.inr (by rw [eD, hrr ()]; exact c2))
                        · rw [show w168 = 6 by omega]; exact vx_at4 (by rw [eD, eS, e0, hd (), hs (), h0 ()]; omega) (by rw [eD, hd ()]; omega) (fun z => z.elim (fun z => by rw [eD, ev] at z; exact absurd z (by decide)) (fun z => by rw [eD, hrr ()] at z; omega)) (by rw [eS, e0, hs (), h0 ()]; omega)
                    exact ⟨_, _, by rw [← eQ, e], fun z => by rw [← eQ, e] at z; exact absurd (show w168 = 0 from z) (by omega), vr_fr_refl hf⟩
                · refine jv_Wp.lift (fun _ Kz => jv_Ev.steps jv_i295 2 (pc' := 243) (l' := [(2, .int (vl_I w165)), (7, .int (1 : Int32)), (5, .long ((vl_I f.z).toInt64 - (1 : Int64))), (4, .int (vl_I (8 + (76800 + f.d)))), (3, .int (I 205 (76800 + f.d))), (1, .int (vl_I f.z)), (0, .ref 196)]) (st' := [.int (6 : Int32), .int (vl_I w165)]) rfl Kz) ?_
                  obtain ⟨w170, hq170⟩ : ∃ x : Nat, ∀ _ : Unit, vx_fst w165 6 = x := ⟨_, fun _ => rfl⟩
                  have fq170 : (w165 = 0 → w170 = 6) ∧ (6 = 0 → w170 = w165) ∧ (w170 = w165 ∨ w170 = 6) ∧ (w165 ≠ 0 → 6 ≠ 0 → w170 ≤ w165 ∧ w170 ≤ 6) := by rw [← hq170 ()]; exact vx_fst_g w165 6
                  have Hf170 := vq_first (I := I) (L := L) (K := K) (R := R) (n := n) (sl := sl) w165 6 (by omega) (by omega)
                  rw [hq170 ()] at Hf170
                  refine jv_Wp.lift (fun _ Kz => jv_Ev.c jv_i295 (pc' := 246) (S' := [.int (vl_I w170)]) jv_i282 [.int (vl_I w165), .int (6 : Int32)] rfl rfl rfl rfl rfl rfl Hf170 rfl rfl Kz) ?_
                  refine jv_Wp.lift (fun _ Kz => jv_Ev.steps jv_i295 2 (pc' := 248) (l' := [(2, .int (vl_I w170)), (7, .int (1 : Int32)), (5, .long ((vl_I f.z).toInt64 - (1 : Int64))), (4, .int (vl_I (8 + (76800 + f.d)))), (3, .int (I 205 (76800 + f.d))), (1, .int (vl_I f.z)), (0, .ref 196)]) (st' := [.int (vl_I w170)]) rfl Kz) ?_
                  refine jv_Wp.cnd jv_i295 (pt := 253) (pe := 251) (p := ((vl_I w170) ≤ 0)) (q := ((vl_I w170) ≤ 0)) rfl jv_bi_le rfl rfl Iff.rfl (fun h89 => ?_) (fun h89 => ?_)
                  · refine jv_Wp.lift (fun _ Kz => jv_Ev.steps jv_i295 1 (pc' := 254) (l' := [(2, .int (vl_I w170)), (7, .int (1 : Int32)), (5, .long ((vl_I f.z).toInt64 - (1 : Int64))), (4, .int (vl_I (8 + (76800 + f.d)))), (3, .int (I 205 (76800 + f.d))), (1, .int (vl_I f.z)), (0, .ref 196)]) (st' := [.ref 196]) rfl Kz) ?_
                    refine jv_Wp.lift (fun _ Kz => jv_Ev.m jv_i295 (pc' := 257) (st' := [.int (Int32.ofInt f.i)]) (G' := (jv_H K I L R)) rfl rfl (jv_m_getI (jv_rwK hW 196 12 24 (by decide)) rfl rfl (vr_dJ D)) Kz) ?_
                    refine jv_Wp.lift (fun _ Kz => jv_Ev.steps jv_i295 1 (pc' := 260) (l' := [(2, .int (vl_I w170)), (7, .int (1 : Int32)), (5, .long ((vl_I f.z).toInt64 - (1 : Int64))), (4, .int (vl_I (8 + (76800 + f.d)))), (3, .int (I 205 (76800 + f.d))), (1, .int (vl_I f.z)), (0, .ref 196)]) (st' := [.int (241 : Int32), .int (Int32.ofInt f.i)]) rfl Kz) ?_
                    refine jv_Wp.cnd jv_i295 (pt := 272) (pe := 263) (p := (¬ (Int32.ofInt f.i) = (241 : Int32))) (q := (¬ (Int32.ofInt f.i) = (241 : Int32))) rfl jv_bc_ne rfl rfl Iff.rfl (fun hz => absurd hz (fun z => z h241)) (fun _ => ?_)
                    refine jv_Wp.lift (fun _ Kz => jv_Ev.steps jv_i295 3 (pc' := 266) (l' := [(2, .int (vl_I w170)), (7, .int (1 : Int32)), (5, .long ((vl_I f.z).toInt64 - (1 : Int64))), (4, .int (vl_I (8 + (76800 + f.d)))), (3, .int (I 205 (76800 + f.d))), (1, .int (vl_I f.z)), (0, .ref 196)]) (st' := [.int (vl_I f.z), .int (0 : Int32), .ref 196]) rfl Kz) ?_
                    obtain ⟨I171, L171, H171, T171, O171, F171⟩ := vq_setAny (I := I) (L := L) (R := R) (n := n) (sl := sl) 0 f.z hW hf (by omega) hz
                    refine jv_Wp.lift (fun _ Kz => jv_Ev.c jv_i295 (pc' := 269) (S' := []) (G1 := (jv_H K I171 L171 R)) jv_i274 [.ref 196, .int (0 : Int32), .int (vl_I f.z)] rfl rfl rfl rfl (jv_cal rfl (jv_H_at (jv_rwK hW 196 12 24 (by decide))) rfl rfl) rfl H171 rfl rfl Kz) ?_
                    refine jv_Wp.lift (fun _ Kz => jv_Ev.steps jv_i295 2 (pc' := 292) (l' := [(2, .int (vl_I w170)), (7, .int (1 : Int32)), (5, .long ((vl_I f.z).toInt64 - (1 : Int64))), (4, .int (vl_I (8 + (76800 + f.d)))), (3, .int (I 205 (76800 + f.d))), (1, .int (vl_I f.z)), (0, .ref 196)]) (st' := [.int (0 : Int32)]) rfl Kz) ?_
                    refine jv_Wp.of (jv_Ev.ret jv_i295 rfl rfl) ?_
                    rw [hQ]
                    have td0 : ¬ zd = 0 := fun z => h1 ((vr_isN (L := L) okd hd11).mp ((hd ()).trans z))
                    have td7 : zd = 7 := (hd ()).symm.trans ((vr_is (L := L) 7 (by decide) okd).mpr (Classical.not_not.mp h19))
                    have ts0 : ¬ zs = 0 := fun z => h73 ((vr_isN (L := L) oks hs11).mp ((hs ()).trans z))
                    have ts1 : ¬ zs = 1 := fun z => h79 ((vr_is (L := L) 1 (by decide) oks).mp ((hs ()).trans z))
                    have t00 : ¬ z0 = 0 := fun z => h85 ((vr_isN (L := L) ok0 (by decide)).mp ((h0 ()).trans z))
                    have t01 : ¬ z0 = 1 := fun z => h87 ((vr_is (L := L) 1 (by decide) ok0).mp ((h0 ()).trans z))
                    have nx1 : w170 ≤ 0 := (vl_I_le (a := w170) (b := 0) (by omega) (by omega)).mp h89
                    have ev : vx_even (vr_T I L (76800 + f.d)).val f.o f.z = true := by rw [vr_valv (by rw [(vr_is (L := L) 7 (by decide) okd).mp ((hd ()).trans (by omega))]; rfl), ← vr_dO D, vx_even_r hz]; exact (by rw [decide_eq_true (Classical.not_not.mp h37), decide_eq_true (Classical.not_not.mp h55)]; rfl)
                    have r7 := vx_r7' (M := M) (A := (vr_A I L 1024)) (o := f.o) (z := f.z) (w := true) ((hd ()).trans (show zd = 7 by omega))
                    rw [hrr ()] at r7
                    have e5 : vx_atp M f (vr_A I L 1024) = (0, vt_up (vr_A I L 1024) 0 (vt_num (vx_anyz f.z))) := by have q := vx_at5 (M := M) (f := f) (A := (vr_A I L 1024)) (by rw [eD, eS, e0, hd (), hs (), h0 ()]; omega) (by rw [eD, hd ()]; omega) (fun z => z.elim (fun z => by rw [eD, ev] at z; exact absurd z (by decide)) (fun z => by rw [eD, hrr ()] at z; omega)) (by rw [eS, e0, hs (), h0 ()]; omega) (by omega); rw [if_pos m241] at q; exact q
                    have u := vr_upA (I := I) (L := L) (k := 1024) (r := 0) (t := (vt_num (vx_anyz f.z))) (by omega) T171 O171 F171 (fun n hn e q => e (by omega)) oa
                    exact ⟨_, _, by rw [← eQ, e5]; rfl, fun _ => by rw [← eQ, e5]; exact u, vr_fr_P F171 (fun x z => by omega)⟩
                  · refine jv_Wp.lift (fun _ Kz => jv_Ev.steps jv_i295 1 (pc' := 252) (l' := [(2, .int (vl_I w170)), (7, .int (1 : Int32)), (5, .long ((vl_I f.z).toInt64 - (1 : Int64))), (4, .int (vl_I (8 + (76800 + f.d)))), (3, .int (I 205 (76800 + f.d))), (1, .int (vl_I f.z)), (0, .ref 196)]) (st' := [.int (vl_I w170)]) rfl Kz) ?_
                    refine jv_Wp.of (jv_Ev.ret jv_i295 rfl rfl) ?_
                    rw [hQ]
                    have td0 : ¬ zd = 0 := fun z => h1 ((vr_isN (L := L) okd hd11).mp ((hd ()).trans z))
                    have td7 : zd = 7 := (hd ()).symm.trans ((vr_is (L := L) 7 (by decide) okd).mpr (Classical.not_not.mp h19))
                    have ts0 : ¬ zs = 0 := fun z => h73 ((vr_isN (L := L) oks hs11).mp ((hs ()).trans z))
                    have ts1 : ¬ zs = 1 := fun z => h79 ((vr_is (L := L) 1 (by decide) oks).mp ((hs ()).trans z))
                    have t00 : ¬ z0 = 0 := fun z => h85 ((vr_isN (L := L) ok0 (by decide)).mp ((h0 ()).trans z))
                    have t01 : ¬ z0 = 1 := fun z => h87 ((vr_is (L := L) 1 (by decide) ok0).mp ((h0 ()).trans z))
                    have nx1 : ¬ w170 ≤ 0 := fun z => h89 ((vl_I_le (a := w170) (b := 0) (by omega) (by omega)).mpr z)
                    have ev : vx_even (vr_T I L (76800 + f.d)).val f.o f.z = true := by rw [vr_valv (by rw [(vr_is (L := L) 7 (by decide) okd).mp ((hd ()).trans (by omega))]; rfl), ← vr_dO D, vx_even_r hz]; exact (by rw [decide_eq_true (Classical.not_not.mp h37), decide_eq_true (Classical.not_not.mp h55)]; rfl)
                    have r7 := vx_r7' (M := M) (A := (vr_A I L 1024)) (o := f.o) (z := f.z) (w := true) ((hd ()).trans (show zd = 7 by omega))
                    rw [hrr ()] at r7
                    have e : vx_atp M f (vr_A I L 1024) = (w170, (vr_A I L 1024)) := by
                      by_cases c1 : zd = 0 ∨ zs = 0 ∨ (f.i = 241 ∧ z0 = 0)
                      · rw [show w170 = 1 by omega]; exact vx_at1 (by rw [eD, eS, e0, hd (), hs (), h0 ()]; omega)
                      · by_cases c2 : rr ≠ 0
                        · rw [show w170 = 4 by omega]; exact vx_at3 (by rw [eD, eS, e0, hd (), hs (), h0 ()]; omega) (by rw [eD, hd ()]; omega) (Or.inr (by rw [eD, hrr ()]; exact c2))
                        · rw [show w170 = 6 by omega]; exact vx_at4 (by rw [eD, eS, e0, hd (), hs (), h0 ()]; omega) (by rw [eD, hd ()]; omega) (fun z => z.elim (fun z => by rw [eD, ev] at z; exact absurd z (by decide)) (fun z => by rw [eD, hrr ()] at z; omega)) (by rw [eS, e0, hs (), h0 ()]; omega)
                    exact ⟨_, _, by rw [← eQ, e], fun z => by rw [← eQ, e] at z; exact absurd (show w170 = 0 from z) (by omega), vr_fr_refl hf⟩