/-! part c24: atomic instructions of the reference (gen/tc24.py) -/
theorem vx_r7' {M : vf_M} {A : vt_A} {t : vt_T} {o : Int} {z : Nat} {w : Bool} (h : t.sort = 7) : vx_reach M A t o z w = 0 ∨ vx_reach M A t o z w = 4 := by
  rw [vx_r7 h]; split
  · exact Or.inl rfl
  · exact Or.inr rfl
theorem vi_lowz {z : Nat} (hz : z = 1 ∨ z = 2 ∨ z = 4 ∨ z = 8) : (vl_I z).toInt64 - (1 : Int64) = (vl_I z - (1 : Int32)).toInt64 := by
  rcases hz with e | e | e | e <;> subst e <;> decide
theorem vb_notand (x l : BitVec 64) : (x &&& l = 0) ↔ (~~~x &&& l = l) := by
  constructor
  · intro h
    refine BitVec.eq_of_getLsbD_eq (fun i hi => ?_)
    have q := congrArg (fun y => BitVec.getLsbD y i) h
    have q : (x &&& l).getLsbD i = false := q.trans (by show (0#64).getLsbD i = false; rw [BitVec.getLsbD_zero])
    rw [BitVec.getLsbD_and] at q
    rw [BitVec.getLsbD_and, BitVec.getLsbD_not, decide_eq_true hi]
    cases a : x.getLsbD i <;> cases b : l.getLsbD i <;> first | rfl | (rw [a, b] at q; exact absurd q (by decide))
  · intro h
    refine BitVec.eq_of_getLsbD_eq (fun i hi => ?_)
    have q := congrArg (fun y => BitVec.getLsbD y i) h
    have q : (~~~x &&& l).getLsbD i = l.getLsbD i := q
    rw [BitVec.getLsbD_and, BitVec.getLsbD_not, decide_eq_true hi] at q
    rw [BitVec.getLsbD_and]
    show _ = (0#64).getLsbD i
    rw [BitVec.getLsbD_zero]
    cases a : x.getLsbD i <;> cases b : l.getLsbD i <;> first | rfl | (rw [a, b] at q; exact absurd q (by decide))
theorem vx_even_r {L : Nat → Nat → Int64} {x z : Nat} {o : Int32} (hz : z = 1 ∨ z = 2 ∨ z = 4 ∨ z = 8) : vx_even (vb_toS (vr_S L x)) o.toInt z = (decide (((L 210 x) &&& ((vl_I z).toInt64 - (1 : Int64))) = (0 : Int64)) && decide (((L 209 x + o.toInt64) &&& ((vl_I z).toInt64 - (1 : Int64))) = (0 : Int64))) := by
  unfold vx_even
  rw [vi_lowz hz]
  have e1 : ((L 210 x) &&& (vl_I z - (1 : Int32)).toInt64 = (0 : Int64)) ↔ (vb_toS (vr_S L x)).mask &&& BitVec.ofNat 64 (z - 1) = BitVec.ofNat 64 (z - 1) := by
    rw [← Int64.toBitVec_inj, Int64.toBitVec_and, vi_low hz]
    exact vb_notand _ _
  rw [decide_eq_decide.mpr e1, decide_eq_decide.mpr (vi_e2 hz (L 209 x) o)]
  rfl
set_option maxRecDepth 100000 in
theorem vi_mod2 : ∀ c : Fin 256, vl_I c.val - vl_I c.val / (2 : Int32) * (2 : Int32) = vl_I (c.val % 2) := by decide +kernel
theorem vi_odd2 {i : Int} (h : 0 ≤ i ∧ i < 256) : (Int32.ofInt i - Int32.ofInt i / (2 : Int32) * (2 : Int32) = (1 : Int32)) ↔ i % 2 = 1 := by
  have e : Int32.ofInt i = vl_I i.toNat := by
    refine Int32.toInt_inj.mp ?_
    rw [show (vl_I i.toNat).toInt = (i.toNat : Int) from vl_I_int (by omega), Int32.toInt_ofInt, vi_bm32 (by omega) (by omega)]; omega
  rw [e, vi_mod2 ⟨i.toNat, by omega⟩]
  refine (vl_I_inj (b := 1) (by show i.toNat % 2 < _; omega) (by decide)).trans ?_
  show i.toNat % 2 = 1 ↔ _
  omega
theorem jv_i295 : jv_I 295 8 (some .int) 8 230 jv_c295 := ⟨rfl, rfl, rfl, rfl, rfl⟩
theorem vq_atomicNG {K : Nat → Option (Nat × Nat)} {I : Nat → Nat → Int32} {L : Nat → Nat → Int64} {R : Nat → Nat → Value} (M : vf_M) (f : vf_F) (hW : jv_rW K R) (hf : vr_fl I) (hM : vr_M I M) (D : vr_dec I f) (hi : 0 ≤ f.i ∧ f.i < 256) (m241 : ¬ f.i = 241) (oa : vr_okA I 1024) (gA : ∀ n, n < 75 → vt_g (vr_T I L (76800 + n))) (hd11 : f.d < 11) (hs11 : f.s < 11) (gD : (vr_T I L (76800 + f.d)).sort ≠ 0) (gS : (vr_T I L (76800 + f.s)).sort ≠ 0) {n sl : Nat} : ∃ I1 L1, jv_Ms 295 [.ref 196] (jv_H K I L R) n sl (some (.int (vl_I (vx_atomic M f (vr_A I L 1024)).1)), jv_H K I1 L1 R, n, sl) ∧ ((vx_atomic M f (vr_A I L 1024)).1 = 0 → vr_A I1 L1 1024 = (vx_atomic M f (vr_A I L 1024)).2 ∧ vr_okA I1 1024) ∧ vr_fr (fun x => x = 76800 ∨ x = 76800 + f.s) noE I L I1 L1 := by
  obtain ⟨Q, hQ⟩ : ∃ Q : jv_R → Prop, Q = fun X => ∃ I1 L1, X = (some (.int (vl_I (vx_atomic M f (vr_A I L 1024)).1)), jv_H K I1 L1 R, n, sl) ∧ ((vx_atomic M f (vr_A I L 1024)).1 = 0 → vr_A I1 L1 1024 = (vx_atomic M f (vr_A I L 1024)).2 ∧ vr_okA I1 1024) ∧ vr_fr (fun x => x = 76800 ∨ x = 76800 + f.s) noE I L I1 L1 := ⟨_, rfl⟩
  suffices h : jv_Wp 295 0 [(0, .ref 196)] [] (jv_H K I L R) n sl Q by
    rw [hQ] at h
    obtain ⟨X, h, I1, L1, e, h'⟩ := h
    subst e
    exact ⟨I1, L1, h, h'⟩
  have hz := vf_z f
  have h241 : ¬ Int32.ofInt f.i = (241 : Int32) := fun z => m241 (by rw [← vr_dQ D, z]; rfl)
  have okd : vr_ok I (76800 + f.d) f.d := oa f.d (by omega)
  have eD : (vr_A I L 1024).1 f.d = (vr_T I L (76800 + f.d)) := vr_A1 (by omega)
  obtain ⟨zd, hd⟩ : ∃ x : Nat, ∀ _ : Unit, (vr_T I L (76800 + f.d)).sort = x := ⟨_, fun _ => rfl⟩
  obtain ⟨rd, hrd⟩ : ∃ x : Nat, ∀ _ : Unit, vr_rd (I 205 (76800 + f.d)) = x := ⟨_, fun _ => rfl⟩
  have rdfd : (zd = 0 → rd = 1) ∧ (zd ≠ 0 → rd = 0) := by rw [← hd (), ← hrd ()]; exact vr_rd_f okd hd11
  have oks : vr_ok I (76800 + f.s) f.s := oa f.s (by omega)
  have eS : (vr_A I L 1024).1 f.s = (vr_T I L (76800 + f.s)) := vr_A1 (by omega)
  obtain ⟨zs, hs⟩ : ∃ x : Nat, ∀ _ : Unit, (vr_T I L (76800 + f.s)).sort = x := ⟨_, fun _ => rfl⟩
  obtain ⟨rs, hrs⟩ : ∃ x : Nat, ∀ _ : Unit, vr_rd (I 205 (76800 + f.s)) = x := ⟨_, fun _ => rfl⟩
  have rdfs : (zs = 0 → rs = 1) ∧ (zs ≠ 0 → rs = 0) := by rw [← hs (), ← hrs ()]; exact vr_rd_f oks hs11
  have ok0 : vr_ok I (76800 + 0) 0 := oa 0 (by omega)
  have e0 : (vr_A I L 1024).1 0 = (vr_T I L (76800 + 0)) := vr_A1 (by omega)
  obtain ⟨z0, h0⟩ : ∃ x : Nat, ∀ _ : Unit, (vr_T I L (76800 + 0)).sort = x := ⟨_, fun _ => rfl⟩
  obtain ⟨r0, hr0⟩ : ∃ x : Nat, ∀ _ : Unit, vr_rd (I 205 (76800 + 0)) = x := ⟨_, fun _ => rfl⟩
  have rdf0 : (z0 = 0 → r0 = 1) ∧ (z0 ≠ 0 → r0 = 0) := by rw [← h0 (), ← hr0 ()]; exact vr_rd_f ok0 (by decide)
  obtain ⟨kd, k8, hkd⟩ := vr_kdx (L := L) okd (gA f.d (by omega))
  obtain ⟨bd, hbd⟩ : ∃ x : Nat, ∀ _ : Unit, vr_re M (vr_A I L 1024) (vr_T I L (76800 + f.d)) f.o f.z true = x := ⟨_, fun _ => rfl⟩
  have bd5 : bd < 5 := by rw [← hbd ()]; exact vr_re_lt
  obtain ⟨rr, hrr⟩ : ∃ x : Nat, ∀ _ : Unit, vx_reach M (vr_A I L 1024) (vr_T I L (76800 + f.d)) f.o f.z true = x := ⟨_, fun _ => rfl⟩
  have rr5 : rr < 5 := by rw [← hrr ()]; exact vx_reach_lt
  have bdf := vr_re_f (hbd ()) (hd ()) (hrr ())
  have eQ : vx_atp M f (vr_A I L 1024) = vx_atomic M f (vr_A I L 1024) := (vx_atp_eq M f (vr_A I L 1024)).symm
  have gd : zd ≠ 0 := fun z => gD ((hd ()).trans z)
  have gs : zs ≠ 0 := fun z => gS ((hs ()).trans z)
  refine jv_Wp.lift (fun _ Kz => jv_Ev.steps jv_i295 1 (pc' := 1) (l' := [(0, .ref 196)]) (st' := [.ref 196]) rfl Kz) ?_
  refine jv_Wp.lift (fun _ Kz => jv_Ev.c jv_i295 (pc' := 4) (S' := [.int (vl_I f.z)]) jv_i260 [.ref 196] rfl rfl rfl rfl (jv_cal rfl (jv_H_at (jv_rwK hW 196 12 24 (by decide))) rfl rfl) rfl (vq_size f hW D) rfl rfl Kz) ?_
  refine jv_Wp.lift (fun _ Kz => jv_Ev.steps jv_i295 3 (pc' := 7) (l' := [(1, .int (vl_I f.z)), (0, .ref 196)]) (st' := [.ref 196, .ref 196]) rfl Kz) ?_
  refine jv_Wp.lift (fun _ Kz => jv_Ev.m jv_i295 (pc' := 10) (st' := [.int (vl_I f.d), .ref 196]) (G' := (jv_H K I L R)) rfl rfl (jv_m_getI (jv_rwK hW 196 12 24 (by decide)) rfl rfl D.2.1) Kz) ?_
  have Hr1 := vq_reads (I := I) (L := L) (K := K) (R := R) (n := n) (sl := sl) f.d hW (by omega)
  rw [hrd (), rdfd.2 gd] at Hr1
  refine jv_Wp.lift (fun _ Kz => jv_Ev.c jv_i295 (pc' := 13) (S' := [.int (0 : Int32)]) jv_i283 [.ref 196, .int (vl_I f.d)] rfl rfl rfl rfl (jv_cal rfl (jv_H_at (jv_rwK hW 196 12 24 (by decide))) rfl rfl) rfl Hr1 rfl rfl Kz) ?_
  refine jv_Wp.lift (fun _ Kz => jv_Ev.steps jv_i295 2 (pc' := 15) (l' := [(1, .int (vl_I f.z)), (0, .ref 196)]) (st' := [.ref 196, .ref 196, .int (0 : Int32)]) rfl Kz) ?_
  refine jv_Wp.lift (fun _ Kz => jv_Ev.m jv_i295 (pc' := 18) (st' := [.int (vl_I f.s), .ref 196, .int (0 : Int32)]) (G' := (jv_H K I L R)) rfl rfl (jv_m_getI (jv_rwK hW 196 12 24 (by decide)) rfl rfl D.2.2.1) Kz) ?_
  have Hr2 := vq_reads (I := I) (L := L) (K := K) (R := R) (n := n) (sl := sl) f.s hW (by omega)
  rw [hrs (), rdfs.2 gs] at Hr2
  refine jv_Wp.lift (fun _ Kz => jv_Ev.c jv_i295 (pc' := 21) (S' := [.int (0 : Int32), .int (0 : Int32)]) jv_i283 [.ref 196, .int (vl_I f.s)] rfl rfl rfl rfl (jv_cal rfl (jv_H_at (jv_rwK hW 196 12 24 (by decide))) rfl rfl) rfl Hr2 rfl rfl Kz) ?_
  have Hf3 := vq_first (I := I) (L := L) (K := K) (R := R) (n := n) (sl := sl) 0 0 (by omega) (by omega)
  rw [show vx_fst 0 0 = 0 from by decide] at Hf3
  refine jv_Wp.lift (fun _ Kz => jv_Ev.c jv_i295 (pc' := 24) (S' := [.int (0 : Int32)]) jv_i282 [.int (0 : Int32), .int (0 : Int32)] rfl rfl rfl rfl rfl rfl Hf3 rfl rfl Kz) ?_
  refine jv_Wp.lift (fun _ Kz => jv_Ev.steps jv_i295 3 (pc' := 27) (l' := [(2, .int (0 : Int32)), (1, .int (vl_I f.z)), (0, .ref 196)]) (st' := [.ref 196, .int (0 : Int32)]) rfl Kz) ?_
  refine jv_Wp.lift (fun _ Kz => jv_Ev.m jv_i295 (pc' := 30) (st' := [.int (Int32.ofInt f.i), .int (0 : Int32)]) (G' := (jv_H K I L R)) rfl rfl (jv_m_getI (jv_rwK hW 196 12 24 (by decide)) rfl rfl (vr_dJ D)) Kz) ?_
  refine jv_Wp.lift (fun _ Kz => jv_Ev.steps jv_i295 1 (pc' := 33) (l' := [(2, .int (0 : Int32)), (1, .int (vl_I f.z)), (0, .ref 196)]) (st' := [.int (241 : Int32), .int (Int32.ofInt f.i), .int (0 : Int32)]) rfl Kz) ?_
  refine jv_Wp.cnd jv_i295 (pt := 44) (pe := 36) (p := (¬ (Int32.ofInt f.i) = (241 : Int32))) (q := (¬ (Int32.ofInt f.i) = (241 : Int32))) rfl jv_bc_ne rfl rfl Iff.rfl (fun _ => ?_) (fun hz => absurd h241 hz)
  refine jv_Wp.lift (fun _ Kz => jv_Ev.steps jv_i295 1 (pc' := 45) (l' := [(2, .int (0 : Int32)), (1, .int (vl_I f.z)), (0, .ref 196)]) (st' := [.int (0 : Int32), .int (0 : Int32)]) rfl Kz) ?_
  have Hf4 := vq_first (I := I) (L := L) (K := K) (R := R) (n := n) (sl := sl) 0 0 (by omega) (by omega)
  rw [show vx_fst 0 0 = 0 from by decide] at Hf4
  refine jv_Wp.lift (fun _ Kz => jv_Ev.c jv_i295 (pc' := 48) (S' := [.int (0 : Int32)]) jv_i282 [.int (0 : Int32), .int (0 : Int32)] rfl rfl rfl rfl rfl rfl Hf4 rfl rfl Kz) ?_
  refine jv_Wp.lift (fun _ Kz => jv_Ev.steps jv_i295 3 (pc' := 51) (l' := [(2, .int (0 : Int32)), (1, .int (vl_I f.z)), (0, .ref 196)]) (st' := [.ref 196, .ref 196]) rfl Kz) ?_
  refine jv_Wp.lift (fun _ Kz => jv_Ev.m jv_i295 (pc' := 54) (st' := [.int (vl_I f.d), .ref 196]) (G' := (jv_H K I L R)) rfl rfl (jv_m_getI (jv_rwK hW 196 12 24 (by decide)) rfl rfl D.2.1) Kz) ?_
  refine jv_Wp.lift (fun _ Kz => jv_Ev.c jv_i295 (pc' := 57) (S' := [.int (I 205 (76800 + f.d))]) jv_i271 [.ref 196, .int (vl_I f.d)] rfl rfl rfl rfl (jv_cal rfl (jv_H_at (jv_rwK hW 196 12 24 (by decide))) rfl rfl) rfl (vq_sortOf f.d hW (by omega)) rfl rfl Kz) ?_
  refine jv_Wp.lift (fun _ Kz => jv_Ev.steps jv_i295 3 (pc' := 60) (l' := [(3, .int (I 205 (76800 + f.d))), (2, .int (0 : Int32)), (1, .int (vl_I f.z)), (0, .ref 196)]) (st' := [.int (I 205 (76800 + f.d)), .int (0 : Int32)]) rfl Kz) ?_
  refine jv_Wp.cnd jv_i295 (pt := 69) (pe := 63) (p := ((I 205 (76800 + f.d)) = 0)) (q := ((I 205 (76800 + f.d)) = 0)) rfl jv_bi_eq rfl rfl Iff.rfl (fun hz => absurd hz (fun z => gd ((hd ()).symm.trans ((vr_isN (L := L) okd hd11).mpr z)))) (fun _ => ?_)
  refine jv_Wp.lift (fun _ Kz => jv_Ev.steps jv_i295 2 (pc' := 66) (l' := [(3, .int (I 205 (76800 + f.d))), (2, .int (0 : Int32)), (1, .int (vl_I f.z)), (0, .ref 196)]) (st' := [.int (7 : Int32), .int (I 205 (76800 + f.d)), .int (0 : Int32)]) rfl Kz) ?_
  refine jv_Wp.cnd jv_i295 (pt := 73) (pe := 69) (p := (¬ (I 205 (76800 + f.d)) = (7 : Int32))) (q := (¬ (I 205 (76800 + f.d)) = (7 : Int32))) rfl jv_bc_ne rfl rfl Iff.rfl (fun h1 => ?_) (fun h1 => ?_)
  · refine jv_Wp.lift (fun _ Kz => jv_Ev.steps jv_i295 1 (pc' := 74) (l' := [(3, .int (I 205 (76800 + f.d))), (2, .int (0 : Int32)), (1, .int (vl_I f.z)), (0, .ref 196)]) (st' := [.int (3 : Int32), .int (0 : Int32)]) rfl Kz) ?_
    have Hf5 := vq_first (I := I) (L := L) (K := K) (R := R) (n := n) (sl := sl) 0 3 (by omega) (by omega)
    rw [show vx_fst 0 3 = 3 from by decide] at Hf5
    refine jv_Wp.lift (fun _ Kz => jv_Ev.c jv_i295 (pc' := 77) (S' := [.int (3 : Int32)]) jv_i282 [.int (0 : Int32), .int (3 : Int32)] rfl rfl rfl rfl rfl rfl Hf5 rfl rfl Kz) ?_
    refine jv_Wp.lift (fun _ Kz => jv_Ev.steps jv_i295 3 (pc' := 81) (l' := [(2, .int (3 : Int32)), (3, .int (I 205 (76800 + f.d))), (1, .int (vl_I f.z)), (0, .ref 196)]) (st' := [.int (7 : Int32), .int (I 205 (76800 + f.d))]) rfl Kz) ?_
    refine jv_Wp.cnd jv_i295 (pt := 175) (pe := 84) (p := (¬ (I 205 (76800 + f.d)) = (7 : Int32))) (q := (¬ (I 205 (76800 + f.d)) = (7 : Int32))) rfl jv_bc_ne rfl rfl Iff.rfl (fun _ => ?_) (fun hz => absurd h1 hz)
    refine jv_Wp.lift (fun _ Kz => jv_Ev.steps jv_i295 3 (pc' := 178) (l' := [(2, .int (3 : Int32)), (3, .int (I 205 (76800 + f.d))), (1, .int (vl_I f.z)), (0, .ref 196)]) (st' := [.ref 196, .ref 196, .int (3 : Int32)]) rfl Kz) ?_
    refine jv_Wp.lift (fun _ Kz => jv_Ev.m jv_i295 (pc' := 181) (st' := [.int (vl_I f.s), .ref 196, .int (3 : Int32)]) (G' := (jv_H K I L R)) rfl rfl (jv_m_getI (jv_rwK hW 196 12 24 (by decide)) rfl rfl D.2.2.1) Kz) ?_
    refine jv_Wp.lift (fun _ Kz => jv_Ev.c jv_i295 (pc' := 184) (S' := [.int (I 205 (76800 + f.s)), .int (3 : Int32)]) jv_i271 [.ref 196, .int (vl_I f.s)] rfl rfl rfl rfl (jv_cal rfl (jv_H_at (jv_rwK hW 196 12 24 (by decide))) rfl rfl) rfl (vq_sortOf f.s hW (by omega)) rfl rfl Kz) ?_
    refine jv_Wp.cnd jv_i295 (pt := 204) (pe := 187) (p := ((I 205 (76800 + f.s)) = 0)) (q := ((I 205 (76800 + f.s)) = 0)) rfl jv_bi_eq rfl rfl Iff.rfl (fun hz => absurd hz (fun z => gs ((hs ()).symm.trans ((vr_isN (L := L) oks hs11).mpr z)))) (fun _ => ?_)
    refine jv_Wp.lift (fun _ Kz => jv_Ev.steps jv_i295 2 (pc' := 189) (l' := [(2, .int (3 : Int32)), (3, .int (I 205 (76800 + f.d))), (1, .int (vl_I f.z)), (0, .ref 196)]) (st' := [.ref 196, .ref 196, .int (3 : Int32)]) rfl Kz) ?_
    refine jv_Wp.lift (fun _ Kz => jv_Ev.m jv_i295 (pc' := 192) (st' := [.int (vl_I f.s), .ref 196, .int (3 : Int32)]) (G' := (jv_H K I L R)) rfl rfl (jv_m_getI (jv_rwK hW 196 12 24 (by decide)) rfl rfl D.2.2.1) Kz) ?_
    refine jv_Wp.lift (fun _ Kz => jv_Ev.c jv_i295 (pc' := 195) (S' := [.int (I 205 (76800 + f.s)), .int (3 : Int32)]) jv_i271 [.ref 196, .int (vl_I f.s)] rfl rfl rfl rfl (jv_cal rfl (jv_H_at (jv_rwK hW 196 12 24 (by decide))) rfl rfl) rfl (vq_sortOf f.s hW (by omega)) rfl rfl Kz) ?_
    refine jv_Wp.lift (fun _ Kz => jv_Ev.steps jv_i295 1 (pc' := 196) (l' := [(2, .int (3 : Int32)), (3, .int (I 205 (76800 + f.d))), (1, .int (vl_I f.z)), (0, .ref 196)]) (st' := [.int (1 : Int32), .int (I 205 (76800 + f.s)), .int (3 : Int32)]) rfl Kz) ?_
    refine jv_Wp.cnd jv_i295 (pt := 204) (pe := 199) (p := ((I 205 (76800 + f.s)) = (1 : Int32))) (q := ((I 205 (76800 + f.s)) = (1 : Int32))) rfl jv_bc_eq rfl rfl Iff.rfl (fun h2 => ?_) (fun h2 => ?_)
    · refine jv_Wp.lift (fun _ Kz => jv_Ev.steps jv_i295 1 (pc' := 205) (l' := [(2, .int (3 : Int32)), (3, .int (I 205 (76800 + f.d))), (1, .int (vl_I f.z)), (0, .ref 196)]) (st' := [.int (0 : Int32), .int (3 : Int32)]) rfl Kz) ?_
      have Hf6 := vq_first (I := I) (L := L) (K := K) (R := R) (n := n) (sl := sl) 3 0 (by omega) (by omega)
      rw [show vx_fst 3 0 = 3 from by decide] at Hf6
      refine jv_Wp.lift (fun _ Kz => jv_Ev.c jv_i295 (pc' := 208) (S' := [.int (3 : Int32)]) jv_i282 [.int (3 : Int32), .int (0 : Int32)] rfl rfl rfl rfl rfl rfl Hf6 rfl rfl Kz) ?_
      refine jv_Wp.lift (fun _ Kz => jv_Ev.steps jv_i295 3 (pc' := 211) (l' := [(2, .int (3 : Int32)), (3, .int (I 205 (76800 + f.d))), (1, .int (vl_I f.z)), (0, .ref 196)]) (st' := [.ref 196, .int (3 : Int32)]) rfl Kz) ?_
      refine jv_Wp.lift (fun _ Kz => jv_Ev.m jv_i295 (pc' := 214) (st' := [.int (Int32.ofInt f.i), .int (3 : Int32)]) (G' := (jv_H K I L R)) rfl rfl (jv_m_getI (jv_rwK hW 196 12 24 (by decide)) rfl rfl (vr_dJ D)) Kz) ?_
      refine jv_Wp.lift (fun _ Kz => jv_Ev.steps jv_i295 1 (pc' := 217) (l' := [(2, .int (3 : Int32)), (3, .int (I 205 (76800 + f.d))), (1, .int (vl_I f.z)), (0, .ref 196)]) (st' := [.int (241 : Int32), .int (Int32.ofInt f.i), .int (3 : Int32)]) rfl Kz) ?_
      refine jv_Wp.cnd jv_i295 (pt := 242) (pe := 220) (p := (¬ (Int32.ofInt f.i) = (241 : Int32))) (q := (¬ (Int32.ofInt f.i) = (241 : Int32))) rfl jv_bc_ne rfl rfl Iff.rfl (fun _ => ?_) (fun hz => absurd h241 hz)
      refine jv_Wp.lift (fun _ Kz => jv_Ev.steps jv_i295 1 (pc' := 243) (l' := [(2, .int (3 : Int32)), (3, .int (I 205 (76800 + f.d))), (1, .int (vl_I f.z)), (0, .ref 196)]) (st' := [.int (0 : Int32), .int (3 : Int32)]) rfl Kz) ?_
      have Hf7 := vq_first (I := I) (L := L) (K := K) (R := R) (n := n) (sl := sl) 3 0 (by omega) (by omega)
      rw [show vx_fst 3 0 = 3 from by decide] at Hf7
      refine jv_Wp.lift (fun _ Kz => jv_Ev.c jv_i295 (pc' := 246) (S' := [.int (3 : Int32)]) jv_i282 [.int (3 : Int32), .int (0 : Int32)] rfl rfl rfl rfl rfl rfl Hf7 rfl rfl Kz) ?_
      refine jv_Wp.lift (fun _ Kz => jv_Ev.steps jv_i295 2 (pc' := 248) (l' := [(2, .int (3 : Int32)), (3, .int (I 205 (76800 + f.d))), (1, .int (vl_I f.z)), (0, .ref 196)]) (st' := [.int (3 : Int32)]) rfl Kz) ?_
      refine jv_Wp.lift (fun _ Kz => jv_Ev.br jv_i295 (pc' := 251) (st' := []) rfl (by rfl) Kz) ?_
      refine jv_Wp.lift (fun _ Kz => jv_Ev.steps jv_i295 1 (pc' := 252) (l' := [(2, .int (3 : Int32)), (3, .int (I 205 (76800 + f.d))), (1, .int (vl_I f.z)), (0, .ref 196)]) (st' := [.int (3 : Int32)]) rfl Kz) ?_
      refine jv_Wp.of (jv_Ev.ret jv_i295 rfl rfl) ?_
      rw [hQ]
      have td7 : ¬ zd = 7 := fun z => h1 ((vr_is (L := L) 7 (by decide) okd).mp ((hd ()).trans z))
      have ts1 : zs = 1 := (hs ()).symm.trans ((vr_is (L := L) 1 (by decide) oks).mpr h2)
      have e : vx_atp M f (vr_A I L 1024) = (3, (vr_A I L 1024)) := by
        exact vx_at2 (by rw [eD, eS, e0, hd (), hs (), h0 ()]; omega) (by rw [eD, hd ()]; omega)
      exact ⟨_, _, by rw [← eQ, e]; rfl, fun z => by rw [← eQ, e] at z; exact absurd (show (3 : Nat) = 0 from z) (by omega), vr_fr_refl hf⟩
    · refine jv_Wp.lift (fun _ Kz => jv_Ev.steps jv_i295 2 (pc' := 205) (l' := [(2, .int (3 : Int32)), (3, .int (I 205 (76800 + f.d))), (1, .int (vl_I f.z)), (0, .ref 196)]) (st' := [.int (6 : Int32), .int (3 : Int32)]) rfl Kz) ?_
      have Hf8 := vq_first (I := I) (L := L) (K := K) (R := R) (n := n) (sl := sl) 3 6 (by omega) (by omega)
      rw [show vx_fst 3 6 = 3 from by decide] at Hf8
      refine jv_Wp.lift (fun _ Kz => jv_Ev.c jv_i295 (pc' := 208) (S' := [.int (3 : Int32)]) jv_i282 [.int (3 : Int32), .int (6 : Int32)] rfl rfl rfl rfl rfl rfl Hf8 rfl rfl Kz) ?_
      refine jv_Wp.lift (fun _ Kz => jv_Ev.steps jv_i295 3 (pc' := 211) (l' := [(2, .int (3 : Int32)), (3, .int (I 205 (76800 + f.d))), (1, .int (vl_I f.z)), (0, .ref 196)]) (st' := [.ref 196, .int (3 : Int32)]) rfl Kz) ?_
      refine jv_Wp.lift (fun _ Kz => jv_Ev.m jv_i295 (pc' := 214) (st' := [.int (Int32.ofInt f.i), .int (3 : Int32)]) (G' := (jv_H K I L R)) rfl rfl (jv_m_getI (jv_rwK hW 196 12 24 (by decide)) rfl rfl (vr_dJ D)) Kz) ?_
      refine jv_Wp.lift (fun _ Kz => jv_Ev.steps jv_i295 1 (pc' := 217) (l' := [(2, .int (3 : Int32)), (3, .int (I 205 (76800 + f.d))), (1, .int (vl_I f.z)), (0, .ref 196)]) (st' := [.int (241 : Int32), .int (Int32.ofInt f.i), .int (3 : Int32)]) rfl Kz) ?_
      refine jv_Wp.cnd jv_i295 (pt := 242) (pe := 220) (p := (¬ (Int32.ofInt f.i) = (241 : Int32))) (q := (¬ (Int32.ofInt f.i) = (241 : Int32))) rfl jv_bc_ne rfl rfl Iff.rfl (fun _ => ?_) (fun hz => absurd h241 hz)
      refine jv_Wp.lift (fun _ Kz => jv_Ev.steps jv_i295 1 (pc' := 243) (l' := [(2, .int (3 : Int32)), (3, .int (I 205 (76800 + f.d))), (1, .int (vl_I f.z)), (0, .ref 196)]) (st' := [.int (0 : Int32), .int (3 : Int32)]) rfl Kz) ?_
      have Hf9 := vq_first (I := I) (L := L) (K := K) (R := R) (n := n) (sl := sl) 3 0 (by omega) (by omega)
      rw [show vx_fst 3 0 = 3 from by decide] at Hf9
      refine jv_Wp.lift (fun _ Kz => jv_Ev.c jv_i295 (pc' := 246) (S' := [.int (3 : Int32)]) jv_i282 [.int (3 : Int32), .int (0 : Int32)] rfl rfl rfl rfl rfl rfl Hf9 rfl rfl Kz) ?_
      refine jv_Wp.lift (fun _ Kz => jv_Ev.steps jv_i295 2 (pc' := 248) (l' := [(2, .int (3 : Int32)), (3, .int (I 205 (76800 + f.d))), (1, .int (vl_I f.z)), (0, .ref 196)]) (st' := [.int (3 : Int32)]) rfl Kz) ?_
      refine jv_Wp.lift (fun _ Kz => jv_Ev.br jv_i295 (pc' := 251) (st' := []) rfl (by rfl) Kz) ?_
      refine jv_Wp.lift (fun _ Kz => jv_Ev.steps jv_i295 1 (pc' := 252) (l' := [(2, .int (3 : Int32)), (3, .int (I 205 (76800 + f.d))), (1, .int (vl_I f.z)), (0, .ref 196)]) (st' := [.int (3 : Int32)]) rfl Kz) ?_
      refine jv_Wp.of (jv_Ev.ret jv_i295 rfl rfl) ?_
      rw [hQ]
      have td7 : ¬ zd = 7 := fun z => h1 ((vr_is (L := L) 7 (by decide) okd).mp ((hd ()).trans z))
      have ts1 : ¬ zs = 1 := fun z => h2 ((vr_is (L := L) 1 (by decide) oks).mp ((hs ()).trans z))
      have e : vx_atp M f (vr_A I L 1024) = (3, (vr_A I L 1024)) := by
        exact vx_at2 (by rw [eD, eS, e0, hd (), hs (), h0 ()]; omega) (by rw [eD, hd ()]; omega)
      exact ⟨_, _, by rw [← eQ, e]; rfl, fun z => by rw [← eQ, e] at z; exact absurd (show (3 : Nat) = 0 from z) (by omega), vr_fr_refl hf⟩
  · refine jv_Wp.lift (fun _ Kz => jv_Ev.steps jv_i295 2 (pc' := 74) (l' := [(3, .int (I 205 (76800 + f.d))), (2, .int (0 : Int32)), (1, .int (vl_I f.z)), (0, .ref 196)]) (st' := [.int (0 : Int32), .int (0 : Int32)]) rfl Kz) ?_
    have Hf10 := vq_first (I := I) (L := L) (K := K) (R := R) (n := n) (sl := sl) 0 0 (by omega) (by omega)
    rw [show vx_fst 0 0 = 0 from by decide] at Hf10
    refine jv_Wp.lift (fun _ Kz => jv_Ev.c jv_i295 (pc' := 77) (S' := [.int (0 : Int32)]) jv_i282 [.int (0 : Int32), .int (0 : Int32)] rfl rfl rfl rfl rfl rfl Hf10 rfl rfl Kz) ?_
    refine jv_Wp.lift (fun _ Kz => jv_Ev.steps jv_i295 3 (pc' := 81) (l' := [(2, .int (0 : Int32)), (3, .int (I 205 (76800 + f.d))), (1, .int (vl_I f.z)), (0, .ref 196)]) (st' := [.int (7 : Int32), .int (I 205 (76800 + f.d))]) rfl Kz) ?_
    refine jv_Wp.cnd jv_i295 (pt := 175) (pe := 84) (p := (¬ (I 205 (76800 + f.d)) = (7 : Int32))) (q := (¬ (I 205 (76800 + f.d)) = (7 : Int32))) rfl jv_bc_ne rfl rfl Iff.rfl (fun hz => absurd hz (fun z => z (Classical.not_not.mp h1))) (fun _ => ?_)
    refine jv_Wp.lift (fun _ Kz => jv_Ev.steps jv_i295 2 (pc' := 88) (l' := [(2, .int (0 : Int32)), (3, .int (I 205 (76800 + f.d))), (1, .int (vl_I f.z)), (0, .ref 196)]) (st' := [.ref 196, .int (1024 : Int32)]) rfl Kz) ?_
    refine jv_Wp.lift (fun _ Kz => jv_Ev.m jv_i295 (pc' := 91) (st' := [.int (vl_I f.d), .int (1024 : Int32)]) (G' := (jv_H K I L R)) rfl rfl (jv_m_getI (jv_rwK hW 196 12 24 (by decide)) rfl rfl D.2.1) Kz) ?_
    refine jv_Wp.lift (fun _ Kz => jv_Ev.c jv_i295 (pc' := 94) (S' := [.int (vl_I (8 + (76800 + f.d)))]) jv_i254 [.int (1024 : Int32), .int (vl_I f.d)] rfl rfl rfl rfl rfl rfl (vq_row 1024 f.d) rfl rfl Kz) ?_
    refine jv_Wp.lift (fun _ Kz => jv_Ev.steps jv_i295 7 (pc' := 103) (l' := [(5, .long ((vl_I f.z).toInt64 - (1 : Int64))), (4, .int (vl_I (8 + (76800 + f.d)))), (2, .int (0 : Int32)), (3, .int (I 205 (76800 + f.d))), (1, .int (vl_I f.z)), (0, .ref 196)]) (st' := [.ref 196]) rfl Kz) ?_
    refine jv_Wp.lift (fun _ Kz => jv_Ev.m jv_i295 (pc' := 106) (st' := [.ref 208]) (G' := (jv_H K I L R)) rfl rfl (jv_m_getR (jv_rwK hW 196 12 24 (by decide)) rfl rfl (jv_rwR hW 196 16 208 (by decide))) Kz) ?_
    refine jv_Wp.lift (fun _ Kz => jv_Ev.m jv_i295 (pc' := 109) (st' := [.ref 210]) (G' := (jv_H K I L R)) rfl rfl (jv_m_getR (jv_rwK hW 208 11 7 (by decide)) rfl rfl (jv_rwR hW 208 1 210 (by decide))) Kz) ?_
    refine jv_Wp.lift (fun _ Kz => jv_Ev.steps jv_i295 1 (pc' := 111) (l' := [(5, .long ((vl_I f.z).toInt64 - (1 : Int64))), (4, .int (vl_I (8 + (76800 + f.d)))), (2, .int (0 : Int32)), (3, .int (I 205 (76800 + f.d))), (1, .int (vl_I f.z)), (0, .ref 196)]) (st' := [.int (vl_I (8 + (76800 + f.d))), .ref 210]) rfl Kz) ?_
    refine jv_Wp.lift (fun _ Kz => jv_Ev.m jv_i295 (pc' := 112) (st' := [.long (L 210 (8 + (76800 + f.d)))]) (G' := (jv_H K I L R)) rfl rfl (jv_m_laldv (jv_rwK hW 210 103 77200 (by decide)) rfl (vl_I_ix (by omega) (by decide)) rfl ((congrArg (L 210) (vl_I_nat (by omega))).trans rfl)) Kz) ?_
    refine jv_Wp.lift (fun _ Kz => jv_Ev.steps jv_i295 4 (pc' := 117) (l' := [(5, .long ((vl_I f.z).toInt64 - (1 : Int64))), (4, .int (vl_I (8 + (76800 + f.d)))), (2, .int (0 : Int32)), (3, .int (I 205 (76800 + f.d))), (1, .int (vl_I f.z)), (0, .ref 196)]) (st' := [.int (lg_cmp ((L 210 (8 + (76800 + f.d))) &&& ((vl_I f.z).toInt64 - (1 : Int64))) (0 : Int64))]) rfl Kz) ?_
    refine jv_Wp.cnd jv_i295 (pt := 148) (pe := 120) (p := (¬ (lg_cmp ((L 210 (8 + (76800 + f.d))) &&& ((vl_I f.z).toInt64 - (1 : Int64))) (0 : Int64)) = 0)) (q := (¬ ((L 210 (8 + (76800 + f.d))) &&& ((vl_I f.z).toInt64 - (1 : Int64))) = (0 : Int64))) rfl jv_bi_ne rfl rfl (not_congr (lg_cmp_eq ((L 210 (8 + (76800 + f.d))) &&& ((vl_I f.z).toInt64 - (1 : Int64))) (0 : Int64))) (fun h3 => ?_) (fun h3 => ?_)
    · refine jv_Wp.lift (fun _ Kz => jv_Ev.steps jv_i295 4 (pc' := 154) (l' := [(7, .int (0 : Int32)), (5, .long ((vl_I f.z).toInt64 - (1 : Int64))), (4, .int (vl_I (8 + (76800 + f.d)))), (2, .int (0 : Int32)), (3, .int (I 205 (76800 + f.d))), (1, .int (vl_I f.z)), (0, .ref 196)]) (st' := [.int (0 : Int32), .int (0 : Int32)]) rfl Kz) ?_
      refine jv_Wp.lift (fun _ Kz => jv_Ev.br jv_i295 (pc' := 170) (st' := [.int (0 : Int32)]) rfl (by rfl) Kz) ?_
      refine jv_Wp.lift (fun _ Kz => jv_Ev.steps jv_i295 1 (pc' := 171) (l' := [(7, .int (0 : Int32)), (5, .long ((vl_I f.z).toInt64 - (1 : Int64))), (4, .int (vl_I (8 + (76800 + f.d)))), (2, .int (0 : Int32)), (3, .int (I 205 (76800 + f.d))), (1, .int (vl_I f.z)), (0, .ref 196)]) (st' := [.int (4 : Int32), .int (0 : Int32)]) rfl Kz) ?_
      have Hf11 := vq_first (I := I) (L := L) (K := K) (R := R) (n := n) (sl := sl) 0 4 (by omega) (by omega)
      rw [show vx_fst 0 4 = 4 from by decide] at Hf11
      refine jv_Wp.lift (fun _ Kz => jv_Ev.c jv_i295 (pc' := 174) (S' := [.int (4 : Int32)]) jv_i282 [.int (0 : Int32), .int (4 : Int32)] rfl rfl rfl rfl rfl rfl Hf11 rfl rfl Kz) ?_
      refine jv_Wp.lift (fun _ Kz => jv_Ev.steps jv_i295 4 (pc' := 178) (l' := [(2, .int (4 : Int32)), (7, .int (0 : Int32)), (5, .long ((vl_I f.z).toInt64 - (1 : Int64))), (4, .int (vl_I (8 + (76800 + f.d)))), (3, .int (I 205 (76800 + f.d))), (1, .int (vl_I f.z)), (0, .ref 196)]) (st' := [.ref 196, .ref 196, .int (4 : Int32)]) rfl Kz) ?_
      refine jv_Wp.lift (fun _ Kz => jv_Ev.m jv_i295 (pc' := 181) (st' := [.int (vl_I f.s), .ref 196, .int (4 : Int32)]) (G' := (jv_H K I L R)) rfl rfl (jv_m_getI (jv_rwK hW 196 12 24 (by decide)) rfl rfl D.2.2.1) Kz) ?_
      refine jv_Wp.lift (fun _ Kz => jv_Ev.c jv_i295 (pc' := 184) (S' := [.int (I 205 (76800 + f.s)), .int (4 : Int32)]) jv_i271 [.ref 196, .int (vl_I f.s)] rfl rfl rfl rfl (jv_cal rfl (jv_H_at (jv_rwK hW 196 12 24 (by decide))) rfl rfl) rfl (vq_sortOf f.s hW (by omega)) rfl rfl Kz) ?_
      refine jv_Wp.cnd jv_i295 (pt := 204) (pe := 187) (p := ((I 205 (76800 + f.s)) = 0)) (q := ((I 205 (76800 + f.s)) = 0)) rfl jv_bi_eq rfl rfl Iff.rfl (fun hz => absurd hz (fun z => gs ((hs ()).symm.trans ((vr_isN (L := L) oks hs11).mpr z)))) (fun _ => ?_)
      refine jv_Wp.lift (fun _ Kz => jv_Ev.steps jv_i295 2 (pc' := 189) (l' := [(2, .int (4 : Int32)), (7, .int (0 : Int32)), (5, .long ((vl_I f.z).toInt64 - (1 : Int64))), (4, .int (vl_I (8 + (76800 + f.d)))), (3, .int (I 205 (76800 + f.d))), (1, .int (vl_I f.z)), (0, .ref 196)]) (st' := [.ref 196, .ref 196, .int (4 : Int32)]) rfl Kz) ?_
      refine jv_Wp.lift (fun _ Kz => jv_Ev.m jv_i295 (pc' := 192) (st' := [.int (vl_I f.s), .ref 196, .int (4 : Int32)]) (G' := (jv_H K I L R)) rfl rfl (jv_m_getI (jv_rwK hW 196 12 24 (by decide)) rfl rfl D.2.2.1) Kz) ?_
      refine jv_Wp.lift (fun _ Kz => jv_Ev.c jv_i295 (pc' := 195) (S' := [.int (I 205 (76800 + f.s)), .int (4 : Int32)]) jv_i271 [.ref 196, .int (vl_I f.s)] rfl rfl rfl rfl (jv_cal rfl (jv_H_at (jv_rwK hW 196 12 24 (by decide))) rfl rfl) rfl (vq_sortOf f.s hW (by omega)) rfl rfl Kz) ?_
      refine jv_Wp.lift (fun _ Kz => jv_Ev.steps jv_i295 1 (pc' := 196) (l' := [(2, .int (4 : Int32)), (7, .int (0 : Int32)), (5, .long ((vl_I f.z).toInt64 - (1 : Int64))), (4, .int (vl_I (8 + (76800 + f.d)))), (3, .int (I 205 (76800 + f.d))), (1, .int (vl_I f.z)), (0, .ref 196)]) (st' := [.int (1 : Int32), .int (I 205 (76800 + f.s)), .int (4 : Int32)]) rfl Kz) ?_
      refine jv_Wp.cnd jv_i295 (pt := 204) (pe := 199) (p := ((I 205 (76800 + f.s)) = (1 : Int32))) (q := ((I 205 (76800 + f.s)) = (1 : Int32))) rfl jv_bc_eq rfl rfl Iff.rfl (fun h4 => ?_) (fun h4 => ?_)
      · refine jv_Wp.lift (fun _ Kz => jv_Ev.steps jv_i295 1 (pc' := 205) (l' := [(2, .int (4 : Int32)), (7, .int (0 : Int32)), (5, .long ((vl_I f.z).toInt64 - (1 : Int64))), (4, .int (vl_I (8 + (76800 + f.d)))), (3, .int (I 205 (76800 + f.d))), (1, .int (vl_I f.z)), (0, .ref 196)]) (st' := [.int (0 : Int32), .int (4 : Int32)]) rfl Kz) ?_
        have Hf12 := vq_first (I := I) (L := L) (K := K) (R := R) (n := n) (sl := sl) 4 0 (by omega) (by omega)
        rw [show vx_fst 4 0 = 4 from by decide] at Hf12
        refine jv_Wp.lift (fun _ Kz => jv_Ev.c jv_i295 (pc' := 208) (S' := [.int (4 : Int32)]) jv_i282 [.int (4 : Int32), .int (0 : Int32)] rfl rfl rfl rfl rfl rfl Hf12 rfl rfl Kz) ?_
        refine jv_Wp.lift (fun _ Kz => jv_Ev.steps jv_i295 3 (pc' := 211) (l' := [(2, .int (4 : Int32)), (7, .int (0 : Int32)), (5, .long ((vl_I f.z).toInt64 - (1 : Int64))), (4, .int (vl_I (8 + (76800 + f.d)))), (3, .int (I 205 (76800 + f.d))), (1, .int (vl_I f.z)), (0, .ref 196)]) (st' := [.ref 196, .int (4 : Int32)]) rfl Kz) ?_
        refine jv_Wp.lift (fun _ Kz => jv_Ev.m jv_i295 (pc' := 214) (st' := [.int (Int32.ofInt f.i), .int (4 : Int32)]) (G' := (jv_H K I L R)) rfl rfl (jv_m_getI (jv_rwK hW 196 12 24 (by decide)) rfl rfl (vr_dJ D)) Kz) ?_
        refine jv_Wp.lift (fun _ Kz => jv_Ev.steps jv_i295 1 (pc' := 217) (l' := [(2, .int (4 : Int32)), (7, .int (0 : Int32)), (5, .long ((vl_I f.z).toInt64 - (1 : Int64))), (4, .int (vl_I (8 + (76800 + f.d)))), (3, .int (I 205 (76800 + f.d))), (1, .int (vl_I f.z)), (0, .ref 196)]) (st' := [.int (241 : Int32), .int (Int32.ofInt f.i), .int (4 : Int32)]) rfl Kz) ?_
        refine jv_Wp.cnd jv_i295 (pt := 242) (pe := 220) (p := (¬ (Int32.ofInt f.i) = (241 : Int32))) (q := (¬ (Int32.ofInt f.i) = (241 : Int32))) rfl jv_bc_ne rfl rfl Iff.rfl (fun _ => ?_) (fun hz => absurd h241 hz)
        refine jv_Wp.lift (fun _ Kz => jv_Ev.steps jv_i295 1 (pc' := 243) (l' := [(2, .int (4 : Int32)), (7, .int (0 : Int32)), (5, .long ((vl_I f.z).toInt64 - (1 : Int64))), (4, .int (vl_I (8 + (76800 + f.d)))), (3, .int (I 205 (76800 + f.d))), (1, .int (vl_I f.z)), (0, .ref 196)]) (st' := [.int (0 : Int32), .int (4 : Int32)]) rfl Kz) ?_
        have Hf13 := vq_first (I := I) (L := L) (K := K) (R := R) (n := n) (sl := sl) 4 0 (by omega) (by omega)
        rw [show vx_fst 4 0 = 4 from by decide] at Hf13
        refine jv_Wp.lift (fun _ Kz => jv_Ev.c jv_i295 (pc' := 246) (S' := [.int (4 : Int32)]) jv_i282 [.int (4 : Int32), .int (0 : Int32)] rfl rfl rfl rfl rfl rfl Hf13 rfl rfl Kz) ?_
        refine jv_Wp.lift (fun _ Kz => jv_Ev.steps jv_i295 2 (pc' := 248) (l' := [(2, .int (4 : Int32)), (7, .int (0 : Int32)), (5, .long ((vl_I f.z).toInt64 - (1 : Int64))), (4, .int (vl_I (8 + (76800 + f.d)))), (3, .int (I 205 (76800 + f.d))), (1, .int (vl_I f.z)), (0, .ref 196)]) (st' := [.int (4 : Int32)]) rfl Kz) ?_
        refine jv_Wp.lift (fun _ Kz => jv_Ev.br jv_i295 (pc' := 251) (st' := []) rfl (by rfl) Kz) ?_
        refine jv_Wp.lift (fun _ Kz => jv_Ev.steps jv_i295 1 (pc' := 252) (l' := [(2, .int (4 : Int32)), (7, .int (0 : Int32)), (5, .long ((vl_I f.z).toInt64 - (1 : Int64))), (4, .int (vl_I (8 + (76800 + f.d)))), (3, .int (I 205 (76800 + f.d))), (1, .int (vl_I f.z)), (0, .ref 196)]) (st' := [.int (4 : Int32)]) rfl Kz) ?_
        refine jv_Wp.of (jv_Ev.ret jv_i295 rfl rfl) ?_
        rw [hQ]
        have td7 : zd = 7 := (hd ()).symm.trans ((vr_is (L := L) 7 (by decide) okd).mpr (Classical.not_not.mp h1))
        have ts1 : zs = 1 := (hs ()).symm.trans ((vr_is (L := L) 1 (by decide) oks).mpr h4)
        have ev : vx_even (vr_T I L (76800 + f.d)).val f.o f.z = false := by rw [vr_valv (by rw [(vr_is (L := L) 7 (by decide) okd).mp ((hd ()).trans (by omega))]; rfl), ← vr_dO D, vx_even_r hz]; exact (by rw [decide_eq_false h3]; rfl)
        have r7 := vx_r7' (M := M) (A := (vr_A I L 1024)) (o := f.o) (z := f.z) (w := true) ((hd ()).trans (show zd = 7 by omega))
        rw [hrr ()] at r7
        have e : vx_atp M f (vr_A I L 1024) = (4, (vr_A I L 1024)) := by
          exact vx_at3 (by rw [eD, eS, e0, hd (), hs (), h0 ()]; omega) (by rw [eD, hd ()]; omega) (Or.inl (by rw [eD]; exact ev))
        exact ⟨_, _, by rw [← eQ, e]; rfl, fun z => by rw [← eQ, e] at z; exact absurd (show (4 : Nat) = 0 from z) (by omega), vr_fr_refl hf⟩
      · refine jv_Wp.lift (fun _ Kz => jv_Ev.steps jv_i295 2 (pc' := 205) (l' := [(2, .int (4 : Int32)), (7, .int (0 : Int32)), (5, .long ((vl_I f.z).toInt64 - (1 : Int64))), (4, .int (vl_I (8 + (76800 + f.d)))), (3, .int (I 205 (76800 + f.d))), (1, .int (vl_I f.z)), (0, .ref 196)]) (st' := [.int (6 : Int32), .int (4 : Int32)]) rfl Kz) ?_
        have Hf14 := vq_first (I := I) (L := L) (K := K) (R := R) (n := n) (sl := sl) 4 6 (by omega) (by omega)
        rw [show vx_fst 4 6 = 4 from by decide] at Hf14
        refine jv_Wp.lift (fun _ Kz => jv_Ev.c jv_i295 (pc' := 208) (S' := [.int (4 : Int32)]) jv_i282 [.int (4 : Int32), .int (6 : Int32)] rfl rfl rfl rfl rfl rfl Hf14 rfl rfl Kz) ?_
        refine jv_Wp.lift (fun _ Kz => jv_Ev.steps jv_i295 3 (pc' := 211) (l' := [(2, .int (4 : Int32)), (7, .int (0 : Int32)), (5, .long ((vl_I f.z).toInt64 - (1 : Int64))), (4, .int (vl_I (8 + (76800 + f.d)))), (3, .int (I 205 (76800 + f.d))), (1, .int (vl_I f.z)), (0, .ref 196)]) (st' := [.ref 196, .int (4 : Int32)]) rfl Kz) ?_
        refine jv_Wp.lift (fun _ Kz => jv_Ev.m jv_i295 (pc' := 214) (st' := [.int (Int32.ofInt f.i), .int (4 : Int32)]) (G' := (jv_H K I L R)) rfl rfl (jv_m_getI (jv_rwK hW 196 12 24 (by decide)) rfl rfl (vr_dJ D)) Kz) ?_
        refine jv_Wp.lift (fun _ Kz => jv_Ev.steps jv_i295 1 (pc' := 217) (l' := [(2, .int (4 : Int32)), (7, .int (0 : Int32)), (5, .long ((vl_I f.z).toInt64 - (1 : Int64))), (4, .int (vl_I (8 + (76800 + f.d)))), (3, .int (I 205 (76800 + f.d))), (1, .int (vl_I f.z)), (0, .ref 196)]) (st' := [.int (241 : Int32), .int (Int32.ofInt f.i), .int (4 : Int32)]) rfl Kz) ?_
        refine jv_Wp.cnd jv_i295 (pt := 242) (pe := 220) (p := (¬ (Int32.ofInt f.i) = (241 : Int32))) (q := (¬ (Int32.ofInt f.i) = (241 : Int32))) rfl jv_bc_ne rfl rfl Iff.rfl (fun _ => ?_) (fun hz => absurd h241 hz)
        refine jv_Wp.lift (fun _ Kz => jv_Ev.steps jv_i295 1 (pc' := 243) (l' := [(2, .int (4 : Int32)), (7, .int (0 : Int32)), (5, .long ((vl_I f.z).toInt64 - (1 : Int64))), (4, .int (vl_I (8 + (76800 + f.d)))), (3, .int (I 205 (76800 + f.d))), (1, .int (vl_I f.z)), (0, .ref 196)]) (st' := [.int (0 : Int32), .int (4 : Int32)]) rfl Kz) ?_
        have Hf15 := vq_first (I := I) (L := L) (K := K) (R := R) (n := n) (sl := sl) 4 0 (by omega) (by omega)
        rw [show vx_fst 4 0 = 4 from by decide] at Hf15
        refine jv_Wp.lift (fun _ Kz => jv_Ev.c jv_i295 (pc' := 246) (S' := [.int (4 : Int32)]) jv_i282 [.int (4 : Int32), .int (0 : Int32)] rfl rfl rfl rfl rfl rfl Hf15 rfl rfl Kz) ?_
        refine jv_Wp.lift (fun _ Kz => jv_Ev.steps jv_i295 2 (pc' := 248) (l' := [(2, .int (4 : Int32)), (7, .int (0 : Int32)), (5, .long ((vl_I f.z).toInt64 - (1 : Int64))), (4, .int (vl_I (8 + (76800 + f.d)))), (3, .int (I 205 (76800 + f.d))), (1, .int (vl_I f.z)), (0, .ref 196)]) (st' := [.int (4 : Int32)]) rfl Kz) ?_
        refine jv_Wp.lift (fun _ Kz => jv_Ev.br jv_i295 (pc' := 251) (st' := []) rfl (by rfl) Kz) ?_
        refine jv_Wp.lift (fun _ Kz => jv_Ev.steps jv_i295 1 (pc' := 252) (l' := [(2, .int (4 : Int32)), (7, .int (0 : Int32)), (5, .long ((vl_I f.z).toInt64 - (1 : Int64))), (4, .int (vl_I (8 + (76800 + f.d)))), (3, .int (I 205 (76800 + f.d))), (1, .int (vl_I f.z)), (0, .ref 196)]) (st' := [.int (4 : Int32)]) rfl Kz) ?_
        refine jv_Wp.of (jv_Ev.ret jv_i295 rfl rfl) ?_
        rw [hQ]
        have td7 : zd = 7 := (hd ()).symm.trans ((vr_is (L := L) 7 (by decide) okd).mpr (Classical.not_not.mp h1))
        have ts1 : ¬ zs = 1 := fun z => h4 ((vr_is (L := L) 1 (by decide) oks).mp ((hs ()).trans z))
        have ev : vx_even (vr_T I L (76800 + f.d)).val f.o f.z = false := by rw [vr_valv (by rw [(vr_is (L := L) 7 (by decide) okd).mp ((hd ()).trans (by omega))]; rfl), ← vr_dO D, vx_even_r hz]; exact (by rw [decide_eq_false h3]; rfl)
        have r7 := vx_r7' (M := M) (A := (vr_A I L 1024)) (o := f.o) (z := f.z) (w := true) ((hd ()).trans (show zd = 7 by omega))
        rw [hrr ()] at r7
        have e : vx_atp M f (vr_A I L 1024) = (4, (vr_A I L 1024)) := by
          exact vx_at3 (by rw [eD, eS, e0, hd (), hs (), h0 ()]; omega) (by rw [eD, hd ()]; omega) (Or.inl (by rw [eD]; exact ev))
        exact ⟨_, _, by rw [← eQ, e]; rfl, fun z => by rw [← eQ, e] at z; exact absurd (show (4 : Nat) = 0 from z) (by omega), vr_fr_refl hf⟩
    · refine jv_Wp.lift (fun _ Kz => jv_Ev.steps jv_i295 1 (pc' := 121) (l' := [(5, .long ((vl_I f.z).toInt64 - (1 : Int64))), (4, .int (vl_I (8 + (76800 + f.d)))), (2, .int (0 : Int32)), (3, .int (I 205 (76800 + f.d))), (1, .int (vl_I f.z)), (0, .ref 196)]) (st' := [.ref 196]) rfl Kz) ?_
      refine jv_Wp.lift (fun _ Kz => jv_Ev.m jv_i295 (pc' := 124) (st' := [.ref 208]) (G' := (jv_H K I L R)) rfl rfl (jv_m_getR (jv_rwK hW 196 12 24 (by decide)) rfl rfl (jv_rwR hW 196 16 208 (by decide))) Kz) ?_
      refine jv_Wp.lift (fun _ Kz => jv_Ev.m jv_i295 (pc' := 127) (st' := [.ref 209]) (G' := (jv_H K I L R)) rfl rfl (jv_m_getR (jv_rwK hW 208 11 7 (by decide)) rfl rfl (jv_rwR hW 208 0 209 (by decide))) Kz) ?_
      refine jv_Wp.lift (fun _ Kz => jv_Ev.steps jv_i295 1 (pc' := 129) (l' := [(5, .long ((vl_I f.z).toInt64 - (1 : Int64))), (4, .int (vl_I (8 + (76800 + f.d)))), (2, .int (0 : Int32)), (3, .int (I 205 (76800 + f.d))), (1, .int (vl_I f.z)), (0, .ref 196)]) (st' := [.int (vl_I (8 + (76800 + f.d))), .ref 209]) rfl Kz) ?_
      refine jv_Wp.lift (fun _ Kz => jv_Ev.m jv_i295 (pc' := 130) (st' := [.long (L 209 (8 + (76800 + f.d)))]) (G' := (jv_H K I L R)) rfl rfl (jv_m_laldv (jv_rwK hW 209 103 77200 (by decide)) rfl (vl_I_ix (by omega) (by decide)) rfl ((congrArg (L 209) (vl_I_nat (by omega))).trans rfl)) Kz) ?_
      refine jv_Wp.lift (fun _ Kz => jv_Ev.steps jv_i295 1 (pc' := 131) (l' := [(5, .long ((vl_I f.z).toInt64 - (1 : Int64))), (4, .int (vl_I (8 + (76800 + f.d)))), (2, .int (0 : Int32)), (3, .int (I 205 (76800 + f.d))), (1, .int (vl_I f.z)), (0, .ref 196)]) (st' := [.ref 196, .long (L 209 (8 + (76800 + f.d)))]) rfl Kz) ?_
      refine jv_Wp.lift (fun _ Kz => jv_Ev.m jv_i295 (pc' := 134) (st' := [.int (Int32.ofInt f.o), .long (L 209 (8 + (76800 + f.d)))]) (G' := (jv_H K I L R)) rfl rfl (jv_m_getI (jv_rwK hW 196 12 24 (by decide)) rfl rfl (vr_dI D)) Kz) ?_
      refine jv_Wp.lift (fun _ Kz => jv_Ev.steps jv_i295 6 (pc' := 141) (l' := [(5, .long ((vl_I f.z).toInt64 - (1 : Int64))), (4, .int (vl_I (8 + (76800 + f.d)))), (2, .int (0 : Int32)), (3, .int (I 205 (76800 + f.d))), (1, .int (vl_I f.z)), (0, .ref 196)]) (st' := [.int (lg_cmp (((L 209 (8 + (76800 + f.d))) + (Int32.ofInt f.o).toInt64) &&& ((vl_I f.z).toInt64 - (1 : Int64))) (0 : Int64))]) rfl Kz) ?_
      refine jv_Wp.cnd jv_i295 (pt := 148) (pe := 144) (p := (¬ (lg_cmp (((L 209 (8 + (76800 + f.d))) + (Int32.ofInt f.o).toInt64) &&& ((vl_I f.z).toInt64 - (1 : Int64))) (0 : Int64)) = 0)) (q := (¬ (((L 209 (8 + (76800 + f.d))) + (Int32.ofInt f.o).toInt64) &&& ((vl_I f.z).toInt64 - (1 : Int64))) = (0 : Int64))) rfl jv_bi_ne rfl rfl (not_congr (lg_cmp_eq (((L 209 (8 + (76800 + f.d))) + (Int32.ofInt f.o).toInt64) &&& ((vl_I f.z).toInt64 - (1 : Int64))) (0 : Int64))) (fun h5 => ?_) (fun h5 => ?_)
      · refine jv_Wp.lift (fun _ Kz => jv_Ev.steps jv_i295 4 (pc' := 154) (l' := [(7, .int (0 : Int32)), (5, .long ((vl_I f.z).toInt64 - (1 : Int64))), (4, .int (vl_I (8 + (76800 + f.d)))), (2, .int (0 : Int32)), (3, .int (I 205 (76800 + f.d))), (1, .int (vl_I f.z)), (0, .ref 196)]) (st' := [.int (0 : Int32), .int (0 : Int32)]) rfl Kz) ?_
        refine jv_Wp.lift (fun _ Kz => jv_Ev.br jv_i295 (pc' := 170) (st' := [.int (0 : Int32)]) rfl (by rfl) Kz) ?_
        refine jv_Wp.lift (fun _ Kz => jv_Ev.steps jv_i295 1 (pc' := 171) (l' := [(7, .int (0 : Int32)), (5, .long ((vl_I f.z).toInt64 - (1 : Int64))), (4, .int (vl_I (8 + (76800 + f.d)))), (2, .int (0 : Int32)), (3, .int (I 205 (76800 + f.d))), (1, .int (vl_I f.z)), (0, .ref 196)]) (st' := [.int (4 : Int32), .int (0 : Int32)]) rfl Kz) ?_
        have Hf16 := vq_first (I := I) (L := L) (K := K) (R := R) (n := n) (sl := sl) 0 4 (by omega) (by omega)
        rw [show vx_fst 0 4 = 4 from by decide] at Hf16
        refine jv_Wp.lift (fun _ Kz => jv_Ev.c jv_i295 (pc' := 174) (S' := [.int (4 : Int32)]) jv_i282 [.int (0 : Int32), .int (4 : Int32)] rfl rfl rfl rfl rfl rfl Hf16 rfl rfl Kz) ?_
        refine jv_Wp.lift (fun _ Kz => jv_Ev.steps jv_i295 4 (pc' := 178) (l' := [(2, .int (4 : Int32)), (7, .int (0 : Int32)), (5, .long ((vl_I f.z).toInt64 - (1 : Int64))), (4, .int (vl_I (8 + (76800 + f.d)))), (3, .int (I 205 (76800 + f.d))), (1, .int (vl_I f.z)), (0, .ref 196)]) (st' := [.ref 196, .ref 196, .int (4 : Int32)]) rfl Kz) ?_
        refine jv_Wp.lift (fun _ Kz => jv_Ev.m jv_i295 (pc' := 181) (st' := [.int (vl_I f.s), .ref 196, .int (4 : Int32)]) (G' := (jv_H K I L R)) rfl rfl (jv_m_getI (jv_rwK hW 196 12 24 (by decide)) rfl rfl D.2.2.1) Kz) ?_
        refine jv_Wp.lift (fun _ Kz => jv_Ev.c jv_i295 (pc' := 184) (S' := [.int (I 205 (76800 + f.s)), .int (4 : Int32)]) jv_i271 [.ref 196, .int (vl_I f.s)] rfl rfl rfl rfl (jv_cal rfl (jv_H_at (jv_rwK hW 196 12 24 (by decide))) rfl rfl) rfl (vq_sortOf f.s hW (by omega)) rfl rfl Kz) ?_
        refine jv_Wp.cnd jv_i295 (pt := 204) (pe := 187) (p := ((I 205 (76800 + f.s)) = 0)) (q := ((I 205 (76800 + f.s)) = 0)) rfl jv_bi_eq rfl rfl Iff.rfl (fun hz => absurd hz (fun z => gs ((hs ()).symm.trans ((vr_isN (L := L) oks hs11).mpr z)))) (fun _ => ?_)
        refine jv_Wp.lift (fun _ Kz => jv_Ev.steps jv_i295 2 (pc' := 189) (l' := [(2, .int (4 : Int32)), (7, .int (0 : Int32)), (5, .long ((vl_I f.z).toInt64 - (1 : Int64))), (4, .int (vl_I (8 + (76800 + f.d)))), (3, .int (I 205 (76800 + f.d))), (1, .int (vl_I f.z)), (0, .ref 196)]) (st' := [.ref 196, .ref 196, .int (4 : Int32)]) rfl Kz) ?_
        refine jv_Wp.lift (fun _ Kz => jv_Ev.m jv_i295 (pc' := 192) (st' := [.int (vl_I f.s), .ref 196, .int (4 : Int32)]) (G' := (jv_H K I L R)) rfl rfl (jv_m_getI (jv_rwK hW 196 12 24 (by decide)) rfl rfl D.2.2.1) Kz) ?_
        refine jv_Wp.lift (fun _ Kz => jv_Ev.c jv_i295 (pc' := 195) (S' := [.int (I 205 (76800 + f.s)), .int (4 : Int32)]) jv_i271 [.ref 196, .int (vl_I f.s)] rfl rfl rfl rfl (jv_cal rfl (jv_H_at (jv_rwK hW 196 12 24 (by decide))) rfl rfl) rfl (vq_sortOf f.s hW (by omega)) rfl rfl Kz) ?_
        refine jv_Wp.lift (fun _ Kz => jv_Ev.steps jv_i295 1 (pc' := 196) (l' := [(2, .int (4 : Int32)), (7, .int (0 : Int32)), (5, .long ((vl_I f.z).toInt64 - (1 : Int64))), (4, .int (vl_I (8 + (76800 + f.d)))), (3, .int (I 205 (76800 + f.d))), (1, .int (vl_I f.z)), (0, .ref 196)]) (st' := [.int (1 : Int32), .int (I 205 (76800 + f.s)), .int (4 : Int32)]) rfl Kz) ?_
        refine jv_Wp.cnd jv_i295 (pt := 204) (pe := 199) (p := ((I 205 (76800 + f.s)) = (1 : Int32))) (q := ((I 205 (76800 + f.s)) = (1 : Int32))) rfl jv_bc_eq rfl rfl Iff.rfl (fun h6 => ?_) (fun h6 => ?_)
        · refine jv_Wp.lift (fun _ Kz => jv_Ev.steps jv_i295 1 (pc' := 205) (l' := [(2, .int (4 : Int32)), (7, .int (0 : Int32)), (5, .long ((vl_I f.z).toInt64 - (1 : Int64))), (4, .int (vl_I (8 + (76800 + f.d)))), (3, .int (I 205 (76800 + f.d))), (1, .int (vl_I f.z)), (0, .ref 196)]) (st' := [.int (0 : Int32), .int (4 : Int32)]) rfl Kz) ?_
          have Hf17 := vq_first (I := I) (L := L) (K := K) (R := R) (n := n) (sl := sl) 4 0 (by omega) (by omega)
          rw [show vx_fst 4 0 = 4 from by decide] at Hf17
          refine jv_Wp.lift (fun _ Kz => jv_Ev.c jv_i295 (pc' := 208) (S' := [.int (4 : Int32)]) jv_i282 [.int (4 : Int32), .int (0 : Int32)] rfl rfl rfl rfl rfl rfl Hf17 rfl rfl Kz) ?_
          refine jv_Wp.lift (fun _ Kz => jv_Ev.steps jv_i295 3 (pc' := 211) (l' := [(2, .int (4 : Int32)), (7, .int (0 : Int32)), (5, .long ((vl_I f.z).toInt64 - (1 : Int64))), (4, .int (vl_I (8 + (76800 + f.d)))), (3, .int (I 205 (76800 + f.d))), (1, .int (vl_I f.z)), (0, .ref 196)]) (st' := [.ref 196, .int (4 : Int32)]) rfl Kz) ?_
          refine jv_Wp.lift (fun _ Kz => jv_Ev.m jv_i295 (pc' := 214) (st' := [.int (Int32.ofInt f.i), .int (4 : Int32)]) (G' := (jv_H K I L R)) rfl rfl (jv_m_getI (jv_rwK hW 196 12 24 (by decide)) rfl rfl (vr_dJ D)) Kz) ?_
          refine jv_Wp.lift (fun _ Kz => jv_Ev.steps jv_i295 1 (pc' := 217) (l' := [(2, .int (4 : Int32)), (7, .int (0 : Int32)), (5, .long ((vl_I f.z).toInt64 - (1 : Int64))), (4, .int (vl_I (8 + (76800 + f.d)))), (3, .int (I 205 (76800 + f.d))), (1, .int (vl_I f.z)), (0, .ref 196)]) (st' := [.int (241 : Int32), .int (Int32.ofInt f.i), .int (4 : Int32)]) rfl Kz) ?_
          refine jv_Wp.cnd jv_i295 (pt := 242) (pe := 220) (p := (¬ (Int32.ofInt f.i) = (241 : Int32))) (q := (¬ (Int32.ofInt f.i) = (241 : Int32))) rfl jv_bc_ne rfl rfl Iff.rfl (fun _ => ?_) (fun hz => absurd h241 hz)
          refine jv_Wp.lift (fun _ Kz => jv_Ev.steps jv_i295 1 (pc' := 243) (l' := [(2, .int (4 : Int32)), (7, .int (0 : Int32)), (5, .long ((vl_I f.z).toInt64 - (1 : Int64))), (4, .int (vl_I (8 + (76800 + f.d)))), (3, .int (I 205 (76800 + f.d))), (1, .int (vl_I f.z)), (0, .ref 196)]) (st' := [.int (0 : Int32), .int (4 : Int32)]) rfl Kz) ?_
          have Hf18 := vq_first (I := I) (L := L) (K := K) (R := R) (n := n) (sl := sl) 4 0 (by omega) (by omega)
          rw [show vx_fst 4 0 = 4 from by decide] at Hf18
          refine jv_Wp.lift (fun _ Kz => jv_Ev.c jv_i295 (pc' := 246) (S' := [.int (4 : Int32)]) jv_i282 [.int (4 : Int32), .int (0 : Int32)] rfl rfl rfl rfl rfl rfl Hf18 rfl rfl Kz) ?_
          refine jv_Wp.lift (fun _ Kz => jv_Ev.steps jv_i295 2 (pc' := 248) (l' := [(2, .int (4 : Int32)), (7, .int (0 : Int32)), (5, .long ((vl_I f.z).toInt64 - (1 : Int64))), (4, .int (vl_I (8 + (76800 + f.d)))), (3, .int (I 205 (76800 + f.d))), (1, .int (vl_I f.z)), (0, .ref 196)]) (st' := [.int (4 : Int32)]) rfl Kz) ?_
          refine jv_Wp.lift (fun _ Kz => jv_Ev.br jv_i295 (pc' := 251) (st' := []) rfl (by rfl) Kz) ?_
          refine jv_Wp.lift (fun _ Kz => jv_Ev.steps jv_i295 1 (pc' := 252) (l' := [(2, .int (4 : Int32)), (7, .int (0 : Int32)), (5, .long ((vl_I f.z).toInt64 - (1 : Int64))), (4, .int (vl_I (8 + (76800 + f.d)))), (3, .int (I 205 (76800 + f.d))), (1, .int (vl_I f.z)), (0, .ref 196)]) (st' := [.int (4 : Int32)]) rfl Kz) ?_
          refine jv_Wp.of (jv_Ev.ret jv_i295 rfl rfl) ?_
          rw [hQ]
          have td7 : zd = 7 := (hd ()).symm.trans ((vr_is (L := L) 7 (by decide) okd).mpr (Classical.not_not.mp h1))
          have ts1 : zs = 1 := (hs ()).symm.trans ((vr_is (L := L) 1 (by decide) oks).mpr h6)
          have ev : vx_even (vr_T I L (76800 + f.d)).val f.o f.z = false := by rw [vr_valv (by rw [(vr_is (L := L) 7 (by decide) okd).mp ((hd ()).trans (by omega))]; rfl), ← vr_dO D, vx_even_r hz]; exact (by rw [decide_eq_false h5, Bool.and_false])
          have r7 := vx_r7' (M := M) (A := (vr_A I L 1024)) (o := f.o) (z := f.z) (w := true) ((hd ()).trans (show zd = 7 by omega))
          rw [hrr ()] at r7
          have e : vx_atp M f (vr_A I L 1024) = (4, (vr_A I L 1024)) := by
            exact vx_at3 (by rw [eD, eS, e0, hd (), hs (), h0 ()]; omega) (by rw [eD, hd ()]; omega) (Or.inl (by rw [eD]; exact ev))
          exact ⟨_, _, by rw [← eQ, e]; rfl, fun z => by rw [← eQ, e] at z; exact absurd (show (4 : Nat) = 0 from z) (by omega), vr_fr_refl hf⟩
        · refine jv_Wp.lift (fun _ Kz => jv_Ev.steps jv_i295 2 (pc' := 205) (l' := [(2, .int (4 : Int32)), (7, .int (0 : Int32)), (5, .long ((vl_I f.z).toInt64 - (1 : Int64))), (4, .int (vl_I (8 + (76800 + f.d)))), (3, .int (I 205 (76800 + f.d))), (1, .int (vl_I f.z)), (0, .ref 196)]) (st' := [.int (6 : Int32), .int (4 : Int32)]) rfl Kz) ?_
          have Hf19 := vq_first (I := I) (L := L) (K := K) (R := R) (n := n) (sl := sl) 4 6 (by omega) (by omega)
          rw [show vx_fst 4 6 = 4 from by decide] at Hf19
          refine jv_Wp.lift (fun _ Kz => jv_Ev.c jv_i295 (pc' := 208) (S' := [.int (4 : Int32)]) jv_i282 [.int (4 : Int32), .int (6 : Int32)] rfl rfl rfl rfl rfl rfl Hf19 rfl rfl Kz) ?_
          refine jv_Wp.lift (fun _ Kz => jv_Ev.steps jv_i295 3 (pc' := 211) (l' := [(2, .int (4 : Int32)), (7, .int (0 : Int32)), (5, .long ((vl_I f.z).toInt64 - (1 : Int64))), (4, .int (vl_I (8 + (76800 + f.d)))), (3, .int (I 205 (76800 + f.d))), (1, .int (vl_I f.z)), (0, .ref 196)]) (st' := [.ref 196, .int (4 : Int32)]) rfl Kz) ?_
          refine jv_Wp.lift (fun _ Kz => jv_Ev.m jv_i295 (pc' := 214) (st' := [.int (Int32.ofInt f.i), .int (4 : Int32)]) (G' := (jv_H K I L R)) rfl rfl (jv_m_getI (jv_rwK hW 196 12 24 (by decide)) rfl rfl (vr_dJ D)) Kz) ?_
          refine jv_Wp.lift (fun _ Kz => jv_Ev.steps jv_i295 1 (pc' := 217) (l' := [(2, .int (4 : Int32)), (7, .int (0 : Int32)), (5, .long ((vl_I f.z).toInt64 - (1 : Int64))), (4, .int (vl_I (8 + (76800 + f.d)))), (3, .int (I 205 (76800 + f.d))), (1, .int (vl_I f.z)), (0, .ref 196)]) (st' := [.int (241 : Int32), .int (Int32.ofInt f.i), .int (4 : Int32)]) rfl Kz) ?_
          refine jv_Wp.cnd jv_i295 (pt := 242) (pe := 220) (p := (¬ (Int32.ofInt f.i) = (241 : Int32))) (q := (¬ (Int32.ofInt f.i) = (241 : Int32))) rfl jv_bc_ne rfl rfl Iff.rfl (fun _ => ?_) (fun hz => absurd h241 hz)
          refine jv_Wp.lift (fun _ Kz => jv_Ev.steps jv_i295 1 (pc' := 243) (l' := [(2, .int (4 : Int32)), (7, .int (0 : Int32)), (5, .long ((vl_I f.z).toInt64 - (1 : Int64))), (4, .int (vl_I (8 + (76800 + f.d)))), (3, .int (I 205 (76800 + f.d))), (1, .int (vl_I f.z)), (0, .ref 196)]) (st' := [.int (0 : Int32), .int (4 : Int32)]) rfl Kz) ?_
          have Hf20 := vq_first (I := I) (L := L) (K := K) (R := R) (n := n) (sl := sl) 4 0 (by omega) (by omega)
          rw [show vx_fst 4 0 = 4 from by decide] at Hf20
          refine jv_Wp.lift (fun _ Kz => jv_Ev.c jv_i295 (pc' := 246) (S' := [.int (4 : Int32)]) jv_i282 [.int (4 : Int32), .int (0 : Int32)] rfl rfl rfl rfl rfl rfl Hf20 rfl rfl Kz) ?_
          refine jv_Wp.lift (fun _ Kz => jv_Ev.steps jv_i295 2 (pc' := 248) (l' := [(2, .int (4 : Int32)), (7, .int (0 : Int32)), (5, .long ((vl_I f.z).toInt64 - (1 : Int64))), (4, .int (vl_I (8 + (76800 + f.d)))), (3, .int (I 205 (76800 + f.d))), (1, .int (vl_I f.z)), (0, .ref 196)]) (st' := [.int (4 : Int32)]) rfl Kz) ?_
          refine jv_Wp.lift (fun _ Kz => jv_Ev.br jv_i295 (pc' := 251) (st' := []) rfl (by rfl) Kz) ?_
          refine jv_Wp.lift (fun _ Kz => jv_Ev.steps jv_i295 1 (pc' := 252) (l' := [(2, .int (4 : Int32)), (7, .int (0 : Int32)), (5, .long ((vl_I f.z).toInt64 - (1 : Int64))), (4, .int (vl_I (8 + (76800 + f.d)))), (3, .int (I 205 (76800 + f.d))), (1, .int (vl_I f.z)), (0, .ref 196)]) (st' := [.int (4 : Int32)]) rfl Kz) ?_
          refine jv_Wp.of (jv_Ev.ret jv_i295 rfl rfl) ?_
          rw [hQ]
          have td7 : zd = 7 := (hd ()).symm.trans ((vr_is (L := L) 7 (by decide) okd).mpr (Classical.not_not.mp h1))
          have ts1 : ¬ zs = 1 := fun z => h6 ((vr_is (L := L) 1 (by decide) oks).mp ((hs ()).trans z))
          have ev : vx_even (vr_T I L (76800 + f.d)).val f.o f.z = false := by rw [vr_valv (by rw [(vr_is (L := L) 7 (by decide) okd).mp ((hd ()).trans (by omega))]; rfl), ← vr_dO D, vx_even_r hz]; exact (by rw [decide_eq_false h5, Bool.and_false])
          have r7 := vx_r7' (M := M) (A := (vr_A I L 1024)) (o := f.o) (z := f.z) (w := true) ((hd ()).trans (show zd = 7 by omega))
          rw [hrr ()] at r7
          have e : vx_atp M f (vr_A I L 1024) = (4, (vr_A I L 1024)) := by
            exact vx_at3 (by rw [eD, eS, e0, hd (), hs (), h0 ()]; omega) (by rw [eD, hd ()]; omega) (Or.inl (by rw [eD]; exact ev))
          exact ⟨_, _, by rw [← eQ, e]; rfl, fun z => by rw [← eQ, e] at z; exact absurd (show (4 : Nat) = 0 from z) (by omega), vr_fr_refl hf⟩
      · refine jv_Wp.lift (fun _ Kz => jv_Ev.steps jv_i295 5 (pc' := 154) (l' := [(7, .int (1 : Int32)), (5, .long ((vl_I f.z).toInt64 - (1 : Int64))), (4, .int (vl_I (8 + (76800 + f.d)))), (2, .int (0 : Int32)), (3, .int (I 205 (76800 + f.d))), (1, .int (vl_I f.z)), (0, .ref 196)]) (st' := [.int (1 : Int32), .int (0 : Int32)]) rfl Kz) ?_
        refine jv_Wp.lift (fun _ Kz => jv_Ev.br jv_i295 (pc' := 157) (st' := [.int (0 : Int32)]) rfl (by rfl) Kz) ?_
        refine jv_Wp.lift (fun _ Kz => jv_Ev.steps jv_i295 2 (pc' := 159) (l' := [(7, .int (1 : Int32)), (5, .long ((vl_I f.z).toInt64 - (1 : Int64))), (4, .int (vl_I (8 + (76800 + f.d)))), (2, .int (0 : Int32)), (3, .int (I 205 (76800 + f.d))), (1, .int (vl_I f.z)), (0, .ref 196)]) (st' := [.ref 196, .ref 196, .int (0 : Int32)]) rfl Kz) ?_
        refine jv_Wp.lift (fun _ Kz => jv_Ev.m jv_i295 (pc' := 162) (st' := [.int (vl_I f.d), .ref 196, .int (0 : Int32)]) (G' := (jv_H K I L R)) rfl rfl (jv_m_getI (jv_rwK hW 196 12 24 (by decide)) rfl rfl D.2.1) Kz) ?_
        refine jv_Wp.lift (fun _ Kz => jv_Ev.steps jv_i295 2 (pc' := 164) (l' := [(7, .int (1 : Int32)), (5, .long ((vl_I f.z).toInt64 - (1 : Int64))), (4, .int (vl_I (8 + (76800 + f.d)))), (2, .int (0 : Int32)), (3, .int (I 205 (76800 + f.d))), (1, .int (vl_I f.z)), (0, .ref 196)]) (st' := [.int (1 : Int32), .int (vl_I f.z), .int (vl_I f.d), .ref 196, .int (0 : Int32)]) rfl Kz) ?_
        have Hb := vq_reach (I := I) (L := L) (n := n) (sl := sl) M f f.d kd f.z true hW hM D okd hd11 hz k8 hkd
        rw [hbd ()] at Hb
        refine jv_Wp.lift (fun _ Kz => jv_Ev.c jv_i295 (pc' := 167) (S' := [.int (vl_I bd), .int (0 : Int32)]) jv_i290 [.ref 196, .int (vl_I f.d), .int (vl_I f.z), .int (1 : Int32)] rfl rfl rfl rfl (jv_cal rfl (jv_H_at (jv_rwK hW 196 12 24 (by decide))) rfl rfl) rfl Hb rfl rfl Kz) ?_
        refine jv_Wp.lift (fun _ Kz => jv_Ev.steps jv_i295 1 (pc' := 171) (l' := [(7, .int (1 : Int32)), (5, .long ((vl_I f.z).toInt64 - (1 : Int64))), (4, .int (vl_I (8 + (76800 + f.d)))), (2, .int (0 : Int32)), (3, .int (I 205 (76800 + f.d))), (1, .int (vl_I f.z)), (0, .ref 196)]) (st' := [.int (vl_I bd), .int (0 : Int32)]) rfl Kz) ?_
        have Hf21 := vq_first (I := I) (L := L) (K := K) (R := R) (n := n) (sl := sl) 0 bd (by omega) (by omega)
        rw [show vx_fst 0 bd = bd from (vx_fst_g 0 bd).1 rfl] at Hf21
        refine jv_Wp.lift (fun _ Kz => jv_Ev.c jv_i295 (pc' := 174) (S' := [.int (vl_I bd)]) jv_i282 [.int (0 : Int32), .int (vl_I bd)] rfl rfl rfl rfl rfl rfl Hf21 rfl rfl Kz) ?_
        refine jv_Wp.lift (fun _ Kz => jv_Ev.steps jv_i295 4 (pc' := 178) (l' := [(2, .int (vl_I bd)), (7, .int (1 : Int32)), (5, .long ((vl_I f.z).toInt64 - (1 : Int64))), (4, .int (vl_I (8 + (76800 + f.d)))), (3, .int (I 205 (76800 + f.d))), (1, .int (vl_I f.z)), (0, .ref 196)]) (st' := [.ref 196, .ref 196, .int (vl_I bd)]) rfl Kz) ?_
        refine jv_Wp.lift (fun _ Kz => jv_Ev.m jv_i295 (pc' := 181) (st' := [.int (vl_I f.s), .ref 196, .int (vl_I bd)]) (G' := (jv_H K I L R)) rfl rfl (jv_m_getI (jv_rwK hW 196 12 24 (by decide)) rfl rfl D.2.2.1) Kz) ?_
        refine jv_Wp.lift (fun _ Kz => jv_Ev.c jv_i295 (pc' := 184) (S' := [.int (I 205 (76800 + f.s)), .int (vl_I bd)]) jv_i271 [.ref 196, .int (vl_I f.s)] rfl rfl rfl rfl (jv_cal rfl (jv_H_at (jv_rwK hW 196 12 24 (by decide))) rfl rfl) rfl (vq_sortOf f.s hW (by omega)) rfl rfl Kz) ?_
        refine jv_Wp.cnd jv_i295 (pt := 204) (pe := 187) (p := ((I 205 (76800 + f.s)) = 0)) (q := ((I 205 (76800 + f.s)) = 0)) rfl jv_bi_eq rfl rfl Iff.rfl (fun hz => absurd hz (fun z => gs ((hs ()).symm.trans ((vr_isN (L := L) oks hs11).mpr z)))) (fun _ => ?_)
        refine jv_Wp.lift (fun _ Kz => jv_Ev.steps jv_i295 2 (pc' := 189) (l' := [(2, .int (vl_I bd)), (7, .int (1 : Int32)), (5, .long ((vl_I f.z).toInt64 - (1 : Int64))), (4, .int (vl_I (8 + (76800 + f.d)))), (3, .int (I 205 (76800 + f.d))), (1, .int (vl_I f.z)), (0, .ref 196)]) (st' := [.ref 196, .ref 196, .int (vl_I bd)]) rfl Kz) ?_
        refine jv_Wp.lift (fun _ Kz => jv_Ev.m jv_i295 (pc' := 192) (st' := [.int (vl_I f.s), .ref 196, .int (vl_I bd)]) (G' := (jv_H K I L R)) rfl rfl (jv_m_getI (jv_rwK hW 196 12 24 (by decide)) rfl rfl D.2.2.1) Kz) ?_
        refine jv_Wp.lift (fun _ Kz => jv_Ev.c jv_i295 (pc' := 195) (S' := [.int (I 205 (76800 + f.s)), .int (vl_I bd)]) jv_i271 [.ref 196, .int (vl_I f.s)] rfl rfl rfl rfl (jv_cal rfl (jv_H_at (jv_rwK hW 196 12 24 (by decide))) rfl rfl) rfl (vq_sortOf f.s hW (by omega)) rfl rfl Kz) ?_
        refine jv_Wp.lift (fun _ Kz => jv_Ev.steps jv_i295 1 (pc' := 196) (l' := [(2, .int (vl_I bd)), (7, .int (1 : Int32)), (5, .long ((vl_I f.z).toInt64 - (1 : Int64))), (4, .int (vl_I (8 + (76800 + f.d)))), (3, .int (I 205 (76800 + f.d))), (1, .int (vl_I f.z)), (0, .ref 196)]) (st' := [.int (1 : Int32), .int (I 205 (76800 + f.s)), .int (vl_I bd)]) rfl Kz) ?_
        refine jv_Wp.cnd jv_i295 (pt := 204) (pe := 199) (p := ((I 205 (76800 + f.s)) = (1 : Int32))) (q := ((I 205 (76800 + f.s)) = (1 : Int32))) rfl jv_bc_eq rfl rfl Iff.rfl (fun h7 => ?_) (fun h7 => ?_)
        · refine jv_Wp.lift (fun _ Kz => jv_Ev.steps jv_i295 1 (pc' := 205) (l' := [(2, .int (vl_I bd)), (7, .int (1 : Int32)), (5, .long ((vl_I f.z).toInt64 - (1 : Int64))), (4, .int (vl_I (8 + (76800 + f.d)))), (3, .int (I 205 (76800 + f.d))), (1, .int (vl_I f.z)), (0, .ref 196)]) (st' := [.int (0 : Int32), .int (vl_I bd)]) rfl Kz) ?_
          have Hf22 := vq_first (I := I) (L := L) (K := K) (R := R) (n := n) (sl := sl) bd 0 (by omega) (by omega)
          rw [show vx_fst bd 0 = bd from (vx_fst_g bd 0).2.1 rfl] at Hf22
          refine jv_Wp.lift (fun _ Kz => jv_Ev.c jv_i295 (pc' := 208) (S' := [.int (vl_I bd)]) jv_i282 [.int (vl_I bd), .int (0 : Int32)] rfl rfl rfl rfl rfl rfl Hf22 rfl rfl Kz) ?_
          refine jv_Wp.lift (fun _ Kz => jv_Ev.steps jv_i295 3 (pc' := 211) (l' := [(2, .int (vl_I bd)), (7, .int (1 : Int32)), (5, .long ((vl_I f.z).toInt64 - (1 : Int64))), (4, .int (vl_I (8 + (76800 + f.d)))), (3, .int (I 205 (76800 + f.d))), (1, .int (vl_I f.z)), (0, .ref 196)]) (st' := [.ref 196, .int (vl_I bd)]) rfl Kz) ?_
          refine jv_Wp.lift (fun _ Kz => jv_Ev.m jv_i295 (pc' := 214) (st' := [.int (Int32.ofInt f.i), .int (vl_I bd)]) (G' := (jv_H K I L R)) rfl rfl (jv_m_getI (jv_rwK hW 196 12 24 (by decide)) rfl rfl (vr_dJ D)) Kz) ?_
          refine jv_Wp.lift (fun _ Kz => jv_Ev.steps jv_i295 1 (pc' := 217) (l' := [(2, .int (vl_I bd)), (7, .int (1 : Int32)), (5, .long ((vl_I f.z).toInt64 - (1 : Int64))), (4, .int (vl_I (8 + (76800 + f.d)))), (3, .int (I 205 (76800 + f.d))), (1, .int (vl_I f.z)), (0, .ref 196)]) (st' := [.int (241 : Int32), .int (Int32.ofInt f.i), .int (vl_I bd)]) rfl Kz) ?_
          refine jv_Wp.cnd jv_i295 (pt := 242) (pe := 220) (p := (¬ (Int32.ofInt f.i) = (241 : Int32))) (q := (¬ (Int32.ofInt f.i) = (241 : Int32))) rfl jv_bc_ne rfl rfl Iff.rfl (fun _ => ?_) (fun hz => absurd h241 hz)
          refine jv_Wp.lift (fun _ Kz => jv_Ev.steps jv_i295 1 (pc' := 243) (l' := [(2, .int (vl_I bd)), (7, .int (1 : Int32)), (5, .long ((vl_I f.z).toInt64 - (1 : Int64))), (4, .int (vl_I (8 + (76800 + f.d)))), (3, .int (I 205 (76800 + f.d))), (1, .int (vl_I f.z)), (0, .ref 196)]) (st' := [.int (0 : Int32), .int (vl_I bd)]) rfl Kz) ?_
          have Hf23 := vq_first (I := I) (L := L) (K := K) (R := R) (n := n) (sl := sl) bd 0 (by omega) (by omega)
          rw [show vx_fst bd 0 = bd from (vx_fst_g bd 0).2.1 rfl] at Hf23
          refine jv_Wp.lift (fun _ Kz => jv_Ev.c jv_i295 (pc' := 246) (S' := [.int (vl_I bd)]) jv_i282 [.int (vl_I bd), .int (0 : Int32)] rfl rfl rfl rfl rfl rfl Hf23 rfl rfl Kz) ?_
          refine jv_Wp.lift (fun _ Kz => jv_Ev.steps jv_i295 2 (pc' := 248) (l' := [(2, .int (vl_I bd)), (7, .int (1 : Int32)), (5, .long ((vl_I f.z).toInt64 - (1 : Int64))), (4, .int (vl_I (8 + (76800 + f.d)))), (3, .int (I 205 (76800 + f.d))), (1, .int (vl_I f.z)), (0, .ref 196)]) (st' := [.int (vl_I bd)]) rfl Kz) ?_
          refine jv_Wp.cnd jv_i295 (pt := 253) (pe := 251) (p := ((vl_I bd) ≤ 0)) (q := ((vl_I bd) ≤ 0)) rfl jv_bi_le rfl rfl Iff.rfl (fun h8 => ?_) (fun h8 => ?_)
          · refine jv_Wp.lift (fun _ Kz => jv_Ev.steps jv_i295 1 (pc' := 254) (l' := [(2, .int (vl_I bd)), (7, .int (1 : Int32)), (5, .long ((vl_I f.z).toInt64 - (1 : Int64))), (4, .int (vl_I (8 + (76800 + f.d)))), (3, .int (I 205 (76800 + f.d))), (1, .int (vl_I f.z)), (0, .ref 196)]) (st' := [.ref 196]) rfl Kz) ?_
            refine jv_Wp.lift (fun _ Kz => jv_Ev.m jv_i295 (pc' := 257) (st' := [.int (Int32.ofInt f.i)]) (G' := (jv_H K I L R)) rfl rfl (jv_m_getI (jv_rwK hW 196 12 24 (by decide)) rfl rfl (vr_dJ D)) Kz) ?_
            refine jv_Wp.lift (fun _ Kz => jv_Ev.steps jv_i295 1 (pc' := 260) (l' := [(2, .int (vl_I bd)), (7, .int (1 : Int32)), (5, .long ((vl_I f.z).toInt64 - (1 : Int64))), (4, .int (vl_I (8 + (76800 + f.d)))), (3, .int (I 205 (76800 + f.d))), (1, .int (vl_I f.z)), (0, .ref 196)]) (st' := [.int (241 : Int32), .int (Int32.ofInt f.i)]) rfl Kz) ?_
            refine jv_Wp.cnd jv_i295 (pt := 272) (pe := 263) (p := (¬ (Int32.ofInt f.i) = (241 : Int32))) (q := (¬ (Int32.ofInt f.i) = (241 : Int32))) rfl jv_bc_ne rfl rfl Iff.rfl (fun _ => ?_) (fun hz => absurd h241 hz)
            refine jv_Wp.lift (fun _ Kz => jv_Ev.steps jv_i295 1 (pc' := 273) (l' := [(2, .int (vl_I bd)), (7, .int (1 : Int32)), (5, .long ((vl_I f.z).toInt64 - (1 : Int64))), (4, .int (vl_I (8 + (76800 + f.d)))), (3, .int (I 205 (76800 + f.d))), (1, .int (vl_I f.z)), (0, .ref 196)]) (st' := [.ref 196]) rfl Kz) ?_
            refine jv_Wp.lift (fun _ Kz => jv_Ev.m jv_i295 (pc' := 276) (st' := [.int (Int32.ofInt f.i)]) (G' := (jv_H K I L R)) rfl rfl (jv_m_getI (jv_rwK hW 196 12 24 (by decide)) rfl rfl (vr_dJ D)) Kz) ?_
            refine jv_Wp.lift (fun _ Kz => jv_Ev.steps jv_i295 1 (pc' := 277) (l' := [(2, .int (vl_I bd)), (7, .int (1 : Int32)), (5, .long ((vl_I f.z).toInt64 - (1 : Int64))), (4, .int (vl_I (8 + (76800 + f.d)))), (3, .int (I 205 (76800 + f.d))), (1, .int (vl_I f.z)), (0, .ref 196)]) (st' := [.int (2 : Int32), .int (Int32.ofInt f.i)]) rfl Kz) ?_
            refine jv_Wp.lift (fun _ Kz => jv_Ev.op jv_i295 (pc' := 278) (l' := [(2, .int (vl_I bd)), (7, .int (1 : Int32)), (5, .long ((vl_I f.z).toInt64 - (1 : Int64))), (4, .int (vl_I (8 + (76800 + f.d)))), (3, .int (I 205 (76800 + f.d))), (1, .int (vl_I f.z)), (0, .ref 196)]) (st' := [.int ((Int32.ofInt f.i) - (Int32.ofInt f.i) / (2 : Int32) * (2 : Int32))]) rfl (jv_op_irem (by decide)) Kz) ?_
            refine jv_Wp.lift (fun _ Kz => jv_Ev.steps jv_i295 1 (pc' := 279) (l' := [(2, .int (vl_I bd)), (7, .int (1 : Int32)), (5, .long ((vl_I f.z).toInt64 - (1 : Int64))), (4, .int (vl_I (8 + (76800 + f.d)))), (3, .int (I 205 (76800 + f.d))), (1, .int (vl_I f.z)), (0, .ref 196)]) (st' := [.int (1 : Int32), .int ((Int32.ofInt f.i) - (Int32.ofInt f.i) / (2 : Int32) * (2 : Int32))]) rfl Kz) ?_
            refine jv_Wp.cnd jv_i295 (pt := 291) (pe := 282) (p := (¬ ((Int32.ofInt f.i) - (Int32.ofInt f.i) / (2 : Int32) * (2 : Int32)) = (1 : Int32))) (q := (¬ ((Int32.ofInt f.i) - (Int32.ofInt f.i) / (2 : Int32) * (2 : Int32)) = (1 : Int32))) rfl jv_bc_ne rfl rfl Iff.rfl (fun h9 => ?_) (fun h9 => ?_)
            · refine jv_Wp.lift (fun _ Kz => jv_Ev.steps jv_i295 1 (pc' := 292) (l' := [(2, .int (vl_I bd)), (7, .int (1 : Int32)), (5, .long ((vl_I f.z).toInt64 - (1 : Int64))), (4, .int (vl_I (8 + (76800 + f.d)))), (3, .int (I 205 (76800 + f.d))), (1, .int (vl_I f.z)), (0, .ref 196)]) (st' := [.int (0 : Int32)]) rfl Kz) ?_
              refine jv_Wp.of (jv_Ev.ret jv_i295 rfl rfl) ?_
              rw [hQ]
              have td7 : zd = 7 := (hd ()).symm.trans ((vr_is (L := L) 7 (by decide) okd).mpr (Classical.not_not.mp h1))
              have ts1 : zs = 1 := (hs ()).symm.trans ((vr_is (L := L) 1 (by decide) oks).mpr h7)
              have nx1 : bd ≤ 0 := (vl_I_le (a := bd) (b := 0) (by omega) (by omega)).mp h8
              have ev : vx_even (vr_T I L (76800 + f.d)).val f.o f.z = true := by rw [vr_valv (by rw [(vr_is (L := L) 7 (by decide) okd).mp ((hd ()).trans (by omega))]; rfl), ← vr_dO D, vx_even_r hz]; exact (by rw [decide_eq_true (Classical.not_not.mp h3), decide_eq_true (Classical.not_not.mp h5)]; rfl)
              have r7 := vx_r7' (M := M) (A := (vr_A I L 1024)) (o := f.o) (z := f.z) (w := true) ((hd ()).trans (show zd = 7 by omega))
              rw [hrr ()] at r7
              have e6 : vx_atp M f (vr_A I L 1024) = (0, (vr_A I L 1024)) := vx_at6 (by rw [eD, eS, e0, hd (), hs (), h0 ()]; omega) (by rw [eD, hd ()]; omega) (fun z => z.elim (fun z => by rw [eD, ev] at z; exact absurd z (by decide)) (fun z => by rw [eD, hrr ()] at z; omega)) (by rw [eS, e0, hs (), h0 ()]; omega) (fun z => h9 ((vi_odd2 hi).mpr z))
              exact ⟨_, _, by rw [← eQ, e6]; rfl, fun _ => by rw [← eQ, e6]; exact ⟨rfl, oa⟩, vr_fr_refl hf⟩
            · refine jv_Wp.lift (fun _ Kz => jv_Ev.steps jv_i295 2 (pc' := 284) (l' := [(2, .int (vl_I bd)), (7, .int (1 : Int32)), (5, .long ((vl_I f.z).toInt64 - (1 : Int64))), (4, .int (vl_I (8 + (76800 + f.d)))), (3, .int (I 205 (76800 + f.d))), (1, .int (vl_I f.z)), (0, .ref 196)]) (st' := [.ref 196, .ref 196]) rfl Kz) ?_
              refine jv_Wp.lift (fun _ Kz => jv_Ev.m jv_i295 (pc' := 287) (st' := [.int (vl_I f.s), .ref 196]) (G' := (jv_H K I L R)) rfl rfl (jv_m_getI (jv_rwK hW 196 12 24 (by decide)) rfl rfl D.2.2.1) Kz) ?_
              refine jv_Wp.lift (fun _ Kz => jv_Ev.steps jv_i295 1 (pc' := 288) (l' := [(2, .int (vl_I bd)), (7, .int (1 : Int32)), (5, .long ((vl_I f.z).toInt64 - (1 : Int64))), (4, .int (vl_I (8 + (76800 + f.d)))), (3, .int (I 205 (76800 + f.d))), (1, .int (vl_I f.z)), (0, .ref 196)]) (st' := [.int (vl_I f.z), .int (vl_I f.s), .ref 196]) rfl Kz) ?_
              obtain ⟨I24, L24, H24, T24, O24, F24⟩ := vq_setAny (I := I) (L := L) (R := R) (n := n) (sl := sl) f.s f.z hW hf (by omega) hz
              refine jv_Wp.lift (fun _ Kz => jv_Ev.c jv_i295 (pc' := 291) (S' := []) (G1 := (jv_H K I24 L24 R)) jv_i274 [.ref 196, .int (vl_I f.s), .int (vl_I f.z)] rfl rfl rfl rfl (jv_cal rfl (jv_H_at (jv_rwK hW 196 12 24 (by decide))) rfl rfl) rfl H24 rfl rfl Kz) ?_
              refine jv_Wp.lift (fun _ Kz => jv_Ev.steps jv_i295 1 (pc' := 292) (l' := [(2, .int (vl_I bd)), (7, .int (1 : Int32)), (5, .long ((vl_I f.z).toInt64 - (1 : Int64))), (4, .int (vl_I (8 + (76800 + f.d)))), (3, .int (I 205 (76800 + f.d))), (1, .int (vl_I f.z)), (0, .ref 196)]) (st' := [.int (0 : Int32)]) rfl Kz) ?_
              refine jv_Wp.of (jv_Ev.ret jv_i295 rfl rfl) ?_
              rw [hQ]
              have td7 : zd = 7 := (hd ()).symm.trans ((vr_is (L := L) 7 (by decide) okd).mpr (Classical.not_not.mp h1))
              have ts1 : zs = 1 := (hs ()).symm.trans ((vr_is (L := L) 1 (by decide) oks).mpr h7)
              have nx1 : bd ≤ 0 := (vl_I_le (a := bd) (b := 0) (by omega) (by omega)).mp h8
              have ev : vx_even (vr_T I L (76800 + f.d)).val f.o f.z = true := by rw [vr_valv (by rw [(vr_is (L := L) 7 (by decide) okd).mp ((hd ()).trans (by omega))]; rfl), ← vr_dO D, vx_even_r hz]; exact (by rw [decide_eq_true (Classical.not_not.mp h3), decide_eq_true (Classical.not_not.mp h5)]; rfl)
              have r7 := vx_r7' (M := M) (A := (vr_A I L 1024)) (o := f.o) (z := f.z) (w := true) ((hd ()).trans (show zd = 7 by omega))
              rw [hrr ()] at r7
              have e5 : vx_atp M f (vr_A I L 1024) = (0, vt_up (vr_A I L 1024) f.s (vt_num (vx_anyz f.z))) := by have q := vx_at5 (M := M) (f := f) (A := (vr_A I L 1024)) (by rw [eD, eS, e0, hd (), hs (), h0 ()]; omega) (by rw [eD, hd ()]; omega) (fun z => z.elim (fun z => by rw [eD, ev] at z; exact absurd z (by decide)) (fun z => by rw [eD, hrr ()] at z; omega)) (by rw [eS, e0, hs (), h0 ()]; omega) ((vi_odd2 hi).mp (Classical.not_not.mp h9)); rw [if_neg m241] at q; exact q
              have u := vr_upA (I := I) (L := L) (k := 1024) (r := f.s) (t := (vt_num (vx_anyz f.z))) (by omega) T24 O24 F24 (fun n hn e q => e (by omega)) oa
              exact ⟨_, _, by rw [← eQ, e5]; rfl, fun _ => by rw [← eQ, e5]; exact u, vr_fr_P F24 (fun x z => by omega)⟩
          · refine jv_Wp.lift (fun _ Kz => jv_Ev.steps jv_i295 1 (pc' := 252) (l' := [(2, .int (vl_I bd)), (7, .int (1 : Int32)), (5, .long ((vl_I f.z).toInt64 - (1 : Int64))), (4, .int (vl_I (8 + (76800 + f.d)))), (3, .int (I 205 (76800 + f.d))), (1, .int (vl_I f.z)), (0, .ref 196)]) (st' := [.int (vl_I bd)]) rfl Kz) ?_
            refine jv_Wp.of (jv_Ev.ret jv_i295 rfl rfl) ?_
            rw [hQ]
            have td7 : zd = 7 := (hd ()).symm.trans ((vr_is (L := L) 7 (by decide) okd).mpr (Classical.not_not.mp h1))
            have ts1 : zs = 1 := (hs ()).symm.trans ((vr_is (L := L) 1 (by decide) oks).mpr h7)
            have nx1 : ¬ bd ≤ 0 := fun z => h8 ((vl_I_le (a := bd) (b := 0) (by omega) (by omega)).mpr z)
            have ev : vx_even (vr_T I L (76800 + f.d)).val f.o f.z = true := by rw [vr_valv (by rw [(vr_is (L := L) 7 (by decide) okd).mp ((hd ()).trans (by omega))]; rfl), ← vr_dO D, vx_even_r hz]; exact (by rw [decide_eq_true (Classical.not_not.mp h3), decide_eq_true (Classical.not_not.mp h5)]; rfl)
            have r7 := vx_r7' (M := M) (A := (vr_A I L 1024)) (o := f.o) (z := f.z) (w := true) ((hd ()).trans (show zd = 7 by omega))
            rw [hrr ()] at r7
            have b0 : ¬ bd ≤ 0 := fun z => h8 ((vl_I_le (b := 0) (by omega) (by decide)).mpr z)
            have e : vx_atp M f (vr_A I L 1024) = (bd, (vr_A I L 1024)) := by
              by_cases c2 : rr ≠ 0
              · rw [show bd = 4 by omega]; exact vx_at3 (by rw [eD, eS, e0, hd (), hs (), h0 ()]; omega) (by rw [eD, hd ()]; omega) (Or.inr (by rw [eD, hrr ()]; exact c2))
              · rw [show bd = 6 by omega]; exact vx_at4 (by rw [eD, eS, e0, hd (), hs (), h0 ()]; omega) (by rw [eD, hd ()]; omega) (fun z => z.elim (fun z => by rw [eD, ev] at z; exact absurd z (by decide)) (fun z => by rw [eD, hrr ()] at z; omega)) (by rw [eS, e0, hs (), h0 ()]; omega)
            exact ⟨_, _, by rw [← eQ, e], fun z => by rw [← eQ, e] at z; exact absurd (show (bd : Nat) = 0 from z) (by omega), vr_fr_refl hf⟩
        · refine jv_Wp.lift (fun _ Kz => jv_Ev.steps jv_i295 2 (pc' := 205) (l' := [(2, .int (vl_I bd)), (7, .int (1 : Int32)), (5, .long ((vl_I f.z).toInt64 - (1 : Int64))), (4, .int (vl_I (8 + (76800 + f.d)))), (3, .int (I 205 (76800 + f.d))), (1, .int (vl_I f.z)), (0, .ref 196)]) (st' := [.int (6 : Int32), .int (vl_I bd)]) rfl Kz) ?_
          obtain ⟨w26, hq26⟩ : ∃ x : Nat, ∀ _ : Unit, vx_fst bd 6 = x := ⟨_, fun _ => rfl⟩
          have fq26 : (bd = 0 → w26 = 6) ∧ (6 = 0 → w26 = bd) ∧ (w26 = bd ∨ w26 = 6) ∧ (bd ≠ 0 → 6 ≠ 0 → w26 ≤ bd ∧ w26 ≤ 6) := by rw [← hq26 ()]; exact vx_fst_g bd 6
          have Hf26 := vq_first (I := I) (L := L) (K := K) (R := R) (n := n) (sl := sl) bd 6 (by omega) (by omega)
          rw [hq26 ()] at Hf26
          refine jv_Wp.lift (fun _ Kz => jv_Ev.c jv_i295 (pc' := 208) (S' := [.int (vl_I w26)]) jv_i282 [.int (vl_I bd), .int (6 : Int32)] rfl rfl rfl rfl rfl rfl Hf26 rfl rfl Kz) ?_
          refine jv_Wp.lift (fun _ Kz => jv_Ev.steps jv_i295 3 (pc' := 211) (l' := [(2, .int (vl_I w26)), (7, .int (1 : Int32)), (5, .long ((vl_I f.z).toInt64 - (1 : Int64))), (4, .int (vl_I (8 + (76800 + f.d)))), (3, .int (I 205 (76800 + f.d))), (1, .int (vl_I f.z)), (0, .ref 196)]) (st' := [.ref 196, .int (vl_I w26)]) rfl Kz) ?_
          refine jv_Wp.lift (fun _ Kz => jv_Ev.m jv_i295 (pc' := 214) (st' := [.int (Int32.ofInt f.i), .int (vl_I w26)]) (G' := (jv_H K I L R)) rfl rfl (jv_m_getI (jv_rwK hW 196 12 24 (by decide)) rfl rfl (vr_dJ D)) Kz) ?_
          refine jv_Wp.lift (fun _ Kz => jv_Ev.steps jv_i295 1 (pc' := 217) (l' := [(2, .int (vl_I w26)), (7, .int (1 : Int32)), (5, .long ((vl_I f.z).toInt64 - (1 : Int64))), (4, .int (vl_I (8 + (76800 + f.d)))), (3, .int (I 205 (76800 + f.d))), (1, .int (vl_I f.z)), (0, .ref 196)]) (st' := [.int (241 : Int32), .int (Int32.ofInt f.i), .int (vl_I w26)]) rfl Kz) ?_
          refine jv_Wp.cnd jv_i295 (pt := 242) (pe := 220) (p := (¬ (Int32.ofInt f.i) = (241 : Int32))) (q := (¬ (Int32.ofInt f.i) = (241 : Int32))) rfl jv_bc_ne rfl rfl Iff.rfl (fun _ => ?_) (fun hz => absurd h241 hz)
          refine jv_Wp.lift (fun _ Kz => jv_Ev.steps jv_i295 1 (pc' := 243) (l' := [(2, .int (vl_I w26)), (7, .int (1 : Int32)), (5, .long ((vl_I f.z).toInt64 - (1 : Int64))), (4, .int (vl_I (8 + (76800 + f.d)))), (3, .int (I 205 (76800 + f.d))), (1, .int (vl_I f.z)), (0, .ref 196)]) (st' := [.int (0 : Int32), .int (vl_I w26)]) rfl Kz) ?_
          have Hf27 := vq_first (I := I) (L := L) (K := K) (R := R) (n := n) (sl := sl) w26 0 (by omega) (by omega)
          rw [show vx_fst w26 0 = w26 from (vx_fst_g w26 0).2.1 rfl] at Hf27
          refine jv_Wp.lift (fun _ Kz => jv_Ev.c jv_i295 (pc' := 246) (S' := [.int (vl_I w26)]) jv_i282 [.int (vl_I w26), .int (0 : Int32)] rfl rfl rfl rfl rfl rfl Hf27 rfl rfl Kz) ?_
          refine jv_Wp.lift (fun _ Kz => jv_Ev.steps jv_i295 2 (pc' := 248) (l' := [(2, .int (vl_I w26)), (7, .int (1 : Int32)), (5, .long ((vl_I f.z).toInt64 - (1 : Int64))), (4, .int (vl_I (8 + (76800 + f.d)))), (3, .int (I 205 (76800 + f.d))), (1, .int (vl_I f.z)), (0, .ref 196)]) (st' := [.int (vl_I w26)]) rfl Kz) ?_
          refine jv_Wp.cnd jv_i295 (pt := 253) (pe := 251) (p := ((vl_I w26) ≤ 0)) (q := ((vl_I w26) ≤ 0)) rfl jv_bi_le rfl rfl Iff.rfl (fun h10 => ?_) (fun h10 => ?_)
          · refine jv_Wp.lift (fun _ Kz => jv_Ev.steps jv_i295 1 (pc' := 254) (l' := [(2, .int (vl_I w26)), (7, .int (1 : Int32)), (5, .long ((vl_I f.z).toInt64 - (1 : Int64))), (4, .int (vl_I (8 + (76800 + f.d)))), (3, .int (I 205 (76800 + f.d))), (1, .int (vl_I f.z)), (0, .ref 196)]) (st' := [.ref 196]) rfl Kz) ?_
            refine jv_Wp.lift (fun _ Kz => jv_Ev.m jv_i295 (pc' := 257) (st' := [.int (Int32.ofInt f.i)]) (G' := (jv_H K I L R)) rfl rfl (jv_m_getI (jv_rwK hW 196 12 24 (by decide)) rfl rfl (vr_dJ D)) Kz) ?_
            refine jv_Wp.lift (fun _ Kz => jv_Ev.steps jv_i295 1 (pc' := 260) (l' := [(2, .int (vl_I w26)), (7, .int (1 : Int32)), (5, .long ((vl_I f.z).toInt64 - (1 : Int64))), (4, .int (vl_I (8 + (76800 + f.d)))), (3, .int (I 205 (76800 + f.d))), (1, .int (vl_I f.z)), (0, .ref 196)]) (st' := [.int (241 : Int32), .int (Int32.ofInt f.i)]) rfl Kz) ?_
            refine jv_Wp.cnd jv_i295 (pt := 272) (pe := 263) (p := (¬ (Int32.ofInt f.i) = (241 : Int32))) (q := (¬ (Int32.ofInt f.i) = (241 : Int32))) rfl jv_bc_ne rfl rfl Iff.rfl (fun _ => ?_) (fun hz => absurd h241 hz)
            refine jv_Wp.lift (fun _ Kz => jv_Ev.steps jv_i295 1 (pc' := 273) (l' := [(2, .int (vl_I w26)), (7, .int (1 : Int32)), (5, .long ((vl_I f.z).toInt64 - (1 : Int64))), (4, .int (vl_I (8 + (76800 + f.d)))), (3, .int (I 205 (76800 + f.d))), (1, .int (vl_I f.z)), (0, .ref 196)]) (st' := [.ref 196]) rfl Kz) ?_
            refine jv_Wp.lift (fun _ Kz => jv_Ev.m jv_i295 (pc' := 276) (st' := [.int (Int32.ofInt f.i)]) (G' := (jv_H K I L R)) rfl rfl (jv_m_getI (jv_rwK hW 196 12 24 (by decide)) rfl rfl (vr_dJ D)) Kz) ?_
            refine jv_Wp.lift (fun _ Kz => jv_Ev.steps jv_i295 1 (pc' := 277) (l' := [(2, .int (vl_I w26)), (7, .int (1 : Int32)), (5, .long ((vl_I f.z).toInt64 - (1 : Int64))), (4, .int (vl_I (8 + (76800 + f.d)))), (3, .int (I 205 (76800 + f.d))), (1, .int (vl_I f.z)), (0, .ref 196)]) (st' := [.int (2 : Int32), .int (Int32.ofInt f.i)]) rfl Kz) ?_
            refine jv_Wp.lift (fun _ Kz => jv_Ev.op jv_i295 (pc' := 278) (l' := [(2, .int (vl_I w26)), (7, .int (1 : Int32)), (5, .long ((vl_I f.z).toInt64 - (1 : Int64))), (4, .int (vl_I (8 + (76800 + f.d)))), (3, .int (I 205 (76800 + f.d))), (1, .int (vl_I f.z)), (0, .ref 196)]) (st' := [.int ((Int32.ofInt f.i) - (Int32.ofInt f.i) / (2 : Int32) * (2 : Int32))]) rfl (jv_op_irem (by decide)) Kz) ?_
            refine jv_Wp.lift (fun _ Kz => jv_Ev.steps jv_i295 1 (pc' := 279) (l' := [(2, .int (vl_I w26)), (7, .int (1 : Int32)), (5, .long ((vl_I f.z).toInt64 - (1 : Int64))), (4, .int (vl_I (8 + (76800 + f.d)))), (3, .int (I 205 (76800 + f.d))), (1, .int (vl_I f.z)), (0, .ref 196)]) (st' := [.int (1 : Int32), .int ((Int32.ofInt f.i) - (Int32.ofInt f.i) / (2 : Int32) * (2 : Int32))]) rfl Kz) ?_
            refine jv_Wp.cnd jv_i295 (pt := 291) (pe := 282) (p := (¬ ((Int32.ofInt f.i) - (Int32.ofInt f.i) / (2 : Int32) * (2 : Int32)) = (1 : Int32))) (q := (¬ ((Int32.ofInt f.i) - (Int32.ofInt f.i) / (2 : Int32) * (2 : Int32)) = (1 : Int32))) rfl jv_bc_ne rfl rfl Iff.rfl (fun h11 => ?_) (fun h11 => ?_)
            · refine jv_Wp.lift (fun _ Kz => jv_Ev.steps jv_i295 1 (pc' := 292) (l' := [(2, .int (vl_I w26)), (7, .int (1 : Int32)), (5, .long ((vl_I f.z).toInt64 - (1 : Int64))), (4, .int (vl_I (8 + (76800 + f.d)))), (3, .int (I 205 (76800 + f.d))), (1, .int (vl_I f.z)), (0, .ref 196)]) (st' := [.int (0 : Int32)]) rfl Kz) ?_
              refine jv_Wp.of (jv_Ev.ret jv_i295 rfl rfl) ?_
              rw [hQ]
              have td7 : zd = 7 := (hd ()).symm.trans ((vr_is (L := L) 7 (by decide) okd).mpr (Classical.not_not.mp h1))
              have ts1 : ¬ zs = 1 := fun z => h7 ((vr_is (L := L) 1 (by decide) oks).mp ((hs ()).trans z))
              have nx1 : w26 ≤ 0 := (vl_I_le (a := w26) (b := 0) (by omega) (by omega)).mp h10
              have ev : vx_even (vr_T I L (76800 + f.d)).val f.o f.z = true := by rw [vr_valv (by rw [(vr_is (L := L) 7 (by decide) okd).mp ((hd ()).trans (by omega))]; rfl), ← vr_dO D, vx_even_r hz]; exact (by rw [decide_eq_true (Classical.not_not.mp h3), decide_eq_true (Classical.not_not.mp h5)]; rfl)
              have r7 := vx_r7' (M := M) (A := (vr_A I L 1024)) (o := f.o) (z := f.z) (w := true) ((hd ()).trans (show zd = 7 by omega))
              rw [hrr ()] at r7
              have e6 : vx_atp M f (vr_A I L 1024) = (0, (vr_A I L 1024)) := vx_at6 (by rw [eD, eS, e0, hd (), hs (), h0 ()]; omega) (by rw [eD, hd ()]; omega) (fun z => z.elim (fun z => by rw [eD, ev] at z; exact absurd z (by decide)) (fun z => by rw [eD, hrr ()] at z; omega)) (by rw [eS, e0, hs (), h0 ()]; omega) (fun z => h11 ((vi_odd2 hi).mpr z))
              exact ⟨_, _, by rw [← eQ, e6]; rfl, fun _ => by rw [← eQ, e6]; exact ⟨rfl, oa⟩, vr_fr_refl hf⟩
            · refine jv_Wp.lift (fun _ Kz => jv_Ev.steps jv_i295 2 (pc' := 284) (l' := [(2, .int (vl_I w26)), (7, .int (1 : Int32)), (5, .long ((vl_I f.z).toInt64 - (1 : Int64))), (4, .int (vl_I (8 + (76800 + f.d)))), (3, .int (I 205 (76800 + f.d))), (1, .int (vl_I f.z)), (0, .ref 196)]) (st' := [.ref 196, .ref 196]) rfl Kz) ?_
              refine jv_Wp.lift (fun _ Kz => jv_Ev.m jv_i295 (pc' := 287) (st' := [.int (vl_I f.s), .ref 196]) (G' := (jv_H K I L R)) rfl rfl (jv_m_getI (jv_rwK hW 196 12 24 (by decide)) rfl rfl D.2.2.1) Kz) ?_
              refine jv_Wp.lift (fun _ Kz => jv_Ev.steps jv_i295 1 (pc' := 288) (l' := [(2, .int (vl_I w26)), (7, .int (1 : Int32)), (5, .long ((vl_I f.z).toInt64 - (1 : Int64))), (4, .int (vl_I (8 + (76800 + f.d)))), (3, .int (I 205 (76800 + f.d))), (1, .int (vl_I f.z)), (0, .ref 196)]) (st' := [.int (vl_I f.z), .int (vl_I f.s), .ref 196]) rfl Kz) ?_
              obtain ⟨I28, L28, H28, T28, O28, F28⟩ := vq_setAny (I := I) (L := L) (R := R) (n := n) (sl := sl) f.s f.z hW hf (by omega) hz
              refine jv_Wp.lift (fun _ Kz => jv_Ev.c jv_i295 (pc' := 291) (S' := []) (G1 := (jv_H K I28 L28 R)) jv_i274 [.ref 196, .int (vl_I f.s), .int (vl_I f.z)] rfl rfl rfl rfl (jv_cal rfl (jv_H_at (jv_rwK hW 196 12 24 (by decide))) rfl rfl) rfl H28 rfl rfl Kz) ?_
              refine jv_Wp.lift (fun _ Kz => jv_Ev.steps jv_i295 1 (pc' := 292) (l' := [(2, .int (vl_I w26)), (7, .int (1 : Int32)), (5, .long ((vl_I f.z).toInt64 - (1 : Int64))), (4, .int (vl_I (8 + (76800 + f.d)))), (3, .int (I 205 (76800 + f.d))), (1, .int (vl_I f.z)), (0, .ref 196)]) (st' := [.int (0 : Int32)]) rfl Kz) ?_
              refine jv_Wp.of (jv_Ev.ret jv_i295 rfl rfl) ?_
              rw [hQ]
              have td7 : zd = 7 := (hd ()).symm.trans ((vr_is (L := L) 7 (by decide) okd).mpr (Classical.not_not.mp h1))
              have ts1 : ¬ zs = 1 := fun z => h7 ((vr_is (L := L) 1 (by decide) oks).mp ((hs ()).trans z))
              have nx1 : w26 ≤ 0 := (vl_I_le (a := w26) (b := 0) (by omega) (by omega)).mp h10
              have ev : vx_even (vr_T I L (76800 + f.d)).val f.o f.z = true := by rw [vr_valv (by rw [(vr_is (L := L) 7 (by decide) okd).mp ((hd ()).trans (by omega))]; rfl), ← vr_dO D, vx_even_r hz]; exact (by rw [decide_eq_true (Classical.not_not.mp h3), decide_eq_true (Classical.not_not.mp h5)]; rfl)
              have r7 := vx_r7' (M := M) (A := (vr_A I L 1024)) (o := f.o) (z := f.z) (w := true) ((hd ()).trans (show zd = 7 by omega))
              rw [hrr ()] at r7
              have e5 : vx_atp M f (vr_A I L 1024) = (0, vt_up (vr_A I L 1024) f.s (vt_num (vx_anyz f.z))) := by have q := vx_at5 (M := M) (f := f) (A := (vr_A I L 1024)) (by rw [eD, eS, e0, hd (), hs (), h0 ()]; omega) (by rw [eD, hd ()]; omega) (fun z => z.elim (fun z => by rw [eD, ev] at z; exact absurd z (by decide)) (fun z => by rw [eD, hrr ()] at z; omega)) (by rw [eS, e0, hs (), h0 ()]; omega) ((vi_odd2 hi).mp (Classical.not_not.mp h11)); rw [if_neg m241] at q; exact q
              have u := vr_upA (I := I) (L := L) (k := 1024) (r := f.s) (t := (vt_num (vx_anyz f.z))) (by omega) T28 O28 F28 (fun n hn e q => e (by omega)) oa
              exact ⟨_, _, by rw [← eQ, e5]; rfl, fun _ => by rw [← eQ, e5]; exact u, vr_fr_P F28 (fun x z => by omega)⟩
          · refine jv_Wp.lift (fun _ Kz => jv_Ev.steps jv_i295 1 (pc' := 252) (l' := [(2, .int (vl_I w26)), (7, .int (1 : Int32)), (5, .long ((vl_I f.z).toInt64 - (1 : Int64))), (4, .int (vl_I (8 + (76800 + f.d)))), (3, .int (I 205 (76800 + f.d))), (1, .int (vl_I f.z)), (0, .ref 196)]) (st' := [.int (vl_I w26)]) rfl Kz) ?_
            refine jv_Wp.of (jv_Ev.ret jv_i295 rfl rfl) ?_
            rw [hQ]
            have td7 : zd = 7 := (hd ()).symm.trans ((vr_is (L := L) 7 (by decide) okd).mpr (Classical.not_not.mp h1))
            have ts1 : ¬ zs = 1 := fun z => h7 ((vr_is (L := L) 1 (by decide) oks).mp ((hs ()).trans z))
            have nx1 : ¬ w26 ≤ 0 := fun z => h10 ((vl_I_le (a := w26) (b := 0) (by omega) (by omega)).mpr z)
            have ev : vx_even (vr_T I L (76800 + f.d)).val f.o f.z = true := by rw [vr_valv (by rw [(vr_is (L := L) 7 (by decide) okd).mp ((hd ()).trans (by omega))]; rfl), ← vr_dO D, vx_even_r hz]; exact (by rw [decide_eq_true (Classical.not_not.mp h3), decide_eq_true (Classical.not_not.mp h5)]; rfl)
            have r7 := vx_r7' (M := M) (A := (vr_A I L 1024)) (o := f.o) (z := f.z) (w := true) ((hd ()).trans (show zd = 7 by omega))
            rw [hrr ()] at r7
            have b0 : ¬ w26 ≤ 0 := fun z => h10 ((vl_I_le (b := 0) (by omega) (by decide)).mpr z)
            have e : vx_atp M f (vr_A I L 1024) = (w26, (vr_A I L 1024)) := by
              by_cases c2 : rr ≠ 0
              · rw [show w26 = 4 by omega]; exact vx_at3 (by rw [eD, eS, e0, hd (), hs (), h0 ()]; omega) (by rw [eD, hd ()]; omega) (Or.inr (by rw [eD, hrr ()]; exact c2))
              · rw [show w26 = 6 by omega]; exact vx_at4 (by rw [eD, eS, e0, hd (), hs (), h0 ()]; omega) (by rw [eD, hd ()]; omega) (fun z => z.elim (fun z => by rw [eD, ev] at z; exact absurd z (by decide)) (fun z => by rw [eD, hrr ()] at z; omega)) (by rw [eS, e0, hs (), h0 ()]; omega)
            exact ⟨_, _, by rw [← eQ, e], fun z => by rw [← eQ, e] at z; exact absurd (show (w26 : Nat) = 0 from z) (by omega), vr_fr_refl hf⟩
theorem vq_atomicNB {K : Nat → Option (Nat × Nat)} {I : Nat → Nat → Int32} {L : Nat → Nat → Int64} {R : Nat → Nat → Value} (M : vf_M) (f : vf_F) (hW : jv_rW K R) (hf : vr_fl I) (hM : vr_M I M) (D : vr_dec I f) (hi : 0 ≤ f.i ∧ f.i < 256) (m241 : ¬ f.i = 241) (oa : vr_okA I 1024) (gA : ∀ n, n < 75 → vt_g (vr_T I L (76800 + n))) (hd11 : f.d < 11) (hs11 : f.s < 11) (gN : (vr_T I L (76800 + f.d)).sort = 0 ∨ (vr_T I L (76800 + f.s)).sort = 0) {n sl : Nat} : ∃ I1 L1, jv_Ms 295 [.ref 196] (jv_H K I L R) n sl (some (.int (vl_I (vx_atomic M f (vr_A I L 1024)).1)), jv_H K I1 L1 R, n, sl) ∧ ((vx_atomic M f (vr_A I L 1024)).1 = 0 → vr_A I1 L1 1024 = (vx_atomic M f (vr_A I L 1024)).2 ∧ vr_okA I1 1024) ∧ vr_fr (fun x => x = 76800 ∨ x = 76800 + f.s) noE I L I1 L1 := by
  obtain ⟨Q, hQ⟩ : ∃ Q : jv_R → Prop, Q = fun X => ∃ I1 L1, X = (some (.int (vl_I (vx_atomic M f (vr_A I L 1024)).1)), jv_H K I1 L1 R, n, sl) ∧ ((vx_atomic M f (vr_A I L 1024)).1 = 0 → vr_A I1 L1 1024 = (vx_atomic M f (vr_A I L 1024)).2 ∧ vr_okA I1 1024) ∧ vr_fr (fun x => x = 76800 ∨ x = 76800 + f.s) noE I L I1 L1 := ⟨_, rfl⟩
  suffices h : jv_Wp 295 0 [(0, .ref 196)] [] (jv_H K I L R) n sl Q by
    rw [hQ] at h
    obtain ⟨X, h, I1, L1, e, h'⟩ := h
    subst e
    exact ⟨I1, L1, h, h'⟩
  have hz := vf_z f
  have h241 : ¬ Int32.ofInt f.i = (241 : Int32) := fun z => m241 (by rw [← vr_dQ D, z]; rfl)
  have okd : vr_ok I (76800 + f.d) f.d := oa f.d (by omega)
  have eD : (vr_A I L 1024).1 f.d = (vr_T I L (76800 + f.d)) := vr_A1 (by omega)
  obtain ⟨zd, hd⟩ : ∃ x : Nat, ∀ _ : Unit, (vr_T I L (76800 + f.d)).sort = x := ⟨_, fun _ => rfl⟩
  obtain ⟨rd, hrd⟩ : ∃ x : Nat, ∀ _ : Unit, vr_rd (I 205 (76800 + f.d)) = x := ⟨_, fun _ => rfl⟩
  have rdfd : (zd = 0 → rd = 1) ∧ (zd ≠ 0 → rd = 0) := by rw [← hd (), ← hrd ()]; exact vr_rd_f okd hd11
  have oks : vr_ok I (76800 + f.s) f.s := oa f.s (by omega)
  have eS : (vr_A I L 1024).1 f.s = (vr_T I L (76800 + f.s)) := vr_A1 (by omega)
  obtain ⟨zs, hs⟩ : ∃ x : Nat, ∀ _ : Unit, (vr_T I L (76800 + f.s)).sort = x := ⟨_, fun _ => rfl⟩
  obtain ⟨rs, hrs⟩ : ∃ x : Nat, ∀ _ : Unit, vr_rd (I 205 (76800 + f.s)) = x := ⟨_, fun _ => rfl⟩
  have rdfs : (zs = 0 → rs = 1) ∧ (zs ≠ 0 → rs = 0) := by rw [← hs (), ← hrs ()]; exact vr_rd_f oks hs11
  have ok0 : vr_ok I (76800 + 0) 0 := oa 0 (by omega)
  have e0 : (vr_A I L 1024).1 0 = (vr_T I L (76800 + 0)) := vr_A1 (by omega)
  obtain ⟨z0, h0⟩ : ∃ x : Nat, ∀ _ : Unit, (vr_T I L (76800 + 0)).sort = x := ⟨_, fun _ => rfl⟩
  obtain ⟨r0, hr0⟩ : ∃ x : Nat, ∀ _ : Unit, vr_rd (I 205 (76800 + 0)) = x := ⟨_, fun _ => rfl⟩
  have rdf0 : (z0 = 0 → r0 = 1) ∧ (z0 ≠ 0 → r0 = 0) := by rw [← h0 (), ← hr0 ()]; exact vr_rd_f ok0 (by decide)
  obtain ⟨kd, k8, hkd⟩ := vr_kdx (L := L) okd (gA f.d (by omega))
  obtain ⟨bd, hbd⟩ : ∃ x : Nat, ∀ _ : Unit, vr_re M (vr_A I L 1024) (vr_T I L (76800 + f.d)) f.o f.z true = x := ⟨_, fun _ => rfl⟩
  have bd5 : bd < 5 := by rw [← hbd ()]; exact vr_re_lt
  obtain ⟨rr, hrr⟩ : ∃ x : Nat, ∀ _ : Unit, vx_reach M (vr_A I L 1024) (vr_T I L (76800 + f.d)) f.o f.z true = x := ⟨_, fun _ => rfl⟩
  have rr5 : rr < 5 := by rw [← hrr ()]; exact vx_reach_lt
  have bdf := vr_re_f (hbd ()) (hd ()) (hrr ())
  have eQ : vx_atp M f (vr_A I L 1024) = vx_atomic M f (vr_A I L 1024) := (vx_atp_eq M f (vr_A I L 1024)).symm
  rw [hd (), hs ()] at gN
  refine jv_Wp.lift (fun _ Kz => jv_Ev.steps jv_i295 1 (pc' := 1) (l' := [(0, .ref 196)]) (st' := [.ref 196]) rfl Kz) ?_
  refine jv_Wp.lift (fun _ Kz => jv_Ev.c jv_i295 (pc' := 4) (S' := [.int (vl_I f.z)]) jv_i260 [.ref 196] rfl rfl rfl rfl (jv_cal rfl (jv_H_at (jv_rwK hW 196 12 24 (by decide))) rfl rfl) rfl (vq_size f hW D) rfl rfl Kz) ?_
  refine jv_Wp.lift (fun _ Kz => jv_Ev.steps jv_i295 3 (pc' := 7) (l' := [(1, .int (vl_I f.z)), (0, .ref 196)]) (st' := [.ref 196, .ref 196]) rfl Kz) ?_
  refine jv_Wp.lift (fun _ Kz => jv_Ev.m jv_i295 (pc' := 10) (st' := [.int (vl_I f.d), .ref 196]) (G' := (jv_H K I L R)) rfl rfl (jv_m_getI (jv_rwK hW 196 12 24 (by decide)) rfl rfl D.2.1) Kz) ?_
  have Hr29 := vq_reads (I := I) (L := L) (K := K) (R := R) (n := n) (sl := sl) f.d hW (by omega)
  rw [hrd ()] at Hr29
  refine jv_Wp.lift (fun _ Kz => jv_Ev.c jv_i295 (pc' := 13) (S' := [.int (vl_I rd)]) jv_i283 [.ref 196, .int (vl_I f.d)] rfl rfl rfl rfl (jv_cal rfl (jv_H_at (jv_rwK hW 196 12 24 (by decide))) rfl rfl) rfl Hr29 rfl rfl Kz) ?_
  refine jv_Wp.lift (fun _ Kz => jv_Ev.steps jv_i295 2 (pc' := 15) (l' := [(1, .int (vl_I f.z)), (0, .ref 196)]) (st' := [.ref 196, .ref 196, .int (vl_I rd)]) rfl Kz) ?_
  refine jv_Wp.lift (fun _ Kz => jv_Ev.m jv_i295 (pc' := 18) (st' := [.int (vl_I f.s), .ref 196, .int (vl_I rd)]) (G' := (jv_H K I L R)) rfl rfl (jv_m_getI (jv_rwK hW 196 12 24 (by decide)) rfl rfl D.2.2.1) Kz) ?_
  have Hr30 := vq_reads (I := I) (L := L) (K := K) (R := R) (n := n) (sl := sl) f.s hW (by omega)
  rw [hrs ()] at Hr30
  refine jv_Wp.lift (fun _ Kz => jv_Ev.c jv_i295 (pc' := 21) (S' := [.int (vl_I rs), .int (vl_I rd)]) jv_i283 [.ref 196, .int (vl_I f.s)] rfl rfl rfl rfl (jv_cal rfl (jv_H_at (jv_rwK hW 196 12 24 (by decide))) rfl rfl) rfl Hr30 rfl rfl Kz) ?_
  obtain ⟨w32, hq32⟩ : ∃ x : Nat, ∀ _ : Unit, vx_fst rd rs = x := ⟨_, fun _ => rfl⟩
  have fq32 : (rd = 0 → w32 = rs) ∧ (rs = 0 → w32 = rd) ∧ (w32 = rd ∨ w32 = rs) ∧ (rd ≠ 0 → rs ≠ 0 → w32 ≤ rd ∧ w32 ≤ rs) := by rw [← hq32 ()]; exact vx_fst_g rd rs
  have Hf32 := vq_first (I := I) (L := L) (K := K) (R := R) (n := n) (sl := sl) rd rs (by omega) (by omega)
  rw [hq32 ()] at Hf32
  refine jv_Wp.lift (fun _ Kz => jv_Ev.c jv_i295 (pc' := 24) (S' := [.int (vl_I w32)]) jv_i282 [.int (vl_I rd), .int (vl_I rs)] rfl rfl rfl rfl rfl rfl Hf32 rfl rfl Kz) ?_
  refine jv_Wp.lift (fun _ Kz => jv_Ev.steps jv_i295 3 (pc' := 27) (l' := [(2, .int (vl_I w32)), (1, .int (vl_I f.z)), (0, .ref 196)]) (st' := [.ref 196, .int (vl_I w32)]) rfl Kz) ?_
  refine jv_Wp.lift (fun _ Kz => jv_Ev.m jv_i295 (pc' := 30) (st' := [.int (Int32.ofInt f.i), .int (vl_I w32)]) (G' := (jv_H K I L R)) rfl rfl (jv_m_getI (jv_rwK hW 196 12 24 (by decide)) rfl rfl (vr_dJ D)) Kz) ?_
  refine jv_Wp.lift (fun _ Kz => jv_Ev.steps jv_i295 1 (pc' := 33) (l' := [(2, .int (vl_I w32)), (1, .int (vl_I f.z)), (0, .ref 196)]) (st' := [.int (241 : Int32), .int (Int32.ofInt f.i), .int (vl_I w32)]) rfl Kz) ?_
  refine jv_Wp.cnd jv_i295 (pt := 44) (pe := 36) (p := (¬ (Int32.ofInt f.i) = (241 : Int32))) (q := (¬ (Int32.ofInt f.i) = (241 : Int32))) rfl jv_bc_ne rfl rfl Iff.rfl (fun _ => ?_) (fun hz => absurd h241 hz)
  refine jv_Wp.lift (fun _ Kz => jv_Ev.steps jv_i295 1 (pc' := 45) (l' := [(2, .int (vl_I w32)), (1, .int (vl_I f.z)), (0, .ref 196)]) (st' := [.int (0 : Int32), .int (vl_I w32)]) rfl Kz) ?_
  have Hf33 := vq_first (I := I) (L := L) (K := K) (R := R) (n := n) (sl := sl) w32 0 (by omega) (by omega)
  rw [show vx_fst w32 0 = 1 from by have q := vx_fst_g w32 0; omega] at Hf33
  refine jv_Wp.lift (fun _ Kz => jv_Ev.c jv_i295 (pc' := 48) (S' := [.int (1 : Int32)]) jv_i282 [.int (vl_I w32), .int (0 : Int32)] rfl rfl rfl rfl rfl rfl Hf33 rfl rfl Kz) ?_
  refine jv_Wp.lift (fun _ Kz => jv_Ev.steps jv_i295 3 (pc' := 51) (l' := [(2, .int (1 : Int32)), (1, .int (vl_I f.z)), (0, .ref 196)]) (st' := [.ref 196, .ref 196]) rfl Kz) ?_
  refine jv_Wp.lift (fun _ Kz => jv_Ev.m jv_i295 (pc' := 54) (st' := [.int (vl_I f.d), .ref 196]) (G' := (jv_H K I L R)) rfl rfl (jv_m_getI (jv_rwK hW 196 12 24 (by decide)) rfl rfl D.2.1) Kz) ?_
  refine jv_Wp.lift (fun _ Kz => jv_Ev.c jv_i295 (pc' := 57) (S' := [.int (I 205 (76800 + f.d))]) jv_i271 [.ref 196, .int (vl_I f.d)] rfl rfl rfl rfl (jv_cal rfl (jv_H_at (jv_rwK hW 196 12 24 (by decide))) rfl rfl) rfl (vq_sortOf f.d hW (by omega)) rfl rfl Kz) ?_
  refine jv_Wp.lift (fun _ Kz => jv_Ev.steps jv_i295 3 (pc' := 60) (l' := [(3, .int (I 205 (76800 + f.d))), (2, .int (1 : Int32)), (1, .int (vl_I f.z)), (0, .ref 196)]) (st' := [.int (I 205 (76800 + f.d)), .int (1 : Int32)]) rfl Kz) ?_
  refine jv_Wp.cnd jv_i295 (pt := 69) (pe := 63) (p := ((I 205 (76800 + f.d)) = 0)) (q := ((I 205 (76800 + f.d)) = 0)) rfl jv_bi_eq rfl rfl Iff.rfl (fun h1 => ?_) (fun h1 => ?_)
  · refine jv_Wp.lift (fun _ Kz => jv_Ev.steps jv_i295 2 (pc' := 74) (l' := [(3, .int (I 205 (76800 + f.d))), (2, .int (1 : Int32)), (1, .int (vl_I f.z)), (0, .ref 196)]) (st' := [.int (0 : Int32), .int (1 : Int32)]) rfl Kz) ?_
    have Hf34 := vq_first (I := I) (L := L) (K := K) (R := R) (n := n) (sl := sl) 1 0 (by omega) (by omega)
    rw [show vx_fst 1 0 = 1 from by decide] at Hf34
    refine jv_Wp.lift (fun _ Kz => jv_Ev.c jv_i295 (pc' := 77) (S' := [.int (1 : Int32)]) jv_i282 [.int (1 : Int32), .int (0 : Int32)] rfl rfl rfl rfl rfl rfl Hf34 rfl rfl Kz) ?_
    refine jv_Wp.lift (fun _ Kz => jv_Ev.steps jv_i295 3 (pc' := 81) (l' := [(2, .int (1 : Int32)), (3, .int (I 205 (76800 + f.d))), (1, .int (vl_I f.z)), (0, .ref 196)]) (st' := [.int (7 : Int32), .int (I 205 (76800 + f.d))]) rfl Kz) ?_
    refine jv_Wp.cnd jv_i295 (pt := 175) (pe := 84) (p := (¬ (I 205 (76800 + f.d)) = (7 : Int32))) (q := (¬ (I 205 (76800 + f.d)) = (7 : Int32))) rfl jv_bc_ne rfl rfl Iff.rfl (fun _ => ?_) (fun hz => absurd (fun z => absurd (z.symm.trans h1) (by decide)) hz)
    refine jv_Wp.lift (fun _ Kz => jv_Ev.steps jv_i295 3 (pc' := 178) (l' := [(2, .int (1 : Int32)), (3, .int (I 205 (76800 + f.d))), (1, .int (vl_I f.z)), (0, .ref 196)]) (st' := [.ref 196, .ref 196, .int (1 : Int32)]) rfl Kz) ?_
    refine jv_Wp.lift (fun _ Kz => jv_Ev.m jv_i295 (pc' := 181) (st' := [.int (vl_I f.s), .ref 196, .int (1 : Int32)]) (G' := (jv_H K I L R)) rfl rfl (jv_m_getI (jv_rwK hW 196 12 24 (by decide)) rfl rfl D.2.2.1) Kz) ?_
    refine jv_Wp.lift (fun _ Kz => jv_Ev.c jv_i295 (pc' := 184) (S' := [.int (I 205 (76800 + f.s)), .int (1 : Int32)]) jv_i271 [.ref 196, .int (vl_I f.s)] rfl rfl rfl rfl (jv_cal rfl (jv_H_at (jv_rwK hW 196 12 24 (by decide))) rfl rfl) rfl (vq_sortOf f.s hW (by omega)) rfl rfl Kz) ?_
    refine jv_Wp.cnd jv_i295 (pt := 204) (pe := 187) (p := ((I 205 (76800 + f.s)) = 0)) (q := ((I 205 (76800 + f.s)) = 0)) rfl jv_bi_eq rfl rfl Iff.rfl (fun h2 => ?_) (fun h2 => ?_)
    · refine jv_Wp.lift (fun _ Kz => jv_Ev.steps jv_i295 1 (pc' := 205) (l' := [(2, .int (1 : Int32)), (3, .int (I 205 (76800 + f.d))), (1, .int (vl_I f.z)), (0, .ref 196)]) (st' := [.int (0 : Int32), .int (1 : Int32)]) rfl Kz) ?_
      have Hf35 := vq_first (I := I) (L := L) (K := K) (R := R) (n := n) (sl := sl) 1 0 (by omega) (by omega)
      rw [show vx_fst 1 0 = 1 from by decide] at Hf35
      refine jv_Wp.lift (fun _ Kz => jv_Ev.c jv_i295 (pc' := 208) (S' := [.int (1 : Int32)]) jv_i282 [.int (1 : Int32), .int (0 : Int32)] rfl rfl rfl rfl rfl rfl Hf35 rfl rfl Kz) ?_
      refine jv_Wp.lift (fun _ Kz => jv_Ev.steps jv_i295 3 (pc' := 211) (l' := [(2, .int (1 : Int32)), (3, .int (I 205 (76800 + f.d))), (1, .int (vl_I f.z)), (0, .ref 196)]) (st' := [.ref 196, .int (1 : Int32)]) rfl Kz) ?_
      refine jv_Wp.lift (fun _ Kz => jv_Ev.m jv_i295 (pc' := 214) (st' := [.int (Int32.ofInt f.i), .int (1 : Int32)]) (G' := (jv_H K I L R)) rfl rfl (jv_m_getI (jv_rwK hW 196 12 24 (by decide)) rfl rfl (vr_dJ D)) Kz) ?_
      refine jv_Wp.lift (fun _ Kz => jv_Ev.steps jv_i295 1 (pc' := 217) (l' := [(2, .int (1 : Int32)), (3, .int (I 205 (76800 + f.d))), (1, .int (vl_I f.z)), (0, .ref 196)]) (st' := [.int (241 : Int32), .int (Int32.ofInt f.i), .int (1 : Int32)]) rfl Kz) ?_
      refine jv_Wp.cnd jv_i295 (pt := 242) (pe := 220) (p := (¬ (Int32.ofInt f.i) = (241 : Int32))) (q := (¬ (Int32.ofInt f.i) = (241 : Int32))) rfl jv_bc_ne rfl rfl Iff.rfl (fun _ => ?_) (fun hz => absurd h241 hz)
      refine jv_Wp.lift (fun _ Kz => jv_Ev.steps jv_i295 1 (pc' := 243) (l' := [(2, .int (1 : Int32)), (3, .int (I 205 (76800 + f.d))), (1, .int (vl_I f.z)), (0, .ref 196)]) (st' := [.int (0 : Int32), .int (1 : Int32)]) rfl Kz) ?_
      have Hf36 := vq_first (I := I) (L := L) (K := K) (R := R) (n := n) (sl := sl) 1 0 (by omega) (by omega)
      rw [show vx_fst 1 0 = 1 from by decide] at Hf36
      refine jv_Wp.lift (fun _ Kz => jv_Ev.c jv_i295 (pc' := 246) (S' := [.int (1 : Int32)]) jv_i282 [.int (1 : Int32), .int (0 : Int32)] rfl rfl rfl rfl rfl rfl Hf36 rfl rfl Kz) ?_
      refine jv_Wp.lift (fun _ Kz => jv_Ev.steps jv_i295 2 (pc' := 248) (l' := [(2, .int (1 : Int32)), (3, .int (I 205 (76800 + f.d))), (1, .int (vl_I f.z)), (0, .ref 196)]) (st' := [.int (1 : Int32)]) rfl Kz) ?_
      refine jv_Wp.lift (fun _ Kz => jv_Ev.br jv_i295 (pc' := 251) (st' := []) rfl (by rfl) Kz) ?_
      refine jv_Wp.lift (fun _ Kz => jv_Ev.steps jv_i295 1 (pc' := 252) (l' := [(2, .int (1 : Int32)), (3, .int (I 205 (76800 + f.d))), (1, .int (vl_I f.z)), (0, .ref 196)]) (st' := [.int (1 : Int32)]) rfl Kz) ?_
      refine jv_Wp.of (jv_Ev.ret jv_i295 rfl rfl) ?_
      rw [hQ]
      have td0 : zd = 0 := (hd ()).symm.trans ((vr_isN (L := L) okd hd11).mpr h1)
      have ts0 : zs = 0 := (hs ()).symm.trans ((vr_isN (L := L) oks hs11).mpr h2)
      have e : vx_atp M f (vr_A I L 1024) = (1, (vr_A I L 1024)) := by
        exact vx_at1 (by rw [eD, eS, e0, hd (), hs (), h0 ()]; omega)
      exact ⟨_, _, by rw [← eQ, e]; rfl, fun z => by rw [← eQ, e] at z; exact absurd (show (1 : Nat) = 0 from z) (by omega), vr_fr_refl hf⟩
    · refine jv_Wp.lift (fun _ Kz => jv_Ev.steps jv_i295 2 (pc' := 189) (l' := [(2, .int (1 : Int32)), (3, .int (I 205 (76800 + f.d))), (1, .int (vl_I f.z)), (0, .ref 196)]) (st' := [.ref 196, .ref 196, .int (1 : Int32)]) rfl Kz) ?_
      refine jv_Wp.lift (fun _ Kz => jv_Ev.m jv_i295 (pc' := 192) (st' := [.int (vl_I f.s), .ref 196, .int (1 : Int32)]) (G' := (jv_H K I L R)) rfl rfl (jv_m_getI (jv_rwK hW 196 12 24 (by decide)) rfl rfl D.2.2.1) Kz) ?_
      refine jv_Wp.lift (fun _ Kz => jv_Ev.c jv_i295 (pc' := 195) (S' := [.int (I 205 (76800 + f.s)), .int (1 : Int32)]) jv_i271 [.ref 196, .int (vl_I f.s)] rfl rfl rfl rfl (jv_cal rfl (jv_H_at (jv_rwK hW 196 12 24 (by decide))) rfl rfl) rfl (vq_sortOf f.s hW (by omega)) rfl rfl Kz) ?_
      refine jv_Wp.lift (fun _ Kz => jv_Ev.steps jv_i295 1 (pc' := 196) (l' := [(2, .int (1 : Int32)), (3, .int (I 205 (76800 + f.d))), (1, .int (vl_I f.z)), (0, .ref 196)]) (st' := [.int (1 : Int32), .int (I 205 (76800 + f.s)), .int (1 : Int32)]) rfl Kz) ?_
      refine jv_Wp.cnd jv_i295 (pt := 204) (pe := 199) (p := ((I 205 (76800 + f.s)) = (1 : Int32))) (q := ((I 205 (76800 + f.s)) = (1 : Int32))) rfl jv_bc_eq rfl rfl Iff.rfl (fun h3 => ?_) (fun h3 => ?_)
      · refine jv_Wp.lift (fun _ Kz => jv_Ev.steps jv_i295 1 (pc' := 205) (l' := [(2, .int (1 : Int32)), (3, .int (I 205 (76800 + f.d))), (1, .int (vl_I f.z)), (0, .ref 196)]) (st' := [.int (0 : Int32), .int (1 : Int32)]) rfl Kz) ?_
        have Hf37 := vq_first (I := I) (L := L) (K := K) (R := R) (n := n) (sl := sl) 1 0 (by omega) (by omega)
        rw [show vx_fst 1 0 = 1 from by decide] at Hf37
        refine jv_Wp.lift (fun _ Kz => jv_Ev.c jv_i295 (pc' := 208) (S' := [.int (1 : Int32)]) jv_i282 [.int (1 : Int32), .int (0 : Int32)] rfl rfl rfl rfl rfl rfl Hf37 rfl rfl Kz) ?_
        refine jv_Wp.lift (fun _ Kz => jv_Ev.steps jv_i295 3 (pc' := 211) (l' := [(2, .int (1 : Int32)), (3, .int (I 205 (76800 + f.d))), (1, .int (vl_I f.z)), (0, .ref 196)]) (st' := [.ref 196, .int (1 : Int32)]) rfl Kz) ?_
        refine jv_Wp.lift (fun _ Kz => jv_Ev.m jv_i295 (pc' := 214) (st' := [.int (Int32.ofInt f.i), .int (1 : Int32)]) (G' := (jv_H K I L R)) rfl rfl (jv_m_getI (jv_rwK hW 196 12 24 (by decide)) rfl rfl (vr_dJ D)) Kz) ?_
        refine jv_Wp.lift (fun _ Kz => jv_Ev.steps jv_i295 1 (pc' := 217) (l' := [(2, .int (1 : Int32)), (3, .int (I 205 (76800 + f.d))), (1, .int (vl_I f.z)), (0, .ref 196)]) (st' := [.int (241 : Int32), .int (Int32.ofInt f.i), .int (1 : Int32)]) rfl Kz) ?_
        refine jv_Wp.cnd jv_i295 (pt := 242) (pe := 220) (p := (¬ (Int32.ofInt f.i) = (241 : Int32))) (q := (¬ (Int32.ofInt f.i) = (241 : Int32))) rfl jv_bc_ne rfl rfl Iff.rfl (fun _ => ?_) (fun hz => absurd h241 hz)
        refine jv_Wp.lift (fun _ Kz => jv_Ev.steps jv_i295 1 (pc' := 243) (l' := [(2, .int (1 : Int32)), (3, .int (I 205 (76800 + f.d))), (1, .int (vl_I f.z)), (0, .ref 196)]) (st' := [.int (0 : Int32), .int (1 : Int32)]) rfl Kz) ?_
        have Hf38 := vq_first (I := I) (L := L) (K := K) (R := R) (n := n) (sl := sl) 1 0 (by omega) (by omega)
        rw [show vx_fst 1 0 = 1 from by decide] at Hf38
        refine jv_Wp.lift (fun _ Kz => jv_Ev.c jv_i295 (pc' := 246) (S' := [.int (1 : Int32)]) jv_i282 [.int (1 : Int32), .int (0 : Int32)] rfl rfl rfl rfl rfl rfl Hf38 rfl rfl Kz) ?_
        refine jv_Wp.lift (fun _ Kz => jv_Ev.steps jv_i295 2 (pc' := 248) (l' := [(2, .int (1 : Int32)), (3, .int (I 205 (76800 + f.d))), (1, .int (vl_I f.z)), (0, .ref 196)]) (st' := [.int (1 : Int32)]) rfl Kz) ?_
        refine jv_Wp.lift (fun _ Kz => jv_Ev.br jv_i295 (pc' := 251) (st' := []) rfl (by rfl) Kz) ?_
        refine jv_Wp.lift (fun _ Kz => jv_Ev.steps jv_i295 1 (pc' := 252) (l' := [(2, .int (1 : Int32)), (3, .int (I 205 (76800 + f.d))), (1, .int (vl_I f.z)), (0, .ref 196)]) (st' := [.int (1 : Int32)]) rfl Kz) ?_
        refine jv_Wp.of (jv_Ev.ret jv_i295 rfl rfl) ?_
        rw [hQ]
        have td0 : zd = 0 := (hd ()).symm.trans ((vr_isN (L := L) okd hd11).mpr h1)
        have ts0 : ¬ zs = 0 := fun z => h2 ((vr_isN (L := L) oks hs11).mp ((hs ()).trans z))
        have ts1 : zs = 1 := (hs ()).symm.trans ((vr_is (L := L) 1 (by decide) oks).mpr h3)
        have e : vx_atp M f (vr_A I L 1024) = (1, (vr_A I L 1024)) := by
          exact vx_at1 (by rw [eD, eS, e0, hd (), hs (), h0 ()]; omega)
        exact ⟨_, _, by rw [← eQ, e]; rfl, fun z => by rw [← eQ, e] at z; exact absurd (show (1 : Nat) = 0 from z) (by omega), vr_fr_refl hf⟩
      · refine jv_Wp.lift (fun _ Kz => jv_Ev.steps jv_i295 2 (pc' := 205) (l' := [(2, .int (1 : Int32)), (3, .int (I 205 (76800 + f.d))), (1, .int (vl_I f.z)), (0, .ref 196)]) (st' := [.int (6 : Int32), .int (1 : Int32)]) rfl Kz) ?_
        have Hf39 := vq_first (I := I) (L := L) (K := K) (R := R) (n := n) (sl := sl) 1 6 (by omega) (by omega)
        rw [show vx_fst 1 6 = 1 from by decide] at Hf39
        refine jv_Wp.lift (fun _ Kz => jv_Ev.c jv_i295 (pc' := 208) (S' := [.int (1 : Int32)]) jv_i282 [.int (1 : Int32), .int (6 : Int32)] rfl rfl rfl rfl rfl rfl Hf39 rfl rfl Kz) ?_
        refine jv_Wp.lift (fun _ Kz => jv_Ev.steps jv_i295 3 (pc' := 211) (l' := [(2, .int (1 : Int32)), (3, .int (I 205 (76800 + f.d))), (1, .int (vl_I f.z)), (0, .ref 196)]) (st' := [.ref 196, .int (1 : Int32)]) rfl Kz) ?_
        refine jv_Wp.lift (fun _ Kz => jv_Ev.m jv_i295 (pc' := 214) (st' := [.int (Int32.ofInt f.i), .int (1 : Int32)]) (G' := (jv_H K I L R)) rfl rfl (jv_m_getI (jv_rwK hW 196 12 24 (by decide)) rfl rfl (vr_dJ D)) Kz) ?_
        refine jv_Wp.lift (fun _ Kz => jv_Ev.steps jv_i295 1 (pc' := 217) (l' := [(2, .int (1 : Int32)), (3, .int (I 205 (76800 + f.d))), (1, .int (vl_I f.z)), (0, .ref 196)]) (st' := [.int (241 : Int32), .int (Int32.ofInt f.i), .int (1 : Int32)]) rfl Kz) ?_
        refine jv_Wp.cnd jv_i295 (pt := 242) (pe := 220) (p := (¬ (Int32.ofInt f.i) = (241 : Int32))) (q := (¬ (Int32.ofInt f.i) = (241 : Int32))) rfl jv_bc_ne rfl rfl Iff.rfl (fun _ => ?_) (fun hz => absurd h241 hz)
        refine jv_Wp.lift (fun _ Kz => jv_Ev.steps jv_i295 1 (pc' := 243) (l' := [(2, .int (1 : Int32)), (3, .int (I 205 (76800 + f.d))), (1, .int (vl_I f.z)), (0, .ref 196)]) (st' := [.int (0 : Int32), .int (1 : Int32)]) rfl Kz) ?_
        have Hf40 := vq_first (I := I) (L := L) (K := K) (R := R) (n := n) (sl := sl) 1 0 (by omega) (by omega)
        rw [show vx_fst 1 0 = 1 from by decide] at Hf40
        refine jv_Wp.lift (fun _ Kz => jv_Ev.c jv_i295 (pc' := 246) (S' := [.int (1 : Int32)]) jv_i282 [.int (1 : Int32), .int (0 : Int32)] rfl rfl rfl rfl rfl rfl Hf40 rfl rfl Kz) ?_
        refine jv_Wp.lift (fun _ Kz => jv_Ev.steps jv_i295 2 (pc' := 248) (l' := [(2, .int (1 : Int32)), (3, .int (I 205 (76800 + f.d))), (1, .int (vl_I f.z)), (0, .ref 196)]) (st' := [.int (1 : Int32)]) rfl Kz) ?_
        refine jv_Wp.lift (fun _ Kz => jv_Ev.br jv_i295 (pc' := 251) (st' := []) rfl (by rfl) Kz) ?_
        refine jv_Wp.lift (fun _ Kz => jv_Ev.steps jv_i295 1 (pc' := 252) (l' := [(2, .int (1 : Int32)), (3, .int (I 205 (76800 + f.d))), (1, .int (vl_I f.z)), (0, .ref 196)]) (st' := [.int (1 : Int32)]) rfl Kz) ?_
        refine jv_Wp.of (jv_Ev.ret jv_i295 rfl rfl) ?_
        rw [hQ]
        have td0 : zd = 0 := (hd ()).symm.trans ((vr_isN (L := L) okd hd11).mpr h1)
        have ts0 : ¬ zs = 0 := fun z => h2 ((vr_isN (L := L) oks hs11).mp ((hs ()).trans z))
        have ts1 : ¬ zs = 1 := fun z => h3 ((vr_is (L := L) 1 (by decide) oks).mp ((hs ()).trans z))
        have e : vx_atp M f (vr_A I L 1024) = (1, (vr_A I L 1024)) := by
          exact vx_at1 (by rw [eD, eS, e0, hd (), hs (), h0 ()]; omega)
        exact ⟨_, _, by rw [← eQ, e]; rfl, fun z => by rw [← eQ, e] at z; exact absurd (show (1 : Nat) = 0 from z) (by omega), vr_fr_refl hf⟩
  · refine jv_Wp.lift (fun _ Kz => jv_Ev.steps jv_i295 2 (pc' := 66) (l' := [(3, .int (I 205 (76800 + f.d))), (2, .int (1 : Int32)), (1, .int (vl_I f.z)), (0, .ref 196)]) (st' := [.int (7 : Int32), .int (I 205 (76800 + f.d)), .int (1 : Int32)]) rfl Kz) ?_
    refine jv_Wp.cnd jv_i295 (pt := 73) (pe := 69) (p := (¬ (I 205 (76800 + f.d)) = (7 : Int32))) (q := (¬ (I 205 (76800 + f.d)) = (7 : Int32))) rfl jv_bc_ne rfl rfl Iff.rfl (fun h4 => ?_) (fun h4 => ?_)
    · refine jv_Wp.lift (fun _ Kz => jv_Ev.steps jv_i295 1 (pc' := 74) (l' := [(3, .int (I 205 (76800 + f.d))), (2, .int (1 : Int32)), (1, .int (vl_I f.z)), (0, .ref 196)]) (st' := [.int (3 : Int32), .int (1 : Int32)]) rfl Kz) ?_
      have Hf41 := vq_first (I := I) (L := L) (K := K) (R := R) (n := n) (sl := sl) 1 3 (by omega) (by omega)
      rw [show vx_fst 1 3 = 1 from by decide] at Hf41
      refine jv_Wp.lift (fun _ Kz => jv_Ev.c jv_i295 (pc' := 77) (S' := [.int (1 : Int32)]) jv_i282 [.int (1 : Int32), .int (3 : Int32)] rfl rfl rfl rfl rfl rfl Hf41 rfl rfl Kz) ?_
      refine jv_Wp.lift (fun _ Kz => jv_Ev.steps jv_i295 3 (pc' := 81) (l' := [(2, .int (1 : Int32)), (3, .int (I 205 (76800 + f.d))), (1, .int (vl_I f.z)), (0, .ref 196)]) (st' := [.int (7 : Int32), .int (I 205 (76800 + f.d))]) rfl Kz) ?_
      refine jv_Wp.cnd jv_i295 (pt := 175) (pe := 84) (p := (¬ (I 205 (76800 + f.d)) = (7 : Int32))) (q := (¬ (I 205 (76800 + f.d)) = (7 : Int32))) rfl jv_bc_ne rfl rfl Iff.rfl (fun _ => ?_) (fun hz => absurd h4 hz)
      refine jv_Wp.lift (fun _ Kz => jv_Ev.steps jv_i295 3 (pc' := 178) (l' := [(2, .int (1 : Int32)), (3, .int (I 205 (76800 + f.d))), (1, .int (vl_I f.z)), (0, .ref 196)]) (st' := [.ref 196, .ref 196, .int (1 : Int32)]) rfl Kz) ?_
      refine jv_Wp.lift (fun _ Kz => jv_Ev.m jv_i295 (pc' := 181) (st' := [.int (vl_I f.s), .ref 196, .int (1 : Int32)]) (G' := (jv_H K I L R)) rfl rfl (jv_m_getI (jv_rwK hW 196 12 24 (by decide)) rfl rfl D.2.2.1) Kz) ?_
      refine jv_Wp.lift (fun _ Kz => jv_Ev.c jv_i295 (pc' := 184) (S' := [.int (I 205 (76800 + f.s)), .int (1 : Int32)]) jv_i271 [.ref 196, .int (vl_I f.s)] rfl rfl rfl rfl (jv_cal rfl (jv_H_at (jv_rwK hW 196 12 24 (by decide))) rfl rfl) rfl (vq_sortOf f.s hW (by omega)) rfl rfl Kz) ?_
      refine jv_Wp.cnd jv_i295 (pt := 204) (pe := 187) (p := ((I 205 (76800 + f.s)) = 0)) (q := ((I 205 (76800 + f.s)) = 0)) rfl jv_bi_eq rfl rfl Iff.rfl (fun h5 => ?_) (fun h5 => ?_)
      · refine jv_Wp.lift (fun _ Kz => jv_Ev.steps jv_i295 1 (pc' := 205) (l' := [(2, .int (1 : Int32)), (3, .int (I 205 (76800 + f.d))), (1, .int (vl_I f.z)), (0, .ref 196)]) (st' := [.int (0 : Int32), .int (1 : Int32)]) rfl Kz) ?_
        have Hf42 := vq_first (I := I) (L := L) (K := K) (R := R) (n := n) (sl := sl) 1 0 (by omega) (by omega)
        rw [show vx_fst 1 0 = 1 from by decide] at Hf42
        refine jv_Wp.lift (fun _ Kz => jv_Ev.c jv_i295 (pc' := 208) (S' := [.int (1 : Int32)]) jv_i282 [.int (1 : Int32), .int (0 : Int32)] rfl rfl rfl rfl rfl rfl Hf42 rfl rfl Kz) ?_
        refine jv_Wp.lift (fun _ Kz => jv_Ev.steps jv_i295 3 (pc' := 211) (l' := [(2, .int (1 : Int32)), (3, .int (I 205 (76800 + f.d))), (1, .int (vl_I f.z)), (0, .ref 196)]) (st' := [.ref 196, .int (1 : Int32)]) rfl Kz) ?_
        refine jv_Wp.lift (fun _ Kz => jv_Ev.m jv_i295 (pc' := 214) (st' := [.int (Int32.ofInt f.i), .int (1 : Int32)]) (G' := (jv_H K I L R)) rfl rfl (jv_m_getI (jv_rwK hW 196 12 24 (by decide)) rfl rfl (vr_dJ D)) Kz) ?_
        refine jv_Wp.lift (fun _ Kz => jv_Ev.steps jv_i295 1 (pc' := 217) (l' := [(2, .int (1 : Int32)), (3, .int (I 205 (76800 + f.d))), (1, .int (vl_I f.z)), (0, .ref 196)]) (st' := [.int (241 : Int32), .int (Int32.ofInt f.i), .int (1 : Int32)]) rfl Kz) ?_
        refine jv_Wp.cnd jv_i295 (pt := 242) (pe := 220) (p := (¬ (Int32.ofInt f.i) = (241 : Int32))) (q := (¬ (Int32.ofInt f.i) = (241 : Int32))) rfl jv_bc_ne rfl rfl Iff.rfl (fun _ => ?_) (fun hz => absurd h241 hz)
        refine jv_Wp.lift (fun _ Kz => jv_Ev.steps jv_i295 1 (pc' := 243) (l' := [(2, .int (1 : Int32)), (3, .int (I 205 (76800 + f.d))), (1, .int (vl_I f.z)), (0, .ref 196)]) (st' := [.int (0 : Int32), .int (1 : Int32)]) rfl Kz) ?_
        have Hf43 := vq_first (I := I) (L := L) (K := K) (R := R) (n := n) (sl := sl) 1 0 (by omega) (by omega)
        rw [show vx_fst 1 0 = 1 from by decide] at Hf43
        refine jv_Wp.lift (fun _ Kz => jv_Ev.c jv_i295 (pc' := 246) (S' := [.int (1 : Int32)]) jv_i282 [.int (1 : Int32), .int (0 : Int32)] rfl rfl rfl rfl rfl rfl Hf43 rfl rfl Kz) ?_
        refine jv_Wp.lift (fun _ Kz => jv_Ev.steps jv_i295 2 (pc' := 248) (l' := [(2, .int (1 : Int32)), (3, .int (I 205 (76800 + f.d))), (1, .int (vl_I f.z)), (0, .ref 196)]) (st' := [.int (1 : Int32)]) rfl Kz) ?_
        refine jv_Wp.lift (fun _ Kz => jv_Ev.br jv_i295 (pc' := 251) (st' := []) rfl (by rfl) Kz) ?_
        refine jv_Wp.lift (fun _ Kz => jv_Ev.steps jv_i295 1 (pc' := 252) (l' := [(2, .int (1 : Int32)), (3, .int (I 205 (76800 + f.d))), (1, .int (vl_I f.z)), (0, .ref 196)]) (st' := [.int (1 : Int32)]) rfl Kz) ?_
        refine jv_Wp.of (jv_Ev.ret jv_i295 rfl rfl) ?_
        rw [hQ]
        have td0 : ¬ zd = 0 := fun z => h1 ((vr_isN (L := L) okd hd11).mp ((hd ()).trans z))
        have td7 : ¬ zd = 7 := fun z => h4 ((vr_is (L := L) 7 (by decide) okd).mp ((hd ()).trans z))
        have ts0 : zs = 0 := (hs ()).symm.trans ((vr_isN (L := L) oks hs11).mpr h5)
        have e : vx_atp M f (vr_A I L 1024) = (1, (vr_A I L 1024)) := by
          exact vx_at1 (by rw [eD, eS, e0, hd (), hs (), h0 ()]; omega)
        exact ⟨_, _, by rw [← eQ, e]; rfl, fun z => by rw [← eQ, e] at z; exact absurd (show (1 : Nat) = 0 from z) (by omega), vr_fr_refl hf⟩
      · refine jv_Wp.lift (fun _ Kz => jv_Ev.steps jv_i295 2 (pc' := 189) (l' := [(2, .int (1 : Int32)), (3, .int (I 205 (76800 + f.d))), (1, .int (vl_I f.z)), (0, .ref 196)]) (st' := [.ref 196, .ref 196, .int (1 : Int32)]) rfl Kz) ?_
        refine jv_Wp.lift (fun _ Kz => jv_Ev.m jv_i295 (pc' := 192) (st' := [.int (vl_I f.s), .ref 196, .int (1 : Int32)]) (G' := (jv_H K I L R)) rfl rfl (jv_m_getI (jv_rwK hW 196 12 24 (by decide)) rfl rfl D.2.2.1) Kz) ?_
        refine jv_Wp.lift (fun _ Kz => jv_Ev.c jv_i295 (pc' := 195) (S' := [.int (I 205 (76800 + f.s)), .int (1 : Int32)]) jv_i271 [.ref 196, .int (vl_I f.s)] rfl rfl rfl rfl (jv_cal rfl (jv_H_at (jv_rwK hW 196 12 24 (by decide))) rfl rfl) rfl (vq_sortOf f.s hW (by omega)) rfl rfl Kz) ?_
        refine jv_Wp.lift (fun _ Kz => jv_Ev.steps jv_i295 1 (pc' := 196) (l' := [(2, .int (1 : Int32)), (3, .int (I 205 (76800 + f.d))), (1, .int (vl_I f.z)), (0, .ref 196)]) (st' := [.int (1 : Int32), .int (I 205 (76800 + f.s)), .int (1 : Int32)]) rfl Kz) ?_
        refine jv_Wp.cnd jv_i295 (pt := 204) (pe := 199) (p := ((I 205 (76800 + f.s)) = (1 : Int32))) (q := ((I 205 (76800 + f.s)) = (1 : Int32))) rfl jv_bc_eq rfl rfl Iff.rfl (fun h6 => ?_) (fun h6 => ?_)
        · refine jv_Wp.lift (fun _ Kz => jv_Ev.steps jv_i295 1 (pc' := 205) (l' := [(2, .int (1 : Int32)), (3, .int (I 205 (76800 + f.d))), (1, .int (vl_I f.z)), (0, .ref 196)]) (st' := [.int (0 : Int32), .int (1 : Int32)]) rfl Kz) ?_
          have Hf44 := vq_first (I := I) (L := L) (K := K) (R := R) (n := n) (sl := sl) 1 0 (by omega) (by omega)
          rw [show vx_fst 1 0 = 1 from by decide] at Hf44
          refine jv_Wp.lift (fun _ Kz => jv_Ev.c jv_i295 (pc' := 208) (S' := [.int (1 : Int32)]) jv_i282 [.int (1 : Int32), .int (0 : Int32)] rfl rfl rfl rfl rfl rfl Hf44 rfl rfl Kz) ?_
          refine jv_Wp.lift (fun _ Kz => jv_Ev.steps jv_i295 3 (pc' := 211) (l' := [(2, .int (1 : Int32)), (3, .int (I 205 (76800 + f.d))), (1, .int (vl_I f.z)), (0, .ref 196)]) (st' := [.ref 196, .int (1 : Int32)]) rfl Kz) ?_
          refine jv_Wp.lift (fun _ Kz => jv_Ev.m jv_i295 (pc' := 214) (st' := [.int (Int32.ofInt f.i), .int (1 : Int32)]) (G' := (jv_H K I L R)) rfl rfl (jv_m_getI (jv_rwK hW 196 12 24 (by decide)) rfl rfl (vr_dJ D)) Kz) ?_
          refine jv_Wp.lift (fun _ Kz => jv_Ev.steps jv_i295 1 (pc' := 217) (l' := [(2, .int (1 : Int32)), (3, .int (I 205 (76800 + f.d))), (1, .int (vl_I f.z)), (0, .ref 196)]) (st' := [.int (241 : Int32), .int (Int32.ofInt f.i), .int (1 : Int32)]) rfl Kz) ?_
          refine jv_Wp.cnd jv_i295 (pt := 242) (pe := 220) (p := (¬ (Int32.ofInt f.i) = (241 : Int32))) (q := (¬ (Int32.ofInt f.i) = (241 : Int32))) rfl jv_bc_ne rfl rfl Iff.rfl (fun _ => ?_) (fun hz => absurd h241 hz)
          refine jv_Wp.lift (fun _ Kz => jv_Ev.steps jv_i295 1 (pc' := 243) (l' := [(2, .int (1 : Int32)), (3, .int (I 205 (76800 + f.d))), (1, .int (vl_I f.z)), (0, .ref 196)]) (st' := [.int (0 : Int32), .int (1 : Int32)]) rfl Kz) ?_
          have Hf45 := vq_first (I := I) (L := L) (K := K) (R := R) (n := n) (sl := sl) 1 0 (by omega) (by omega)
          rw [show vx_fst 1 0 = 1 from by decide] at Hf45
          refine jv_Wp.lift (fun _ Kz => jv_Ev.c jv_i295 (pc' := 246) (S' := [.int (1 : Int32)]) jv_i282 [.int (1 : Int32), .int (0 : Int32)] rfl rfl rfl rfl rfl rfl Hf45 rfl rfl Kz) ?_
          refine jv_Wp.lift (fun _ Kz => jv_Ev.steps jv_i295 2 (pc' := 248) (l' := [(2, .int (1 : Int32)), (3, .int (I 205 (76800 + f.d))), (1, .int (vl_I f.z)), (0, .ref 196)]) (st' := [.int (1 : Int32)]) rfl Kz) ?_
          refine jv_Wp.lift (fun _ Kz => jv_Ev.br jv_i295 (pc' := 251) (st' := []) rfl (by rfl) Kz) ?_
          refine jv_Wp.lift (fun _ Kz => jv_Ev.steps jv_i295 1 (pc' := 252) (l' := [(2, .int (1 : Int32)), (3, .int (I 205 (76800 + f.d))), (1, .int (vl_I f.z)), (0, .ref 196)]) (st' := [.int (1 : Int32)]) rfl Kz) ?_
          refine jv_Wp.of (jv_Ev.ret jv_i295 rfl rfl) ?_
          rw [hQ]
          have td0 : ¬ zd = 0 := fun z => h1 ((vr_isN (L := L) okd hd11).mp ((hd ()).trans z))
          have td7 : ¬ zd = 7 := fun z => h4 ((vr_is (L := L) 7 (by decide) okd).mp ((hd ()).trans z))
          have ts0 : ¬ zs = 0 := fun z => h5 ((vr_isN (L := L) oks hs11).mp ((hs ()).trans z))
          have ts1 : zs = 1 := (hs ()).symm.trans ((vr_is (L := L) 1 (by decide) oks).mpr h6)
          have e : vx_atp M f (vr_A I L 1024) = (1, (vr_A I L 1024)) := by
            exact vx_at1 (by rw [eD, eS, e0, hd (), hs (), h0 ()]; omega)
          exact ⟨_, _, by rw [← eQ, e]; rfl, fun z => by rw [← eQ, e] at z; exact absurd (show (1 : Nat) = 0 from z) (by omega), vr_fr_refl hf⟩
        · refine jv_Wp.lift (fun _ Kz => jv_Ev.steps jv_i295 2 (pc' := 205) (l' := [(2, .int (1 : Int32)), (3, .int (I 205 (76800 + f.d))), (1, .int (vl_I f.z)), (0, .ref 196)]) (st' := [.int (6 : Int32), .int (1 : Int32)]) rfl Kz) ?_
          have Hf46 := vq_first (I := I) (L := L) (K := K) (R := R) (n := n) (sl := sl) 1 6 (by omega) (by omega)
          rw [show vx_fst 1 6 = 1 from by decide] at Hf46
          refine jv_Wp.lift (fun _ Kz => jv_Ev.c jv_i295 (pc' := 208) (S' := [.int (1 : Int32)]) jv_i282 [.int (1 : Int32), .int (6 : Int32)] rfl rfl rfl rfl rfl rfl Hf46 rfl rfl Kz) ?_
          refine jv_Wp.lift (fun _ Kz => jv_Ev.steps jv_i295 3 (pc' := 211) (l' := [(2, .int (1 : Int32)), (3, .int (I 205 (76800 + f.d))), (1, .int (vl_I f.z)), (0, .ref 196)]) (st' := [.ref 196, .int (1 : Int32)]) rfl Kz) ?_
          refine jv_Wp.lift (fun _ Kz => jv_Ev.m jv_i295 (pc' := 214) (st' := [.int (Int32.ofInt f.i), .int (1 : Int32)]) (G' := (jv_H K I L R)) rfl rfl (jv_m_getI (jv_rwK hW 196 12 24 (by decide)) rfl rfl (vr_dJ D)) Kz) ?_
          refine jv_Wp.lift (fun _ Kz => jv_Ev.steps jv_i295 1 (pc' := 217) (l' := [(2, .int (1 : Int32)), (3, .int (I 205 (76800 + f.d))), (1, .int (vl_I f.z)), (0, .ref 196)]) (st' := [.int (241 : Int32), .int (Int32.ofInt f.i), .int (1 : Int32)]) rfl Kz) ?_
          refine jv_Wp.cnd jv_i295 (pt := 242) (pe := 220) (p := (¬ (Int32.ofInt f.i) = (241 : Int32))) (q := (¬ (Int32.ofInt f.i) = (241 : Int32))) rfl jv_bc_ne rfl rfl Iff.rfl (fun _ => ?_) (fun hz => absurd h241 hz)
          refine jv_Wp.lift (fun _ Kz => jv_Ev.steps jv_i295 1 (pc' := 243) (l' := [(2, .int (1 : Int32)), (3, .int (I 205 (76800 + f.d))), (1, .int (vl_I f.z)), (0, .ref 196)]) (st' := [.int (0 : Int32), .int (1 : Int32)]) rfl Kz) ?_
          have Hf47 := vq_first (I := I) (L := L) (K := K) (R := R) (n := n) (sl := sl) 1 0 (by omega) (by omega)
          rw [show vx_fst 1 0 = 1 from by decide] at Hf47
          refine jv_Wp.lift (fun _ Kz => jv_Ev.c jv_i295 (pc' := 246) (S' := [.int (1 : Int32)]) jv_i282 [.int (1 : Int32), .int (0 : Int32)] rfl rfl rfl rfl rfl rfl Hf47 rfl rfl Kz) ?_
          refine jv_Wp.lift (fun _ Kz => jv_Ev.steps jv_i295 2 (pc' := 248) (l' := [(2, .int (1 : Int32)), (3, .int (I 205 (76800 + f.d))), (1, .int (vl_I f.z)), (0, .ref 196)]) (st' := [.int (1 : Int32)]) rfl Kz) ?_
          refine jv_Wp.lift (fun _ Kz => jv_Ev.br jv_i295 (pc' := 251) (st' := []) rfl (by rfl) Kz) ?_
          refine jv_Wp.lift (fun _ Kz => jv_Ev.steps jv_i295 1 (pc' := 252) (l' := [(2, .int (1 : Int32)), (3, .int (I 205 (76800 + f.d))), (1, .int (vl_I f.z)), (0, .ref 196)]) (st' := [.int (1 : Int32)]) rfl Kz) ?_
          refine jv_Wp.of (jv_Ev.ret jv_i295 rfl rfl) ?_
          rw [hQ]
          have td0 : ¬ zd = 0 := fun z => h1 ((vr_isN (L := L) okd hd11).mp ((hd ()).trans z))
          have td7 : ¬ zd = 7 := fun z => h4 ((vr_is (L := L) 7 (by decide) okd).mp ((hd ()).trans z))
          have ts0 : ¬ zs = 0 := fun z => h5 ((vr_isN (L := L) oks hs11).mp ((hs ()).trans z))
          have ts1 : ¬ zs = 1 := fun z => h6 ((vr_is (L := L) 1 (by decide) oks).mp ((hs ()).trans z))
          have e : vx_atp M f (vr_A I L 1024) = (1, (vr_A I L 1024)) := by
            exact vx_at1 (by rw [eD, eS, e0, hd (), hs (), h0 ()]; omega)
          exact ⟨_, _, by rw [← eQ, e]; rfl, fun z => by rw [← eQ, e] at z; exact absurd (show (1 : Nat) = 0 from z) (by omega), vr_fr_refl hf⟩
    · refine jv_Wp.lift (fun _ Kz => jv_Ev.steps jv_i295 2 (pc' := 74) (l' := [(3, .int (I 205 (76800 + f.d))), (2, .int (1 : Int32)), (1, .int (vl_I f.z)), (0, .ref 196)]) (st' := [.int (0 : Int32), .int (1 : Int32)]) rfl Kz) ?_
      have Hf48 := vq_first (I := I) (L := L) (K := K) (R := R) (n := n) (sl := sl) 1 0 (by omega) (by omega)
      rw [show vx_fst 1 0 = 1 from by decide] at Hf48
      refine jv_Wp.lift (fun _ Kz => jv_Ev.c jv_i295 (pc' := 77) (S' := [.int (1 : Int32)]) jv_i282 [.int (1 : Int32), .int (0 : Int32)] rfl rfl rfl rfl rfl rfl Hf48 rfl rfl Kz) ?_
      refine jv_Wp.lift (fun _ Kz => jv_Ev.steps jv_i295 3 (pc' := 81) (l' := [(2, .int (1 : Int32)), (3, .int (I 205 (76800 + f.d))), (1, .int (vl_I f.z)), (0, .ref 196)]) (st' := [.int (7 : Int32), .int (I 205 (76800 + f.d))]) rfl Kz) ?_
      refine jv_Wp.cnd jv_i295 (pt := 175) (pe := 84) (p := (¬ (I 205 (76800 + f.d)) = (7 : Int32))) (q := (¬ (I 205 (76800 + f.d)) = (7 : Int32))) rfl jv_bc_ne rfl rfl Iff.rfl (fun hz => absurd hz (fun z => z (Classical.not_not.mp h4))) (fun _ => ?_)
      refine jv_Wp.lift (fun _ Kz => jv_Ev.steps jv_i295 2 (pc' := 88) (l' := [(2, .int (1 : Int32)), (3, .int (I 205 (76800 + f.d))), (1, .int (vl_I f.z)), (0, .ref 196)]) (st' := [.ref 196, .int (1024 : Int32)]) rfl Kz) ?_
      refine jv_Wp.lift (fun _ Kz => jv_Ev.m jv_i295 (pc' := 91) (st' := [.int (vl_I f.d), .int (1024 : Int32)]) (G' := (jv_H K I L R)) rfl rfl (jv_m_getI (jv_rwK hW 196 12 24 (by decide)) rfl rfl D.2.1) Kz) ?_
      refine jv_Wp.lift (fun _ Kz => jv_Ev.c jv_i295 (pc' := 94) (S' := [.int (vl_I (8 + (76800 + f.d)))]) jv_i254 [.int (1024 : Int32), .int (vl_I f.d)] rfl rfl rfl rfl rfl rfl (vq_row 1024 f.d) rfl rfl Kz) ?_
      refine jv_Wp.lift (fun _ Kz => jv_Ev.steps jv_i295 7 (pc' := 103) (l' := [(5, .long ((vl_I f.z).toInt64 - (1 : Int64))), (4, .int (vl_I (8 + (76800 + f.d)))), (2, .int (1 : Int32)), (3, .int (I 205 (76800 + f.d))), (1, .int (vl_I f.z)), (0, .ref 196)]) (st' := [.ref 196]) rfl Kz) ?_
      refine jv_Wp.lift (fun _ Kz => jv_Ev.m jv_i295 (pc' := 106) (st' := [.ref 208]) (G' := (jv_H K I L R)) rfl rfl (jv_m_getR (jv_rwK hW 196 12 24 (by decide)) rfl rfl (jv_rwR hW 196 16 208 (by decide))) Kz) ?_
      refine jv_Wp.lift (fun _ Kz => jv_Ev.m jv_i295 (pc' := 109) (st' := [.ref 210]) (G' := (jv_H K I L R)) rfl rfl (jv_m_getR (jv_rwK hW 208 11 7 (by decide)) rfl rfl (jv_rwR hW 208 1 210 (by decide))) Kz) ?_
      refine jv_Wp.lift (fun _ Kz => jv_Ev.steps jv_i295 1 (pc' := 111) (l' := [(5, .long ((vl_I f.z).toInt64 - (1 : Int64))), (4, .int (vl_I (8 + (76800 + f.d)))), (2, .int (1 : Int32)), (3, .int (I 205 (76800 + f.d))), (1, .int (vl_I f.z)), (0, .ref 196)]) (st' := [.int (vl_I (8 + (76800 + f.d))), .ref 210]) rfl Kz) ?_
      refine jv_Wp.lift (fun _ Kz => jv_Ev.m jv_i295 (pc' := 112) (st' := [.long (L 210 (8 + (76800 + f.d)))]) (G' := (jv_H K I L R)) rfl rfl (jv_m_laldv (jv_rwK hW 210 103 77200 (by decide)) rfl (vl_I_ix (by omega) (by decide)) rfl ((congrArg (L 210) (vl_I_nat (by omega))).trans rfl)) Kz) ?_
      refine jv_Wp.lift (fun _ Kz => jv_Ev.steps jv_i295 4 (pc' := 117) (l' := [(5, .long ((vl_I f.z).toInt64 - (1 : Int64))), (4, .int (vl_I (8 + (76800 + f.d)))), (2, .int (1 : Int32)), (3, .int (I 205 (76800 + f.d))), (1, .int (vl_I f.z)), (0, .ref 196)]) (st' := [.int (lg_cmp ((L 210 (8 + (76800 + f.d))) &&& ((vl_I f.z).toInt64 - (1 : Int64))) (0 : Int64))]) rfl Kz) ?_
      refine jv_Wp.cnd jv_i295 (pt := 148) (pe := 120) (p := (¬ (lg_cmp ((L 210 (8 + (76800 + f.d))) &&& ((vl_I f.z).toInt64 - (1 : Int64))) (0 : Int64)) = 0)) (q := (¬ ((L 210 (8 + (76800 + f.d))) &&& ((vl_I f.z).toInt64 - (1 : Int64))) = (0 : Int64))) rfl jv_bi_ne rfl rfl (not_congr (lg_cmp_eq ((L 210 (8 + (76800 + f.d))) &&& ((vl_I f.z).toInt64 - (1 : Int64))) (0 : Int64))) (fun h7 => ?_) (fun h7 => ?_)
      · refine jv_Wp.lift (fun _ Kz => jv_Ev.steps jv_i295 4 (pc' := 154) (l' := [(7, .int (0 : Int32)), (5, .long ((vl_I f.z).toInt64 - (1 : Int64))), (4, .int (vl_I (8 + (76800 + f.d)))), (2, .int (1 : Int32)), (3, .int (I 205 (76800 + f.d))), (1, .int (vl_I f.z)), (0, .ref 196)]) (st' := [.int (0 : Int32), .int (1 : Int32)]) rfl Kz) ?_
        refine jv_Wp.lift (fun _ Kz => jv_Ev.br jv_i295 (pc' := 170) (st' := [.int (1 : Int32)]) rfl (by rfl) Kz) ?_
        refine jv_Wp.lift (fun _ Kz => jv_Ev.steps jv_i295 1 (pc' := 171) (l' := [(7, .int (0 : Int32)), (5, .long ((vl_I f.z).toInt64 - (1 : Int64))), (4, .int (vl_I (8 + (76800 + f.d)))), (2, .int (1 : Int32)), (3, .int (I 205 (76800 + f.d))), (1, .int (vl_I f.z)), (0, .ref 196)]) (st' := [.int (4 : Int32), .int (1 : Int32)]) rfl Kz) ?_
        have Hf49 := vq_first (I := I) (L := L) (K := K) (R := R) (n := n) (sl := sl) 1 4 (by omega) (by omega)
        rw [show vx_fst 1 4 = 1 from by decide] at Hf49
        refine jv_Wp.lift (fun _ Kz => jv_Ev.c jv_i295 (pc' := 174) (S' := [.int (1 : Int32)]) jv_i282 [.int (1 : Int32), .int (4 : Int32)] rfl rfl rfl rfl rfl rfl Hf49 rfl rfl Kz) ?_
        refine jv_Wp.lift (fun _ Kz => jv_Ev.steps jv_i295 4 (pc' := 178) (l' := [(2, .int (1 : Int32)), (7, .int (0 : Int32)), (5, .long ((vl_I f.z).toInt64 - (1 : Int64))), (4, .int (vl_I (8 + (76800 + f.d)))), (3, .int (I 205 (76800 + f.d))), (1, .int (vl_I f.z)), (0, .ref 196)]) (st' := [.ref 196, .ref 196, .int (1 : Int32)]) rfl Kz) ?_
        refine jv_Wp.lift (fun _ Kz => jv_Ev.m jv_i295 (pc' := 181) (st' := [.int (vl_I f.s), .ref 196, .int (1 : Int32)]) (G' := (jv_H K I L R)) rfl rfl (jv_m_getI (jv_rwK hW 196 12 24 (by decide)) rfl rfl D.2.2.1) Kz) ?_
        refine jv_Wp.lift (fun _ Kz => jv_Ev.c jv_i295 (pc' := 184) (S' := [.int (I 205 (76800 + f.s)), .int (1 : Int32)]) jv_i271 [.ref 196, .int (vl_I f.s)] rfl rfl rfl rfl (jv_cal rfl (jv_H_at (jv_rwK hW 196 12 24 (by decide))) rfl rfl) rfl (vq_sortOf f.s hW (by omega)) rfl rfl Kz) ?_
        refine jv_Wp.cnd jv_i295 (pt := 204) (pe := 187) (p := ((I 205 (76800 + f.s)) = 0)) (q := ((I 205 (76800 + f.s)) = 0)) rfl jv_bi_eq rfl rfl Iff.rfl (fun h8 => ?_) (fun h8 => ?_)
        · refine jv_Wp.lift (fun _ Kz => jv_Ev.steps jv_i295 1 (pc' := 205) (l' := [(2, .int (1 : Int32)), (7, .int (0 : Int32)), (5, .long ((vl_I f.z).toInt64 - (1 : Int64))), (4, .int (vl_I (8 + (76800 + f.d)))), (3, .int (I 205 (76800 + f.d))), (1, .int (vl_I f.z)), (0, .ref 196)]) (st' := [.int (0 : Int32), .int (1 : Int32)]) rfl Kz) ?_
          have Hf50 := vq_first (I := I) (L := L) (K := K) (R := R) (n := n) (sl := sl) 1 0 (by omega) (by omega)
          rw [show vx_fst 1 0 = 1 from by decide] at Hf50
          refine jv_Wp.lift (fun _ Kz => jv_Ev.c jv_i295 (pc' := 208) (S' := [.int (1 : Int32)]) jv_i282 [.int (1 : Int32), .int (0 : Int32)] rfl rfl rfl rfl rfl rfl Hf50 rfl rfl Kz) ?_
          refine jv_Wp.lift (fun _ Kz => jv_Ev.steps jv_i295 3 (pc' := 211) (l' := [(2, .int (1 : Int32)), (7, .int (0 : Int32)), (5, .long ((vl_I f.z).toInt64 - (1 : Int64))), (4, .int (vl_I (8 + (76800 + f.d)))), (3, .int (I 205 (76800 + f.d))), (1, .int (vl_I f.z)), (0, .ref 196)]) (st' := [.ref 196, .int (1 : Int32)]) rfl Kz) ?_
          refine jv_Wp.lift (fun _ Kz => jv_Ev.m jv_i295 (pc' := 214) (st' := [.int (Int32.ofInt f.i), .int (1 : Int32)]) (G' := (jv_H K I L R)) rfl rfl (jv_m_getI (jv_rwK hW 196 12 24 (by decide)) rfl rfl (vr_dJ D)) Kz) ?_
          refine jv_Wp.lift (fun _ Kz => jv_Ev.steps jv_i295 1 (pc' := 217) (l' := [(2, .int (1 : Int32)), (7, .int (0 : Int32)), (5, .long ((vl_I f.z).toInt64 - (1 : Int64))), (4, .int (vl_I (8 + (76800 + f.d)))), (3, .int (I 205 (76800 + f.d))), (1, .int (vl_I f.z)), (0, .ref 196)]) (st' := [.int (241 : Int32), .int (Int32.ofInt f.i), .int (1 : Int32)]) rfl Kz) ?_
          refine jv_Wp.cnd jv_i295 (pt := 242) (pe := 220) (p := (¬ (Int32.ofInt f.i) = (241 : Int32))) (q := (¬ (Int32.ofInt f.i) = (241 : Int32))) rfl jv_bc_ne rfl rfl Iff.rfl (fun _ => ?_) (fun hz => absurd h241 hz)
          refine jv_Wp.lift (fun _ Kz => jv_Ev.steps jv_i295 1 (pc' := 243) (l' := [(2, .int (1 : Int32)), (7, .int (0 : Int32)), (5, .long ((vl_I f.z).toInt64 - (1 : Int64))), (4, .int (vl_I (8 + (76800 + f.d)))), (3, .int (I 205 (76800 + f.d))), (1, .int (vl_I f.z)), (0, .ref 196)]) (st' := [.int (0 : Int32), .int (1 : Int32)]) rfl Kz) ?_
          have Hf51 := vq_first (I := I) (L := L) (K := K) (R := R) (n := n) (sl := sl) 1 0 (by omega) (by omega)
          rw [show vx_fst 1 0 = 1 from by decide] at Hf51
          refine jv_Wp.lift (fun _ Kz => jv_Ev.c jv_i295 (pc' := 246) (S' := [.int (1 : Int32)]) jv_i282 [.int (1 : Int32), .int (0 : Int32)] rfl rfl rfl rfl rfl rfl Hf51 rfl rfl Kz) ?_
          refine jv_Wp.lift (fun _ Kz => jv_Ev.steps jv_i295 2 (pc' := 248) (l' := [(2, .int (1 : Int32)), (7, .int (0 : Int32)), (5, .long ((vl_I f.z).toInt64 - (1 : Int64))), (4, .int (vl_I (8 + (76800 + f.d)))), (3, .int (I 205 (76800 + f.d))), (1, .int (vl_I f.z)), (0, .ref 196)]) (st' := [.int (1 : Int32)]) rfl Kz) ?_
          refine jv_Wp.lift (fun _ Kz => jv_Ev.br jv_i295 (pc' := 251) (st' := []) rfl (by rfl) Kz) ?_
          refine jv_Wp.lift (fun _ Kz => jv_Ev.steps jv_i295 1 (pc' := 252) (l' := [(2, .int (1 : Int32)), (7, .int (0 : Int32)), (5, .long ((vl_I f.z).toInt64 - (1 : Int64))), (4, .int (vl_I (8 + (76800 + f.d)))), (3, .int (I 205 (76800 + f.d))), (1, .int (vl_I f.z)), (0, .ref 196)]) (st' := [.int (1 : Int32)]) rfl Kz) ?_
          refine jv_Wp.of (jv_Ev.ret jv_i295 rfl rfl) ?_
          rw [hQ]
          have td0 : ¬ zd = 0 := fun z => h1 ((vr_isN (L := L) okd hd11).mp ((hd ()).trans z))
          have td7 : zd = 7 := (hd ()).symm.trans ((vr_is (L := L) 7 (by decide) okd).mpr (Classical.not_not.mp h4))
          have ts0 : zs = 0 := (hs ()).symm.trans ((vr_isN (L := L) oks hs11).mpr h8)
          have ev : vx_even (vr_T I L (76800 + f.d)).val f.o f.z = false := by rw [vr_valv (by rw [(vr_is (L := L) 7 (by decide) okd).mp ((hd ()).trans (by omega))]; rfl), ← vr_dO D, vx_even_r hz]; exact (by rw [decide_eq_false h7]; rfl)
          have r7 := vx_r7' (M := M) (A := (vr_A I L 1024)) (o := f.o) (z := f.z) (w := true) ((hd ()).trans (show zd = 7 by omega))
          rw [hrr ()] at r7
          have e : vx_atp M f (vr_A I L 1024) = (1, (vr_A I L 1024)) := by
            exact vx_at1 (by rw [eD, eS, e0, hd (), hs (), h0 ()]; omega)
          exact ⟨_, _, by rw [← eQ, e]; rfl, fun z => by rw [← eQ, e] at z; exact absurd (show (1 : Nat) = 0 from z) (by omega), vr_fr_refl hf⟩
        · refine jv_Wp.lift (fun _ Kz => jv_Ev.steps jv_i295 2 (pc' := 189) (l' := [(2, .int (1 : Int32)), (7, .int (0 : Int32)), (5, .long ((vl_I f.z).toInt64 - (1 : Int64))), (4, .int (vl_I (8 + (76800 + f.d)))), (3, .int (I 205 (76800 + f.d))), (1, .int (vl_I f.z)), (0, .ref 196)]) (st' := [.ref 196, .ref 196, .int (1 : Int32)]) rfl Kz) ?_
          refine jv_Wp.lift (fun _ Kz => jv_Ev.m jv_i295 (pc' := 192) (st' := [.int (vl_I f.s), .ref 196, .int (1 : Int32)]) (G' := (jv_H K I L R)) rfl rfl (jv_m_getI (jv_rwK hW 196 12 24 (by decide)) rfl rfl D.2.2.1) Kz) ?_
          refine jv_Wp.lift (fun _ Kz => jv_Ev.c jv_i295 (pc' := 195) (S' := [.int (I 205 (76800 + f.s)), .int (1 : Int32)]) jv_i271 [.ref 196, .int (vl_I f.s)] rfl rfl rfl rfl (jv_cal rfl (jv_H_at (jv_rwK hW 196 12 24 (by decide))) rfl rfl) rfl (vq_sortOf f.s hW (by omega)) rfl rfl Kz) ?_
          refine jv_Wp.lift (fun _ Kz => jv_Ev.steps jv_i295 1 (pc' := 196) (l' := [(2, .int (1 : Int32)), (7, .int (0 : Int32)), (5, .long ((vl_I f.z).toInt64 - (1 : Int64))), (4, .int (vl_I (8 + (76800 + f.d)))), (3, .int (I 205 (76800 + f.d))), (1, .int (vl_I f.z)), (0, .ref 196)]) (st' := [.int (1 : Int32), .int (I 205 (76800 + f.s)), .int (1 : Int32)]) rfl Kz) ?_
          refine jv_Wp.cnd jv_i295 (pt := 204) (pe := 199) (p := ((I 205 (76800 + f.s)) = (1 : Int32))) (q := ((I 205 (76800 + f.s)) = (1 : Int32))) rfl jv_bc_eq rfl rfl Iff.rfl (fun h9 => ?_) (fun h9 => ?_)
          · refine jv_Wp.lift (fun _ Kz => jv_Ev.steps jv_i295 1 (pc' := 205) (l' := [(2, .int (1 : Int32)), (7, .int (0 : Int32)), (5, .long ((vl_I f.z).toInt64 - (1 : Int64))), (4, .int (vl_I (8 + (76800 + f.d)))), (3, .int (I 205 (76800 + f.d))), (1, .int (vl_I f.z)), (0, .ref 196)]) (st' := [.int (0 : Int32), .int (1 : Int32)]) rfl Kz) ?_
            have Hf52 := vq_first (I := I) (L := L) (K := K) (R := R) (n := n) (sl := sl) 1 0 (by omega) (by omega)
            rw [show vx_fst 1 0 = 1 from by decide] at Hf52
            refine jv_Wp.lift (fun _ Kz => jv_Ev.c jv_i295 (pc' := 208) (S' := [.int (1 : Int32)]) jv_i282 [.int (1 : Int32), .int (0 : Int32)] rfl rfl rfl rfl rfl rfl Hf52 rfl rfl Kz) ?_
            refine jv_Wp.lift (fun _ Kz => jv_Ev.steps jv_i295 3 (pc' := 211) (l' := [(2, .int (1 : Int32)), (7, .int (0 : Int32)), (5, .long ((vl_I f.z).toInt64 - (1 : Int64))), (4, .int (vl_I (8 + (76800 + f.d)))), (3, .int (I 205 (76800 + f.d))), (1, .int (vl_I f.z)), (0, .ref 196)]) (st' := [.ref 196, .int (1 : Int32)]) rfl Kz) ?_
            refine jv_Wp.lift (fun _ Kz => jv_Ev.m jv_i295 (pc' := 214) (st' := [.int (Int32.ofInt f.i), .int (1 : Int32)]) (G' := (jv_H K I L R)) rfl rfl (jv_m_getI (jv_rwK hW 196 12 24 (by decide)) rfl rfl (vr_dJ D)) Kz) ?_
            refine jv_Wp.lift (fun _ Kz => jv_Ev.steps jv_i295 1 (pc' := 217) (l' := [(2, .int (1 : Int32)), (7, .int (0 : Int32)), (5, .long ((vl_I f.z).toInt64 - (1 : Int64))), (4, .int (vl_I (8 + (76800 + f.d)))), (3, .int (I 205 (76800 + f.d))), (1, .int (vl_I f.z)), (0, .ref 196)]) (st' := [.int (241 : Int32), .int (Int32.ofInt f.i), .int (1 : Int32)]) rfl Kz) ?_
            refine jv_Wp.cnd jv_i295 (pt := 242) (pe := 220) (p := (¬ (Int32.ofInt f.i) = (241 : Int32))) (q := (¬ (Int32.ofInt f.i) = (241 : Int32))) rfl jv_bc_ne rfl rfl Iff.rfl (fun _ => ?_) (fun hz => absurd h241 hz)
            refine jv_Wp.lift (fun _ Kz => jv_Ev.steps jv_i295 1 (pc' := 243) (l' := [(2, .int (1 : Int32)), (7, .int (0 : Int32)), (5, .long ((vl_I f.z).toInt64 - (1 : Int64))), (4, .int (vl_I (8 + (76800 + f.d)))), (3, .int (I 205 (76800 + f.d))), (1, .int (vl_I f.z)), (0, .ref 196)]) (st' := [.int (0 : Int32), .int (1 : Int32)]) rfl Kz) ?_
            have Hf53 := vq_first (I := I) (L := L) (K := K) (R := R) (n := n) (sl := sl) 1 0 (by omega) (by omega)
            rw [show vx_fst 1 0 = 1 from by decide] at Hf53
            refine jv_Wp.lift (fun _ Kz => jv_Ev.c jv_i295 (pc' := 246) (S' := [.int (1 : Int32)]) jv_i282 [.int (1 : Int32), .int (0 : Int32)] rfl rfl rfl rfl rfl rfl Hf53 rfl rfl Kz) ?_
            refine jv_Wp.lift (fun _ Kz => jv_Ev.steps jv_i295 2 (pc' := 248) (l' := [(2, .int (1 : Int32)), (7, .int (0 : Int32)), (5, .long ((vl_I f.z).toInt64 - (1 : Int64))), (4, .int (vl_I (8 + (76800 + f.d)))), (3, .int (I 205 (76800 + f.d))), (1, .int (vl_I f.z)), (0, .ref 196)]) (st' := [.int (1 : Int32)]) rfl Kz) ?_
            refine jv_Wp.lift (fun _ Kz => jv_Ev.br jv_i295 (pc' := 251) (st' := []) rfl (by rfl) Kz) ?_
            refine jv_Wp.lift (fun _ Kz => jv_Ev.steps jv_i295 1 (pc' := 252) (l' := [(2, .int (1 : Int32)), (7, .int (0 : Int32)), (5, .long ((vl_I f.z).toInt64 - (1 : Int64))), (4, .int (vl_I (8 + (76800 + f.d)))), (3, .int (I 205 (76800 + f.d))), (1, .int (vl_I f.z)), (0, .ref 196)]) (st' := [.int (1 : Int32)]) rfl Kz) ?_
            refine jv_Wp.of (jv_Ev.ret jv_i295 rfl rfl) ?_
            rw [hQ]
            have td0 : ¬ zd = 0 := fun z => h1 ((vr_isN (L := L) okd hd11).mp ((hd ()).trans z))
            have td7 : zd = 7 := (hd ()).symm.trans ((vr_is (L := L) 7 (by decide) okd).mpr (Classical.not_not.mp h4))
            have ts0 : ¬ zs = 0 := fun z => h8 ((vr_isN (L := L) oks hs11).mp ((hs ()).trans z))
            have ts1 : zs = 1 := (hs ()).symm.trans ((vr_is (L := L) 1 (by decide) oks).mpr h9)
            have ev : vx_even (vr_T I L (76800 + f.d)).val f.o f.z = false := by rw [vr_valv (by rw [(vr_is (L := L) 7 (by decide) okd).mp ((hd ()).trans (by omega))]; rfl), ← vr_dO D, vx_even_r hz]; exact (by rw [decide_eq_false h7]; rfl)
            have r7 := vx_r7' (M := M) (A := (vr_A I L 1024)) (o := f.o) (z := f.z) (w := true) ((hd ()).trans (show zd = 7 by omega))
            rw [hrr ()] at r7
            have e : vx_atp M f (vr_A I L 1024) = (1, (vr_A I L 1024)) := by
              exact vx_at1 (by rw [eD, eS, e0, hd (), hs (), h0 ()]; omega)
            exact ⟨_, _, by rw [← eQ, e]; rfl, fun z => by rw [← eQ, e] at z; exact absurd (show (1 : Nat) = 0 from z) (by omega), vr_fr_refl hf⟩
          · refine jv_Wp.lift (fun _ Kz => jv_Ev.steps jv_i295 2 (pc' := 205) (l' := [(2, .int (1 : Int32)), (7, .int (0 : Int32)), (5, .long ((vl_I f.z).toInt64 - (1 : Int64))), (4, .int (vl_I (8 + (76800 + f.d)))), (3, .int (I 205 (76800 + f.d))), (1, .int (vl_I f.z)), (0, .ref 196)]) (st' := [.int (6 : Int32), .int (1 : Int32)]) rfl Kz) ?_
            have Hf54 := vq_first (I := I) (L := L) (K := K) (R := R) (n := n) (sl := sl) 1 6 (by omega) (by omega)
            rw [show vx_fst 1 6 = 1 from by decide] at Hf54
            refine jv_Wp.lift (fun _ Kz => jv_Ev.c jv_i295 (pc' := 208) (S' := [.int (1 : Int32)]) jv_i282 [.int (1 : Int32), .int (6 : Int32)] rfl rfl rfl rfl rfl rfl Hf54 rfl rfl Kz) ?_
            refine jv_Wp.lift (fun _ Kz => jv_Ev.steps jv_i295 3 (pc' := 211) (l' := [(2, .int (1 : Int32)), (7, .int (0 : Int32)), (5, .long ((vl_I f.z).toInt64 - (1 : Int64))), (4, .int (vl_I (8 + (76800 + f.d)))), (3, .int (I 205 (76800 + f.d))), (1, .int (vl_I f.z)), (0, .ref 196)]) (st' := [.ref 196, .int (1 : Int32)]) rfl Kz) ?_
            refine jv_Wp.lift (fun _ Kz => jv_Ev.m jv_i295 (pc' := 214) (st' := [.int (Int32.ofInt f.i), .int (1 : Int32)]) (G' := (jv_H K I L R)) rfl rfl (jv_m_getI (jv_rwK hW 196 12 24 (by decide)) rfl rfl (vr_dJ D)) Kz) ?_
            refine jv_Wp.lift (fun _ Kz => jv_Ev.steps jv_i295 1 (pc' := 217) (l' := [(2, .int (1 : Int32)), (7, .int (0 : Int32)), (5, .long ((vl_I f.z).toInt64 - (1 : Int64))), (4, .int (vl_I (8 + (76800 + f.d)))), (3, .int (I 205 (76800 + f.d))), (1, .int (vl_I f.z)), (0, .ref 196)]) (st' := [.int (241 : Int32), .int (Int32.ofInt f.i), .int (1 : Int32)]) rfl Kz) ?_
            refine jv_Wp.cnd jv_i295 (pt := 242) (pe := 220) (p := (¬ (Int32.ofInt f.i) = (241 : Int32))) (q := (¬ (Int32.ofInt f.i) = (241 : Int32))) rfl jv_bc_ne rfl rfl Iff.rfl (fun _ => ?_) (fun hz => absurd h241 hz)
            refine jv_Wp.lift (fun _ Kz => jv_Ev.steps jv_i295 1 (pc' := 243) (l' := [(2, .int (1 : Int32)), (7, .int (0 : Int32)), (5, .long ((vl_I f.z).toInt64 - (1 : Int64))), (4, .int (vl_I (8 + (76800 + f.d)))), (3, .int (I 205 (76800 + f.d))), (1, .int (vl_I f.z)), (0, .ref 196)]) (st' := [.int (0 : Int32), .int (1 : Int32)]) rfl Kz) ?_
            have Hf55 := vq_first (I := I) (L := L) (K := K) (R := R) (n := n) (sl := sl) 1 0 (by omega) (by omega)
            rw [show vx_fst 1 0 = 1 from by decide] at Hf55
            refine jv_Wp.lift (fun _ Kz => jv_Ev.c jv_i295 (pc' := 246) (S' := [.int (1 : Int32)]) jv_i282 [.int (1 : Int32), .int (0 : Int32)] rfl rfl rfl rfl rfl rfl Hf55 rfl rfl Kz) ?_
            refine jv_Wp.lift (fun _ Kz => jv_Ev.steps jv_i295 2 (pc' := 248) (l' := [(2, .int (1 : Int32)), (7, .int (0 : Int32)), (5, .long ((vl_I f.z).toInt64 - (1 : Int64))), (4, .int (vl_I (8 + (76800 + f.d)))), (3, .int (I 205 (76800 + f.d))), (1, .int (vl_I f.z)), (0, .ref 196)]) (st' := [.int (1 : Int32)]) rfl Kz) ?_
            refine jv_Wp.lift (fun _ Kz => jv_Ev.br jv_i295 (pc' := 251) (st' := []) rfl (by rfl) Kz) ?_
            refine jv_Wp.lift (fun _ Kz => jv_Ev.steps jv_i295 1 (pc' := 252) (l' := [(2, .int (1 : Int32)), (7, .int (0 : Int32)), (5, .long ((vl_I f.z).toInt64 - (1 : Int64))), (4, .int (vl_I (8 + (76800 + f.d)))), (3, .int (I 205 (76800 + f.d))), (1, .int (vl_I f.z)), (0, .ref 196)]) (st' := [.int (1 : Int32)]) rfl Kz) ?_
            refine jv_Wp.of (jv_Ev.ret jv_i295 rfl rfl) ?_
            rw [hQ]
            have td0 : ¬ zd = 0 := fun z => h1 ((vr_isN (L := L) okd hd11).mp ((hd ()).trans z))
            have td7 : zd = 7 := (hd ()).symm.trans ((vr_is (L := L) 7 (by decide) okd).mpr (Classical.not_not.mp h4))
            have ts0 : ¬ zs = 0 := fun z => h8 ((vr_isN (L := L) oks hs11).mp ((hs ()).trans z))
            have ts1 : ¬ zs = 1 := fun z => h9 ((vr_is (L := L) 1 (by decide) oks).mp ((hs ()).trans z))
            have ev : vx_even (vr_T I L (76800 + f.d)).val f.o f.z = false := by rw [vr_valv (by rw [(vr_is (L := L) 7 (by decide) okd).mp ((hd ()).trans (by omega))]; rfl), ← vr_dO D, vx_even_r hz]; exact (by rw [decide_eq_false h7]; rfl)
            have r7 := vx_r7' (M := M) (A := (vr_A I L 1024)) (o := f.o) (z := f.z) (w := true) ((hd ()).trans (show zd = 7 by omega))
            rw [hrr ()] at r7
            have e : vx_atp M f (vr_A I L 1024) = (1, (vr_A I L 1024)) := by
              exact vx_at1 (by rw [eD, eS, e0, hd (), hs (), h0 ()]; omega)
            exact ⟨_, _, by rw [← eQ, e]; rfl, fun z => by rw [← eQ, e] at z; exact absurd (show (1 : Nat) = 0 from z) (by omega), vr_fr_refl hf⟩
      · refine jv_Wp.lift (fun _ Kz => jv_Ev.steps jv_i295 1 (pc' := 121) (l' := [(5, .long ((vl_I f.z).toInt64 - (1 : Int64))), (4, .int (vl_I (8 + (76800 + f.d)))), (2, .int (1 : Int32)), (3, .int (I 205 (76800 + f.d))), (1, .int (vl_I f.z)), (0, .ref 196)]) (st' := [.ref 196]) rfl Kz) ?_
        refine jv_Wp.lift (fun _ Kz => jv_Ev.m jv_i295 (pc' := 124) (st' := [.ref 208]) (G' := (jv_H K I L R)) rfl rfl (jv_m_getR (jv_rwK hW 196 12 24 (by decide)) rfl rfl (jv_rwR hW 196 16 208 (by decide))) Kz) ?_
        refine jv_Wp.lift (fun _ Kz => jv_Ev.m jv_i295 (pc' := 127) (st' := [.ref 209]) (G' := (jv_H K I L R)) rfl rfl (jv_m_getR (jv_rwK hW 208 11 7 (by decide)) rfl rfl (jv_rwR hW 208 0 209 (by decide))) Kz) ?_
        refine jv_Wp.lift (fun _ Kz => jv_Ev.steps jv_i295 1 (pc' := 129) (l' := [(5, .long ((vl_I f.z).toInt64 - (1 : Int64))), (4, .int (vl_I (8 + (76800 + f.d)))), (2, .int (1 : Int32)), (3, .int (I 205 (76800 + f.d))), (1, .int (vl_I f.z)), (0, .ref 196)]) (st' := [.int (vl_I (8 + (76800 + f.d))), .ref 209]) rfl Kz) ?_
        refine jv_Wp.lift (fun _ Kz => jv_Ev.m jv_i295 (pc' := 130) (st' := [.long (L 209 (8 + (76800 + f.d)))]) (G' := (jv_H K I L R)) rfl rfl (jv_m_laldv (jv_rwK hW 209 103 77200 (by decide)) rfl (vl_I_ix (by omega) (by decide)) rfl ((congrArg (L 209) (vl_I_nat (by omega))).trans rfl)) Kz) ?_
        refine jv_Wp.lift (fun _ Kz => jv_Ev.steps jv_i295 1 (pc' := 131) (l' := [(5, .long ((vl_I f.z).toInt64 - (1 : Int64))), (4, .int (vl_I (8 + (76800 + f.d)))), (2, .int (1 : Int32)), (3, .int (I 205 (76800 + f.d))), (1, .int (vl_I f.z)), (0, .ref 196)]) (st' := [.ref 196, .long (L 209 (8 + (76800 + f.d)))]) rfl Kz) ?_
        refine jv_Wp.lift (fun _ Kz => jv_Ev.m jv_i295 (pc' := 134) (st' := [.int (Int32.ofInt f.o), .long (L 209 (8 + (76800 + f.d)))]) (G' := (jv_H K I L R)) rfl rfl (jv_m_getI (jv_rwK hW 196 12 24 (by decide)) rfl rfl (vr_dI D)) Kz) ?_
        refine jv_Wp.lift (fun _ Kz => jv_Ev.steps jv_i295 6 (pc' := 141) (l' := [(5, .long ((vl_I f.z).toInt64 - (1 : Int64))), (4, .int (vl_I (8 + (76800 + f.d)))), (2, .int (1 : Int32)), (3, .int (I 205 (76800 + f.d))), (1, .int (vl_I f.z)), (0, .ref 196)]) (st' := [.int (lg_cmp (((L 209 (8 + (76800 + f.d))) + (Int32.ofInt f.o).toInt64) &&& ((vl_I f.z).toInt64 - (1 : Int64))) (0 : Int64))]) rfl Kz) ?_
        refine jv_Wp.cnd jv_i295 (pt := 148) (pe := 144) (p := (¬ (lg_cmp (((L 209 (8 + (76800 + f.d))) + (Int32.ofInt f.o).toInt64) &&& ((vl_I f.z).toInt64 - (1 : Int64))) (0 : Int64)) = 0)) (q := (¬ (((L 209 (8 + (76800 + f.d))) + (Int32.ofInt f.o).toInt64) &&& ((vl_I f.z).toInt64 - (1 : Int64))) = (0 : Int64))) rfl jv_bi_ne rfl rfl (not_congr (lg_cmp_eq (((L 209 (8 + (76800 + f.d))) + (Int32.ofInt f.o).toInt64) &&& ((vl_I f.z).toInt64 - (1 : Int64))) (0 : Int64))) (fun h10 => ?_) (fun h10 => ?_)
        · refine jv_Wp.lift (fun _ Kz => jv_Ev.steps jv_i295 4 (pc' := 154) (l' := [(7, .int (0 : Int32)), (5, .long ((vl_I f.z).toInt64 - (1 : Int64))), (4, .int (vl_I (8 + (76800 + f.d)))), (2, .int (1 : Int32)), (3, .int (I 205 (76800 + f.d))), (1, .int (vl_I f.z)), (0, .ref 196)]) (st' := [.int (0 : Int32), .int (1 : Int32)]) rfl Kz) ?_
          refine jv_Wp.lift (fun _ Kz => jv_Ev.br jv_i295 (pc' := 170) (st' := [.int (1 : Int32)]) rfl (by rfl) Kz) ?_
          refine jv_Wp.lift (fun _ Kz => jv_Ev.steps jv_i295 1 (pc' := 171) (l' := [(7, .int (0 : Int32)), (5, .long ((vl_I f.z).toInt64 - (1 : Int64))), (4, .int (vl_I (8 + (76800 + f.d)))), (2, .int (1 : Int32)), (3, .int (I 205 (76800 + f.d))), (1, .int (vl_I f.z)), (0, .ref 196)]) (st' := [.int (4 : Int32), .int (1 : Int32)]) rfl Kz) ?_
          have Hf56 := vq_first (I := I) (L := L) (K := K) (R := R) (n := n) (sl := sl) 1 4 (by omega) (by omega)
          rw [show vx_fst 1 4 = 1 from by decide] at Hf56
          refine jv_Wp.lift (fun _ Kz => jv_Ev.c jv_i295 (pc' := 174) (S' := [.int (1 : Int32)]) jv_i282 [.int (1 : Int32), .int (4 : Int32)] rfl rfl rfl rfl rfl rfl Hf56 rfl rfl Kz) ?_
          refine jv_Wp.lift (fun _ Kz => jv_Ev.steps jv_i295 4 (pc' := 178) (l' := [(2, .int (1 : Int32)), (7, .int (0 : Int32)), (5, .long ((vl_I f.z).toInt64 - (1 : Int64))), (4, .int (vl_I (8 + (76800 + f.d)))), (3, .int (I 205 (76800 + f.d))), (1, .int (vl_I f.z)), (0, .ref 196)]) (st' := [.ref 196, .ref 196, .int (1 : Int32)]) rfl Kz) ?_
          refine jv_Wp.lift (fun _ Kz => jv_Ev.m jv_i295 (pc' := 181) (st' := [.int (vl_I f.s), .ref 196, .int (1 : Int32)]) (G' := (jv_H K I L R)) rfl rfl (jv_m_getI (jv_rwK hW 196 12 24 (by decide)) rfl rfl D.2.2.1) Kz) ?_
          refine jv_Wp.lift (fun _ Kz => jv_Ev.c jv_i295 (pc' := 184) (S' := [.int (I 205 (76800 + f.s)), .int (1 : Int32)]) jv_i271 [.ref 196, .int (vl_I f.s)] rfl rfl rfl rfl (jv_cal rfl (jv_H_at (jv_rwK hW 196 12 24 (by decide))) rfl rfl) rfl (vq_sortOf f.s hW (by omega)) rfl rfl Kz) ?_
          refine jv_Wp.cnd jv_i295 (pt := 204) (pe := 187) (p := ((I 205 (76800 + f.s)) = 0)) (q := ((I 205 (76800 + f.s)) = 0)) rfl jv_bi_eq rfl rfl Iff.rfl (fun h11 => ?_) (fun h11 => ?_)
          · refine jv_Wp.lift (fun _ Kz => jv_Ev.steps jv_i295 1 (pc' := 205) (l' := [(2, .int (1 : Int32)), (7, .int (0 : Int32)), (5, .long ((vl_I f.z).toInt64 - (1 : Int64))), (4, .int (vl_I (8 + (76800 + f.d)))), (3, .int (I 205 (76800 + f.d))), (1, .int (vl_I f.z)), (0, .ref 196)]) (st' := [.int (0 : Int32), .int (1 : Int32)]) rfl Kz) ?_
            have Hf57 := vq_first (I := I) (L := L) (K := K) (R := R) (n := n) (sl := sl) 1 0 (by omega) (by omega)
            rw [show vx_fst 1 0 = 1 from by decide] at Hf57
            refine jv_Wp.lift (fun _ Kz => jv_Ev.c jv_i295 (pc' := 208) (S' := [.int (1 : Int32)]) jv_i282 [.int (1 : Int32), .int (0 : Int32)] rfl rfl rfl rfl rfl rfl Hf57 rfl rfl Kz) ?_
            refine jv_Wp.lift (fun _ Kz => jv_Ev.steps jv_i295 3 (pc' := 211) (l' := [(2, .int (1 : Int32)), (7, .int (0 : Int32)), (5, .long ((vl_I f.z).toInt64 - (1 : Int64))), (4, .int (vl_I (8 + (76800 + f.d)))), (3, .int (I 205 (76800 + f.d))), (1, .int (vl_I f.z)), (0, .ref 196)]) (st' := [.ref 196, .int (1 : Int32)]) rfl Kz) ?_
            refine jv_Wp.lift (fun _ Kz => jv_Ev.m jv_i295 (pc' := 214) (st' := [.int (Int32.ofInt f.i), .int (1 : Int32)]) (G' := (jv_H K I L R)) rfl rfl (jv_m_getI (jv_rwK hW 196 12 24 (by decide)) rfl rfl (vr_dJ D)) Kz) ?_
            refine jv_Wp.lift (fun _ Kz => jv_Ev.steps jv_i295 1 (pc' := 217) (l' := [(2, .int (1 : Int32)), (7, .int (0 : Int32)), (5, .long ((vl_I f.z).toInt64 - (1 : Int64))), (4, .int (vl_I (8 + (76800 + f.d)))), (3, .int (I 205 (76800 + f.d))), (1, .int (vl_I f.z)), (0, .ref 196)]) (st' := [.int (241 : Int32), .int (Int32.ofInt f.i), .int (1 : Int32)]) rfl Kz) ?_
            refine jv_Wp.cnd jv_i295 (pt := 242) (pe := 220) (p := (¬ (Int32.ofInt f.i) = (241 : Int32))) (q := (¬ (Int32.ofInt f.i) = (241 : Int32))) rfl jv_bc_ne rfl rfl Iff.rfl (fun _ => ?_) (fun hz => absurd h241 hz)
            refine jv_Wp.lift (fun _ Kz => jv_Ev.steps jv_i295 1 (pc' := 243) (l' := [(2, .int (1 : Int32)), (7, .int (0 : Int32)), (5, .long ((vl_I f.z).toInt64 - (1 : Int64))), (4, .int (vl_I (8 + (76800 + f.d)))), (3, .int (I 205 (76800 + f.d))), (1, .int (vl_I f.z)), (0, .ref 196)]) (st' := [.int (0 : Int32), .int (1 : Int32)]) rfl Kz) ?_
            have Hf58 := vq_first (I := I) (L := L) (K := K) (R := R) (n := n) (sl := sl) 1 0 (by omega) (by omega)
            rw [show vx_fst 1 0 = 1 from by decide] at Hf58
            refine jv_Wp.lift (fun _ Kz => jv_Ev.c jv_i295 (pc' := 246) (S' := [.int (1 : Int32)]) jv_i282 [.int (1 : Int32), .int (0 : Int32)] rfl rfl rfl rfl rfl rfl Hf58 rfl rfl Kz) ?_
            refine jv_Wp.lift (fun _ Kz => jv_Ev.steps jv_i295 2 (pc' := 248) (l' := [(2, .int (1 : Int32)), (7, .int (0 : Int32)), (5, .long ((vl_I f.z).toInt64 - (1 : Int64))), (4, .int (vl_I (8 + (76800 + f.d)))), (3, .int (I 205 (76800 + f.d))), (1, .int (vl_I f.z)), (0, .ref 196)]) (st' := [.int (1 : Int32)]) rfl Kz) ?_
            refine jv_Wp.lift (fun _ Kz => jv_Ev.br jv_i295 (pc' := 251) (st' := []) rfl (by rfl) Kz) ?_
            refine jv_Wp.lift (fun _ Kz => jv_Ev.steps jv_i295 1 (pc' := 252) (l' := [(2, .int (1 : Int32)), (7, .int (0 : Int32)), (5, .long ((vl_I f.z).toInt64 - (1 : Int64))), (4, .int (vl_I (8 + (76800 + f.d)))), (3, .int (I 205 (76800 + f.d))), (1, .int (vl_I f.z)), (0, .ref 196)]) (st' := [.int (1 : Int32)]) rfl Kz) ?_
            refine jv_Wp.of (jv_Ev.ret jv_i295 rfl rfl) ?_
            rw [hQ]
            have td0 : ¬ zd = 0 := fun z => h1 ((vr_isN (L := L) okd hd11).mp ((hd ()).trans z))
            have td7 : zd = 7 := (hd ()).symm.trans ((vr_is (L := L) 7 (by decide) okd).mpr (Classical.not_not.mp h4))
            have ts0 : zs = 0 := (hs ()).symm.trans ((vr_isN (L := L) oks hs11).mpr h11)
            have ev : vx_even (vr_T I L (76800 + f.d)).val f.o f.z = false := by rw [vr_valv (by rw [(vr_is (L := L) 7 (by decide) okd).mp ((hd ()).trans (by omega))]; rfl), ← vr_dO D, vx_even_r hz]; exact (by rw [decide_eq_false h10, Bool.and_false])
            have r7 := vx_r7' (M := M) (A := (vr_A I L 1024)) (o := f.o) (z := f.z) (w := true) ((hd ()).trans (show zd = 7 by omega))
            rw [hrr ()] at r7
            have e : vx_atp M f (vr_A I L 1024) = (1, (vr_A I L 1024)) := by
              exact vx_at1 (by rw [eD, eS, e0, hd (), hs (), h0 ()]; omega)
            exact ⟨_, _, by rw [← eQ, e]; rfl, fun z => by rw [← eQ, e] at z; exact absurd (show (1 : Nat) = 0 from z) (by omega), vr_fr_refl hf⟩
          · refine jv_Wp.lift (fun _ Kz => jv_Ev.steps jv_i295 2 (pc' := 189) (l' := [(2, .int (1 : Int32)), (7, .int (0 : Int32)), (5, .long ((vl_I f.z).toInt64 - (1 : Int64))), (4, .int (vl_I (8 + (76800 + f.d)))), (3, .int (I 205 (76800 + f.d))), (1, .int (vl_I f.z)), (0, .ref 196)]) (st' := [.ref 196, .ref 196, .int (1 : Int32)]) rfl Kz) ?_
            refine jv_Wp.lift (fun _ Kz => jv_Ev.m jv_i295 (pc' := 192) (st' := [.int (vl_I f.s), .ref 196, .int (1 : Int32)]) (G' := (jv_H K I L R)) rfl rfl (jv_m_getI (jv_rwK hW 196 12 24 (by decide)) rfl rfl D.2.2.1) Kz) ?_
            refine jv_Wp.lift (fun _ Kz => jv_Ev.c jv_i295 (pc' := 195) (S' := [.int (I 205 (76800 + f.s)), .int (1 : Int32)]) jv_i271 [.ref 196, .int (vl_I f.s)] rfl rfl rfl rfl (jv_cal rfl (jv_H_at (jv_rwK hW 196 12 24 (by decide))) rfl rfl) rfl (vq_sortOf f.s hW (by omega)) rfl rfl Kz) ?_
            refine jv_Wp.lift (fun _ Kz => jv_Ev.steps jv_i295 1 (pc' := 196) (l' := [(2, .int (1 : Int32)), (7, .int (0 : Int32)), (5, .long ((vl_I f.z).toInt64 - (1 : Int64))), (4, .int (vl_I (8 + (76800 + f.d)))), (3, .int (I 205 (76800 + f.d))), (1, .int (vl_I f.z)), (0, .ref 196)]) (st' := [.int (1 : Int32), .int (I 205 (76800 + f.s)), .int (1 : Int32)]) rfl Kz) ?_
            refine jv_Wp.cnd jv_i295 (pt := 204) (pe := 199) (p := ((I 205 (76800 + f.s)) = (1 : Int32))) (q := ((I 205 (76800 + f.s)) = (1 : Int32))) rfl jv_bc_eq rfl rfl Iff.rfl (fun h12 => ?_) (fun h12 => ?_)
            · refine jv_Wp.lift (fun _ Kz => jv_Ev.steps jv_i295 1 (pc' := 205) (l' := [(2, .int (1 : Int32)), (7, .int (0 : Int32)), (5, .long ((vl_I f.z).toInt64 - (1 : Int64))), (4, .int (vl_I (8 + (76800 + f.d)))), (3, .int (I 205 (76800 + f.d))), (1, .int (vl_I f.z)), (0, .ref 196)]) (st' := [.int (0 : Int32), .int (1 : Int32)]) rfl Kz) ?_
              have Hf59 := vq_first (I := I) (L := L) (K := K) (R := R) (n := n) (sl := sl) 1 0 (by omega) (by omega)
              rw [show vx_fst 1 0 = 1 from by decide] at Hf59
              refine jv_Wp.lift (fun _ Kz => jv_Ev.c jv_i295 (pc' := 208) (S' := [.int (1 : Int32)]) jv_i282 [.int (1 : Int32), .int (0 : Int32)] rfl rfl rfl rfl rfl rfl Hf59 rfl rfl Kz) ?_
              refine jv_Wp.lift (fun _ Kz => jv_Ev.steps jv_i295 3 (pc' := 211) (l' := [(2, .int (1 : Int32)), (7, .int (0 : Int32)), (5, .long ((vl_I f.z).toInt64 - (1 : Int64))), (4, .int (vl_I (8 + (76800 + f.d)))), (3, .int (I 205 (76800 + f.d))), (1, .int (vl_I f.z)), (0, .ref 196)]) (st' := [.ref 196, .int (1 : Int32)]) rfl Kz) ?_
              refine jv_Wp.lift (fun _ Kz => jv_Ev.m jv_i295 (pc' := 214) (st' := [.int (Int32.ofInt f.i), .int (1 : Int32)]) (G' := (jv_H K I L R)) rfl rfl (jv_m_getI (jv_rwK hW 196 12 24 (by decide)) rfl rfl (vr_dJ D)) Kz) ?_
              refine jv_Wp.lift (fun _ Kz => jv_Ev.steps jv_i295 1 (pc' := 217) (l' := [(2, .int (1 : Int32)), (7, .int (0 : Int32)), (5, .long ((vl_I f.z).toInt64 - (1 : Int64))), (4, .int (vl_I (8 + (76800 + f.d)))), (3, .int (I 205 (76800 + f.d))), (1, .int (vl_I f.z)), (0, .ref 196)]) (st' := [.int (241 : Int32), .int (Int32.ofInt f.i), .int (1 : Int32)]) rfl Kz) ?_
              refine jv_Wp.cnd jv_i295 (pt := 242) (pe := 220) (p := (¬ (Int32.ofInt f.i) = (241 : Int32))) (q := (¬ (Int32.ofInt f.i) = (241 : Int32))) rfl jv_bc_ne rfl rfl Iff.rfl (fun _ => ?_) (fun hz => absurd h241 hz)
              refine jv_Wp.lift (fun _ Kz => jv_Ev.steps jv_i295 1 (pc' := 243) (l' := [(2, .int (1 : Int32)), (7, .int (0 : Int32)), (5, .long ((vl_I f.z).toInt64 - (1 : Int64))), (4, .int (vl_I (8 + (76800 + f.d)))), (3, .int (I 205 (76800 + f.d))), (1, .int (vl_I f.z)), (0, .ref 196)]) (st' := [.int (0 : Int32), .int (1 : Int32)]) rfl Kz) ?_
              have Hf60 := vq_first (I := I) (L := L) (K := K) (R := R) (n := n) (sl := sl) 1 0 (by omega) (by omega)
              rw [show vx_fst 1 0 = 1 from by decide] at Hf60
              refine jv_Wp.lift (fun _ Kz => jv_Ev.c jv_i295 (pc' := 246) (S' := [.int (1 : Int32)]) jv_i282 [.int (1 : Int32), .int (0 : Int32)] rfl rfl rfl rfl rfl rfl Hf60 rfl rfl Kz) ?_
              refine jv_Wp.lift (fun _ Kz => jv_Ev.steps jv_i295 2 (pc' := 248) (l' := [(2, .int (1 : Int32)), (7, .int (0 : Int32)), (5, .long ((vl_I f.z).toInt64 - (1 : Int64))), (4, .int (vl_I (8 + (76800 + f.d)))), (3, .int (I 205 (76800 + f.d))), (1, .int (vl_I f.z)), (0, .ref 196)]) (st' := [.int (1 : Int32)]) rfl Kz) ?_
              refine jv_Wp.lift (fun _ Kz => jv_Ev.br jv_i295 (pc' := 251) (st' := []) rfl (by rfl) Kz) ?_
              refine jv_Wp.lift (fun _ Kz => jv_Ev.steps jv_i295 1 (pc' := 252) (l' := [(2, .int (1 : Int32)), (7, .int (0 : Int32)), (5, .long ((vl_I f.z).toInt64 - (1 : Int64))), (4, .int (vl_I (8 + (76800 + f.d)))), (3, .int (I 205 (76800 + f.d))), (1, .int (vl_I f.z)), (0, .ref 196)]) (st' := [.int (1 : Int32)]) rfl Kz) ?_
              refine jv_Wp.of (jv_Ev.ret jv_i295 rfl rfl) ?_
              rw [hQ]
              have td0 : ¬ zd = 0 := fun z => h1 ((vr_isN (L := L) okd hd11).mp ((hd ()).trans z))
              have td7 : zd = 7 := (hd ()).symm.trans ((vr_is (L := L) 7 (by decide) okd).mpr (Classical.not_not.mp h4))
              have ts0 : ¬ zs = 0 := fun z => h11 ((vr_isN (L := L) oks hs11).mp ((hs ()).trans z))
              have ts1 : zs = 1 := (hs ()).symm.trans ((vr_is (L := L) 1 (by decide) oks).mpr h12)
              have ev : vx_even (vr_T I L (76800 + f.d)).val f.o f.z = false := by rw [vr_valv (by rw [(vr_is (L := L) 7 (by decide) okd).mp ((hd ()).trans (by omega))]; rfl), ← vr_dO D, vx_even_r hz]; exact (by rw [decide_eq_false h10, Bool.and_false])
              have r7 := vx_r7' (M := M) (A := (vr_A I L 1024)) (o := f.o) (z := f.z) (w := true) ((hd ()).trans (show zd = 7 by omega))
              rw [hrr ()] at r7
              have e : vx_atp M f (vr_A I L 1024) = (1, (vr_A I L 1024)) := by
                exact vx_at1 (by rw [eD, eS, e0, hd (), hs (), h0 ()]; omega)
              exact ⟨_, _, by rw [← eQ, e]; rfl, fun z => by rw [← eQ, e] at z; exact absurd (show (1 : Nat) = 0 from z) (by omega), vr_fr_refl hf⟩
            · refine jv_Wp.lift (fun _ Kz => jv_Ev.steps jv_i295 2 (pc' := 205) (l' := [(2, .int (1 : Int32)), (7, .int (0 : Int32)), (5, .long ((vl_I f.z).toInt64 - (1 : Int64))), (4, .int (vl_I (8 + (76800 + f.d)))), (3, .int (I 205 (76800 + f.d))), (1, .int (vl_I f.z)), (0, .ref 196)]) (st' := [.int (6 : Int32), .int (1 : Int32)]) rfl Kz) ?_
              have Hf61 := vq_first (I := I) (L := L) (K := K) (R := R) (n := n) (sl := sl) 1 6 (by omega) (by omega)
              rw [show vx_fst 1 6 = 1 from by decide] at Hf61
              refine jv_Wp.lift (fun _ Kz => jv_Ev.c jv_i295 (pc' := 208) (S' := [.int (1 : Int32)]) jv_i282 [.int (1 : Int32), .int (6 : Int32)] rfl rfl rfl rfl rfl rfl Hf61 rfl rfl Kz) ?_
              refine jv_Wp.lift (fun _ Kz => jv_Ev.steps jv_i295 3 (pc' := 211) (l' := [(2, .int (1 : Int32)), (7, .int (0 : Int32)), (5, .long ((vl_I f.z).toInt64 - (1 : Int64))), (4, .int (vl_I (8 + (76800 + f.d)))), (3, .int (I 205 (76800 + f.d))), (1, .int (vl_I f.z)), (0, .ref 196)]) (st' := [.ref 196, .int (1 : Int32)]) rfl Kz) ?_
              refine jv_Wp.lift (fun _ Kz => jv_Ev.m jv_i295 (pc' := 214) (st' := [.int (Int32.ofInt f.i), .int (1 : Int32)]) (G' := (jv_H K I L R)) rfl rfl (jv_m_getI (jv_rwK hW 196 12 24 (by decide)) rfl rfl (vr_dJ D)) Kz) ?_
              refine jv_Wp.lift (fun _ Kz => jv_Ev.steps jv_i295 1 (pc' := 217) (l' := [(2, .int (1 : Int32)), (7, .int (0 : Int32)), (5, .long ((vl_I f.z).toInt64 - (1 : Int64))), (4, .int (vl_I (8 + (76800 + f.d)))), (3, .int (I 205 (76800 + f.d))), (1, .int (vl_I f.z)), (0, .ref 196)]) (st' := [.int (241 : Int32), .int (Int32.ofInt f.i), .int (1 : Int32)]) rfl Kz) ?_
              refine jv_Wp.cnd jv_i295 (pt := 242) (pe := 220) (p := (¬ (Int32.ofInt f.i) = (241 : Int32))) (q := (¬ (Int32.ofInt f.i) = (241 : Int32))) rfl jv_bc_ne rfl rfl Iff.rfl (fun _ => ?_) (fun hz => absurd h241 hz)
              refine jv_Wp.lift (fun _ Kz => jv_Ev.steps jv_i295 1 (pc' := 243) (l' := [(2, .int (1 : Int32)), (7, .int (0 : Int32)), (5, .long ((vl_I f.z).toInt64 - (1 : Int64))), (4, .int (vl_I (8 + (76800 + f.d)))), (3, .int (I 205 (76800 + f.d))), (1, .int (vl_I f.z)), (0, .ref 196)]) (st' := [.int (0 : Int32), .int (1 : Int32)]) rfl Kz) ?_
              have Hf62 := vq_first (I := I) (L := L) (K := K) (R := R) (n := n) (sl := sl) 1 0 (by omega) (by omega)
              rw [show vx_fst 1 0 = 1 from by decide] at Hf62
              refine jv_Wp.lift (fun _ Kz => jv_Ev.c jv_i295 (pc' := 246) (S' := [.int (1 : Int32)]) jv_i282 [.int (1 : Int32), .int (0 : Int32)] rfl rfl rfl rfl rfl rfl Hf62 rfl rfl Kz) ?_
              refine jv_Wp.lift (fun _ Kz => jv_Ev.steps jv_i295 2 (pc' := 248) (l' := [(2, .int (1 : Int32)), (7, .int (0 : Int32)), (5, .long ((vl_I f.z).toInt64 - (1 : Int64))), (4, .int (vl_I (8 + (76800 + f.d)))), (3, .int (I 205 (76800 + f.d))), (1, .int (vl_I f.z)), (0, .ref 196)]) (st' := [.int (1 : Int32)]) rfl Kz) ?_
              refine jv_Wp.lift (fun _ Kz => jv_Ev.br jv_i295 (pc' := 251) (st' := []) rfl (by rfl) Kz) ?_
              refine jv_Wp.lift (fun _ Kz => jv_Ev.steps jv_i295 1 (pc' := 252) (l' := [(2, .int (1 : Int32)), (7, .int (0 : Int32)), (5, .long ((vl_I f.z).toInt64 - (1 : Int64))), (4, .int (vl_I (8 + (76800 + f.d)))), (3, .int (I 205 (76800 + f.d))), (1, .int (vl_I f.z)), (0, .ref 196)]) (st' := [.int (1 : Int32)]) rfl Kz) ?_
              refine jv_Wp.of (jv_Ev.ret jv_i295 rfl rfl) ?_
              rw [hQ]
              have td0 : ¬ zd = 0 := fun z => h1 ((vr_isN (L := L) okd hd11).mp ((hd ()).trans z))
              have td7 : zd = 7 := (hd ()).symm.trans ((vr_is (L := L) 7 (by decide) okd).mpr (Classical.not_not.mp h4))
              have ts0 : ¬ zs = 0 := fun z => h11 ((vr_isN (L := L) oks hs11).mp ((hs ()).trans z))
              have ts1 : ¬ zs = 1 := fun z => h12 ((vr_is (L := L) 1 (by decide) oks).mp ((hs ()).trans z))
              have ev : vx_even (vr_T I L (76800 + f.d)).val f.o f.z = false := by rw [vr_valv (by rw [(vr_is (L := L) 7 (by decide) okd).mp ((hd ()).trans (by omega))]; rfl), ← vr_dO D, vx_even_r hz]; exact (by rw [decide_eq_false h10, Bool.and_false])
              have r7 := vx_r7' (M := M) (A := (vr_A I L 1024)) (o := f.o) (z := f.z) (w := true) ((hd ()).trans (show zd = 7 by omega))
              rw [hrr ()] at r7
              have e : vx_atp M f (vr_A I L 1024) = (1, (vr_A I L 1024)) := by
                exact vx_at1 (by rw [eD, eS, e0, hd (), hs (), h0 ()]; omega)
              exact ⟨_, _, by rw [← eQ, e]; rfl, fun z => by rw [← eQ, e] at z; exact absurd (show (1 : Nat) = 0 from z) (by omega), vr_fr_refl hf⟩
        · refine jv_Wp.lift (fun _ Kz => jv_Ev.steps jv_i295 5 (pc' := 154) (l' := [(7, .int (1 : Int32)), (5, .long ((vl_I f.z).toInt64 - (1 : Int64))), (4, .int (vl_I (8 + (76800 + f.d)))), (2, .int (1 : Int32)), (3, .int (I 205 (76800 + f.d))), (1, .int (vl_I f.z)), (0, .ref 196)]) (st' := [.int (1 : Int32), .int (1 : Int32)]) rfl Kz) ?_
          refine jv_Wp.lift (fun _ Kz => jv_Ev.br jv_i295 (pc' := 157) (st' := [.int (1 : Int32)]) rfl (by rfl) Kz) ?_
          refine jv_Wp.lift (fun _ Kz => jv_Ev.steps jv_i295 2 (pc' := 159) (l' := [(7, .int (1 : Int32)), (5, .long ((vl_I f.z).toInt64 - (1 : Int64))), (4, .int (vl_I (8 + (76800 + f.d)))), (2, .int (1 : Int32)), (3, .int (I 205 (76800 + f.d))), (1, .int (vl_I f.z)), (0, .ref 196)]) (st' := [.ref 196, .ref 196, .int (1 : Int32)]) rfl Kz) ?_
          refine jv_Wp.lift (fun _ Kz => jv_Ev.m jv_i295 (pc' := 162) (st' := [.int (vl_I f.d), .ref 196, .int (1 : Int32)]) (G' := (jv_H K I L R)) rfl rfl (jv_m_getI (jv_rwK hW 196 12 24 (by decide)) rfl rfl D.2.1) Kz) ?_
          refine jv_Wp.lift (fun _ Kz => jv_Ev.steps jv_i295 2 (pc' := 164) (l' := [(7, .int (1 : Int32)), (5, .long ((vl_I f.z).toInt64 - (1 : Int64))), (4, .int (vl_I (8 + (76800 + f.d)))), (2, .int (1 : Int32)), (3, .int (I 205 (76800 + f.d))), (1, .int (vl_I f.z)), (0, .ref 196)]) (st' := [.int (1 : Int32), .int (vl_I f.z), .int (vl_I f.d), .ref 196, .int (1 : Int32)]) rfl Kz) ?_
          have Hb := vq_reach (I := I) (L := L) (n := n) (sl := sl) M f f.d kd f.z true hW hM D okd hd11 hz k8 hkd
          rw [hbd ()] at Hb
          refine jv_Wp.lift (fun _ Kz => jv_Ev.c jv_i295 (pc' := 167) (S' := [.int (vl_I bd), .int (1 : Int32)]) jv_i290 [.ref 196, .int (vl_I f.d), .int (vl_I f.z), .int (1 : Int32)] rfl rfl rfl rfl (jv_cal rfl (jv_H_at (jv_rwK hW 196 12 24 (by decide))) rfl rfl) rfl Hb rfl rfl Kz) ?_
          refine jv_Wp.lift (fun _ Kz => jv_Ev.steps jv_i295 1 (pc' := 171) (l' := [(7, .int (1 : Int32)), (5, .long ((vl_I f.z).toInt64 - (1 : Int64))), (4, .int (vl_I (8 + (76800 + f.d)))), (2, .int (1 : Int32)), (3, .int (I 205 (76800 + f.d))), (1, .int (vl_I f.z)), (0, .ref 196)]) (st' := [.int (vl_I bd), .int (1 : Int32)]) rfl Kz) ?_
          have Hf63 := vq_first (I := I) (L := L) (K := K) (R := R) (n := n) (sl := sl) 1 bd (by omega) (by omega)
          rw [show vx_fst 1 bd = 1 from by have q := vx_fst_g 1 bd; omega] at Hf63
          refine jv_Wp.lift (fun _ Kz => jv_Ev.c jv_i295 (pc' := 174) (S' := [.int (1 : Int32)]) jv_i282 [.int (1 : Int32), .int (vl_I bd)] rfl rfl rfl rfl rfl rfl Hf63 rfl rfl Kz) ?_
          refine jv_Wp.lift (fun _ Kz => jv_Ev.steps jv_i295 4 (pc' := 178) (l' := [(2, .int (1 : Int32)), (7, .int (1 : Int32)), (5, .long ((vl_I f.z).toInt64 - (1 : Int64))), (4, .int (vl_I (8 + (76800 + f.d)))), (3, .int (I 205 (76800 + f.d))), (1, .int (vl_I f.z)), (0, .ref 196)]) (st' := [.ref 196, .ref 196, .int (1 : Int32)]) rfl Kz) ?_
          refine jv_Wp.lift (fun _ Kz => jv_Ev.m jv_i295 (pc' := 181) (st' := [.int (vl_I f.s), .ref 196, .int (1 : Int32)]) (G' := (jv_H K I L R)) rfl rfl (jv_m_getI (jv_rwK hW 196 12 24 (by decide)) rfl rfl D.2.2.1) Kz) ?_
          refine jv_Wp.lift (fun _ Kz => jv_Ev.c jv_i295 (pc' := 184) (S' := [.int (I 205 (76800 + f.s)), .int (1 : Int32)]) jv_i271 [.ref 196, .int (vl_I f.s)] rfl rfl rfl rfl (jv_cal rfl (jv_H_at (jv_rwK hW 196 12 24 (by decide))) rfl rfl) rfl (vq_sortOf f.s hW (by omega)) rfl rfl Kz) ?_
          refine jv_Wp.cnd jv_i295 (pt := 204) (pe := 187) (p := ((I 205 (76800 + f.s)) = 0)) (q := ((I 205 (76800 + f.s)) = 0)) rfl jv_bi_eq rfl rfl Iff.rfl (fun h13 => ?_) (fun h13 => ?_)
          · refine jv_Wp.lift (fun _ Kz => jv_Ev.steps jv_i295 1 (pc' := 205) (l' := [(2, .int (1 : Int32)), (7, .int (1 : Int32)), (5, .long ((vl_I f.z).toInt64 - (1 : Int64))), (4, .int (vl_I (8 + (76800 + f.d)))), (3, .int (I 205 (76800 + f.d))), (1, .int (vl_I f.z)), (0, .ref 196)]) (st' := [.int (0 : Int32), .int (1 : Int32)]) rfl Kz) ?_
            have Hf64 := vq_first (I := I) (L := L) (K := K) (R := R) (n := n) (sl := sl) 1 0 (by omega) (by omega)
            rw [show vx_fst 1 0 = 1 from by decide] at Hf64
            refine jv_Wp.lift (fun _ Kz => jv_Ev.c jv_i295 (pc' := 208) (S' := [.int (1 : Int32)]) jv_i282 [.int (1 : Int32), .int (0 : Int32)] rfl rfl rfl rfl rfl rfl Hf64 rfl rfl Kz) ?_
            refine jv_Wp.lift (fun _ Kz => jv_Ev.steps jv_i295 3 (pc' := 211) (l' := [(2, .int (1 : Int32)), (7, .int (1 : Int32)), (5, .long ((vl_I f.z).toInt64 - (1 : Int64))), (4, .int (vl_I (8 + (76800 + f.d)))), (3, .int (I 205 (76800 + f.d))), (1, .int (vl_I f.z)), (0, .ref 196)]) (st' := [.ref 196, .int (1 : Int32)]) rfl Kz) ?_
            refine jv_Wp.lift (fun _ Kz => jv_Ev.m jv_i295 (pc' := 214) (st' := [.int (Int32.ofInt f.i), .int (1 : Int32)]) (G' := (jv_H K I L R)) rfl rfl (jv_m_getI (jv_rwK hW 196 12 24 (by decide)) rfl rfl (vr_dJ D)) Kz) ?_
            refine jv_Wp.lift (fun _ Kz => jv_Ev.steps jv_i295 1 (pc' := 217) (l' := [(2, .int (1 : Int32)), (7, .int (1 : Int32)), (5, .long ((vl_I f.z).toInt64 - (1 : Int64))), (4, .int (vl_I (8 + (76800 + f.d)))), (3, .int (I 205 (76800 + f.d))), (1, .int (vl_I f.z)), (0, .ref 196)]) (st' := [.int (241 : Int32), .int (Int32.ofInt f.i), .int (1 : Int32)]) rfl Kz) ?_
            refine jv_Wp.cnd jv_i295 (pt := 242) (pe := 220) (p := (¬ (Int32.ofInt f.i) = (241 : Int32))) (q := (¬ (Int32.ofInt f.i) = (241 : Int32))) rfl jv_bc_ne rfl rfl Iff.rfl (fun _ => ?_) (fun hz => absurd h241 hz)
            refine jv_Wp.lift (fun _ Kz => jv_Ev.steps jv_i295 1 (pc' := 243) (l' := [(2, .int (1 : Int32)), (7, .int (1 : Int32)), (5, .long ((vl_I f.z).toInt64 - (1 : Int64))), (4, .int (vl_I (8 + (76800 + f.d)))), (3, .int (I 205 (76800 + f.d))), (1, .int (vl_I f.z)), (0, .ref 196)]) (st' := [.int (0 : Int32), .int (1 : Int32)]) rfl Kz) ?_
            have Hf65 := vq_first (I := I) (L := L) (K := K) (R := R) (n := n) (sl := sl) 1 0 (by omega) (by omega)
            rw [show vx_fst 1 0 = 1 from by decide] at Hf65
            refine jv_Wp.lift (fun _ Kz => jv_Ev.c jv_i295 (pc' := 246) (S' := [.int (1 : Int32)]) jv_i282 [.int (1 : Int32), .int (0 : Int32)] rfl rfl rfl rfl rfl rfl Hf65 rfl rfl Kz) ?_
            refine jv_Wp.lift (fun _ Kz => jv_Ev.steps jv_i295 2 (pc' := 248) (l' := [(2, .int (1 : Int32)), (7, .int (1 : Int32)), (5, .long ((vl_I f.z).toInt64 - (1 : Int64))), (4, .int (vl_I (8 + (76800 + f.d)))), (3, .int (I 205 (76800 + f.d))), (1, .int (vl_I f.z)), (0, .ref 196)]) (st' := [.int (1 : Int32)]) rfl Kz) ?_
            refine jv_Wp.lift (fun _ Kz => jv_Ev.br jv_i295 (pc' := 251) (st' := []) rfl (by rfl) Kz) ?_
            refine jv_Wp.lift (fun _ Kz => jv_Ev.steps jv_i295 1 (pc' := 252) (l' := [(2, .int (1 : Int32)), (7, .int (1 : Int32)), (5, .long ((vl_I f.z).toInt64 - (1 : Int64))), (4, .int (vl_I (8 + (76800 + f.d)))), (3, .int (I 205 (76800 + f.d))), (1, .int (vl_I f.z)), (0, .ref 196)]) (st' := [.int (1 : Int32)]) rfl Kz) ?_
            refine jv_Wp.of (jv_Ev.ret jv_i295 rfl rfl) ?_
            rw [hQ]
            have td0 : ¬ zd = 0 := fun z => h1 ((vr_isN (L := L) okd hd11).mp ((hd ()).trans z))
            have td7 : zd = 7 := (hd ()).symm.trans ((vr_is (L := L) 7 (by decide) okd).mpr (Classical.not_not.mp h4))
            have ts0 : zs = 0 := (hs ()).symm.trans ((vr_isN (L := L) oks hs11).mpr h13)
            have ev : vx_even (vr_T I L (76800 + f.d)).val f.o f.z = true := by rw [vr_valv (by rw [(vr_is (L := L) 7 (by decide) okd).mp ((hd ()).trans (by omega))]; rfl), ← vr_dO D, vx_even_r hz]; exact (by rw [decide_eq_true (Classical.not_not.mp h7), decide_eq_true (Classical.not_not.mp h10)]; rfl)
            have r7 := vx_r7' (M := M) (A := (vr_A I L 1024)) (o := f.o) (z := f.z) (w := true) ((hd ()).trans (show zd = 7 by omega))
            rw [hrr ()] at r7
            have e : vx_atp M f (vr_A I L 1024) = (1, (vr_A I L 1024)) := by
              exact vx_at1 (by rw [eD, eS, e0, hd (), hs (), h0 ()]; omega)
            exact ⟨_, _, by rw [← eQ, e]; rfl, fun z => by rw [← eQ, e] at z; exact absurd (show (1 : Nat) = 0 from z) (by omega), vr_fr_refl hf⟩
          · refine jv_Wp.lift (fun _ Kz => jv_Ev.steps jv_i295 2 (pc' := 189) (l' := [(2, .int (1 : Int32)), (7, .int (1 : Int32)), (5, .long ((vl_I f.z).toInt64 - (1 : Int64))), (4, .int (vl_I (8 + (76800 + f.d)))), (3, .int (I 205 (76800 + f.d))), (1, .int (vl_I f.z)), (0, .ref 196)]) (st' := [.ref 196, .ref 196, .int (1 : Int32)]) rfl Kz) ?_
            refine jv_Wp.lift (fun _ Kz => jv_Ev.m jv_i295 (pc' := 192) (st' := [.int (vl_I f.s), .ref 196, .int (1 : Int32)]) (G' := (jv_H K I L R)) rfl rfl (jv_m_getI (jv_rwK hW 196 12 24 (by decide)) rfl rfl D.2.2.1) Kz) ?_
            refine jv_Wp.lift (fun _ Kz => jv_Ev.c jv_i295 (pc' := 195) (S' := [.int (I 205 (76800 + f.s)), .int (1 : Int32)]) jv_i271 [.ref 196, .int (vl_I f.s)] rfl rfl rfl rfl (jv_cal rfl (jv_H_at (jv_rwK hW 196 12 24 (by decide))) rfl rfl) rfl (vq_sortOf f.s hW (by omega)) rfl rfl Kz) ?_
            refine jv_Wp.lift (fun _ Kz => jv_Ev.steps jv_i295 1 (pc' := 196) (l' := [(2, .int (1 : Int32)), (7, .int (1 : Int32)), (5, .long ((vl_I f.z).toInt64 - (1 : Int64))), (4, .int (vl_I (8 + (76800 + f.d)))), (3, .int (I 205 (76800 + f.d))), (1, .int (vl_I f.z)), (0, .ref 196)]) (st' := [.int (1 : Int32), .int (I 205 (76800 + f.s)), .int (1 : Int32)]) rfl Kz) ?_
            refine jv_Wp.cnd jv_i295 (pt := 204) (pe := 199) (p := ((I 205 (76800 + f.s)) = (1 : Int32))) (q := ((I 205 (76800 + f.s)) = (1 : Int32))) rfl jv_bc_eq rfl rfl Iff.rfl (fun h14 => ?_) (fun h14 => ?_)
            · refine jv_Wp.lift (fun _ Kz => jv_Ev.steps jv_i295 1 (pc' := 205) (l' := [(2, .int (1 : Int32)), (7, .int (1 : Int32)), (5, .long ((vl_I f.z).toInt64 - (1 : Int64))), (4, .int (vl_I (8 + (76800 + f.d)))), (3, .int (I 205 (76800 + f.d))), (1, .int (vl_I f.z)), (0, .ref 196)]) (st' := [.int (0 : Int32), .int (1 : Int32)]) rfl Kz) ?_
              have Hf66 := vq_first (I := I) (L := L) (K := K) (R := R) (n := n) (sl := sl) 1 0 (by omega) (by omega)
              rw [show vx_fst 1 0 = 1 from by decide] at Hf66
              refine jv_Wp.lift (fun _ Kz => jv_Ev.c jv_i295 (pc' := 208) (S' := [.int (1 : Int32)]) jv_i282 [.int (1 : Int32), .int (0 : Int32)] rfl rfl rfl rfl rfl rfl Hf66 rfl rfl Kz) ?_
              refine jv_Wp.lift (fun _ Kz => jv_Ev.steps jv_i295 3 (pc' := 211) (l' := [(2, .int (1 : Int32)), (7, .int (1 : Int32)), (5, .long ((vl_I f.z).toInt64 - (1 : Int64))), (4, .int (vl_I (8 + (76800 + f.d)))), (3, .int (I 205 (76800 + f.d))), (1, .int (vl_I f.z)), (0, .ref 196)]) (st' := [.ref 196, .int (1 : Int32)]) rfl Kz) ?_
              refine jv_Wp.lift (fun _ Kz => jv_Ev.m jv_i295 (pc' := 214) (st' := [.int (Int32.ofInt f.i), .int (1 : Int32)]) (G' := (jv_H K I L R)) rfl rfl (jv_m_getI (jv_rwK hW 196 12 24 (by decide)) rfl rfl (vr_dJ D)) Kz) ?_
              refine jv_Wp.lift (fun _ Kz => jv_Ev.steps jv_i295 1 (pc' := 217) (l' := [(2, .int (1 : Int32)), (7, .int (1 : Int32)), (5, .long ((vl_I f.z).toInt64 - (1 : Int64))), (4, .int (vl_I (8 + (76800 + f.d)))), (3, .int (I 205 (76800 + f.d))), (1, .int (vl_I f.z)), (0, .ref 196)]) (st' := [.int (241 : Int32), .int (Int32.ofInt f.i), .int (1 : Int32)]) rfl Kz) ?_
              refine jv_Wp.cnd jv_i295 (pt := 242) (pe := 220) (p := (¬ (Int32.ofInt f.i) = (241 : Int32))) (q := (¬ (Int32.ofInt f.i) = (241 : Int32))) rfl jv_bc_ne rfl rfl Iff.rfl (fun _ => ?_) (fun hz => absurd h241 hz)
              refine jv_Wp.lift (fun _ Kz => jv_Ev.steps jv_i295 1 (pc' := 243) (l' := [(2, .int (1 : Int32)), (7, .int (1 : Int32)), (5, .long ((vl_I f.z).toInt64 - (1 : Int64))), (4, .int (vl_I (8 + (76800 + f.d)))), (3, .int (I 205 (76800 + f.d))), (1, .int (vl_I f.z)), (0, .ref 196)]) (st' := [.int (0 : Int32), .int (1 : Int32)]) rfl Kz) ?_
              have Hf67 := vq_first (I := I) (L := L) (K := K) (R := R) (n := n) (sl := sl) 1 0 (by omega) (by omega)
              rw [show vx_fst 1 0 = 1 from by decide] at Hf67
              refine jv_Wp.lift (fun _ Kz => jv_Ev.c jv_i295 (pc' := 246) (S' := [.int (1 : Int32)]) jv_i282 [.int (1 : Int32), .int (0 : Int32)] rfl rfl rfl rfl rfl rfl Hf67 rfl rfl Kz) ?_
              refine jv_Wp.lift (fun _ Kz => jv_Ev.steps jv_i295 2 (pc' := 248) (l' := [(2, .int (1 : Int32)), (7, .int (1 : Int32)), (5, .long ((vl_I f.z).toInt64 - (1 : Int64))), (4, .int (vl_I (8 + (76800 + f.d)))), (3, .int (I 205 (76800 + f.d))), (1, .int (vl_I f.z)), (0, .ref 196)]) (st' := [.int (1 : Int32)]) rfl Kz) ?_
              refine jv_Wp.lift (fun _ Kz => jv_Ev.br jv_i295 (pc' := 251) (st' := []) rfl (by rfl) Kz) ?_
              refine jv_Wp.lift (fun _ Kz => jv_Ev.steps jv_i295 1 (pc' := 252) (l' := [(2, .int (1 : Int32)), (7, .int (1 : Int32)), (5, .long ((vl_I f.z).toInt64 - (1 : Int64))), (4, .int (vl_I (8 + (76800 + f.d)))), (3, .int (I 205 (76800 + f.d))), (1, .int (vl_I f.z)), (0, .ref 196)]) (st' := [.int (1 : Int32)]) rfl Kz) ?_
              refine jv_Wp.of (jv_Ev.ret jv_i295 rfl rfl) ?_
              rw [hQ]
              have td0 : ¬ zd = 0 := fun z => h1 ((vr_isN (L := L) okd hd11).mp ((hd ()).trans z))
              have td7 : zd = 7 := (hd ()).symm.trans ((vr_is (L := L) 7 (by decide) okd).mpr (Classical.not_not.mp h4))
              have ts0 : ¬ zs = 0 := fun z => h13 ((vr_isN (L := L) oks hs11).mp ((hs ()).trans z))
              have ts1 : zs = 1 := (hs ()).symm.trans ((vr_is (L := L) 1 (by decide) oks).mpr h14)
              have ev : vx_even (vr_T I L (76800 + f.d)).val f.o f.z = true := by rw [vr_valv (by rw [(vr_is (L := L) 7 (by decide) okd).mp ((hd ()).trans (by omega))]; rfl), ← vr_dO D, vx_even_r hz]; exact (by rw [decide_eq_true (Classical.not_not.mp h7), decide_eq_true (Classical.not_not.mp h10)]; rfl)
              have r7 := vx_r7' (M := M) (A := (vr_A I L 1024)) (o := f.o) (z := f.z) (w := true) ((hd ()).trans (show zd = 7 by omega))
              rw [hrr ()] at r7
              have e : vx_atp M f (vr_A I L 1024) = (1, (vr_A I L 1024)) := by
                exact vx_at1 (by rw [eD, eS, e0, hd (), hs (), h0 ()]; omega)
              exact ⟨_, _, by rw [← eQ, e]; rfl, fun z => by rw [← eQ, e] at z; exact absurd (show (1 : Nat) = 0 from z) (by omega), vr_fr_refl hf⟩
            · refine jv_Wp.lift (fun _ Kz => jv_Ev.steps jv_i295 2 (pc' := 205) (l' := [(2, .int (1 : Int32)), (7, .int (1 : Int32)), (5, .long ((vl_I f.z).toInt64 - (1 : Int64))), (4, .int (vl_I (8 + (76800 + f.d)))), (3, .int (I 205 (76800 + f.d))), (1, .int (vl_I f.z)), (0, .ref 196)]) (st' := [.int (6 : Int32), .int (1 : Int32)]) rfl Kz) ?_
              have Hf68 := vq_first (I := I) (L := L) (K := K) (R := R) (n := n) (sl := sl) 1 6 (by omega) (by omega)
              rw [show vx_fst 1 6 = 1 from by decide] at Hf68
              refine jv_Wp.lift (fun _ Kz => jv_Ev.c jv_i295 (pc' := 208) (S' := [.int (1 : Int32)]) jv_i282 [.int (1 : Int32), .int (6 : Int32)] rfl rfl rfl rfl rfl rfl Hf68 rfl rfl Kz) ?_
              refine jv_Wp.lift (fun _ Kz => jv_Ev.steps jv_i295 3 (pc' := 211) (l' := [(2, .int (1 : Int32)), (7, .int (1 : Int32)), (5, .long ((vl_I f.z).toInt64 - (1 : Int64))), (4, .int (vl_I (8 + (76800 + f.d)))), (3, .int (I 205 (76800 + f.d))), (1, .int (vl_I f.z)), (0, .ref 196)]) (st' := [.ref 196, .int (1 : Int32)]) rfl Kz) ?_
              refine jv_Wp.lift (fun _ Kz => jv_Ev.m jv_i295 (pc' := 214) (st' := [.int (Int32.ofInt f.i), .int (1 : Int32)]) (G' := (jv_H K I L R)) rfl rfl (jv_m_getI (jv_rwK hW 196 12 24 (by decide)) rfl rfl (vr_dJ D)) Kz) ?_
              refine jv_Wp.lift (fun _ Kz => jv_Ev.steps jv_i295 1 (pc' := 217) (l' := [(2, .int (1 : Int32)), (7, .int (1 : Int32)), (5, .long ((vl_I f.z).toInt64 - (1 : Int64))), (4, .int (vl_I (8 + (76800 + f.d)))), (3, .int (I 205 (76800 + f.d))), (1, .int (vl_I f.z)), (0, .ref 196)]) (st' := [.int (241 : Int32), .int (Int32.ofInt f.i), .int (1 : Int32)]) rfl Kz) ?_
              refine jv_Wp.cnd jv_i295 (pt := 242) (pe := 220) (p := (¬ (Int32.ofInt f.i) = (241 : Int32))) (q := (¬ (Int32.ofInt f.i) = (241 : Int32))) rfl jv_bc_ne rfl rfl Iff.rfl (fun _ => ?_) (fun hz => absurd h241 hz)
              refine jv_Wp.lift (fun _ Kz => jv_Ev.steps jv_i295 1 (pc' := 243) (l' := [(2, .int (1 : Int32)), (7, .int (1 : Int32)), (5, .long ((vl_I f.z).toInt64 - (1 : Int64))), (4, .int (vl_I (8 + (76800 + f.d)))), (3, .int (I 205 (76800 + f.d))), (1, .int (vl_I f.z)), (0, .ref 196)]) (st' := [.int (0 : Int32), .int (1 : Int32)]) rfl Kz) ?_
              have Hf69 := vq_first (I := I) (L := L) (K := K) (R := R) (n := n) (sl := sl) 1 0 (by omega) (by omega)
              rw [show vx_fst 1 0 = 1 from by decide] at Hf69
              refine jv_Wp.lift (fun _ Kz => jv_Ev.c jv_i295 (pc' := 246) (S' := [.int (1 : Int32)]) jv_i282 [.int (1 : Int32), .int (0 : Int32)] rfl rfl rfl rfl rfl rfl Hf69 rfl rfl Kz) ?_
              refine jv_Wp.lift (fun _ Kz => jv_Ev.steps jv_i295 2 (pc' := 248) (l' := [(2, .int (1 : Int32)), (7, .int (1 : Int32)), (5, .long ((vl_I f.z).toInt64 - (1 : Int64))), (4, .int (vl_I (8 + (76800 + f.d)))), (3, .int (I 205 (76800 + f.d))), (1, .int (vl_I f.z)), (0, .ref 196)]) (st' := [.int (1 : Int32)]) rfl Kz) ?_
              refine jv_Wp.lift (fun _ Kz => jv_Ev.br jv_i295 (pc' := 251) (st' := []) rfl (by rfl) Kz) ?_
              refine jv_Wp.lift (fun _ Kz => jv_Ev.steps jv_i295 1 (pc' := 252) (l' := [(2, .int (1 : Int32)), (7, .int (1 : Int32)), (5, .long ((vl_I f.z).toInt64 - (1 : Int64))), (4, .int (vl_I (8 + (76800 + f.d)))), (3, .int (I 205 (76800 + f.d))), (1, .int (vl_I f.z)), (0, .ref 196)]) (st' := [.int (1 : Int32)]) rfl Kz) ?_
              refine jv_Wp.of (jv_Ev.ret jv_i295 rfl rfl) ?_
              rw [hQ]
              have td0 : ¬ zd = 0 := fun z => h1 ((vr_isN (L := L) okd hd11).mp ((hd ()).trans z))
              have td7 : zd = 7 := (hd ()).symm.trans ((vr_is (L := L) 7 (by decide) okd).mpr (Classical.not_not.mp h4))
              have ts0 : ¬ zs = 0 := fun z => h13 ((vr_isN (L := L) oks hs11).mp ((hs ()).trans z))
              have ts1 : ¬ zs = 1 := fun z => h14 ((vr_is (L := L) 1 (by decide) oks).mp ((hs ()).trans z))
              have ev : vx_even (vr_T I L (76800 + f.d)).val f.o f.z = true := by rw [vr_valv (by rw [(vr_is (L := L) 7 (by decide) okd).mp ((hd ()).trans (by omega))]; rfl), ← vr_dO D, vx_even_r hz]; exact (by rw [decide_eq_true (Classical.not_not.mp h7), decide_eq_true (Classical.not_not.mp h10)]; rfl)
              have r7 := vx_r7' (M := M) (A := (vr_A I L 1024)) (o := f.o) (z := f.z) (w := true) ((hd ()).trans (show zd = 7 by omega))
              rw [hrr ()] at r7
              have e : vx_atp M f (vr_A I L 1024) = (1, (vr_A I L 1024)) := by
                exact vx_at1 (by rw [eD, eS, e0, hd (), hs (), h0 ()]; omega)
              exact ⟨_, _, by rw [← eQ, e]; rfl, fun z => by rw [← eQ, e] at z; exact absurd (show (1 : Nat) = 0 from z) (by omega), vr_fr_refl hf⟩
theorem vq_atomicXG {K : Nat → Option (Nat × Nat)} {I : Nat → Nat → Int32} {L : Nat → Nat → Int64} {R : Nat → Nat → Value} (M : vf_M) (f : vf_F) (hW : jv_rW K R) (hf : vr_fl I) (hM : vr_M I M) (D : vr_dec I f) (hi : 0 ≤ f.i ∧ f.i < 256) (m241 : f.i = 241) (oa : vr_okA I 1024) (gA : ∀ n, n < 75 → vt_g (vr_T I L (76800 + n))) (hd11 : f.d < 11) (hs11 : f.s < 11) (gD : (vr_T I L (76800 + f.d)).sort ≠ 0) (gS : (vr_T I L (76800 + f.s)).sort ≠ 0) (g0 : (vr_T I L (76800 + 0)).sort ≠ 0) {n sl : Nat} : ∃ I1 L1, jv_Ms 295 [.ref 196] (jv_H K I L R) n sl (some (.int (vl_I (vx_atomic M f (vr_A I L 1024)).1)), jv_H K I1 L1 R, n, sl) ∧ ((vx_atomic M f (vr_A I L 1024)).1 = 0 → vr_A I1 L1 1024 = (vx_atomic M f (vr_A I L 1024)).2 ∧ vr_okA I1 1024) ∧ vr_fr (fun x => x = 76800 ∨ x = 76800 + f.s) noE I L I1 L1 := by
  obtain ⟨Q, hQ⟩ : ∃ Q : jv_R → Prop, Q = fun X => ∃ I1 L1, X = (some (.int (vl_I (vx_atomic M f (vr_A I L 1024)).1)), jv_H K I1 L1 R, n, sl) ∧ ((vx_atomic M f (vr_A I L 1024)).1 = 0 → vr_A I1 L1 1024 = (vx_atomic M f (vr_A I L 1024)).2 ∧ vr_okA I1 1024) ∧ vr_fr (fun x => x = 76800 ∨ x = 76800 + f.s) noE I L I1 L1 := ⟨_, rfl⟩
  suffices h : jv_Wp 295 0 [(0, .ref 196)] [] (jv_H K I L R) n sl Q by
    rw [hQ] at h
    obtain ⟨X, h, I1, L1, e, h'⟩ := h
    subst e
    exact ⟨I1, L1, h, h'⟩
  have hz := vf_z f
  have h241 : Int32.ofInt f.i = (241 : Int32) := by rw [m241]; rfl
  have okd : vr_ok I (76800 + f.d) f.d := oa f.d (by omega)
  have eD : (vr_A I L 1024).1 f.d = (vr_T I L (76800 + f.d)) := vr_A1 (by omega)
  obtain ⟨zd, hd⟩ : ∃ x : Nat, ∀ _ : Unit, (vr_T I L (76800 + f.d)).sort = x := ⟨_, fun _ => rfl⟩
  obtain ⟨rd, hrd⟩ : ∃ x : Nat, ∀ _ : Unit, vr_rd (I 205 (76800 + f.d)) = x := ⟨_, fun _ => rfl⟩
  have rdfd : (zd = 0 → rd = 1) ∧ (zd ≠ 0 → rd = 0) := by rw [← hd (), ← hrd ()]; exact vr_rd_f okd hd11
  have oks : vr_ok I (76800 + f.s) f.s := oa f.s (by omega)
  have eS : (vr_A I L 1024).1 f.s = (vr_T I L (76800 + f.s)) := vr_A1 (by omega)
  obtain ⟨zs, hs⟩ : ∃ x : Nat, ∀ _ : Unit, (vr_T I L (76800 + f.s)).sort = x := ⟨_, fun _ => rfl⟩
  obtain ⟨rs, hrs⟩ : ∃ x : Nat, ∀ _ : Unit, vr_rd (I 205 (76800 + f.s)) = x := ⟨_, fun _ => rfl⟩
  have rdfs : (zs = 0 → rs = 1) ∧ (zs ≠ 0 → rs = 0) := by rw [← hs (), ← hrs ()]; exact vr_rd_f oks hs11
  have ok0 : vr_ok I (76800 + 0) 0 := oa 0 (by omega)
  have e0 : (vr_A I L 1024).1 0 = (vr_T I L (76800 + 0)) := vr_A1 (by omega)
  obtain ⟨z0, h0⟩ : ∃ x : Nat, ∀ _ : Unit, (vr_T I L (76800 + 0)).sort = x := ⟨_, fun _ => rfl⟩
  obtain ⟨r0, hr0⟩ : ∃ x : Nat, ∀ _ : Unit, vr_rd (I 205 (76800 + 0)) = x := ⟨_, fun _ => rfl⟩
  have rdf0 : (z0 = 0 → r0 = 1) ∧ (z0 ≠ 0 → r0 = 0) := by rw [← h0 (), ← hr0 ()]; exact vr_rd_f ok0 (by decide)
  obtain ⟨kd, k8, hkd⟩ := vr_kdx (L := L) okd (gA f.d (by omega))
  obtain ⟨bd, hbd⟩ : ∃ x : Nat, ∀ _ : Unit, vr_re M (vr_A I L 1024) (vr_T I L (76800 + f.d)) f.o f.z true = x := ⟨_, fun _ => rfl⟩
  have bd5 : bd < 5 := by rw [← hbd ()]; exact vr_re_lt
  obtain ⟨rr, hrr⟩ : ∃ x : Nat, ∀ _ : Unit, vx_reach M (vr_A I L 1024) (vr_T I L (76800 + f.d)) f.o f.z true = x := ⟨_, fun _ => rfl⟩
  have rr5 : rr < 5 := by rw [← hrr ()]; exact vx_reach_lt
  have bdf := vr_re_f (hbd ()) (hd ()) (hrr ())
  have eQ : vx_atp M f (vr_A I L 1024) = vx_atomic M f (vr_A I L 1024) := (vx_atp_eq M f (vr_A I L 1024)).symm
  have gd : zd ≠ 0 := fun z => gD ((hd ()).trans z)
  have gs : zs ≠ 0 := fun z => gS ((hs ()).trans z)
  have g0 : z0 ≠ 0 := fun z => g0 ((h0 ()).trans z)
  refine jv_Wp.lift (fun _ Kz => jv_Ev.steps jv_i295 1 (pc' := 1) (l' := [(0, .ref 196)]) (st' := [.ref 196]) rfl Kz) ?_
  refine jv_Wp.lift (fun _ Kz => jv_Ev.c jv_i295 (pc' := 4) (S' := [.int (vl_I f.z)]) jv_i260 [.ref 196] rfl rfl rfl rfl (jv_cal rfl (jv_H_at (jv_rwK hW 196 12 24 (by decide))) rfl rfl) rfl (vq_size f hW D) rfl rfl Kz) ?_
  refine jv_Wp.lift (fun _ Kz => jv_Ev.steps jv_i295 3 (pc' := 7) (l' := [(1, .int (vl_I f.z)), (0, .ref 196)]) (st' := [.ref 196, .ref 196]) rfl Kz) ?_
  refine jv_Wp.lift (fun _ Kz => jv_Ev.m jv_i295 (pc' := 10) (st' := [.int (vl_I f.d), .ref 196]) (G' := (jv_H K I L R)) rfl rfl (jv_m_getI (jv_rwK hW 196 12 24 (by decide)) rfl rfl D.2.1) Kz) ?_
  have Hr70 := vq_reads (I := I) (L := L) (K := K) (R := R) (n := n) (sl := sl) f.d hW (by omega)
  rw [hrd (), rdfd.2 gd] at Hr70
  refine jv_Wp.lift (fun _ Kz => jv_Ev.c jv_i295 (pc' := 13) (S' := [.int (0 : Int32)]) jv_i283 [.ref 196, .int (vl_I f.d)] rfl rfl rfl rfl (jv_cal rfl (jv_H_at (jv_rwK hW 196 12 24 (by decide))) rfl rfl) rfl Hr70 rfl rfl Kz) ?_
  refine jv_Wp.lift (fun _ Kz => jv_Ev.steps jv_i295 2 (pc' := 15) (l' := [(1, .int (vl_I f.z)), (0, .ref 196)]) (st' := [.ref 196, .ref 196, .int (0 : Int32)]) rfl Kz) ?_
  refine jv_Wp.lift (fun _ Kz => jv_Ev.m jv_i295 (pc' := 18) (st' := [.int (vl_I f.s), .ref 196, .int (0 : Int32)]) (G' := (jv_H K I L R)) rfl rfl (jv_m_getI (jv_rwK hW 196 12 24 (by decide)) rfl rfl D.2.2.1) Kz) ?_
  have Hr71 := vq_reads (I := I) (L := L) (K := K) (R := R) (n := n) (sl := sl) f.s hW (by omega)
  rw [hrs (), rdfs.2 gs] at Hr71
  refine jv_Wp.lift (fun _ Kz => jv_Ev.c jv_i295 (pc' := 21) (S' := [.int (0 : Int32), .int (0 : Int32)]) jv_i283 [.ref 196, .int (vl_I f.s)] rfl rfl rfl rfl (jv_cal rfl (jv_H_at (jv_rwK hW 196 12 24 (by decide))) rfl rfl) rfl Hr71 rfl rfl Kz) ?_
  have Hf72 := vq_first (I := I) (L := L) (K := K) (R := R) (n := n) (sl := sl) 0 0 (by omega) (by omega)
  rw [show vx_fst 0 0 = 0 from by decide] at Hf72
  refine jv_Wp.lift (fun _ Kz => jv_Ev.c jv_i295 (pc' := 24) (S' := [.int (0 : Int32)]) jv_i282 [.int (0 : Int32), .int (0 : Int32)] rfl rfl rfl rfl rfl rfl Hf72 rfl rfl Kz) ?_
  refine jv_Wp.lift (fun _ Kz => jv_Ev.steps jv_i295 3 (pc' := 27) (l' := [(2, .int (0 : Int32)), (1, .int (vl_I f.z)), (0, .ref 196)]) (st' := [.ref 196, .int (0 : Int32)]) rfl Kz) ?_
  refine jv_Wp.lift (fun _ Kz => jv_Ev.m jv_i295 (pc' := 30) (st' := [.int (Int32.ofInt f.i), .int (0 : Int32)]) (G' := (jv_H K I L R)) rfl rfl (jv_m_getI (jv_rwK hW 196 12 24 (by decide)) rfl rfl (vr_dJ D)) Kz) ?_
  refine jv_Wp.lift (fun _ Kz => jv_Ev.steps jv_i295 1 (pc' := 33) (l' := [(2, .int (0 : Int32)), (1, .int (vl_I f.z)), (0, .ref 196)]) (st' := [.int (241 : Int32), .int (Int32.ofInt f.i), .int (0 : Int32)]) rfl Kz) ?_
  refine jv_Wp.cnd jv_i295 (pt := 44) (pe := 36) (p := (¬ (Int32.ofInt f.i) = (241 : Int32))) (q := (¬ (Int32.ofInt f.i) = (241 : Int32))) rfl jv_bc_ne rfl rfl Iff.rfl (fun hz => absurd hz (fun z => z h241)) (fun _ => ?_)
  refine jv_Wp.lift (fun _ Kz => jv_Ev.steps jv_i295 2 (pc' := 38) (l' := [(2, .int (0 : Int32)), (1, .int (vl_I f.z)), (0, .ref 196)]) (st' := [.int (0 : Int32), .ref 196, .int (0 : Int32)]) rfl Kz) ?_
  have Hr73 := vq_reads (I := I) (L := L) (K := K) (R := R) (n := n) (sl := sl) 0 hW (by omega)
  rw [hr0 (), rdf0.2 g0] at Hr73
  refine jv_Wp.lift (fun _ Kz => jv_Ev.c jv_i295 (pc' := 41) (S' := [.int (0 : Int32), .int (0 : Int32)]) jv_i283 [.ref 196, .int (0 : Int32)] rfl rfl rfl rfl (jv_cal rfl (jv_H_at (jv_rwK hW 196 12 24 (by decide))) rfl rfl) rfl Hr73 rfl rfl Kz) ?_
  refine jv_Wp.lift (fun _ Kz => jv_Ev.steps jv_i295 1 (pc' := 45) (l' := [(2, .int (0 : Int32)), (1, .int (vl_I f.z)), (0, .ref 196)]) (st' := [.int (0 : Int32), .int (0 : Int32)]) rfl Kz) ?_
  have Hf74 := vq_first (I := I) (L := L) (K := K) (R := R) (n := n) (sl := sl) 0 0 (by omega) (by omega)
  rw [show vx_fst 0 0 = 0 from by decide] at Hf74
  refine jv_Wp.lift (fun _ Kz => jv_Ev.c jv_i295 (pc' := 48) (S' := [.int (0 : Int32)]) jv_i282 [.int (0 : Int32), .int (0 : Int32)] rfl rfl rfl rfl rfl rfl Hf74 rfl rfl Kz) ?_
  refine jv_Wp.lift (fun _ Kz => jv_Ev.steps jv_i295 3 (pc' := 51) (l' := [(2, .int (0 : Int32)), (1, .int (vl_I f.z)), (0, .ref 196)]) (st' := [.ref 196, .ref 196]) rfl Kz) ?_
  refine jv_Wp.lift (fun _ Kz => jv_Ev.m jv_i295 (pc' := 54) (st' := [.int (vl_I f.d), .ref 196]) (G' := (jv_H K I L R)) rfl rfl (jv_m_getI (jv_rwK hW 196 12 24 (by decide)) rfl rfl D.2.1) Kz) ?_
  refine jv_Wp.lift (fun _ Kz => jv_Ev.c jv_i295 (pc' := 57) (S' := [.int (I 205 (76800 + f.d))]) jv_i271 [.ref 196, .int (vl_I f.d)] rfl rfl rfl rfl (jv_cal rfl (jv_H_at (jv_rwK hW 196 12 24 (by decide))) rfl rfl) rfl (vq_sortOf f.d hW (by omega)) rfl rfl Kz) ?_
  refine jv_Wp.lift (fun _ Kz => jv_Ev.steps jv_i295 3 (pc' := 60) (l' := [(3, .int (I 205 (76800 + f.d))), (2, .int (0 : Int32)), (1, .int (vl_I f.z)), (0, .ref 196)]) (st' := [.int (I 205 (76800 + f.d)), .int (0 : Int32)]) rfl Kz) ?_
  refine jv_Wp.cnd jv_i295 (pt := 69) (pe := 63) (p := ((I 205 (76800 + f.d)) = 0)) (q := ((I 205 (76800 + f.d)) = 0)) rfl jv_bi_eq rfl rfl Iff.rfl (fun hz => absurd hz (fun z => gd ((hd ()).symm.trans ((vr_isN (L := L) okd hd11).mpr z)))) (fun _ => ?_)
  refine jv_Wp.lift (fun _ Kz => jv_Ev.steps jv_i295 2 (pc' := 66) (l' := [(3, .int (I 205 (76800 + f.d))), (2, .int (0 : Int32)), (1, .int (vl_I f.z)), (0, .ref 196)]) (st' := [.int (7 : Int32), .int (I 205 (76800 + f.d)), .int (0 : Int32)]) rfl Kz) ?_
  refine jv_Wp.cnd jv_i295 (pt := 73) (pe := 69) (p := (¬ (I 205 (76800 + f.d)) = (7 : Int32))) (q := (¬ (I 205 (76800 + f.d)) = (7 : Int32))) rfl jv_bc_ne rfl rfl Iff.rfl (fun h1 => ?_) (fun h1 => ?_)
  · refine jv_Wp.lift (fun _ Kz => jv_Ev.steps jv_i295 1 (pc' := 74) (l' := [(3, .int (I 205 (76800 + f.d))), (2, .int (0 : Int32)), (1, .int (vl_I f.z)), (0, .ref 196)]) (st' := [.int (3 : Int32), .int (0 : Int32)]) rfl Kz) ?_
    have Hf75 := vq_first (I := I) (L := L) (K := K) (R := R) (n := n) (sl := sl) 0 3 (by omega) (by omega)
    rw [show vx_fst 0 3 = 3 from by decide] at Hf75
    refine jv_Wp.lift (fun _ Kz => jv_Ev.c jv_i295 (pc' := 77) (S' := [.int (3 : Int32)]) jv_i282 [.int (0 : Int32), .int (3 : Int32)] rfl rfl rfl rfl rfl rfl Hf75 rfl rfl Kz) ?_
    refine jv_Wp.lift (fun _ Kz => jv_Ev.steps jv_i295 3 (pc' := 81) (l' := [(2, .int (3 : Int32)), (3, .int (I 205 (76800 + f.d))), (1, .int (vl_I f.z)), (0, .ref 196)]) (st' := [.int (7 : Int32), .int (I 205 (76800 + f.d))]) rfl Kz) ?_
    refine jv_Wp.cnd jv_i295 (pt := 175) (pe := 84) (p := (¬ (I 205 (76800 + f.d)) = (7 : Int32))) (q := (¬ (I 205 (76800 + f.d)) = (7 : Int32))) rfl jv_bc_ne rfl rfl Iff.rfl (fun _ => ?_) (fun hz => absurd h1 hz)
    refine jv_Wp.lift (fun _ Kz => jv_Ev.steps jv_i295 3 (pc' := 178) (l' := [(2, .int (3 : Int32)), (3, .int (I 205 (76800 + f.d))), (1, .int (vl_I f.z)), (0, .ref 196)]) (st' := [.ref 196, .ref 196, .int (3 : Int32)]) rfl Kz) ?_
    refine jv_Wp.lift (fun _ Kz => jv_Ev.m jv_i295 (pc' := 181) (st' := [.int (vl_I f.s), .ref 196, .int (3 : Int32)]) (G' := (jv_H K I L R)) rfl rfl (jv_m_getI (jv_rwK hW 196 12 24 (by decide)) rfl rfl D.2.2.1) Kz) ?_
    refine jv_Wp.lift (fun _ Kz => jv_Ev.c jv_i295 (pc' := 184) (S' := [.int (I 205 (76800 + f.s)), .int (3 : Int32)]) jv_i271 [.ref 196, .int (vl_I f.s)] rfl rfl rfl rfl (jv_cal rfl (jv_H_at (jv_rwK hW 196 12 24 (by decide))) rfl rfl) rfl (vq_sortOf f.s hW (by omega)) rfl rfl Kz) ?_
    refine jv_Wp.cnd jv_i295 (pt := 204) (pe := 187) (p := ((I 205 (76800 + f.s)) = 0)) (q := ((I 205 (76800 + f.s)) = 0)) rfl jv_bi_eq rfl rfl Iff.rfl (fun hz => absurd hz (fun z => gs ((hs ()).symm.trans ((vr_isN (L := L) oks hs11).mpr z)))) (fun _ => ?_)
    refine jv_Wp.lift (fun _ Kz => jv_Ev.steps jv_i295 2 (pc' := 189) (l' := [(2, .int (3 : Int32)), (3, .int (I 205 (76800 + f.d))), (1, .int (vl_I f.z)), (0, .ref 196)]) (st' := [.ref 196, .ref 196, .int (3 : Int32)]) rfl Kz) ?_
    refine jv_Wp.lift (fun _ Kz => jv_Ev.m jv_i295 (pc' := 192) (st' := [.int (vl_I f.s), .ref 196, .int (3 : Int32)]) (G' := (jv_H K I L R)) rfl rfl (jv_m_getI (jv_rwK hW 196 12 24 (by decide)) rfl rfl D.2.2.1) Kz) ?_
    refine jv_Wp.lift (fun _ Kz => jv_Ev.c jv_i295 (pc' := 195) (S' := [.int (I 205 (76800 + f.s)), .int (3 : Int32)]) jv_i271 [.ref 196, .int (vl_I f.s)] rfl rfl rfl rfl (jv_cal rfl (jv_H_at (jv_rwK hW 196 12 24 (by decide))) rfl rfl) rfl (vq_sortOf f.s hW (by omega)) rfl rfl Kz) ?_
    refine jv_Wp.lift (fun _ Kz => jv_Ev.steps jv_i295 1 (pc' := 196) (l' := [(2, .int (3 : Int32)), (3, .int (I 205 (76800 + f.d))), (1, .int (vl_I f.z)), (0, .ref 196)]) (st' := [.int (1 : Int32), .int (I 205 (76800 + f.s)), .int (3 : Int32)]) rfl Kz) ?_
    refine jv_Wp.cnd jv_i295 (pt := 204) (pe := 199) (p := ((I 205 (76800 + f.s)) = (1 : Int32))) (q := ((I 205 (76800 + f.s)) = (1 : Int32))) rfl jv_bc_eq rfl rfl Iff.rfl (fun h2 => ?_) (fun h2 => ?_)
    · refine jv_Wp.lift (fun _ Kz => jv_Ev.steps jv_i295 1 (pc' := 205) (l' := [(2, .int (3 : Int32)), (3, .int (I 205 (76800 + f.d))), (1, .int (vl_I f.z)), (0, .ref 196)]) (st' := [.int (0 : Int32), .int (3 : Int32)]) rfl Kz) ?_
      have Hf76 := vq_first (I := I) (L := L) (K := K) (R := R) (n := n) (sl := sl) 3 0 (by omega) (by omega)
      rw [show vx_fst 3 0 = 3 from by decide] at Hf76
      refine jv_Wp.lift (fun _ Kz => jv_Ev.c jv_i295 (pc' := 208) (S' := [.int (3 : Int32)]) jv_i282 [.int (3 : Int32), .int (0 : Int32)] rfl rfl rfl rfl rfl rfl Hf76 rfl rfl Kz) ?_
      refine jv_Wp.lift (fun _ Kz => jv_Ev.steps jv_i295 3 (pc' := 211) (l' := [(2, .int (3 : Int32)), (3, .int (I 205 (76800 + f.d))), (1, .int (vl_I f.z)), (0, .ref 196)]) (st' := [.ref 196, .int (3 : Int32)]) rfl Kz) ?_
      refine jv_Wp.lift (fun _ Kz => jv_Ev.m jv_i295 (pc' := 214) (st' := [.int (Int32.ofInt f.i), .int (3 : Int32)]) (G' := (jv_H K I L R)) rfl rfl (jv_m_getI (jv_rwK hW 196 12 24 (by decide)) rfl rfl (vr_dJ D)) Kz) ?_
      refine jv_Wp.lift (fun _ Kz => jv_Ev.steps jv_i295 1 (pc' := 217) (l' := [(2, .int (3 : Int32)), (3, .int (I 205 (76800 + f.d))), (1, .int (vl_I f.z)), (0, .ref 196)]) (st' := [.int (241 : Int32), .int (Int32.ofInt f.i), .int (3 : Int32)]) rfl Kz) ?_
      refine jv_Wp.cnd jv_i295 (pt := 242) (pe := 220) (p := (¬ (Int32.ofInt f.i) = (241 : Int32))) (q := (¬ (Int32.ofInt f.i) = (241 : Int32))) rfl jv_bc_ne rfl rfl Iff.rfl (fun hz => absurd hz (fun z => z h241)) (fun _ => ?_)
      refine jv_Wp.lift (fun _ Kz => jv_Ev.steps jv_i295 2 (pc' := 222) (l' := [(2, .int (3 : Int32)), (3, .int (I 205 (76800 + f.d))), (1, .int (vl_I f.z)), (0, .ref 196)]) (st' := [.int (0 : Int32), .ref 196, .int (3 : Int32)]) rfl Kz) ?_
      refine jv_Wp.lift (fun _ Kz => jv_Ev.c jv_i295 (pc' := 225) (S' := [.int (I 205 (76800 + 0)), .int (3 : Int32)]) jv_i271 [.ref 196, .int (0 : Int32)] rfl rfl rfl rfl (jv_cal rfl (jv_H_at (jv_rwK hW 196 12 24 (by decide))) rfl rfl) rfl (vq_sortOf 0 hW (by omega)) rfl rfl Kz) ?_
      refine jv_Wp.cnd jv_i295 (pt := 242) (pe := 228) (p := ((I 205 (76800 + 0)) = 0)) (q := ((I 205 (76800 + 0)) = 0)) rfl jv_bi_eq rfl rfl Iff.rfl (fun hz => absurd hz (fun z => g0 ((h0 ()).symm.trans ((vr_isN (L := L) ok0 (by decide)).mpr z)))) (fun _ => ?_)
      refine jv_Wp.lift (fun _ Kz => jv_Ev.steps jv_i295 2 (pc' := 230) (l' := [(2, .int (3 : Int32)), (3, .int (I 205 (76800 + f.d))), (1, .int (vl_I f.z)), (0, .ref 196)]) (st' := [.int (0 : Int32), .ref 196, .int (3 : Int32)]) rfl Kz) ?_
      refine jv_Wp.lift (fun _ Kz => jv_Ev.c jv_i295 (pc' := 233) (S' := [.int (I 205 (76800 + 0)), .int (3 : Int32)]) jv_i271 [.ref 196, .int (0 : Int32)] rfl rfl rfl rfl (jv_cal rfl (jv_H_at (jv_rwK hW 196 12 24 (by decide))) rfl rfl) rfl (vq_sortOf 0 hW (by omega)) rfl rfl Kz) ?_
      refine jv_Wp.lift (fun _ Kz => jv_Ev.steps jv_i295 1 (pc' := 234) (l' := [(2, .int (3 : Int32)), (3, .int (I 205 (76800 + f.d))), (1, .int (vl_I f.z)), (0, .ref 196)]) (st' := [.int (1 : Int32), .int (I 205 (76800 + 0)), .int (3 : Int32)]) rfl Kz) ?_
      refine jv_Wp.cnd jv_i295 (pt := 242) (pe := 237) (p := ((I 205 (76800 + 0)) = (1 : Int32))) (q := ((I 205 (76800 + 0)) = (1 : Int32))) rfl jv_bc_eq rfl rfl Iff.rfl (fun h3 => ?_) (fun h3 => ?_)
      · refine jv_Wp.lift (fun _ Kz => jv_Ev.steps jv_i295 1 (pc' := 243) (l' := [(2, .int (3 : Int32)), (3, .int (I 205 (76800 + f.d))), (1, .int (vl_I f.z)), (0, .ref 196)]) (st' := [.int (0 : Int32), .int (3 : Int32)]) rfl Kz) ?_
        have Hf77 := vq_first (I := I) (L := L) (K := K) (R := R) (n := n) (sl := sl) 3 0 (by omega) (by omega)
        rw [show vx_fst 3 0 = 3 from by decide] at Hf77
        refine jv_Wp.lift (fun _ Kz => jv_Ev.c jv_i295 (pc' := 246) (S' := [.int (3 : Int32)]) jv_i282 [.int (3 : Int32), .int (0 : Int32)] rfl rfl rfl rfl rfl rfl Hf77 rfl rfl Kz) ?_
        refine jv_Wp.lift (fun _ Kz => jv_Ev.steps jv_i295 2 (pc' := 248) (l' := [(2, .int (3 : Int32)), (3, .int (I 205 (76800 + f.d))), (1, .int (vl_I f.z)), (0, .ref 196)]) (st' := [.int (3 : Int32)]) rfl Kz) ?_
        refine jv_Wp.lift (fun _ Kz => jv_Ev.br jv_i295 (pc' := 251) (st' := []) rfl (by rfl) Kz) ?_
        refine jv_Wp.lift (fun _ Kz => jv_Ev.steps jv_i295 1 (pc' := 252) (l' := [(2, .int (3 : Int32)), (3, .int (I 205 (76800 + f.d))), (1, .int (vl_I f.z)), (0, .ref 196)]) (st' := [.int (3 : Int32)]) rfl Kz) ?_
        refine jv_Wp.of (jv_Ev.ret jv_i295 rfl rfl) ?_
        rw [hQ]
        have td7 : ¬ zd = 7 := fun z => h1 ((vr_is (L := L) 7 (by decide) okd).mp ((hd ()).trans z))
        have ts1 : zs = 1 := (hs ()).symm.trans ((vr_is (L := L) 1 (by decide) oks).mpr h2)
        have t01 : z0 = 1 := (h0 ()).symm.trans ((vr_is (L := L) 1 (by decide) ok0).mpr h3)
        have e : vx_atp M f (vr_A I L 1024) = (3, (vr_A I L 1024)) := by
          exact vx_at2 (by rw [eD, eS, e0, hd (), hs (), h0 ()]; omega) (by rw [eD, hd ()]; omega)
        exact ⟨_, _, by rw [← eQ, e]; rfl, fun z => by rw [← eQ, e] at z; exact absurd (show (3 : Nat) = 0 from z) (by omega), vr_fr_refl hf⟩
      · refine jv_Wp.lift (fun _ Kz => jv_Ev.steps jv_i295 2 (pc' := 243) (l' := [(2, .int (3 : Int32)), (3, .int (I 205 (76800 + f.d))), (1, .int (vl_I f.z)), (0, .ref 196)]) (st' := [.int (6 : Int32), .int (3 : Int32)]) rfl Kz) ?_
        have Hf78 := vq_first (I := I) (L := L) (K := K) (R := R) (n := n) (sl := sl) 3 6 (by omega) (by omega)
        rw [show vx_fst 3 6 = 3 from by decide] at Hf78
        refine jv_Wp.lift (fun _ Kz => jv_Ev.c jv_i295 (pc' := 246) (S' := [.int (3 : Int32)]) jv_i282 [.int (3 : Int32), .int (6 : Int32)] rfl rfl rfl rfl rfl rfl Hf78 rfl rfl Kz) ?_
        refine jv_Wp.lift (fun _ Kz => jv_Ev.steps jv_i295 2 (pc' := 248) (l' := [(2, .int (3 : Int32)), (3, .int (I 205 (76800 + f.d))), (1, .int (vl_I f.z)), (0, .ref 196)]) (st' := [.int (3 : Int32)]) rfl Kz) ?_
        refine jv_Wp.lift (fun _ Kz => jv_Ev.br jv_i295 (pc' := 251) (st' := []) rfl (by rfl) Kz) ?_
        refine jv_Wp.lift (fun _ Kz => jv_Ev.steps jv_i295 1 (pc' := 252) (l' := [(2, .int (3 : Int32)), (3, .int (I 205 (76800 + f.d))), (1, .int (vl_I f.z)), (0, .ref 196)]) (st' := [.int (3 : Int32)]) rfl Kz) ?_
        refine jv_Wp.of (jv_Ev.ret jv_i295 rfl rfl) ?_
        rw [hQ]
        have td7 : ¬ zd = 7 := fun z => h1 ((vr_is (L := L) 7 (by decide) okd).mp ((hd ()).trans z))
        have ts1 : zs = 1 := (hs ()).symm.trans ((vr_is (L := L) 1 (by decide) oks).mpr h2)
        have t01 : ¬ z0 = 1 := fun z => h3 ((vr_is (L := L) 1 (by decide) ok0).mp ((h0 ()).trans z))
        have e : vx_atp M f (vr_A I L 1024) = (3, (vr_A I L 1024)) := by
          exact vx_at2 (by rw [eD, eS, e0, hd (), hs (), h0 ()]; omega) (by rw [eD, hd ()]; omega)
        exact ⟨_, _, by rw [← eQ, e]; rfl, fun z => by rw [← eQ, e] at z; exact absurd (show (3 : Nat) = 0 from z) (by omega), vr_fr_refl hf⟩
    · refine jv_Wp.lift (fun _ Kz => jv_Ev.steps jv_i295 2 (pc' := 205) (l' := [(2, .int (3 : Int32)), (3, .int (I 205 (76800 + f.d))), (1, .int (vl_I f.z)), (0, .ref 196)]) (st' := [.int (6 : Int32), .int (3 : Int32)]) rfl Kz) ?_
      have Hf79 := vq_first (I := I) (L := L) (K := K) (R := R) (n := n) (sl := sl) 3 6 (by omega) (by omega)
      rw [show vx_fst 3 6 = 3 from by decide] at Hf79
      refine jv_Wp.lift (fun _ Kz => jv_Ev.c jv_i295 (pc' := 208) (S' := [.int (3 : Int32)]) jv_i282 [.int (3 : Int32), .int (6 : Int32)] rfl rfl rfl rfl rfl rfl Hf79 rfl rfl Kz) ?_
      refine jv_Wp.lift (fun _ Kz => jv_Ev.steps jv_i295 3 (pc' := 211) (l' := [(2, .int (3 : Int32)), (3, .int (I 205 (76800 + f.d))), (1, .int (vl_I f.z)), (0, .ref 196)]) (st' := [.ref 196, .int (3 : Int32)]) rfl Kz) ?_
      refine jv_Wp.lift (fun _ Kz => jv_Ev.m jv_i295 (pc' := 214) (st' := [.int (Int32.ofInt f.i), .int (3 : Int32)]) (G' := (jv_H K I L R)) rfl rfl (jv_m_getI (jv_rwK hW 196 12 24 (by decide)) rfl rfl (vr_dJ D)) Kz) ?_
      refine jv_Wp.lift (fun _ Kz => jv_Ev.steps jv_i295 1 (pc' := 217) (l' := [(2, .int (3 : Int32)), (3, .int (I 205 (76800 + f.d))), (1, .int (vl_I f.z)), (0, .ref 196)]) (st' := [.int (241 : Int32), .int (Int32.ofInt f.i), .int (3 : Int32)]) rfl Kz) ?_
      refine jv_Wp.cnd jv_i295 (pt := 242) (pe := 220) (p := (¬ (Int32.ofInt f.i) = (241 : Int32))) (q := (¬ (Int32.ofInt f.i) = (241 : Int32))) rfl jv_bc_ne rfl rfl Iff.rfl (fun hz => absurd hz (fun z => z h241)) (fun _ => ?_)
      refine jv_Wp.lift (fun _ Kz => jv_Ev.steps jv_i295 2 (pc' := 222) (l' := [(2, .int (3 : Int32)), (3, .int (I 205 (76800 + f.d))), (1, .int (vl_I f.z)), (0, .ref 196)]) (st' := [.int (0 : Int32), .ref 196, .int (3 : Int32)]) rfl Kz) ?_
      refine jv_Wp.lift (fun _ Kz => jv_Ev.c jv_i295 (pc' := 225) (S' := [.int (I 205 (76800 + 0)), .int (3 : Int32)]) jv_i271 [.ref 196, .int (0 : Int32)] rfl rfl rfl rfl (jv_cal rfl (jv_H_at (jv_rwK hW 196 12 24 (by decide))) rfl rfl) rfl (vq_sortOf 0 hW (by omega)) rfl rfl Kz) ?_
      refine jv_Wp.cnd jv_i295 (pt := 242) (pe := 228) (p := ((I 205 (76800 + 0)) = 0)) (q := ((I 205 (76800 + 0)) = 0)) rfl jv_bi_eq rfl rfl Iff.rfl (fun hz => absurd hz (fun z => g0 ((h0 ()).symm.trans ((vr_isN (L := L) ok0 (by decide)).mpr z)))) (fun _ => ?_)
      refine jv_Wp.lift (fun _ Kz => jv_Ev.steps jv_i295 2 (pc' := 230) (l' := [(2, .int (3 : Int32)), (3, .int (I 205 (76800 + f.d))), (1, .int (vl_I f.z)), (0, .ref 196)]) (st' := [.int (0 : Int32), .ref 196, .int (3 : Int32)]) rfl Kz) ?_
      refine jv_Wp.lift (fun _ Kz => jv_Ev.c jv_i295 (pc' := 233) (S' := [.int (I 205 (76800 + 0)), .int (3 : Int32)]) jv_i271 [.ref 196, .int (0 : Int32)] rfl rfl rfl rfl (jv_cal rfl (jv_H_at (jv_rwK hW 196 12 24 (by decide))) rfl rfl) rfl (vq_sortOf 0 hW (by omega)) rfl rfl Kz) ?_
      refine jv_Wp.lift (fun _ Kz => jv_Ev.steps jv_i295 1 (pc' := 234) (l' := [(2, .int (3 : Int32)), (3, .int (I 205 (76800 + f.d))), (1, .int (vl_I f.z)), (0, .ref 196)]) (st' := [.int (1 : Int32), .int (I 205 (76800 + 0)), .int (3 : Int32)]) rfl Kz) ?_
      refine jv_Wp.cnd jv_i295 (pt := 242) (pe := 237) (p := ((I 205 (76800 + 0)) = (1 : Int32))) (q := ((I 205 (76800 + 0)) = (1 : Int32))) rfl jv_bc_eq rfl rfl Iff.rfl (fun h4 => ?_) (fun h4 => ?_)
      · refine jv_Wp.lift (fun _ Kz => jv_Ev.steps jv_i295 1 (pc' := 243) (l' := [(2, .int (3 : Int32)), (3, .int (I 205 (76800 + f.d))), (1, .int (vl_I f.z)), (0, .ref 196)]) (st' := [.int (0 : Int32), .int (3 : Int32)]) rfl Kz) ?_
        have Hf80 := vq_first (I := I) (L := L) (K := K) (R := R) (n := n) (sl := sl) 3 0 (by omega) (by omega)
        rw [show vx_fst 3 0 = 3 from by decide] at Hf80
        refine jv_Wp.lift (fun _ Kz => jv_Ev.c jv_i295 (pc' := 246) (S' := [.int (3 : Int32)]) jv_i282 [.int (3 : Int32), .int (0 : Int32)] rfl rfl rfl rfl rfl rfl Hf80 rfl rfl Kz) ?_
        refine jv_Wp.lift (fun _ Kz => jv_Ev.steps jv_i295 2 (pc' := 248) (l' := [(2, .int (3 : Int32)), (3, .int (I 205 (76800 + f.d))), (1, .int (vl_I f.z)), (0, .ref 196)]) (st' := [.int (3 : Int32)]) rfl Kz) ?_
        refine jv_Wp.lift (fun _ Kz => jv_Ev.br jv_i295 (pc' := 251) (st' := []) rfl (by rfl) Kz) ?_
        refine jv_Wp.lift (fun _ Kz => jv_Ev.steps jv_i295 1 (pc' := 252) (l' := [(2, .int (3 : Int32)), (3, .int (I 205 (76800 + f.d))), (1, .int (vl_I f.z)), (0, .ref 196)]) (st' := [.int (3 : Int32)]) rfl Kz) ?_
        refine jv_Wp.of (jv_Ev.ret jv_i295 rfl rfl) ?_
        rw [hQ]
        have td7 : ¬ zd = 7 := fun z => h1 ((vr_is (L := L) 7 (by decide) okd).mp ((hd ()).trans z))
        have ts1 : ¬ zs = 1 := fun z => h2 ((vr_is (L := L) 1 (by decide) oks).mp ((hs ()).trans z))
        have t01 : z0 = 1 := (h0 ()).symm.trans ((vr_is (L := L) 1 (by decide) ok0).mpr h4)
        have e : vx_atp M f (vr_A I L 1024) = (3, (vr_A I L 1024)) := by
          exact vx_at2 (by rw [eD, eS, e0, hd (), hs (), h0 ()]; omega) (by rw [eD, hd ()]; omega)
        exact ⟨_, _, by rw [← eQ, e]; rfl, fun z => by rw [← eQ, e] at z; exact absurd (show (3 : Nat) = 0 from z) (by omega), vr_fr_refl hf⟩
      · refine jv_Wp.lift (fun _ Kz => jv_Ev.steps jv_i295 2 (pc' := 243) (l' := [(2, .int (3 : Int32)), (3, .int (I 205 (76800 + f.d))), (1, .int (vl_I f.z)), (0, .ref 196)]) (st' := [.int (6 : Int32), .int (3 : Int32)]) rfl Kz) ?_
        have Hf81 := vq_first (I := I) (L := L) (K := K) (R := R) (n := n) (sl := sl) 3 6 (by omega) (by omega)
        rw [show vx_fst 3 6 = 3 from by decide] at Hf81
        refine jv_Wp.lift (fun _ Kz => jv_Ev.c jv_i295 (pc' := 246) (S' := [.int (3 : Int32)]) jv_i282 [.int (3 : Int32), .int (6 : Int32)] rfl rfl rfl rfl rfl rfl Hf81 rfl rfl Kz) ?_
        refine jv_Wp.lift (fun _ Kz => jv_Ev.steps jv_i295 2 (pc' := 248) (l' := [(2, .int (3 : Int32)), (3, .int (I 205 (76800 + f.d))), (1, .int (vl_I f.z)), (0, .ref 196)]) (st' := [.int (3 : Int32)]) rfl Kz) ?_
        refine jv_Wp.lift (fun _ Kz => jv_Ev.br jv_i295 (pc' := 251) (st' := []) rfl (by rfl) Kz) ?_
        refine jv_Wp.lift (fun _ Kz => jv_Ev.steps jv_i295 1 (pc' := 252) (l' := [(2, .int (3 : Int32)), (3, .int (I 205 (76800 + f.d))), (1, .int (vl_I f.z)), (0, .ref 196)]) (st' := [.int (3 : Int32)]) rfl Kz) ?_
        refine jv_Wp.of (jv_Ev.ret jv_i295 rfl rfl) ?_
        rw [hQ]
        have td7 : ¬ zd = 7 := fun z => h1 ((vr_is (L := L) 7 (by decide) okd).mp ((hd ()).trans z))
        have ts1 : ¬ zs = 1 := fun z => h2 ((vr_is (L := L) 1 (by decide) oks).mp ((hs ()).trans z))
        have t01 : ¬ z0 = 1 := fun z => h4 ((vr_is (L := L) 1 (by decide) ok0).mp ((h0 ()).trans z))
        have e : vx_atp M f (vr_A I L 1024) = (3, (vr_A I L 1024)) := by
          exact vx_at2 (by rw [eD, eS, e0, hd (), hs (), h0 ()]; omega) (by rw [eD, hd ()]; omega)
        exact ⟨_, _, by rw [← eQ, e]; rfl, fun z => by rw [← eQ, e] at z; exact absurd (show (3 : Nat) = 0 from z) (by omega), vr_fr_refl hf⟩
  · refine jv_Wp.lift (fun _ Kz => jv_Ev.steps jv_i295 2 (pc' := 74) (l' := [(3, .int (I 205 (76800 + f.d))), (2, .int (0 : Int32)), (1, .int (vl_I f.z)), (0, .ref 196)]) (st' := [.int (0 : Int32), .int (0 : Int32)]) rfl Kz) ?_
    have Hf82 := vq_first (I := I) (L := L) (K := K) (R := R) (n := n) (sl := sl) 0 0 (by omega) (by omega)
    rw [show vx_fst 0 0 = 0 from by decide] at Hf82
    refine jv_Wp.lift (fun _ Kz => jv_Ev.c jv_i295 (pc' := 77) (S' := [.int (0 : Int32)]) jv_i282 [.int (0 : Int32), .int (0 : Int32)] rfl rfl rfl rfl rfl rfl Hf82 rfl rfl Kz) ?_
    refine jv_Wp.lift (fun _ Kz => jv_Ev.steps jv_i295 3 (pc' := 81) (l' := [(2, .int (0 : Int32)), (3, .int (I 205 (76800 + f.d))), (1, .int (vl_I f.z)), (0, .ref 196)]) (st' := [.int (7 : Int32), .int (I 205 (76800 + f.d))]) rfl Kz) ?_
    refine jv_Wp.cnd jv_i295 (pt := 175) (pe := 84) (p := (¬ (I 205 (76800 + f.d)) = (7 : Int32))) (q := (¬ (I 205 (76800 + f.d)) = (7 : Int32))) rfl jv_bc_ne rfl rfl Iff.rfl (fun hz => absurd hz (fun z => z (Classical.not_not.mp h1))) (fun _ => ?_)
    refine jv_Wp.lift (fun _ Kz => jv_Ev.steps jv_i295 2 (pc' := 88) (l' := [(2, .int (0 : Int32)), (3, .int (I 205 (76800 + f.d))), (1, .int (vl_I f.z)), (0, .ref 196)]) (st' := [.ref 196, .int (1024 : Int32)]) rfl Kz) ?_
    refine jv_Wp.lift (fun _ Kz => jv_Ev.m jv_i295 (pc' := 91) (st' := [.int (vl_I f.d), .int (1024 : Int32)]) (G' := (jv_H K I L R)) rfl rfl (jv_m_getI (jv_rwK hW 196 12 24 (by decide)) rfl rfl D.2.1) Kz) ?_
    refine jv_Wp.lift (fun _ Kz => jv_Ev.c jv_i295 (pc' := 94) (S' := [.int (vl_I (8 + (76800 + f.d)))]) jv_i254 [.int (1024 : Int32), .int (vl_I f.d)] rfl rfl rfl rfl rfl rfl (vq_row 1024 f.d) rfl rfl Kz) ?_
    refine jv_Wp.lift (fun _ Kz => jv_Ev.steps jv_i295 7 (pc' := 103) (l' := [(5, .long ((vl_I f.z).toInt64 - (1 : Int64))), (4, .int (vl_I (8 + (76800 + f.d)))), (2, .int (0 : Int32)), (3, .int (I 205 (76800 + f.d))), (1, .int (vl_I f.z)), (0, .ref 196)]) (st' := [.ref 196]) rfl Kz) ?_
    refine jv_Wp.lift (fun _ Kz => jv_Ev.m jv_i295 (pc' := 106) (st' := [.ref 208]) (G' := (jv_H K I L R)) rfl rfl (jv_m_getR (jv_rwK hW 196 12 24 (by decide)) rfl rfl (jv_rwR hW 196 16 208 (by decide))) Kz) ?_
    refine jv_Wp.lift (fun _ Kz => jv_Ev.m jv_i295 (pc' := 109) (st' := [.ref 210]) (G' := (jv_H K I L R)) rfl rfl (jv_m_getR (jv_rwK hW 208 11 7 (by decide)) rfl rfl (jv_rwR hW 208 1 210 (by decide))) Kz) ?_
    refine jv_Wp.lift (fun _ Kz => jv_Ev.steps jv_i295 1 (pc' := 111) (l' := [(5, .long ((vl_I f.z).toInt64 - (1 : Int64))), (4, .int (vl_I (8 + (76800 + f.d)))), (2, .int (0 : Int32)), (3, .int (I 205 (76800 + f.d))), (1, .int (vl_I f.z)), (0, .ref 196)]) (st' := [.int (vl_I (8 + (76800 + f.d))), .ref 210]) rfl Kz) ?_
    refine jv_Wp.lift (fun _ Kz => jv_Ev.m jv_i295 (pc' := 112) (st' := [.long (L 210 (8 + (76800 + f.d)))]) (G' := (jv_H K I L R)) rfl rfl (jv_m_laldv (jv_rwK hW 210 103 77200 (by decide)) rfl (vl_I_ix (by omega) (by decide)) rfl ((congrArg (L 210) (vl_I_nat (by omega))).trans rfl)) Kz) ?_
    refine jv_Wp.lift (fun _ Kz => jv_Ev.steps jv_i295 4 (pc' := 117) (l' := [(5, .long ((vl_I f.z).toInt64 - (1 : Int64))), (4, .int (vl_I (8 + (76800 + f.d)))), (2, .int (0 : Int32)), (3, .int (I 205 (76800 + f.d))), (1, .int (vl_I f.z)), (0, .ref 196)]) (st' := [.int (lg_cmp ((L 210 (8 + (76800 + f.d))) &&& ((vl_I f.z).toInt64 - (1 : Int64))) (0 : Int64))]) rfl Kz) ?_
    refine jv_Wp.cnd jv_i295 (pt := 148) (pe := 120) (p := (¬ (lg_cmp ((L 210 (8 + (76800 + f.d))) &&& ((vl_I f.z).toInt64 - (1 : Int64))) (0 : Int64)) = 0)) (q := (¬ ((L 210 (8 + (76800 + f.d))) &&& ((vl_I f.z).toInt64 - (1 : Int64))) = (0 : Int64))) rfl jv_bi_ne rfl rfl (not_congr (lg_cmp_eq ((L 210 (8 + (76800 + f.d))) &&& ((vl_I f.z).toInt64 - (1 : Int64))) (0 : Int64))) (fun h5 => ?_) (fun h5 => ?_)
    · refine jv_Wp.lift (fun _ Kz => jv_Ev.steps jv_i295 4 (pc' := 154) (l' := [(7, .int (0 : Int32)), (5, .long ((vl_I f.z).toInt64 - (1 : Int64))), (4, .int (vl_I (8 + (76800 + f.d)))), (2, .int (0 : Int32)), (3, .int (I 205 (76800 + f.d))), (1, .int (vl_I f.z)), (0, .ref 196)]) (st' := [.int (0 : Int32), .int (0 : Int32)]) rfl Kz) ?_
      refine jv_Wp.lift (fun _ Kz => jv_Ev.br jv_i295 (pc' := 170) (st' := [.int (0 : Int32)]) rfl (by rfl) Kz) ?_
      refine jv_Wp.lift (fun _ Kz => jv_Ev.steps jv_i295 1 (pc' := 171) (l' := [(7, .int (0 : Int32)), (5, .long ((vl_I f.z).toInt64 - (1 : Int64))), (4, .int (vl_I (8 + (76800 + f.d)))), (2, .int (0 : Int32)), (3, .int (I 205 (76800 + f.d))), (1, .int (vl_I f.z)), (0, .ref 196)]) (st' := [.int (4 : Int32), .int (0 : Int32)]) rfl Kz) ?_
      have Hf83 := vq_first (I := I) (L := L) (K := K) (R := R) (n := n) (sl := sl) 0 4 (by omega) (by omega)
      rw [show vx_fst 0 4 = 4 from by decide] at Hf83
      refine jv_Wp.lift (fun _ Kz => jv_Ev.c jv_i295 (pc' := 174) (S' := [.int (4 : Int32)]) jv_i282 [.int (0 : Int32), .int (4 : Int32)] rfl rfl rfl rfl rfl rfl Hf83 rfl rfl Kz) ?_
      refine jv_Wp.lift (fun _ Kz => jv_Ev.steps jv_i295 4 (pc' := 178) (l' := [(2, .int (4 : Int32)), (7, .int (0 : Int32)), (5, .long ((vl_I f.z).toInt64 - (1 : Int64))), (4, .int (vl_I (8 + (76800 + f.d)))), (3, .int (I 205 (76800 + f.d))), (1, .int (vl_I f.z)), (0, .ref 196)]) (st' := [.ref 196, .ref 196, .int (4 : Int32)]) rfl Kz) ?_
      refine jv_Wp.lift (fun _ Kz => jv_Ev.m jv_i295 (pc' := 181) (st' := [.int (vl_I f.s), .ref 196, .int (4 : Int32)]) (G' := (jv_H K I L R)) rfl rfl (jv_m_getI (jv_rwK hW 196 12 24 (by decide)) rfl rfl D.2.2.1) Kz) ?_
      refine jv_Wp.lift (fun _ Kz => jv_Ev.c jv_i295 (pc' := 184) (S' := [.int (I 205 (76800 + f.s)), .int (4 : Int32)]) jv_i271 [.ref 196, .int (vl_I f.s)] rfl rfl rfl rfl (jv_cal rfl (jv_H_at (jv_rwK hW 196 12 24 (by decide))) rfl rfl) rfl (vq_sortOf f.s hW (by omega)) rfl rfl Kz) ?_
      refine jv_Wp.cnd jv_i295 (pt := 204) (pe := 187) (p := ((I 205 (76800 + f.s)) = 0)) (q := ((I 205 (76800 + f.s)) = 0)) rfl jv_bi_eq rfl rfl Iff.rfl (fun hz => absurd hz (fun z => gs ((hs ()).symm.trans ((vr_isN (L := L) oks hs11).mpr z)))) (fun _ => ?_)
      refine jv_Wp.lift (fun _ Kz => jv_Ev.steps jv_i295 2 (pc' := 189) (l' := [(2, .int (4 : Int32)), (7, .int (0 : Int32)), (5, .long ((vl_I f.z).toInt64 - (1 : Int64))), (4, .int (vl_I (8 + (76800 + f.d)))), (3, .int (I 205 (76800 + f.d))), (1, .int (vl_I f.z)), (0, .ref 196)]) (st' := [.ref 196, .ref 196, .int (4 : Int32)]) rfl Kz) ?_
      refine jv_Wp.lift (fun _ Kz => jv_Ev.m jv_i295 (pc' := 192) (st' := [.int (vl_I f.s), .ref 196, .int (4 : Int32)]) (G' := (jv_H K I L R)) rfl rfl (jv_m_getI (jv_rwK hW 196 12 24 (by decide)) rfl rfl D.2.2.1) Kz) ?_
      refine jv_Wp.lift (fun _ Kz => jv_Ev.c jv_i295 (pc' := 195) (S' := [.int (I 205 (76800 + f.s)), .int (4 : Int32)]) jv_i271 [.ref 196, .int (vl_I f.s)] rfl rfl rfl rfl (jv_cal rfl (jv_H_at (jv_rwK hW 196 12 24 (by decide))) rfl rfl) rfl (vq_sortOf f.s hW (by omega)) rfl rfl Kz) ?_
      refine jv_Wp.lift (fun _ Kz => jv_Ev.steps jv_i295 1 (pc' := 196) (l' := [(2, .int (4 : Int32)), (7, .int (0 : Int32)), (5, .long ((vl_I f.z).toInt64 - (1 : Int64))), (4, .int (vl_I (8 + (76800 + f.d)))), (3, .int (I 205 (76800 + f.d))), (1, .int (vl_I f.z)), (0, .ref 196)]) (st' := [.int (1 : Int32), .int (I 205 (76800 + f.s)), .int (4 : Int32)]) rfl Kz) ?_
      refine jv_Wp.cnd jv_i295 (pt := 204) (pe := 199) (p := ((I 205 (76800 + f.s)) = (1 : Int32))) (q := ((I 205 (76800 + f.s)) = (1 : Int32))) rfl jv_bc_eq rfl rfl Iff.rfl (fun h6 => ?_) (fun h6 => ?_)
      · refine jv_Wp.lift (fun _ Kz => jv_Ev.steps jv_i295 1 (pc' := 205) (l' := [(2, .int (4 : Int32)), (7, .int (0 : Int32)), (5, .long ((vl_I f.z).toInt64 - (1 : Int64))), (4, .int (vl_I (8 + (76800 + f.d)))), (3, .int (I 205 (76800 + f.d))), (1, .int (vl_I f.z)), (0, .ref 196)]) (st' := [.int (0 : Int32), .int (4 : Int32)]) rfl Kz) ?_
        have Hf84 := vq_first (I := I) (L := L) (K := K) (R := R) (n := n) (sl := sl) 4 0 (by omega) (by omega)
        rw [show vx_fst 4 0 = 4 from by decide] at Hf84
        refine jv_Wp.lift (fun _ Kz => jv_Ev.c jv_i295 (pc' := 208) (S' := [.int (4 : Int32)]) jv_i282 [.int (4 : Int32), .int (0 : Int32)] rfl rfl rfl rfl rfl rfl Hf84 rfl rfl Kz) ?_
        refine jv_Wp.lift (fun _ Kz => jv_Ev.steps jv_i295 3 (pc' := 211) (l' := [(2, .int (4 : Int32)), (7, .int (0 : Int32)), (5, .long ((vl_I f.z).toInt64 - (1 : Int64))), (4, .int (vl_I (8 + (76800 + f.d)))), (3, .int (I 205 (76800 + f.d))), (1, .int (vl_I f.z)), (0, .ref 196)]) (st' := [.ref 196, .int (4 : Int32)]) rfl Kz) ?_
        refine jv_Wp.lift (fun _ Kz => jv_Ev.m jv_i295 (pc' := 214) (st' := [.int (Int32.ofInt f.i), .int (4 : Int32)]) (G' := (jv_H K I L R)) rfl rfl (jv_m_getI (jv_rwK hW 196 12 24 (by decide)) rfl rfl (vr_dJ D)) Kz) ?_
        refine jv_Wp.lift (fun _ Kz => jv_Ev.steps jv_i295 1 (pc' := 217) (l' := [(2, .int (4 : Int32)), (7, .int (0 : Int32)), (5, .long ((vl_I f.z).toInt64 - (1 : Int64))), (4, .int (vl_I (8 + (76800 + f.d)))), (3, .int (I 205 (76800 + f.d))), (1, .int (vl_I f.z)), (0, .ref 196)]) (st' := [.int (241 : Int32), .int (Int32.ofInt f.i), .int (4 : Int32)]) rfl Kz) ?_
        refine jv_Wp.cnd jv_i295 (pt := 242) (pe := 220) (p := (¬ (Int32.ofInt f.i) = (241 : Int32))) (q := (¬ (Int32.ofInt f.i) = (241 : Int32))) rfl jv_bc_ne rfl rfl Iff.rfl (fun hz => absurd hz (fun z => z h241)) (fun _ => ?_)
        refine jv_Wp.lift (fun _ Kz => jv_Ev.steps jv_i295 2 (pc' := 222) (l' := [(2, .int (4 : Int32)), (7, .int (0 : Int32)), (5, .long ((vl_I f.z).toInt64 - (1 : Int64))), (4, .int (vl_I (8 + (76800 + f.d)))), (3, .int (I 205 (76800 + f.d))), (1, .int (vl_I f.z)), (0, .ref 196)]) (st' := [.int (0 : Int32), .ref 196, .int (4 : Int32)]) rfl Kz) ?_
        refine jv_Wp.lift (fun _ Kz => jv_Ev.c jv_i295 (pc' := 225) (S' := [.int (I 205 (76800 + 0)), .int (4 : Int32)]) jv_i271 [.ref 196, .int (0 : Int32)] rfl rfl rfl rfl (jv_cal rfl (jv_H_at (jv_rwK hW 196 12 24 (by decide))) rfl rfl) rfl (vq_sortOf 0 hW (by omega)) rfl rfl Kz) ?_
        refine jv_Wp.cnd jv_i295 (pt := 242) (pe := 228) (p := ((I 205 (76800 + 0)) = 0)) (q := ((I 205 (76800 + 0)) = 0)) rfl jv_bi_eq rfl rfl Iff.rfl (fun hz => absurd hz (fun z => g0 ((h0 ()).symm.trans ((vr_isN (L := L) ok0 (by decide)).mpr z)))) (fun _ => ?_)
        refine jv_Wp.lift (fun _ Kz => jv_Ev.steps jv_i295 2 (pc' := 230) (l' := [(2, .int (4 : Int32)), (7, .int (0 : Int32)), (5, .long ((vl_I f.z).toInt64 - (1 : Int64))), (4, .int (vl_I (8 + (76800 + f.d)))), (3, .int (I 205 (76800 + f.d))), (1, .int (vl_I f.z)), (0, .ref 196)]) (st' := [.int (0 : Int32), .ref 196, .int (4 : Int32)]) rfl Kz) ?_
        refine jv_Wp.lift (fun _ Kz => jv_Ev.c jv_i295 (pc' := 233) (S' := [.int (I 205 (76800 + 0)), .int (4 : Int32)]) jv_i271 [.ref 196, .int (0 : Int32)] rfl rfl rfl rfl (jv_cal rfl (jv_H_at (jv_rwK hW 196 12 24 (by decide))) rfl rfl) rfl (vq_sortOf 0 hW (by omega)) rfl rfl Kz) ?_
        refine jv_Wp.lift (fun _ Kz => jv_Ev.steps jv_i295 1 (pc' := 234) (l' := [(2, .int (4 : Int32)), (7, .int (0 : Int32)), (5, .long ((vl_I f.z).toInt64 - (1 : Int64))), (4, .int (vl_I (8 + (76800 + f.d)))), (3, .int (I 205 (76800 + f.d))), (1, .int (vl_I f.z)), (0, .ref 196)]) (st' := [.int (1 : Int32), .int (I 205 (76800 + 0)), .int (4 : Int32)]) rfl Kz) ?_
        refine jv_Wp.cnd jv_i295 (pt := 242) (pe := 237) (p := ((I 205 (76800 + 0)) = (1 : Int32))) (q := ((I 205 (76800 + 0)) = (1 : Int32))) rfl jv_bc_eq rfl rfl Iff.rfl (fun h7 => ?_) (fun h7 => ?_)
        · refine jv_Wp.lift (fun _ Kz => jv_Ev.steps jv_i295 1 (pc' := 243) (l' := [(2, .int (4 : Int32)), (7, .int (0 : Int32)), (5, .long ((vl_I f.z).toInt64 - (1 : Int64))), (4, .int (vl_I (8 + (76800 + f.d)))), (3, .int (I 205 (76800 + f.d))), (1, .int (vl_I f.z)), (0, .ref 196)]) (st' := [.int (0 : Int32), .int (4 : Int32)]) rfl Kz) ?_
          have Hf85 := vq_first (I := I) (L := L) (K := K) (R := R) (n := n) (sl := sl) 4 0 (by omega) (by omega)
          rw [show vx_fst 4 0 = 4 from by decide] at Hf85
          refine jv_Wp.lift (fun _ Kz => jv_Ev.c jv_i295 (pc' := 246) (S' := [.int (4 : Int32)]) jv_i282 [.int (4 : Int32), .int (0 : Int32)] rfl rfl rfl rfl rfl rfl Hf85 rfl rfl Kz) ?_
          refine jv_Wp.lift (fun _ Kz => jv_Ev.steps jv_i295 2 (pc' := 248) (l' := [(2, .int (4 : Int32)), (7, .int (0 : Int32)), (5, .long ((vl_I f.z).toInt64 - (1 : Int64))), (4, .int (vl_I (8 + (76800 + f.d)))), (3, .int (I 205 (76800 + f.d))), (1, .int (vl_I f.z)), (0, .ref 196)]) (st' := [.int (4 : Int32)]) rfl Kz) ?_
          refine jv_Wp.lift (fun _ Kz => jv_Ev.br jv_i295 (pc' := 251) (st' := []) rfl (by rfl) Kz) ?_
          refine jv_Wp.lift (fun _ Kz => jv_Ev.steps jv_i295 1 (pc' := 252) (l' := [(2, .int (4 : Int32)), (7, .int (0 : Int32)), (5, .long ((vl_I f.z).toInt64 - (1 : Int64))), (4, .int (vl_I (8 + (76800 + f.d)))), (3, .int (I 205 (76800 + f.d))), (1, .int (vl_I f.z)), (0, .ref 196)]) (st' := [.int (4 : Int32)]) rfl Kz) ?_
          refine jv_Wp.of (jv_Ev.ret jv_i295 rfl rfl) ?_
          rw [hQ]
          have td7 : zd = 7 := (hd ()).symm.trans ((vr_is (L := L) 7 (by decide) okd).mpr (Classical.not_not.mp h1))
          have ts1 : zs = 1 := (hs ()).symm.trans ((vr_is (L := L) 1 (by decide) oks).mpr h6)
          have t01 : z0 = 1 := (h0 ()).symm.trans ((vr_is (L := L) 1 (by decide) ok0).mpr h7)
          have ev : vx_even (vr_T I L (76800 + f.d)).val f.o f.z = false := by rw [vr_valv (by rw [(vr_is (L := L) 7 (by decide) okd).mp ((hd ()).trans (by omega))]; rfl), ← vr_dO D, vx_even_r hz]; exact (by rw [decide_eq_false h5]; rfl)
          have r7 := vx_r7' (M := M) (A := (vr_A I L 1024)) (o := f.o) (z := f.z) (w := true) ((hd ()).trans (show zd = 7 by omega))
          rw [hrr ()] at r7
          have e : vx_atp M f (vr_A I L 1024) = (4, (vr_A I L 1024)) := by
            exact vx_at3 (by rw [eD, eS, e0, hd (), hs (), h0 ()]; omega) (by rw [eD, hd ()]; omega) (Or.inl (by rw [eD]; exact ev))
          exact ⟨_, _, by rw [← eQ, e]; rfl, fun z => by rw [← eQ, e] at z; exact absurd (show (4 : Nat) = 0 from z) (by omega), vr_fr_refl hf⟩
        · refine jv_Wp.lift (fun _ Kz => jv_Ev.steps jv_i295 2 (pc' := 243) (l' := [(2, .int (4 : Int32)), (7, .int (0 : Int32)), (5, .long ((vl_I f.z).toInt64 - (1 : Int64))), (4, .int (vl_I (8 + (76800 + f.d)))), (3, .int (I 205 (76800 + f.d))), (1, .int (vl_I f.z)), (0, .ref 196)]) (st' := [.int (6 : Int32), .int (4 : Int32)]) rfl Kz) ?_
          have Hf86 := vq_first (I := I) (L := L) (K := K) (R := R) (n := n) (sl := sl) 4 6 (by omega) (by omega)
          rw [show vx_fst 4 6 = 4 from by decide] at Hf86
          refine jv_Wp.lift (fun _ Kz => jv_Ev.c jv_i295 (pc' := 246) (S' := [.int (4 : Int32)]) jv_i282 [.int (4 : Int32), .int (6 : Int32)] rfl rfl rfl rfl rfl rfl Hf86 rfl rfl Kz) ?_
          refine jv_Wp.lift (fun _ Kz => jv_Ev.steps jv_i295 2 (pc' := 248) (l' := [(2, .int (4 : Int32)), (7, .int (0 : Int32)), (5, .long ((vl_I f.z).toInt64 - (1 : Int64))), (4, .int (vl_I (8 + (76800 + f.d)))), (3, .int (I 205 (76800 + f.d))), (1, .int (vl_I f.z)), (0, .ref 196)]) (st' := [.int (4 : Int32)]) rfl Kz) ?_
          refine jv_Wp.lift (fun _ Kz => jv_Ev.br jv_i295 (pc' := 251) (st' := []) rfl (by rfl) Kz) ?_
          refine jv_Wp.lift (fun _ Kz => jv_Ev.steps jv_i295 1 (pc' := 252) (l' := [(2, .int (4 : Int32)), (7, .int (0 : Int32)), (5, .long ((vl_I f.z).toInt64 - (1 : Int64))), (4, .int (vl_I (8 + (76800 + f.d)))), (3, .int (I 205 (76800 + f.d))), (1, .int (vl_I f.z)), (0, .ref 196)]) (st' := [.int (4 : Int32)]) rfl Kz) ?_
          refine jv_Wp.of (jv_Ev.ret jv_i295 rfl rfl) ?_
          rw [hQ]
          have td7 : zd = 7 := (hd ()).symm.trans ((vr_is (L := L) 7 (by decide) okd).mpr (Classical.not_not.mp h1))
          have ts1 : zs = 1 := (hs ()).symm.trans ((vr_is (L := L) 1 (by decide) oks).mpr h6)
          have t01 : ¬ z0 = 1 := fun z => h7 ((vr_is (L := L) 1 (by decide) ok0).mp ((h0 ()).trans z))
          have ev : vx_even (vr_T I L (76800 + f.d)).val f.o f.z = false := by rw [vr_valv (by rw [(vr_is (L := L) 7 (by decide) okd).mp ((hd ()).trans (by omega))]; rfl), ← vr_dO D, vx_even_r hz]; exact (by rw [decide_eq_false h5]; rfl)
          have r7 := vx_r7' (M := M) (A := (vr_A I L 1024)) (o := f.o) (z := f.z) (w := true) ((hd ()).trans (show zd = 7 by omega))
          rw [hrr ()] at r7
          have e : vx_atp M f (vr_A I L 1024) = (4, (vr_A I L 1024)) := by
            exact vx_at3 (by rw [eD, eS, e0, hd (), hs (), h0 ()]; omega) (by rw [eD, hd ()]; omega) (Or.inl (by rw [eD]; exact ev))
          exact ⟨_, _, by rw [← eQ, e]; rfl, fun z => by rw [← eQ, e] at z; exact absurd (show (4 : Nat) = 0 from z) (by omega), vr_fr_refl hf⟩
      · refine jv_Wp.lift (fun _ Kz => jv_Ev.steps jv_i295 2 (pc' := 205) (l' := [(2, .int (4 : Int32)), (7, .int (0 : Int32)), (5, .long ((vl_I f.z).toInt64 - (1 : Int64))), (4, .int (vl_I (8 + (76800 + f.d)))), (3, .int (I 205 (76800 + f.d))), (1, .int (vl_I f.z)), (0, .ref 196)]) (st' := [.int (6 : Int32), .int (4 : Int32)]) rfl Kz) ?_
        have Hf87 := vq_first (I := I) (L := L) (K := K) (R := R) (n := n) (sl := sl) 4 6 (by omega) (by omega)
        rw [show vx_fst 4 6 = 4 from by decide] at Hf87
        refine jv_Wp.lift (fun _ Kz => jv_Ev.c jv_i295 (pc' := 208) (S' := [.int (4 : Int32)]) jv_i282 [.int (4 : Int32), .int (6 : Int32)] rfl rfl rfl rfl rfl rfl Hf87 rfl rfl Kz) ?_
        refine jv_Wp.lift (fun _ Kz => jv_Ev.steps jv_i295 3 (pc' := 211) (l' := [(2, .int (4 : Int32)), (7, .int (0 : Int32)), (5, .long ((vl_I f.z).toInt64 - (1 : Int64))), (4, .int (vl_I (8 + (76800 + f.d)))), (3, .int (I 205 (76800 + f.d))), (1, .int (vl_I f.z)), (0, .ref 196)]) (st' := [.ref 196, .int (4 : Int32)]) rfl Kz) ?_
        refine jv_Wp.lift (fun _ Kz => jv_Ev.m jv_i295 (pc' := 214) (st' := [.int (Int32.ofInt f.i), .int (4 : Int32)]) (G' := (jv_H K I L R)) rfl rfl (jv_m_getI (jv_rwK hW 196 12 24 (by decide)) rfl rfl (vr_dJ D)) Kz) ?_
        refine jv_Wp.lift (fun _ Kz => jv_Ev.steps jv_i295 1 (pc' := 217) (l' := [(2, .int (4 : Int32)), (7, .int (0 : Int32)), (5, .long ((vl_I f.z).toInt64 - (1 : Int64))), (4, .int (vl_I (8 + (76800 + f.d)))), (3, .int (I 205 (76800 + f.d))), (1, .int (vl_I f.z)), (0, .ref 196)]) (st' := [.int (241 : Int32), .int (Int32.ofInt f.i), .int (4 : Int32)]) rfl Kz) ?_
        refine jv_Wp.cnd jv_i295 (pt := 242) (pe := 220) (p := (¬ (Int32.ofInt f.i) = (241 : Int32))) (q := (¬ (Int32.ofInt f.i) = (241 : Int32))) rfl jv_bc_ne rfl rfl Iff.rfl (fun hz => absurd hz (fun z => z h241)) (fun _ => ?_)
        refine jv_Wp.lift (fun _ Kz => jv_Ev.steps jv_i295 2 (pc' := 222) (l' := [(2, .int (4 : Int32)), (7, .int (0 : Int32)), (5, .long ((vl_I f.z).toInt64 - (1 : Int64))), (4, .int (vl_I (8 + (76800 + f.d)))), (3, .int (I 205 (76800 + f.d))), (1, .int (vl_I f.z)), (0, .ref 196)]) (st' := [.int (0 : Int32), .ref 196, .int (4 : Int32)]) rfl Kz) ?_
        refine jv_Wp.lift (fun _ Kz => jv_Ev.c jv_i295 (pc' := 225) (S' := [.int (I 205 (76800 + 0)), .int (4 : Int32)]) jv_i271 [.ref 196, .int (0 : Int32)] rfl rfl rfl rfl (jv_cal rfl (jv_H_at (jv_rwK hW 196 12 24 (by decide))) rfl rfl) rfl (vq_sortOf 0 hW (by omega)) rfl rfl Kz) ?_
        refine jv_Wp.cnd jv_i295 (pt := 242) (pe := 228) (p := ((I 205 (76800 + 0)) = 0)) (q := ((I 205 (76800 + 0)) = 0)) rfl jv_bi_eq rfl rfl Iff.rfl (fun hz => absurd hz (fun z => g0 ((h0 ()).symm.trans ((vr_isN (L := L) ok0 (by decide)).mpr z)))) (fun _ => ?_)
        refine jv_Wp.lift (fun _ Kz => jv_Ev.steps jv_i295 2 (pc' := 230) (l' := [(2, .int (4 : Int32)), (7, .int (0 : Int32)), (5, .long ((vl_I f.z).toInt64 - (1 : Int64))), (4, .int (vl_I (8 + (76800 + f.d)))), (3, .int (I 205 (76800 + f.d))), (1, .int (vl_I f.z)), (0, .ref 196)]) (st' := [.int (0 : Int32), .ref 196, .int (4 : Int32)]) rfl Kz) ?_
        refine jv_Wp.lift (fun _ Kz => jv_Ev.c jv_i295 (pc' := 233) (S' := [.int (I 205 (76800 + 0)), .int (4 : Int32)]) jv_i271 [.ref 196, .int (0 : Int32)] rfl rfl rfl rfl (jv_cal rfl (jv_H_at (jv_rwK hW 196 12 24 (by decide))) rfl rfl) rfl (vq_sortOf 0 hW (by omega)) rfl rfl Kz) ?_
        refine jv_Wp.lift (fun _ Kz => jv_Ev.steps jv_i295 1 (pc' := 234) (l' := [(2, .int (4 : Int32)), (7, .int (0 : Int32)), (5, .long ((vl_I f.z).toInt64 - (1 : Int64))), (4, .int (vl_I (8 + (76800 + f.d)))), (3, .int (I 205 (76800 + f.d))), (1, .int (vl_I f.z)), (0, .ref 196)]) (st' := [.int (1 : Int32), .int (I 205 (76800 + 0)), .int (4 : Int32)]) rfl Kz) ?_
        refine jv_Wp.cnd jv_i295 (pt := 242) (pe := 237) (p := ((I 205 (76800 + 0)) = (1 : Int32))) (q := ((I 205 (76800 + 0)) = (1 : Int32))) rfl jv_bc_eq rfl rfl Iff.rfl (fun h8 => ?_) (fun h8 => ?_)
        · refine jv_Wp.lift (fun _ Kz => jv_Ev.steps jv_i295 1 (pc' := 243) (l' := [(2, .int (4 : Int32)), (7, .int (0 : Int32)), (5, .long ((vl_I f.z).toInt64 - (1 : Int64))), (4, .int (vl_I (8 + (76800 + f.d)))), (3, .int (I 205 (76800 + f.d))), (1, .int (vl_I f.z)), (0, .ref 196)]) (st' := [.int (0 : Int32), .int (4 : Int32)]) rfl Kz) ?_
          have Hf88 := vq_first (I := I) (L := L) (K := K) (R := R) (n := n) (sl := sl) 4 0 (by omega) (by omega)
          rw [show vx_fst 4 0 = 4 from by decide] at Hf88
          refine jv_Wp.lift (fun _ Kz => jv_Ev.c jv_i295 (pc' := 246) (S' := [.int (4 : Int32)]) jv_i282 [.int (4 : Int32), .int (0 : Int32)] rfl rfl rfl rfl rfl rfl Hf88 rfl rfl Kz) ?_
          refine jv_Wp.lift (fun _ Kz => jv_Ev.steps jv_i295 2 (pc' := 248) (l' := [(2, .int (4 : Int32)), (7, .int (0 : Int32)), (5, .long ((vl_I f.z).toInt64 - (1 : Int64))), (4, .int (vl_I (8 + (76800 + f.d)))), (3, .int (I 205 (76800 + f.d))), (1, .int (vl_I f.z)), (0, .ref 196)]) (st' := [.int (4 : Int32)]) rfl Kz) ?_
          refine jv_Wp.lift (fun _ Kz => jv_Ev.br jv_i295 (pc' := 251) (st' := []) rfl (by rfl) Kz) ?_
          refine jv_Wp.lift (fun _ Kz => jv_Ev.steps jv_i295 1 (pc' := 252) (l' := [(2, .int (4 : Int32)), (7, .int (0 : Int32)), (5, .long ((vl_I f.z).toInt64 - (1 : Int64))), (4, .int (vl_I (8 + (76800 + f.d)))), (3, .int (I 205 (76800 + f.d))), (1, .int (vl_I f.z)), (0, .ref 196)]) (st' := [.int (4 : Int32)]) rfl Kz) ?_
          refine jv_Wp.of (jv_Ev.ret jv_i295 rfl rfl) ?_
          rw [hQ]
          have td7 : zd = 7 := (hd ()).symm.trans ((vr_is (L := L) 7 (by decide) okd).mpr (Classical.not_not.mp h1))
          have ts1 : ¬ zs = 1 := fun z => h6 ((vr_is (L := L) 1 (by decide) oks).mp ((hs ()).trans z))
          have t01 : z0 = 1 := (h0 ()).symm.trans ((vr_is (L := L) 1 (by decide) ok0).mpr h8)
          have ev : vx_even (vr_T I L (76800 + f.d)).val f.o f.z = false := by rw [vr_valv (by rw [(vr_is (L := L) 7 (by decide) okd).mp ((hd ()).trans (by omega))]; rfl), ← vr_dO D, vx_even_r hz]; exact (by rw [decide_eq_false h5]; rfl)
          have r7 := vx_r7' (M := M) (A := (vr_A I L 1024)) (o := f.o) (z := f.z) (w := true) ((hd ()).trans (show zd = 7 by omega))
          rw [hrr ()] at r7
          have e : vx_atp M f (vr_A I L 1024) = (4, (vr_A I L 1024)) := by
            exact vx_at3 (by rw [eD, eS, e0, hd (), hs (), h0 ()]; omega) (by rw [eD, hd ()]; omega) (Or.inl (by rw [eD]; exact ev))
          exact ⟨_, _, by rw [← eQ, e]; rfl, fun z => by rw [← eQ, e] at z; exact absurd (show (4 : Nat) = 0 from z) (by omega), vr_fr_refl hf⟩
        · refine jv_Wp.lift (fun _ Kz => jv_Ev.steps jv_i295 2 (pc' := 243) (l' := [(2, .int (4 : Int32)), (7, .int (0 : Int32)), (5, .long ((vl_I f.z).toInt64 - (1 : Int64))), (4, .int (vl_I (8 + (76800 + f.d)))), (3, .int (I 205 (76800 + f.d))), (1, .int (vl_I f.z)), (0, .ref 196)]) (st' := [.int (6 : Int32), .int (4 : Int32)]) rfl Kz) ?_
          have Hf89 := vq_first (I := I) (L := L) (K := K) (R := R) (n := n) (sl := sl) 4 6 (by omega) (by omega)
          rw [show vx_fst 4 6 = 4 from by decide] at Hf89
          refine jv_Wp.lift (fun _ Kz => jv_Ev.c jv_i295 (pc' := 246) (S' := [.int (4 : Int32)]) jv_i282 [.int (4 : Int32), .int (6 : Int32)] rfl rfl rfl rfl rfl rfl Hf89 rfl rfl Kz) ?_
          refine jv_Wp.lift (fun _ Kz => jv_Ev.steps jv_i295 2 (pc' := 248) (l' := [(2, .int (4 : Int32)), (7, .int (0 : Int32)), (5, .long ((vl_I f.z).toInt64 - (1 : Int64))), (4, .int (vl_I (8 + (76800 + f.d)))), (3, .int (I 205 (76800 + f.d))), (1, .int (vl_I f.z)), (0, .ref 196)]) (st' := [.int (4 : Int32)]) rfl Kz) ?_
          refine jv_Wp.lift (fun _ Kz => jv_Ev.br jv_i295 (pc' := 251) (st' := []) rfl (by rfl) Kz) ?_
          refine jv_Wp.lift (fun _ Kz => jv_Ev.steps jv_i295 1 (pc' := 252) (l' := [(2, .int (4 : Int32)), (7, .int (0 : Int32)), (5, .long ((vl_I f.z).toInt64 - (1 : Int64))), (4, .int (vl_I (8 + (76800 + f.d)))), (3, .int (I 205 (76800 + f.d))), (1, .int (vl_I f.z)), (0, .ref 196)]) (st' := [.int (4 : Int32)]) rfl Kz) ?_
          refine jv_Wp.of (jv_Ev.ret jv_i295 rfl rfl) ?_
          rw [hQ]
          have td7 : zd = 7 := (hd ()).symm.trans ((vr_is (L := L) 7 (by decide) okd).mpr (Classical.not_not.mp h1))
          have ts1 : ¬ zs = 1 := fun z => h6 ((vr_is (L := L) 1 (by decide) oks).mp ((hs ()).trans z))
          have t01 : ¬ z0 = 1 := fun z => h8 ((vr_is (L := L) 1 (by decide) ok0).mp ((h0 ()).trans z))
          have ev : vx_even (vr_T I L (76800 + f.d)).val f.o f.z = false := by rw [vr_valv (by rw [(vr_is (L := L) 7 (by decide) okd).mp ((hd ()).trans (by omega))]; rfl), ← vr_dO D, vx_even_r hz]; exact (by rw [decide_eq_false h5]; rfl)
          have r7 := vx_r7' (M := M) (A := (vr_A I L 1024)) (o := f.o) (z := f.z) (w := true) ((hd ()).trans (show zd = 7 by omega))
          rw [hrr ()] at r7
          have e : vx_atp M f (vr_A I L 1024) = (4, (vr_A I L 1024)) := by
            exact vx_at3 (by rw [eD, eS, e0, hd (), hs (), h0 ()]; omega) (by rw [eD, hd ()]; omega) (Or.inl (by rw [eD]; exact ev))
          exact ⟨_, _, by rw [← eQ, e]; rfl, fun z => by rw [← eQ, e] at z; exact absurd (show (4 : Nat) = 0 from z) (by omega), vr_fr_refl hf⟩
    · refine jv_Wp.lift (fun _ Kz => jv_Ev.steps jv_i295 1 (pc' := 121) (l' := [(5, .long ((vl_I f.z).toInt64 - (1 : Int64))), (4, .int (vl_I (8 + (76800 + f.d)))), (2, .int (0 : Int32)), (3, .int (I 205 (76800 + f.d))), (1, .int (vl_I f.z)), (0, .ref 196)]) (st' := [.ref 196]) rfl Kz) ?_
      refine jv_Wp.lift (fun _ Kz => jv_Ev.m jv_i295 (pc' := 124) (st' := [.ref 208]) (G' := (jv_H K I L R)) rfl rfl (jv_m_getR (jv_rwK hW 196 12 24 (by decide)) rfl rfl (jv_rwR hW 196 16 208 (by decide))) Kz) ?_
      refine jv_Wp.lift (fun _ Kz => jv_Ev.m jv_i295 (pc' := 127) (st' := [.ref 209]) (G' := (jv_H K I L R)) rfl rfl (jv_m_getR (jv_rwK hW 208 11 7 (by decide)) rfl rfl (jv_rwR hW 208 0 209 (by decide))) Kz) ?_
      refine jv_Wp.lift (fun _ Kz => jv_Ev.steps jv_i295 1 (pc' := 129) (l' := [(5, .long ((vl_I f.z).toInt64 - (1 : Int64))), (4, .int (vl_I (8 + (76800 + f.d)))), (2, .int (0 : Int32)), (3, .int (I 205 (76800 + f.d))), (1, .int (vl_I f.z)), (0, .ref 196)]) (st' := [.int (vl_I (8 + (76800 + f.d))), .ref 209]) rfl Kz) ?_
      refine jv_Wp.lift (fun _ Kz => jv_Ev.m jv_i295 (pc' := 130) (st' := [.long (L 209 (8 + (76800 + f.d)))]) (G' := (jv_H K I L R)) rfl rfl (jv_m_laldv (jv_rwK hW 209 103 77200 (by decide)) rfl (vl_I_ix (by omega) (by decide)) rfl ((congrArg (L 209) (vl_I_nat (by omega))).trans rfl)) Kz) ?_
      refine jv_Wp.lift (fun _ Kz => jv_Ev.steps jv_i295 1 (pc' := 131) (l' := [(5, .long ((vl_I f.z).toInt64 - (1 : Int64))), (4, .int (vl_I (8 + (76800 + f.d)))), (2, .int (0 : Int32)), (3, .int (I 205 (76800 + f.d))), (1, .int (vl_I f.z)), (0, .ref 196)]) (st' := [.ref 196, .long (L 209 (8 + (76800 + f.d)))]) rfl Kz) ?_
      refine jv_Wp.lift (fun _ Kz => jv_Ev.m jv_i295 (pc' := 134) (st' := [.int (Int32.ofInt f.o), .long (L 209 (8 + (76800 + f.d)))]) (G' := (jv_H K I L R)) rfl rfl (jv_m_getI (jv_rwK hW 196 12 24 (by decide)) rfl rfl (vr_dI D)) Kz) ?_
      refine jv_Wp.lift (fun _ Kz => jv_Ev.steps jv_i295 6 (pc' := 141) (l' := [(5, .long ((vl_I f.z).toInt64 - (1 : Int64))), (4, .int (vl_I (8 + (76800 + f.d)))), (2, .int (0 : Int32)), (3, .int (I 205 (76800 + f.d))), (1, .int (vl_I f.z)), (0, .ref 196)]) (st' := [.int (lg_cmp (((L 209 (8 + (76800 + f.d))) + (Int32.ofInt f.o).toInt64) &&& ((vl_I f.z).toInt64 - (1 : Int64))) (0 : Int64))]) rfl Kz) ?_
      refine jv_Wp.cnd jv_i295 (pt := 148) (pe := 144) (p := (¬ (lg_cmp (((L 209 (8 + (76800 + f.d))) + (Int32.ofInt f.o).toInt64) &&& ((vl_I f.z).toInt64 - (1 : Int64))) (0 : Int64)) = 0)) (q := (¬ (((L 209 (8 + (76800 + f.d))) + (Int32.ofInt f.o).toInt64) &&& ((vl_I f.z).toInt64 - (1 : Int64))) = (0 : Int64))) rfl jv_bi_ne rfl rfl (not_congr (lg_cmp_eq (((L 209 (8 + (76800 + f.d))) + (Int32.ofInt f.o).toInt64) &&& ((vl_I f.z).toInt64 - (1 : Int64))) (0 : Int64))) (fun h9 => ?_) (fun h9 => ?_)
      · refine jv_Wp.lift (fun _ Kz => jv_Ev.steps jv_i295 4 (pc' := 154) (l' := [(7, .int (0 : Int32)), (5, .long ((vl_I f.z).toInt64 - (1 : Int64))), (4, .int (vl_I (8 + (76800 + f.d)))), (2, .int (0 : Int32)), (3, .int (I 205 (76800 + f.d))), (1, .int (vl_I f.z)), (0, .ref 196)]) (st' := [.int (0 : Int32), .int (0 : Int32)]) rfl Kz) ?_
        refine jv_Wp.lift (fun _ Kz => jv_Ev.br jv_i295 (pc' := 170) (st' := [.int (0 : Int32)]) rfl (by rfl) Kz) ?_
        refine jv_Wp.lift (fun _ Kz => jv_Ev.steps jv_i295 1 (pc' := 171) (l' := [(7, .int (0 : Int32)), (5, .long ((vl_I f.z).toInt64 - (1 : Int64))), (4, .int (vl_I (8 + (76800 + f.d)))), (2, .int (0 : Int32)), (3, .int (I 205 (76800 + f.d))), (1, .int (vl_I f.z)), (0, .ref 196)]) (st' := [.int (4 : Int32), .int (0 : Int32)]) rfl Kz) ?_
        have Hf90 := vq_first (I := I) (L := L) (K := K) (R := R) (n := n) (sl := sl) 0 4 (by omega) (by omega)
        rw [show vx_fst 0 4 = 4 from by decide] at Hf90
        refine jv_Wp.lift (fun _ Kz => jv_Ev.c jv_i295 (pc' := 174) (S' := [.int (4 : Int32)]) jv_i282 [.int (0 : Int32), .int (4 : Int32)] rfl rfl rfl rfl rfl rfl Hf90 rfl rfl Kz) ?_
        refine jv_Wp.lift (fun _ Kz => jv_Ev.steps jv_i295 4 (pc' := 178) (l' := [(2, .int (4 : Int32)), (7, .int (0 : Int32)), (5, .long ((vl_I f.z).toInt64 - (1 : Int64))), (4, .int (vl_I (8 + (76800 + f.d)))), (3, .int (I 205 (76800 + f.d))), (1, .int (vl_I f.z)), (0, .ref 196)]) (st' := [.ref 196, .ref 196, .int (4 : Int32)]) rfl Kz) ?_
        refine jv_Wp.lift (fun _ Kz => jv_Ev.m jv_i295 (pc' := 181) (st' := [.int (vl_I f.s), .ref 196, .int (4 : Int32)]) (G' := (jv_H K I L R)) rfl rfl (jv_m_getI (jv_rwK hW 196 12 24 (by decide)) rfl rfl D.2.2.1) Kz) ?_
        refine jv_Wp.lift (fun _ Kz => jv_Ev.c jv_i295 (pc' := 184) (S' := [.int (I 205 (76800 + f.s)), .int (4 : Int32)]) jv_i271 [.ref 196, .int (vl_I f.s)] rfl rfl rfl rfl (jv_cal rfl (jv_H_at (jv_rwK hW 196 12 24 (by decide))) rfl rfl) rfl (vq_sortOf f.s hW (by omega)) rfl rfl Kz) ?_
        refine jv_Wp.cnd jv_i295 (pt := 204) (pe := 187) (p := ((I 205 (76800 + f.s)) = 0)) (q := ((I 205 (76800 + f.s)) = 0)) rfl jv_bi_eq rfl rfl Iff.rfl (fun hz => absurd hz (fun z => gs ((hs ()).symm.trans ((vr_isN (L := L) oks hs11).mpr z)))) (fun _ => ?_)
        refine jv_Wp.lift (fun _ Kz => jv_Ev.steps jv_i295 2 (pc' := 189) (l' := [(2, .int (4 : Int32)), (7, .int (0 : Int32)), (5, .long ((vl_I f.z).toInt64 - (1 : Int64))), (4, .int (vl_I (8 + (76800 + f.d)))), (3, .int (I 205 (76800 + f.d))), (1, .int (vl_I f.z)), (0, .ref 196)]) (st' := [.ref 196, .ref 196, .int (4 : Int32)]) rfl Kz) ?_
        refine jv_Wp.lift (fun _ Kz => jv_Ev.m jv_i295 (pc' := 192) (st' := [.int (vl_I f.s), .ref 196, .int (4 : Int32)]) (G' := (jv_H K I L R)) rfl rfl (jv_m_getI (jv_rwK hW 196 12 24 (by decide)) rfl rfl D.2.2.1) Kz) ?_
        refine jv_Wp.lift (fun _ Kz => jv_Ev.c jv_i295 (pc' := 195) (S' := [.int (I 205 (76800 + f.s)), .int (4 : Int32)]) jv_i271 [.ref 196, .int (vl_I f.s)] rfl rfl rfl rfl (jv_cal rfl (jv_H_at (jv_rwK hW 196 12 24 (by decide))) rfl rfl) rfl (vq_sortOf f.s hW (by omega)) rfl rfl Kz) ?_
        refine jv_Wp.lift (fun _ Kz => jv_Ev.steps jv_i295 1 (pc' := 196) (l' := [(2, .int (4 : Int32)), (7, .int (0 : Int32)), (5, .long ((vl_I f.z).toInt64 - (1 : Int64))), (4, .int (vl_I (8 + (76800 + f.d)))), (3, .int (I 205 (76800 + f.d))), (1, .int (vl_I f.z)), (0, .ref 196)]) (st' := [.int (1 : Int32), .int (I 205 (76800 + f.s)), .int (4 : Int32)]) rfl Kz) ?_
        refine jv_Wp.cnd jv_i295 (pt := 204) (pe := 199) (p := ((I 205 (76800 + f.s)) = (1 : Int32))) (q := ((I 205 (76800 + f.s)) = (1 : Int32))) rfl jv_bc_eq rfl rfl Iff.rfl (fun h10 => ?_) (fun h10 => ?_)
        · refine jv_Wp.lift (fun _ Kz => jv_Ev.steps jv_i295 1 (pc' := 205) (l' := [(2, .int (4 : Int32)), (7, .int (0 : Int32)), (5, .long ((vl_I f.z).toInt64 - (1 : Int64))), (4, .int (vl_I (8 + (76800 + f.d)))), (3, .int (I 205 (76800 + f.d))), (1, .int (vl_I f.z)), (0, .ref 196)]) (st' := [.int (0 : Int32), .int (4 : Int32)]) rfl Kz) ?_
          have Hf91 := vq_first (I := I) (L := L) (K := K) (R := R) (n := n) (sl := sl) 4 0 (by omega) (by omega)
          rw [show vx_fst 4 0 = 4 from by decide] at Hf91
          refine jv_Wp.lift (fun _ Kz => jv_Ev.c jv_i295 (pc' := 208) (S' := [.int (4 : Int32)]) jv_i282 [.int (4 : Int32), .int (0 : Int32)] rfl rfl rfl rfl rfl rfl Hf91 rfl rfl Kz) ?_
          refine jv_Wp.lift (fun _ Kz => jv_Ev.steps jv_i295 3 (pc' := 211) (l' := [(2, .int (4 : Int32)), (7, .int (0 : Int32)), (5, .long ((vl_I f.z).toInt64 - (1 : Int64))), (4, .int (vl_I (8 + (76800 + f.d)))), (3, .int (I 205 (76800 + f.d))), (1, .int (vl_I f.z)), (0, .ref 196)]) (st' := [.ref 196, .int (4 : Int32)]) rfl Kz) ?_
          refine jv_Wp.lift (fun _ Kz => jv_Ev.m jv_i295 (pc' := 214) (st' := [.int (Int32.ofInt f.i), .int (4 : Int32)]) (G' := (jv_H K I L R)) rfl rfl (jv_m_getI (jv_rwK hW 196 12 24 (by decide)) rfl rfl (vr_dJ D)) Kz) ?_
          refine jv_Wp.lift (fun _ Kz => jv_Ev.steps jv_i295 1 (pc' := 217) (l' := [(2, .int (4 : Int32)), (7, .int (0 : Int32)), (5, .long ((vl_I f.z).toInt64 - (1 : Int64))), (4, .int (vl_I (8 + (76800 + f.d)))), (3, .int (I 205 (76800 + f.d))), (1, .int (vl_I f.z)), (0, .ref 196)]) (st' := [.int (241 : Int32), .int (Int32.ofInt f.i), .int (4 : Int32)]) rfl Kz) ?_
          refine jv_Wp.cnd jv_i295 (pt := 242) (pe := 220) (p := (¬ (Int32.ofInt f.i) = (241 : Int32))) (q := (¬ (Int32.ofInt f.i) = (241 : Int32))) rfl jv_bc_ne rfl rfl Iff.rfl (fun hz => absurd hz (fun z => z h241)) (fun _ => ?_)
          refine jv_Wp.lift (fun _ Kz => jv_Ev.steps jv_i295 2 (pc' := 222) (l' := [(2, .int (4 : Int32)), (7, .int (0 : Int32)), (5, .long ((vl_I f.z).toInt64 - (1 : Int64))), (4, .int (vl_I (8 + (76800 + f.d)))), (3, .int (I 205 (76800 + f.d))), (1, .int (vl_I f.z)), (0, .ref 196)]) (st' := [.int (0 : Int32), .ref 196, .int (4 : Int32)]) rfl Kz) ?_
          refine jv_Wp.lift (fun _ Kz => jv_Ev.c jv_i295 (pc' := 225) (S' := [.int (I 205 (76800 + 0)), .int (4 : Int32)]) jv_i271 [.ref 196, .int (0 : Int32)] rfl rfl rfl rfl (jv_cal rfl (jv_H_at (jv_rwK hW 196 12 24 (by decide))) rfl rfl) rfl (vq_sortOf 0 hW (by omega)) rfl rfl Kz) ?_
          refine jv_Wp.cnd jv_i295 (pt := 242) (pe := 228) (p := ((I 205 (76800 + 0)) = 0)) (q := ((I 205 (76800 + 0)) = 0)) rfl jv_bi_eq rfl rfl Iff.rfl (fun hz => absurd hz (fun z => g0 ((h0 ()).symm.trans ((vr_isN (L := L) ok0 (by decide)).mpr z)))) (fun _ => ?_)
          refine jv_Wp.lift (fun _ Kz => jv_Ev.steps jv_i295 2 (pc' := 230) (l' := [(2, .int (4 : Int32)), (7, .int (0 : Int32)), (5, .long ((vl_I f.z).toInt64 - (1 : Int64))), (4, .int (vl_I (8 + (76800 + f.d)))), (3, .int (I 205 (76800 + f.d))), (1, .int (vl_I f.z)), (0, .ref 196)]) (st' := [.int (0 : Int32), .ref 196, .int (4 : Int32)]) rfl Kz) ?_
          refine jv_Wp.lift (fun _ Kz => jv_Ev.c jv_i295 (pc' := 233) (S' := [.int (I 205 (76800 + 0)), .int (4 : Int32)]) jv_i271 [.ref 196, .int (0 : Int32)] rfl rfl rfl rfl (jv_cal rfl (jv_H_at (jv_rwK hW 196 12 24 (by decide))) rfl rfl) rfl (vq_sortOf 0 hW (by omega)) rfl rfl Kz) ?_
          refine jv_Wp.lift (fun _ Kz => jv_Ev.steps jv_i295 1 (pc' := 234) (l' := [(2, .int (4 : Int32)), (7, .int (0 : Int32)), (5, .long ((vl_I f.z).toInt64 - (1 : Int64))), (4, .int (vl_I (8 + (76800 + f.d)))), (3, .int (I 205 (76800 + f.d))), (1, .int (vl_I f.z)), (0, .ref 196)]) (st' := [.int (1 : Int32), .int (I 205 (76800 + 0)), .int (4 : Int32)]) rfl Kz) ?_
          refine jv_Wp.cnd jv_i295 (pt := 242) (pe := 237) (p := ((I 205 (76800 + 0)) = (1 : Int32))) (q := ((I 205 (76800 + 0)) = (1 : Int32))) rfl jv_bc_eq rfl rfl Iff.rfl (fun h11 => ?_) (fun h11 => ?_)
          · refine jv_Wp.lift (fun _ Kz => jv_Ev.steps jv_i295 1 (pc' := 243) (l' := [(2, .int (4 : Int32)), (7, .int (0 : Int32)), (5, .long ((vl_I f.z).toInt64 - (1 : Int64))), (4, .int (vl_I (8 + (76800 + f.d)))), (3, .int (I 205 (76800 + f.d))), (1, .int (vl_I f.z)), (0, .ref 196)]) (st' := [.int (0 : Int32), .int (4 : Int32)]) rfl Kz) ?_
            have Hf92 := vq_first (I := I) (L := L) (K := K) (R := R) (n := n) (sl := sl) 4 0 (by omega) (by omega)
            rw [show vx_fst 4 0 = 4 from by decide] at Hf92
            refine jv_Wp.lift (fun _ Kz => jv_Ev.c jv_i295 (pc' := 246) (S' := [.int (4 : Int32)]) jv_i282 [.int (4 : Int32), .int (0 : Int32)] rfl rfl rfl rfl rfl rfl Hf92 rfl rfl Kz) ?_
            refine jv_Wp.lift (fun _ Kz => jv_Ev.steps jv_i295 2 (pc' := 248) (l' := [(2, .int (4 : Int32)), (7, .int (0 : Int32)), (5, .long ((vl_I f.z).toInt64 - (1 : Int64))), (4, .int (vl_I (8 + (76800 + f.d)))), (3, .int (I 205 (76800 + f.d))), (1, .int (vl_I f.z)), (0, .ref 196)]) (st' := [.int (4 : Int32)]) rfl Kz) ?_
            refine jv_Wp.lift (fun _ Kz => jv_Ev.br jv_i295 (pc' := 251) (st' := []) rfl (by rfl) Kz) ?_
            refine jv_Wp.lift (fun _ Kz => jv_Ev.steps jv_i295 1 (pc' := 252) (l' := [(2, .int (4 : Int32)), (7, .int (0 : Int32)), (5, .long ((vl_I f.z).toInt64 - (1 : Int64))), (4, .int (vl_I (8 + (76800 + f.d)))), (3, .int (I 205 (76800 + f.d))), (1, .int (vl_I f.z)), (0, .ref 196)]) (st' := [.int (4 : Int32)]) rfl Kz) ?_
            refine jv_Wp.of (jv_Ev.ret jv_i295 rfl rfl) ?_
            rw [hQ]
            have td7 : zd = 7 := (hd ()).symm.trans ((vr_is (L := L) 7 (by decide) okd).mpr (Classical.not_not.mp h1))
            have ts1 : zs = 1 := (hs ()).symm.trans ((vr_is (L := L) 1 (by decide) oks).mpr h10)
            have t01 : z0 = 1 := (h0 ()).symm.trans ((vr_is (L := L) 1 (by decide) ok0).mpr h11)
            have ev : vx_even (vr_T I L (76800 + f.d)).val f.o f.z = false := by rw [vr_valv (by rw [(vr_is (L := L) 7 (by decide) okd).mp ((hd ()).trans (by omega))]; rfl), ← vr_dO D, vx_even_r hz]; exact (by rw [decide_eq_false h9, Bool.and_false])
            have r7 := vx_r7' (M := M) (A := (vr_A I L 1024)) (o := f.o) (z := f.z) (w := true) ((hd ()).trans (show zd = 7 by omega))
            rw [hrr ()] at r7
            have e : vx_atp M f (vr_A I L 1024) = (4, (vr_A I L 1024)) := by
              exact vx_at3 (by rw [eD, eS, e0, hd (), hs (), h0 ()]; omega) (by rw [eD, hd ()]; omega) (Or.inl (by rw [eD]; exact ev))
            exact ⟨_, _, by rw [← eQ, e]; rfl, fun z => by rw [← eQ, e] at z; exact absurd (show (4 : Nat) = 0 from z) (by omega), vr_fr_refl hf⟩
          · refine jv_Wp.lift (fun _ Kz => jv_Ev.steps jv_i295 2 (pc' := 243) (l' := [(2, .int (4 : Int32)), (7, .int (0 : Int32)), (5, .long ((vl_I f.z).toInt64 - (1 : Int64))), (4, .int (vl_I (8 + (76800 + f.d)))), (3, .int (I 205 (76800 + f.d))), (1, .int (vl_I f.z)), (0, .ref 196)]) (st' := [.int (6 : Int32), .int (4 : Int32)]) rfl Kz) ?_
            have Hf93 := vq_first (I := I) (L := L) (K := K) (R := R) (n := n) (sl := sl) 4 6 (by omega) (by omega)
            rw [show vx_fst 4 6 = 4 from by decide] at Hf93
            refine jv_Wp.lift (fun _ Kz => jv_Ev.c jv_i295 (pc' := 246) (S' := [.int (4 : Int32)]) jv_i282 [.int (4 : Int32), .int (6 : Int32)] rfl rfl rfl rfl rfl rfl Hf93 rfl rfl Kz) ?_
            refine jv_Wp.lift (fun _ Kz => jv_Ev.steps jv_i295 2 (pc' := 248) (l' := [(2, .int (4 : Int32)), (7, .int (0 : Int32)), (5, .long ((vl_I f.z).toInt64 - (1 : Int64))), (4, .int (vl_I (8 + (76800 + f.d)))), (3, .int (I 205 (76800 + f.d))), (1, .int (vl_I f.z)), (0, .ref 196)]) (st' := [.int (4 : Int32)]) rfl Kz) ?_
            refine jv_Wp.lift (fun _ Kz => jv_Ev.br jv_i295 (pc' := 251) (st' := []) rfl (by rfl) Kz) ?_
            refine jv_Wp.lift (fun _ Kz => jv_Ev.steps jv_i295 1 (pc' := 252) (l' := [(2, .int (4 : Int32)), (7, .int (0 : Int32)), (5, .long ((vl_I f.z).toInt64 - (1 : Int64))), (4, .int (vl_I (8 + (76800 + f.d)))), (3, .int (I 205 (76800 + f.d))), (1, .int (vl_I f.z)), (0, .ref 196)]) (st' := [.int (4 : Int32)]) rfl Kz) ?_
            refine jv_Wp.of (jv_Ev.ret jv_i295 rfl rfl) ?_
            rw [hQ]
            have td7 : zd = 7 := (hd ()).symm.trans ((vr_is (L := L) 7 (by decide) okd).mpr (Classical.not_not.mp h1))
            have ts1 : zs = 1 := (hs ()).symm.trans ((vr_is (L := L) 1 (by decide) oks).mpr h10)
            have t01 : ¬ z0 = 1 := fun z => h11 ((vr_is (L := L) 1 (by decide) ok0).mp ((h0 ()).trans z))
            have ev : vx_even (vr_T I L (76800 + f.d)).val f.o f.z = false := by rw [vr_valv (by rw [(vr_is (L := L) 7 (by decide) okd).mp ((hd ()).trans (by omega))]; rfl), ← vr_dO D, vx_even_r hz]; exact (by rw [decide_eq_false h9, Bool.and_false])
            have r7 := vx_r7' (M := M) (A := (vr_A I L 1024)) (o := f.o) (z := f.z) (w := true) ((hd ()).trans (show zd = 7 by omega))
            rw [hrr ()] at r7
            have e : vx_atp M f (vr_A I L 1024) = (4, (vr_A I L 1024)) := by
              exact vx_at3 (by rw [eD, eS, e0, hd (), hs (), h0 ()]; omega) (by rw [eD, hd ()]; omega) (Or.inl (by rw [eD]; exact ev))
            exact ⟨_, _, by rw [← eQ, e]; rfl, fun z => by rw [← eQ, e] at z; exact absurd (show (4 : Nat) = 0 from z) (by omega), vr_fr_refl hf⟩
        · refine jv_Wp.lift (fun _ Kz => jv_Ev.steps jv_i295 2 (pc' := 205) (l' := [(2, .int (4 : Int32)), (7, .int (0 : Int32)), (5, .long ((vl_I f.z).toInt64 - (1 : Int64))), (4, .int (vl_I (8 + (76800 + f.d)))), (3, .int (I 205 (76800 + f.d))), (1, .int (vl_I f.z)), (0, .ref 196)]) (st' := [.int (6 : Int32), .int (4 : Int32)]) rfl Kz) ?_
          have Hf94 := vq_first (I := I) (L := L) (K := K) (R := R) (n := n) (sl := sl) 4 6 (by omega) (by omega)
          rw [show vx_fst 4 6 = 4 from by decide] at Hf94
          refine jv_Wp.lift (fun _ Kz => jv_Ev.c jv_i295 (pc' := 208) (S' := [.int (4 : Int32)]) jv_i282 [.int (4 : Int32), .int (6 : Int32)] rfl rfl rfl rfl rfl rfl Hf94 rfl rfl Kz) ?_
          refine jv_Wp.lift (fun _ Kz => jv_Ev.steps jv_i295 3 (pc' := 211) (l' := [(2, .int (4 : Int32)), (7, .int (0 : Int32)), (5, .long ((vl_I f.z).toInt64 - (1 : Int64))), (4, .int (vl_I (8 + (76800 + f.d)))), (3, .int (I 205 (76800 + f.d))), (1, .int (vl_I f.z)), (0, .ref 196)]) (st' := [.ref 196, .int (4 : Int32)]) rfl Kz) ?_
          refine jv_Wp.lift (fun _ Kz => jv_Ev.m jv_i295 (pc' := 214) (st' := [.int (Int32.ofInt f.i), .int (4 : Int32)]) (G' := (jv_H K I L R)) rfl rfl (jv_m_getI (jv_rwK hW 196 12 24 (by decide)) rfl rfl (vr_dJ D)) Kz) ?_
          refine jv_Wp.lift (fun _ Kz => jv_Ev.steps jv_i295 1 (pc' := 217) (l' := [(2, .int (4 : Int32)), (7, .int (0 : Int32)), (5, .long ((vl_I f.z).toInt64 - (1 : Int64))), (4, .int (vl_I (8 + (76800 + f.d)))), (3, .int (I 205 (76800 + f.d))), (1, .int (vl_I f.z)), (0, .ref 196)]) (st' := [.int (241 : Int32), .int (Int32.ofInt f.i), .int (4 : Int32)]) rfl Kz) ?_
          refine jv_Wp.cnd jv_i295 (pt := 242) (pe := 220) (p := (¬ (Int32.ofInt f.i) = (241 : Int32))) (q := (¬ (Int32.ofInt f.i) = (241 : Int32))) rfl jv_bc_ne rfl rfl Iff.rfl (fun hz => absurd hz (fun z => z h241)) (fun _ => ?_)
          refine jv_Wp.lift (fun _ Kz => jv_Ev.steps jv_i295 2 (pc' := 222) (l' := [(2, .int (4 : Int32)), (7, .int (0 : Int32)), (5, .long ((vl_I f.z).toInt64 - (1 : Int64))), (4, .int (vl_I (8 + (76800 + f.d)))), (3, .int (I 205 (76800 + f.d))), (1, .int (vl_I f.z)), (0, .ref 196)]) (st' := [.int (0 : Int32), .ref 196, .int (4 : Int32)]) rfl Kz) ?_
          refine jv_Wp.lift (fun _ Kz => jv_Ev.c jv_i295 (pc' := 225) (S' := [.int (I 205 (76800 + 0)), .int (4 : Int32)]) jv_i271 [.ref 196, .int (0 : Int32)] rfl rfl rfl rfl (jv_cal rfl (jv_H_at (jv_rwK hW 196 12 24 (by decide))) rfl rfl) rfl (vq_sortOf 0 hW (by omega)) rfl rfl Kz) ?_
          refine jv_Wp.cnd jv_i295 (pt := 242) (pe := 228) (p := ((I 205 (76800 + 0)) = 0)) (q := ((I 205 (76800 + 0)) = 0)) rfl jv_bi_eq rfl rfl Iff.rfl (fun hz => absurd hz (fun z => g0 ((h0 ()).symm.trans ((vr_isN (L := L) ok0 (by decide)).mpr z)))) (fun _ => ?_)
          refine jv_Wp.lift (fun _ Kz => jv_Ev.steps jv_i295 2 (pc' := 230) (l' := [(2, .int (4 : Int32)), (7, .int (0 : Int32)), (5, .long ((vl_I f.z).toInt64 - (1 : Int64))), (4, .int (vl_I (8 + (76800 + f.d)))), (3, .int (I 205 (76800 + f.d))), (1, .int (vl_I f.z)), (0, .ref 196)]) (st' := [.int (0 : Int32), .ref 196, .int (4 : Int32)]) rfl Kz) ?_
          refine jv_Wp.lift (fun _ Kz => jv_Ev.c jv_i295 (pc' := 233) (S' := [.int (I 205 (76800 + 0)), .int (4 : Int32)]) jv_i271 [.ref 196, .int (0 : Int32)] rfl rfl rfl rfl (jv_cal rfl (jv_H_at (jv_rwK hW 196 12 24 (by decide))) rfl rfl) rfl (vq_sortOf 0 hW (by omega)) rfl rfl Kz) ?_
          refine jv_Wp.lift (fun _ Kz => jv_Ev.steps jv_i295 1 (pc' := 234) (l' := [(2, .int (4 : Int32)), (7, .int (0 : Int32)), (5, .long ((vl_I f.z).toInt64 - (1 : Int64))), (4, .int (vl_I (8 + (76800 + f.d)))), (3, .int (I 205 (76800 + f.d))), (1, .int (vl_I f.z)), (0, .ref 196)]) (st' := [.int (1 : Int32), .int (I 205 (76800 + 0)), .int (4 : Int32)]) rfl Kz) ?_
          refine jv_Wp.cnd jv_i295 (pt := 242) (pe := 237) (p := ((I 205 (76800 + 0)) = (1 : Int32))) (q := ((I 205 (76800 + 0)) = (1 : Int32))) rfl jv_bc_eq rfl rfl Iff.rfl (fun h12 => ?_) (fun h12 => ?_)
          · refine jv_Wp.lift (fun _ Kz => jv_Ev.steps jv_i295 1 (pc' := 243) (l' := [(2, .int (4 : Int32)), (7, .int (0 : Int32)), (5, .long ((vl_I f.z).toInt64 - (1 : Int64))), (4, .int (vl_I (8 + (76800 + f.d)))), (3, .int (I 205 (76800 + f.d))), (1, .int (vl_I f.z)), (0, .ref 196)]) (st' := [.int (0 : Int32), .int (4 : Int32)]) rfl Kz) ?_
            have Hf95 := vq_first (I := I) (L := L) (K := K) (R := R) (n := n) (sl := sl) 4 0 (by omega) (by omega)
            rw [show vx_fst 4 0 = 4 from by decide] at Hf95
            refine jv_Wp.lift (fun _ Kz => jv_Ev.c jv_i295 (pc' := 246) (S' := [.int (4 : Int32)]) jv_i282 [.int (4 : Int32), .int (0 : Int32)] rfl rfl rfl rfl rfl rfl Hf95 rfl rfl Kz) ?_
            refine jv_Wp.lift (fun _ Kz => jv_Ev.steps jv_i295 2 (pc' := 248) (l' := [(2, .int (4 : Int32)), (7, .int (0 : Int32)), (5, .long ((vl_I f.z).toInt64 - (1 : Int64))), (4, .int (vl_I (8 + (76800 + f.d)))), (3, .int (I 205 (76800 + f.d))), (1, .int (vl_I f.z)), (0, .ref 196)]) (st' := [.int (4 : Int32)]) rfl Kz) ?_
            refine jv_Wp.lift (fun _ Kz => jv_Ev.br jv_i295 (pc' := 251) (st' := []) rfl (by rfl) Kz) ?_
            refine jv_Wp.lift (fun _ Kz => jv_Ev.steps jv_i295 1 (pc' := 252) (l' := [(2, .int (4 : Int32)), (7, .int (0 : Int32)), (5, .long ((vl_I f.z).toInt64 - (1 : Int64))), (4, .int (vl_I (8 + (76800 + f.d)))), (3, .int (I 205 (76800 + f.d))), (1, .int (vl_I f.z)), (0, .ref 196)]) (st' := [.int (4 : Int32)]) rfl Kz) ?_
            refine jv_Wp.of (jv_Ev.ret jv_i295 rfl rfl) ?_
            rw [hQ]
            have td7 : zd = 7 := (hd ()).symm.trans ((vr_is (L := L) 7 (by decide) okd).mpr (Classical.not_not.mp h1))
            have ts1 : ¬ zs = 1 := fun z => h10 ((vr_is (L := L) 1 (by decide) oks).mp ((hs ()).trans z))
            have t01 : z0 = 1 := (h0 ()).symm.trans ((vr_is (L := L) 1 (by decide) ok0).mpr h12)
            have ev : vx_even (vr_T I L (76800 + f.d)).val f.o f.z = false := by rw [vr_valv (by rw [(vr_is (L := L) 7 (by decide) okd).mp ((hd ()).trans (by omega))]; rfl), ← vr_dO D, vx_even_r hz]; exact (by rw [decide_eq_false h9, Bool.and_false])
            have r7 := vx_r7' (M := M) (A := (vr_A I L 1024)) (o := f.o) (z := f.z) (w := true) ((hd ()).trans (show zd = 7 by omega))
            rw [hrr ()] at r7
            have e : vx_atp M f (vr_A I L 1024) = (4, (vr_A I L 1024)) := by
              exact vx_at3 (by rw [eD, eS, e0, hd (), hs (), h0 ()]; omega) (by rw [eD, hd ()]; omega) (Or.inl (by rw [eD]; exact ev))
            exact ⟨_, _, by rw [← eQ, e]; rfl, fun z => by rw [← eQ, e] at z; exact absurd (show (4 : Nat) = 0 from z) (by omega), vr_fr_refl hf⟩
          · refine jv_Wp.lift (fun _ Kz => jv_Ev.steps jv_i295 2 (pc' := 243) (l' := [(2, .int (4 : Int32)), (7, .int (0 : Int32)), (5, .long ((vl_I f.z).toInt64 - (1 : Int64))), (4, .int (vl_I (8 + (76800 + f.d)))), (3, .int (I 205 (76800 + f.d))), (1, .int (vl_I f.z)), (0, .ref 196)]) (st' := [.int (6 : Int32), .int (4 : Int32)]) rfl Kz) ?_
            have Hf96 := vq_first (I := I) (L := L) (K := K) (R := R) (n := n) (sl := sl) 4 6 (by omega) (by omega)
            rw [show vx_fst 4 6 = 4 from by decide] at Hf96
            refine jv_Wp.lift (fun _ Kz => jv_Ev.c jv_i295 (pc' := 246) (S' := [.int (4 : Int32)]) jv_i282 [.int (4 : Int32), .int (6 : Int32)] rfl rfl rfl rfl rfl rfl Hf96 rfl rfl Kz) ?_
            refine jv_Wp.lift (fun _ Kz => jv_Ev.steps jv_i295 2 (pc' := 248) (l' := [(2, .int (4 : Int32)), (7, .int (0 : Int32)), (5, .long ((vl_I f.z).toInt64 - (1 : Int64))), (4, .int (vl_I (8 + (76800 + f.d)))), (3, .int (I 205 (76800 + f.d))), (1, .int (vl_I f.z)), (0, .ref 196)]) (st' := [.int (4 : Int32)]) rfl Kz) ?_
            refine jv_Wp.lift (fun _ Kz => jv_Ev.br jv_i295 (pc' := 251) (st' := []) rfl (by rfl) Kz) ?_
            refine jv_Wp.lift (fun _ Kz => jv_Ev.steps jv_i295 1 (pc' := 252) (l' := [(2, .int (4 : Int32)), (7, .int (0 : Int32)), (5, .long ((vl_I f.z).toInt64 - (1 : Int64))), (4, .int (vl_I (8 + (76800 + f.d)))), (3, .int (I 205 (76800 + f.d))), (1, .int (vl_I f.z)), (0, .ref 196)]) (st' := [.int (4 : Int32)]) rfl Kz) ?_
            refine jv_Wp.of (jv_Ev.ret jv_i295 rfl rfl) ?_
            rw [hQ]
            have td7 : zd = 7 := (hd ()).symm.trans ((vr_is (L := L) 7 (by decide) okd).mpr (Classical.not_not.mp h1))
            have ts1 : ¬ zs = 1 := fun z => h10 ((vr_is (L := L) 1 (by decide) oks).mp ((hs ()).trans z))
            have t01 : ¬ z0 = 1 := fun z => h12 ((vr_is (L := L) 1 (by decide) ok0).mp ((h0 ()).trans z))
            have ev : vx_even (vr_T I L (76800 + f.d)).val f.o f.z = false := by rw [vr_valv (by rw [(vr_is (L := L) 7 (by decide) okd).mp ((hd ()).trans (by omega))]; rfl), ← vr_dO D, vx_even_r hz]; exact (by rw [decide_eq_false h9, Bool.and_false])
            have r7 := vx_r7' (M := M) (A := (vr_A I L 1024)) (o := f.o) (z := f.z) (w := true) ((hd ()).trans (show zd = 7 by omega))
            rw [hrr ()] at r7
            have e : vx_atp M f (vr_A I L 1024) = (4, (vr_A I L 1024)) := by
              exact vx_at3 (by rw [eD, eS, e0, hd (), hs (), h0 ()]; omega) (by rw [eD, hd ()]; omega) (Or.inl (by rw [eD]; exact ev))
            exact ⟨_, _, by rw [← eQ, e]; rfl, fun z => by rw [← eQ, e] at z; exact absurd (show (4 : Nat) = 0 from z) (by omega), vr_fr_refl hf⟩
      · refine jv_Wp.lift (fun _ Kz => jv_Ev.steps jv_i295 5 (pc' := 154) (l' := [(7, .int (1 : Int32)), (5, .long ((vl_I f.z).toInt64 - (1 : Int64))), (4, .int (vl_I (8 + (76800 + f.d)))), (2, .int (0 : Int32)), (3, .int (I 205 (76800 + f.d))), (1, .int (vl_I f.z)), (0, .ref 196)]) (st' := [.int (1 : Int32), .int (0 : Int32)]) rfl Kz) ?_
        refine jv_Wp.lift (fun _ Kz => jv_Ev.br jv_i295 (pc' := 157) (st' := [.int (0 : Int32)]) rfl (by rfl) Kz) ?_
        refine jv_Wp.lift (fun _ Kz => jv_Ev.steps jv_i295 2 (pc' := 159) (l' := [(7, .int (1 : Int32)), (5, .long ((vl_I f.z).toInt64 - (1 : Int64))), (4, .int (vl_I (8 + (76800 + f.d)))), (2, .int (0 : Int32)), (3, .int (I 205 (76800 + f.d))), (1, .int (vl_I f.z)), (0, .ref 196)]) (st' := [.ref 196, .ref 196, .int (0 : Int32)]) rfl Kz) ?_
        refine jv_Wp.lift (fun _ Kz => jv_Ev.m jv_i295 (pc' := 162) (st' := [.int (vl_I f.d), .ref 196, .int (0 : Int32)]) (G' := (jv_H K I L R)) rfl rfl (jv_m_getI (jv_rwK hW 196 12 24 (by decide)) rfl rfl D.2.1) Kz) ?_
        refine jv_Wp.lift (fun _ Kz => jv_Ev.steps jv_i295 2 (pc' := 164) (l' := [(7, .int (1 : Int32)), (5, .long ((vl_I f.z).toInt64 - (1 : Int64))), (4, .int (vl_I (8 + (76800 + f.d)))), (2, .int (0 : Int32)), (3, .int (I 205 (76800 + f.d))), (1, .int (vl_I f.z)), (0, .ref 196)]) (st' := [.int (1 : Int32), .int (vl_I f.z), .int (vl_I f.d), .ref 196, .int (0 : Int32)]) rfl Kz) ?_
        have Hb := vq_reach (I := I) (L := L) (n := n) (sl := sl) M f f.d kd f.z true hW hM D okd hd11 hz k8 hkd
        rw [hbd ()] at Hb
        refine jv_Wp.lift (fun _ Kz => jv_Ev.c jv_i295 (pc' := 167) (S' := [.int (vl_I bd), .int (0 : Int32)]) jv_i290 [.ref 196, .int (vl_I f.d), .int (vl_I f.z), .int (1 : Int32)] rfl rfl rfl rfl (jv_cal rfl (jv_H_at (jv_rwK hW 196 12 24 (by decide))) rfl rfl) rfl Hb rfl rfl Kz) ?_
        refine jv_Wp.lift (fun _ Kz => jv_Ev.steps jv_i295 1 (pc' := 171) (l' := [(7, .int (1 : Int32)), (5, .long ((vl_I f.z).toInt64 - (1 : Int64))), (4, .int (vl_I (8 + (76800 + f.d)))), (2, .int (0 : Int32)), (3, .int (I 205 (76800 + f.d))), (1, .int (vl_I f.z)), (0, .ref 196)]) (st' := [.int (vl_I bd), .int (0 : Int32)]) rfl Kz) ?_
        have Hf97 := vq_first (I := I) (L := L) (K := K) (R := R) (n := n) (sl := sl) 0 bd (by omega) (by omega)
        rw [show vx_fst 0 bd = bd from (vx_fst_g 0 bd).1 rfl] at Hf97
        refine jv_Wp.lift (fun _ Kz => jv_Ev.c jv_i295 (pc' := 174) (S' := [.int (vl_I bd)]) jv_i282 [.int (0 : Int32), .int (vl_I bd)] rfl rfl rfl rfl rfl rfl Hf97 rfl rfl Kz) ?_
        refine jv_Wp.lift (fun _ Kz => jv_Ev.steps jv_i295 4 (pc' := 178) (l' := [(2, .int (vl_I bd)), (7, .int (1 : Int32)), (5, .long ((vl_I f.z).toInt64 - (1 : Int64))), (4, .int (vl_I (8 + (76800 + f.d)))), (3, .int (I 205 (76800 + f.d))), (1, .int (vl_I f.z)), (0, .ref 196)]) (st' := [.ref 196, .ref 196, .int (vl_I bd)]) rfl Kz) ?_
        refine jv_Wp.lift (fun _ Kz => jv_Ev.m jv_i295 (pc' := 181) (st' := [.int (vl_I f.s), .ref 196, .int (vl_I bd)]) (G' := (jv_H K I L R)) rfl rfl (jv_m_getI (jv_rwK hW 196 12 24 (by decide)) rfl rfl D.2.2.1) Kz) ?_
        refine jv_Wp.lift (fun _ Kz => jv_Ev.c jv_i295 (pc' := 184) (S' := [.int (I 205 (76800 + f.s)), .int (vl_I bd)]) jv_i271 [.ref 196, .int (vl_I f.s)] rfl rfl rfl rfl (jv_cal rfl (jv_H_at (jv_rwK hW 196 12 24 (by decide))) rfl rfl) rfl (vq_sortOf f.s hW (by omega)) rfl rfl Kz) ?_
        refine jv_Wp.cnd jv_i295 (pt := 204) (pe := 187) (p := ((I 205 (76800 + f.s)) = 0)) (q := ((I 205 (76800 + f.s)) = 0)) rfl jv_bi_eq rfl rfl Iff.rfl (fun hz => absurd hz (fun z => gs ((hs ()).symm.trans ((vr_isN (L := L) oks hs11).mpr z)))) (fun _ => ?_)
        refine jv_Wp.lift (fun _ Kz => jv_Ev.steps jv_i295 2 (pc' := 189) (l' := [(2, .int (vl_I bd)), (7, .int (1 : Int32)), (5, .long ((vl_I f.z).toInt64 - (1 : Int64))), (4, .int (vl_I (8 + (76800 + f.d)))), (3, .int (I 205 (76800 + f.d))), (1, .int (vl_I f.z)), (0, .ref 196)]) (st' := [.ref 196, .ref 196, .int (vl_I bd)]) rfl Kz) ?_
        refine jv_Wp.lift (fun _ Kz => jv_Ev.m jv_i295 (pc' := 192) (st' := [.int (vl_I f.s), .ref 196, .int (vl_I bd)]) (G' := (jv_H K I L R)) rfl rfl (jv_m_getI (jv_rwK hW 196 12 24 (by decide)) rfl rfl D.2.2.1) Kz) ?_
        refine jv_Wp.lift (fun _ Kz => jv_Ev.c jv_i295 (pc' := 195) (S' := [.int (I 205 (76800 + f.s)), .int (vl_I bd)]) jv_i271 [.ref 196, .int (vl_I f.s)] rfl rfl rfl rfl (jv_cal rfl (jv_H_at (jv_rwK hW 196 12 24 (by decide))) rfl rfl) rfl (vq_sortOf f.s hW (by omega)) rfl rfl Kz) ?_
        refine jv_Wp.lift (fun _ Kz => jv_Ev.steps jv_i295 1 (pc' := 196) (l' := [(2, .int (vl_I bd)), (7, .int (1 : Int32)), (5, .long ((vl_I f.z).toInt64 - (1 : Int64))), (4, .int (vl_I (8 + (76800 + f.d)))), (3, .int (I 205 (76800 + f.d))), (1, .int (vl_I f.z)), (0, .ref 196)]) (st' := [.int (1 : Int32), .int (I 205 (76800 + f.s)), .int (vl_I bd)]) rfl Kz) ?_
        refine jv_Wp.cnd jv_i295 (pt := 204) (pe := 199) (p := ((I 205 (76800 + f.s)) = (1 : Int32))) (q := ((I 205 (76800 + f.s)) = (1 : Int32))) rfl jv_bc_eq rfl rfl Iff.rfl (fun h13 => ?_) (fun h13 => ?_)
        · refine jv_Wp.lift (fun _ Kz => jv_Ev.steps jv_i295 1 (pc' := 205) (l' := [(2, .int (vl_I bd)), (7, .int (1 : Int32)), (5, .long ((vl_I f.z).toInt64 - (1 : Int64))), (4, .int (vl_I (8 + (76800 + f.d)))), (3, .int (I 205 (76800 + f.d))), (1, .int (vl_I f.z)), (0, .ref 196)]) (st' := [.int (0 : Int32), .int (vl_I bd)]) rfl Kz) ?_
          have Hf98 := vq_first (I := I) (L := L) (K := K) (R := R) (n := n) (sl := sl) bd 0 (by omega) (by omega)
          rw [show vx_fst bd 0 = bd from (vx_fst_g bd 0).2.1 rfl] at Hf98
          refine jv_Wp.lift (fun _ Kz => jv_Ev.c jv_i295 (pc' := 208) (S' := [.int (vl_I bd)]) jv_i282 [.int (vl_I bd), .int (0 : Int32)] rfl rfl rfl rfl rfl rfl Hf98 rfl rfl Kz) ?_
          refine jv_Wp.lift (fun _ Kz => jv_Ev.steps jv_i295 3 (pc' := 211) (l' := [(2, .int (vl_I bd)), (7, .int (1 : Int32)), (5, .long ((vl_I f.z).toInt64 - (1 : Int64))), (4, .int (vl_I (8 + (76800 + f.d)))), (3, .int (I 205 (76800 + f.d))), (1, .int (vl_I f.z)), (0, .ref 196)]) (st' := [.ref 196, .int (vl_I bd)]) rfl Kz) ?_
          refine jv_Wp.lift (fun _ Kz => jv_Ev.m jv_i295 (pc' := 214) (st' := [.int (Int32.ofInt f.i), .int (vl_I bd)]) (G' := (jv_H K I L R)) rfl rfl (jv_m_getI (jv_rwK hW 196 12 24 (by decide)) rfl rfl (vr_dJ D)) Kz) ?_
          refine jv_Wp.lift (fun _ Kz => jv_Ev.steps jv_i295 1 (pc' := 217) (l' := [(2, .int (vl_I bd)), (7, .int (1 : Int32)), (5, .long ((vl_I f.z).toInt64 - (1 : Int64))), (4, .int (vl_I (8 + (76800 + f.d)))), (3, .int (I 205 (76800 + f.d))), (1, .int (vl_I f.z)), (0, .ref 196)]) (st' := [.int (241 : Int32), .int (Int32.ofInt f.i), .int (vl_I bd)]) rfl Kz) ?_
          refine jv_Wp.cnd jv_i295 (pt := 242) (pe := 220) (p := (¬ (Int32.ofInt f.i) = (241 : Int32))) (q := (¬ (Int32.ofInt f.i) = (241 : Int32))) rfl jv_bc_ne rfl rfl Iff.rfl (fun hz => absurd hz (fun z => z h241)) (fun _ => ?_)
          refine jv_Wp.lift (fun _ Kz => jv_Ev.steps jv_i295 2 (pc' := 222) (l' := [(2, .int (vl_I bd)), (7, .int (1 : Int32)), (5, .long ((vl_I f.z).toInt64 - (1 : Int64))), (4, .int (vl_I (8 + (76800 + f.d)))), (3, .int (I 205 (76800 + f.d))), (1, .int (vl_I f.z)), (0, .ref 196)]) (st' := [.int (0 : Int32), .ref 196, .int (vl_I bd)]) rfl Kz) ?_
          refine jv_Wp.lift (fun _ Kz => jv_Ev.c jv_i295 (pc' := 225) (S' := [.int (I 205 (76800 + 0)), .int (vl_I bd)]) jv_i271 [.ref 196, .int (0 : Int32)] rfl rfl rfl rfl (jv_cal rfl (jv_H_at (jv_rwK hW 196 12 24 (by decide))) rfl rfl) rfl (vq_sortOf 0 hW (by omega)) rfl rfl Kz) ?_
          refine jv_Wp.cnd jv_i295 (pt := 242) (pe := 228) (p := ((I 205 (76800 + 0)) = 0)) (q := ((I 205 (76800 + 0)) = 0)) rfl jv_bi_eq rfl rfl Iff.rfl (fun hz => absurd hz (fun z => g0 ((h0 ()).symm.trans ((vr_isN (L := L) ok0 (by decide)).mpr z)))) (fun _ => ?_)
          refine jv_Wp.lift (fun _ Kz => jv_Ev.steps jv_i295 2 (pc' := 230) (l' := [(2, .int (vl_I bd)), (7, .int (1 : Int32)), (5, .long ((vl_I f.z).toInt64 - (1 : Int64))), (4, .int (vl_I (8 + (76800 + f.d)))), (3, .int (I 205 (76800 + f.d))), (1, .int (vl_I f.z)), (0, .ref 196)]) (st' := [.int (0 : Int32), .ref 196, .int (vl_I bd)]) rfl Kz) ?_
          refine jv_Wp.lift (fun _ Kz => jv_Ev.c jv_i295 (pc' := 233) (S' := [.int (I 205 (76800 + 0)), .int (vl_I bd)]) jv_i271 [.ref 196, .int (0 : Int32)] rfl rfl rfl rfl (jv_cal rfl (jv_H_at (jv_rwK hW 196 12 24 (by decide))) rfl rfl) rfl (vq_sortOf 0 hW (by omega)) rfl rfl Kz) ?_
          refine jv_Wp.lift (fun _ Kz => jv_Ev.steps jv_i295 1 (pc' := 234) (l' := [(2, .int (vl_I bd)), (7, .int (1 : Int32)), (5, .long ((vl_I f.z).toInt64 - (1 : Int64))), (4, .int (vl_I (8 + (76800 + f.d)))), (3, .int (I 205 (76800 + f.d))), (1, .int (vl_I f.z)), (0, .ref 196)]) (st' := [.int (1 : Int32), .int (I 205 (76800 + 0)), .int (vl_I bd)]) rfl Kz) ?_
          refine jv_Wp.cnd jv_i295 (pt := 242) (pe := 237) (p := ((I 205 (76800 + 0)) = (1 : Int32))) (q := ((I 205 (76800 + 0)) = (1 : Int32))) rfl jv_bc_eq rfl rfl Iff.rfl (fun h14 => ?_) (fun h14 => ?_)
          · refine jv_Wp.lift (fun _ Kz => jv_Ev.steps jv_i295 1 (pc' := 243) (l' := [(2, .int (vl_I bd)), (7, .int (1 : Int32)), (5, .long ((vl_I f.z).toInt64 - (1 : Int64))), (4, .int (vl_I (8 + (76800 + f.d)))), (3, .int (I 205 (76800 + f.d))), (1, .int (vl_I f.z)), (0, .ref 196)]) (st' := [.int (0 : Int32), .int (vl_I bd)]) rfl Kz) ?_
            have Hf99 := vq_first (I := I) (L := L) (K := K) (R := R) (n := n) (sl := sl) bd 0 (by omega) (by omega)
            rw [show vx_fst bd 0 = bd from (vx_fst_g bd 0).2.1 rfl] at Hf99
            refine jv_Wp.lift (fun _ Kz => jv_Ev.c jv_i295 (pc' := 246) (S' := [.int (vl_I bd)]) jv_i282 [.int (vl_I bd), .int (0 : Int32)] rfl rfl rfl rfl rfl rfl Hf99 rfl rfl Kz) ?_
            refine jv_Wp.lift (fun _ Kz => jv_Ev.steps jv_i295 2 (pc' := 248) (l' := [(2, .int (vl_I bd)), (7, .int (1 : Int32)), (5, .long ((vl_I f.z).toInt64 - (1 : Int64))), (4, .int (vl_I (8 + (76800 + f.d)))), (3, .int (I 205 (76800 + f.d))), (1, .int (vl_I f.z)), (0, .ref 196)]) (st' := [.int (vl_I bd)]) rfl Kz) ?_
            refine jv_Wp.cnd jv_i295 (pt := 253) (pe := 251) (p := ((vl_I bd) ≤ 0)) (q := ((vl_I bd) ≤ 0)) rfl jv_bi_le rfl rfl Iff.rfl (fun h15 => ?_) (fun h15 => ?_)
            · refine jv_Wp.lift (fun _ Kz => jv_Ev.steps jv_i295 1 (pc' := 254) (l' := [(2, .int (vl_I bd)), (7, .int (1 : Int32)), (5, .long ((vl_I f.z).toInt64 - (1 : Int64))), (4, .int (vl_I (8 + (76800 + f.d)))), (3, .int (I 205 (76800 + f.d))), (1, .int (vl_I f.z)), (0, .ref 196)]) (st' := [.ref 196]) rfl Kz) ?_
              refine jv_Wp.lift (fun _ Kz => jv_Ev.m jv_i295 (pc' := 257) (st' := [.int (Int32.ofInt f.i)]) (G' := (jv_H K I L R)) rfl rfl (jv_m_getI (jv_rwK hW 196 12 24 (by decide)) rfl rfl (vr_dJ D)) Kz) ?_
              refine jv_Wp.lift (fun _ Kz => jv_Ev.steps jv_i295 1 (pc' := 260) (l' := [(2, .int (vl_I bd)), (7, .int (1 : Int32)), (5, .long ((vl_I f.z).toInt64 - (1 : Int64))), (4, .int (vl_I (8 + (76800 + f.d)))), (3, .int (I 205 (76800 + f.d))), (1, .int (vl_I f.z)), (0, .ref 196)]) (st' := [.int (241 : Int32), .int (Int32.ofInt f.i)]) rfl Kz) ?_
              refine jv_Wp.cnd jv_i295 (pt := 272) (pe := 263) (p := (¬ (Int32.ofInt f.i) = (241 : Int32))) (q := (¬ (Int32.ofInt f.i) = (241 : Int32))) rfl jv_bc_ne rfl rfl Iff.rfl (fun hz => absurd hz (fun z => z h241)) (fun _ => ?_)
              refine jv_Wp.lift (fun _ Kz => jv_Ev.steps jv_i295 3 (pc' := 266) (l' := [(2, .int (vl_I bd)), (7, .int (1 : Int32)), (5, .long ((vl_I f.z).toInt64 - (1 : Int64))), (4, .int (vl_I (8 + (76800 + f.d)))), (3, .int (I 205 (76800 + f.d))), (1, .int (vl_I f.z)), (0, .ref 196)]) (st' := [.int (vl_I f.z), .int (0 : Int32), .ref 196]) rfl Kz) ?_
              obtain ⟨I100, L100, H100, T100, O100, F100⟩ := vq_setAny (I := I) (L := L) (R := R) (n := n) (sl := sl) 0 f.z hW hf (by omega) hz
              refine jv_Wp.lift (fun _ Kz => jv_Ev.c jv_i295 (pc' := 269) (S' := []) (G1 := (jv_H K I100 L100 R)) jv_i274 [.ref 196, .int (0 : Int32), .int (vl_I f.z)] rfl rfl rfl rfl (jv_cal rfl (jv_H_at (jv_rwK hW 196 12 24 (by decide))) rfl rfl) rfl H100 rfl rfl Kz) ?_
              refine jv_Wp.lift (fun _ Kz => jv_Ev.steps jv_i295 2 (pc' := 292) (l' := [(2, .int (vl_I bd)), (7, .int (1 : Int32)), (5, .long ((vl_I f.z).toInt64 - (1 : Int64))), (4, .int (vl_I (8 + (76800 + f.d)))), (3, .int (I 205 (76800 + f.d))), (1, .int (vl_I f.z)), (0, .ref 196)]) (st' := [.int (0 : Int32)]) rfl Kz) ?_
              refine jv_Wp.of (jv_Ev.ret jv_i295 rfl rfl) ?_
              rw [hQ]
              have td7 : zd = 7 := (hd ()).symm.trans ((vr_is (L := L) 7 (by decide) okd).mpr (Classical.not_not.mp h1))
              have ts1 : zs = 1 := (hs ()).symm.trans ((vr_is (L := L) 1 (by decide) oks).mpr h13)
              have t01 : z0 = 1 := (h0 ()).symm.trans ((vr_is (L := L) 1 (by decide) ok0).mpr h14)
              have nx1 : bd ≤ 0 := (vl_I_le (a := bd) (b := 0) (by omega) (by omega)).mp h15
              have ev : vx_even (vr_T I L (76800 + f.d)).val f.o f.z = true := by rw [vr_valv (by rw [(vr_is (L := L) 7 (by decide) okd).mp ((hd ()).trans (by omega))]; rfl), ← vr_dO D, vx_even_r hz]; exact (by rw [decide_eq_true (Classical.not_not.mp h5), decide_eq_true (Classical.not_not.mp h9)]; rfl)
              have r7 := vx_r7' (M := M) (A := (vr_A I L 1024)) (o := f.o) (z := f.z) (w := true) ((hd ()).trans (show zd = 7 by omega))
              rw [hrr ()] at r7
              have e5 : vx_atp M f (vr_A I L 1024) = (0, vt_up (vr_A I L 1024) 0 (vt_num (vx_anyz f.z))) := by have q := vx_at5 (M := M) (f := f) (A := (vr_A I L 1024)) (by rw [eD, eS, e0, hd (), hs (), h0 ()]; omega) (by rw [eD, hd ()]; omega) (fun z => z.elim (fun z => by rw [eD, ev] at z; exact absurd z (by decide)) (fun z => by rw [eD, hrr ()] at z; omega)) (by rw [eS, e0, hs (), h0 ()]; omega) (by omega); rw [if_pos m241] at q; exact q
              have u := vr_upA (I := I) (L := L) (k := 1024) (r := 0) (t := (vt_num (vx_anyz f.z))) (by omega) T100 O100 F100 (fun n hn e q => e (by omega)) oa
              exact ⟨_, _, by rw [← eQ, e5]; rfl, fun _ => by rw [← eQ, e5]; exact u, vr_fr_P F100 (fun x z => by omega)⟩
            · refine jv_Wp.lift (fun _ Kz => jv_Ev.steps jv_i295 1 (pc' := 252) (l' := [(2, .int (vl_I bd)), (7, .int (1 : Int32)), (5, .long ((vl_I f.z).toInt64 - (1 : Int64))), (4, .int (vl_I (8 + (76800 + f.d)))), (3, .int (I 205 (76800 + f.d))), (1, .int (vl_I f.z)), (0, .ref 196)]) (st' := [.int (vl_I bd)]) rfl Kz) ?_
              refine jv_Wp.of (jv_Ev.ret jv_i295 rfl rfl) ?_
              rw [hQ]
              have td7 : zd = 7 := (hd ()).symm.trans ((vr_is (L := L) 7 (by decide) okd).mpr (Classical.not_not.mp h1))
              have ts1 : zs = 1 := (hs ()).symm.trans ((vr_is (L := L) 1 (by decide) oks).mpr h13)
              have t01 : z0 = 1 := (h0 ()).symm.trans ((vr_is (L := L) 1 (by decide) ok0).mpr h14)
              have nx1 : ¬ bd ≤ 0 := fun z => h15 ((vl_I_le (a := bd) (b := 0) (by omega) (by omega)).mpr z)
              have ev : vx_even (vr_T I L (76800 + f.d)).val f.o f.z = true := by rw [vr_valv (by rw [(vr_is (L := L) 7 (by decide) okd).mp ((hd ()).trans (by omega))]; rfl), ← vr_dO D, vx_even_r hz]; exact (by rw [decide_eq_true (Classical.not_not.mp h5), decide_eq_true (Classical.not_not.mp h9)]; rfl)
              have r7 := vx_r7' (M := M) (A := (vr_A I L 1024)) (o := f.o) (z := f.z) (w := true) ((hd ()).trans (show zd = 7 by omega))
              rw [hrr ()] at r7
              have b0 : ¬ bd ≤ 0 := fun z => h15 ((vl_I_le (b := 0) (by omega) (by decide)).mpr z)
              have e : vx_atp M f (vr_A I L 1024) = (bd, (vr_A I L 1024)) := by
                by_cases c2 : rr ≠ 0
                · rw [show bd = 4 by omega]; exact vx_at3 (by rw [eD, eS, e0, hd (), hs (), h0 ()]; omega) (by rw [eD, hd ()]; omega) (Or.inr (by rw [eD, hrr ()]; exact c2))
                · rw [show bd = 6 by omega]; exact vx_at4 (by rw [eD, eS, e0, hd (), hs (), h0 ()]; omega) (by rw [eD, hd ()]; omega) (fun z => z.elim (fun z => by rw [eD, ev] at z; exact absurd z (by decide)) (fun z => by rw [eD, hrr ()] at z; omega)) (by rw [eS, e0, hs (), h0 ()]; omega)
              exact ⟨_, _, by rw [← eQ, e], fun z => by rw [← eQ, e] at z; exact absurd (show (bd : Nat) = 0 from z) (by omega), vr_fr_refl hf⟩
          · refine jv_Wp.lift (fun _ Kz => jv_Ev.steps jv_i295 2 (pc' := 243) (l' := [(2, .int (vl_I bd)), (7, .int (1 : Int32)), (5, .long ((vl_I f.z).toInt64 - (1 : Int64))), (4, .int (vl_I (8 + (76800 + f.d)))), (3, .int (I 205 (76800 + f.d))), (1, .int (vl_I f.z)), (0, .ref 196)]) (st' := [.int (6 : Int32), .int (vl_I bd)]) rfl Kz) ?_
            obtain ⟨w102, hq102⟩ : ∃ x : Nat, ∀ _ : Unit, vx_fst bd 6 = x := ⟨_, fun _ => rfl⟩
            have fq102 : (bd = 0 → w102 = 6) ∧ (6 = 0 → w102 = bd) ∧ (w102 = bd ∨ w102 = 6) ∧ (bd ≠ 0 → 6 ≠ 0 → w102 ≤ bd ∧ w102 ≤ 6) := by rw [← hq102 ()]; exact vx_fst_g bd 6
            have Hf102 := vq_first (I := I) (L := L) (K := K) (R := R) (n := n) (sl := sl) bd 6 (by omega) (by omega)
            rw [hq102 ()] at Hf102
            refine jv_Wp.lift (fun _ Kz => jv_Ev.c jv_i295 (pc' := 246) (S' := [.int (vl_I w102)]) jv_i282 [.int (vl_I bd), .int (6 : Int32)] rfl rfl rfl rfl rfl rfl Hf102 rfl rfl Kz) ?_
            refine jv_Wp.lift (fun _ Kz => jv_Ev.steps jv_i295 2 (pc' := 248) (l' := [(2, .int (vl_I w102)), (7, .int (1 : Int32)), (5, .long ((vl_I f.z).toInt64 - (1 : Int64))), (4, .int (vl_I (8 + (76800 + f.d)))), (3, .int (I 205 (76800 + f.d))), (1, .int (vl_I f.z)), (0, .ref 196)]) (st' := [.int (vl_I w102)]) rfl Kz) ?_
            refine jv_Wp.cnd jv_i295 (pt := 253) (pe := 251) (p := ((vl_I w102) ≤ 0)) (q := ((vl_I w102) ≤ 0)) rfl jv_bi_le rfl rfl Iff.rfl (fun h16 => ?_) (fun h16 => ?_)
            · refine jv_Wp.lift (fun _ Kz => jv_Ev.steps jv_i295 1 (pc' := 254) (l' := [(2, .int (vl_I w102)), (7, .int (1 : Int32)), (5, .long ((vl_I f.z).toInt64 - (1 : Int64))), (4, .int (vl_I (8 + (76800 + f.d)))), (3, .int (I 205 (76800 + f.d))), (1, .int (vl_I f.z)), (0, .ref 196)]) (st' := [.ref 196]) rfl Kz) ?_
              refine jv_Wp.lift (fun _ Kz => jv_Ev.m jv_i295 (pc' := 257) (st' := [.int (Int32.ofInt f.i)]) (G' := (jv_H K I L R)) rfl rfl (jv_m_getI (jv_rwK hW 196 12 24 (by decide)) rfl rfl (vr_dJ D)) Kz) ?_
              refine jv_Wp.lift (fun _ Kz => jv_Ev.steps jv_i295 1 (pc' := 260) (l' := [(2, .int (vl_I w102)), (7, .int (1 : Int32)), (5, .long ((vl_I f.z).toInt64 - (1 : Int64))), (4, .int (vl_I (8 + (76800 + f.d)))), (3, .int (I 205 (76800 + f.d))), (1, .int (vl_I f.z)), (0, .ref 196)]) (st' := [.int (241 : Int32), .int (Int32.ofInt f.i)]) rfl Kz) ?_
              refine jv_Wp.cnd jv_i295 (pt := 272) (pe := 263) (p := (¬ (Int32.ofInt f.i) = (241 : Int32))) (q := (¬ (Int32.ofInt f.i) = (241 : Int32))) rfl jv_bc_ne rfl rfl Iff.rfl (fun hz => absurd hz (fun z => z h241)) (fun _ => ?_)
              refine jv_Wp.lift (fun _ Kz => jv_Ev.steps jv_i295 3 (pc' := 266) (l' := [(2, .int (vl_I w102)), (7, .int (1 : Int32)), (5, .long ((vl_I f.z).toInt64 - (1 : Int64))), (4, .int (vl_I (8 + (76800 + f.d)))), (3, .int (I 205 (76800 + f.d))), (1, .int (vl_I f.z)), (0, .ref 196)]) (st' := [.int (vl_I f.z), .int (0 : Int32), .ref 196]) rfl Kz) ?_
              obtain ⟨I103, L103, H103, T103, O103, F103⟩ := vq_setAny (I := I) (L := L) (R := R) (n := n) (sl := sl) 0 f.z hW hf (by omega) hz
              refine jv_Wp.lift (fun _ Kz => jv_Ev.c jv_i295 (pc' := 269) (S' := []) (G1 := (jv_H K I103 L103 R)) jv_i274 [.ref 196, .int (0 : Int32), .int (vl_I f.z)] rfl rfl rfl rfl (jv_cal rfl (jv_H_at (jv_rwK hW 196 12 24 (by decide))) rfl rfl) rfl H103 rfl rfl Kz) ?_
              refine jv_Wp.lift (fun _ Kz => jv_Ev.steps jv_i295 2 (pc' := 292) (l' := [(2, .int (vl_I w102)), (7, .int (1 : Int32)), (5, .long ((vl_I f.z).toInt64 - (1 : Int64))), (4, .int (vl_I (8 + (76800 + f.d)))), (3, .int (I 205 (76800 + f.d))), (1, .int (vl_I f.z)), (0, .ref 196)]) (st' := [.int (0 : Int32)]) rfl Kz) ?_
              refine jv_Wp.of (jv_Ev.ret jv_i295 rfl rfl) ?_
              rw [hQ]
              have td7 : zd = 7 := (hd ()).symm.trans ((vr_is (L := L) 7 (by decide) okd).mpr (Classical.not_not.mp h1))
              have ts1 : zs = 1 := (hs ()).symm.trans ((vr_is (L := L) 1 (by decide) oks).mpr h13)
              have t01 : ¬ z0 = 1 := fun z => h14 ((vr_is (L := L) 1 (by decide) ok0).mp ((h0 ()).trans z))
              have nx1 : w102 ≤ 0 := (vl_I_le (a := w102) (b := 0) (by omega) (by omega)).mp h16
              have ev : vx_even (vr_T I L (76800 + f.d)).val f.o f.z = true := by rw [vr_valv (by rw [(vr_is (L := L) 7 (by decide) okd).mp ((hd ()).trans (by omega))]; rfl), ← vr_dO D, vx_even_r hz]; exact (by rw [decide_eq_true (Classical.not_not.mp h5), decide_eq_true (Classical.not_not.mp h9)]; rfl)
              have r7 := vx_r7' (M := M) (A := (vr_A I L 1024)) (o := f.o) (z := f.z) (w := true) ((hd ()).trans (show zd = 7 by omega))
              rw [hrr ()] at r7
              have e5 : vx_atp M f (vr_A I L 1024) = (0, vt_up (vr_A I L 1024) 0 (vt_num (vx_anyz f.z))) := by have q := vx_at5 (M := M) (f := f) (A := (vr_A I L 1024)) (by rw [eD, eS, e0, hd (), hs (), h0 ()]; omega) (by rw [eD, hd ()]; omega) (fun z => z.elim (fun z => by rw [eD, ev] at z; exact absurd z (by decide)) (fun z => by rw [eD, hrr ()] at z; omega)) (by rw [eS, e0, hs (), h0 ()]; omega) (by omega); rw [if_pos m241] at q; exact q
              have u := vr_upA (I := I) (L := L) (k := 1024) (r := 0) (t := (vt_num (vx_anyz f.z))) (by omega) T103 O103 F103 (fun n hn e q => e (by omega)) oa
              exact ⟨_, _, by rw [← eQ, e5]; rfl, fun _ => by rw [← eQ, e5]; exact u, vr_fr_P F103 (fun x z => by omega)⟩
            · refine jv_Wp.lift (fun _ Kz => jv_Ev.steps jv_i295 1 (pc' := 252) (l' := [(2, .int (vl_I w102)), (7, .int (1 : Int32)), (5, .long ((vl_I f.z).toInt64 - (1 : Int64))), (4, .int (vl_I (8 + (76800 + f.d)))), (3, .int (I 205 (76800 + f.d))), (1, .int (vl_I f.z)), (0, .ref 196)]) (st' := [.int (vl_I w102)]) rfl Kz) ?_
              refine jv_Wp.of (jv_Ev.ret jv_i295 rfl rfl) ?_
              rw [hQ]
              have td7 : zd = 7 := (hd ()).symm.trans ((vr_is (L := L) 7 (by decide) okd).mpr (Classical.not_not.mp h1))
              have ts1 : zs = 1 := (hs ()).symm.trans ((vr_is (L := L) 1 (by decide) oks).mpr h13)
              have t01 : ¬ z0 = 1 := fun z => h14 ((vr_is (L := L) 1 (by decide) ok0).mp ((h0 ()).trans z))
              have nx1 : ¬ w102 ≤ 0 := fun z => h16 ((vl_I_le (a := w102) (b := 0) (by omega) (by omega)).mpr z)
              have ev : vx_even (vr_T I L (76800 + f.d)).val f.o f.z = true := by rw [vr_valv (by rw [(vr_is (L := L) 7 (by decide) okd).mp ((hd ()).trans (by omega))]; rfl), ← vr_dO D, vx_even_r hz]; exact (by rw [decide_eq_true (Classical.not_not.mp h5), decide_eq_true (Classical.not_not.mp h9)]; rfl)
              have r7 := vx_r7' (M := M) (A := (vr_A I L 1024)) (o := f.o) (z := f.z) (w := true) ((hd ()).trans (show zd = 7 by omega))
              rw [hrr ()] at r7
              have b0 : ¬ w102 ≤ 0 := fun z => h16 ((vl_I_le (b := 0) (by omega) (by decide)).mpr z)
              have e : vx_atp M f (vr_A I L 1024) = (w102, (vr_A I L 1024)) := by
                by_cases c2 : rr ≠ 0
                · rw [show w102 = 4 by omega]; exact vx_at3 (by rw [eD, eS, e0, hd (), hs (), h0 ()]; omega) (by rw [eD, hd ()]; omega) (Or.inr (by rw [eD, hrr ()]; exact c2))
                · rw [show w102 = 6 by omega]; exact vx_at4 (by rw [eD, eS, e0, hd (), hs (), h0 ()]; omega) (by rw [eD, hd ()]; omega) (fun z => z.elim (fun z => by rw [eD, ev] at z; exact absurd z (by decide)) (fun z => by rw [eD, hrr ()] at z; omega)) (by rw [eS, e0, hs (), h0 ()]; omega)
              exact ⟨_, _, by rw [← eQ, e], fun z => by rw [← eQ, e] at z; exact absurd (show (w102 : Nat) = 0 from z) (by omega), vr_fr_refl hf⟩
        · refine jv_Wp.lift (fun _ Kz => jv_Ev.steps jv_i295 2 (pc' := 205) (l' := [(2, .int (vl_I bd)), (7, .int (1 : Int32)), (5, .long ((vl_I f.z).toInt64 - (1 : Int64))), (4, .int (vl_I (8 + (76800 + f.d)))), (3, .int (I 205 (76800 + f.d))), (1, .int (vl_I f.z)), (0, .ref 196)]) (st' := [.int (6 : Int32), .int (vl_I bd)]) rfl Kz) ?_
          obtain ⟨w105, hq105⟩ : ∃ x : Nat, ∀ _ : Unit, vx_fst bd 6 = x := ⟨_, fun _ => rfl⟩
          have fq105 : (bd = 0 → w105 = 6) ∧ (6 = 0 → w105 = bd) ∧ (w105 = bd ∨ w105 = 6) ∧ (bd ≠ 0 → 6 ≠ 0 → w105 ≤ bd ∧ w105 ≤ 6) := by rw [← hq105 ()]; exact vx_fst_g bd 6
          have Hf105 := vq_first (I := I) (L := L) (K := K) (R := R) (n := n) (sl := sl) bd 6 (by omega) (by omega)
          rw [hq105 ()] at Hf105
          refine jv_Wp.lift (fun _ Kz => jv_Ev.c jv_i295 (pc' := 208) (S' := [.int (vl_I w105)]) jv_i282 [.int (vl_I bd), .int (6 : Int32)] rfl rfl rfl rfl rfl rfl Hf105 rfl rfl Kz) ?_
          refine jv_Wp.lift (fun _ Kz => jv_Ev.steps jv_i295 3 (pc' := 211) (l' := [(2, .int (vl_I w105)), (7, .int (1 : Int32)), (5, .long ((vl_I f.z).toInt64 - (1 : Int64))), (4, .int (vl_I (8 + (76800 + f.d)))), (3, .int (I 205 (76800 + f.d))), (1, .int (vl_I f.z)), (0, .ref 196)]) (st' := [.ref 196, .int (vl_I w105)]) rfl Kz) ?_
          refine jv_Wp.lift (fun _ Kz => jv_Ev.m jv_i295 (pc' := 214) (st' := [.int (Int32.ofInt f.i), .int (vl_I w105)]) (G' := (jv_H K I L R)) rfl rfl (jv_m_getI (jv_rwK hW 196 12 24 (by decide)) rfl rfl (vr_dJ D)) Kz) ?_
          refine jv_Wp.lift (fun _ Kz => jv_Ev.steps jv_i295 1 (pc' := 217) (l' := [(2, .int (vl_I w105)), (7, .int (1 : Int32)), (5, .long ((vl_I f.z).toInt64 - (1 : Int64))), (4, .int (vl_I (8 + (76800 + f.d)))), (3, .int (I 205 (76800 + f.d))), (1, .int (vl_I f.z)), (0, .ref 196)]) (st' := [.int (241 : Int32), .int (Int32.ofInt f.i), .int (vl_I w105)]) rfl Kz) ?_
          refine jv_Wp.cnd jv_i295 (pt := 242) (pe := 220) (p := (¬ (Int32.ofInt f.i) = (241 : Int32))) (q := (¬ (Int32.ofInt f.i) = (241 : Int32))) rfl jv_bc_ne rfl rfl Iff.rfl (fun hz => absurd hz (fun z => z h241)) (fun _ => ?_)
          refine jv_Wp.lift (fun _ Kz => jv_Ev.steps jv_i295 2 (pc' := 222) (l' := [(2, .int (vl_I w105)), (7, .int (1 : Int32)), (5, .long ((vl_I f.z).toInt64 - (1 : Int64))), (4, .int (vl_I (8 + (76800 + f.d)))), (3, .int (I 205 (76800 + f.d))), (1, .int (vl_I f.z)), (0, .ref 196)]) (st' := [.int (0 : Int32), .ref 196, .int (vl_I w105)]) rfl Kz) ?_
          refine jv_Wp.lift (fun _ Kz => jv_Ev.c jv_i295 (pc' := 225) (S' := [.int (I 205 (76800 + 0)), .int (vl_I w105)]) jv_i271 [.ref 196, .int (0 : Int32)] rfl rfl rfl rfl (jv_cal rfl (jv_H_at (jv_rwK hW 196 12 24 (by decide))) rfl rfl) rfl (vq_sortOf 0 hW (by omega)) rfl rfl Kz) ?_
          refine jv_Wp.cnd jv_i295 (pt := 242) (pe := 228) (p := ((I 205 (76800 + 0)) = 0)) (q := ((I 205 (76800 + 0)) = 0)) rfl jv_bi_eq rfl rfl Iff.rfl (fun hz => absurd hz (fun z => g0 ((h0 ()).symm.trans ((vr_isN (L := L) ok0 (by decide)).mpr z)))) (fun _ => ?_)
          refine jv_Wp.lift (fun _ Kz => jv_Ev.steps jv_i295 2 (pc' := 230) (l' := [(2, .int (vl_I w105)), (7, .int (1 : Int32)), (5, .long ((vl_I f.z).toInt64 - (1 : Int64))), (4, .int (vl_I (8 + (76800 + f.d)))), (3, .int (I 205 (76800 + f.d))), (1, .int (vl_I f.z)), (0, .ref 196)]) (st' := [.int (0 : Int32), .ref 196, .int (vl_I w105)]) rfl Kz) ?_
          refine jv_Wp.lift (fun _ Kz => jv_Ev.c jv_i295 (pc' := 233) (S' := [.int (I 205 (76800 + 0)), .int (vl_I w105)]) jv_i271 [.ref 196, .int (0 : Int32)] rfl rfl rfl rfl (jv_cal rfl (jv_H_at (jv_rwK hW 196 12 24 (by decide))) rfl rfl) rfl (vq_sortOf 0 hW (by omega)) rfl rfl Kz) ?_
          refine jv_Wp.lift (fun _ Kz => jv_Ev.steps jv_i295 1 (pc' := 234) (l' := [(2, .int (vl_I w105)), (7, .int (1 : Int32)), (5, .long ((vl_I f.z).toInt64 - (1 : Int64))), (4, .int (vl_I (8 + (76800 + f.d)))), (3, .int (I 205 (76800 + f.d))), (1, .int (vl_I f.z)), (0, .ref 196)]) (st' := [.int (1 : Int32), .int (I 205 (76800 + 0)), .int (vl_I w105)]) rfl Kz) ?_
          refine jv_Wp.cnd jv_i295 (pt := 242) (pe := 237) (p := ((I 205 (76800 + 0)) = (1 : Int32))) (q := ((I 205 (76800 + 0)) = (1 : Int32))) rfl jv_bc_eq rfl rfl Iff.rfl (fun h17 => ?_) (fun h17 => ?_)
          · refine jv_Wp.lift (fun _ Kz => jv_Ev.steps jv_i295 1 (pc' := 243) (l' := [(2, .int (vl_I w105)), (7, .int (1 : Int32)), (5, .long ((vl_I f.z).toInt64 - (1 : Int64))), (4, .int (vl_I (8 + (76800 + f.d)))), (3, .int (I 205 (76800 + f.d))), (1, .int (vl_I f.z)), (0, .ref 196)]) (st' := [.int (0 : Int32), .int (vl_I w105)]) rfl Kz) ?_
            have Hf106 := vq_first (I := I) (L := L) (K := K) (R := R) (n := n) (sl := sl) w105 0 (by omega) (by omega)
            rw [show vx_fst w105 0 = w105 from (vx_fst_g w105 0).2.1 rfl] at Hf106
            refine jv_Wp.lift (fun _ Kz => jv_Ev.c jv_i295 (pc' := 246) (S' := [.int (vl_I w105)]) jv_i282 [.int (vl_I w105), .int (0 : Int32)] rfl rfl rfl rfl rfl rfl Hf106 rfl rfl Kz) ?_
            refine jv_Wp.lift (fun _ Kz => jv_Ev.steps jv_i295 2 (pc' := 248) (l' := [(2, .int (vl_I w105)), (7, .int (1 : Int32)), (5, .long ((vl_I f.z).toInt64 - (1 : Int64))), (4, .int (vl_I (8 + (76800 + f.d)))), (3, .int (I 205 (76800 + f.d))), (1, .int (vl_I f.z)), (0, .ref 196)]) (st' := [.int (vl_I w105)]) rfl Kz) ?_
            refine jv_Wp.cnd jv_i295 (pt := 253) (pe := 251) (p := ((vl_I w105) ≤ 0)) (q := ((vl_I w105) ≤ 0)) rfl jv_bi_le rfl rfl Iff.rfl (fun h18 => ?_) (fun h18 => ?_)
            · refine jv_Wp.lift (fun _ Kz => jv_Ev.steps jv_i295 1 (pc' := 254) (l' := [(2, .int (vl_I w105)), (7, .int (1 : Int32)), (5, .long ((vl_I f.z).toInt64 - (1 : Int64))), (4, .int (vl_I (8 + (76800 + f.d)))), (3, .int (I 205 (76800 + f.d))), (1, .int (vl_I f.z)), (0, .ref 196)]) (st' := [.ref 196]) rfl Kz) ?_
              refine jv_Wp.lift (fun _ Kz => jv_Ev.m jv_i295 (pc' := 257) (st' := [.int (Int32.ofInt f.i)]) (G' := (jv_H K I L R)) rfl rfl (jv_m_getI (jv_rwK hW 196 12 24 (by decide)) rfl rfl (vr_dJ D)) Kz) ?_
              refine jv_Wp.lift (fun _ Kz => jv_Ev.steps jv_i295 1 (pc' := 260) (l' := [(2, .int (vl_I w105)), (7, .int (1 : Int32)), (5, .long ((vl_I f.z).toInt64 - (1 : Int64))), (4, .int (vl_I (8 + (76800 + f.d)))), (3, .int (I 205 (76800 + f.d))), (1, .int (vl_I f.z)), (0, .ref 196)]) (st' := [.int (241 : Int32), .int (Int32.ofInt f.i)]) rfl Kz) ?_
              refine jv_Wp.cnd jv_i295 (pt := 272) (pe := 263) (p := (¬ (Int32.ofInt f.i) = (241 : Int32))) (q := (¬ (Int32.ofInt f.i) = (241 : Int32))) rfl jv_bc_ne rfl rfl Iff.rfl (fun hz => absurd hz (fun z => z h241)) (fun _ => ?_)
              refine jv_Wp.lift (fun _ Kz => jv_Ev.steps jv_i295 3 (pc' := 266) (l' := [(2, .int (vl_I w105)), (7, .int (1 : Int32)), (5, .long ((vl_I f.z).toInt64 - (1 : Int64))), (4, .int (vl_I (8 + (76800 + f.d)))), (3, .int (I 205 (76800 + f.d))), (1, .int (vl_I f.z)), (0, .ref 196)]) (st' := [.int (vl_I f.z), .int (0 : Int32), .ref 196]) rfl Kz) ?_
              obtain ⟨I107, L107, H107, T107, O107, F107⟩ := vq_setAny (I := I) (L := L) (R := R) (n := n) (sl := sl) 0 f.z hW hf (by omega) hz
              refine jv_Wp.lift (fun _ Kz => jv_Ev.c jv_i295 (pc' := 269) (S' := []) (G1 := (jv_H K I107 L107 R)) jv_i274 [.ref 196, .int (0 : Int32), .int (vl_I f.z)] rfl rfl rfl rfl (jv_cal rfl (jv_H_at (jv_rwK hW 196 12 24 (by decide))) rfl rfl) rfl H107 rfl rfl Kz) ?_
              refine jv_Wp.lift (fun _ Kz => jv_Ev.steps jv_i295 2 (pc' := 292) (l' := [(2, .int (vl_I w105)), (7, .int (1 : Int32)), (5, .long ((vl_I f.z).toInt64 - (1 : Int64))), (4, .int (vl_I (8 + (76800 + f.d)))), (3, .int (I 205 (76800 + f.d))), (1, .int (vl_I f.z)), (0, .ref 196)]) (st' := [.int (0 : Int32)]) rfl Kz) ?_
              refine jv_Wp.of (jv_Ev.ret jv_i295 rfl rfl) ?_
              rw [hQ]
              have td7 : zd = 7 := (hd ()).symm.trans ((vr_is (L := L) 7 (by decide) okd).mpr (Classical.not_not.mp h1))
              have ts1 : ¬ zs = 1 := fun z => h13 ((vr_is (L := L) 1 (by decide) oks).mp ((hs ()).trans z))
              have t01 : z0 = 1 := (h0 ()).symm.trans ((vr_is (L := L) 1 (by decide) ok0).mpr h17)
              have nx1 : w105 ≤ 0 := (vl_I_le (a := w105) (b := 0) (by omega) (by omega)).mp h18
              have ev : vx_even (vr_T I L (76800 + f.d)).val f.o f.z = true := by rw [vr_valv (by rw [(vr_is (L := L) 7 (by decide) okd).mp ((hd ()).trans (by omega))]; rfl), ← vr_dO D, vx_even_r hz]; exact (by rw [decide_eq_true (Classical.not_not.mp h5), decide_eq_true (Classical.not_not.mp h9)]; rfl)
              have r7 := vx_r7' (M := M) (A := (vr_A I L 1024)) (o := f.o) (z := f.z) (w := true) ((hd ()).trans (show zd = 7 by omega))
              rw [hrr ()] at r7
              have e5 : vx_atp M f (vr_A I L 1024) = (0, vt_up (vr_A I L 1024) 0 (vt_num (vx_anyz f.z))) := by have q := vx_at5 (M := M) (f := f) (A := (vr_A I L 1024)) (by rw [eD, eS, e0, hd (), hs (), h0 ()]; omega) (by rw [eD, hd ()]; omega) (fun z => z.elim (fun z => by rw [eD, ev] at z; exact absurd z (by decide)) (fun z => by rw [eD, hrr ()] at z; omega)) (by rw [eS, e0, hs (), h0 ()]; omega) (by omega); rw [if_pos m241] at q; exact q
              have u := vr_upA (I := I) (L := L) (k := 1024) (r := 0) (t := (vt_num (vx_anyz f.z))) (by omega) T107 O107 F107 (fun n hn e q => e (by omega)) oa
              exact ⟨_, _, by rw [← eQ, e5]; rfl, fun _ => by rw [← eQ, e5]; exact u, vr_fr_P F107 (fun x z => by omega)⟩
            · refine jv_Wp.lift (fun _ Kz => jv_Ev.steps jv_i295 1 (pc' := 252) (l' := [(2, .int (vl_I w105)), (7, .int (1 : Int32)), (5, .long ((vl_I f.z).toInt64 - (1 : Int64))), (4, .int (vl_I (8 + (76800 + f.d)))), (3, .int (I 205 (76800 + f.d))), (1, .int (vl_I f.z)), (0, .ref 196)]) (st' := [.int (vl_I w105)]) rfl Kz) ?_
              refine jv_Wp.of (jv_Ev.ret jv_i295 rfl rfl) ?_
              rw [hQ]
              have td7 : zd = 7 := (hd ()).symm.trans ((vr_is (L := L) 7 (by decide) okd).mpr (Classical.not_not.mp h1))
              have ts1 : ¬ zs = 1 := fun z => h13 ((vr_is (L := L) 1 (by decide) oks).mp ((hs ()).trans z))
              have t01 : z0 = 1 := (h0 ()).symm.trans ((vr_is (L := L) 1 (by decide) ok0).mpr h17)
              have nx1 : ¬ w105 ≤ 0 := fun z => h18 ((vl_I_le (a := w105) (b := 0) (by omega) (by omega)).mpr z)
              have ev : vx_even (vr_T I L (76800 + f.d)).val f.o f.z = true := by rw [vr_valv (by rw [(vr_is (L := L) 7 (by decide) okd).mp ((hd ()).trans (by omega))]; rfl), ← vr_dO D, vx_even_r hz]; exact (by rw [decide_eq_true (Classical.not_not.mp h5), decide_eq_true (Classical.not_not.mp h9)]; rfl)
              have r7 := vx_r7' (M := M) (A := (vr_A I L 1024)) (o := f.o) (z := f.z) (w := true) ((hd ()).trans (show zd = 7 by omega))
              rw [hrr ()] at r7
              have b0 : ¬ w105 ≤ 0 := fun z => h18 ((vl_I_le (b := 0) (by omega) (by decide)).mpr z)
              have e : vx_atp M f (vr_A I L 1024) = (w105, (vr_A I L 1024)) := by
                by_cases c2 : rr ≠ 0
                · rw [show w105 = 4 by omega]; exact vx_at3 (by rw [eD, eS, e0, hd (), hs (), h0 ()]; omega) (by rw [eD, hd ()]; omega) (Or.inr (by rw [eD, hrr ()]; exact c2))
                · rw [show w105 = 6 by omega]; exact vx_at4 (by rw [eD, eS, e0, hd (), hs (), h0 ()]; omega) (by rw [eD, hd ()]; omega) (fun z => z.elim (fun z => by rw [eD, ev] at z; exact absurd z (by decide)) (fun z => by rw [eD, hrr ()] at z; omega)) (by rw [eS, e0, hs (), h0 ()]; omega)
              exact ⟨_, _, by rw [← eQ, e], fun z => by rw [← eQ, e] at z; exact absurd (show (w105 : Nat) = 0 from z) (by omega), vr_fr_refl hf⟩
          · refine jv_Wp.lift (fun _ Kz => jv_Ev.steps jv_i295 2 (pc' := 243) (l' := [(2, .int (vl_I w105)), (7, .int (1 : Int32)), (5, .long ((vl_I f.z).toInt64 - (1 : Int64))), (4, .int (vl_I (8 + (76800 + f.d)))), (3, .int (I 205 (76800 + f.d))), (1, .int (vl_I f.z)), (0, .ref 196)]) (st' := [.int (6 : Int32), .int (vl_I w105)]) rfl Kz) ?_
            obtain ⟨w109, hq109⟩ : ∃ x : Nat, ∀ _ : Unit, vx_fst w105 6 = x := ⟨_, fun _ => rfl⟩
            have fq109 : (w105 = 0 → w109 = 6) ∧ (6 = 0 → w109 = w105) ∧ (w109 = w105 ∨ w109 = 6) ∧ (w105 ≠ 0 → 6 ≠ 0 → w109 ≤ w105 ∧ w109 ≤ 6) := by rw [← hq109 ()]; exact vx_fst_g w105 6
            have Hf109 := vq_first (I := I) (L := L) (K := K) (R := R) (n := n) (sl := sl) w105 6 (by omega) (by omega)
            rw [hq109 ()] at Hf109
            refine jv_Wp.lift (fun _ Kz => jv_Ev.c jv_i295 (pc' := 246) (S' := [.int (vl_I w109)]) jv_i282 [.int (vl_I w105), .int (6 : Int32)] rfl rfl rfl rfl rfl rfl Hf109 rfl rfl Kz) ?_
            refine jv_Wp.lift (fun _ Kz => jv_Ev.steps jv_i295 2 (pc' := 248) (l' := [(2, .int (vl_I w109)), (7, .int (1 : Int32)), (5, .long ((vl_I f.z).toInt64 - (1 : Int64))), (4, .int (vl_I (8 + (76800 + f.d)))), (3, .int (I 205 (76800 + f.d))), (1, .int (vl_I f.z)), (0, .ref 196)]) (st' := [.int (vl_I w109)]) rfl Kz) ?_
            refine jv_Wp.cnd jv_i295 (pt := 253) (pe := 251) (p := ((vl_I w109) ≤ 0)) (q := ((vl_I w109) ≤ 0)) rfl jv_bi_le rfl rfl Iff.rfl (fun h19 => ?_) (fun h19 => ?_)
            · refine jv_Wp.lift (fun _ Kz => jv_Ev.steps jv_i295 1 (pc' := 254) (l' := [(2, .int (vl_I w109)), (7, .int (1 : Int32)), (5, .long ((vl_I f.z).toInt64 - (1 : Int64))), (4, .int (vl_I (8 + (76800 + f.d)))), (3, .int (I 205 (76800 + f.d))), (1, .int (vl_I f.z)), (0, .ref 196)]) (st' := [.ref 196]) rfl Kz) ?_
              refine jv_Wp.lift (fun _ Kz => jv_Ev.m jv_i295 (pc' := 257) (st' := [.int (Int32.ofInt f.i)]) (G' := (jv_H K I L R)) rfl rfl (jv_m_getI (jv_rwK hW 196 12 24 (by decide)) rfl rfl (vr_dJ D)) Kz) ?_
              refine jv_Wp.lift (fun _ Kz => jv_Ev.steps jv_i295 1 (pc' := 260) (l' := [(2, .int (vl_I w109)), (7, .int (1 : Int32)), (5, .long ((vl_I f.z).toInt64 - (1 : Int64))), (4, .int (vl_I (8 + (76800 + f.d)))), (3, .int (I 205 (76800 + f.d))), (1, .int (vl_I f.z)), (0, .ref 196)]) (st' := [.int (241 : Int32), .int (Int32.ofInt f.i)]) rfl Kz) ?_
              refine jv_Wp.cnd jv_i295 (pt := 272) (pe := 263) (p := (¬ (Int32.ofInt f.i) = (241 : Int32))) (q := (¬ (Int32.ofInt f.i) = (241 : Int32))) rfl jv_bc_ne rfl rfl Iff.rfl (fun hz => absurd hz (fun z => z h241)) (fun _ => ?_)
              refine jv_Wp.lift (fun _ Kz => jv_Ev.steps jv_i295 3 (pc' := 266) (l' := [(2, .int (vl_I w109)), (7, .int (1 : Int32)), (5, .long ((vl_I f.z).toInt64 - (1 : Int64))), (4, .int (vl_I (8 + (76800 + f.d)))), (3, .int (I 205 (76800 + f.d))), (1, .int (vl_I f.z)), (0, .ref 196)]) (st' := [.int (vl_I f.z), .int (0 : Int32), .ref 196]) rfl Kz) ?_
              obtain ⟨I110, L110, H110, T110, O110, F110⟩ := vq_setAny (I := I) (L := L) (R := R) (n := n) (sl := sl) 0 f.z hW hf (by omega) hz
              refine jv_Wp.lift (fun _ Kz => jv_Ev.c jv_i295 (pc' := 269) (S' := []) (G1 := (jv_H K I110 L110 R)) jv_i274 [.ref 196, .int (0 : Int32), .int (vl_I f.z)] rfl rfl rfl rfl (jv_cal rfl (jv_H_at (jv_rwK hW 196 12 24 (by decide))) rfl rfl) rfl H110 rfl rfl Kz) ?_
              refine jv_Wp.lift (fun _ Kz => jv_Ev.steps jv_i295 2 (pc' := 292) (l' := [(2, .int (vl_I w109)), (7, .int (1 : Int32)), (5, .long ((vl_I f.z).toInt64 - (1 : Int64))), (4, .int (vl_I (8 + (76800 + f.d)))), (3, .int (I 205 (76800 + f.d))), (1, .int (vl_I f.z)), (0, .ref 196)]) (st' := [.int (0 : Int32)]) rfl Kz) ?_
              refine jv_Wp.of (jv_Ev.ret jv_i295 rfl rfl) ?_
              rw [hQ]
              have td7 : zd = 7 := (hd ()).symm.trans ((vr_is (L := L) 7 (by decide) okd).mpr (Classical.not_not.mp h1))
              have ts1 : ¬ zs = 1 := fun z => h13 ((vr_is (L := L) 1 (by decide) oks).mp ((hs ()).trans z))
              have t01 : ¬ z0 = 1 := fun z => h17 ((vr_is (L := L) 1 (by decide) ok0).mp ((h0 ()).trans z))
              have nx1 : w109 ≤ 0 := (vl_I_le (a := w109) (b := 0) (by omega) (by omega)).mp h19
              have ev : vx_even (vr_T I L (76800 + f.d)).val f.o f.z = true := by rw [vr_valv (by rw [(vr_is (L := L) 7 (by decide) okd).mp ((hd ()).trans (by omega))]; rfl), ← vr_dO D, vx_even_r hz]; exact (by rw [decide_eq_true (Classical.not_not.mp h5), decide_eq_true (Classical.not_not.mp h9)]; rfl)
              have r7 := vx_r7' (M := M) (A := (vr_A I L 1024)) (o := f.o) (z := f.z) (w := true) ((hd ()).trans (show zd = 7 by omega))
              rw [hrr ()] at r7
              have e5 : vx_atp M f (vr_A I L 1024) = (0, vt_up (vr_A I L 1024) 0 (vt_num (vx_anyz f.z))) := by have q := vx_at5 (M := M) (f := f) (A := (vr_A I L 1024)) (by rw [eD, eS, e0, hd (), hs (), h0 ()]; omega) (by rw [eD, hd ()]; omega) (fun z => z.elim (fun z => by rw [eD, ev] at z; exact absurd z (by decide)) (fun z => by rw [eD, hrr ()] at z; omega)) (by rw [eS, e0, hs (), h0 ()]; omega) (by omega); rw [if_pos m241] at q; exact q
              have u := vr_upA (I := I) (L := L) (k := 1024) (r := 0) (t := (vt_num (vx_anyz f.z))) (by omega) T110 O110 F110 (fun n hn e q => e (by omega)) oa
              exact ⟨_, _, by rw [← eQ, e5]; rfl, fun _ => by rw [← eQ, e5]; exact u, vr_fr_P F110 (fun x z => by omega)⟩
            · refine jv_Wp.lift (fun _ Kz => jv_Ev.steps jv_i295 1 (pc' := 252) (l' := [(2, .int (vl_I w109)), (7, .int (1 : Int32)), (5, .long ((vl_I f.z).toInt64 - (1 : Int64))), (4, .int (vl_I (8 + (76800 + f.d)))), (3, .int (I 205 (76800 + f.d))), (1, .int (vl_I f.z)), (0, .ref 196)]) (st' := [.int (vl_I w109)]) rfl Kz) ?_
              refine jv_Wp.of (jv_Ev.ret jv_i295 rfl rfl) ?_
              rw [hQ]
              have td7 : zd = 7 := (hd ()).symm.trans ((vr_is (L := L) 7 (by decide) okd).mpr (Classical.not_not.mp h1))
              have ts1 : ¬ zs = 1 := fun z => h13 ((vr_is (L := L) 1 (by decide) oks).mp ((hs ()).trans z))
              have t01 : ¬ z0 = 1 := fun z => h17 ((vr_is (L := L) 1 (by decide) ok0).mp ((h0 ()).trans z))
              have nx1 : ¬ w109 ≤ 0 := fun z => h19 ((vl_I_le (a := w109) (b := 0) (by omega) (by omega)).mpr z)
              have ev : vx_even (vr_T I L (76800 + f.d)).val f.o f.z = true := by rw [vr_valv (by rw [(vr_is (L := L) 7 (by decide) okd).mp ((hd ()).trans (by omega))]; rfl), ← vr_dO D, vx_even_r hz]; exact (by rw [decide_eq_true (Classical.not_not.mp h5), decide_eq_true (Classical.not_not.mp h9)]; rfl)
              have r7 := vx_r7' (M := M) (A := (vr_A I L 1024)) (o := f.o) (z := f.z) (w := true) ((hd ()).trans (show zd = 7 by omega))
              rw [hrr ()] at r7
              have b0 : ¬ w109 ≤ 0 := fun z => h19 ((vl_I_le (b := 0) (by omega) (by decide)).mpr z)
              have e : vx_atp M f (vr_A I L 1024) = (w109, (vr_A I L 1024)) := by
                by_cases c2 : rr ≠ 0
                · rw [show w109 = 4 by omega]; exact vx_at3 (by rw [eD, eS, e0, hd (), hs (), h0 ()]; omega) (by rw [eD, hd ()]; omega) (Or.inr (by rw [eD, hrr ()]; exact c2))
                · rw [show w109 = 6 by omega]; exact vx_at4 (by rw [eD, eS, e0, hd (), hs (), h0 ()]; omega) (by rw [eD, hd ()]; omega) (fun z => z.elim (fun z => by rw [eD, ev] at z; exact absurd z (by decide)) (fun z => by rw [eD, hrr ()] at z; omega)) (by rw [eS, e0, hs (), h0 ()]; omega)
              exact ⟨_, _, by rw [← eQ, e], fun z => by rw [← eQ, e] at z; exact absurd (show (w109 : Nat) = 0 from z) (by omega), vr_fr_refl hf⟩
theorem vq_atomicXB {K : Nat → Option (Nat × Nat)} {I : Nat → Nat → Int32} {L : Nat → Nat → Int64} {R : Nat → Nat → Value} (M : vf_M) (f : vf_F) (hW : jv_rW K R) (hf : vr_fl I) (hM : vr_M I M) (D : vr_dec I f) (hi : 0 ≤ f.i ∧ f.i < 256) (m241 : f.i = 241) (oa : vr_okA I 1024) (gA : ∀ n, n < 75 → vt_g (vr_T I L (76800 + n))) (hd11 : f.d < 11) (hs11 : f.s < 11) (gN : (vr_T I L (76800 + f.d)).sort = 0 ∨ (vr_T I L (76800 + f.s)).sort = 0 ∨ (vr_T I L (76800 + 0)).sort = 0) {n sl : Nat} : ∃ I1 L1, jv_Ms 295 [.ref 196] (jv_H K I L R) n sl (some (.int (vl_I (vx_atomic M f (vr_A I L 1024)).1)), jv_H K I1 L1 R, n, sl) ∧ ((vx_atomic M f (vr_A I L 1024)).1 = 0 → vr_A I1 L1 1024 = (vx_atomic M f (vr_A I L 1024)).2 ∧ vr_okA I1 1024) ∧ vr_fr (fun x => x = 76800 ∨ x = 76800 + f.s) noE I L I1 L1 := by
  obtain ⟨Q, hQ⟩ : ∃ Q : jv_R → Prop, Q = fun X => ∃ I1 L1, X = (some (.int (vl_I (vx_atomic M f (vr_A I L 1024)).1)), jv_H K I1 L1 R, n, sl) ∧ ((vx_atomic M f (vr_A I L 1024)).1 = 0 → vr_A I1 L1 1024 = (vx_atomic M f (vr_A I L 1024)).2 ∧ vr_okA I1 1024) ∧ vr_fr (fun x => x = 76800 ∨ x = 76800 + f.s) noE I L I1 L1 := ⟨_, rfl⟩
  suffices h : jv_Wp 295 0 [(0, .ref 196)] [] (jv_H K I L R) n sl Q by
    rw [hQ] at h
    obtain ⟨X, h, I1, L1, e, h'⟩ := h
    subst e
    exact ⟨I1, L1, h, h'⟩
  have hz := vf_z f
  have h241 : Int32.ofInt f.i = (241 : Int32) := by rw [m241]; rfl
  have okd : vr_ok I (76800 + f.d) f.d := oa f.d (by omega)
  have eD : (vr_A I L 1024).1 f.d = (vr_T I L (76800 + f.d)) := vr_A1 (by omega)
  obtain ⟨zd, hd⟩ : ∃ x : Nat, ∀ _ : Unit, (vr_T I L (76800 + f.d)).sort = x := ⟨_, fun _ => rfl⟩
  obtain ⟨rd, hrd⟩ : ∃ x : Nat, ∀ _ : Unit, vr_rd (I 205 (76800 + f.d)) = x := ⟨_, fun _ => rfl⟩
  have rdfd : (zd = 0 → rd = 1) ∧ (zd ≠ 0 → rd = 0) := by rw [← hd (), ← hrd ()]; exact vr_rd_f okd hd11
  have oks : vr_ok I (76800 + f.s) f.s := oa f.s (by omega)
  have eS : (vr_A I L 1024).1 f.s = (vr_T I L (76800 + f.s)) := vr_A1 (by omega)
  obtain ⟨zs, hs⟩ : ∃ x : Nat, ∀ _ : Unit, (vr_T I L (76800 + f.s)).sort = x := ⟨_, fun _ => rfl⟩
  obtain ⟨rs, hrs⟩ : ∃ x : Nat, ∀ _ : Unit, vr_rd (I 205 (76800 + f.s)) = x := ⟨_, fun _ => rfl⟩
  have rdfs : (zs = 0 → rs = 1) ∧ (zs ≠ 0 → rs = 0) := by rw [← hs (), ← hrs ()]; exact vr_rd_f oks hs11
  have ok0 : vr_ok I (76800 + 0) 0 := oa 0 (by omega)
  have e0 : (vr_A I L 1024).1 0 = (vr_T I L (76800 + 0)) := vr_A1 (by omega)
  obtain ⟨z0, h0⟩ : ∃ x : Nat, ∀ _ : Unit, (vr_T I L (76800 + 0)).sort = x := ⟨_, fun _ => rfl⟩
  obtain ⟨r0, hr0⟩ : ∃ x : Nat, ∀ _ : Unit, vr_rd (I 205 (76800 + 0)) = x := ⟨_, fun _ => rfl⟩
  have rdf0 : (z0 = 0 → r0 = 1) ∧ (z0 ≠ 0 → r0 = 0) := by rw [← h0 (), ← hr0 ()]; exact vr_rd_f ok0 (by decide)
  obtain ⟨kd, k8, hkd⟩ := vr_kdx (L := L) okd (gA f.d (by omega))
  obtain ⟨bd, hbd⟩ : ∃ x : Nat, ∀ _ : Unit, vr_re M (vr_A I L 1024) (vr_T I L (76800 + f.d)) f.o f.z true = x := ⟨_, fun _ => rfl⟩
  have bd5 : bd < 5 := by rw [← hbd ()]; exact vr_re_lt
  obtain ⟨rr, hrr⟩ : ∃ x : Nat, ∀ _ : Unit, vx_reach M (vr_A I L 1024) (vr_T I L (76800 + f.d)) f.o f.z true = x := ⟨_, fun _ => rfl⟩
  have rr5 : rr < 5 := by rw [← hrr ()]; exact vx_reach_lt
  have bdf := vr_re_f (hbd ()) (hd ()) (hrr ())
  have eQ : vx_atp M f (vr_A I L 1024) = vx_atomic M f (vr_A I L 1024) := (vx_atp_eq M f (vr_A I L 1024)).symm
  rw [hd (), hs (), h0 ()] at gN
  refine jv_Wp.lift (fun _ Kz => jv_Ev.steps jv_i295 1 (pc' := 1) (l' := [(0, .ref 196)]) (st' := [.ref 196]) rfl Kz) ?_
  refine jv_Wp.lift (fun _ Kz => jv_Ev.c jv_i295 (pc' := 4) (S' := [.int (vl_I f.z)]) jv_i260 [.ref 196] rfl rfl rfl rfl (jv_cal rfl (jv_H_at (jv_rwK hW 196 12 24 (by decide))) rfl rfl) rfl (vq_size f hW D) rfl rfl Kz) ?_
  refine jv_Wp.lift (fun _ Kz => jv_Ev.steps jv_i295 3 (pc' := 7) (l' := [(1, .int (vl_I f.z)), (0, .ref 196)]) (st' := [.ref 196, .ref 196]) rfl Kz) ?_
  refine jv_Wp.lift (fun _ Kz => jv_Ev.m jv_i295 (pc' := 10) (st' := [.int (vl_I f.d), .ref 196]) (G' := (jv_H K I L R)) rfl rfl (jv_m_getI (jv_rwK hW 196 12 24 (by decide)) rfl rfl D.2.1) Kz) ?_
  have Hr111 := vq_reads (I := I) (L := L) (K := K) (R := R) (n := n) (sl := sl) f.d hW (by omega)
  rw [hrd ()] at Hr111
  refine jv_Wp.lift (fun _ Kz => jv_Ev.c jv_i295 (pc' := 13) (S' := [.int (vl_I rd)]) jv_i283 [.ref 196, .int (vl_I f.d)] rfl rfl rfl rfl (jv_cal rfl (jv_H_at (jv_rwK hW 196 12 24 (by decide))) rfl rfl) rfl Hr111 rfl rfl Kz) ?_
  refine jv_Wp.lift (fun _ Kz => jv_Ev.steps jv_i295 2 (pc' := 15) (l' := [(1, .int (vl_I f.z)), (0, .ref 196)]) (st' := [.ref 196, .ref 196, .int (vl_I rd)]) rfl Kz) ?_
  refine jv_Wp.lift (fun _ Kz => jv_Ev.m jv_i295 (pc' := 18) (st' := [.int (vl_I f.s), .ref 196, .int (vl_I rd)]) (G' := (jv_H K I L R)) rfl rfl (jv_m_getI (jv_rwK hW 196 12 24 (by decide)) rfl rfl D.2.2.1) Kz) ?_
  have Hr112 := vq_reads (I := I) (L := L) (K := K) (R := R) (n := n) (sl := sl) f.s hW (by omega)
  rw [hrs ()] at Hr112
  refine jv_Wp.lift (fun _ Kz => jv_Ev.c jv_i295 (pc' := 21) (S' := [.int (vl_I rs), .int (vl_I rd)]) jv_i283 [.ref 196, .int (vl_I f.s)] rfl rfl rfl rfl (jv_cal rfl (jv_H_at (jv_rwK hW 196 12 24 (by decide))) rfl rfl) rfl Hr112 rfl rfl Kz) ?_
  obtain ⟨w114, hq114⟩ : ∃ x : Nat, ∀ _ : Unit, vx_fst rd rs = x := ⟨_, fun _ => rfl⟩
  have fq114 : (rd = 0 → w114 = rs) ∧ (rs = 0 → w114 = rd) ∧ (w114 = rd ∨ w114 = rs) ∧ (rd ≠ 0 → rs ≠ 0 → w114 ≤ rd ∧ w114 ≤ rs) := by rw [← hq114 ()]; exact vx_fst_g rd rs
  have Hf114 := vq_first (I := I) (L := L) (K := K) (R := R) (n := n) (sl := sl) rd rs (by omega) (by omega)
  rw [hq114 ()] at Hf114
  refine jv_Wp.lift (fun _ Kz => jv_Ev.c jv_i295 (pc' := 24) (S' := [.int (vl_I w114)]) jv_i282 [.int (vl_I rd), .int (vl_I rs)] rfl rfl rfl rfl rfl rfl Hf114 rfl rfl Kz) ?_
  refine jv_Wp.lift (fun _ Kz => jv_Ev.steps jv_i295 3 (pc' := 27) (l' := [(2, .int (vl_I w114)), (1, .int (vl_I f.z)), (0, .ref 196)]) (st' := [.ref 196, .int (vl_I w114)]) rfl Kz) ?_
  refine jv_Wp.lift (fun _ Kz => jv_Ev.m jv_i295 (pc' := 30) (st' := [.int (Int32.ofInt f.i), .int (vl_I w114)]) (G' := (jv_H K I L R)) rfl rfl (jv_m_getI (jv_rwK hW 196 12 24 (by decide)) rfl rfl (vr_dJ D)) Kz) ?_
  refine jv_Wp.lift (fun _ Kz => jv_Ev.steps jv_i295 1 (pc' := 33) (l' := [(2, .int (vl_I w114)), (1, .int (vl_I f.z)), (0, .ref 196)]) (st' := [.int (241 : Int32), .int (Int32.ofInt f.i), .int (vl_I w114)]) rfl Kz) ?_
  refine jv_Wp.cnd jv_i295 (pt := 44) (pe := 36) (p := (¬ (Int32.ofInt f.i) = (241 : Int32))) (q := (¬ (Int32.ofInt f.i) = (241 : Int32))) rfl jv_bc_ne rfl rfl Iff.rfl (fun hz => absurd hz (fun z => z h241)) (fun _ => ?_)
  refine jv_Wp.lift (fun _ Kz => jv_Ev.steps jv_i295 2 (pc' := 38) (l' := [(2, .int (vl_I w114)), (1, .int (vl_I f.z)), (0, .ref 196)]) (st' := [.int (0 : Int32), .ref 196, .int (vl_I w114)]) rfl Kz) ?_
  have Hr115 := vq_reads (I := I) (L := L) (K := K) (R := R) (n := n) (sl := sl) 0 hW (by omega)
  rw [hr0 ()] at Hr115
  refine jv_Wp.lift (fun _ Kz => jv_Ev.c jv_i295 (pc' := 41) (S' := [.int (vl_I r0), .int (vl_I w114)]) jv_i283 [.ref 196, .int (0 : Int32)] rfl rfl rfl rfl (jv_cal rfl (jv_H_at (jv_rwK hW 196 12 24 (by decide))) rfl rfl) rfl Hr115 rfl rfl Kz) ?_
  refine jv_Wp.lift (fun _ Kz => jv_Ev.steps jv_i295 1 (pc' := 45) (l' := [(2, .int (vl_I w114)), (1, .int (vl_I f.z)), (0, .ref 196)]) (st' := [.int (vl_I r0), .int (vl_I w114)]) rfl Kz) ?_
  have Hf116 := vq_first (I := I) (L := L) (K := K) (R := R) (n := n) (sl := sl) w114 r0 (by omega) (by omega)
  rw [show vx_fst w114 r0 = 1 from by have q := vx_fst_g w114 r0; omega] at Hf116
  refine jv_Wp.lift (fun _ Kz => jv_Ev.c jv_i295 (pc' := 48) (S' := [.int (1 : Int32)]) jv_i282 [.int (vl_I w114), .int (vl_I r0)] rfl rfl rfl rfl rfl rfl Hf116 rfl rfl Kz) ?_
  refine jv_Wp.lift (fun _ Kz => jv_Ev.steps jv_i295 3 (pc' := 51) (l' := [(2, .int (1 : Int32)), (1, .int (vl_I f.z)), (0, .ref 196)]) (st' := [.ref 196, .ref 196]) rfl Kz) ?_
  refine jv_Wp.lift (fun _ Kz => jv_Ev.m jv_i295 (pc' := 54) (st' := [.int (vl_I f.d), .ref 196]) (G' := (jv_H K I L R)) rfl rfl (jv_m_getI (jv_rwK hW 196 12 24 (by decide)) rfl rfl D.2.1) Kz) ?_
  refine jv_Wp.lift (fun _ Kz => jv_Ev.c jv_i295 (pc' := 57) (S' := [.int (I 205 (76800 + f.d))]) jv_i271 [.ref 196, .int (vl_I f.d)] rfl rfl rfl rfl (jv_cal rfl (jv_H_at (jv_rwK hW 196 12 24 (by decide))) rfl rfl) rfl (vq_sortOf f.d hW (by omega)) rfl rfl Kz) ?_
  refine jv_Wp.lift (fun _ Kz => jv_Ev.steps jv_i295 3 (pc' := 60) (l' := [(3, .int (I 205 (76800 + f.d))), (2, .int (1 : Int32)), (1, .int (vl_I f.z)), (0, .ref 196)]) (st' := [.int (I 205 (76800 + f.d)), .int (1 : Int32)]) rfl Kz) ?_
  refine jv_Wp.cnd jv_i295 (pt := 69) (pe := 63) (p := ((I 205 (76800 + f.d)) = 0)) (q := ((I 205 (76800 + f.d)) = 0)) rfl jv_bi_eq rfl rfl Iff.rfl (fun h1 => ?_) (fun h1 => ?_)
  · refine jv_Wp.lift (fun _ Kz => jv_Ev.steps jv_i295 2 (pc' := 74) (l' := [(3, .int (I 205 (76800 + f.d))), (2, .int (1 : Int32)), (1, .int (vl_I f.z)), (0, .ref 196)]) (st' := [.int (0 : Int32), .int (1 : Int32)]) rfl Kz) ?_
    have Hf117 := vq_first (I := I) (L := L) (K := K) (R := R) (n := n) (sl := sl) 1 0 (by omega) (by omega)
    rw [show vx_fst 1 0 = 1 from by decide] at Hf117
    refine jv_Wp.lift (fun _ Kz => jv_Ev.c jv_i295 (pc' := 77) (S' := [.int (1 : Int32)]) jv_i282 [.int (1 : Int32), .int (0 : Int32)] rfl rfl rfl rfl rfl rfl Hf117 rfl rfl Kz) ?_
    refine jv_Wp.lift (fun _ Kz => jv_Ev.steps jv_i295 3 (pc' := 81) (l' := [(2, .int (1 : Int32)), (3, .int (I 205 (76800 + f.d))), (1, .int (vl_I f.z)), (0, .ref 196)]) (st' := [.int (7 : Int32), .int (I 205 (76800 + f.d))]) rfl Kz) ?_
    refine jv_Wp.cnd jv_i295 (pt := 175) (pe := 84) (p := (¬ (I 205 (76800 + f.d)) = (7 : Int32))) (q := (¬ (I 205 (76800 + f.d)) = (7 : Int32))) rfl jv_bc_ne rfl rfl Iff.rfl (fun _ => ?_) (fun hz => absurd (fun z => absurd (z.symm.trans h1) (by decide)) hz)
    refine jv_Wp.lift (fun _ Kz => jv_Ev.steps jv_i295 3 (pc' := 178) (l' := [(2, .int (1 : Int32)), (3, .int (I 205 (76800 + f.d))), (1, .int (vl_I f.z)), (0, .ref 196)]) (st' := [.ref 196, .ref 196, .int (1 : Int32)]) rfl Kz) ?_
    refine jv_Wp.lift (fun _ Kz => jv_Ev.m jv_i295 (pc' := 181) (st' := [.int (vl_I f.s), .ref 196, .int (1 : Int32)]) (G' := (jv_H K I L R)) rfl rfl (jv_m_getI (jv_rwK hW 196 12 24 (by decide)) rfl rfl D.2.2.1) Kz) ?_
    refine jv_Wp.lift (fun _ Kz => jv_Ev.c jv_i295 (pc' := 184) (S' := [.int (I 205 (76800 + f.s)), .int (1 : Int32)]) jv_i271 [.ref 196, .int (vl_I f.s)] rfl rfl rfl rfl (jv_cal rfl (jv_H_at (jv_rwK hW 196 12 24 (by decide))) rfl rfl) rfl (vq_sortOf f.s hW (by omega)) rfl rfl Kz) ?_
    refine jv_Wp.cnd jv_i295 (pt := 204) (pe := 187) (p := ((I 205 (76800 + f.s)) = 0)) (q := ((I 205 (76800 + f.s)) = 0)) rfl jv_bi_eq rfl rfl Iff.rfl (fun h2 => ?_) (fun h2 => ?_)
    · refine jv_Wp.lift (fun _ Kz => jv_Ev.steps jv_i295 1 (pc' := 205) (l' := [(2, .int (1 : Int32)), (3, .int (I 205 (76800 + f.d))), (1, .int (vl_I f.z)), (0, .ref 196)]) (st' := [.int (0 : Int32), .int (1 : Int32)]) rfl Kz) ?_
      have Hf118 := vq_first (I := I) (L := L) (K := K) (R := R) (n := n) (sl := sl) 1 0 (by omega) (by omega)
      rw [show vx_fst 1 0 = 1 from by decide] at Hf118
      refine jv_Wp.lift (fun _ Kz => jv_Ev.c jv_i295 (pc' := 208) (S' := [.int (1 : Int32)]) jv_i282 [.int (1 : Int32), .int (0 : Int32)] rfl rfl rfl rfl rfl rfl Hf118 rfl rfl Kz) ?_
      refine jv_Wp.lift (fun _ Kz => jv_Ev.steps jv_i295 3 (pc' := 211) (l' := [(2, .int (1 : Int32)), (3, .int (I 205 (76800 + f.d))), (1, .int (vl_I f.z)), (0, .ref 196)]) (st' := [.ref 196, .int (1 : Int32)]) rfl Kz) ?_
      refine jv_Wp.lift (fun _ Kz => jv_Ev.m jv_i295 (pc' := 214) (st' := [.int (Int32.ofInt f.i), .int (1 : Int32)]) (G' := (jv_H K I L R)) rfl rfl (jv_m_getI (jv_rwK hW 196 12 24 (by decide)) rfl rfl (vr_dJ D)) Kz) ?_
      refine jv_Wp.lift (fun _ Kz => jv_Ev.steps jv_i295 1 (pc' := 217) (l' := [(2, .int (1 : Int32)), (3, .int (I 205 (76800 + f.d))), (1, .int (vl_I f.z)), (0, .ref 196)]) (st' := [.int (241 : Int32), .int (Int32.ofInt f.i), .int (1 : Int32)]) rfl Kz) ?_
      refine jv_Wp.cnd jv_i295 (pt := 242) (pe := 220) (p := (¬ (Int32.ofInt f.i) = (241 : Int32))) (q := (¬ (Int32.ofInt f.i) = (241 : Int32))) rfl jv_bc_ne rfl rfl Iff.rfl (fun hz => absurd hz (fun z => z h241)) (fun _ => ?_)
      refine jv_Wp.lift (fun _ Kz => jv_Ev.steps jv_i295 2 (pc' := 222) (l' := [(2, .int (1 : Int32)), (3, .int (I 205 (76800 + f.d))), (1, .int (vl_I f.z)), (0, .ref 196)]) (st' := [.int (0 : Int32), .ref 196, .int (1 : Int32)]) rfl Kz) ?_
      refine jv_Wp.lift (fun _ Kz => jv_Ev.c jv_i295 (pc' := 225) (S' := [.int (I 205 (76800 + 0)), .int (1 : Int32)]) jv_i271 [.ref 196, .int (0 : Int32)] rfl rfl rfl rfl (jv_cal rfl (jv_H_at (jv_rwK hW 196 12 24 (by decide))) rfl rfl) rfl (vq_sortOf 0 hW (by omega)) rfl rfl Kz) ?_
      refine jv_Wp.cnd jv_i295 (pt := 242) (pe := 228) (p := ((I 205 (76800 + 0)) = 0)) (q := ((I 205 (76800 + 0)) = 0)) rfl jv_bi_eq rfl rfl Iff.rfl (fun h3 => ?_) (fun h3 => ?_)
      · refine jv_Wp.lift (fun _ Kz => jv_Ev.steps jv_i295 1 (pc' := 243) (l' := [(2, .int (1 : Int32)), (3, .int (I 205 (76800 + f.d))), (1, .int (vl_I f.z)), (0, .ref 196)]) (st' := [.int (0 : Int32), .int (1 : Int32)]) rfl Kz) ?_
        have Hf119 := vq_first (I := I) (L := L) (K := K) (R := R) (n := n) (sl := sl) 1 0 (by omega) (by omega)
        rw [show vx_fst 1 0 = 1 from by decide] at Hf119
        refine jv_Wp.lift (fun _ Kz => jv_Ev.c jv_i295 (pc' := 246) (S' := [.int (1 : Int32)]) jv_i282 [.int (1 : Int32), .int (0 : Int32)] rfl rfl rfl rfl rfl rfl Hf119 rfl rfl Kz) ?_
        refine jv_Wp.lift (fun _ Kz => jv_Ev.steps jv_i295 2 (pc' := 248) (l' := [(2, .int (1 : Int32)), (3, .int (I 205 (76800 + f.d))), (1, .int (vl_I f.z)), (0, .ref 196)]) (st' := [.int (1 : Int32)]) rfl Kz) ?_
        refine jv_Wp.lift (fun _ Kz => jv_Ev.br jv_i295 (pc' := 251) (st' := []) rfl (by rfl) Kz) ?_
        refine jv_Wp.lift (fun _ Kz => jv_Ev.steps jv_i295 1 (pc' := 252) (l' := [(2, .int (1 : Int32)), (3, .int (I 205 (76800 + f.d))), (1, .int (vl_I f.z)), (0, .ref 196)]) (st' := [.int (1 : Int32)]) rfl Kz) ?_
        refine jv_Wp.of (jv_Ev.ret jv_i295 rfl rfl) ?_
        rw [hQ]
        have td0 : zd = 0 := (hd ()).symm.trans ((vr_isN (L := L) okd hd11).mpr h1)
        have ts0 : zs = 0 := (hs ()).symm.trans ((vr_isN (L := L) oks hs11).mpr h2)
        have t00 : z0 = 0 := (h0 ()).symm.trans ((vr_isN (L := L) ok0 (by decide)).mpr h3)
        have e : vx_atp M f (vr_A I L 1024) = (1, (vr_A I L 1024)) := by
          exact vx_at1 (by rw [eD, eS, e0, hd (), hs (), h0 ()]; omega)
        exact ⟨_, _, by rw [← eQ, e]; rfl, fun z => by rw [← eQ, e] at z; exact absurd (show (1 : Nat) = 0 from z) (by omega), vr_fr_refl hf⟩
      · refine jv_Wp.lift (fun _ Kz => jv_Ev.steps jv_i295 2 (pc' := 230) (l' := [(2, .int (1 : Int32)), (3, .int (I 205 (76800 + f.d))), (1, .int (vl_I f.z)), (0, .ref 196)]) (st' := [.int (0 : Int32), .ref 196, .int (1 : Int32)]) rfl Kz) ?_
        refine jv_Wp.lift (fun _ Kz => jv_Ev.c jv_i295 (pc' := 233) (S' := [.int (I 205 (76800 + 0)), .int (1 : Int32)]) jv_i271 [.ref 196, .int (0 : Int32)] rfl rfl rfl rfl (jv_cal rfl (jv_H_at (jv_rwK hW 196 12 24 (by decide))) rfl rfl) rfl (vq_sortOf 0 hW (by omega)) rfl rfl Kz) ?_
        refine jv_Wp.lift (fun _ Kz => jv_Ev.steps jv_i295 1 (pc' := 234) (l' := [(2, .int (1 : Int32)), (3, .int (I 205 (76800 + f.d))), (1, .int (vl_I f.z)), (0, .ref 196)]) (st' := [.int (1 : Int32), .int (I 205 (76800 + 0)), .int (1 : Int32)]) rfl Kz) ?_
        refine jv_Wp.cnd jv_i295 (pt := 242) (pe := 237) (p := ((I 205 (76800 + 0)) = (1 : Int32))) (q := ((I 205 (76800 + 0)) = (1 : Int32))) rfl jv_bc_eq rfl rfl Iff.rfl (fun h4 => ?_) (fun h4 => ?_)
        · refine jv_Wp.lift (fun _ Kz => jv_Ev.steps jv_i295 1 (pc' := 243) (l' := [(2, .int (1 : Int32)), (3, .int (I 205 (76800 + f.d))), (1, .int (vl_I f.z)), (0, .ref 196)]) (st' := [.int (0 : Int32), .int (1 : Int32)]) rfl Kz) ?_
          have Hf120 := vq_first (I := I) (L := L) (K := K) (R := R) (n := n) (sl := sl) 1 0 (by omega) (by omega)
          rw [show vx_fst 1 0 = 1 from by decide] at Hf120
          refine jv_Wp.lift (fun _ Kz => jv_Ev.c jv_i295 (pc' := 246) (S' := [.int (1 : Int32)]) jv_i282 [.int (1 : Int32), .int (0 : Int32)] rfl rfl rfl rfl rfl rfl Hf120 rfl rfl Kz) ?_
          refine jv_Wp.lift (fun _ Kz => jv_Ev.steps jv_i295 2 (pc' := 248) (l' := [(2, .int (1 : Int32)), (3, .int (I 205 (76800 + f.d))), (1, .int (vl_I f.z)), (0, .ref 196)]) (st' := [.int (1 : Int32)]) rfl Kz) ?_
          refine jv_Wp.lift (fun _ Kz => jv_Ev.br jv_i295 (pc' := 251) (st' := []) rfl (by rfl) Kz) ?_
          refine jv_Wp.lift (fun _ Kz => jv_Ev.steps jv_i295 1 (pc' := 252) (l' := [(2, .int (1 : Int32)), (3, .int (I 205 (76800 + f.d))), (1, .int (vl_I f.z)), (0, .ref 196)]) (st' := [.int (1 : Int32)]) rfl Kz) ?_
          refine jv_Wp.of (jv_Ev.ret jv_i295 rfl rfl) ?_
          rw [hQ]
          have td0 : zd = 0 := (hd ()).symm.trans ((vr_isN (L := L) okd hd11).mpr h1)
          have ts0 : zs = 0 := (hs ()).symm.trans ((vr_isN (L := L) oks hs11).mpr h2)
          have t00 : ¬ z0 = 0 := fun z => h3 ((vr_isN (L := L) ok0 (by decide)).mp ((h0 ()).trans z))
          have t01 : z0 = 1 := (h0 ()).symm.trans ((vr_is (L := L) 1 (by decide) ok0).mpr h4)
          have e : vx_atp M f (vr_A I L 1024) = (1, (vr_A I L 1024)) := by
            exact vx_at1 (by rw [eD, eS, e0, hd (), hs (), h0 ()]; omega)
          exact ⟨_, _, by rw [← eQ, e]; rfl, fun z => by rw [← eQ, e] at z; exact absurd (show (1 : Nat) = 0 from z) (by omega), vr_fr_refl hf⟩
        · refine jv_Wp.lift (fun _ Kz => jv_Ev.steps jv_i295 2 (pc' := 243) (l' := [(2, .int (1 : Int32)), (3, .int (I 205 (76800 + f.d))), (1, .int (vl_I f.z)), (0, .ref 196)]) (st' := [.int (6 : Int32), .int (1 : Int32)]) rfl Kz) ?_
          have Hf121 := vq_first (I := I) (L := L) (K := K) (R := R) (n := n) (sl := sl) 1 6 (by omega) (by omega)
          rw [show vx_fst 1 6 = 1 from by decide] at Hf121
          refine jv_Wp.lift (fun _ Kz => jv_Ev.c jv_i295 (pc' := 246) (S' := [.int (1 : Int32)]) jv_i282 [.int (1 : Int32), .int (6 : Int32)] rfl rfl rfl rfl rfl rfl Hf121 rfl rfl Kz) ?_
          refine jv_Wp.lift (fun _ Kz => jv_Ev.steps jv_i295 2 (pc' := 248) (l' := [(2, .int (1 : Int32)), (3, .int (I 205 (76800 + f.d))), (1, .int (vl_I f.z)), (0, .ref 196)]) (st' := [.int (1 : Int32)]) rfl Kz) ?_
          refine jv_Wp.lift (fun _ Kz => jv_Ev.br jv_i295 (pc' := 251) (st' := []) rfl (by rfl) Kz) ?_
          refine jv_Wp.lift (fun _ Kz => jv_Ev.steps jv_i295 1 (pc' := 252) (l' := [(2, .int (1 : Int32)), (3, .int (I 205 (76800 + f.d))), (1, .int (vl_I f.z)), (0, .ref 196)]) (st' := [.int (1 : Int32)]) rfl Kz) ?_
          refine jv_Wp.of (jv_Ev.ret jv_i295 rfl rfl) ?_
          rw [hQ]
          have td0 : zd = 0 := (hd ()).symm.trans ((vr_isN (L := L) okd hd11).mpr h1)
          have ts0 : zs = 0 := (hs ()).symm.trans ((vr_isN (L := L) oks hs11).mpr h2)
          have t00 : ¬ z0 = 0 := fun z => h3 ((vr_isN (L := L) ok0 (by decide)).mp ((h0 ()).trans z))
          have t01 : ¬ z0 = 1 := fun z => h4 ((vr_is (L := L) 1 (by decide) ok0).mp ((h0 ()).trans z))
          have e : vx_atp M f (vr_A I L 1024) = (1, (vr_A I L 1024)) := by
            exact vx_at1 (by rw [eD, eS, e0, hd (), hs (), h0 ()]; omega)
          exact ⟨_, _, by rw [← eQ, e]; rfl, fun z => by rw [← eQ, e] at z; exact absurd (show (1 : Nat) = 0 from z) (by omega), vr_fr_refl hf⟩
    · refine jv_Wp.lift (fun _ Kz => jv_Ev.steps jv_i295 2 (pc' := 189) (l' := [(2, .int (1 : Int32)), (3, .int (I 205 (76800 + f.d))), (1, .int (vl_I f.z)), (0, .ref 196)]) (st' := [.ref 196, .ref 196, .int (1 : Int32)]) rfl Kz) ?_
      refine jv_Wp.lift (fun _ Kz => jv_Ev.m jv_i295 (pc' := 192) (st' := [.int (vl_I f.s), .ref 196, .int (1 : Int32)]) (G' := (jv_H K I L R)) rfl rfl (jv_m_getI (jv_rwK hW 196 12 24 (by decide)) rfl rfl D.2.2.1) Kz) ?_
      refine jv_Wp.lift (fun _ Kz => jv_Ev.c jv_i295 (pc' := 195) (S' := [.int (I 205 (76800 + f.s)), .int (1 : Int32)]) jv_i271 [.ref 196, .int (vl_I f.s)] rfl rfl rfl rfl (jv_cal rfl (jv_H_at (jv_rwK hW 196 12 24 (by decide))) rfl rfl) rfl (vq_sortOf f.s hW (by omega)) rfl rfl Kz) ?_
      refine jv_Wp.lift (fun _ Kz => jv_Ev.steps jv_i295 1 (pc' := 196) (l' := [(2, .int (1 : Int32)), (3, .int (I 205 (76800 + f.d))), (1, .int (vl_I f.z)), (0, .ref 196)]) (st' := [.int (1 : Int32), .int (I 205 (76800 + f.s)), .int (1 : Int32)]) rfl Kz) ?_
      refine jv_Wp.cnd jv_i295 (pt := 204) (pe := 199) (p := ((I 205 (76800 + f.s)) = (1 : Int32))) (q := ((I 205 (76800 + f.s)) = (1 : Int32))) rfl jv_bc_eq rfl rfl Iff.rfl (fun h5 => ?_) (fun h5 => ?_)
      · refine jv_Wp.lift (fun _ Kz => jv_Ev.steps jv_i295 1 (pc' := 205) (l' := [(2, .int (1 : Int32)), (3, .int (I 205 (76800 + f.d))), (1, .int (vl_I f.z)), (0, .ref 196)]) (st' := [.int (0 : Int32), .int (1 : Int32)]) rfl Kz) ?_
        have Hf122 := vq_first (I := I) (L := L) (K := K) (R := R) (n := n) (sl := sl) 1 0 (by omega) (by omega)
        rw [show vx_fst 1 0 = 1 from by decide] at Hf122
        refine jv_Wp.lift (fun _ Kz => jv_Ev.c jv_i295 (pc' := 208) (S' := [.int (1 : Int32)]) jv_i282 [.int (1 : Int32), .int (0 : Int32)] rfl rfl rfl rfl rfl rfl Hf122 rfl rfl Kz) ?_
        refine jv_Wp.lift (fun _ Kz => jv_Ev.steps jv_i295 3 (pc' := 211) (l' := [(2, .int (1 : Int32)), (3, .int (I 205 (76800 + f.d))), (1, .int (vl_I f.z)), (0, .ref 196)]) (st' := [.ref 196, .int (1 : Int32)]) rfl Kz) ?_
        refine jv_Wp.lift (fun _ Kz => jv_Ev.m jv_i295 (pc' := 214) (st' := [.int (Int32.ofInt f.i), .int (1 : Int32)]) (G' := (jv_H K I L R)) rfl rfl (jv_m_getI (jv_rwK hW 196 12 24 (by decide)) rfl rfl (vr_dJ D)) Kz) ?_
        refine jv_Wp.lift (fun _ Kz => jv_Ev.steps jv_i295 1 (pc' := 217) (l' := [(2, .int (1 : Int32)), (3, .int (I 205 (76800 + f.d))), (1, .int (vl_I f.z)), (0, .ref 196)]) (st' := [.int (241 : Int32), .int (Int32.ofInt f.i), .int (1 : Int32)]) rfl Kz) ?_
        refine jv_Wp.cnd jv_i295 (pt := 242) (pe := 220) (p := (¬ (Int32.ofInt f.i) = (241 : Int32))) (q := (¬ (Int32.ofInt f.i) = (241 : Int32))) rfl jv_bc_ne rfl rfl Iff.rfl (fun hz => absurd hz (fun z => z h241)) (fun _ => ?_)
        refine jv_Wp.lift (fun _ Kz => jv_Ev.steps jv_i295 2 (pc' := 222) (l' := [(2, .int (1 : Int32)), (3, .int (I 205 (76800 + f.d))), (1, .int (vl_I f.z)), (0, .ref 196)]) (st' := [.int (0 : Int32), .ref 196, .int (1 : Int32)]) rfl Kz) ?_
        refine jv_Wp.lift (fun _ Kz => jv_Ev.c jv_i295 (pc' := 225) (S' := [.int (I 205 (76800 + 0)), .int (1 : Int32)]) jv_i271 [.ref 196, .int (0 : Int32)] rfl rfl rfl rfl (jv_cal rfl (jv_H_at (jv_rwK hW 196 12 24 (by decide))) rfl rfl) rfl (vq_sortOf 0 hW (by omega)) rfl rfl Kz) ?_
        refine jv_Wp.cnd jv_i295 (pt := 242) (pe := 228) (p := ((I 205 (76800 + 0)) = 0)) (q := ((I 205 (76800 + 0)) = 0)) rfl jv_bi_eq rfl rfl Iff.rfl (fun h6 => ?_) (fun h6 => ?_)
        · refine jv_Wp.lift (fun _ Kz => jv_Ev.steps jv_i295 1 (pc' := 243) (l' := [(2, .int (1 : Int32)), (3, .int (I 205 (76800 + f.d))), (1, .int (vl_I f.z)), (0, .ref 196)]) (st' := [.int (0 : Int32), .int (1 : Int32)]) rfl Kz) ?_
          have Hf123 := vq_first (I := I) (L := L) (K := K) (R := R) (n := n) (sl := sl) 1 0 (by omega) (by omega)
          rw [show vx_fst 1 0 = 1 from by decide] at Hf123
          refine jv_Wp.lift (fun _ Kz => jv_Ev.c jv_i295 (pc' := 246) (S' := [.int (1 : Int32)]) jv_i282 [.int (1 : Int32), .int (0 : Int32)] rfl rfl rfl rfl rfl rfl Hf123 rfl rfl Kz) ?_
          refine jv_Wp.lift (fun _ Kz => jv_Ev.steps jv_i295 2 (pc' := 248) (l' := [(2, .int (1 : Int32)), (3, .int (I 205 (76800 + f.d))), (1, .int (vl_I f.z)), (0, .ref 196)]) (st' := [.int (1 : Int32)]) rfl Kz) ?_
          refine jv_Wp.lift (fun _ Kz => jv_Ev.br jv_i295 (pc' := 251) (st' := []) rfl (by rfl) Kz) ?_
          refine jv_Wp.lift (fun _ Kz => jv_Ev.steps jv_i295 1 (pc' := 252) (l' := [(2, .int (1 : Int32)), (3, .int (I 205 (76800 + f.d))), (1, .int (vl_I f.z)), (0, .ref 196)]) (st' := [.int (1 : Int32)]) rfl Kz) ?_
          refine jv_Wp.of (jv_Ev.ret jv_i295 rfl rfl) ?_
          rw [hQ]
          have td0 : zd = 0 := (hd ()).symm.trans ((vr_isN (L := L) okd hd11).mpr h1)
          have ts0 : ¬ zs = 0 := fun z => h2 ((vr_isN (L := L) oks hs11).mp ((hs ()).trans z))
          have ts1 : zs = 1 := (hs ()).symm.trans ((vr_is (L := L) 1 (by decide) oks).mpr h5)
          have t00 : z0 = 0 := (h0 ()).symm.trans ((vr_isN (L := L) ok0 (by decide)).mpr h6)
          have e : vx_atp M f (vr_A I L 1024) = (1, (vr_A I L 1024)) := by
            exact vx_at1 (by rw [eD, eS, e0, hd (), hs (), h0 ()]; omega)
          exact ⟨_, _, by rw [← eQ, e]; rfl, fun z => by rw [← eQ, e] at z; exact absurd (show (1 : Nat) = 0 from z) (by omega), vr_fr_refl hf⟩
        · refine jv_Wp.lift (fun _ Kz => jv_Ev.steps jv_i295 2 (pc' := 230) (l' := [(2, .int (1 : Int32)), (3, .int (I 205 (76800 + f.d))), (1, .int (vl_I f.z)), (0, .ref 196)]) (st' := [.int (0 : Int32), .ref 196, .int (1 : Int32)]) rfl Kz) ?_
          refine jv_Wp.lift (fun _ Kz => jv_Ev.c jv_i295 (pc' := 233) (S' := [.int (I 205 (76800 + 0)), .int (1 : Int32)]) jv_i271 [.ref 196, .int (0 : Int32)] rfl rfl rfl rfl (jv_cal rfl (jv_H_at (jv_rwK hW 196 12 24 (by decide))) rfl rfl) rfl (vq_sortOf 0 hW (by omega)) rfl rfl Kz) ?_
          refine jv_Wp.lift (fun _ Kz => jv_Ev.steps jv_i295 1 (pc' := 234) (l' := [(2, .int (1 : Int32)), (3, .int (I 205 (76800 + f.d))), (1, .int (vl_I f.z)), (0, .ref 196)]) (st' := [.int (1 : Int32), .int (I 205 (76800 + 0)), .int (1 : Int32)]) rfl Kz) ?_
          refine jv_Wp.cnd jv_i295 (pt := 242) (pe := 237) (p := ((I 205 (76800 + 0)) = (1 : Int32))) (q := ((I 205 (76800 + 0)) = (1 : Int32))) rfl jv_bc_eq rfl rfl Iff.rfl (fun h7 => ?_) (fun h7 => ?_)
          · refine jv_Wp.lift (fun _ Kz => jv_Ev.steps jv_i295 1 (pc' := 243) (l' := [(2, .int (1 : Int32)), (3, .int (I 205 (76800 + f.d))), (1, .int (vl_I f.z)), (0, .ref 196)]) (st' := [.int (0 : Int32), .int (1 : Int32)]) rfl Kz) ?_
            have Hf124 := vq_first (I := I) (L := L) (K := K) (R := R) (n := n) (sl := sl) 1 0 (by omega) (by omega)
            rw [show vx_fst 1 0 = 1 from by decide] at Hf124
            refine jv_Wp.lift (fun _ Kz => jv_Ev.c jv_i295 (pc' := 246) (S' := [.int (1 : Int32)]) jv_i282 [.int (1 : Int32), .int (0 : Int32)] rfl rfl rfl rfl rfl rfl Hf124 rfl rfl Kz) ?_
            refine jv_Wp.lift (fun _ Kz => jv_Ev.steps jv_i295 2 (pc' := 248) (l' := [(2, .int (1 : Int32)), (3, .int (I 205 (76800 + f.d))), (1, .int (vl_I f.z)), (0, .ref 196)]) (st' := [.int (1 : Int32)]) rfl Kz) ?_
            refine jv_Wp.lift (fun _ Kz => jv_Ev.br jv_i295 (pc' := 251) (st' := []) rfl (by rfl) Kz) ?_
            refine jv_Wp.lift (fun _ Kz => jv_Ev.steps jv_i295 1 (pc' := 252) (l' := [(2, .int (1 : Int32)), (3, .int (I 205 (76800 + f.d))), (1, .int (vl_I f.z)), (0, .ref 196)]) (st' := [.int (1 : Int32)]) rfl Kz) ?_
            refine jv_Wp.of (jv_Ev.ret jv_i295 rfl rfl) ?_
            rw [hQ]
            have td0 : zd = 0 := (hd ()).symm.trans ((vr_isN (L := L) okd hd11).mpr h1)
            have ts0 : ¬ zs = 0 := fun z => h2 ((vr_isN (L := L) oks hs11).mp ((hs ()).trans z))
            have ts1 : zs = 1 := (hs ()).symm.trans ((vr_is (L := L) 1 (by decide) oks).mpr h5)
            have t00 : ¬ z0 = 0 := fun z => h6 ((vr_isN (L := L) ok0 (by decide)).mp ((h0 ()).trans z))
            have t01 : z0 = 1 := (h0 ()).symm.trans ((vr_is (L := L) 1 (by decide) ok0).mpr h7)
            have e : vx_atp M f (vr_A I L 1024) = (1, (vr_A I L 1024)) := by
              exact vx_at1 (by rw [eD, eS, e0, hd (), hs (), h0 ()]; omega)
            exact ⟨_, _, by rw [← eQ, e]; rfl, fun z => by rw [← eQ, e] at z; exact absurd (show (1 : Nat) = 0 from z) (by omega), vr_fr_refl hf⟩
          · refine jv_Wp.lift (fun _ Kz => jv_Ev.steps jv_i295 2 (pc' := 243) (l' := [(2, .int (1 : Int32)), (3, .int (I 205 (76800 + f.d))), (1, .int (vl_I f.z)), (0, .ref 196)]) (st' := [.int (6 : Int32), .int (1 : Int32)]) rfl Kz) ?_
            have Hf125 := vq_first (I := I) (L := L) (K := K) (R := R) (n := n) (sl := sl) 1 6 (by omega) (by omega)
            rw [show vx_fst 1 6 = 1 from by decide] at Hf125
            refine jv_Wp.lift (fun _ Kz => jv_Ev.c jv_i295 (pc' := 246) (S' := [.int (1 : Int32)]) jv_i282 [.int (1 : Int32), .int (6 : Int32)] rfl rfl rfl rfl rfl rfl Hf125 rfl rfl Kz) ?_
            refine jv_Wp.lift (fun _ Kz => jv_Ev.steps jv_i295 2 (pc' := 248) (l' := [(2, .int (1 : Int32)), (3, .int (I 205 (76800 + f.d))), (1, .int (vl_I f.z)), (0, .ref 196)]) (st' := [.int (1 : Int32)]) rfl Kz) ?_
            refine jv_Wp.lift (fun _ Kz => jv_Ev.br jv_i295 (pc' := 251) (st' := []) rfl (by rfl) Kz) ?_
            refine jv_Wp.lift (fun _ Kz => jv_Ev.steps jv_i295 1 (pc' := 252) (l' := [(2, .int (1 : Int32)), (3, .int (I 205 (76800 + f.d))), (1, .int (vl_I f.z)), (0, .ref 196)]) (st' := [.int (1 : Int32)]) rfl Kz) ?_
            refine jv_Wp.of (jv_Ev.ret jv_i295 rfl rfl) ?_
            rw [hQ]
            have td0 : zd = 0 := (hd ()).symm.trans ((vr_isN (L := L) okd hd11).mpr h1)
            have ts0 : ¬ zs = 0 := fun z => h2 ((vr_isN (L := L) oks hs11).mp ((hs ()).trans z))
            have ts1 : zs = 1 := (hs ()).symm.trans ((vr_is (L := L) 1 (by decide) oks).mpr h5)
            have t00 : ¬ z0 = 0 := fun z => h6 ((vr_isN (L := L) ok0 (by decide)).mp ((h0 ()).trans z))
            have t01 : ¬ z0 = 1 := fun z => h7 ((vr_is (L := L) 1 (by decide) ok0).mp ((h0 ()).trans z))
            have e : vx_atp M f (vr_A I L 1024) = (1, (vr_A I L 1024)) := by
              exact vx_at1 (by rw [eD, eS, e0, hd (), hs (), h0 ()]; omega)
            exact ⟨_, _, by rw [← eQ, e]; rfl, fun z => by rw [← eQ, e] at z; exact absurd (show (1 : Nat) = 0 from z) (by omega), vr_fr_refl hf⟩
      · refine jv_Wp.lift (fun _ Kz => jv_Ev.steps jv_i295 2 (pc' := 205) (l' := [(2, .int (1 : Int32)), (3, .int (I 205 (76800 + f.d))), (1, .int (vl_I f.z)), (0, .ref 196)]) (st' := [.int (6 : Int32), .int (1 : Int32)]) rfl Kz) ?_
        have Hf126 := vq_first (I := I) (L := L) (K := K) (R := R) (n := n) (sl := sl) 1 6 (by omega) (by omega)
        rw [show vx_fst 1 6 = 1 from by decide] at Hf126
        refine jv_Wp.lift (fun _ Kz => jv_Ev.c jv_i295 (pc' := 208) (S' := [.int (1 : Int32)]) jv_i282 [.int (1 : Int32), .int (6 : Int32)] rfl rfl rfl rfl rfl rfl Hf126 rfl rfl Kz) ?_
        refine jv_Wp.lift (fun _ Kz => jv_Ev.steps jv_i295 3 (pc' := 211) (l' := [(2, .int (1 : Int32)), (3, .int (I 205 (76800 + f.d))), (1, .int (vl_I f.z)), (0, .ref 196)]) (st' := [.ref 196, .int (1 : Int32)]) rfl Kz) ?_
        refine jv_Wp.lift (fun _ Kz => jv_Ev.m jv_i295 (pc' := 214) (st' := [.int (Int32.ofInt f.i), .int (1 : Int32)]) (G' := (jv_H K I L R)) rfl rfl (jv_m_getI (jv_rwK hW 196 12 24 (by decide)) rfl rfl (vr_dJ D)) Kz) ?_
        refine jv_Wp.lift (fun _ Kz => jv_Ev.steps jv_i295 1 (pc' := 217) (l' := [(2, .int (1 : Int32)), (3, .int (I 205 (76800 + f.d))), (1, .int (vl_I f.z)), (0, .ref 196)]) (st' := [.int (241 : Int32), .int (Int32.ofInt f.i), .int (1 : Int32)]) rfl Kz) ?_
        refine jv_Wp.cnd jv_i295 (pt := 242) (pe := 220) (p := (¬ (Int32.ofInt f.i) = (241 : Int32))) (q := (¬ (Int32.ofInt f.i) = (241 : Int32))) rfl jv_bc_ne rfl rfl Iff.rfl (fun hz => absurd hz (fun z => z h241)) (fun _ => ?_)
        refine jv_Wp.lift (fun _ Kz => jv_Ev.steps jv_i295 2 (pc' := 222) (l' := [(2, .int (1 : Int32)), (3, .int (I 205 (76800 + f.d))), (1, .int (vl_I f.z)), (0, .ref 196)]) (st' := [.int (0 : Int32), .ref 196, .int (1 : Int32)]) rfl Kz) ?_
        refine jv_Wp.lift (fun _ Kz => jv_Ev.c jv_i295 (pc' := 225) (S' := [.int (I 205 (76800 + 0)), .int (1 : Int32)]) jv_i271 [.ref 196, .int (0 : Int32)] rfl rfl rfl rfl (jv_cal rfl (jv_H_at (jv_rwK hW 196 12 24 (by decide))) rfl rfl) rfl (vq_sortOf 0 hW (by omega)) rfl rfl Kz) ?_
        refine jv_Wp.cnd jv_i295 (pt := 242) (pe := 228) (p := ((I 205 (76800 + 0)) = 0)) (q := ((I 205 (76800 + 0)) = 0)) rfl jv_bi_eq rfl rfl Iff.rfl (fun h8 => ?_) (fun h8 => ?_)
        · refine jv_Wp.lift (fun _ Kz => jv_Ev.steps jv_i295 1 (pc' := 243) (l' := [(2, .int (1 : Int32)), (3, .int (I 205 (76800 + f.d))), (1, .int (vl_I f.z)), (0, .ref 196)]) (st' := [.int (0 : Int32), .int (1 : Int32)]) rfl Kz) ?_
          have Hf127 := vq_first (I := I) (L := L) (K := K) (R := R) (n := n) (sl := sl) 1 0 (by omega) (by omega)
          rw [show vx_fst 1 0 = 1 from by decide] at Hf127
          refine jv_Wp.lift (fun _ Kz => jv_Ev.c jv_i295 (pc' := 246) (S' := [.int (1 : Int32)]) jv_i282 [.int (1 : Int32), .int (0 : Int32)] rfl rfl rfl rfl rfl rfl Hf127 rfl rfl Kz) ?_
          refine jv_Wp.lift (fun _ Kz => jv_Ev.steps jv_i295 2 (pc' := 248) (l' := [(2, .int (1 : Int32)), (3, .int (I 205 (76800 + f.d))), (1, .int (vl_I f.z)), (0, .ref 196)]) (st' := [.int (1 : Int32)]) rfl Kz) ?_
          refine jv_Wp.lift (fun _ Kz => jv_Ev.br jv_i295 (pc' := 251) (st' := []) rfl (by rfl) Kz) ?_
          refine jv_Wp.lift (fun _ Kz => jv_Ev.steps jv_i295 1 (pc' := 252) (l' := [(2, .int (1 : Int32)), (3, .int (I 205 (76800 + f.d))), (1, .int (vl_I f.z)), (0, .ref 196)]) (st' := [.int (1 : Int32)]) rfl Kz) ?_
          refine jv_Wp.of (jv_Ev.ret jv_i295 rfl rfl) ?_
          rw [hQ]
          have td0 : zd = 0 := (hd ()).symm.trans ((vr_isN (L := L) okd hd11).mpr h1)
          have ts0 : ¬ zs = 0 := fun z => h2 ((vr_isN (L := L) oks hs11).mp ((hs ()).trans z))
          have ts1 : ¬ zs = 1 := fun z => h5 ((vr_is (L := L) 1 (by decide) oks).mp ((hs ()).trans z))
          have t00 : z0 = 0 := (h0 ()).symm.trans ((vr_isN (L := L) ok0 (by decide)).mpr h8)
          have e : vx_atp M f (vr_A I L 1024) = (1, (vr_A I L 1024)) := by
            exact vx_at1 (by rw [eD, eS, e0, hd (), hs (), h0 ()]; omega)
          exact ⟨_, _, by rw [← eQ, e]; rfl, fun z => by rw [← eQ, e] at z; exact absurd (show (1 : Nat) = 0 from z) (by omega), vr_fr_refl hf⟩
        · refine jv_Wp.lift (fun _ Kz => jv_Ev.steps jv_i295 2 (pc' := 230) (l' := [(2, .int (1 : Int32)), (3, .int (I 205 (76800 + f.d))), (1, .int (vl_I f.z)), (0, .ref 196)]) (st' := [.int (0 : Int32), .ref 196, .int (1 : Int32)]) rfl Kz) ?_
          refine jv_Wp.lift (fun _ Kz => jv_Ev.c jv_i295 (pc' := 233) (S' := [.int (I 205 (76800 + 0)), .int (1 : Int32)]) jv_i271 [.ref 196, .int (0 : Int32)] rfl rfl rfl rfl (jv_cal rfl (jv_H_at (jv_rwK hW 196 12 24 (by decide))) rfl rfl) rfl (vq_sortOf 0 hW (by omega)) rfl rfl Kz) ?_
          refine jv_Wp.lift (fun _ Kz => jv_Ev.steps jv_i295 1 (pc' := 234) (l' := [(2, .int (1 : Int32)), (3, .int (I 205 (76800 + f.d))), (1, .int (vl_I f.z)), (0, .ref 196)]) (st' := [.int (1 : Int32), .int (I 205 (76800 + 0)), .int (1 : Int32)]) rfl Kz) ?_
          refine jv_Wp.cnd jv_i295 (pt := 242) (pe := 237) (p := ((I 205 (76800 + 0)) = (1 : Int32))) (q := ((I 205 (76800 + 0)) = (1 : Int32))) rfl jv_bc_eq rfl rfl Iff.rfl (fun h9 => ?_) (fun h9 => ?_)
          · refine jv_Wp.lift (fun _ Kz => jv_Ev.steps jv_i295 1 (pc' := 243) (l' := [(2, .int (1 : Int32)), (3, .int (I 205 (76800 + f.d))), (1, .int (vl_I f.z)), (0, .ref 196)]) (st' := [.int (0 : Int32), .int (1 : Int32)]) rfl Kz) ?_
            have Hf128 := vq_first (I := I) (L := L) (K := K) (R := R) (n := n) (sl := sl) 1 0 (by omega) (by omega)
            rw [show vx_fst 1 0 = 1 from by decide] at Hf128
            refine jv_Wp.lift (fun _ Kz => jv_Ev.c jv_i295 (pc' := 246) (S' := [.int (1 : Int32)]) jv_i282 [.int (1 : Int32), .int (0 : Int32)] rfl rfl rfl rfl rfl rfl Hf128 rfl rfl Kz) ?_
            refine jv_Wp.lift (fun _ Kz => jv_Ev.steps jv_i295 2 (pc' := 248) (l' := [(2, .int (1 : Int32)), (3, .int (I 205 (76800 + f.d))), (1, .int (vl_I f.z)), (0, .ref 196)]) (st' := [.int (1 : Int32)]) rfl Kz) ?_
            refine jv_Wp.lift (fun _ Kz => jv_Ev.br jv_i295 (pc' := 251) (st' := []) rfl (by rfl) Kz) ?_
            refine jv_Wp.lift (fun _ Kz => jv_Ev.steps jv_i295 1 (pc' := 252) (l' := [(2, .int (1 : Int32)), (3, .int (I 205 (76800 + f.d))), (1, .int (vl_I f.z)), (0, .ref 196)]) (st' := [.int (1 : Int32)]) rfl Kz) ?_
            refine jv_Wp.of (jv_Ev.ret jv_i295 rfl rfl) ?_
            rw [hQ]
            have td0 : zd = 0 := (hd ()).symm.trans ((vr_isN (L := L) okd hd11).mpr h1)
            have ts0 : ¬ zs = 0 := fun z => h2 ((vr_isN (L := L) oks hs11).mp ((hs ()).trans z))
            have ts1 : ¬ zs = 1 := fun z => h5 ((vr_is (L := L) 1 (by decide) oks).mp ((hs ()).trans z))
            have t00 : ¬ z0 = 0 := fun z => h8 ((vr_isN (L := L) ok0 (by decide)).mp ((h0 ()).trans z))
            have t01 : z0 = 1 := (h0 ()).symm.trans ((vr_is (L := L) 1 (by decide) ok0).mpr h9)
            have e : vx_atp M f (vr_A I L 1024) = (1, (vr_A I L 1024)) := by
              exact vx_at1 (by rw [eD, eS, e0, hd (), hs (), h0 ()]; omega)
            exact ⟨_, _, by rw [← eQ, e]; rfl, fun z => by rw [← eQ, e] at z; exact absurd (show (1 : Nat) = 0 from z) (by omega), vr_fr_refl hf⟩
          · refine jv_Wp.lift (fun _ Kz => jv_Ev.steps jv_i295 2 (pc' := 243) (l' := [(2, .int (1 : Int32)), (3, .int (I 205 (76800 + f.d))), (1, .int (vl_I f.z)), (0, .ref 196)]) (st' := [.int (6 : Int32), .int (1 : Int32)]) rfl Kz) ?_
            have Hf129 := vq_first (I := I) (L := L) (K := K) (R := R) (n := n) (sl := sl) 1 6 (by omega) (by omega)
            rw [show vx_fst 1 6 = 1 from by decide] at Hf129
            refine jv_Wp.lift (fun _ Kz => jv_Ev.c jv_i295 (pc' := 246) (S' := [.int (1 : Int32)]) jv_i282 [.int (1 : Int32), .int (6 : Int32)] rfl rfl rfl rfl rfl rfl Hf129 rfl rfl Kz) ?_
            refine jv_Wp.lift (fun _ Kz => jv_Ev.steps jv_i295 2 (pc' := 248) (l' := [(2, .int (1 : Int32)), (3, .int (I 205 (76800 + f.d))), (1, .int (vl_I f.z)), (0, .ref 196)]) (st' := [.int (1 : Int32)]) rfl Kz) ?_
            refine jv_Wp.lift (fun _ Kz => jv_Ev.br jv_i295 (pc' := 251) (st' := []) rfl (by rfl) Kz) ?_
            refine jv_Wp.lift (fun _ Kz => jv_Ev.steps jv_i295 1 (pc' := 252) (l' := [(2, .int (1 : Int32)), (3, .int (I 205 (76800 + f.d))), (1, .int (vl_I f.z)), (0, .ref 196)]) (st' := [.int (1 : Int32)]) rfl Kz) ?_
            refine jv_Wp.of (jv_Ev.ret jv_i295 rfl rfl) ?_
            rw [hQ]
            have td0 : zd = 0 := (hd ()).symm.trans ((vr_isN (L := L) okd hd11).mpr h1)
            have ts0 : ¬ zs = 0 := fun z => h2 ((vr_isN (L := L) oks hs11).mp ((hs ()).trans z))
            have ts1 : ¬ zs = 1 := fun z => h5 ((vr_is (L := L) 1 (by decide) oks).mp ((hs ()).trans z))
            have t00 : ¬ z0 = 0 := fun z => h8 ((vr_isN (L := L) ok0 (by decide)).mp ((h0 ()).trans z))
            have t01 : ¬ z0 = 1 := fun z => h9 ((vr_is (L := L) 1 (by decide) ok0).mp ((h0 ()).trans z))
            have e : vx_atp M f (vr_A I L 1024) = (1, (vr_A I L 1024)) := by
              exact vx_at1 (by rw [eD, eS, e0, hd (), hs (), h0 ()]; omega)
            exact ⟨_, _, by rw [← eQ, e]; rfl, fun z => by rw [← eQ, e] at z; exact absurd (show (1 : Nat) = 0 from z) (by omega), vr_fr_refl hf⟩
  · refine jv_Wp.lift (fun _ Kz => jv_Ev.steps jv_i295 2 (pc' := 66) (l' := [(3, .int (I 205 (76800 + f.d))), (2, .int (1 : Int32)), (1, .int (vl_I f.z)), (0, .ref 196)]) (st' := [.int (7 : Int32), .int (I 205 (76800 + f.d)), .int (1 : Int32)]) rfl Kz) ?_
    refine jv_Wp.cnd jv_i295 (pt := 73) (pe := 69) (p := (¬ (I 205 (76800 + f.d)) = (7 : Int32))) (q := (¬ (I 205 (76800 + f.d)) = (7 : Int32))) rfl jv_bc_ne rfl rfl Iff.rfl (fun h10 => ?_) (fun h10 => ?_)
    · refine jv_Wp.lift (fun _ Kz => jv_Ev.steps jv_i295 1 (pc' := 74) (l' := [(3, .int (I 205 (76800 + f.d))), (2, .int (1 : Int32)), (1, .int (vl_I f.z)), (0, .ref 196)]) (st' := [.int (3 : Int32), .int (1 : Int32)]) rfl Kz) ?_
      have Hf130 := vq_first (I := I) (L := L) (K := K) (R := R) (n := n) (sl := sl) 1 3 (by omega) (by omega)
      rw [show vx_fst 1 3 = 1 from by decide] at Hf130
      refine jv_Wp.lift (fun _ Kz => jv_Ev.c jv_i295 (pc' := 77) (S' := [.int (1 : Int32)]) jv_i282 [.int (1 : Int32), .int (3 : Int32)] rfl rfl rfl rfl rfl rfl Hf130 rfl rfl Kz) ?_
      refine jv_Wp.lift (fun _ Kz => jv_Ev.steps jv_i295 3 (pc' := 81) (l' := [(2, .int (1 : Int32)), (3, .int (I 205 (76800 + f.d))), (1, .int (vl_I f.z)), (0, .ref 196)]) (st' := [.int (7 : Int32), .int (I 205 (76800 + f.d))]) rfl Kz) ?_
      refine jv_Wp.cnd jv_i295 (pt := 175) (pe := 84) (p := (¬ (I 205 (76800 + f.d)) = (7 : Int32))) (q := (¬ (I 205 (76800 + f.d)) = (7 : Int32))) rfl jv_bc_ne rfl rfl Iff.rfl (fun _ => ?_) (fun hz => absurd h10 hz)
      refine jv_Wp.lift (fun _ Kz => jv_Ev.steps jv_i295 3 (pc' := 178) (l' := [(2, .int (1 : Int32)), (3, .int (I 205 (76800 + f.d))), (1, .int (vl_I f.z)), (0, .ref 196)]) (st' := [.ref 196, .ref 196, .int (1 : Int32)]) rfl Kz) ?_
      refine jv_Wp.lift (fun _ Kz => jv_Ev.m jv_i295 (pc' := 181) (st' := [.int (vl_I f.s), .ref 196, .int (1 : Int32)]) (G' := (jv_H K I L R)) rfl rfl (jv_m_getI (jv_rwK hW 196 12 24 (by decide)) rfl rfl D.2.2.1) Kz) ?_
      refine jv_Wp.lift (fun _ Kz => jv_Ev.c jv_i295 (pc' := 184) (S' := [.int (I 205 (76800 + f.s)), .int (1 : Int32)]) jv_i271 [.ref 196, .int (vl_I f.s)] rfl rfl rfl rfl (jv_cal rfl (jv_H_at (jv_rwK hW 196 12 24 (by decide))) rfl rfl) rfl (vq_sortOf f.s hW (by omega)) rfl rfl Kz) ?_
      refine jv_Wp.cnd jv_i295 (pt := 204) (pe := 187) (p := ((I 205 (76800 + f.s)) = 0)) (q := ((I 205 (76800 + f.s)) = 0)) rfl jv_bi_eq rfl rfl Iff.rfl (fun h11 => ?_) (fun h11 => ?_)
      · refine jv_Wp.lift (fun _ Kz => jv_Ev.steps jv_i295 1 (pc' := 205) (l' := [(2, .int (1 : Int32)), (3, .int (I 205 (76800 + f.d))), (1, .int (vl_I f.z)), (0, .ref 196)]) (st' := [.int (0 : Int32), .int (1 : Int32)]) rfl Kz) ?_
        have Hf131 := vq_first (I := I) (L := L) (K := K) (R := R) (n := n) (sl := sl) 1 0 (by omega) (by omega)
        rw [show vx_fst 1 0 = 1 from by decide] at Hf131
        refine jv_Wp.lift (fun _ Kz => jv_Ev.c jv_i295 (pc' := 208) (S' := [.int (1 : Int32)]) jv_i282 [.int (1 : Int32), .int (0 : Int32)] rfl rfl rfl rfl rfl rfl Hf131 rfl rfl Kz) ?_
        refine jv_Wp.lift (fun _ Kz => jv_Ev.steps jv_i295 3 (pc' := 211) (l' := [(2, .int (1 : Int32)), (3, .int (I 205 (76800 + f.d))), (1, .int (vl_I f.z)), (0, .ref 196)]) (st' := [.ref 196, .int (1 : Int32)]) rfl Kz) ?_
        refine jv_Wp.lift (fun _ Kz => jv_Ev.m jv_i295 (pc' := 214) (st' := [.int (Int32.ofInt f.i), .int (1 : Int32)]) (G' := (jv_H K I L R)) rfl rfl (jv_m_getI (jv_rwK hW 196 12 24 (by decide)) rfl rfl (vr_dJ D)) Kz) ?_
        refine jv_Wp.lift (fun _ Kz => jv_Ev.steps jv_i295 1 (pc' := 217) (l' := [(2, .int (1 : Int32)), (3, .int (I 205 (76800 + f.d))), (1, .int (vl_I f.z)), (0, .ref 196)]) (st' := [.int (241 : Int32), .int (Int32.ofInt f.i), .int (1 : Int32)]) rfl Kz) ?_
        refine jv_Wp.cnd jv_i295 (pt := 242) (pe := 220) (p := (¬ (Int32.ofInt f.i) = (241 : Int32))) (q := (¬ (Int32.ofInt f.i) = (241 : Int32))) rfl jv_bc_ne rfl rfl Iff.rfl (fun hz => absurd hz (fun z => z h241)) (fun _ => ?_)
        refine jv_Wp.lift (fun _ Kz => jv_Ev.steps jv_i295 2 (pc' := 222) (l' := [(2, .int (1 : Int32)), (3, .int (I 205 (76800 + f.d))), (1, .int (vl_I f.z)), (0, .ref 196)]) (st' := [.int (0 : Int32), .ref 196, .int (1 : Int32)]) rfl Kz) ?_
        refine jv_Wp.lift (fun _ Kz => jv_Ev.c jv_i295 (pc' := 225) (S' := [.int (I 205 (76800 + 0)), .int (1 : Int32)]) jv_i271 [.ref 196, .int (0 : Int32)] rfl rfl rfl rfl (jv_cal rfl (jv_H_at (jv_rwK hW 196 12 24 (by decide))) rfl rfl) rfl (vq_sortOf 0 hW (by omega)) rfl rfl Kz) ?_
        refine jv_Wp.cnd jv_i295 (pt := 242) (pe := 228) (p := ((I 205 (76800 + 0)) = 0)) (q := ((I 205 (76800 + 0)) = 0)) rfl jv_bi_eq rfl rfl Iff.rfl (fun h12 => ?_) (fun h12 => ?_)
        · refine jv_Wp.lift (fun _ Kz => jv_Ev.steps jv_i295 1 (pc' := 243) (l' := [(2, .int (1 : Int32)), (3, .int (I 205 (76800 + f.d))), (1, .int (vl_I f.z)), (0, .ref 196)]) (st' := [.int (0 : Int32), .int (1 : Int32)]) rfl Kz) ?_
          have Hf132 := vq_first (I := I) (L := L) (K := K) (R := R) (n := n) (sl := sl) 1 0 (by omega) (by omega)
          rw [show vx_fst 1 0 = 1 from by decide] at Hf132
          refine jv_Wp.lift (fun _ Kz => jv_Ev.c jv_i295 (pc' := 246) (S' := [.int (1 : Int32)]) jv_i282 [.int (1 : Int32), .int (0 : Int32)] rfl rfl rfl rfl rfl rfl Hf132 rfl rfl Kz) ?_
          refine jv_Wp.lift (fun _ Kz => jv_Ev.steps jv_i295 2 (pc' := 248) (l' := [(2, .int (1 : Int32)), (3, .int (I 205 (76800 + f.d))), (1, .int (vl_I f.z)), (0, .ref 196)]) (st' := [.int (1 : Int32)]) rfl Kz) ?_
          refine jv_Wp.lift (fun _ Kz => jv_Ev.br jv_i295 (pc' := 251) (st' := []) rfl (by rfl) Kz) ?_
          refine jv_Wp.lift (fun _ Kz => jv_Ev.steps jv_i295 1 (pc' := 252) (l' := [(2, .int (1 : Int32)), (3, .int (I 205 (76800 + f.d))), (1, .int (vl_I f.z)), (0, .ref 196)]) (st' := [.int (1 : Int32)]) rfl Kz) ?_
          refine jv_Wp.of (jv_Ev.ret jv_i295 rfl rfl) ?_
          rw [hQ]
          have td0 : ¬ zd = 0 := fun z => h1 ((vr_isN (L := L) okd hd11).mp ((hd ()).trans z))
          have td7 : ¬ zd = 7 := fun z => h10 ((vr_is (L := L) 7 (by decide) okd).mp ((hd ()).trans z))
          have ts0 : zs = 0 := (hs ()).symm.trans ((vr_isN (L := L) oks hs11).mpr h11)
          have t00 : z0 = 0 := (h0 ()).symm.trans ((vr_isN (L := L) ok0 (by decide)).mpr h12)
          have e : vx_atp M f (vr_A I L 1024) = (1, (vr_A I L 1024)) := by
            exact vx_at1 (by rw [eD, eS, e0, hd (), hs (), h0 ()]; omega)
          exact ⟨_, _, by rw [← eQ, e]; rfl, fun z => by rw [← eQ, e] at z; exact absurd (show (1 : Nat) = 0 from z) (by omega), vr_fr_refl hf⟩
        · refine jv_Wp.lift (fun _ Kz => jv_Ev.steps jv_i295 2 (pc' := 230) (l' := [(2, .int (1 : Int32)), (3, .int (I 205 (76800 + f.d))), (1, .int (vl_I f.z)), (0, .ref 196)]) (st' := [.int (0 : Int32), .ref 196, .int (1 : Int32)]) rfl Kz) ?_
          refine jv_Wp.lift (fun _ Kz => jv_Ev.c jv_i295 (pc' := 233) (S' := [.int (I 205 (76800 + 0)), .int (1 : Int32)]) jv_i271 [.ref 196, .int (0 : Int32)] rfl rfl rfl rfl (jv_cal rfl (jv_H_at (jv_rwK hW 196 12 24 (by decide))) rfl rfl) rfl (vq_sortOf 0 hW (by omega)) rfl rfl Kz) ?_
          refine jv_Wp.lift (fun _ Kz => jv_Ev.steps jv_i295 1 (pc' := 234) (l' := [(2, .int (1 : Int32)), (3, .int (I 205 (76800 + f.d))), (1, .int (vl_I f.z)), (0, .ref 196)]) (st' := [.int (1 : Int32), .int (I 205 (76800 + 0)), .int (1 : Int32)]) rfl Kz) ?_
          refine jv_Wp.cnd jv_i295 (pt := 242) (pe := 237) (p := ((I 205 (76800 + 0)) = (1 : Int32))) (q := ((I 205 (76800 + 0)) = (1 : Int32))) rfl jv_bc_eq rfl rfl Iff.rfl (fun h13 => ?_) (fun h13 => ?_)
          · refine jv_Wp.lift (fun _ Kz => jv_Ev.steps jv_i295 1 (pc' := 243) (l' := [(2, .int (1 : Int32)), (3, .int (I 205 (76800 + f.d))), (1, .int (vl_I f.z)), (0, .ref 196)]) (st' := [.int (0 : Int32), .int (1 : Int32)]) rfl Kz) ?_
            have Hf133 := vq_first (I := I) (L := L) (K := K) (R := R) (n := n) (sl := sl) 1 0 (by omega) (by omega)
            rw [show vx_fst 1 0 = 1 from by decide] at Hf133
            refine jv_Wp.lift (fun _ Kz => jv_Ev.c jv_i295 (pc' := 246) (S' := [.int (1 : Int32)]) jv_i282 [.int (1 : Int32), .int (0 : Int32)] rfl rfl rfl rfl rfl rfl Hf133 rfl rfl Kz) ?_
            refine jv_Wp.lift (fun _ Kz => jv_Ev.steps jv_i295 2 (pc' := 248) (l' := [(2, .int (1 : Int32)), (3, .int (I 205 (76800 + f.d))), (1, .int (vl_I f.z)), (0, .ref 196)]) (st' := [.int (1 : Int32)]) rfl Kz) ?_
            refine jv_Wp.lift (fun _ Kz => jv_Ev.br jv_i295 (pc' := 251) (st' := []) rfl (by rfl) Kz) ?_
            refine jv_Wp.lift (fun _ Kz => jv_Ev.steps jv_i295 1 (pc' := 252) (l' := [(2, .int (1 : Int32)), (3, .int (I 205 (76800 + f.d))), (1, .int (vl_I f.z)), (0, .ref 196)]) (st' := [.int (1 : Int32)]) rfl Kz) ?_
            refine jv_Wp.of (jv_Ev.ret jv_i295 rfl rfl) ?_
            rw [hQ]
            have td0 : ¬ zd = 0 := fun z => h1 ((vr_isN (L := L) okd hd11).mp ((hd ()).trans z))
            have td7 : ¬ zd = 7 := fun z => h10 ((vr_is (L := L) 7 (by decide) okd).mp ((hd ()).trans z))
            have ts0 : zs = 0 := (hs ()).symm.trans ((vr_isN (L := L) oks hs11).mpr h11)
            have t00 : ¬ z0 = 0 := fun z => h12 ((vr_isN (L := L) ok0 (by decide)).mp ((h0 ()).trans z))
            have t01 : z0 = 1 := (h0 ()).symm.trans ((vr_is (L := L) 1 (by decide) ok0).mpr h13)
            have e : vx_atp M f (vr_A I L 1024) = (1, (vr_A I L 1024)) := by
              exact vx_at1 (by rw [eD, eS, e0, hd (), hs (), h0 ()]; omega)
            exact ⟨_, _, by rw [← eQ, e]; rfl, fun z => by rw [← eQ, e] at z; exact absurd (show (1 : Nat) = 0 from z) (by omega), vr_fr_refl hf⟩
          · refine jv_Wp.lift (fun _ Kz => jv_Ev.steps jv_i295 2 (pc' := 243) (l' := [(2, .int (1 : Int32)), (3, .int (I 205 (76800 + f.d))), (1, .int (vl_I f.z)), (0, .ref 196)]) (st' := [.int (6 : Int32), .int (1 : Int32)]) rfl Kz) ?_
            have Hf134 := vq_first (I := I) (L := L) (K := K) (R := R) (n := n) (sl := sl) 1 6 (by omega) (by omega)
            rw [show vx_fst 1 6 = 1 from by decide] at Hf134
            refine jv_Wp.lift (fun _ Kz => jv_Ev.c jv_i295 (pc' := 246) (S' := [.int (1 : Int32)]) jv_i282 [.int (1 : Int32), .int (6 : Int32)] rfl rfl rfl rfl rfl rfl Hf134 rfl rfl Kz) ?_
            refine jv_Wp.lift (fun _ Kz => jv_Ev.steps jv_i295 2 (pc' := 248) (l' := [(2, .int (1 : Int32)), (3, .int (I 205 (76800 + f.d))), (1, .int (vl_I f.z)), (0, .ref 196)]) (st' := [.int (1 : Int32)]) rfl Kz) ?_
            refine jv_Wp.lift (fun _ Kz => jv_Ev.br jv_i295 (pc' := 251) (st' := []) rfl (by rfl) Kz) ?_
            refine jv_Wp.lift (fun _ Kz => jv_Ev.steps jv_i295 1 (pc' := 252) (l' := [(2, .int (1 : Int32)), (3, .int (I 205 (76800 + f.d))), (1, .int (vl_I f.z)), (0, .ref 196)]) (st' := [.int (1 : Int32)]) rfl Kz) ?_
            refine jv_Wp.of (jv_Ev.ret jv_i295 rfl rfl) ?_
            rw [hQ]
            have td0 : ¬ zd = 0 := fun z => h1 ((vr_isN (L := L) okd hd11).mp ((hd ()).trans z))
            have td7 : ¬ zd = 7 := fun z => h10 ((vr_is (L := L) 7 (by decide) okd).mp ((hd ()).trans z))
            have ts0 : zs = 0 := (hs ()).symm.trans ((vr_isN (L := L) oks hs11).mpr h11)
            have t00 : ¬ z0 = 0 := fun z => h12 ((vr_isN (L := L) ok0 (by decide)).mp ((h0 ()).trans z))
            have t01 : ¬ z0 = 1 := fun z => h13 ((vr_is (L := L) 1 (by decide) ok0).mp ((h0 ()).trans z))
            have e : vx_atp M f (vr_A I L 1024) = (1, (vr_A I L 1024)) := by
              exact vx_at1 (by rw [eD, eS, e0, hd (), hs (), h0 ()]; omega)
            exact ⟨_, _, by rw [← eQ, e]; rfl, fun z => by rw [← eQ, e] at z; exact absurd (show (1 : Nat) = 0 from z) (by omega), vr_fr_refl hf⟩
      · refine jv_Wp.lift (fun _ Kz => jv_Ev.steps jv_i295 2 (pc' := 189) (l' := [(2, .int (1 : Int32)), (3, .int (I 205 (76800 + f.d))), (1, .int (vl_I f.z)), (0, .ref 196)]) (st' := [.ref 196, .ref 196, .int (1 : Int32)]) rfl Kz) ?_
        refine jv_Wp.lift (fun _ Kz => jv_Ev.m jv_i295 (pc' := 192) (st' := [.int (vl_I f.s), .ref 196, .int (1 : Int32)]) (G' := (jv_H K I L R)) rfl rfl (jv_m_getI (jv_rwK hW 196 12 24 (by decide)) rfl rfl D.2.2.1) Kz) ?_
        refine jv_Wp.lift (fun _ Kz => jv_Ev.c jv_i295 (pc' := 195) (S' := [.int (I 205 (76800 + f.s)), .int (1 : Int32)]) jv_i271 [.ref 196, .int (vl_I f.s)] rfl rfl rfl rfl (jv_cal rfl (jv_H_at (jv_rwK hW 196 12 24 (by decide))) rfl rfl) rfl (vq_sortOf f.s hW (by omega)) rfl rfl Kz) ?_
        refine jv_Wp.lift (fun _ Kz => jv_Ev.steps jv_i295 1 (pc' := 196) (l' := [(2, .int (1 : Int32)), (3, .int (I 205 (76800 + f.d))), (1, .int (vl_I f.z)), (0, .ref 196)]) (st' := [.int (1 : Int32), .int (I 205 (76800 + f.s)), .int (1 : Int32)]) rfl Kz) ?_
        refine jv_Wp.cnd jv_i295 (pt := 204) (pe := 199) (p := ((I 205 (76800 + f.s)) = (1 : Int32))) (q := ((I 205 (76800 + f.s)) = (1 : Int32))) rfl jv_bc_eq rfl rfl Iff.rfl (fun h14 => ?_) (fun h14 => ?_)
        · refine jv_Wp.lift (fun _ Kz => jv_Ev.steps jv_i295 1 (pc' := 205) (l' := [(2, .int (1 : Int32)), (3, .int (I 205 (76800 + f.d))), (1, .int (vl_I f.z)), (0, .ref 196)]) (st' := [.int (0 : Int32), .int (1 : Int32)]) rfl Kz) ?_
          have Hf135 := vq_first (I := I) (L := L) (K := K) (R := R) (n := n) (sl := sl) 1 0 (by omega) (by omega)
          rw [show vx_fst 1 0 = 1 from by decide] at Hf135
          refine jv_Wp.lift (fun _ Kz => jv_Ev.c jv_i295 (pc' := 208) (S' := [.int (1 : Int32)]) jv_i282 [.int (1 : Int32), .int (0 : Int32)] rfl rfl rfl rfl rfl rfl Hf135 rfl rfl Kz) ?_
          refine jv_Wp.lift (fun _ Kz => jv_Ev.steps jv_i295 3 (pc' := 211) (l' := [(2, .int (1 : Int32)), (3, .int (I 205 (76800 + f.d))), (1, .int (vl_I f.z)), (0, .ref 196)]) (st' := [.ref 196, .int (1 : Int32)]) rfl Kz) ?_
          refine jv_Wp.lift (fun _ Kz => jv_Ev.m jv_i295 (pc' := 214) (st' := [.int (Int32.ofInt f.i), .int (1 : Int32)]) (G' := (jv_H K I L R)) rfl rfl (jv_m_getI (jv_rwK hW 196 12 24 (by decide)) rfl rfl (vr_dJ D)) Kz) ?_
          refine jv_Wp.lift (fun _ Kz => jv_Ev.steps jv_i295 1 (pc' := 217) (l' := [(2, .int (1 : Int32)), (3, .int (I 205 (76800 + f.d))), (1, .int (vl_I f.z)), (0, .ref 196)]) (st' := [.int (241 : Int32), .int (Int32.ofInt f.i), .int (1 : Int32)]) rfl Kz) ?_
          refine jv_Wp.cnd jv_i295 (pt := 242) (pe := 220) (p := (¬ (Int32.ofInt f.i) = (241 : Int32))) (q := (¬ (Int32.ofInt f.i) = (241 : Int32))) rfl jv_bc_ne rfl rfl Iff.rfl (fun hz => absurd hz (fun z => z h241)) (fun _ => ?_)
          refine jv_Wp.lift (fun _ Kz => jv_Ev.steps jv_i295 2 (pc' := 222) (l' := [(2, .int (1 : Int32)), (3, .int (I 205 (76800 + f.d))), (1, .int (vl_I f.z)), (0, .ref 196)]) (st' := [.int (0 : Int32), .ref 196, .int (1 : Int32)]) rfl Kz) ?_
          refine jv_Wp.lift (fun _ Kz => jv_Ev.c jv_i295 (pc' := 225) (S' := [.int (I 205 (76800 + 0)), .int (1 : Int32)]) jv_i271 [.ref 196, .int (0 : Int32)] rfl rfl rfl rfl (jv_cal rfl (jv_H_at (jv_rwK hW 196 12 24 (by decide))) rfl rfl) rfl (vq_sortOf 0 hW (by omega)) rfl rfl Kz) ?_
          refine jv_Wp.cnd jv_i295 (pt := 242) (pe := 228) (p := ((I 205 (76800 + 0)) = 0)) (q := ((I 205 (76800 + 0)) = 0)) rfl jv_bi_eq rfl rfl Iff.rfl (fun h15 => ?_) (fun h15 => ?_)
          · refine jv_Wp.lift (fun _ Kz => jv_Ev.steps jv_i295 1 (pc' := 243) (l' := [(2, .int (1 : Int32)), (3, .int (I 205 (76800 + f.d))), (1, .int (vl_I f.z)), (0, .ref 196)]) (st' := [.int (0 : Int32), .int (1 : Int32)]) rfl Kz) ?_
            have Hf136 := vq_first (I := I) (L := L) (K := K) (R := R) (n := n) (sl := sl) 1 0 (by omega) (by omega)
            rw [show vx_fst 1 0 = 1 from by decide] at Hf136
            refine jv_Wp.lift (fun _ Kz => jv_Ev.c jv_i295 (pc' := 246) (S' := [.int (1 : Int32)]) jv_i282 [.int (1 : Int32), .int (0 : Int32)] rfl rfl rfl rfl rfl rfl Hf136 rfl rfl Kz) ?_
            refine jv_Wp.lift (fun _ Kz => jv_Ev.steps jv_i295 2 (pc' := 248) (l' := [(2, .int (1 : Int32)), (3, .int (I 205 (76800 + f.d))), (1, .int (vl_I f.z)), (0, .ref 196)]) (st' := [.int (1 : Int32)]) rfl Kz) ?_
            refine jv_Wp.lift (fun _ Kz => jv_Ev.br jv_i295 (pc' := 251) (st' := []) rfl (by rfl) Kz) ?_
            refine jv_Wp.lift (fun _ Kz => jv_Ev.steps jv_i295 1 (pc' := 252) (l' := [(2, .int (1 : Int32)), (3, .int (I 205 (76800 + f.d))), (1, .int (vl_I f.z)), (0, .ref 196)]) (st' := [.int (1 : Int32)]) rfl Kz) ?_
            refine jv_Wp.of (jv_Ev.ret jv_i295 rfl rfl) ?_
            rw [hQ]
            have td0 : ¬ zd = 0 := fun z => h1 ((vr_isN (L := L) okd hd11).mp ((hd ()).trans z))
            have td7 : ¬ zd = 7 := fun z => h10 ((vr_is (L := L) 7 (by decide) okd).mp ((hd ()).trans z))
            have ts0 : ¬ zs = 0 := fun z => h11 ((vr_isN (L := L) oks hs11).mp ((hs ()).trans z))
            have ts1 : zs = 1 := (hs ()).symm.trans ((vr_is (L := L) 1 (by decide) oks).mpr h14)
            have t00 : z0 = 0 := (h0 ()).symm.trans ((vr_isN (L := L) ok0 (by decide)).mpr h15)
            have e : vx_atp M f (vr_A I L 1024) = (1, (vr_A I L 1024)) := by
              exact vx_at1 (by rw [eD, eS, e0, hd (), hs (), h0 ()]; omega)
            exact ⟨_, _, by rw [← eQ, e]; rfl, fun z => by rw [← eQ, e] at z; exact absurd (show (1 : Nat) = 0 from z) (by omega), vr_fr_refl hf⟩
          · refine jv_Wp.lift (fun _ Kz => jv_Ev.steps jv_i295 2 (pc' := 230) (l' := [(2, .int (1 : Int32)), (3, .int (I 205 (76800 + f.d))), (1, .int (vl_I f.z)), (0, .ref 196)]) (st' := [.int (0 : Int32), .ref 196, .int (1 : Int32)]) rfl Kz) ?_
            refine jv_Wp.lift (fun _ Kz => jv_Ev.c jv_i295 (pc' := 233) (S' := [.int (I 205 (76800 + 0)), .int (1 : Int32)]) jv_i271 [.ref 196, .int (0 : Int32)] rfl rfl rfl rfl (jv_cal rfl (jv_H_at (jv_rwK hW 196 12 24 (by decide))) rfl rfl) rfl (vq_sortOf 0 hW (by omega)) rfl rfl Kz) ?_
            refine jv_Wp.lift (fun _ Kz => jv_Ev.steps jv_i295 1 (pc' := 234) (l' := [(2, .int (1 : Int32)), (3, .int (I 205 (76800 + f.d))), (1, .int (vl_I f.z)), (0, .ref 196)]) (st' := [.int (1 : Int32), .int (I 205 (76800 + 0)), .int (1 : Int32)]) rfl Kz) ?_
            refine jv_Wp.cnd jv_i295 (pt := 242) (pe := 237) (p := ((I 205 (76800 + 0)) = (1 : Int32))) (q := ((I 205 (76800 + 0)) = (1 : Int32))) rfl jv_bc_eq rfl rfl Iff.rfl (fun h16 => ?_) (fun h16 => ?_)
            · refine jv_Wp.lift (fun _ Kz => jv_Ev.steps jv_i295 1 (pc' := 243) (l' := [(2, .int (1 : Int32)), (3, .int (I 205 (76800 + f.d))), (1, .int (vl_I f.z)), (0, .ref 196)]) (st' := [.int (0 : Int32), .int (1 : Int32)]) rfl Kz) ?_
              have Hf137 := vq_first (I := I) (L := L) (K := K) (R := R) (n := n) (sl := sl) 1 0 (by omega) (by omega)
              rw [show vx_fst 1 0 = 1 from by decide] at Hf137
              refine jv_Wp.lift (fun _ Kz => jv_Ev.c jv_i295 (pc' := 246) (S' := [.int (1 : Int32)]) jv_i282 [.int (1 : Int32), .int (0 : Int32)] rfl rfl rfl rfl rfl rfl Hf137 rfl rfl Kz) ?_
              refine jv_Wp.lift (fun _ Kz => jv_Ev.steps jv_i295 2 (pc' := 248) (l' := [(2, .int (1 : Int32)), (3, .int (I 205 (76800 + f.d))), (1, .int (vl_I f.z)), (0, .ref 196)]) (st' := [.int (1 : Int32)]) rfl Kz) ?_
              refine jv_Wp.lift (fun _ Kz => jv_Ev.br jv_i295 (pc' := 251) (st' := []) rfl (by rfl) Kz) ?_
              refine jv_Wp.lift (fun _ Kz => jv_Ev.steps jv_i295 1 (pc' := 252) (l' := [(2, .int (1 : Int32)), (3, .int (I 205 (76800 + f.d))), (1, .int (vl_I f.z)), (0, .ref 196)]) (st' := [.int (1 : Int32)]) rfl Kz) ?_
              refine jv_Wp.of (jv_Ev.ret jv_i295 rfl rfl) ?_
              rw [hQ]
              have td0 : ¬ zd = 0 := fun z => h1 ((vr_isN (L := L) okd hd11).mp ((hd ()).trans z))
              have td7 : ¬ zd = 7 := fun z => h10 ((vr_is (L := L) 7 (by decide) okd).mp ((hd ()).trans z))
              have ts0 : ¬ zs = 0 := fun z => h11 ((vr_isN (L := L) oks hs11).mp ((hs ()).trans z))
              have ts1 : zs = 1 := (hs ()).symm.trans ((vr_is (L := L) 1 (by decide) oks).mpr h14)
              have t00 : ¬ z0 = 0 := fun z => h15 ((vr_isN (L := L) ok0 (by decide)).mp ((h0 ()).trans z))
              have t01 : z0 = 1 := (h0 ()).symm.trans ((vr_is (L := L) 1 (by decide) ok0).mpr h16)
              have e : vx_atp M f (vr_A I L 1024) = (1, (vr_A I L 1024)) := by
                exact vx_at1 (by rw [eD, eS, e0, hd (), hs (), h0 ()]; omega)
              exact ⟨_, _, by rw [← eQ, e]; rfl, fun z => by rw [← eQ, e] at z; exact absurd (show (1 : Nat) = 0 from z) (by omega), vr_fr_refl hf⟩
            · refine jv_Wp.lift (fun _ Kz => jv_Ev.steps jv_i295 2 (pc' := 243) (l' := [(2, .int (1 : Int32)), (3, .int (I 205 (76800 + f.d))), (1, .int (vl_I f.z)), (0, .ref 196)]) (st' := [.int (6 : Int32), .int (1 : Int32)]) rfl Kz) ?_
              have Hf138 := vq_first (I := I) (L := L) (K := K) (R := R) (n := n) (sl := sl) 1 6 (by omega) (by omega)
              rw [show vx_fst 1 6 = 1 from by decide] at Hf138
              refine jv_Wp.lift (fun _ Kz => jv_Ev.c jv_i295 (pc' := 246) (S' := [.int (1 : Int32)]) jv_i282 [.int (1 : Int32), .int (6 : Int32)] rfl rfl rfl rfl rfl rfl Hf138 rfl rfl Kz) ?_
              refine jv_Wp.lift (fun _ Kz => jv_Ev.steps jv_i295 2 (pc' := 248) (l' := [(2, .int (1 : Int32)), (3, .int (I 205 (76800 + f.d))), (1, .int (vl_I f.z)), (0, .ref 196)]) (st' := [.int (1 : Int32)]) rfl Kz) ?_
              refine jv_Wp.lift (fun _ Kz => jv_Ev.br jv_i295 (pc' := 251) (st' := []) rfl (by rfl) Kz) ?_
              refine jv_Wp.lift (fun _ Kz => jv_Ev.steps jv_i295 1 (pc' := 252) (l' := [(2, .int (1 : Int32)), (3, .int (I 205 (76800 + f.d))), (1, .int (vl_I f.z)), (0, .ref 196)]) (st' := [.int (1 : Int32)]) rfl Kz) ?_
              refine jv_Wp.of (jv_Ev.ret jv_i295 rfl rfl) ?_
              rw [hQ]
              have td0 : ¬ zd = 0 := fun z => h1 ((vr_isN (L := L) okd hd11).mp ((hd ()).trans z))
              have td7 : ¬ zd = 7 := fun z => h10 ((vr_is (L := L) 7 (by decide) okd).mp ((hd ()).trans z))
              have ts0 : ¬ zs = 0 := fun z => h11 ((vr_isN (L := L) oks hs11).mp ((hs ()).trans z))
              have ts1 : zs = 1 := (hs ()).symm.trans ((vr_is (L := L) 1 (by decide) oks).mpr h14)
              have t00 : ¬ z0 = 0 := fun z => h15 ((vr_isN (L := L) ok0 (by decide)).mp ((h0 ()).trans z))
              have t01 : ¬ z0 = 1 := fun z => h16 ((vr_is (L := L) 1 (by decide) ok0).mp ((h0 ()).trans z))
              have e : vx_atp M f (vr_A I L 1024) = (1, (vr_A I L 1024)) := by
                exact vx_at1 (by rw [eD, eS, e0, hd (), hs (), h0 ()]; omega)
              exact ⟨_, _, by rw [← eQ, e]; rfl, fun z => by rw [← eQ, e] at z; exact absurd (show (1 : Nat) = 0 from z) (by omega), vr_fr_refl hf⟩
        · refine jv_Wp.lift (fun _ Kz => jv_Ev.steps jv_i295 2 (pc' := 205) (l' := [(2, .int (1 : Int32)), (3, .int (I 205 (76800 + f.d))), (1, .int (vl_I f.z)), (0, .ref 196)]) (st' := [.int (6 : Int32), .int (1 : Int32)]) rfl Kz) ?_
          have Hf139 := vq_first (I := I) (L := L) (K := K) (R := R) (n := n) (sl := sl) 1 6 (by omega) (by omega)
          rw [show vx_fst 1 6 = 1 from by decide] at Hf139
          refine jv_Wp.lift (fun _ Kz => jv_Ev.c jv_i295 (pc' := 208) (S' := [.int (1 : Int32)]) jv_i282 [.int (1 : Int32), .int (6 : Int32)] rfl rfl rfl rfl rfl rfl Hf139 rfl rfl Kz) ?_
          refine jv_Wp.lift (fun _ Kz => jv_Ev.steps jv_i295 3 (pc' := 211) (l' := [(2, .int (1 : Int32)), (3, .int (I 205 (76800 + f.d))), (1, .int (vl_I f.z)), (0, .ref 196)]) (st' := [.ref 196, .int (1 : Int32)]) rfl Kz) ?_
          refine jv_Wp.lift (fun _ Kz => jv_Ev.m jv_i295 (pc' := 214) (st' := [.int (Int32.ofInt f.i), .int (1 : Int32)]) (G' := (jv_H K I L R)) rfl rfl (jv_m_getI (jv_rwK hW 196 12 24 (by decide)) rfl rfl (vr_dJ D)) Kz) ?_
          refine jv_Wp.lift (fun _ Kz => jv_Ev.steps jv_i295 1 (pc' := 217) (l' := [(2, .int (1 : Int32)), (3, .int (I 205 (76800 + f.d))), (1, .int (vl_I f.z)), (0, .ref 196)]) (st' := [.int (241 : Int32), .int (Int32.ofInt f.i), .int (1 : Int32)]) rfl Kz) ?_
          refine jv_Wp.cnd jv_i295 (pt := 242) (pe := 220) (p := (¬ (Int32.ofInt f.i) = (241 : Int32))) (q := (¬ (Int32.ofInt f.i) = (241 : Int32))) rfl jv_bc_ne rfl rfl Iff.rfl (fun hz => absurd hz (fun z => z h241)) (fun _ => ?_)
          refine jv_Wp.lift (fun _ Kz => jv_Ev.steps jv_i295 2 (pc' := 222) (l' := [(2, .int (1 : Int32)), (3, .int (I 205 (76800 + f.d))), (1, .int (vl_I f.z)), (0, .ref 196)]) (st' := [.int (0 : Int32), .ref 196, .int (1 : Int32)]) rfl Kz) ?_
          refine jv_Wp.lift (fun _ Kz => jv_Ev.c jv_i295 (pc' := 225) (S' := [.int (I 205 (76800 + 0)), .int (1 : Int32)]) jv_i271 [.ref 196, .int (0 : Int32)] rfl rfl rfl rfl (jv_cal rfl (jv_H_at (jv_rwK hW 196 12 24 (by decide))) rfl rfl) rfl (vq_sortOf 0 hW (by omega)) rfl rfl Kz) ?_
          refine jv_Wp.cnd jv_i295 (pt := 242) (pe := 228) (p := ((I 205 (76800 + 0)) = 0)) (q := ((I 205 (76800 + 0)) = 0)) rfl jv_bi_eq rfl rfl Iff.rfl (fun h17 => ?_) (fun h17 => ?_)
          · refine jv_Wp.lift (fun _ Kz => jv_Ev.steps jv_i295 1 (pc' := 243) (l' := [(2, .int (1 : Int32)), (3, .int (I 205 (76800 + f.d))), (1, .int (vl_I f.z)), (0, .ref 196)]) (st' := [.int (0 : Int32), .int (1 : Int32)]) rfl Kz) ?_
            have Hf140 := vq_first (I := I) (L := L) (K := K) (R := R) (n := n) (sl := sl) 1 0 (by omega) (by omega)
            rw [show vx_fst 1 0 = 1 from by decide] at Hf140
            refine jv_Wp.lift (fun _ Kz => jv_Ev.c jv_i295 (pc' := 246) (S' := [.int (1 : Int32)]) jv_i282 [.int (1 : Int32), .int (0 : Int32)] rfl rfl rfl rfl rfl rfl Hf140 rfl rfl Kz) ?_
            refine jv_Wp.lift (fun _ Kz => jv_Ev.steps jv_i295 2 (pc' := 248) (l' := [(2, .int (1 : Int32)), (3, .int (I 205 (76800 + f.d))), (1, .int (vl_I f.z)), (0, .ref 196)]) (st' := [.int (1 : Int32)]) rfl Kz) ?_
            refine jv_Wp.lift (fun _ Kz => jv_Ev.br jv_i295 (pc' := 251) (st' := []) rfl (by rfl) Kz) ?_
            refine jv_Wp.lift (fun _ Kz => jv_Ev.steps jv_i295 1 (pc' := 252) (l' := [(2, .int (1 : Int32)), (3, .int (I 205 (76800 + f.d))), (1, .int (vl_I f.z)), (0, .ref 196)]) (st' := [.int (1 : Int32)]) rfl Kz) ?_
            refine jv_Wp.of (jv_Ev.ret jv_i295 rfl rfl) ?_
            rw [hQ]
            have td0 : ¬ zd = 0 := fun z => h1 ((vr_isN (L := L) okd hd11).mp ((hd ()).trans z))
            have td7 : ¬ zd = 7 := fun z => h10 ((vr_is (L := L) 7 (by decide) okd).mp ((hd ()).trans z))
            have ts0 : ¬ zs = 0 := fun z => h11 ((vr_isN (L := L) oks hs11).mp ((hs ()).trans z))
            have ts1 : ¬ zs = 1 := fun z => h14 ((vr_is (L := L) 1 (by decide) oks).mp ((hs ()).trans z))
            have t00 : z0 = 0 := (h0 ()).symm.trans ((vr_isN (L := L) ok0 (by decide)).mpr h17)
            have e : vx_atp M f (vr_A I L 1024) = (1, (vr_A I L 1024)) := by
              exact vx_at1 (by rw [eD, eS, e0, hd (), hs (), h0 ()]; omega)
            exact ⟨_, _, by rw [← eQ, e]; rfl, fun z => by rw [← eQ, e] at z; exact absurd (show (1 : Nat) = 0 from z) (by omega), vr_fr_refl hf⟩
          · refine jv_Wp.lift (fun _ Kz => jv_Ev.steps jv_i295 2 (pc' := 230) (l' := [(2, .int (1 : Int32)), (3, .int (I 205 (76800 + f.d))), (1, .int (vl_I f.z)), (0, .ref 196)]) (st' := [.int (0 : Int32), .ref 196, .int (1 : Int32)]) rfl Kz) ?_
            refine jv_Wp.lift (fun _ Kz => jv_Ev.c jv_i295 (pc' := 233) (S' := [.int (I 205 (76800 + 0)), .int (1 : Int32)]) jv_i271 [.ref 196, .int (0 : Int32)] rfl rfl rfl rfl (jv_cal rfl (jv_H_at (jv_rwK hW 196 12 24 (by decide))) rfl rfl) rfl (vq_sortOf 0 hW (by omega)) rfl rfl Kz) ?_
            refine jv_Wp.lift (fun _ Kz => jv_Ev.steps jv_i295 1 (pc' := 234) (l' := [(2, .int (1 : Int32)), (3, .int (I 205 (76800 + f.d))), (1, .int (vl_I f.z)), (0, .ref 196)]) (st' := [.int (1 : Int32), .int (I 205 (76800 + 0)), .int (1 : Int32)]) rfl Kz) ?_
            refine jv_Wp.cnd jv_i295 (pt := 242) (pe := 237) (p := ((I 205 (76800 + 0)) = (1 : Int32))) (q := ((I 205 (76800 + 0)) = (1 : Int32))) rfl jv_bc_eq rfl rfl Iff.rfl (fun h18 => ?_) (fun h18 => ?_)
            · refine jv_Wp.lift (fun _ Kz => jv_Ev.steps jv_i295 1 (pc' := 243) (l' := [(2, .int (1 : Int32)), (3, .int (I 205 (76800 + f.d))), (1, .int (vl_I f.z)), (0, .ref 196)]) (st' := [.int (0 : Int32), .int (1 : Int32)]) rfl Kz) ?_
              have Hf141 := vq_first (I := I) (L := L) (K := K) (R := R) (n := n) (sl := sl) 1 0 (by omega) (by omega)
              rw [show vx_fst 1 0 = 1 from by decide] at Hf141
              refine jv_Wp.lift (fun _ Kz => jv_Ev.c jv_i295 (pc' := 246) (S' := [.int (1 : Int32)]) jv_i282 [.int (1 : Int32), .int (0 : Int32)] rfl rfl rfl rfl rfl rfl Hf141 rfl rfl Kz) ?_
              refine jv_Wp.lift (fun _ Kz => jv_Ev.steps jv_i295 2 (pc' := 248) (l' := [(2, .int (1 : Int32)), (3, .int (I 205 (76800 + f.d))), (1, .int (vl_I f.z)), (0, .ref 196)]) (st' := [.int (1 : Int32)]) rfl Kz) ?_
              refine jv_Wp.lift (fun _ Kz => jv_Ev.br jv_i295 (pc' := 251) (st' := []) rfl (by rfl) Kz) ?_
              refine jv_Wp.lift (fun _ Kz => jv_Ev.steps jv_i295 1 (pc' := 252) (l' := [(2, .int (1 : Int32)), (3, .int (I 205 (76800 + f.d))), (1, .int (vl_I f.z)), (0, .ref 196)]) (st' := [.int (1 : Int32)]) rfl Kz) ?_
              refine jv_Wp.of (jv_Ev.ret jv_i295 rfl rfl) ?_
              rw [hQ]
              have td0 : ¬ zd = 0 := fun z => h1 ((vr_isN (L := L) okd hd11).mp ((hd ()).trans z))
              have td7 : ¬ zd = 7 := fun z => h10 ((vr_is (L := L) 7 (by decide) okd).mp ((hd ()).trans z))
              have ts0 : ¬ zs = 0 := fun z => h11 ((vr_isN (L := L) oks hs11).mp ((hs ()).trans z))
              have ts1 : ¬ zs = 1 := fun z => h14 ((vr_is (L := L) 1 (by decide) oks).mp ((hs ()).trans z))
              have t00 : ¬ z0 = 0 := fun z => h17 ((vr_isN (L := L) ok0 (by decide)).mp ((h0 ()).trans z))
              have t01 : z0 = 1 := (h0 ()).symm.trans ((vr_is (L := L) 1 (by decide) ok0).mpr h18)
              have e : vx_atp M f (vr_A I L 1024) = (1, (vr_A I L 1024)) := by
                exact vx_at1 (by rw [eD, eS, e0, hd (), hs (), h0 ()]; omega)
              exact ⟨_, _, by rw [← eQ, e]; rfl, fun z => by rw [← eQ, e] at z; exact absurd (show (1 : Nat) = 0 from z) (by omega), vr_fr_refl hf⟩
            · refine jv_Wp.lift (fun _ Kz => jv_Ev.steps jv_i295 2 (pc' := 243) (l' := [(2, .int (1 : Int32)), (3, .int (I 205 (76800 + f.d))), (1, .int (vl_I f.z)), (0, .ref 196)]) (st' := [.int (6 : Int32), .int (1 : Int32)]) rfl Kz) ?_
              have Hf142 := vq_first (I := I) (L := L) (K := K) (R := R) (n := n) (sl := sl) 1 6 (by omega) (by omega)
              rw [show vx_fst 1 6 = 1 from by decide] at Hf142
              refine jv_Wp.lift (fun _ Kz => jv_Ev.c jv_i295 (pc' := 246) (S' := [.int (1 : Int32)]) jv_i282 [.int (1 : Int32), .int (6 : Int32)] rfl rfl rfl rfl rfl rfl Hf142 rfl rfl Kz) ?_
              refine jv_Wp.lift (fun _ Kz => jv_Ev.steps jv_i295 2 (pc' := 248) (l' := [(2, .int (1 : Int32)), (3, .int (I 205 (76800 + f.d))), (1, .int (vl_I f.z)), (0, .ref 196)]) (st' := [.int (1 : Int32)]) rfl Kz) ?_
              refine jv_Wp.lift (fun _ Kz => jv_Ev.br jv_i295 (pc' := 251) (st' := []) rfl (by rfl) Kz) ?_
              refine jv_Wp.lift (fun _ Kz => jv_Ev.steps jv_i295 1 (pc' := 252) (l' := [(2, .int (1 : Int32)), (3, .int (I 205 (76800 + f.d))), (1, .int (vl_I f.z)), (0, .ref 196)]) (st' := [.int (1 : Int32)]) rfl Kz) ?_
              refine jv_Wp.of (jv_Ev.ret jv_i295 rfl rfl) ?_
              rw [hQ]
              have td0 : ¬ zd = 0 := fun z => h1 ((vr_isN (L := L) okd hd11).mp ((hd ()).trans z))
              have td7 : ¬ zd = 7 := fun z => h10 ((vr_is (L := L) 7 (by decide) okd).mp ((hd ()).trans z))
              have ts0 : ¬ zs = 0 := fun z => h11 ((vr_isN (L := L) oks hs11).mp ((hs ()).trans z))
              have ts1 : ¬ zs = 1 := fun z => h14 ((vr_is (L := L) 1 (by decide) oks).mp ((hs ()).trans z))
              have t00 : ¬ z0 = 0 := fun z => h17 ((vr_isN (L := L) ok0 (by decide)).mp ((h0 ()).trans z))
              have t01 : ¬ z0 = 1 := fun z => h18 ((vr_is (L := L) 1 (by decide) ok0).mp ((h0 ()).trans z))
              have e : vx_atp M f (vr_A I L 1024) = (1, (vr_A I L 1024)) := by
                exact vx_at1 (by rw [eD, eS, e0, hd (), hs (), h0 ()]; omega)
              exact ⟨_, _, by rw [← eQ, e]; rfl, fun z => by rw [← eQ, e] at z; exact absurd (show (1 : Nat) = 0 from z) (by omega), vr_fr_refl hf⟩
    · refine jv_Wp.lift (fun _ Kz => jv_Ev.steps jv_i295 2 (pc' := 74) (l' := [(3, .int (I 205 (76800 + f.d))), (2, .int (1 : Int32)), (1, .int (vl_I f.z)), (0, .ref 196)]) (st' := [.int (0 : Int32), .int (1 : Int32)]) rfl Kz) ?_
      have Hf143 := vq_first (I := I) (L := L) (K := K) (R := R) (n := n) (sl := sl) 1 0 (by omega) (by omega)
      rw [show vx_fst 1 0 = 1 from by decide] at Hf143
      refine jv_Wp.lift (fun _ Kz => jv_Ev.c jv_i295 (pc' := 77) (S' := [.int (1 : Int32)]) jv_i282 [.int (1 : Int32), .int (0 : Int32)] rfl rfl rfl rfl rfl rfl Hf143 rfl rfl Kz) ?_
      refine jv_Wp.lift (fun _ Kz => jv_Ev.steps jv_i295 3 (pc' := 81) (l' := [(2, .int (1 : Int32)), (3, .int (I 205 (76800 + f.d))), (1, .int (vl_I f.z)), (0, .ref 196)]) (st' := [.int (7 : Int32), .int (I 205 (76800 + f.d))]) rfl Kz) ?_
      refine jv_Wp.cnd jv_i295 (pt := 175) (pe := 84) (p := (¬ (I 205 (76800 + f.d)) = (7 : Int32))) (q := (¬ (I 205 (76800 + f.d)) = (7 : Int32))) rfl jv_bc_ne rfl rfl Iff.rfl (fun hz => absurd hz (fun z => z (Classical.not_not.mp h10))) (fun _ => ?_)
      refine jv_Wp.lift (fun _ Kz => jv_Ev.steps jv_i295 2 (pc' := 88) (l' := [(2, .int (1 : Int32)), (3, .int (I 205 (76800 + f.d))), (1, .int (vl_I f.z)), (0, .ref 196)]) (st' := [.ref 196, .int (1024 : Int32)]) rfl Kz) ?_
      refine jv_Wp.lift (fun _ Kz => jv_Ev.m jv_i295 (pc' := 91) (st' := [.int (vl_I f.d), .int (1024 : Int32)]) (G' := (jv_H K I L R)) rfl rfl (jv_m_getI (jv_rwK hW 196 12 24 (by decide)) rfl rfl D.2.1) Kz) ?_
      refine jv_Wp.lift (fun _ Kz => jv_Ev.c jv_i295 (pc' := 94) (S' := [.int (vl_I (8 + (76800 + f.d)))]) jv_i254 [.int (1024 : Int32), .int (vl_I f.d)] rfl rfl rfl rfl rfl rfl (vq_row 1024 f.d) rfl rfl Kz) ?_
      refine jv_Wp.lift (fun _ Kz => jv_Ev.steps jv_i295 7 (pc' := 103) (l' := [(5, .long ((vl_I f.z).toInt64 - (1 : Int64))), (4, .int (vl_I (8 + (76800 + f.d)))), (2, .int (1 : Int32)), (3, .int (I 205 (76800 + f.d))), (1, .int (vl_I f.z)), (0, .ref 196)]) (st' := [.ref 196]) rfl Kz) ?_
      refine jv_Wp.lift (fun _ Kz => jv_Ev.m jv_i295 (pc' := 106) (st' := [.ref 208]) (G' := (jv_H K I L R)) rfl rfl (jv_m_getR (jv_rwK hW 196 12 24 (by decide)) rfl rfl (jv_rwR hW 196 16 208 (by decide))) Kz) ?_
      refine jv_Wp.lift (fun _ Kz => jv_Ev.m jv_i295 (pc' := 109) (st' := [.ref 210]) (G' := (jv_H K I L R)) rfl rfl (jv_m_getR (jv_rwK hW 208 11 7 (by decide)) rfl rfl (jv_rwR hW 208 1 210 (by decide))) Kz) ?_
      refine jv_Wp.lift (fun _ Kz => jv_Ev.steps jv_i295 1 (pc' := 111) (l' := [(5, .long ((vl_I f.z).toInt64 - (1 : Int64))), (4, .int (vl_I (8 + (76800 + f.d)))), (2, .int (1 : Int32)), (3, .int (I 205 (76800 + f.d))), (1, .int (vl_I f.z)), (0, .ref 196)]) (st' := [.int (vl_I (8 + (76800 + f.d))), .ref 210]) rfl Kz) ?_
      refine jv_Wp.lift (fun _ Kz => jv_Ev.m jv_i295 (pc' := 112) (st' := [.long (L 210 (8 + (76800 + f.d)))]) (G' := (jv_H K I L R)) rfl rfl (jv_m_laldv (jv_rwK hW 210 103 77200 (by decide)) rfl (vl_I_ix (by omega) (by decide)) rfl ((congrArg (L 210) (vl_I_nat (by omega))).trans rfl)) Kz) ?_
      refine jv_Wp.lift (fun _ Kz => jv_Ev.steps jv_i295 4 (pc' := 117) (l' := [(5, .long ((vl_I f.z).toInt64 - (1 : Int64))), (4, .int (vl_I (8 + (76800 + f.d)))), (2, .int (1 : Int32)), (3, .int (I 205 (76800 + f.d))), (1, .int (vl_I f.z)), (0, .ref 196)]) (st' := [.int (lg_cmp ((L 210 (8 + (76800 + f.d))) &&& ((vl_I f.z).toInt64 - (1 : Int64))) (0 : Int64))]) rfl Kz) ?_
      refine jv_Wp.cnd jv_i295 (pt := 148) (pe := 120) (p := (¬ (lg_cmp ((L 210 (8 + (76800 + f.d))) &&& ((vl_I f.z).toInt64 - (1 : Int64))) (0 : Int64)) = 0)) (q := (¬ ((L 210 (8 + (76800 + f.d))) &&& ((vl_I f.z).toInt64 - (1 : Int64))) = (0 : Int64))) rfl jv_bi_ne rfl rfl (not_congr (lg_cmp_eq ((L 210 (8 + (76800 + f.d))) &&& ((vl_I f.z).toInt64 - (1 : Int64))) (0 : Int64))) (fun h19 => ?_) (fun h19 => ?_)
      · refine jv_Wp.lift (fun _ Kz => jv_Ev.steps jv_i295 4 (pc' := 154) (l' := [(7, .int (0 : Int32)), (5, .long ((vl_I f.z).toInt64 - (1 : Int64))), (4, .int (vl_I (8 + (76800 + f.d)))), (2, .int (1 : Int32)), (3, .int (I 205 (76800 + f.d))), (1, .int (vl_I f.z)), (0, .ref 196)]) (st' := [.int (0 : Int32), .int (1 : Int32)]) rfl Kz) ?_
        refine jv_Wp.lift (fun _ Kz => jv_Ev.br jv_i295 (pc' := 170) (st' := [.int (1 : Int32)]) rfl (by rfl) Kz) ?_
        refine jv_Wp.lift (fun _ Kz => jv_Ev.steps jv_i295 1 (pc' := 171) (l' := [(7, .int (0 : Int32)), (5, .long ((vl_I f.z).toInt64 - (1 : Int64))), (4, .int (vl_I (8 + (76800 + f.d)))), (2, .int (1 : Int32)), (3, .int (I 205 (76800 + f.d))), (1, .int (vl_I f.z)), (0, .ref 196)]) (st' := [.int (4 : Int32), .int (1 : Int32)]) rfl Kz) ?_
        have Hf144 := vq_first (I := I) (L := L) (K := K) (R := R) (n := n) (sl := sl) 1 4 (by omega) (by omega)
        rw [show vx_fst 1 4 = 1 from by decide] at Hf144
        refine jv_Wp.lift (fun _ Kz => jv_Ev.c jv_i295 (pc' := 174) (S' := [.int (1 : Int32)]) jv_i282 [.int (1 : Int32), .int (4 : Int32)] rfl rfl rfl rfl rfl rfl Hf144 rfl rfl Kz) ?_
        refine jv_Wp.lift (fun _ Kz => jv_Ev.steps jv_i295 4 (pc' := 178) (l' := [(2, .int (1 : Int32)), (7, .int (0 : Int32)), (5, .long ((vl_I f.z).toInt64 - (1 : Int64))), (4, .int (vl_I (8 + (76800 + f.d)))), (3, .int (I 205 (76800 + f.d))), (1, .int (vl_I f.z)), (0, .ref 196)]) (st' := [.ref 196, .ref 196, .int (1 : Int32)]) rfl Kz) ?_
        refine jv_Wp.lift (fun _ Kz => jv_Ev.m jv_i295 (pc' := 181) (st' := [.int (vl_I f.s), .ref 196, .int (1 : Int32)]) (G' := (jv_H K I L R)) rfl rfl (jv_m_getI (jv_rwK hW 196 12 24 (by decide)) rfl rfl D.2.2.1) Kz) ?_
        refine jv_Wp.lift (fun _ Kz => jv_Ev.c jv_i295 (pc' := 184) (S' := [.int (I 205 (76800 + f.s)), .int (1 : Int32)]) jv_i271 [.ref 196, .int (vl_I f.s)] rfl rfl rfl rfl (jv_cal rfl (jv_H_at (jv_rwK hW 196 12 24 (by decide))) rfl rfl) rfl (vq_sortOf f.s hW (by omega)) rfl rfl Kz) ?_
        refine jv_Wp.cnd jv_i295 (pt := 204) (pe := 187) (p := ((I 205 (76800 + f.s)) = 0)) (q := ((I 205 (76800 + f.s)) = 0)) rfl jv_bi_eq rfl rfl Iff.rfl (fun h20 => ?_) (fun h20 => ?_)
        · refine jv_Wp.lift (fun _ Kz => jv_Ev.steps jv_i295 1 (pc' := 205) (l' := [(2, .int (1 : Int32)), (7, .int (0 : Int32)), (5, .long ((vl_I f.z).toInt64 - (1 : Int64))), (4, .int (vl_I (8 + (76800 + f.d)))), (3, .int (I 205 (76800 + f.d))), (1, .int (vl_I f.z)), (0, .ref 196)]) (st' := [.int (0 : Int32), .int (1 : Int32)]) rfl Kz) ?_
          have Hf145 := vq_first (I := I) (L := L) (K := K) (R := R) (n := n) (sl := sl) 1 0 (by omega) (by omega)
          rw [show vx_fst 1 0 = 1 from by decide] at Hf145
          refine jv_Wp.lift (fun _ Kz => jv_Ev.c jv_i295 (pc' := 208) (S' := [.int (1 : Int32)]) jv_i282 [.int (1 : Int32), .int (0 : Int32)] rfl rfl rfl rfl rfl rfl Hf145 rfl rfl Kz) ?_
          refine jv_Wp.lift (fun _ Kz => jv_Ev.steps jv_i295 3 (pc' := 211) (l' := [(2, .int (1 : Int32)), (7, .int (0 : Int32)), (5, .long ((vl_I f.z).toInt64 - (1 : Int64))), (4, .int (vl_I (8 + (76800 + f.d)))), (3, .int (I 205 (76800 + f.d))), (1, .int (vl_I f.z)), (0, .ref 196)]) (st' := [.ref 196, .int (1 : Int32)]) rfl Kz) ?_
          refine jv_Wp.lift (fun _ Kz => jv_Ev.m jv_i295 (pc' := 214) (st' := [.int (Int32.ofInt f.i), .int (1 : Int32)]) (G' := (jv_H K I L R)) rfl rfl (jv_m_getI (jv_rwK hW 196 12 24 (by decide)) rfl rfl (vr_dJ D)) Kz) ?_
          refine jv_Wp.lift (fun _ Kz => jv_Ev.steps jv_i295 1 (pc' := 217) (l' := [(2, .int (1 : Int32)), (7, .int (0 : Int32)), (5, .long ((vl_I f.z).toInt64 - (1 : Int64))), (4, .int (vl_I (8 + (76800 + f.d)))), (3, .int (I 205 (76800 + f.d))), (1, .int (vl_I f.z)), (0, .ref 196)]) (st' := [.int (241 : Int32), .int (Int32.ofInt f.i), .int (1 : Int32)]) rfl Kz) ?_
          refine jv_Wp.cnd jv_i295 (pt := 242) (pe := 220) (p := (¬ (Int32.ofInt f.i) = (241 : Int32))) (q := (¬ (Int32.ofInt f.i) = (241 : Int32))) rfl jv_bc_ne rfl rfl Iff.rfl (fun hz => absurd hz (fun z => z h241)) (fun _ => ?_)
          refine jv_Wp.lift (fun _ Kz => jv_Ev.steps jv_i295 2 (pc' := 222) (l' := [(2, .int (1 : Int32)), (7, .int (0 : Int32)), (5, .long ((vl_I f.z).toInt64 - (1 : Int64))), (4, .int (vl_I (8 + (76800 + f.d)))), (3, .int (I 205 (76800 + f.d))), (1, .int (vl_I f.z)), (0, .ref 196)]) (st' := [.int (0 : Int32), .ref 196, .int (1 : Int32)]) rfl Kz) ?_
          refine jv_Wp.lift (fun _ Kz => jv_Ev.c jv_i295 (pc' := 225) (S' := [.int (I 205 (76800 + 0)), .int (1 : Int32)]) jv_i271 [.ref 196, .int (0 : Int32)] rfl rfl rfl rfl (jv_cal rfl (jv_H_at (jv_rwK hW 196 12 24 (by decide))) rfl rfl) rfl (vq_sortOf 0 hW (by omega)) rfl rfl Kz) ?_
          refine jv_Wp.cnd jv_i295 (pt := 242) (pe := 228) (p := ((I 205 (76800 + 0)) = 0)) (q := ((I 205 (76800 + 0)) = 0)) rfl jv_bi_eq rfl rfl Iff.rfl (fun h21 => ?_) (fun h21 => ?_)
          · refine jv_Wp.lift (fun _ Kz => jv_Ev.steps jv_i295 1 (pc' := 243) (l' := [(2, .int (1 : Int32)), (7, .int (0 : Int32)), (5, .long ((vl_I f.z).toInt64 - (1 : Int64))), (4, .int (vl_I (8 + (76800 + f.d)))), (3, .int (I 205 (76800 + f.d))), (1, .int (vl_I f.z)), (0, .ref 196)]) (st' := [.int (0 : Int32), .int (1 : Int32)]) rfl Kz) ?_
            have Hf146 := vq_first (I := I) (L := L) (K := K) (R := R) (n := n) (sl := sl) 1 0 (by omega) (by omega)
            rw [show vx_fst 1 0 = 1 from by decide] at Hf146
            refine jv_Wp.lift (fun _ Kz => jv_Ev.c jv_i295 (pc' := 246) (S' := [.int (1 : Int32)]) jv_i282 [.int (1 : Int32), .int (0 : Int32)] rfl rfl rfl rfl rfl rfl Hf146 rfl rfl Kz) ?_
            refine jv_Wp.lift (fun _ Kz => jv_Ev.steps jv_i295 2 (pc' := 248) (l' := [(2, .int (1 : Int32)), (7, .int (0 : Int32)), (5, .long ((vl_I f.z).toInt64 - (1 : Int64))), (4, .int (vl_I (8 + (76800 + f.d)))), (3, .int (I 205 (76800 + f.d))), (1, .int (vl_I f.z)), (0, .ref 196)]) (st' := [.int (1 : Int32)]) rfl Kz) ?_
            refine jv_Wp.lift (fun _ Kz => jv_Ev.br jv_i295 (pc' := 251) (st' := []) rfl (by rfl) Kz) ?_
            refine jv_Wp.lift (fun _ Kz => jv_Ev.steps jv_i295 1 (pc' := 252) (l' := [(2, .int (1 : Int32)), (7, .int (0 : Int32)), (5, .long ((vl_I f.z).toInt64 - (1 : Int64))), (4, .int (vl_I (8 + (76800 + f.d)))), (3, .int (I 205 (76800 + f.d))), (1, .int (vl_I f.z)), (0, .ref 196)]) (st' := [.int (1 : Int32)]) rfl Kz) ?_
            refine jv_Wp.of (jv_Ev.ret jv_i295 rfl rfl) ?_
            rw [hQ]
            have td0 : ¬ zd = 0 := fun z => h1 ((vr_isN (L := L) okd hd11).mp ((hd ()).trans z))
            have td7 : zd = 7 := (hd ()).symm.trans ((vr_is (L := L) 7 (by decide) okd).mpr (Classical.not_not.mp h10))
            have ts0 : zs = 0 := (hs ()).symm.trans ((vr_isN (L := L) oks hs11).mpr h20)
            have t00 : z0 = 0 := (h0 ()).symm.trans ((vr_isN (L := L) ok0 (by decide)).mpr h21)
            have ev : vx_even (vr_T I L (76800 + f.d)).val f.o f.z = false := by rw [vr_valv (by rw [(vr_is (L := L) 7 (by decide) okd).mp ((hd ()).trans (by omega))]; rfl), ← vr_dO D, vx_even_r hz]; exact (by rw [decide_eq_false h19]; rfl)
            have r7 := vx_r7' (M := M) (A := (vr_A I L 1024)) (o := f.o) (z := f.z) (w := true) ((hd ()).trans (show zd = 7 by omega))
            rw [hrr ()] at r7
            have e : vx_atp M f (vr_A I L 1024) = (1, (vr_A I L 1024)) := by
              exact vx_at1 (by rw [eD, eS, e0, hd (), hs (), h0 ()]; omega)
            exact ⟨_, _, by rw [← eQ, e]; rfl, fun z => by rw [← eQ, e] at z; exact absurd (show (1 : Nat) = 0 from z) (by omega), vr_fr_refl hf⟩
          · refine jv_Wp.lift (fun _ Kz => jv_Ev.steps jv_i295 2 (pc' := 230) (l' := [(2, .int (1 : Int32)), (7, .int (0 : Int32)), (5, .long ((vl_I f.z).toInt64 - (1 : Int64))), (4, .int (vl_I (8 + (76800 + f.d)))), (3, .int (I 205 (76800 + f.d))), (1, .int (vl_I f.z)), (0, .ref 196)]) (st' := [.int (0 : Int32), .ref 196, .int (1 : Int32)]) rfl Kz) ?_
            refine jv_Wp.lift (fun _ Kz => jv_Ev.c jv_i295 (pc' := 233) (S' := [.int (I 205 (76800 + 0)), .int (1 : Int32)]) jv_i271 [.ref 196, .int (0 : Int32)] rfl rfl rfl rfl (jv_cal rfl (jv_H_at (jv_rwK hW 196 12 24 (by decide))) rfl rfl) rfl (vq_sortOf 0 hW (by omega)) rfl rfl Kz) ?_
            refine jv_Wp.lift (fun _ Kz => jv_Ev.steps jv_i295 1 (pc' := 234) (l' := [(2, .int (1 : Int32)), (7, .int (0 : Int32)), (5, .long ((vl_I f.z).toInt64 - (1 : Int64))), (4, .int (vl_I (8 + (76800 + f.d)))), (3, .int (I 205 (76800 + f.d))), (1, .int (vl_I f.z)), (0, .ref 196)]) (st' := [.int (1 : Int32), .int (I 205 (76800 + 0)), .int (1 : Int32)]) rfl Kz) ?_
            refine jv_Wp.cnd jv_i295 (pt := 242) (pe := 237) (p := ((I 205 (76800 + 0)) = (1 : Int32))) (q := ((I 205 (76800 + 0)) = (1 : Int32))) rfl jv_bc_eq rfl rfl Iff.rfl (fun h22 => ?_) (fun h22 => ?_)
            · refine jv_Wp.lift (fun _ Kz => jv_Ev.steps jv_i295 1 (pc' := 243) (l' := [(2, .int (1 : Int32)), (7, .int (0 : Int32)), (5, .long ((vl_I f.z).toInt64 - (1 : Int64))), (4, .int (vl_I (8 + (76800 + f.d)))), (3, .int (I 205 (76800 + f.d))), (1, .int (vl_I f.z)), (0, .ref 196)]) (st' := [.int (0 : Int32), .int (1 : Int32)]) rfl Kz) ?_
              have Hf147 := vq_first (I := I) (L := L) (K := K) (R := R) (n := n) (sl := sl) 1 0 (by omega) (by omega)
              rw [show vx_fst 1 0 = 1 from by decide] at Hf147
              refine jv_Wp.lift (fun _ Kz => jv_Ev.c jv_i295 (pc' := 246) (S' := [.int (1 : Int32)]) jv_i282 [.int (1 : Int32), .int (0 : Int32)] rfl rfl rfl rfl rfl rfl Hf147 rfl rfl Kz) ?_
              refine jv_Wp.lift (fun _ Kz => jv_Ev.steps jv_i295 2 (pc' := 248) (l' := [(2, .int (1 : Int32)), (7, .int (0 : Int32)), (5, .long ((vl_I f.z).toInt64 - (1 : Int64))), (4, .int (vl_I (8 + (76800 + f.d)))), (3, .int (I 205 (76800 + f.d))), (1, .int (vl_I f.z)), (0, .ref 196)]) (st' := [.int (1 : Int32)]) rfl Kz) ?_
              refine jv_Wp.lift (fun _ Kz => jv_Ev.br jv_i295 (pc' := 251) (st' := []) rfl (by rfl) Kz) ?_
              refine jv_Wp.lift (fun _ Kz => jv_Ev.steps jv_i295 1 (pc' := 252) (l' := [(2, .int (1 : Int32)), (7, .int (0 : Int32)), (5, .long ((vl_I f.z).toInt64 - (1 : Int64))), (4, .int (vl_I (8 + (76800 + f.d)))), (3, .int (I 205 (76800 + f.d))), (1, .int (vl_I f.z)), (0, .ref 196)]) (st' := [.int (1 : Int32)]) rfl Kz) ?_
              refine jv_Wp.of (jv_Ev.ret jv_i295 rfl rfl) ?_
              rw [hQ]
              have td0 : ¬ zd = 0 := fun z => h1 ((vr_isN (L := L) okd hd11).mp ((hd ()).trans z))
              have td7 : zd = 7 := (hd ()).symm.trans ((vr_is (L := L) 7 (by decide) okd).mpr (Classical.not_not.mp h10))
              have ts0 : zs = 0 := (hs ()).symm.trans ((vr_isN (L := L) oks hs11).mpr h20)
              have t00 : ¬ z0 = 0 := fun z => h21 ((vr_isN (L := L) ok0 (by decide)).mp ((h0 ()).trans z))
              have t01 : z0 = 1 := (h0 ()).symm.trans ((vr_is (L := L) 1 (by decide) ok0).mpr h22)
              have ev : vx_even (vr_T I L (76800 + f.d)).val f.o f.z = false := by rw [vr_valv (by rw [(vr_is (L := L) 7 (by decide) okd).mp ((hd ()).trans (by omega))]; rfl), ← vr_dO D, vx_even_r hz]; exact (by rw [decide_eq_false h19]; rfl)
              have r7 := vx_r7' (M := M) (A := (vr_A I L 1024)) (o := f.o) (z := f.z) (w := true) ((hd ()).trans (show zd = 7 by omega))
              rw [hrr ()] at r7
              have e : vx_atp M f (vr_A I L 1024) = (1, (vr_A I L 1024)) := by
                exact vx_at1 (by rw [eD, eS, e0, hd (), hs (), h0 ()]; omega)
              exact ⟨_, _, by rw [← eQ, e]; rfl, fun z => by rw [← eQ, e] at z; exact absurd (show (1 : Nat) = 0 from z) (by omega), vr_fr_refl hf⟩
            · refine jv_Wp.lift (fun _ Kz => jv_Ev.steps jv_i295 2 (pc' := 243) (l' := [(2, .int (1 : Int32)), (7, .int (0 : Int32)), (5, .long ((vl_I f.z).toInt64 - (1 : Int64))), (4, .int (vl_I (8 + (76800 + f.d)))), (3, .int (I 205 (76800 + f.d))), (1, .int (vl_I f.z)), (0, .ref 196)]) (st' := [.int (6 : Int32), .int (1 : Int32)]) rfl Kz) ?_
              have Hf148 := vq_first (I := I) (L := L) (K := K) (R := R) (n := n) (sl := sl) 1 6 (by omega) (by omega)
              rw [show vx_fst 1 6 = 1 from by decide] at Hf148
              refine jv_Wp.lift (fun _ Kz => jv_Ev.c jv_i295 (pc' := 246) (S' := [.int (1 : Int32)]) jv_i282 [.int (1 : Int32), .int (6 : Int32)] rfl rfl rfl rfl rfl rfl Hf148 rfl rfl Kz) ?_
              refine jv_Wp.lift (fun _ Kz => jv_Ev.steps jv_i295 2 (pc' := 248) (l' := [(2, .int (1 : Int32)), (7, .int (0 : Int32)), (5, .long ((vl_I f.z).toInt64 - (1 : Int64))), (4, .int (vl_I (8 + (76800 + f.d)))), (3, .int (I 205 (76800 + f.d))), (1, .int (vl_I f.z)), (0, .ref 196)]) (st' := [.int (1 : Int32)]) rfl Kz) ?_
              refine jv_Wp.lift (fun _ Kz => jv_Ev.br jv_i295 (pc' := 251) (st' := []) rfl (by rfl) Kz) ?_
              refine jv_Wp.lift (fun _ Kz => jv_Ev.steps jv_i295 1 (pc' := 252) (l' := [(2, .int (1 : Int32)), (7, .int (0 : Int32)), (5, .long ((vl_I f.z).toInt64 - (1 : Int64))), (4, .int (vl_I (8 + (76800 + f.d)))), (3, .int (I 205 (76800 + f.d))), (1, .int (vl_I f.z)), (0, .ref 196)]) (st' := [.int (1 : Int32)]) rfl Kz) ?_
              refine jv_Wp.of (jv_Ev.ret jv_i295 rfl rfl) ?_
              rw [hQ]
              have td0 : ¬ zd = 0 := fun z => h1 ((vr_isN (L := L) okd hd11).mp ((hd ()).trans z))
              have td7 : zd = 7 := (hd ()).symm.trans ((vr_is (L := L) 7 (by decide) okd).mpr (Classical.not_not.mp h10))
              have ts0 : zs = 0 := (hs ()).symm.trans ((vr_isN (L := L) oks hs11).mpr h20)
              have t00 : ¬ z0 = 0 := fun z => h21 ((vr_isN (L := L) ok0 (by decide)).mp ((h0 ()).trans z))
              have t01 : ¬ z0 = 1 := fun z => h22 ((vr_is (L := L) 1 (by decide) ok0).mp ((h0 ()).trans z))
              have ev : vx_even (vr_T I L (76800 + f.d)).val f.o f.z = false := by rw [vr_valv (by rw [(vr_is (L := L) 7 (by decide) okd).mp ((hd ()).trans (by omega))]; rfl), ← vr_dO D, vx_even_r hz]; exact (by rw [decide_eq_false h19]; rfl)
              have r7 := vx_r7' (M := M) (A := (vr_A I L 1024)) (o := f.o) (z := f.z) (w := true) ((hd ()).trans (show zd = 7 by omega))
              rw [hrr ()] at r7
              have e : vx_atp M f (vr_A I L 1024) = (1, (vr_A I L 1024)) := by
                exact vx_at1 (by rw [eD, eS, e0, hd (), hs (), h0 ()]; omega)
              exact ⟨_, _, by rw [← eQ, e]; rfl, fun z => by rw [← eQ, e] at z; exact absurd (show (1 : Nat) = 0 from z) (by omega), vr_fr_refl hf⟩
        · refine jv_Wp.lift (fun _ Kz => jv_Ev.steps jv_i295 2 (pc' := 189) (l' := [(2, .int (1 : Int32)), (7, .int (0 : Int32)), (5, .long ((vl_I f.z).toInt64 - (1 : Int64))), (4, .int (vl_I (8 + (76800 + f.d)))), (3, .int (I 205 (76800 + f.d))), (1, .int (vl_I f.z)), (0, .ref 196)]) (st' := [.ref 196, .ref 196, .int (1 : Int32)]) rfl Kz) ?_
          refine jv_Wp.lift (fun _ Kz => jv_Ev.m jv_i295 (pc' := 192) (st' := [.int (vl_I f.s), .ref 196, .int (1 : Int32)]) (G' := (jv_H K I L R)) rfl rfl (jv_m_getI (jv_rwK hW 196 12 24 (by decide)) rfl rfl D.2.2.1) Kz) ?_
          refine jv_Wp.lift (fun _ Kz => jv_Ev.c jv_i295 (pc' := 195) (S' := [.int (I 205 (76800 + f.s)), .int (1 : Int32)]) jv_i271 [.ref 196, .int (vl_I f.s)] rfl rfl rfl rfl (jv_cal rfl (jv_H_at (jv_rwK hW 196 12 24 (by decide))) rfl rfl) rfl (vq_sortOf f.s hW (by omega)) rfl rfl Kz) ?_
          refine jv_Wp.lift (fun _ Kz => jv_Ev.steps jv_i295 1 (pc' := 196) (l' := [(2, .int (1 : Int32)), (7, .int (0 : Int32)), (5, .long ((vl_I f.z).toInt64 - (1 : Int64))), (4, .int (vl_I (8 + (76800 + f.d)))), (3, .int (I 205 (76800 + f.d))), (1, .int (vl_I f.z)), (0, .ref 196)]) (st' := [.int (1 : Int32), .int (I 205 (76800 + f.s)), .int (1 : Int32)]) rfl Kz) ?_
          refine jv_Wp.cnd jv_i295 (pt := 204) (pe := 199) (p := ((I 205 (76800 + f.s)) = (1 : Int32))) (q := ((I 205 (76800 + f.s)) = (1 : Int32))) rfl jv_bc_eq rfl rfl Iff.rfl (fun h23 => ?_) (fun h23 => ?_)
          · refine jv_Wp.lift (fun _ Kz => jv_Ev.steps jv_i295 1 (pc' := 205) (l' := [(2, .int (1 : Int32)), (7, .int (0 : Int32)), (5, .long ((vl_I f.z).toInt64 - (1 : Int64))), (4, .int (vl_I (8 + (76800 + f.d)))), (3, .int (I 205 (76800 + f.d))), (1, .int (vl_I f.z)), (0, .ref 196)]) (st' := [.int (0 : Int32), .int (1 : Int32)]) rfl Kz) ?_
            have Hf149 := vq_first (I := I) (L := L) (K := K) (R := R) (n := n) (sl := sl) 1 0 (by omega) (by omega)
            rw [show vx_fst 1 0 = 1 from by decide] at Hf149
            refine jv_Wp.lift (fun _ Kz => jv_Ev.c jv_i295 (pc' := 208) (S' := [.int (1 : Int32)]) jv_i282 [.int (1 : Int32), .int (0 : Int32)] rfl rfl rfl rfl rfl rfl Hf149 rfl rfl Kz) ?_
            refine jv_Wp.lift (fun _ Kz => jv_Ev.steps jv_i295 3 (pc' := 211) (l' := [(2, .int (1 : Int32)), (7, .int (0 : Int32)), (5, .long ((vl_I f.z).toInt64 - (1 : Int64))), (4, .int (vl_I (8 + (76800 + f.d)))), (3, .int (I 205 (76800 + f.d))), (1, .int (vl_I f.z)), (0, .ref 196)]) (st' := [.ref 196, .int (1 : Int32)]) rfl Kz) ?_
            refine jv_Wp.lift (fun _ Kz => jv_Ev.m jv_i295 (pc' := 214) (st' := [.int (Int32.ofInt f.i), .int (1 : Int32)]) (G' := (jv_H K I L R)) rfl rfl (jv_m_getI (jv_rwK hW 196 12 24 (by decide)) rfl rfl (vr_dJ D)) Kz) ?_
            refine jv_Wp.lift (fun _ Kz => jv_Ev.steps jv_i295 1 (pc' := 217) (l' := [(2, .int (1 : Int32)), (7, .int (0 : Int32)), (5, .long ((vl_I f.z).toInt64 - (1 : Int64))), (4, .int (vl_I (8 + (76800 + f.d)))), (3, .int (I 205 (76800 + f.d))), (1, .int (vl_I f.z)), (0, .ref 196)]) (st' := [.int (241 : Int32), .int (Int32.ofInt f.i), .int (1 : Int32)]) rfl Kz) ?_
            refine jv_Wp.cnd jv_i295 (pt := 242) (pe := 220) (p := (¬ (Int32.ofInt f.i) = (241 : Int32))) (q := (¬ (Int32.ofInt f.i) = (241 : Int32))) rfl jv_bc_ne rfl rfl Iff.rfl (fun hz => absurd hz (fun z => z h241)) (fun _ => ?_)
            refine jv_Wp.lift (fun _ Kz => jv_Ev.steps jv_i295 2 (pc' := 222) (l' := [(2, .int (1 : Int32)), (7, .int (0 : Int32)), (5, .long ((vl_I f.z).toInt64 - (1 : Int64))), (4, .int (vl_I (8 + (76800 + f.d)))), (3, .int (I 205 (76800 + f.d))), (1, .int (vl_I f.z)), (0, .ref 196)]) (st' := [.int (0 : Int32), .ref 196, .int (1 : Int32)]) rfl Kz) ?_
            refine jv_Wp.lift (fun _ Kz => jv_Ev.c jv_i295 (pc' := 225) (S' := [.int (I 205 (76800 + 0)), .int (1 : Int32)]) jv_i271 [.ref 196, .int (0 : Int32)] rfl rfl rfl rfl (jv_cal rfl (jv_H_at (jv_rwK hW 196 12 24 (by decide))) rfl rfl) rfl (vq_sortOf 0 hW (by omega)) rfl rfl Kz) ?_
            refine jv_Wp.cnd jv_i295 (pt := 242) (pe := 228) (p := ((I 205 (76800 + 0)) = 0)) (q := ((I 205 (76800 + 0)) = 0)) rfl jv_bi_eq rfl rfl Iff.rfl (fun h24 => ?_) (fun h24 => ?_)
            · refine jv_Wp.lift (fun _ Kz => jv_Ev.steps jv_i295 1 (pc' := 243) (l' := [(2, .int (1 : Int32)), (7, .int (0 : Int32)), (5, .long ((vl_I f.z).toInt64 - (1 : Int64))), (4, .int (vl_I (8 + (76800 + f.d)))), (3, .int (I 205 (76800 + f.d))), (1, .int (vl_I f.z)), (0, .ref 196)]) (st' := [.int (0 : Int32), .int (1 : Int32)]) rfl Kz) ?_
              have Hf150 := vq_first (I := I) (L := L) (K := K) (R := R) (n := n) (sl := sl) 1 0 (by omega) (by omega)
              rw [show vx_fst 1 0 = 1 from by decide] at Hf150
              refine jv_Wp.lift (fun _ Kz => jv_Ev.c jv_i295 (pc' := 246) (S' := [.int (1 : Int32)]) jv_i282 [.int (1 : Int32), .int (0 : Int32)] rfl rfl rfl rfl rfl rfl Hf150 rfl rfl Kz) ?_
              refine jv_Wp.lift (fun _ Kz => jv_Ev.steps jv_i295 2 (pc' := 248) (l' := [(2, .int (1 : Int32)), (7, .int (0 : Int32)), (5, .long ((vl_I f.z).toInt64 - (1 : Int64))), (4, .int (vl_I (8 + (76800 + f.d)))), (3, .int (I 205 (76800 + f.d))), (1, .int (vl_I f.z)), (0, .ref 196)]) (st' := [.int (1 : Int32)]) rfl Kz) ?_
              refine jv_Wp.lift (fun _ Kz => jv_Ev.br jv_i295 (pc' := 251) (st' := []) rfl (by rfl) Kz) ?_
              refine jv_Wp.lift (fun _ Kz => jv_Ev.steps jv_i295 1 (pc' := 252) (l' := [(2, .int (1 : Int32)), (7, .int (0 : Int32)), (5, .long ((vl_I f.z).toInt64 - (1 : Int64))), (4, .int (vl_I (8 + (76800 + f.d)))), (3, .int (I 205 (76800 + f.d))), (1, .int (vl_I f.z)), (0, .ref 196)]) (st' := [.int (1 : Int32)]) rfl Kz) ?_
              refine jv_Wp.of (jv_Ev.ret jv_i295 rfl rfl) ?_
              rw [hQ]
              have td0 : ¬ zd = 0 := fun z => h1 ((vr_isN (L := L) okd hd11).mp ((hd ()).trans z))
              have td7 : zd = 7 := (hd ()).symm.trans ((vr_is (L := L) 7 (by decide) okd).mpr (Classical.not_not.mp h10))
              have ts0 : ¬ zs = 0 := fun z => h20 ((vr_isN (L := L) oks hs11).mp ((hs ()).trans z))
              have ts1 : zs = 1 := (hs ()).symm.trans ((vr_is (L := L) 1 (by decide) oks).mpr h23)
              have t00 : z0 = 0 := (h0 ()).symm.trans ((vr_isN (L := L) ok0 (by decide)).mpr h24)
              have ev : vx_even (vr_T I L (76800 + f.d)).val f.o f.z = false := by rw [vr_valv (by rw [(vr_is (L := L) 7 (by decide) okd).mp ((hd ()).trans (by omega))]; rfl), ← vr_dO D, vx_even_r hz]; exact (by rw [decide_eq_false h19]; rfl)
              have r7 := vx_r7' (M := M) (A := (vr_A I L 1024)) (o := f.o) (z := f.z) (w := true) ((hd ()).trans (show zd = 7 by omega))
              rw [hrr ()] at r7
              have e : vx_atp M f (vr_A I L 1024) = (1, (vr_A I L 1024)) := by
                exact vx_at1 (by rw [eD, eS, e0, hd (), hs (), h0 ()]; omega)
              exact ⟨_, _, by rw [← eQ, e]; rfl, fun z => by rw [← eQ, e] at z; exact absurd (show (1 : Nat) = 0 from z) (by omega), vr_fr_refl hf⟩
            · refine jv_Wp.lift (fun _ Kz => jv_Ev.steps jv_i295 2 (pc' := 230) (l' := [(2, .int (1 : Int32)), (7, .int (0 : Int32)), (5, .long ((vl_I f.z).toInt64 - (1 : Int64))), (4, .int (vl_I (8 + (76800 + f.d)))), (3, .int (I 205 (76800 + f.d))), (1, .int (vl_I f.z)), (0, .ref 196)]) (st' := [.int (0 : Int32), .ref 196, .int (1 : Int32)]) rfl Kz) ?_
              refine jv_Wp.lift (fun _ Kz => jv_Ev.c jv_i295 (pc' := 233) (S' := [.int (I 205 (76800 + 0)), .int (1 : Int32)]) jv_i271 [.ref 196, .int (0 : Int32)] rfl rfl rfl rfl (jv_cal rfl (jv_H_at (jv_rwK hW 196 12 24 (by decide))) rfl rfl) rfl (vq_sortOf 0 hW (by omega)) rfl rfl Kz) ?_
              refine jv_Wp.lift (fun _ Kz => jv_Ev.steps jv_i295 1 (pc' := 234) (l' := [(2, .int (1 : Int32)), (7, .int (0 : Int32)), (5, .long ((vl_I f.z).toInt64 - (1 : Int64))), (4, .int (vl_I (8 + (76800 + f.d)))), (3, .int (I 205 (76800 + f.d))), (1, .int (vl_I f.z)), (0, .ref 196)]) (st' := [.int (1 : Int32), .int (I 205 (76800 + 0)), .int (1 : Int32)]) rfl Kz) ?_
              refine jv_Wp.cnd jv_i295 (pt := 242) (pe := 237) (p := ((I 205 (76800 + 0)) = (1 : Int32))) (q := ((I 205 (76800 + 0)) = (1 : Int32))) rfl jv_bc_eq rfl rfl Iff.rfl (fun h25 => ?_) (fun h25 => ?_)
              · refine jv_Wp.lift (fun _ Kz => jv_Ev.steps jv_i295 1 (pc' := 243) (l' := [(2, .int (1 : Int32)), (7, .int (0 : Int32)), (5, .long ((vl_I f.z).toInt64 - (1 : Int64))), (4, .int (vl_I (8 + (76800 + f.d)))), (3, .int (I 205 (76800 + f.d))), (1, .int (vl_I f.z)), (0, .ref 196)]) (st' := [.int (0 : Int32), .int (1 : Int32)]) rfl Kz) ?_
                have Hf151 := vq_first (I := I) (L := L) (K := K) (R := R) (n := n) (sl := sl) 1 0 (by omega) (by omega)
                rw [show vx_fst 1 0 = 1 from by decide] at Hf151
                refine jv_Wp.lift (fun _ Kz => jv_Ev.c jv_i295 (pc' := 246) (S' := [.int (1 : Int32)]) jv_i282 [.int (1 : Int32), .int (0 : Int32)] rfl rfl rfl rfl rfl rfl Hf151 rfl rfl Kz) ?_
                refine jv_Wp.lift (fun _ Kz => jv_Ev.steps jv_i295 2 (pc' := 248) (l' := [(2, .int (1 : Int32)), (7, .int (0 : Int32)), (5, .long ((vl_I f.z).toInt64 - (1 : Int64))), (4, .int (vl_I (8 + (76800 + f.d)))), (3, .int (I 205 (76800 + f.d))), (1, .int (vl_I f.z)), (0, .ref 196)]) (st' := [.int (1 : Int32)]) rfl Kz) ?_
                refine jv_Wp.lift (fun _ Kz => jv_Ev.br jv_i295 (pc' := 251) (st' := []) rfl (by rfl) Kz) ?_
                refine jv_Wp.lift (fun _ Kz => jv_Ev.steps jv_i295 1 (pc' := 252) (l' := [(2, .int (1 : Int32)), (7, .int (0 : Int32)), (5, .long ((vl_I f.z).toInt64 - (1 : Int64))), (4, .int (vl_I (8 + (76800 + f.d)))), (3, .int (I 205 (76800 + f.d))), (1, .int (vl_I f.z)), (0, .ref 196)]) (st' := [.int (1 : Int32)]) rfl Kz) ?_
                refine jv_Wp.of (jv_Ev.ret jv_i295 rfl rfl) ?_
                rw [hQ]
                have td0 : ¬ zd = 0 := fun z => h1 ((vr_isN (L := L) okd hd11).mp ((hd ()).trans z))
                have td7 : zd = 7 := (hd ()).symm.trans ((vr_is (L := L) 7 (by decide) okd).mpr (Classical.not_not.mp h10))
                have ts0 : ¬ zs = 0 := fun z => h20 ((vr_isN (L := L) oks hs11).mp ((hs ()).trans z))
                have ts1 : zs = 1 := (hs ()).symm.trans ((vr_is (L := L) 1 (by decide) oks).mpr h23)
                have t00 : ¬ z0 = 0 := fun z => h24 ((vr_isN (L := L) ok0 (by decide)).mp ((h0 ()).trans z))
                have t01 : z0 = 1 := (h0 ()).symm.trans ((vr_is (L := L) 1 (by decide) ok0).mpr h25)
                have ev : vx_even (vr_T I L (76800 + f.d)).val f.o f.z = false := by rw [vr_valv (by rw [(vr_is (L := L) 7 (by decide) okd).mp ((hd ()).trans (by omega))]; rfl), ← vr_dO D, vx_even_r hz]; exact (by rw [decide_eq_false h19]; rfl)
                have r7 := vx_r7' (M := M) (A := (vr_A I L 1024)) (o := f.o) (z := f.z) (w := true) ((hd ()).trans (show zd = 7 by omega))
                rw [hrr ()] at r7
                have e : vx_atp M f (vr_A I L 1024) = (1, (vr_A I L 1024)) := by
                  exact vx_at1 (by rw [eD, eS, e0, hd (), hs (), h0 ()]; omega)
                exact ⟨_, _, by rw [← eQ, e]; rfl, fun z => by rw [← eQ, e] at z; exact absurd (show (1 : Nat) = 0 from z) (by omega), vr_fr_refl hf⟩
              · refine jv_Wp.lift (fun _ Kz => jv_Ev.steps jv_i295 2 (pc' := 243) (l' := [(2, .int (1 : Int32)), (7, .int (0 : Int32)), (5, .long ((vl_I f.z).toInt64 - (1 : Int64))), (4, .int (vl_I (8 + (76800 + f.d)))), (3, .int (I 205 (76800 + f.d))), (1, .int (vl_I f.z)), (0, .ref 196)]) (st' := [.int (6 : Int32), .int (1 : Int32)]) rfl Kz) ?_
                have Hf152 := vq_first (I := I) (L := L) (K := K) (R := R) (n := n) (sl := sl) 1 6 (by omega) (by omega)
                rw [show vx_fst 1 6 = 1 from by decide] at Hf152
                refine jv_Wp.lift (fun _ Kz => jv_Ev.c jv_i295 (pc' := 246) (S' := [.int (1 : Int32)]) jv_i282 [.int (1 : Int32), .int (6 : Int32)] rfl rfl rfl rfl rfl rfl Hf152 rfl rfl Kz) ?_
                refine jv_Wp.lift (fun _ Kz => jv_Ev.steps jv_i295 2 (pc' := 248) (l' := [(2, .int (1 : Int32)), (7, .int (0 : Int32)), (5, .long ((vl_I f.z).toInt64 - (1 : Int64))), (4, .int (vl_I (8 + (76800 + f.d)))), (3, .int (I 205 (76800 + f.d))), (1, .int (vl_I f.z)), (0, .ref 196)]) (st' := [.int (1 : Int32)]) rfl Kz) ?_
                refine jv_Wp.lift (fun _ Kz => jv_Ev.br jv_i295 (pc' := 251) (st' := []) rfl (by rfl) Kz) ?_
                refine jv_Wp.lift (fun _ Kz => jv_Ev.steps jv_i295 1 (pc' := 252) (l' := [(2, .int (1 : Int32)), (7, .int (0 : Int32)), (5, .long ((vl_I f.z).toInt64 - (1 : Int64))), (4, .int (vl_I (8 + (76800 + f.d)))), (3, .int (I 205 (76800 + f.d))), (1, .int (vl_I f.z)), (0, .ref 196)]) (st' := [.int (1 : Int32)]) rfl Kz) ?_
                refine jv_Wp.of (jv_Ev.ret jv_i295 rfl rfl) ?_
                rw [hQ]
                have td0 : ¬ zd = 0 := fun z => h1 ((vr_isN (L := L) okd hd11).mp ((hd ()).trans z))
                have td7 : zd = 7 := (hd ()).symm.trans ((vr_is (L := L) 7 (by decide) okd).mpr (Classical.not_not.mp h10))
                have ts0 : ¬ zs = 0 := fun z => h20 ((vr_isN (L := L) oks hs11).mp ((hs ()).trans z))
                have ts1 : zs = 1 := (hs ()).symm.trans ((vr_is (L := L) 1 (by decide) oks).mpr h23)
                have t00 : ¬ z0 = 0 := fun z => h24 ((vr_isN (L := L) ok0 (by decide)).mp ((h0 ()).trans z))
                have t01 : ¬ z0 = 1 := fun z => h25 ((vr_is (L := L) 1 (by decide) ok0).mp ((h0 ()).trans z))
                have ev : vx_even (vr_T I L (76800 + f.d)).val f.o f.z = false := by rw [vr_valv (by rw [(vr_is (L := L) 7 (by decide) okd).mp ((hd ()).trans (by omega))]; rfl), ← vr_dO D, vx_even_r hz]; exact (by rw [decide_eq_false h19]; rfl)
                have r7 := vx_r7' (M := M) (A := (vr_A I L 1024)) (o := f.o) (z := f.z) (w := true) ((hd ()).trans (show zd = 7 by omega))
                rw [hrr ()] at r7
                have e : vx_atp M f (vr_A I L 1024) = (1, (vr_A I L 1024)) := by
                  exact vx_at1 (by rw [eD, eS, e0, hd (), hs (), h0 ()]; omega)
                exact ⟨_, _, by rw [← eQ, e]; rfl, fun z => by rw [← eQ, e] at z; exact absurd (show (1 : Nat) = 0 from z) (by omega), vr_fr_refl hf⟩
          · refine jv_Wp.lift (fun _ Kz => jv_Ev.steps jv_i295 2 (pc' := 205) (l' := [(2, .int (1 : Int32)), (7, .int (0 : Int32)), (5, .long ((vl_I f.z).toInt64 - (1 : Int64))), (4, .int (vl_I (8 + (76800 + f.d)))), (3, .int (I 205 (76800 + f.d))), (1, .int (vl_I f.z)), (0, .ref 196)]) (st' := [.int (6 : Int32), .int (1 : Int32)]) rfl Kz) ?_
            have Hf153 := vq_first (I := I) (L := L) (K := K) (R := R) (n := n) (sl := sl) 1 6 (by omega) (by omega)
            rw [show vx_fst 1 6 = 1 from by decide] at Hf153
            refine jv_Wp.lift (fun _ Kz => jv_Ev.c jv_i295 (pc' := 208) (S' := [.int (1 : Int32)]) jv_i282 [.int (1 : Int32), .int (6 : Int32)] rfl rfl rfl rfl rfl rfl Hf153 rfl rfl Kz) ?_
            refine jv_Wp.lift (fun _ Kz => jv_Ev.steps jv_i295 3 (pc' := 211) (l' := [(2, .int (1 : Int32)), (7, .int (0 : Int32)), (5, .long ((vl_I f.z).toInt64 - (1 : Int64))), (4, .int (vl_I (8 + (76800 + f.d)))), (3, .int (I 205 (76800 + f.d))), (1, .int (vl_I f.z)), (0, .ref 196)]) (st' := [.ref 196, .int (1 : Int32)]) rfl Kz) ?_
            refine jv_Wp.lift (fun _ Kz => jv_Ev.m jv_i295 (pc' := 214) (st' := [.int (Int32.ofInt f.i), .int (1 : Int32)]) (G' := (jv_H K I L R)) rfl rfl (jv_m_getI (jv_rwK hW 196 12 24 (by decide)) rfl rfl (vr_dJ D)) Kz) ?_
            refine jv_Wp.lift (fun _ Kz => jv_Ev.steps jv_i295 1 (pc' := 217) (l' := [(2, .int (1 : Int32)), (7, .int (0 : Int32)), (5, .long ((vl_I f.z).toInt64 - (1 : Int64))), (4, .int (vl_I (8 + (76800 + f.d)))), (3, .int (I 205 (76800 + f.d))), (1, .int (vl_I f.z)), (0, .ref 196)]) (st' := [.int (241 : Int32), .int (Int32.ofInt f.i), .int (1 : Int32)]) rfl Kz) ?_
            refine jv_Wp.cnd jv_i295 (pt := 242) (pe := 220) (p := (¬ (Int32.ofInt f.i) = (241 : Int32))) (q := (¬ (Int32.ofInt f.i) = (241 : Int32))) rfl jv_bc_ne rfl rfl Iff.rfl (fun hz => absurd hz (fun z => z h241)) (fun _ => ?_)
            refine jv_Wp.lift (fun _ Kz => jv_Ev.steps jv_i295 2 (pc' := 222) (l' := [(2, .int (1 : Int32)), (7, .int (0 : Int32)), (5, .long ((vl_I f.z).toInt64 - (1 : Int64))), (4, .int (vl_I (8 + (76800 + f.d)))), (3, .int (I 205 (76800 + f.d))), (1, .int (vl_I f.z)), (0, .ref 196)]) (st' := [.int (0 : Int32), .ref 196, .int (1 : Int32)]) rfl Kz) ?_
            refine jv_Wp.lift (fun _ Kz => jv_Ev.c jv_i295 (pc' := 225) (S' := [.int (I 205 (76800 + 0)), .int (1 : Int32)]) jv_i271 [.ref 196, .int (0 : Int32)] rfl rfl rfl rfl (jv_cal rfl (jv_H_at (jv_rwK hW 196 12 24 (by decide))) rfl rfl) rfl (vq_sortOf 0 hW (by omega)) rfl rfl Kz) ?_
            refine jv_Wp.cnd jv_i295 (pt := 242) (pe := 228) (p := ((I 205 (76800 + 0)) = 0)) (q := ((I 205 (76800 + 0)) = 0)) rfl jv_bi_eq rfl rfl Iff.rfl (fun h26 => ?_) (fun h26 => ?_)
            · refine jv_Wp.lift (fun _ Kz => jv_Ev.steps jv_i295 1 (pc' := 243) (l' := [(2, .int (1 : Int32)), (7, .int (0 : Int32)), (5, .long ((vl_I f.z).toInt64 - (1 : Int64))), (4, .int (vl_I (8 + (76800 + f.d)))), (3, .int (I 205 (76800 + f.d))), (1, .int (vl_I f.z)), (0, .ref 196)]) (st' := [.int (0 : Int32), .int (1 : Int32)]) rfl Kz) ?_
              have Hf154 := vq_first (I := I) (L := L) (K := K) (R := R) (n := n) (sl := sl) 1 0 (by omega) (by omega)
              rw [show vx_fst 1 0 = 1 from by decide] at Hf154
              refine jv_Wp.lift (fun _ Kz => jv_Ev.c jv_i295 (pc' := 246) (S' := [.int (1 : Int32)]) jv_i282 [.int (1 : Int32), .int (0 : Int32)] rfl rfl rfl rfl rfl rfl Hf154 rfl rfl Kz) ?_
              refine jv_Wp.lift (fun _ Kz => jv_Ev.steps jv_i295 2 (pc' := 248) (l' := [(2, .int (1 : Int32)), (7, .int (0 : Int32)), (5, .long ((vl_I f.z).toInt64 - (1 : Int64))), (4, .int (vl_I (8 + (76800 + f.d)))), (3, .int (I 205 (76800 + f.d))), (1, .int (vl_I f.z)), (0, .ref 196)]) (st' := [.int (1 : Int32)]) rfl Kz) ?_
              refine jv_Wp.lift (fun _ Kz => jv_Ev.br jv_i295 (pc' := 251) (st' := []) rfl (by rfl) Kz) ?_
              refine jv_Wp.lift (fun _ Kz => jv_Ev.steps jv_i295 1 (pc' := 252) (l' := [(2, .int (1 : Int32)), (7, .int (0 : Int32)), (5, .long ((vl_I f.z).toInt64 - (1 : Int64))), (4, .int (vl_I (8 + (76800 + f.d)))), (3, .int (I 205 (76800 + f.d))), (1, .int (vl_I f.z)), (0, .ref 196)]) (st' := [.int (1 : Int32)]) rfl Kz) ?_
              refine jv_Wp.of (jv_Ev.ret jv_i295 rfl rfl) ?_
              rw [hQ]
              have td0 : ¬ zd = 0 := fun z => h1 ((vr_isN (L := L) okd hd11).mp ((hd ()).trans z))
              have td7 : zd = 7 := (hd ()).symm.trans ((vr_is (L := L) 7 (by decide) okd).mpr (Classical.not_not.mp h10))
              have ts0 : ¬ zs = 0 := fun z => h20 ((vr_isN (L := L) oks hs11).mp ((hs ()).trans z))
              have ts1 : ¬ zs = 1 := fun z => h23 ((vr_is (L := L) 1 (by decide) oks).mp ((hs ()).trans z))
              have t00 : z0 = 0 := (h0 ()).symm.trans ((vr_isN (L := L) ok0 (by decide)).mpr h26)
              have ev : vx_even (vr_T I L (76800 + f.d)).val f.o f.z = false := by rw [vr_valv (by rw [(vr_is (L := L) 7 (by decide) okd).mp ((hd ()).trans (by omega))]; rfl), ← vr_dO D, vx_even_r hz]; exact (by rw [decide_eq_false h19]; rfl)
              have r7 := vx_r7' (M := M) (A := (vr_A I L 1024)) (o := f.o) (z := f.z) (w := true) ((hd ()).trans (show zd = 7 by omega))
              rw [hrr ()] at r7
              have e : vx_atp M f (vr_A I L 1024) = (1, (vr_A I L 1024)) := by
                exact vx_at1 (by rw [eD, eS, e0, hd (), hs (), h0 ()]; omega)
              exact ⟨_, _, by rw [← eQ, e]; rfl, fun z => by rw [← eQ, e] at z; exact absurd (show (1 : Nat) = 0 from z) (by omega), vr_fr_refl hf⟩
            · refine jv_Wp.lift (fun _ Kz => jv_Ev.steps jv_i295 2 (pc' := 230) (l' := [(2, .int (1 : Int32)), (7, .int (0 : Int32)), (5, .long ((vl_I f.z).toInt64 - (1 : Int64))), (4, .int (vl_I (8 + (76800 + f.d)))), (3, .int (I 205 (76800 + f.d))), (1, .int (vl_I f.z)), (0, .ref 196)]) (st' := [.int (0 : Int32), .ref 196, .int (1 : Int32)]) rfl Kz) ?_
              refine jv_Wp.lift (fun _ Kz => jv_Ev.c jv_i295 (pc' := 233) (S' := [.int (I 205 (76800 + 0)), .int (1 : Int32)]) jv_i271 [.ref 196, .int (0 : Int32)] rfl rfl rfl rfl (jv_cal rfl (jv_H_at (jv_rwK hW 196 12 24 (by decide))) rfl rfl) rfl (vq_sortOf 0 hW (by omega)) rfl rfl Kz) ?_
              refine jv_Wp.lift (fun _ Kz => jv_Ev.steps jv_i295 1 (pc' := 234) (l' := [(2, .int (1 : Int32)), (7, .int (0 : Int32)), (5, .long ((vl_I f.z).toInt64 - (1 : Int64))), (4, .int (vl_I (8 + (76800 + f.d)))), (3, .int (I 205 (76800 + f.d))), (1, .int (vl_I f.z)), (0, .ref 196)]) (st' := [.int (1 : Int32), .int (I 205 (76800 + 0)), .int (1 : Int32)]) rfl Kz) ?_
              refine jv_Wp.cnd jv_i295 (pt := 242) (pe := 237) (p := ((I 205 (76800 + 0)) = (1 : Int32))) (q := ((I 205 (76800 + 0)) = (1 : Int32))) rfl jv_bc_eq rfl rfl Iff.rfl (fun h27 => ?_) (fun h27 => ?_)
              · refine jv_Wp.lift (fun _ Kz => jv_Ev.steps jv_i295 1 (pc' := 243) (l' := [(2, .int (1 : Int32)), (7, .int (0 : Int32)), (5, .long ((vl_I f.z).toInt64 - (1 : Int64))), (4, .int (vl_I (8 + (76800 + f.d)))), (3, .int (I 205 (76800 + f.d))), (1, .int (vl_I f.z)), (0, .ref 196)]) (st' := [.int (0 : Int32), .int (1 : Int32)]) rfl Kz) ?_
                have Hf155 := vq_first (I := I) (L := L) (K := K) (R := R) (n := n) (sl := sl) 1 0 (by omega) (by omega)
                rw [show vx_fst 1 0 = 1 from by decide] at Hf155
                refine jv_Wp.lift (fun _ Kz => jv_Ev.c jv_i295 (pc' := 246) (S' := [.int (1 : Int32)]) jv_i282 [.int (1 : Int32), .int (0 : Int32)] rfl rfl rfl rfl rfl rfl Hf155 rfl rfl Kz) ?_
                refine jv_Wp.lift (fun _ Kz => jv_Ev.steps jv_i295 2 (pc' := 248) (l' := [(2, .int (1 : Int32)), (7, .int (0 : Int32)), (5, .long ((vl_I f.z).toInt64 - (1 : Int64))), (4, .int (vl_I (8 + (76800 + f.d)))), (3, .int (I 205 (76800 + f.d))), (1, .int (vl_I f.z)), (0, .ref 196)]) (st' := [.int (1 : Int32)]) rfl Kz) ?_
                refine jv_Wp.lift (fun _ Kz => jv_Ev.br jv_i295 (pc' := 251) (st' := []) rfl (by rfl) Kz) ?_
                refine jv_Wp.lift (fun _ Kz => jv_Ev.steps jv_i295 1 (pc' := 252) (l' := [(2, .int (1 : Int32)), (7, .int (0 : Int32)), (5, .long ((vl_I f.z).toInt64 - (1 : Int64))), (4, .int (vl_I (8 + (76800 + f.d)))), (3, .int (I 205 (76800 + f.d))), (1, .int (vl_I f.z)), (0, .ref 196)]) (st' := [.int (1 : Int32)]) rfl Kz) ?_
                refine jv_Wp.of (jv_Ev.ret jv_i295 rfl rfl) ?_
                rw [hQ]
                have td0 : ¬ zd = 0 := fun z => h1 ((vr_isN (L := L) okd hd11).mp ((hd ()).trans z))
                have td7 : zd = 7 := (hd ()).symm.trans ((vr_is (L := L) 7 (by decide) okd).mpr (Classical.not_not.mp h10))
                have ts0 : ¬ zs = 0 := fun z => h20 ((vr_isN (L := L) oks hs11).mp ((hs ()).trans z))
                have ts1 : ¬ zs = 1 := fun z => h23 ((vr_is (L := L) 1 (by decide) oks).mp ((hs ()).trans z))
                have t00 : ¬ z0 = 0 := fun z => h26 ((vr_isN (L := L) ok0 (by decide)).mp ((h0 ()).trans z))
                have t01 : z0 = 1 := (h0 ()).symm.trans ((vr_is (L := L) 1 (by decide) ok0).mpr h27)
                have ev : vx_even (vr_T I L (76800 + f.d)).val f.o f.z = false := by rw [vr_valv (by rw [(vr_is (L := L) 7 (by decide) okd).mp ((hd ()).trans (by omega))]; rfl), ← vr_dO D, vx_even_r hz]; exact (by rw [decide_eq_false h19]; rfl)
                have r7 := vx_r7' (M := M) (A := (vr_A I L 1024)) (o := f.o) (z := f.z) (w := true) ((hd ()).trans (show zd = 7 by omega))
                rw [hrr ()] at r7
                have e : vx_atp M f (vr_A I L 1024) = (1, (vr_A I L 1024)) := by
                  exact vx_at1 (by rw [eD, eS, e0, hd (), hs (), h0 ()]; omega)
                exact ⟨_, _, by rw [← eQ, e]; rfl, fun z => by rw [← eQ, e] at z; exact absurd (show (1 : Nat) = 0 from z) (by omega), vr_fr_refl hf⟩
              · refine jv_Wp.lift (fun _ Kz => jv_Ev.steps jv_i295 2 (pc' := 243) (l' := [(2, .int (1 : Int32)), (7, .int (0 : Int32)), (5, .long ((vl_I f.z).toInt64 - (1 : Int64))), (4, .int (vl_I (8 + (76800 + f.d)))), (3, .int (I 205 (76800 + f.d))), (1, .int (vl_I f.z)), (0, .ref 196)]) (st' := [.int (6 : Int32), .int (1 : Int32)]) rfl Kz) ?_
                have Hf156 := vq_first (I := I) (L := L) (K := K) (R := R) (n := n) (sl := sl) 1 6 (by omega) (by omega)
                rw [show vx_fst 1 6 = 1 from by decide] at Hf156
                refine jv_Wp.lift (fun _ Kz => jv_Ev.c jv_i295 (pc' := 246) (S' := [.int (1 : Int32)]) jv_i282 [.int (1 : Int32), .int (6 : Int32)] rfl rfl rfl rfl rfl rfl Hf156 rfl rfl Kz) ?_
                refine jv_Wp.lift (fun _ Kz => jv_Ev.steps jv_i295 2 (pc' := 248) (l' := [(2, .int (1 : Int32)), (7, .int (0 : Int32)), (5, .long ((vl_I f.z).toInt64 - (1 : Int64))), (4, .int (vl_I (8 + (76800 + f.d)))), (3, .int (I 205 (76800 + f.d))), (1, .int (vl_I f.z)), (0, .ref 196)]) (st' := [.int (1 : Int32)]) rfl Kz) ?_
                refine jv_Wp.lift (fun _ Kz => jv_Ev.br jv_i295 (pc' := 251) (st' := []) rfl (by rfl) Kz) ?_
                refine jv_Wp.lift (fun _ Kz => jv_Ev.steps jv_i295 1 (pc' := 252) (l' := [(2, .int (1 : Int32)), (7, .int (0 : Int32)), (5, .long ((vl_I f.z).toInt64 - (1 : Int64))), (4, .int (vl_I (8 + (76800 + f.d)))), (3, .int (I 205 (76800 + f.d))), (1, .int (vl_I f.z)), (0, .ref 196)]) (st' := [.int (1 : Int32)]) rfl Kz) ?_
                refine jv_Wp.of (jv_Ev.ret jv_i295 rfl rfl) ?_
                rw [hQ]
                have td0 : ¬ zd = 0 := fun z => h1 ((vr_isN (L := L) okd hd11).mp ((hd ()).trans z))
                have td7 : zd = 7 := (hd ()).symm.trans ((vr_is (L := L) 7 (by decide) okd).mpr (Classical.not_not.mp h10))
                have ts0 : ¬ zs = 0 := fun z => h20 ((vr_isN (L := L) oks hs11).mp ((hs ()).trans z))
                have ts1 : ¬ zs = 1 := fun z => h23 ((vr_is (L := L) 1 (by decide) oks).mp ((hs ()).trans z))
                have t00 : ¬ z0 = 0 := fun z => h26 ((vr_isN (L := L) ok0 (by decide)).mp ((h0 ()).trans z))
                have t01 : ¬ z0 = 1 := fun z => h27 ((vr_is (L := L) 1 (by decide) ok0).mp ((h0 ()).trans z))
                have ev : vx_even (vr_T I L (76800 + f.d)).val f.o f.z = false := by rw [vr_valv (by rw [(vr_is (L := L) 7 (by decide) okd).mp ((hd ()).trans (by omega))]; rfl), ← vr_dO D, vx_even_r hz]; exact (by rw [decide_eq_false h19]; rfl)
                have r7 := vx_r7' (M := M) (A := (vr_A I L 1024)) (o := f.o) (z := f.z) (w := true) ((hd ()).trans (show zd = 7 by omega))
                rw [hrr ()] at r7
                have e : vx_atp M f (vr_A I L 1024) = (1, (vr_A I L 1024)) := by
                  exact vx_at1 (by rw [eD, eS, e0, hd (), hs (), h0 ()]; omega)
                exact ⟨_, _, by rw [← eQ, e]; rfl, fun z => by rw [← eQ, e] at z; exact absurd (show (1 : Nat) = 0 from z) (by omega), vr_fr_refl hf⟩
      · refine jv_Wp.lift (fun _ Kz => jv_Ev.steps jv_i295 1 (pc' := 121) (l' := [(5, .long ((vl_I f.z).toInt64 - (1 : Int64))), (4, .int (vl_I (8 + (76800 + f.d)))), (2, .int (1 : Int32)), (3, .int (I 205 (76800 + f.d))), (1, .int (vl_I f.z)), (0, .ref 196)]) (st' := [.ref 196]) rfl Kz) ?_
        refine jv_Wp.lift (fun _ Kz => jv_Ev.m jv_i295 (pc' := 124) (st' := [.ref 208]) (G' := (jv_H K I L R)) rfl rfl (jv_m_getR (jv_rwK hW 196 12 24 (by decide)) rfl rfl (jv_rwR hW 196 16 208 (by decide))) Kz) ?_
        refine jv_Wp.lift (fun _ Kz => jv_Ev.m jv_i295 (pc' := 127) (st' := [.ref 209]) (G' := (jv_H K I L R)) rfl rfl (jv_m_getR (jv_rwK hW 208 11 7 (by decide)) rfl rfl (jv_rwR hW 208 0 209 (by decide))) Kz) ?_
        refine jv_Wp.lift (fun _ Kz => jv_Ev.steps jv_i295 1 (pc' := 129) (l' := [(5, .long ((vl_I f.z).toInt64 - (1 : Int64))), (4, .int (vl_I (8 + (76800 + f.d)))), (2, .int (1 : Int32)), (3, .int (I 205 (76800 + f.d))), (1, .int (vl_I f.z)), (0, .ref 196)]) (st' := [.int (vl_I (8 + (76800 + f.d))), .ref 209]) rfl Kz) ?_
        refine jv_Wp.lift (fun _ Kz => jv_Ev.m jv_i295 (pc' := 130) (st' := [.long (L 209 (8 + (76800 + f.d)))]) (G' := (jv_H K I L R)) rfl rfl (jv_m_laldv (jv_rwK hW 209 103 77200 (by decide)) rfl (vl_I_ix (by omega) (by decide)) rfl ((congrArg (L 209) (vl_I_nat (by omega))).trans rfl)) Kz) ?_
        refine jv_Wp.lift (fun _ Kz => jv_Ev.steps jv_i295 1 (pc' := 131) (l' := [(5, .long ((vl_I f.z).toInt64 - (1 : Int64))), (4, .int (vl_I (8 + (76800 + f.d)))), (2, .int (1 : Int32)), (3, .int (I 205 (76800 + f.d))), (1, .int (vl_I f.z)), (0, .ref 196)]) (st' := [.ref 196, .long (L 209 (8 + (76800 + f.d)))]) rfl Kz) ?_
        refine jv_Wp.lift (fun _ Kz => jv_Ev.m jv_i295 (pc' := 134) (st' := [.int (Int32.ofInt f.o), .long (L 209 (8 + (76800 + f.d)))]) (G' := (jv_H K I L R)) rfl rfl (jv_m_getI (jv_rwK hW 196 12 24 (by decide)) rfl rfl (vr_dI D)) Kz) ?_
        refine jv_Wp.lift (fun _ Kz => jv_Ev.steps jv_i295 6 (pc' := 141) (l' := [(5, .long ((vl_I f.z).toInt64 - (1 : Int64))), (4, .int (vl_I (8 + (76800 + f.d)))), (2, .int (1 : Int32)), (3, .int (I 205 (76800 + f.d))), (1, .int (vl_I f.z)), (0, .ref 196)]) (st' := [.int (lg_cmp (((L 209 (8 + (76800 + f.d))) + (Int32.ofInt f.o).toInt64) &&& ((vl_I f.z).toInt64 - (1 : Int64))) (0 : Int64))]) rfl Kz) ?_
        refine jv_Wp.cnd jv_i295 (pt := 148) (pe := 144) (p := (¬ (lg_cmp (((L 209 (8 + (76800 + f.d))) + (Int32.ofInt f.o).toInt64) &&& ((vl_I f.z).toInt64 - (1 : Int64))) (0 : Int64)) = 0)) (q := (¬ (((L 209 (8 + (76800 + f.d))) + (Int32.ofInt f.o).toInt64) &&& ((vl_I f.z).toInt64 - (1 : Int64))) = (0 : Int64))) rfl jv_bi_ne rfl rfl (not_congr (lg_cmp_eq (((L 209 (8 + (76800 + f.d))) + (Int32.ofInt f.o).toInt64) &&& ((vl_I f.z).toInt64 - (1 : Int64))) (0 : Int64))) (fun h28 => ?_) (fun h28 => ?_)
        · refine jv_Wp.lift (fun _ Kz => jv_Ev.steps jv_i295 4 (pc' := 154) (l' := [(7, .int (0 : Int32)), (5, .long ((vl_I f.z).toInt64 - (1 : Int64))), (4, .int (vl_I (8 + (76800 + f.d)))), (2, .int (1 : Int32)), (3, .int (I 205 (76800 + f.d))), (1, .int (vl_I f.z)), (0, .ref 196)]) (st' := [.int (0 : Int32), .int (1 : Int32)]) rfl Kz) ?_
          refine jv_Wp.lift (fun _ Kz => jv_Ev.br jv_i295 (pc' := 170) (st' := [.int (1 : Int32)]) rfl (by rfl) Kz) ?_
          refine jv_Wp.lift (fun _ Kz => jv_Ev.steps jv_i295 1 (pc' := 171) (l' := [(7, .int (0 : Int32)), (5, .long ((vl_I f.z).toInt64 - (1 : Int64))), (4, .int (vl_I (8 + (76800 + f.d)))), (2, .int (1 : Int32)), (3, .int (I 205 (76800 + f.d))), (1, .int (vl_I f.z)), (0, .ref 196)]) (st' := [.int (4 : Int32), .int (1 : Int32)]) rfl Kz) ?_
          have Hf157 := vq_first (I := I) (L := L) (K := K) (R := R) (n := n) (sl := sl) 1 4 (by omega) (by omega)
          rw [show vx_fst 1 4 = 1 from by decide] at Hf157
          refine jv_Wp.lift (fun _ Kz => jv_Ev.c jv_i295 (pc' := 174) (S' := [.int (1 : Int32)]) jv_i282 [.int (1 : Int32), .int (4 : Int32)] rfl rfl rfl rfl rfl rfl Hf157 rfl rfl Kz) ?_
          refine jv_Wp.lift (fun _ Kz => jv_Ev.steps jv_i295 4 (pc' := 178) (l' := [(2, .int (1 : Int32)), (7, .int (0 : Int32)), (5, .long ((vl_I f.z).toInt64 - (1 : Int64))), (4, .int (vl_I (8 + (76800 + f.d)))), (3, .int (I 205 (76800 + f.d))), (1, .int (vl_I f.z)), (0, .ref 196)]) (st' := [.ref 196, .ref 196, .int (1 : Int32)]) rfl Kz) ?_
          refine jv_Wp.lift (fun _ Kz => jv_Ev.m jv_i295 (pc' := 181) (st' := [.int (vl_I f.s), .ref 196, .int (1 : Int32)]) (G' := (jv_H K I L R)) rfl rfl (jv_m_getI (jv_rwK hW 196 12 24 (by decide)) rfl rfl D.2.2.1) Kz) ?_
          refine jv_Wp.lift (fun _ Kz => jv_Ev.c jv_i295 (pc' := 184) (S' := [.int (I 205 (76800 + f.s)), .int (1 : Int32)]) jv_i271 [.ref 196, .int (vl_I f.s)] rfl rfl rfl rfl (jv_cal rfl (jv_H_at (jv_rwK hW 196 12 24 (by decide))) rfl rfl) rfl (vq_sortOf f.s hW (by omega)) rfl rfl Kz) ?_
          refine jv_Wp.cnd jv_i295 (pt := 204) (pe := 187) (p := ((I 205 (76800 + f.s)) = 0)) (q := ((I 205 (76800 + f.s)) = 0)) rfl jv_bi_eq rfl rfl Iff.rfl (fun h29 => ?_) (fun h29 => ?_)
          · refine jv_Wp.lift (fun _ Kz => jv_Ev.steps jv_i295 1 (pc' := 205) (l' := [(2, .int (1 : Int32)), (7, .int (0 : Int32)), (5, .long ((vl_I f.z).toInt64 - (1 : Int64))), (4, .int (vl_I (8 + (76800 + f.d)))), (3, .int (I 205 (76800 + f.d))), (1, .int (vl_I f.z)), (0, .ref 196)]) (st' := [.int (0 : Int32), .int (1 : Int32)]) rfl Kz) ?_
            have Hf158 := vq_first (I := I) (L := L) (K := K) (R := R) (n := n) (sl := sl) 1 0 (by omega) (by omega)
            rw [show vx_fst 1 0 = 1 from by decide] at Hf158
            refine jv_Wp.lift (fun _ Kz => jv_Ev.c jv_i295 (pc' := 208) (S' := [.int (1 : Int32)]) jv_i282 [.int (1 : Int32), .int (0 : Int32)] rfl rfl rfl rfl rfl rfl Hf158 rfl rfl Kz) ?_
            refine jv_Wp.lift (fun _ Kz => jv_Ev.steps jv_i295 3 (pc' := 211) (l' := [(2, .int (1 : Int32)), (7, .int (0 : Int32)), (5, .long ((vl_I f.z).toInt64 - (1 : Int64))), (4, .int (vl_I (8 + (76800 + f.d)))), (3, .int (I 205 (76800 + f.d))), (1, .int (vl_I f.z)), (0, .ref 196)]) (st' := [.ref 196, .int (1 : Int32)]) rfl Kz) ?_
            refine jv_Wp.lift (fun _ Kz => jv_Ev.m jv_i295 (pc' := 214) (st' := [.int (Int32.ofInt f.i), .int (1 : Int32)]) (G' := (jv_H K I L R)) rfl rfl (jv_m_getI (jv_rwK hW 196 12 24 (by decide)) rfl rfl (vr_dJ D)) Kz) ?_
            refine jv_Wp.lift (fun _ Kz => jv_Ev.steps jv_i295 1 (pc' := 217) (l' := [(2, .int (1 : Int32)), (7, .int (0 : Int32)), (5, .long ((vl_I f.z).toInt64 - (1 : Int64))), (4, .int (vl_I (8 + (76800 + f.d)))), (3, .int (I 205 (76800 + f.d))), (1, .int (vl_I f.z)), (0, .ref 196)]) (st' := [.int (241 : Int32), .int (Int32.ofInt f.i), .int (1 : Int32)]) rfl Kz) ?_
            refine jv_Wp.cnd jv_i295 (pt := 242) (pe := 220) (p := (¬ (Int32.ofInt f.i) = (241 : Int32))) (q := (¬ (Int32.ofInt f.i) = (241 : Int32))) rfl jv_bc_ne rfl rfl Iff.rfl (fun hz => absurd hz (fun z => z h241)) (fun _ => ?_)
            refine jv_Wp.lift (fun _ Kz => jv_Ev.steps jv_i295 2 (pc' := 222) (l' := [(2, .int (1 : Int32)), (7, .int (0 : Int32)), (5, .long ((vl_I f.z).toInt64 - (1 : Int64))), (4, .int (vl_I (8 + (76800 + f.d)))), (3, .int (I 205 (76800 + f.d))), (1, .int (vl_I f.z)), (0, .ref 196)]) (st' := [.int (0 : Int32), .ref 196, .int (1 : Int32)]) rfl Kz) ?_
            refine jv_Wp.lift (fun _ Kz => jv_Ev.c jv_i295 (pc' := 225) (S' := [.int (I 205 (76800 + 0)), .int (1 : Int32)]) jv_i271 [.ref 196, .int (0 : Int32)] rfl rfl rfl rfl (jv_cal rfl (jv_H_at (jv_rwK hW 196 12 24 (by decide))) rfl rfl) rfl (vq_sortOf 0 hW (by omega)) rfl rfl Kz) ?_
            refine jv_Wp.cnd jv_i295 (pt := 242) (pe := 228) (p := ((I 205 (76800 + 0)) = 0)) (q := ((I 205 (76800 + 0)) = 0)) rfl jv_bi_eq rfl rfl Iff.rfl (fun h30 => ?_) (fun h30 => ?_)
            · refine jv_Wp.lift (fun _ Kz => jv_Ev.steps jv_i295 1 (pc' := 243) (l' := [(2, .int (1 : Int32)), (7, .int (0 : Int32)), (5, .long ((vl_I f.z).toInt64 - (1 : Int64))), (4, .int (vl_I (8 + (76800 + f.d)))), (3, .int (I 205 (76800 + f.d))), (1, .int (vl_I f.z)), (0, .ref 196)]) (st' := [.int (0 : Int32), .int (1 : Int32)]) rfl Kz) ?_
              have Hf159 := vq_first (I := I) (L := L) (K := K) (R := R) (n := n) (sl := sl) 1 0 (by omega) (by omega)
              rw [show vx_fst 1 0 = 1 from by decide] at Hf159
              refine jv_Wp.lift (fun _ Kz => jv_Ev.c jv_i295 (pc' := 246) (S' := [.int (1 : Int32)]) jv_i282 [.int (1 : Int32), .int (0 : Int32)] rfl rfl rfl rfl rfl rfl Hf159 rfl rfl Kz) ?_
              refine jv_Wp.lift (fun _ Kz => jv_Ev.steps jv_i295 2 (pc' := 248) (l' := [(2, .int (1 : Int32)), (7, .int (0 : Int32)), (5, .long ((vl_I f.z).toInt64 - (1 : Int64))), (4, .int (vl_I (8 + (76800 + f.d)))), (3, .int (I 205 (76800 + f.d))), (1, .int (vl_I f.z)), (0, .ref 196)]) (st' := [.int (1 : Int32)]) rfl Kz) ?_
              refine jv_Wp.lift (fun _ Kz => jv_Ev.br jv_i295 (pc' := 251) (st' := []) rfl (by rfl) Kz) ?_
              refine jv_Wp.lift (fun _ Kz => jv_Ev.steps jv_i295 1 (pc' := 252) (l' := [(2, .int (1 : Int32)), (7, .int (0 : Int32)), (5, .long ((vl_I f.z).toInt64 - (1 : Int64))), (4, .int (vl_I (8 + (76800 + f.d)))), (3, .int (I 205 (76800 + f.d))), (1, .int (vl_I f.z)), (0, .ref 196)]) (st' := [.int (1 : Int32)]) rfl Kz) ?_
              refine jv_Wp.of (jv_Ev.ret jv_i295 rfl rfl) ?_
              rw [hQ]
              have td0 : ¬ zd = 0 := fun z => h1 ((vr_isN (L := L) okd hd11).mp ((hd ()).trans z))
              have td7 : zd = 7 := (hd ()).symm.trans ((vr_is (L := L) 7 (by decide) okd).mpr (Classical.not_not.mp h10))
              have ts0 : zs = 0 := (hs ()).symm.trans ((vr_isN (L := L) oks hs11).mpr h29)
              have t00 : z0 = 0 := (h0 ()).symm.trans ((vr_isN (L := L) ok0 (by decide)).mpr h30)
              have ev : vx_even (vr_T I L (76800 + f.d)).val f.o f.z = false := by rw [vr_valv (by rw [(vr_is (L := L) 7 (by decide) okd).mp ((hd ()).trans (by omega))]; rfl), ← vr_dO D, vx_even_r hz]; exact (by rw [decide_eq_false h28, Bool.and_false])
              have r7 := vx_r7' (M := M) (A := (vr_A I L 1024)) (o := f.o) (z := f.z) (w := true) ((hd ()).trans (show zd = 7 by omega))
              rw [hrr ()] at r7
              have e : vx_atp M f (vr_A I L 1024) = (1, (vr_A I L 1024)) := by
                exact vx_at1 (by rw [eD, eS, e0, hd (), hs (), h0 ()]; omega)
              exact ⟨_, _, by rw [← eQ, e]; rfl, fun z => by rw [← eQ, e] at z; exact absurd (show (1 : Nat) = 0 from z) (by omega), vr_fr_refl hf⟩
            · refine jv_Wp.lift (fun _ Kz => jv_Ev.steps jv_i295 2 (pc' := 230) (l' := [(2, .int (1 : Int32)), (7, .int (0 : Int32)), (5, .long ((vl_I f.z).toInt64 - (1 : Int64))), (4, .int (vl_I (8 + (76800 + f.d)))), (3, .int (I 205 (76800 + f.d))), (1, .int (vl_I f.z)), (0, .ref 196)]) (st' := [.int (0 : Int32), .ref 196, .int (1 : Int32)]) rfl Kz) ?_
              refine jv_Wp.lift (fun _ Kz => jv_Ev.c jv_i295 (pc' := 233) (S' := [.int (I 205 (76800 + 0)), .int (1 : Int32)]) jv_i271 [.ref 196, .int (0 : Int32)] rfl rfl rfl rfl (jv_cal rfl (jv_H_at (jv_rwK hW 196 12 24 (by decide))) rfl rfl) rfl (vq_sortOf 0 hW (by omega)) rfl rfl Kz) ?_
              refine jv_Wp.lift (fun _ Kz => jv_Ev.steps jv_i295 1 (pc' := 234) (l' := [(2, .int (1 : Int32)), (7, .int (0 : Int32)), (5, .long ((vl_I f.z).toInt64 - (1 : Int64))), (4, .int (vl_I (8 + (76800 + f.d)))), (3, .int (I 205 (76800 + f.d))), (1, .int (vl_I f.z)), (0, .ref 196)]) (st' := [.int (1 : Int32), .int (I 205 (76800 + 0)), .int (1 : Int32)]) rfl Kz) ?_
              refine jv_Wp.cnd jv_i295 (pt := 242) (pe := 237) (p := ((I 205 (76800 + 0)) = (1 : Int32))) (q := ((I 205 (76800 + 0)) = (1 : Int32))) rfl jv_bc_eq rfl rfl Iff.rfl (fun h31 => ?_) (fun h31 => ?_)
              · refine jv_Wp.lift (fun _ Kz => jv_Ev.steps jv_i295 1 (pc' := 243) (l' := [(2, .int (1 : Int32)), (7, .int (0 : Int32)), (5, .long ((vl_I f.z).toInt64 - (1 : Int64))), (4, .int (vl_I (8 + (76800 + f.d)))), (3, .int (I 205 (76800 + f.d))), (1, .int (vl_I f.z)), (0, .ref 196)]) (st' := [.int (0 : Int32), .int (1 : Int32)]) rfl Kz) ?_
                have Hf160 := vq_first (I := I) (L := L) (K := K) (R := R) (n := n) (sl := sl) 1 0 (by omega) (by omega)
                rw [show vx_fst 1 0 = 1 from by decide] at Hf160
                refine jv_Wp.lift (fun _ Kz => jv_Ev.c jv_i295 (pc' := 246) (S' := [.int (1 : Int32)]) jv_i282 [.int (1 : Int32), .int (0 : Int32)] rfl rfl rfl rfl rfl rfl Hf160 rfl rfl Kz) ?_
                refine jv_Wp.lift (fun _ Kz => jv_Ev.steps jv_i295 2 (pc' := 248) (l' := [(2, .int (1 : Int32)), (7, .int (0 : Int32)), (5, .long ((vl_I f.z).toInt64 - (1 : Int64))), (4, .int (vl_I (8 + (76800 + f.d)))), (3, .int (I 205 (76800 + f.d))), (1, .int (vl_I f.z)), (0, .ref 196)]) (st' := [.int (1 : Int32)]) rfl Kz) ?_
                refine jv_Wp.lift (fun _ Kz => jv_Ev.br jv_i295 (pc' := 251) (st' := []) rfl (by rfl) Kz) ?_
                refine jv_Wp.lift (fun _ Kz => jv_Ev.steps jv_i295 1 (pc' := 252) (l' := [(2, .int (1 : Int32)), (7, .int (0 : Int32)), (5, .long ((vl_I f.z).toInt64 - (1 : Int64))), (4, .int (vl_I (8 + (76800 + f.d)))), (3, .int (I 205 (76800 + f.d))), (1, .int (vl_I f.z)), (0, .ref 196)]) (st' := [.int (1 : Int32)]) rfl Kz) ?_
                refine jv_Wp.of (jv_Ev.ret jv_i295 rfl rfl) ?_
                rw [hQ]
                have td0 : ¬ zd = 0 := fun z => h1 ((vr_isN (L := L) okd hd11).mp ((hd ()).trans z))
                have td7 : zd = 7 := (hd ()).symm.trans ((vr_is (L := L) 7 (by decide) okd).mpr (Classical.not_not.mp h10))
                have ts0 : zs = 0 := (hs ()).symm.trans ((vr_isN (L := L) oks hs11).mpr h29)
                have t00 : ¬ z0 = 0 := fun z => h30 ((vr_isN (L := L) ok0 (by decide)).mp ((h0 ()).trans z))
                have t01 : z0 = 1 := (h0 ()).symm.trans ((vr_is (L := L) 1 (by decide) ok0).mpr h31)
                have ev : vx_even (vr_T I L (76800 + f.d)).val f.o f.z = false := by rw [vr_valv (by rw [(vr_is (L := L) 7 (by decide) okd).mp ((hd ()).trans (by omega))]; rfl), ← vr_dO D, vx_even_r hz]; exact (by rw [decide_eq_false h28, Bool.and_false])
                have r7 := vx_r7' (M := M) (A := (vr_A I L 1024)) (o := f.o) (z := f.z) (w := true) ((hd ()).trans (show zd = 7 by omega))
                rw [hrr ()] at r7
                have e : vx_atp M f (vr_A I L 1024) = (1, (vr_A I L 1024)) := by
                  exact vx_at1 (by rw [eD, eS, e0, hd (), hs (), h0 ()]; omega)
                exact ⟨_, _, by rw [← eQ, e]; rfl, fun z => by rw [← eQ, e] at z; exact absurd (show (1 : Nat) = 0 from z) (by omega), vr_fr_refl hf⟩
              · refine jv_Wp.lift (fun _ Kz => jv_Ev.steps jv_i295 2 (pc' := 243) (l' := [(2, .int (1 : Int32)), (7, .int (0 : Int32)), (5, .long ((vl_I f.z).toInt64 - (1 : Int64))), (4, .int (vl_I (8 + (76800 + f.d)))), (3, .int (I 205 (76800 + f.d))), (1, .int (vl_I f.z)), (0, .ref 196)]) (st' := [.int (6 : Int32), .int (1 : Int32)]) rfl Kz) ?_
                have Hf161 := vq_first (I := I) (L := L) (K := K) (R := R) (n := n) (sl := sl) 1 6 (by omega) (by omega)
                rw [show vx_fst 1 6 = 1 from by decide] at Hf161
                refine jv_Wp.lift (fun _ Kz => jv_Ev.c jv_i295 (pc' := 246) (S' := [.int (1 : Int32)]) jv_i282 [.int (1 : Int32), .int (6 : Int32)] rfl rfl rfl rfl rfl rfl Hf161 rfl rfl Kz) ?_
                refine jv_Wp.lift (fun _ Kz => jv_Ev.steps jv_i295 2 (pc' := 248) (l' := [(2, .int (1 : Int32)), (7, .int (0 : Int32)), (5, .long ((vl_I f.z).toInt64 - (1 : Int64))), (4, .int (vl_I (8 + (76800 + f.d)))), (3, .int (I 205 (76800 + f.d))), (1, .int (vl_I f.z)), (0, .ref 196)]) (st' := [.int (1 : Int32)]) rfl Kz) ?_
                refine jv_Wp.lift (fun _ Kz => jv_Ev.br jv_i295 (pc' := 251) (st' := []) rfl (by rfl) Kz) ?_
                refine jv_Wp.lift (fun _ Kz => jv_Ev.steps jv_i295 1 (pc' := 252) (l' := [(2, .int (1 : Int32)), (7, .int (0 : Int32)), (5, .long ((vl_I f.z).toInt64 - (1 : Int64))), (4, .int (vl_I (8 + (76800 + f.d)))), (3, .int (I 205 (76800 + f.d))), (1, .int (vl_I f.z)), (0, .ref 196)]) (st' := [.int (1 : Int32)]) rfl Kz) ?_
                refine jv_Wp.of (jv_Ev.ret jv_i295 rfl rfl) ?_
                rw [hQ]
                have td0 : ¬ zd = 0 := fun z => h1 ((vr_isN (L := L) okd hd11).mp ((hd ()).trans z))
                have td7 : zd = 7 := (hd ()).symm.trans ((vr_is (L := L) 7 (by decide) okd).mpr (Classical.not_not.mp h10))
                have ts0 : zs = 0 := (hs ()).symm.trans ((vr_isN (L := L) oks hs11).mpr h29)
                have t00 : ¬ z0 = 0 := fun z => h30 ((vr_isN (L := L) ok0 (by decide)).mp ((h0 ()).trans z))
                have t01 : ¬ z0 = 1 := fun z => h31 ((vr_is (L := L) 1 (by decide) ok0).mp ((h0 ()).trans z))
                have ev : vx_even (vr_T I L (76800 + f.d)).val f.o f.z = false := by rw [vr_valv (by rw [(vr_is (L := L) 7 (by decide) okd).mp ((hd ()).trans (by omega))]; rfl), ← vr_dO D, vx_even_r hz]; exact (by rw [decide_eq_false h28, Bool.and_false])
                have r7 := vx_r7' (M := M) (A := (vr_A I L 1024)) (o := f.o) (z := f.z) (w := true) ((hd ()).trans (show zd = 7 by omega))
                rw [hrr ()] at r7
                have e : vx_atp M f (vr_A I L 1024) = (1, (vr_A I L 1024)) := by
                  exact vx_at1 (by rw [eD, eS, e0, hd (), hs (), h0 ()]; omega)
                exact ⟨_, _, by rw [← eQ, e]; rfl, fun z => by rw [← eQ, e] at z; exact absurd (show (1 : Nat) = 0 from z) (by omega), vr_fr_refl hf⟩
          · refine jv_Wp.lift (fun _ Kz => jv_Ev.steps jv_i295 2 (pc' := 189) (l' := [(2, .int (1 : Int32)), (7, .int (0 : Int32)), (5, .long ((vl_I f.z).toInt64 - (1 : Int64))), (4, .int (vl_I (8 + (76800 + f.d)))), (3, .int (I 205 (76800 + f.d))), (1, .int (vl_I f.z)), (0, .ref 196)]) (st' := [.ref 196, .ref 196, .int (1 : Int32)]) rfl Kz) ?_
            refine jv_Wp.lift (fun _ Kz => jv_Ev.m jv_i295 (pc' := 192) (st' := [.int (vl_I f.s), .ref 196, .int (1 : Int32)]) (G' := (jv_H K I L R)) rfl rfl (jv_m_getI (jv_rwK hW 196 12 24 (by decide)) rfl rfl D.2.2.1) Kz) ?_
            refine jv_Wp.lift (fun _ Kz => jv_Ev.c jv_i295 (pc' := 195) (S' := [.int (I 205 (76800 + f.s)), .int (1 : Int32)]) jv_i271 [.ref 196, .int (vl_I f.s)] rfl rfl rfl rfl (jv_cal rfl (jv_H_at (jv_rwK hW 196 12 24 (by decide))) rfl rfl) rfl (vq_sortOf f.s hW (by omega)) rfl rfl Kz) ?_
            refine jv_Wp.lift (fun _ Kz => jv_Ev.steps jv_i295 1 (pc' := 196) (l' := [(2, .int (1 : Int32)), (7, .int (0 : Int32)), (5, .long ((vl_I f.z).toInt64 - (1 : Int64))), (4, .int (vl_I (8 + (76800 + f.d)))), (3, .int (I 205 (76800 + f.d))), (1, .int (vl_I f.z)), (0, .ref 196)]) (st' := [.int (1 : Int32), .int (I 205 (76800 + f.s)), .int (1 : Int32)]) rfl Kz) ?_
            refine jv_Wp.cnd jv_i295 (pt := 204) (pe := 199) (p := ((I 205 (76800 + f.s)) = (1 : Int32))) (q := ((I 205 (76800 + f.s)) = (1 : Int32))) rfl jv_bc_eq rfl rfl Iff.rfl (fun h32 => ?_) (fun h32 => ?_)
            · refine jv_Wp.lift (fun _ Kz => jv_Ev.steps jv_i295 1 (pc' := 205) (l' := [(2, .int (1 : Int32)), (7, .int (0 : Int32)), (5, .long ((vl_I f.z).toInt64 - (1 : Int64))), (4, .int (vl_I (8 + (76800 + f.d)))), (3, .int (I 205 (76800 + f.d))), (1, .int (vl_I f.z)), (0, .ref 196)]) (st' := [.int (0 : Int32), .int (1 : Int32)]) rfl Kz) ?_
              have Hf162 := vq_first (I := I) (L := L) (K := K) (R := R) (n := n) (sl := sl) 1 0 (by omega) (by omega)
              rw [show vx_fst 1 0 = 1 from by decide] at Hf162
              refine jv_Wp.lift (fun _ Kz => jv_Ev.c jv_i295 (pc' := 208) (S' := [.int (1 : Int32)]) jv_i282 [.int (1 : Int32), .int (0 : Int32)] rfl rfl rfl rfl rfl rfl Hf162 rfl rfl Kz) ?_
              refine jv_Wp.lift (fun _ Kz => jv_Ev.steps jv_i295 3 (pc' := 211) (l' := [(2, .int (1 : Int32)), (7, .int (0 : Int32)), (5, .long ((vl_I f.z).toInt64 - (1 : Int64))), (4, .int (vl_I (8 + (76800 + f.d)))), (3, .int (I 205 (76800 + f.d))), (1, .int (vl_I f.z)), (0, .ref 196)]) (st' := [.ref 196, .int (1 : Int32)]) rfl Kz) ?_
              refine jv_Wp.lift (fun _ Kz => jv_Ev.m jv_i295 (pc' := 214) (st' := [.int (Int32.ofInt f.i), .int (1 : Int32)]) (G' := (jv_H K I L R)) rfl rfl (jv_m_getI (jv_rwK hW 196 12 24 (by decide)) rfl rfl (vr_dJ D)) Kz) ?_
              refine jv_Wp.lift (fun _ Kz => jv_Ev.steps jv_i295 1 (pc' := 217) (l' := [(2, .int (1 : Int32)), (7, .int (0 : Int32)), (5, .long ((vl_I f.z).toInt64 - (1 : Int64))), (4, .int (vl_I (8 + (76800 + f.d)))), (3, .int (I 205 (76800 + f.d))), (1, .int (vl_I f.z)), (0, .ref 196)]) (st' := [.int (241 : Int32), .int (Int32.ofInt f.i), .int (1 : Int32)]) rfl Kz) ?_
              refine jv_Wp.cnd jv_i295 (pt := 242) (pe := 220) (p := (¬ (Int32.ofInt f.i) = (241 : Int32))) (q := (¬ (Int32.ofInt f.i) = (241 : Int32))) rfl jv_bc_ne rfl rfl Iff.rfl (fun hz => absurd hz (fun z => z h241)) (fun _ => ?_)
              refine jv_Wp.lift (fun _ Kz => jv_Ev.steps jv_i295 2 (pc' := 222) (l' := [(2, .int (1 : Int32)), (7, .int (0 : Int32)), (5, .long ((vl_I f.z).toInt64 - (1 : Int64))), (4, .int (vl_I (8 + (76800 + f.d)))), (3, .int (I 205 (76800 + f.d))), (1, .int (vl_I f.z)), (0, .ref 196)]) (st' := [.int (0 : Int32), .ref 196, .int (1 : Int32)]) rfl Kz) ?_
              refine jv_Wp.lift (fun _ Kz => jv_Ev.c jv_i295 (pc' := 225) (S' := [.int (I 205 (76800 + 0)), .int (1 : Int32)]) jv_i271 [.ref 196, .int (0 : Int32)] rfl rfl rfl rfl (jv_cal rfl (jv_H_at (jv_rwK hW 196 12 24 (by decide))) rfl rfl) rfl (vq_sortOf 0 hW (by omega)) rfl rfl Kz) ?_
              refine jv_Wp.cnd jv_i295 (pt := 242) (pe := 228) (p := ((I 205 (76800 + 0)) = 0)) (q := ((I 205 (76800 + 0)) = 0)) rfl jv_bi_eq rfl rfl Iff.rfl (fun h33 => ?_) (fun h33 => ?_)
              · refine jv_Wp.lift (fun _ Kz => jv_Ev.steps jv_i295 1 (pc' := 243) (l' := [(2, .int (1 : Int32)), (7, .int (0 : Int32)), (5, .long ((vl_I f.z).toInt64 - (1 : Int64))), (4, .int (vl_I (8 + (76800 + f.d)))), (3, .int (I 205 (76800 + f.d))), (1, .int (vl_I f.z)), (0, .ref 196)]) (st' := [.int (0 : Int32), .int (1 : Int32)]) rfl Kz) ?_
                have Hf163 := vq_first (I := I) (L := L) (K := K) (R := R) (n := n) (sl := sl) 1 0 (by omega) (by omega)
                rw [show vx_fst 1 0 = 1 from by decide] at Hf163
                refine jv_Wp.lift (fun _ Kz => jv_Ev.c jv_i295 (pc' := 246) (S' := [.int (1 : Int32)]) jv_i282 [.int (1 : Int32), .int (0 : Int32)] rfl rfl rfl rfl rfl rfl Hf163 rfl rfl Kz) ?_
                refine jv_Wp.lift (fun _ Kz => jv_Ev.steps jv_i295 2 (pc' := 248) (l' := [(2, .int (1 : Int32)), (7, .int (0 : Int32)), (5, .long ((vl_I f.z).toInt64 - (1 : Int64))), (4, .int (vl_I (8 + (76800 + f.d)))), (3, .int (I 205 (76800 + f.d))), (1, .int (vl_I f.z)), (0, .ref 196)]) (st' := [.int (1 : Int32)]) rfl Kz) ?_
                refine jv_Wp.lift (fun _ Kz => jv_Ev.br jv_i295 (pc' := 251) (st' := []) rfl (by rfl) Kz) ?_
                refine jv_Wp.lift (fun _ Kz => jv_Ev.steps jv_i295 1 (pc' := 252) (l' := [(2, .int (1 : Int32)), (7, .int (0 : Int32)), (5, .long ((vl_I f.z).toInt64 - (1 : Int64))), (4, .int (vl_I (8 + (76800 + f.d)))), (3, .int (I 205 (76800 + f.d))), (1, .int (vl_I f.z)), (0, .ref 196)]) (st' := [.int (1 : Int32)]) rfl Kz) ?_
                refine jv_Wp.of (jv_Ev.ret jv_i295 rfl rfl) ?_
                rw [hQ]
                have td0 : ¬ zd = 0 := fun z => h1 ((vr_isN (L := L) okd hd11).mp ((hd ()).trans z))
                have td7 : zd = 7 := (hd ()).symm.trans ((vr_is (L := L) 7 (by decide) okd).mpr (Classical.not_not.mp h10))
                have ts0 : ¬ zs = 0 := fun z => h29 ((vr_isN (L := L) oks hs11).mp ((hs ()).trans z))
                have ts1 : zs = 1 := (hs ()).symm.trans ((vr_is (L := L) 1 (by decide) oks).mpr h32)
                have t00 : z0 = 0 := (h0 ()).symm.trans ((vr_isN (L := L) ok0 (by decide)).mpr h33)
                have ev : vx_even (vr_T I L (76800 + f.d)).val f.o f.z = false := by rw [vr_valv (by rw [(vr_is (L := L) 7 (by decide) okd).mp ((hd ()).trans (by omega))]; rfl), ← vr_dO D, vx_even_r hz]; exact (by rw [decide_eq_false h28, Bool.and_false])
                have r7 := vx_r7' (M := M) (A := (vr_A I L 1024)) (o := f.o) (z := f.z) (w := true) ((hd ()).trans (show zd = 7 by omega))
                rw [hrr ()] at r7
                have e : vx_atp M f (vr_A I L 1024) = (1, (vr_A I L 1024)) := by
                  exact vx_at1 (by rw [eD, eS, e0, hd (), hs (), h0 ()]; omega)
                exact ⟨_, _, by rw [← eQ, e]; rfl, fun z => by rw [← eQ, e] at z; exact absurd (show (1 : Nat) = 0 from z) (by omega), vr_fr_refl hf⟩
              · refine jv_Wp.lift (fun _ Kz => jv_Ev.steps jv_i295 2 (pc' := 230) (l' := [(2, .int (1 : Int32)), (7, .int (0 : Int32)), (5, .long ((vl_I f.z).toInt64 - (1 : Int64))), (4, .int (vl_I (8 + (76800 + f.d)))), (3, .int (I 205 (76800 + f.d))), (1, .int (vl_I f.z)), (0, .ref 196)]) (st' := [.int (0 : Int32), .ref 196, .int (1 : Int32)]) rfl Kz) ?_
                refine jv_Wp.lift (fun _ Kz => jv_Ev.c jv_i295 (pc' := 233) (S' := [.int (I 205 (76800 + 0)), .int (1 : Int32)]) jv_i271 [.ref 196, .int (0 : Int32)] rfl rfl rfl rfl (jv_cal rfl (jv_H_at (jv_rwK hW 196 12 24 (by decide))) rfl rfl) rfl (vq_sortOf 0 hW (by omega)) rfl rfl Kz) ?_
                refine jv_Wp.lift (fun _ Kz => jv_Ev.steps jv_i295 1 (pc' := 234) (l' := [(2, .int (1 : Int32)), (7, .int (0 : Int32)), (5, .long ((vl_I f.z).toInt64 - (1 : Int64))), (4, .int (vl_I (8 + (76800 + f.d)))), (3, .int (I 205 (76800 + f.d))), (1, .int (vl_I f.z)), (0, .ref 196)]) (st' := [.int (1 : Int32), .int (I 205 (76800 + 0)), .int (1 : Int32)]) rfl Kz) ?_
                refine jv_Wp.cnd jv_i295 (pt := 242) (pe := 237) (p := ((I 205 (76800 + 0)) = (1 : Int32))) (q := ((I 205 (76800 + 0)) = (1 : Int32))) rfl jv_bc_eq rfl rfl Iff.rfl (fun h34 => ?_) (fun h34 => ?_)
                · refine jv_Wp.lift (fun _ Kz => jv_Ev.steps jv_i295 1 (pc' := 243) (l' := [(2, .int (1 : Int32)), (7, .int (0 : Int32)), (5, .long ((vl_I f.z).toInt64 - (1 : Int64))), (4, .int (vl_I (8 + (76800 + f.d)))), (3, .int (I 205 (76800 + f.d))), (1, .int (vl_I f.z)), (0, .ref 196)]) (st' := [.int (0 : Int32), .int (1 : Int32)]) rfl Kz) ?_
                  have Hf164 := vq_first (I := I) (L := L) (K := K) (R := R) (n := n) (sl := sl) 1 0 (by omega) (by omega)
                  rw [show vx_fst 1 0 = 1 from by decide] at Hf164
                  refine jv_Wp.lift (fun _ Kz => jv_Ev.c jv_i295 (pc' := 246) (S' := [.int (1 : Int32)]) jv_i282 [.int (1 : Int32), .int (0 : Int32)] rfl rfl rfl rfl rfl rfl Hf164 rfl rfl Kz) ?_
                  refine jv_Wp.lift (fun _ Kz => jv_Ev.steps jv_i295 2 (pc' := 248) (l' := [(2, .int (1 : Int32)), (7, .int (0 : Int32)), (5, .long ((vl_I f.z).toInt64 - (1 : Int64))), (4, .int (vl_I (8 + (76800 + f.d)))), (3, .int (I 205 (76800 + f.d))), (1, .int (vl_I f.z)), (0, .ref 196)]) (st' := [.int (1 : Int32)]) rfl Kz) ?_
                  refine jv_Wp.lift (fun _ Kz => jv_Ev.br jv_i295 (pc' := 251) (st' := []) rfl (by rfl) Kz) ?_
                  refine jv_Wp.lift (fun _ Kz => jv_Ev.steps jv_i295 1 (pc' := 252) (l' := [(2, .int (1 : Int32)), (7, .int (0 : Int32)), (5, .long ((vl_I f.z).toInt64 - (1 : Int64))), (4, .int (vl_I (8 + (76800 + f.d)))), (3, .int (I 205 (76800 + f.d))), (1, .int (vl_I f.z)), (0, .ref 196)]) (st' := [.int (1 : Int32)]) rfl Kz) ?_
                  refine jv_Wp.of (jv_Ev.ret jv_i295 rfl rfl) ?_
                  rw [hQ]
                  have td0 : ¬ zd = 0 := fun z => h1 ((vr_isN (L := L) okd hd11).mp ((hd ()).trans z))
                  have td7 : zd = 7 := (hd ()).symm.trans ((vr_is (L := L) 7 (by decide) okd).mpr (Classical.not_not.mp h10))
                  have ts0 : ¬ zs = 0 := fun z => h29 ((vr_isN (L := L) oks hs11).mp ((hs ()).trans z))
                  have ts1 : zs = 1 := (hs ()).symm.trans ((vr_is (L := L) 1 (by decide) oks).mpr h32)
                  have t00 : ¬ z0 = 0 := fun z => h33 ((vr_isN (L := L) ok0 (by decide)).mp ((h0 ()).trans z))
                  have t01 : z0 = 1 := (h0 ()).symm.trans ((vr_is (L := L) 1 (by decide) ok0).mpr h34)
                  have ev : vx_even (vr_T I L (76800 + f.d)).val f.o f.z = false := by rw [vr_valv (by rw [(vr_is (L := L) 7 (by decide) okd).mp ((hd ()).trans (by omega))]; rfl), ← vr_dO D, vx_even_r hz]; exact (by rw [decide_eq_false h28, Bool.and_false])
                  have r7 := vx_r7' (M := M) (A := (vr_A I L 1024)) (o := f.o) (z := f.z) (w := true) ((hd ()).trans (show zd = 7 by omega))
                  rw [hrr ()] at r7
                  have e : vx_atp M f (vr_A I L 1024) = (1, (vr_A I L 1024)) := by
                    exact vx_at1 (by rw [eD, eS, e0, hd (), hs (), h0 ()]; omega)
                  exact ⟨_, _, by rw [← eQ, e]; rfl, fun z => by rw [← eQ, e] at z; exact absurd (show (1 : Nat) = 0 from z) (by omega), vr_fr_refl hf⟩
                · refine jv_Wp.lift (fun _ Kz => jv_Ev.steps jv_i295 2 (pc' := 243) (l' := [(2, .int (1 : Int32)), (7, .int (0 : Int32)), (5, .long ((vl_I f.z).toInt64 - (1 : Int64))), (4, .int (vl_I (8 + (76800 + f.d)))), (3, .int (I 205 (76800 + f.d))), (1, .int (vl_I f.z)), (0, .ref 196)]) (st' := [.int (6 : Int32), .int (1 : Int32)]) rfl Kz) ?_
                  have Hf165 := vq_first (I := I) (L := L) (K := K) (R := R) (n := n) (sl := sl) 1 6 (by omega) (by omega)
                  rw [show vx_fst 1 6 = 1 from by decide] at Hf165
                  refine jv_Wp.lift (fun _ Kz => jv_Ev.c jv_i295 (pc' := 246) (S' := [.int (1 : Int32)]) jv_i282 [.int (1 : Int32), .int (6 : Int32)] rfl rfl rfl rfl rfl rfl Hf165 rfl rfl Kz) ?_
                  refine jv_Wp.lift (fun _ Kz => jv_Ev.steps jv_i295 2 (pc' := 248) (l' := [(2, .int (1 : Int32)), (7, .int (0 : Int32)), (5, .long ((vl_I f.z).toInt64 - (1 : Int64))), (4, .int (vl_I (8 + (76800 + f.d)))), (3, .int (I 205 (76800 + f.d))), (1, .int (vl_I f.z)), (0, .ref 196)]) (st' := [.int (1 : Int32)]) rfl Kz) ?_
                  refine jv_Wp.lift (fun _ Kz => jv_Ev.br jv_i295 (pc' := 251) (st' := []) rfl (by rfl) Kz) ?_
                  refine jv_Wp.lift (fun _ Kz => jv_Ev.steps jv_i295 1 (pc' := 252) (l' := [(2, .int (1 : Int32)), (7, .int (0 : Int32)), (5, .long ((vl_I f.z).toInt64 - (1 : Int64))), (4, .int (vl_I (8 + (76800 + f.d)))), (3, .int (I 205 (76800 + f.d))), (1, .int (vl_I f.z)), (0, .ref 196)]) (st' := [.int (1 : Int32)]) rfl Kz) ?_
                  refine jv_Wp.of (jv_Ev.ret jv_i295 rfl rfl) ?_
                  rw [hQ]
                  have td0 : ¬ zd = 0 := fun z => h1 ((vr_isN (L := L) okd hd11).mp ((hd ()).trans z))
                  have td7 : zd = 7 := (hd ()).symm.trans ((vr_is (L := L) 7 (by decide) okd).mpr (Classical.not_not.mp h10))
                  have ts0 : ¬ zs = 0 := fun z => h29 ((vr_isN (L := L) oks hs11).mp ((hs ()).trans z))
                  have ts1 : zs = 1 := (hs ()).symm.trans ((vr_is (L := L) 1 (by decide) oks).mpr h32)
                  have t00 : ¬ z0 = 0 := fun z => h33 ((vr_isN (L := L) ok0 (by decide)).mp ((h0 ()).trans z))
                  have t01 : ¬ z0 = 1 := fun z => h34 ((vr_is (L := L) 1 (by decide) ok0).mp ((h0 ()).trans z))
                  have ev : vx_even (vr_T I L (76800 + f.d)).val f.o f.z = false := by rw [vr_valv (by rw [(vr_is (L := L) 7 (by decide) okd).mp ((hd ()).trans (by omega))]; rfl), ← vr_dO D, vx_even_r hz]; exact (by rw [decide_eq_false h28, Bool.and_false])
                  have r7 := vx_r7' (M := M) (A := (vr_A I L 1024)) (o := f.o) (z := f.z) (w := true) ((hd ()).trans (show zd = 7 by omega))
                  rw [hrr ()] at r7
                  have e : vx_atp M f (vr_A I L 1024) = (1, (vr_A I L 1024)) := by
                    exact vx_at1 (by rw [eD, eS, e0, hd (), hs (), h0 ()]; omega)
                  exact ⟨_, _, by rw [← eQ, e]; rfl, fun z => by rw [← eQ, e] at z; exact absurd (show (1 : Nat) = 0 from z) (by omega), vr_fr_refl hf⟩
            · refine jv_Wp.lift (fun _ Kz => jv_Ev.steps jv_i295 2 (pc' := 205) (l' := [(2, .int (1 : Int32)), (7, .int (0 : Int32)), (5, .long ((vl_I f.z).toInt64 - (1 : Int64))), (4, .int (vl_I (8 + (76800 + f.d)))), (3, .int (I 205 (76800 + f.d))), (1, .int (vl_I f.z)), (0, .ref 196)]) (st' := [.int (6 : Int32), .int (1 : Int32)]) rfl Kz) ?_
              have Hf166 := vq_first (I := I) (L := L) (K := K) (R := R) (n := n) (sl := sl) 1 6 (by omega) (by omega)
              rw [show vx_fst 1 6 = 1 from by decide] at Hf166
              refine jv_Wp.lift (fun _ Kz => jv_Ev.c jv_i295 (pc' := 208) (S' := [.int (1 : Int32)]) jv_i282 [.int (1 : Int32), .int (6 : Int32)] rfl rfl rfl rfl rfl rfl Hf166 rfl rfl Kz) ?_
              refine jv_Wp.lift (fun _ Kz => jv_Ev.steps jv_i295 3 (pc' := 211) (l' := [(2, .int (1 : Int32)), (7, .int (0 : Int32)), (5, .long ((vl_I f.z).toInt64 - (1 : Int64))), (4, .int (vl_I (8 + (76800 + f.d)))), (3, .int (I 205 (76800 + f.d))), (1, .int (vl_I f.z)), (0, .ref 196)]) (st' := [.ref 196, .int (1 : Int32)]) rfl Kz) ?_
              refine jv_Wp.lift (fun _ Kz => jv_Ev.m jv_i295 (pc' := 214) (st' := [.int (Int32.ofInt f.i), .int (1 : Int32)]) (G' := (jv_H K I L R)) rfl rfl (jv_m_getI (jv_rwK hW 196 12 24 (by decide)) rfl rfl (vr_dJ D)) Kz) ?_
              refine jv_Wp.lift (fun _ Kz => jv_Ev.steps jv_i295 1 (pc' := 217) (l' := [(2, .int (1 : Int32)), (7, .int (0 : Int32)), (5, .long ((vl_I f.z).toInt64 - (1 : Int64))), (4, .int (vl_I (8 + (76800 + f.d)))), (3, .int (I 205 (76800 + f.d))), (1, .int (vl_I f.z)), (0, .ref 196)]) (st' := [.int (241 : Int32), .int (Int32.ofInt f.i), .int (1 : Int32)]) rfl Kz) ?_
              refine jv_Wp.cnd jv_i295 (pt := 242) (pe := 220) (p := (¬ (Int32.ofInt f.i) = (241 : Int32))) (q := (¬ (Int32.ofInt f.i) = (241 : Int32))) rfl jv_bc_ne rfl rfl Iff.rfl (fun hz => absurd hz (fun z => z h241)) (fun _ => ?_)
              refine jv_Wp.lift (fun _ Kz => jv_Ev.steps jv_i295 2 (pc' := 222) (l' := [(2, .int (1 : Int32)), (7, .int (0 : Int32)), (5, .long ((vl_I f.z).toInt64 - (1 : Int64))), (4, .int (vl_I (8 + (76800 + f.d)))), (3, .int (I 205 (76800 + f.d))), (1, .int (vl_I f.z)), (0, .ref 196)]) (st' := [.int (0 : Int32), .ref 196, .int (1 : Int32)]) rfl Kz) ?_
              refine jv_Wp.lift (fun _ Kz => jv_Ev.c jv_i295 (pc' := 225) (S' := [.int (I 205 (76800 + 0)), .int (1 : Int32)]) jv_i271 [.ref 196, .int (0 : Int32)] rfl rfl rfl rfl (jv_cal rfl (jv_H_at (jv_rwK hW 196 12 24 (by decide))) rfl rfl) rfl (vq_sortOf 0 hW (by omega)) rfl rfl Kz) ?_
              refine jv_Wp.cnd jv_i295 (pt := 242) (pe := 228) (p := ((I 205 (76800 + 0)) = 0)) (q := ((I 205 (76800 + 0)) = 0)) rfl jv_bi_eq rfl rfl Iff.rfl (fun h35 => ?_) (fun h35 => ?_)
              · refine jv_Wp.lift (fun _ Kz => jv_Ev.steps jv_i295 1 (pc' := 243) (l' := [(2, .int (1 : Int32)), (7, .int (0 : Int32)), (5, .long ((vl_I f.z).toInt64 - (1 : Int64))), (4, .int (vl_I (8 + (76800 + f.d)))), (3, .int (I 205 (76800 + f.d))), (1, .int (vl_I f.z)), (0, .ref 196)]) (st' := [.int (0 : Int32), .int (1 : Int32)]) rfl Kz) ?_
                have Hf167 := vq_first (I := I) (L := L) (K := K) (R := R) (n := n) (sl := sl) 1 0 (by omega) (by omega)
                rw [show vx_fst 1 0 = 1 from by decide] at Hf167
                refine jv_Wp.lift (fun _ Kz => jv_Ev.c jv_i295 (pc' := 246) (S' := [.int (1 : Int32)]) jv_i282 [.int (1 : Int32), .int (0 : Int32)] rfl rfl rfl rfl rfl rfl Hf167 rfl rfl Kz) ?_
                refine jv_Wp.lift (fun _ Kz => jv_Ev.steps jv_i295 2 (pc' := 248) (l' := [(2, .int (1 : Int32)), (7, .int (0 : Int32)), (5, .long ((vl_I f.z).toInt64 - (1 : Int64))), (4, .int (vl_I (8 + (76800 + f.d)))), (3, .int (I 205 (76800 + f.d))), (1, .int (vl_I f.z)), (0, .ref 196)]) (st' := [.int (1 : Int32)]) rfl Kz) ?_
                refine jv_Wp.lift (fun _ Kz => jv_Ev.br jv_i295 (pc' := 251) (st' := []) rfl (by rfl) Kz) ?_
                refine jv_Wp.lift (fun _ Kz => jv_Ev.steps jv_i295 1 (pc' := 252) (l' := [(2, .int (1 : Int32)), (7, .int (0 : Int32)), (5, .long ((vl_I f.z).toInt64 - (1 : Int64))), (4, .int (vl_I (8 + (76800 + f.d)))), (3, .int (I 205 (76800 + f.d))), (1, .int (vl_I f.z)), (0, .ref 196)]) (st' := [.int (1 : Int32)]) rfl Kz) ?_
                refine jv_Wp.of (jv_Ev.ret jv_i295 rfl rfl) ?_
                rw [hQ]
                have td0 : ¬ zd = 0 := fun z => h1 ((vr_isN (L := L) okd hd11).mp ((hd ()).trans z))
                have td7 : zd = 7 := (hd ()).symm.trans ((vr_is (L := L) 7 (by decide) okd).mpr (Classical.not_not.mp h10))
                have ts0 : ¬ zs = 0 := fun z => h29 ((vr_isN (L := L) oks hs11).mp ((hs ()).trans z))
                have ts1 : ¬ zs = 1 := fun z => h32 ((vr_is (L := L) 1 (by decide) oks).mp ((hs ()).trans z))
                have t00 : z0 = 0 := (h0 ()).symm.trans ((vr_isN (L := L) ok0 (by decide)).mpr h35)
                have ev : vx_even (vr_T I L (76800 + f.d)).val f.o f.z = false := by rw [vr_valv (by rw [(vr_is (L := L) 7 (by decide) okd).mp ((hd ()).trans (by omega))]; rfl), ← vr_dO D, vx_even_r hz]; exact (by rw [decide_eq_false h28, Bool.and_false])
                have r7 := vx_r7' (M := M) (A := (vr_A I L 1024)) (o := f.o) (z := f.z) (w := true) ((hd ()).trans (show zd = 7 by omega))
                rw [hrr ()] at r7
                have e : vx_atp M f (vr_A I L 1024) = (1, (vr_A I L 1024)) := by
                  exact vx_at1 (by rw [eD, eS, e0, hd (), hs (), h0 ()]; omega)
                exact ⟨_, _, by rw [← eQ, e]; rfl, fun z => by rw [← eQ, e] at z; exact absurd (show (1 : Nat) = 0 from z) (by omega), vr_fr_refl hf⟩
              · refine jv_Wp.lift (fun _ Kz => jv_Ev.steps jv_i295 2 (pc' := 230) (l' := [(2, .int (1 : Int32)), (7, .int (0 : Int32)), (5, .long ((vl_I f.z).toInt64 - (1 : Int64))), (4, .int (vl_I (8 + (76800 + f.d)))), (3, .int (I 205 (76800 + f.d))), (1, .int (vl_I f.z)), (0, .ref 196)]) (st' := [.int (0 : Int32), .ref 196, .int (1 : Int32)]) rfl Kz) ?_
                refine jv_Wp.lift (fun _ Kz => jv_Ev.c jv_i295 (pc' := 233) (S' := [.int (I 205 (76800 + 0)), .int (1 : Int32)]) jv_i271 [.ref 196, .int (0 : Int32)] rfl rfl rfl rfl (jv_cal rfl (jv_H_at (jv_rwK hW 196 12 24 (by decide))) rfl rfl) rfl (vq_sortOf 0 hW (by omega)) rfl rfl Kz) ?_
                refine jv_Wp.lift (fun _ Kz => jv_Ev.steps jv_i295 1 (pc' := 234) (l' := [(2, .int (1 : Int32)), (7, .int (0 : Int32)), (5, .long ((vl_I f.z).toInt64 - (1 : Int64))), (4, .int (vl_I (8 + (76800 + f.d)))), (3, .int (I 205 (76800 + f.d))), (1, .int (vl_I f.z)), (0, .ref 196)]) (st' := [.int (1 : Int32), .int (I 205 (76800 + 0)), .int (1 : Int32)]) rfl Kz) ?_
                refine jv_Wp.cnd jv_i295 (pt := 242) (pe := 237) (p := ((I 205 (76800 + 0)) = (1 : Int32))) (q := ((I 205 (76800 + 0)) = (1 : Int32))) rfl jv_bc_eq rfl rfl Iff.rfl (fun h36 => ?_) (fun h36 => ?_)
                · refine jv_Wp.lift (fun _ Kz => jv_Ev.steps jv_i295 1 (pc' := 243) (l' := [(2, .int (1 : Int32)), (7, .int (0 : Int32)), (5, .long ((vl_I f.z).toInt64 - (1 : Int64))), (4, .int (vl_I (8 + (76800 + f.d)))), (3, .int (I 205 (76800 + f.d))), (1, .int (vl_I f.z)), (0, .ref 196)]) (st' := [.int (0 : Int32), .int (1 : Int32)]) rfl Kz) ?_
                  have Hf168 := vq_first (I := I) (L := L) (K := K) (R := R) (n := n) (sl := sl) 1 0 (by omega) (by omega)
                  rw [show vx_fst 1 0 = 1 from by decide] at Hf168
                  refine jv_Wp.lift (fun _ Kz => jv_Ev.c jv_i295 (pc' := 246) (S' := [.int (1 : Int32)]) jv_i282 [.int (1 : Int32), .int (0 : Int32)] rfl rfl rfl rfl rfl rfl Hf168 rfl rfl Kz) ?_
                  refine jv_Wp.lift (fun _ Kz => jv_Ev.steps jv_i295 2 (pc' := 248) (l' := [(2, .int (1 : Int32)), (7, .int (0 : Int32)), (5, .long ((vl_I f.z).toInt64 - (1 : Int64))), (4, .int (vl_I (8 + (76800 + f.d)))), (3, .int (I 205 (76800 + f.d))), (1, .int (vl_I f.z)), (0, .ref 196)]) (st' := [.int (1 : Int32)]) rfl Kz) ?_
                  refine jv_Wp.lift (fun _ Kz => jv_Ev.br jv_i295 (pc' := 251) (st' := []) rfl (by rfl) Kz) ?_
                  refine jv_Wp.lift (fun _ Kz => jv_Ev.steps jv_i295 1 (pc' := 252) (l' := [(2, .int (1 : Int32)), (7, .int (0 : Int32)), (5, .long ((vl_I f.z).toInt64 - (1 : Int64))), (4, .int (vl_I (8 + (76800 + f.d)))), (3, .int (I 205 (76800 + f.d))), (1, .int (vl_I f.z)), (0, .ref 196)]) (st' := [.int (1 : Int32)]) rfl Kz) ?_
                  refine jv_Wp.of (jv_Ev.ret jv_i295 rfl rfl) ?_
                  rw [hQ]
                  have td0 : ¬ zd = 0 := fun z => h1 ((vr_isN (L := L) okd hd11).mp ((hd ()).trans z))
                  have td7 : zd = 7 := (hd ()).symm.trans ((vr_is (L := L) 7 (by decide) okd).mpr (Classical.not_not.mp h10))
                  have ts0 : ¬ zs = 0 := fun z => h29 ((vr_isN (L := L) oks hs11).mp ((hs ()).trans z))
                  have ts1 : ¬ zs = 1 := fun z => h32 ((vr_is (L := L) 1 (by decide) oks).mp ((hs ()).trans z))
                  have t00 : ¬ z0 = 0 := fun z => h35 ((vr_isN (L := L) ok0 (by decide)).mp ((h0 ()).trans z))
                  have t01 : z0 = 1 := (h0 ()).symm.trans ((vr_is (L := L) 1 (by decide) ok0).mpr h36)
                  have ev : vx_even (vr_T I L (76800 + f.d)).val f.o f.z = false := by rw [vr_valv (by rw [(vr_is (L := L) 7 (by decide) okd).mp ((hd ()).trans (by omega))]; rfl), ← vr_dO D, vx_even_r hz]; exact (by rw [decide_eq_false h28, Bool.and_false])
                  have r7 := vx_r7' (M := M) (A := (vr_A I L 1024)) (o := f.o) (z := f.z) (w := true) ((hd ()).trans (show zd = 7 by omega))
                  rw [hrr ()] at r7
                  have e : vx_atp M f (vr_A I L 1024) = (1, (vr_A I L 1024)) := by
                    exact vx_at1 (by rw [eD, eS, e0, hd (), hs (), h0 ()]; omega)
                  exact ⟨_, _, by rw [← eQ, e]; rfl, fun z => by rw [← eQ, e] at z; exact absurd (show (1 : Nat) = 0 from z) (by omega), vr_fr_refl hf⟩
                · refine jv_Wp.lift (fun _ Kz => jv_Ev.steps jv_i295 2 (pc' := 243) (l' := [(2, .int (1 : Int32)), (7, .int (0 : Int32)), (5, .long ((vl_I f.z).toInt64 - (1 : Int64))), (4, .int (vl_I (8 + (76800 + f.d)))), (3, .int (I 205 (76800 + f.d))), (1, .int (vl_I f.z)), (0, .ref 196)]) (st' := [.int (6 : Int32), .int (1 : Int32)]) rfl Kz) ?_
                  have Hf169 := vq_first (I := I) (L := L) (K := K) (R := R) (n := n) (sl := sl) 1 6 (by omega) (by omega)
                  rw [show vx_fst 1 6 = 1 from by decide] at Hf169
                  refine jv_Wp.lift (fun _ Kz => jv_Ev.c jv_i295 (pc' := 246) (S' := [.int (1 : Int32)]) jv_i282 [.int (1 : Int32), .int (6 : Int32)] rfl rfl rfl rfl rfl rfl Hf169 rfl rfl Kz) ?_
                  refine jv_Wp.lift (fun _ Kz => jv_Ev.steps jv_i295 2 (pc' := 248) (l' := [(2, .int (1 : Int32)), (7, .int (0 : Int32)), (5, .long ((vl_I f.z).toInt64 - (1 : Int64))), (4, .int (vl_I (8 + (76800 + f.d)))), (3, .int (I 205 (76800 + f.d))), (1, .int (vl_I f.z)), (0, .ref 196)]) (st' := [.int (1 : Int32)]) rfl Kz) ?_
                  refine jv_Wp.lift (fun _ Kz => jv_Ev.br jv_i295 (pc' := 251) (st' := []) rfl (by rfl) Kz) ?_
                  refine jv_Wp.lift (fun _ Kz => jv_Ev.steps jv_i295 1 (pc' := 252) (l' := [(2, .int (1 : Int32)), (7, .int (0 : Int32)), (5, .long ((vl_I f.z).toInt64 - (1 : Int64))), (4, .int (vl_I (8 + (76800 + f.d)))), (3, .int (I 205 (76800 + f.d))), (1, .int (vl_I f.z)), (0, .ref 196)]) (st' := [.int (1 : Int32)]) rfl Kz) ?_
                  refine jv_Wp.of (jv_Ev.ret jv_i295 rfl rfl) ?_
                  rw [hQ]
                  have td0 : ¬ zd = 0 := fun z => h1 ((vr_isN (L := L) okd hd11).mp ((hd ()).trans z))
                  have td7 : zd = 7 := (hd ()).symm.trans ((vr_is (L := L) 7 (by decide) okd).mpr (Classical.not_not.mp h10))
                  have ts0 : ¬ zs = 0 := fun z => h29 ((vr_isN (L := L) oks hs11).mp ((hs ()).trans z))
                  have ts1 : ¬ zs = 1 := fun z => h32 ((vr_is (L := L) 1 (by decide) oks).mp ((hs ()).trans z))
                  have t00 : ¬ z0 = 0 := fun z => h35 ((vr_isN (L := L) ok0 (by decide)).mp ((h0 ()).trans z))
                  have t01 : ¬ z0 = 1 := fun z => h36 ((vr_is (L := L) 1 (by decide) ok0).mp ((h0 ()).trans z))
                  have ev : vx_even (vr_T I L (76800 + f.d)).val f.o f.z = false := by rw [vr_valv (by rw [(vr_is (L := L) 7 (by decide) okd).mp ((hd ()).trans (by omega))]; rfl), ← vr_dO D, vx_even_r hz]; exact (by rw [decide_eq_false h28, Bool.and_false])
                  have r7 := vx_r7' (M := M) (A := (vr_A I L 1024)) (o := f.o) (z := f.z) (w := true) ((hd ()).trans (show zd = 7 by omega))
                  rw [hrr ()] at r7
                  have e : vx_atp M f (vr_A I L 1024) = (1, (vr_A I L 1024)) := by
                    exact vx_at1 (by rw [eD, eS, e0, hd (), hs (), h0 ()]; omega)
                  exact ⟨_, _, by rw [← eQ, e]; rfl, fun z => by rw [← eQ, e] at z; exact absurd (show (1 : Nat) = 0 from z) (by omega), vr_fr_refl hf⟩
        · refine jv_Wp.lift (fun _ Kz => jv_Ev.steps jv_i295 5 (pc' := 154) (l' := [(7, .int (1 : Int32)), (5, .long ((vl_I f.z).toInt64 - (1 : Int64))), (4, .int (vl_I (8 + (76800 + f.d)))), (2, .int (1 : Int32)), (3, .int (I 205 (76800 + f.d))), (1, .int (vl_I f.z)), (0, .ref 196)]) (st' := [.int (1 : Int32), .int (1 : Int32)]) rfl Kz) ?_
          refine jv_Wp.lift (fun _ Kz => jv_Ev.br jv_i295 (pc' := 157) (st' := [.int (1 : Int32)]) rfl (by rfl) Kz) ?_
          refine jv_Wp.lift (fun _ Kz => jv_Ev.steps jv_i295 2 (pc' := 159) (l' := [(7, .int (1 : Int32)), (5, .long ((vl_I f.z).toInt64 - (1 : Int64))), (4, .int (vl_I (8 + (76800 + f.d)))), (2, .int (1 : Int32)), (3, .int (I 205 (76800 + f.d))), (1, .int (vl_I f.z)), (0, .ref 196)]) (st' := [.ref 196, .ref 196, .int (1 : Int32)]) rfl Kz) ?_
          refine jv_Wp.lift (fun _ Kz => jv_Ev.m jv_i295 (pc' := 162) (st' := [.int (vl_I f.d), .ref 196, .int (1 : Int32)]) (G' := (jv_H K I L R)) rfl rfl (jv_m_getI (jv_rwK hW 196 12 24 (by decide)) rfl rfl D.2.1) Kz) ?_
          refine jv_Wp.lift (fun _ Kz => jv_Ev.steps jv_i295 2 (pc' := 164) (l' := [(7, .int (1 : Int32)), (5, .long ((vl_I f.z).toInt64 - (1 : Int64))), (4, .int (vl_I (8 + (76800 + f.d)))), (2, .int (1 : Int32)), (3, .int (I 205 (76800 + f.d))), (1, .int (vl_I f.z)), (0, .ref 196)]) (st' := [.int (1 : Int32), .int (vl_I f.z), .int (vl_I f.d), .ref 196, .int (1 : Int32)]) rfl Kz) ?_
          have Hb := vq_reach (I := I) (L := L) (n := n) (sl := sl) M f f.d kd f.z true hW hM D okd hd11 hz k8 hkd
          rw [hbd ()] at Hb
          refine jv_Wp.lift (fun _ Kz => jv_Ev.c jv_i295 (pc' := 167) (S' := [.int (vl_I bd), .int (1 : Int32)]) jv_i290 [.ref 196, .int (vl_I f.d), .int (vl_I f.z), .int (1 : Int32)] rfl rfl rfl rfl (jv_cal rfl (jv_H_at (jv_rwK hW 196 12 24 (by decide))) rfl rfl) rfl Hb rfl rfl Kz) ?_
          refine jv_Wp.lift (fun _ Kz => jv_Ev.steps jv_i295 1 (pc' := 171) (l' := [(7, .int (1 : Int32)), (5, .long ((vl_I f.z).toInt64 - (1 : Int64))), (4, .int (vl_I (8 + (76800 + f.d)))), (2, .int (1 : Int32)), (3, .int (I 205 (76800 + f.d))), (1, .int (vl_I f.z)), (0, .ref 196)]) (st' := [.int (vl_I bd), .int (1 : Int32)]) rfl Kz) ?_
          have Hf170 := vq_first (I := I) (L := L) (K := K) (R := R) (n := n) (sl := sl) 1 bd (by omega) (by omega)
          rw [show vx_fst 1 bd = 1 from by have q := vx_fst_g 1 bd; omega] at Hf170
          refine jv_Wp.lift (fun _ Kz => jv_Ev.c jv_i295 (pc' := 174) (S' := [.int (1 : Int32)]) jv_i282 [.int (1 : Int32), .int (vl_I bd)] rfl rfl rfl rfl rfl rfl Hf170 rfl rfl Kz) ?_
          refine jv_Wp.lift (fun _ Kz => jv_Ev.steps jv_i295 4 (pc' := 178) (l' := [(2, .int (1 : Int32)), (7, .int (1 : Int32)), (5, .long ((vl_I f.z).toInt64 - (1 : Int64))), (4, .int (vl_I (8 + (76800 + f.d)))), (3, .int (I 205 (76800 + f.d))), (1, .int (vl_I f.z)), (0, .ref 196)]) (st' := [.ref 196, .ref 196, .int (1 : Int32)]) rfl Kz) ?_
          refine jv_Wp.lift (fun _ Kz => jv_Ev.m jv_i295 (pc' := 181) (st' := [.int (vl_I f.s), .ref 196, .int (1 : Int32)]) (G' := (jv_H K I L R)) rfl rfl (jv_m_getI (jv_rwK hW 196 12 24 (by decide)) rfl rfl D.2.2.1) Kz) ?_
          refine jv_Wp.lift (fun _ Kz => jv_Ev.c jv_i295 (pc' := 184) (S' := [.int (I 205 (76800 + f.s)), .int (1 : Int32)]) jv_i271 [.ref 196, .int (vl_I f.s)] rfl rfl rfl rfl (jv_cal rfl (jv_H_at (jv_rwK hW 196 12 24 (by decide))) rfl rfl) rfl (vq_sortOf f.s hW (by omega)) rfl rfl Kz) ?_
          refine jv_Wp.cnd jv_i295 (pt := 204) (pe := 187) (p := ((I 205 (76800 + f.s)) = 0)) (q := ((I 205 (76800 + f.s)) = 0)) rfl jv_bi_eq rfl rfl Iff.rfl (fun h37 => ?_) (fun h37 => ?_)
          · refine jv_Wp.lift (fun _ Kz => jv_Ev.steps jv_i295 1 (pc' := 205) (l' := [(2, .int (1 : Int32)), (7, .int (1 : Int32)), (5, .long ((vl_I f.z).toInt64 - (1 : Int64))), (4, .int (vl_I (8 + (76800 + f.d)))), (3, .int (I 205 (76800 + f.d))), (1, .int (vl_I f.z)), (0, .ref 196)]) (st' := [.int (0 : Int32), .int (1 : Int32)]) rfl Kz) ?_
            have Hf171 := vq_first (I := I) (L := L) (K := K) (R := R) (n := n) (sl := sl) 1 0 (by omega) (by omega)
            rw [show vx_fst 1 0 = 1 from by decide] at Hf171
            refine jv_Wp.lift (fun _ Kz => jv_Ev.c jv_i295 (pc' := 208) (S' := [.int (1 : Int32)]) jv_i282 [.int (1 : Int32), .int (0 : Int32)] rfl rfl rfl rfl rfl rfl Hf171 rfl rfl Kz) ?_
            refine jv_Wp.lift (fun _ Kz => jv_Ev.steps jv_i295 3 (pc' := 211) (l' := [(2, .int (1 : Int32)), (7, .int (1 : Int32)), (5, .long ((vl_I f.z).toInt64 - (1 : Int64))), (4, .int (vl_I (8 + (76800 + f.d)))), (3, .int (I 205 (76800 + f.d))), (1, .int (vl_I f.z)), (0, .ref 196)]) (st' := [.ref 196, .int (1 : Int32)]) rfl Kz) ?_
            refine jv_Wp.lift (fun _ Kz => jv_Ev.m jv_i295 (pc' := 214) (st' := [.int (Int32.ofInt f.i), .int (1 : Int32)]) (G' := (jv_H K I L R)) rfl rfl (jv_m_getI (jv_rwK hW 196 12 24 (by decide)) rfl rfl (vr_dJ D)) Kz) ?_
            refine jv_Wp.lift (fun _ Kz => jv_Ev.steps jv_i295 1 (pc' := 217) (l' := [(2, .int (1 : Int32)), (7, .int (1 : Int32)), (5, .long ((vl_I f.z).toInt64 - (1 : Int64))), (4, .int (vl_I (8 + (76800 + f.d)))), (3, .int (I 205 (76800 + f.d))), (1, .int (vl_I f.z)), (0, .ref 196)]) (st' := [.int (241 : Int32), .int (Int32.ofInt f.i), .int (1 : Int32)]) rfl Kz) ?_
            refine jv_Wp.cnd jv_i295 (pt := 242) (pe := 220) (p := (¬ (Int32.ofInt f.i) = (241 : Int32))) (q := (¬ (Int32.ofInt f.i) = (241 : Int32))) rfl jv_bc_ne rfl rfl Iff.rfl (fun hz => absurd hz (fun z => z h241)) (fun _ => ?_)
            refine jv_Wp.lift (fun _ Kz => jv_Ev.steps jv_i295 2 (pc' := 222) (l' := [(2, .int (1 : Int32)), (7, .int (1 : Int32)), (5, .long ((vl_I f.z).toInt64 - (1 : Int64))), (4, .int (vl_I (8 + (76800 + f.d)))), (3, .int (I 205 (76800 + f.d))), (1, .int (vl_I f.z)), (0, .ref 196)]) (st' := [.int (0 : Int32), .ref 196, .int (1 : Int32)]) rfl Kz) ?_
            refine jv_Wp.lift (fun _ Kz => jv_Ev.c jv_i295 (pc' := 225) (S' := [.int (I 205 (76800 + 0)), .int (1 : Int32)]) jv_i271 [.ref 196, .int (0 : Int32)] rfl rfl rfl rfl (jv_cal rfl (jv_H_at (jv_rwK hW 196 12 24 (by decide))) rfl rfl) rfl (vq_sortOf 0 hW (by omega)) rfl rfl Kz) ?_
            refine jv_Wp.cnd jv_i295 (pt := 242) (pe := 228) (p := ((I 205 (76800 + 0)) = 0)) (q := ((I 205 (76800 + 0)) = 0)) rfl jv_bi_eq rfl rfl Iff.rfl (fun h38 => ?_) (fun h38 => ?_)
            · refine jv_Wp.lift (fun _ Kz => jv_Ev.steps jv_i295 1 (pc' := 243) (l' := [(2, .int (1 : Int32)), (7, .int (1 : Int32)), (5, .long ((vl_I f.z).toInt64 - (1 : Int64))), (4, .int (vl_I (8 + (76800 + f.d)))), (3, .int (I 205 (76800 + f.d))), (1, .int (vl_I f.z)), (0, .ref 196)]) (st' := [.int (0 : Int32), .int (1 : Int32)]) rfl Kz) ?_
              have Hf172 := vq_first (I := I) (L := L) (K := K) (R := R) (n := n) (sl := sl) 1 0 (by omega) (by omega)
              rw [show vx_fst 1 0 = 1 from by decide] at Hf172
              refine jv_Wp.lift (fun _ Kz => jv_Ev.c jv_i295 (pc' := 246) (S' := [.int (1 : Int32)]) jv_i282 [.int (1 : Int32), .int (0 : Int32)] rfl rfl rfl rfl rfl rfl Hf172 rfl rfl Kz) ?_
              refine jv_Wp.lift (fun _ Kz => jv_Ev.steps jv_i295 2 (pc' := 248) (l' := [(2, .int (1 : Int32)), (7, .int (1 : Int32)), (5, .long ((vl_I f.z).toInt64 - (1 : Int64))), (4, .int (vl_I (8 + (76800 + f.d)))), (3, .int (I 205 (76800 + f.d))), (1, .int (vl_I f.z)), (0, .ref 196)]) (st' := [.int (1 : Int32)]) rfl Kz) ?_
              refine jv_Wp.lift (fun _ Kz => jv_Ev.br jv_i295 (pc' := 251) (st' := []) rfl (by rfl) Kz) ?_
              refine jv_Wp.lift (fun _ Kz => jv_Ev.steps jv_i295 1 (pc' := 252) (l' := [(2, .int (1 : Int32)), (7, .int (1 : Int32)), (5, .long ((vl_I f.z).toInt64 - (1 : Int64))), (4, .int (vl_I (8 + (76800 + f.d)))), (3, .int (I 205 (76800 + f.d))), (1, .int (vl_I f.z)), (0, .ref 196)]) (st' := [.int (1 : Int32)]) rfl Kz) ?_
              refine jv_Wp.of (jv_Ev.ret jv_i295 rfl rfl) ?_
              rw [hQ]
              have td0 : ¬ zd = 0 := fun z => h1 ((vr_isN (L := L) okd hd11).mp ((hd ()).trans z))
              have td7 : zd = 7 := (hd ()).symm.trans ((vr_is (L := L) 7 (by decide) okd).mpr (Classical.not_not.mp h10))
              have ts0 : zs = 0 := (hs ()).symm.trans ((vr_isN (L := L) oks hs11).mpr h37)
              have t00 : z0 = 0 := (h0 ()).symm.trans ((vr_isN (L := L) ok0 (by decide)).mpr h38)
              have ev : vx_even (vr_T I L (76800 + f.d)).val f.o f.z = true := by rw [vr_valv (by rw [(vr_is (L := L) 7 (by decide) okd).mp ((hd ()).trans (by omega))]; rfl), ← vr_dO D, vx_even_r hz]; exact (by rw [decide_eq_true (Classical.not_not.mp h19), decide_eq_true (Classical.not_not.mp h28)]; rfl)
              have r7 := vx_r7' (M := M) (A := (vr_A I L 1024)) (o := f.o) (z := f.z) (w := true) ((hd ()).trans (show zd = 7 by omega))
              rw [hrr ()] at r7
              have e : vx_atp M f (vr_A I L 1024) = (1, (vr_A I L 1024)) := by
                exact vx_at1 (by rw [eD, eS, e0, hd (), hs (), h0 ()]; omega)
              exact ⟨_, _, by rw [← eQ, e]; rfl, fun z => by rw [← eQ, e] at z; exact absurd (show (1 : Nat) = 0 from z) (by omega), vr_fr_refl hf⟩
            · refine jv_Wp.lift (fun _ Kz => jv_Ev.steps jv_i295 2 (pc' := 230) (l' := [(2, .int (1 : Int32)), (7, .int (1 : Int32)), (5, .long ((vl_I f.z).toInt64 - (1 : Int64))), (4, .int (vl_I (8 + (76800 + f.d)))), (3, .int (I 205 (76800 + f.d))), (1, .int (vl_I f.z)), (0, .ref 196)]) (st' := [.int (0 : Int32), .ref 196, .int (1 : Int32)]) rfl Kz) ?_
              refine jv_Wp.lift (fun _ Kz => jv_Ev.c jv_i295 (pc' := 233) (S' := [.int (I 205 (76800 + 0)), .int (1 : Int32)]) jv_i271 [.ref 196, .int (0 : Int32)] rfl rfl rfl rfl (jv_cal rfl (jv_H_at (jv_rwK hW 196 12 24 (by decide))) rfl rfl) rfl (vq_sortOf 0 hW (by omega)) rfl rfl Kz) ?_
              refine jv_Wp.lift (fun _ Kz => jv_Ev.steps jv_i295 1 (pc' := 234) (l' := [(2, .int (1 : Int32)), (7, .int (1 : Int32)), (5, .long ((vl_I f.z).toInt64 - (1 : Int64))), (4, .int (vl_I (8 + (76800 + f.d)))), (3, .int (I 205 (76800 + f.d))), (1, .int (vl_I f.z)), (0, .ref 196)]) (st' := [.int (1 : Int32), .int (I 205 (76800 + 0)), .int (1 : Int32)]) rfl Kz) ?_
              refine jv_Wp.cnd jv_i295 (pt := 242) (pe := 237) (p := ((I 205 (76800 + 0)) = (1 : Int32))) (q := ((I 205 (76800 + 0)) = (1 : Int32))) rfl jv_bc_eq rfl rfl Iff.rfl (fun h39 => ?_) (fun h39 => ?_)
              · refine jv_Wp.lift (fun _ Kz => jv_Ev.steps jv_i295 1 (pc' := 243) (l' := [(2, .int (1 : Int32)), (7, .int (1 : Int32)), (5, .long ((vl_I f.z).toInt64 - (1 : Int64))), (4, .int (vl_I (8 + (76800 + f.d)))), (3, .int (I 205 (76800 + f.d))), (1, .int (vl_I f.z)), (0, .ref 196)]) (st' := [.int (0 : Int32), .int (1 : Int32)]) rfl Kz) ?_
                have Hf173 := vq_first (I := I) (L := L) (K := K) (R := R) (n := n) (sl := sl) 1 0 (by omega) (by omega)
                rw [show vx_fst 1 0 = 1 from by decide] at Hf173
                refine jv_Wp.lift (fun _ Kz => jv_Ev.c jv_i295 (pc' := 246) (S' := [.int (1 : Int32)]) jv_i282 [.int (1 : Int32), .int (0 : Int32)] rfl rfl rfl rfl rfl rfl Hf173 rfl rfl Kz) ?_
                refine jv_Wp.lift (fun _ Kz => jv_Ev.steps jv_i295 2 (pc' := 248) (l' := [(2, .int (1 : Int32)), (7, .int (1 : Int32)), (5, .long ((vl_I f.z).toInt64 - (1 : Int64))), (4, .int (vl_I (8 + (76800 + f.d)))), (3, .int (I 205 (76800 + f.d))), (1, .int (vl_I f.z)), (0, .ref 196)]) (st' := [.int (1 : Int32)]) rfl Kz) ?_
                refine jv_Wp.lift (fun _ Kz => jv_Ev.br jv_i295 (pc' := 251) (st' := []) rfl (by rfl) Kz) ?_
                refine jv_Wp.lift (fun _ Kz => jv_Ev.steps jv_i295 1 (pc' := 252) (l' := [(2, .int (1 : Int32)), (7, .int (1 : Int32)), (5, .long ((vl_I f.z).toInt64 - (1 : Int64))), (4, .int (vl_I (8 + (76800 + f.d)))), (3, .int (I 205 (76800 + f.d))), (1, .int (vl_I f.z)), (0, .ref 196)]) (st' := [.int (1 : Int32)]) rfl Kz) ?_
                refine jv_Wp.of (jv_Ev.ret jv_i295 rfl rfl) ?_
                rw [hQ]
                have td0 : ¬ zd = 0 := fun z => h1 ((vr_isN (L := L) okd hd11).mp ((hd ()).trans z))
                have td7 : zd = 7 := (hd ()).symm.trans ((vr_is (L := L) 7 (by decide) okd).mpr (Classical.not_not.mp h10))
                have ts0 : zs = 0 := (hs ()).symm.trans ((vr_isN (L := L) oks hs11).mpr h37)
                have t00 : ¬ z0 = 0 := fun z => h38 ((vr_isN (L := L) ok0 (by decide)).mp ((h0 ()).trans z))
                have t01 : z0 = 1 := (h0 ()).symm.trans ((vr_is (L := L) 1 (by decide) ok0).mpr h39)
                have ev : vx_even (vr_T I L (76800 + f.d)).val f.o f.z = true := by rw [vr_valv (by rw [(vr_is (L := L) 7 (by decide) okd).mp ((hd ()).trans (by omega))]; rfl), ← vr_dO D, vx_even_r hz]; exact (by rw [decide_eq_true (Classical.not_not.mp h19), decide_eq_true (Classical.not_not.mp h28)]; rfl)
                have r7 := vx_r7' (M := M) (A := (vr_A I L 1024)) (o := f.o) (z := f.z) (w := true) ((hd ()).trans (show zd = 7 by omega))
                rw [hrr ()] at r7
                have e : vx_atp M f (vr_A I L 1024) = (1, (vr_A I L 1024)) := by
                  exact vx_at1 (by rw [eD, eS, e0, hd (), hs (), h0 ()]; omega)
                exact ⟨_, _, by rw [← eQ, e]; rfl, fun z => by rw [← eQ, e] at z; exact absurd (show (1 : Nat) = 0 from z) (by omega), vr_fr_refl hf⟩
              · refine jv_Wp.lift (fun _ Kz => jv_Ev.steps jv_i295 2 (pc' := 243) (l' := [(2, .int (1 : Int32)), (7, .int (1 : Int32)), (5, .long ((vl_I f.z).toInt64 - (1 : Int64))), (4, .int (vl_I (8 + (76800 + f.d)))), (3, .int (I 205 (76800 + f.d))), (1, .int (vl_I f.z)), (0, .ref 196)]) (st' := [.int (6 : Int32), .int (1 : Int32)]) rfl Kz) ?_
                have Hf174 := vq_first (I := I) (L := L) (K := K) (R := R) (n := n) (sl := sl) 1 6 (by omega) (by omega)
                rw [show vx_fst 1 6 = 1 from by decide] at Hf174
                refine jv_Wp.lift (fun _ Kz => jv_Ev.c jv_i295 (pc' := 246) (S' := [.int (1 : Int32)]) jv_i282 [.int (1 : Int32), .int (6 : Int32)] rfl rfl rfl rfl rfl rfl Hf174 rfl rfl Kz) ?_
                refine jv_Wp.lift (fun _ Kz => jv_Ev.steps jv_i295 2 (pc' := 248) (l' := [(2, .int (1 : Int32)), (7, .int (1 : Int32)), (5, .long ((vl_I f.z).toInt64 - (1 : Int64))), (4, .int (vl_I (8 + (76800 + f.d)))), (3, .int (I 205 (76800 + f.d))), (1, .int (vl_I f.z)), (0, .ref 196)]) (st' := [.int (1 : Int32)]) rfl Kz) ?_
                refine jv_Wp.lift (fun _ Kz => jv_Ev.br jv_i295 (pc' := 251) (st' := []) rfl (by rfl) Kz) ?_
                refine jv_Wp.lift (fun _ Kz => jv_Ev.steps jv_i295 1 (pc' := 252) (l' := [(2, .int (1 : Int32)), (7, .int (1 : Int32)), (5, .long ((vl_I f.z).toInt64 - (1 : Int64))), (4, .int (vl_I (8 + (76800 + f.d)))), (3, .int (I 205 (76800 + f.d))), (1, .int (vl_I f.z)), (0, .ref 196)]) (st' := [.int (1 : Int32)]) rfl Kz) ?_
                refine jv_Wp.of (jv_Ev.ret jv_i295 rfl rfl) ?_
                rw [hQ]
                have td0 : ¬ zd = 0 := fun z => h1 ((vr_isN (L := L) okd hd11).mp ((hd ()).trans z))
                have td7 : zd = 7 := (hd ()).symm.trans ((vr_is (L := L) 7 (by decide) okd).mpr (Classical.not_not.mp h10))
                have ts0 : zs = 0 := (hs ()).symm.trans ((vr_isN (L := L) oks hs11).mpr h37)
                have t00 : ¬ z0 = 0 := fun z => h38 ((vr_isN (L := L) ok0 (by decide)).mp ((h0 ()).trans z))
                have t01 : ¬ z0 = 1 := fun z => h39 ((vr_is (L := L) 1 (by decide) ok0).mp ((h0 ()).trans z))
                have ev : vx_even (vr_T I L (76800 + f.d)).val f.o f.z = true := by rw [vr_valv (by rw [(vr_is (L := L) 7 (by decide) okd).mp ((hd ()).trans (by omega))]; rfl), ← vr_dO D, vx_even_r hz]; exact (by rw [decide_eq_true (Classical.not_not.mp h19), decide_eq_true (Classical.not_not.mp h28)]; rfl)
                have r7 := vx_r7' (M := M) (A := (vr_A I L 1024)) (o := f.o) (z := f.z) (w := true) ((hd ()).trans (show zd = 7 by omega))
                rw [hrr ()] at r7
                have e : vx_atp M f (vr_A I L 1024) = (1, (vr_A I L 1024)) := by
                  exact vx_at1 (by rw [eD, eS, e0, hd (), hs (), h0 ()]; omega)
                exact ⟨_, _, by rw [← eQ, e]; rfl, fun z => by rw [← eQ, e] at z; exact absurd (show (1 : Nat) = 0 from z) (by omega), vr_fr_refl hf⟩
          · refine jv_Wp.lift (fun _ Kz => jv_Ev.steps jv_i295 2 (pc' := 189) (l' := [(2, .int (1 : Int32)), (7, .int (1 : Int32)), (5, .long ((vl_I f.z).toInt64 - (1 : Int64))), (4, .int (vl_I (8 + (76800 + f.d)))), (3, .int (I 205 (76800 + f.d))), (1, .int (vl_I f.z)), (0, .ref 196)]) (st' := [.ref 196, .ref 196, .int (1 : Int32)]) rfl Kz) ?_
            refine jv_Wp.lift (fun _ Kz => jv_Ev.m jv_i295 (pc' := 192) (st' := [.int (vl_I f.s), .ref 196, .int (1 : Int32)]) (G' := (jv_H K I L R)) rfl rfl (jv_m_getI (jv_rwK hW 196 12 24 (by decide)) rfl rfl D.2.2.1) Kz) ?_
            refine jv_Wp.lift (fun _ Kz => jv_Ev.c jv_i295 (pc' := 195) (S' := [.int (I 205 (76800 + f.s)), .int (1 : Int32)]) jv_i271 [.ref 196, .int (vl_I f.s)] rfl rfl rfl rfl (jv_cal rfl (jv_H_at (jv_rwK hW 196 12 24 (by decide))) rfl rfl) rfl (vq_sortOf f.s hW (by omega)) rfl rfl Kz) ?_
            refine jv_Wp.lift (fun _ Kz => jv_Ev.steps jv_i295 1 (pc' := 196) (l' := [(2, .int (1 : Int32)), (7, .int (1 : Int32)), (5, .long ((vl_I f.z).toInt64 - (1 : Int64))), (4, .int (vl_I (8 + (76800 + f.d)))), (3, .int (I 205 (76800 + f.d))), (1, .int (vl_I f.z)), (0, .ref 196)]) (st' := [.int (1 : Int32), .int (I 205 (76800 + f.s)), .int (1 : Int32)]) rfl Kz) ?_
            refine jv_Wp.cnd jv_i295 (pt := 204) (pe := 199) (p := ((I 205 (76800 + f.s)) = (1 : Int32))) (q := ((I 205 (76800 + f.s)) = (1 : Int32))) rfl jv_bc_eq rfl rfl Iff.rfl (fun h40 => ?_) (fun h40 => ?_)
            · refine jv_Wp.lift (fun _ Kz => jv_Ev.steps jv_i295 1 (pc' := 205) (l' := [(2, .int (1 : Int32)), (7, .int (1 : Int32)), (5, .long ((vl_I f.z).toInt64 - (1 : Int64))), (4, .int (vl_I (8 + (76800 + f.d)))), (3, .int (I 205 (76800 + f.d))), (1, .int (vl_I f.z)), (0, .ref 196)]) (st' := [.int (0 : Int32), .int (1 : Int32)]) rfl Kz) ?_
              have Hf175 := vq_first (I := I) (L := L) (K := K) (R := R) (n := n) (sl := sl) 1 0 (by omega) (by omega)
              rw [show vx_fst 1 0 = 1 from by decide] at Hf175
              refine jv_Wp.lift (fun _ Kz => jv_Ev.c jv_i295 (pc' := 208) (S' := [.int (1 : Int32)]) jv_i282 [.int (1 : Int32), .int (0 : Int32)] rfl rfl rfl rfl rfl rfl Hf175 rfl rfl Kz) ?_
              refine jv_Wp.lift (fun _ Kz => jv_Ev.steps jv_i295 3 (pc' := 211) (l' := [(2, .int (1 : Int32)), (7, .int (1 : Int32)), (5, .long ((vl_I f.z).toInt64 - (1 : Int64))), (4, .int (vl_I (8 + (76800 + f.d)))), (3, .int (I 205 (76800 + f.d))), (1, .int (vl_I f.z)), (0, .ref 196)]) (st' := [.ref 196, .int (1 : Int32)]) rfl Kz) ?_
              refine jv_Wp.lift (fun _ Kz => jv_Ev.m jv_i295 (pc' := 214) (st' := [.int (Int32.ofInt f.i), .int (1 : Int32)]) (G' := (jv_H K I L R)) rfl rfl (jv_m_getI (jv_rwK hW 196 12 24 (by decide)) rfl rfl (vr_dJ D)) Kz) ?_
              refine jv_Wp.lift (fun _ Kz => jv_Ev.steps jv_i295 1 (pc' := 217) (l' := [(2, .int (1 : Int32)), (7, .int (1 : Int32)), (5, .long ((vl_I f.z).toInt64 - (1 : Int64))), (4, .int (vl_I (8 + (76800 + f.d)))), (3, .int (I 205 (76800 + f.d))), (1, .int (vl_I f.z)), (0, .ref 196)]) (st' := [.int (241 : Int32), .int (Int32.ofInt f.i), .int (1 : Int32)]) rfl Kz) ?_
              refine jv_Wp.cnd jv_i295 (pt := 242) (pe := 220) (p := (¬ (Int32.ofInt f.i) = (241 : Int32))) (q := (¬ (Int32.ofInt f.i) = (241 : Int32))) rfl jv_bc_ne rfl rfl Iff.rfl (fun hz => absurd hz (fun z => z h241)) (fun _ => ?_)
              refine jv_Wp.lift (fun _ Kz => jv_Ev.steps jv_i295 2 (pc' := 222) (l' := [(2, .int (1 : Int32)), (7, .int (1 : Int32)), (5, .long ((vl_I f.z).toInt64 - (1 : Int64))), (4, .int (vl_I (8 + (76800 + f.d)))), (3, .int (I 205 (76800 + f.d))), (1, .int (vl_I f.z)), (0, .ref 196)]) (st' := [.int (0 : Int32), .ref 196, .int (1 : Int32)]) rfl Kz) ?_
              refine jv_Wp.lift (fun _ Kz => jv_Ev.c jv_i295 (pc' := 225) (S' := [.int (I 205 (76800 + 0)), .int (1 : Int32)]) jv_i271 [.ref 196, .int (0 : Int32)] rfl rfl rfl rfl (jv_cal rfl (jv_H_at (jv_rwK hW 196 12 24 (by decide))) rfl rfl) rfl (vq_sortOf 0 hW (by omega)) rfl rfl Kz) ?_
              refine jv_Wp.cnd jv_i295 (pt := 242) (pe := 228) (p := ((I 205 (76800 + 0)) = 0)) (q := ((I 205 (76800 + 0)) = 0)) rfl jv_bi_eq rfl rfl Iff.rfl (fun h41 => ?_) (fun h41 => ?_)
              · refine jv_Wp.lift (fun _ Kz => jv_Ev.steps jv_i295 1 (pc' := 243) (l' := [(2, .int (1 : Int32)), (7, .int (1 : Int32)), (5, .long ((vl_I f.z).toInt64 - (1 : Int64))), (4, .int (vl_I (8 + (76800 + f.d)))), (3, .int (I 205 (76800 + f.d))), (1, .int (vl_I f.z)), (0, .ref 196)]) (st' := [.int (0 : Int32), .int (1 : Int32)]) rfl Kz) ?_
                have Hf176 := vq_first (I := I) (L := L) (K := K) (R := R) (n := n) (sl := sl) 1 0 (by omega) (by omega)
                rw [show vx_fst 1 0 = 1 from by decide] at Hf176
                refine jv_Wp.lift (fun _ Kz => jv_Ev.c jv_i295 (pc' := 246) (S' := [.int (1 : Int32)]) jv_i282 [.int (1 : Int32), .int (0 : Int32)] rfl rfl rfl rfl rfl rfl Hf176 rfl rfl Kz) ?_
                refine jv_Wp.lift (fun _ Kz => jv_Ev.steps jv_i295 2 (pc' := 248) (l' := [(2, .int (1 : Int32)), (7, .int (1 : Int32)), (5, .long ((vl_I f.z).toInt64 - (1 : Int64))), (4, .int (vl_I (8 + (76800 + f.d)))), (3, .int (I 205 (76800 + f.d))), (1, .int (vl_I f.z)), (0, .ref 196)]) (st' := [.int (1 : Int32)]) rfl Kz) ?_
                refine jv_Wp.lift (fun _ Kz => jv_Ev.br jv_i295 (pc' := 251) (st' := []) rfl (by rfl) Kz) ?_
                refine jv_Wp.lift (fun _ Kz => jv_Ev.steps jv_i295 1 (pc' := 252) (l' := [(2, .int (1 : Int32)), (7, .int (1 : Int32)), (5, .long ((vl_I f.z).toInt64 - (1 : Int64))), (4, .int (vl_I (8 + (76800 + f.d)))), (3, .int (I 205 (76800 + f.d))), (1, .int (vl_I f.z)), (0, .ref 196)]) (st' := [.int (1 : Int32)]) rfl Kz) ?_
                refine jv_Wp.of (jv_Ev.ret jv_i295 rfl rfl) ?_
                rw [hQ]
                have td0 : ¬ zd = 0 := fun z => h1 ((vr_isN (L := L) okd hd11).mp ((hd ()).trans z))
                have td7 : zd = 7 := (hd ()).symm.trans ((vr_is (L := L) 7 (by decide) okd).mpr (Classical.not_not.mp h10))
                have ts0 : ¬ zs = 0 := fun z => h37 ((vr_isN (L := L) oks hs11).mp ((hs ()).trans z))
                have ts1 : zs = 1 := (hs ()).symm.trans ((vr_is (L := L) 1 (by decide) oks).mpr h40)
                have t00 : z0 = 0 := (h0 ()).symm.trans ((vr_isN (L := L) ok0 (by decide)).mpr h41)
                have ev : vx_even (vr_T I L (76800 + f.d)).val f.o f.z = true := by rw [vr_valv (by rw [(vr_is (L := L) 7 (by decide) okd).mp ((hd ()).trans (by omega))]; rfl), ← vr_dO D, vx_even_r hz]; exact (by rw [decide_eq_true (Classical.not_not.mp h19), decide_eq_true (Classical.not_not.mp h28)]; rfl)
                have r7 := vx_r7' (M := M) (A := (vr_A I L 1024)) (o := f.o) (z := f.z) (w := true) ((hd ()).trans (show zd = 7 by omega))
                rw [hrr ()] at r7
                have e : vx_atp M f (vr_A I L 1024) = (1, (vr_A I L 1024)) := by
                  exact vx_at1 (by rw [eD, eS, e0, hd (), hs (), h0 ()]; omega)
                exact ⟨_, _, by rw [← eQ, e]; rfl, fun z => by rw [← eQ, e] at z; exact absurd (show (1 : Nat) = 0 from z) (by omega), vr_fr_refl hf⟩
              · refine jv_Wp.lift (fun _ Kz => jv_Ev.steps jv_i295 2 (pc' := 230) (l' := [(2, .int (1 : Int32)), (7, .int (1 : Int32)), (5, .long ((vl_I f.z).toInt64 - (1 : Int64))), (4, .int (vl_I (8 + (76800 + f.d)))), (3, .int (I 205 (76800 + f.d))), (1, .int (vl_I f.z)), (0, .ref 196)]) (st' := [.int (0 : Int32), .ref 196, .int (1 : Int32)]) rfl Kz) ?_
                refine jv_Wp.lift (fun _ Kz => jv_Ev.c jv_i295 (pc' := 233) (S' := [.int (I 205 (76800 + 0)), .int (1 : Int32)]) jv_i271 [.ref 196, .int (0 : Int32)] rfl rfl rfl rfl (jv_cal rfl (jv_H_at (jv_rwK hW 196 12 24 (by decide))) rfl rfl) rfl (vq_sortOf 0 hW (by omega)) rfl rfl Kz) ?_
                refine jv_Wp.lift (fun _ Kz => jv_Ev.steps jv_i295 1 (pc' := 234) (l' := [(2, .int (1 : Int32)), (7, .int (1 : Int32)), (5, .long ((vl_I f.z).toInt64 - (1 : Int64))), (4, .int (vl_I (8 + (76800 + f.d)))), (3, .int (I 205 (76800 + f.d))), (1, .int (vl_I f.z)), (0, .ref 196)]) (st' := [.int (1 : Int32), .int (I 205 (76800 + 0)), .int (1 : Int32)]) rfl Kz) ?_
                refine jv_Wp.cnd jv_i295 (pt := 242) (pe := 237) (p := ((I 205 (76800 + 0)) = (1 : Int32))) (q := ((I 205 (76800 + 0)) = (1 : Int32))) rfl jv_bc_eq rfl rfl Iff.rfl (fun h42 => ?_) (fun h42 => ?_)
                · refine jv_Wp.lift (fun _ Kz => jv_Ev.steps jv_i295 1 (pc' := 243) (l' := [(2, .int (1 : Int32)), (7, .int (1 : Int32)), (5, .long ((vl_I f.z).toInt64 - (1 : Int64))), (4, .int (vl_I (8 + (76800 + f.d)))), (3, .int (I 205 (76800 + f.d))), (1, .int (vl_I f.z)), (0, .ref 196)]) (st' := [.int (0 : Int32), .int (1 : Int32)]) rfl Kz) ?_
                  have Hf177 := vq_first (I := I) (L := L) (K := K) (R := R) (n := n) (sl := sl) 1 0 (by omega) (by omega)
                  rw [show vx_fst 1 0 = 1 from by decide] at Hf177
                  refine jv_Wp.lift (fun _ Kz => jv_Ev.c jv_i295 (pc' := 246) (S' := [.int (1 : Int32)]) jv_i282 [.int (1 : Int32), .int (0 : Int32)] rfl rfl rfl rfl rfl rfl Hf177 rfl rfl Kz) ?_
                  refine jv_Wp.lift (fun _ Kz => jv_Ev.steps jv_i295 2 (pc' := 248) (l' := [(2, .int (1 : Int32)), (7, .int (1 : Int32)), (5, .long ((vl_I f.z).toInt64 - (1 : Int64))), (4, .int (vl_I (8 + (76800 + f.d)))), (3, .int (I 205 (76800 + f.d))), (1, .int (vl_I f.z)), (0, .ref 196)]) (st' := [.int (1 : Int32)]) rfl Kz) ?_
                  refine jv_Wp.lift (fun _ Kz => jv_Ev.br jv_i295 (pc' := 251) (st' := []) rfl (by rfl) Kz) ?_
                  refine jv_Wp.lift (fun _ Kz => jv_Ev.steps jv_i295 1 (pc' := 252) (l' := [(2, .int (1 : Int32)), (7, .int (1 : Int32)), (5, .long ((vl_I f.z).toInt64 - (1 : Int64))), (4, .int (vl_I (8 + (76800 + f.d)))), (3, .int (I 205 (76800 + f.d))), (1, .int (vl_I f.z)), (0, .ref 196)]) (st' := [.int (1 : Int32)]) rfl Kz) ?_
                  refine jv_Wp.of (jv_Ev.ret jv_i295 rfl rfl) ?_
                  rw [hQ]
                  have td0 : ¬ zd = 0 := fun z => h1 ((vr_isN (L := L) okd hd11).mp ((hd ()).trans z))
                  have td7 : zd = 7 := (hd ()).symm.trans ((vr_is (L := L) 7 (by decide) okd).mpr (Classical.not_not.mp h10))
                  have ts0 : ¬ zs = 0 := fun z => h37 ((vr_isN (L := L) oks hs11).mp ((hs ()).trans z))
                  have ts1 : zs = 1 := (hs ()).symm.trans ((vr_is (L := L) 1 (by decide) oks).mpr h40)
                  have t00 : ¬ z0 = 0 := fun z => h41 ((vr_isN (L := L) ok0 (by decide)).mp ((h0 ()).trans z))
                  have t01 : z0 = 1 := (h0 ()).symm.trans ((vr_is (L := L) 1 (by decide) ok0).mpr h42)
                  have ev : vx_even (vr_T I L (76800 + f.d)).val f.o f.z = true := by rw [vr_valv (by rw [(vr_is (L := L) 7 (by decide) okd).mp ((hd ()).trans (by omega))]; rfl), ← vr_dO D, vx_even_r hz]; exact (by rw [decide_eq_true (Classical.not_not.mp h19), decide_eq_true (Classical.not_not.mp h28)]; rfl)
                  have r7 := vx_r7' (M := M) (A := (vr_A I L 1024)) (o := f.o) (z := f.z) (w := true) ((hd ()).trans (show zd = 7 by omega))
                  rw [hrr ()] at r7
                  have e : vx_atp M f (vr_A I L 1024) = (1, (vr_A I L 1024)) := by
                    exact vx_at1 (by rw [eD, eS, e0, hd (), hs (), h0 ()]; omega)
                  exact ⟨_, _, by rw [← eQ, e]; rfl, fun z => by rw [← eQ, e] at z; exact absurd (show (1 : Nat) = 0 from z) (by omega), vr_fr_refl hf⟩
                · refine jv_Wp.lift (fun _ Kz => jv_Ev.steps jv_i295 2 (pc' := 243) (l' := [(2, .int (1 : Int32)), (7, .int (1 : Int32)), (5, .long ((vl_I f.z).toInt64 - (1 : Int64))), (4, .int (vl_I (8 + (76800 + f.d)))), (3, .int (I 205 (76800 + f.d))), (1, .int (vl_I f.z)), (0, .ref 196)]) (st' := [.int (6 : Int32), .int (1 : Int32)]) rfl Kz) ?_
                  have Hf178 := vq_first (I := I) (L := L) (K := K) (R := R) (n := n) (sl := sl) 1 6 (by omega) (by omega)
                  rw [show vx_fst 1 6 = 1 from by decide] at Hf178
                  refine jv_Wp.lift (fun _ Kz => jv_Ev.c jv_i295 (pc' := 246) (S' := [.int (1 : Int32)]) jv_i282 [.int (1 : Int32), .int (6 : Int32)] rfl rfl rfl rfl rfl rfl Hf178 rfl rfl Kz) ?_
                  refine jv_Wp.lift (fun _ Kz => jv_Ev.steps jv_i295 2 (pc' := 248) (l' := [(2, .int (1 : Int32)), (7, .int (1 : Int32)), (5, .long ((vl_I f.z).toInt64 - (1 : Int64))), (4, .int (vl_I (8 + (76800 + f.d)))), (3, .int (I 205 (76800 + f.d))), (1, .int (vl_I f.z)), (0, .ref 196)]) (st' := [.int (1 : Int32)]) rfl Kz) ?_
                  refine jv_Wp.lift (fun _ Kz => jv_Ev.br jv_i295 (pc' := 251) (st' := []) rfl (by rfl) Kz) ?_
                  refine jv_Wp.lift (fun _ Kz => jv_Ev.steps jv_i295 1 (pc' := 252) (l' := [(2, .int (1 : Int32)), (7, .int (1 : Int32)), (5, .long ((vl_I f.z).toInt64 - (1 : Int64))), (4, .int (vl_I (8 + (76800 + f.d)))), (3, .int (I 205 (76800 + f.d))), (1, .int (vl_I f.z)), (0, .ref 196)]) (st' := [.int (1 : Int32)]) rfl Kz) ?_
                  refine jv_Wp.of (jv_Ev.ret jv_i295 rfl rfl) ?_
                  rw [hQ]
                  have td0 : ¬ zd = 0 := fun z => h1 ((vr_isN (L := L) okd hd11).mp ((hd ()).trans z))
                  have td7 : zd = 7 := (hd ()).symm.trans ((vr_is (L := L) 7 (by decide) okd).mpr (Classical.not_not.mp h10))
                  have ts0 : ¬ zs = 0 := fun z => h37 ((vr_isN (L := L) oks hs11).mp ((hs ()).trans z))
                  have ts1 : zs = 1 := (hs ()).symm.trans ((vr_is (L := L) 1 (by decide) oks).mpr h40)
                  have t00 : ¬ z0 = 0 := fun z => h41 ((vr_isN (L := L) ok0 (by decide)).mp ((h0 ()).trans z))
                  have t01 : ¬ z0 = 1 := fun z => h42 ((vr_is (L := L) 1 (by decide) ok0).mp ((h0 ()).trans z))
                  have ev : vx_even (vr_T I L (76800 + f.d)).val f.o f.z = true := by rw [vr_valv (by rw [(vr_is (L := L) 7 (by decide) okd).mp ((hd ()).trans (by omega))]; rfl), ← vr_dO D, vx_even_r hz]; exact (by rw [decide_eq_true (Classical.not_not.mp h19), decide_eq_true (Classical.not_not.mp h28)]; rfl)
                  have r7 := vx_r7' (M := M) (A := (vr_A I L 1024)) (o := f.o) (z := f.z) (w := true) ((hd ()).trans (show zd = 7 by omega))
                  rw [hrr ()] at r7
                  have e : vx_atp M f (vr_A I L 1024) = (1, (vr_A I L 1024)) := by
                    exact vx_at1 (by rw [eD, eS, e0, hd (), hs (), h0 ()]; omega)
                  exact ⟨_, _, by rw [← eQ, e]; rfl, fun z => by rw [← eQ, e] at z; exact absurd (show (1 : Nat) = 0 from z) (by omega), vr_fr_refl hf⟩
            · refine jv_Wp.lift (fun _ Kz => jv_Ev.steps jv_i295 2 (pc' := 205) (l' := [(2, .int (1 : Int32)), (7, .int (1 : Int32)), (5, .long ((vl_I f.z).toInt64 - (1 : Int64))), (4, .int (vl_I (8 + (76800 + f.d)))), (3, .int (I 205 (76800 + f.d))), (1, .int (vl_I f.z)), (0, .ref 196)]) (st' := [.int (6 : Int32), .int (1 : Int32)]) rfl Kz) ?_
              have Hf179 := vq_first (I := I) (L := L) (K := K) (R := R) (n := n) (sl := sl) 1 6 (by omega) (by omega)
              rw [show vx_fst 1 6 = 1 from by decide] at Hf179
              refine jv_Wp.lift (fun _ Kz => jv_Ev.c jv_i295 (pc' := 208) (S' := [.int (1 : Int32)]) jv_i282 [.int (1 : Int32), .int (6 : Int32)] rfl rfl rfl rfl rfl rfl Hf179 rfl rfl Kz) ?_
              refine jv_Wp.lift (fun _ Kz => jv_Ev.steps jv_i295 3 (pc' := 211) (l' := [(2, .int (1 : Int32)), (7, .int (1 : Int32)), (5, .long ((vl_I f.z).toInt64 - (1 : Int64))), (4, .int (vl_I (8 + (76800 + f.d)))), (3, .int (I 205 (76800 + f.d))), (1, .int (vl_I f.z)), (0, .ref 196)]) (st' := [.ref 196, .int (1 : Int32)]) rfl Kz) ?_
              refine jv_Wp.lift (fun _ Kz => jv_Ev.m jv_i295 (pc' := 214) (st' := [.int (Int32.ofInt f.i), .int (1 : Int32)]) (G' := (jv_H K I L R)) rfl rfl (jv_m_getI (jv_rwK hW 196 12 24 (by decide)) rfl rfl (vr_dJ D)) Kz) ?_
              refine jv_Wp.lift (fun _ Kz => jv_Ev.steps jv_i295 1 (pc' := 217) (l' := [(2, .int (1 : Int32)), (7, .int (1 : Int32)), (5, .long ((vl_I f.z).toInt64 - (1 : Int64))), (4, .int (vl_I (8 + (76800 + f.d)))), (3, .int (I 205 (76800 + f.d))), (1, .int (vl_I f.z)), (0, .ref 196)]) (st' := [.int (241 : Int32), .int (Int32.ofInt f.i), .int (1 : Int32)]) rfl Kz) ?_
              refine jv_Wp.cnd jv_i295 (pt := 242) (pe := 220) (p := (¬ (Int32.ofInt f.i) = (241 : Int32))) (q := (¬ (Int32.ofInt f.i) = (241 : Int32))) rfl jv_bc_ne rfl rfl Iff.rfl (fun hz => absurd hz (fun z => z h241)) (fun _ => ?_)
              refine jv_Wp.lift (fun _ Kz => jv_Ev.steps jv_i295 2 (pc' := 222) (l' := [(2, .int (1 : Int32)), (7, .int (1 : Int32)), (5, .long ((vl_I f.z).toInt64 - (1 : Int64))), (4, .int (vl_I (8 + (76800 + f.d)))), (3, .int (I 205 (76800 + f.d))), (1, .int (vl_I f.z)), (0, .ref 196)]) (st' := [.int (0 : Int32), .ref 196, .int (1 : Int32)]) rfl Kz) ?_
              refine jv_Wp.lift (fun _ Kz => jv_Ev.c jv_i295 (pc' := 225) (S' := [.int (I 205 (76800 + 0)), .int (1 : Int32)]) jv_i271 [.ref 196, .int (0 : Int32)] rfl rfl rfl rfl (jv_cal rfl (jv_H_at (jv_rwK hW 196 12 24 (by decide))) rfl rfl) rfl (vq_sortOf 0 hW (by omega)) rfl rfl Kz) ?_
              refine jv_Wp.cnd jv_i295 (pt := 242) (pe := 228) (p := ((I 205 (76800 + 0)) = 0)) (q := ((I 205 (76800 + 0)) = 0)) rfl jv_bi_eq rfl rfl Iff.rfl (fun h43 => ?_) (fun h43 => ?_)
              · refine jv_Wp.lift (fun _ Kz => jv_Ev.steps jv_i295 1 (pc' := 243) (l' := [(2, .int (1 : Int32)), (7, .int (1 : Int32)), (5, .long ((vl_I f.z).toInt64 - (1 : Int64))), (4, .int (vl_I (8 + (76800 + f.d)))), (3, .int (I 205 (76800 + f.d))), (1, .int (vl_I f.z)), (0, .ref 196)]) (st' := [.int (0 : Int32), .int (1 : Int32)]) rfl Kz) ?_
                have Hf180 := vq_first (I := I) (L := L) (K := K) (R := R) (n := n) (sl := sl) 1 0 (by omega) (by omega)
                rw [show vx_fst 1 0 = 1 from by decide] at Hf180
                refine jv_Wp.lift (fun _ Kz => jv_Ev.c jv_i295 (pc' := 246) (S' := [.int (1 : Int32)]) jv_i282 [.int (1 : Int32), .int (0 : Int32)] rfl rfl rfl rfl rfl rfl Hf180 rfl rfl Kz) ?_
                refine jv_Wp.lift (fun _ Kz => jv_Ev.steps jv_i295 2 (pc' := 248) (l' := [(2, .int (1 : Int32)), (7, .int (1 : Int32)), (5, .long ((vl_I f.z).toInt64 - (1 : Int64))), (4, .int (vl_I (8 + (76800 + f.d)))), (3, .int (I 205 (76800 + f.d))), (1, .int (vl_I f.z)), (0, .ref 196)]) (st' := [.int (1 : Int32)]) rfl Kz) ?_
                refine jv_Wp.lift (fun _ Kz => jv_Ev.br jv_i295 (pc' := 251) (st' := []) rfl (by rfl) Kz) ?_
                refine jv_Wp.lift (fun _ Kz => jv_Ev.steps jv_i295 1 (pc' := 252) (l' := [(2, .int (1 : Int32)), (7, .int (1 : Int32)), (5, .long ((vl_I f.z).toInt64 - (1 : Int64))), (4, .int (vl_I (8 + (76800 + f.d)))), (3, .int (I 205 (76800 + f.d))), (1, .int (vl_I f.z)), (0, .ref 196)]) (st' := [.int (1 : Int32)]) rfl Kz) ?_
                refine jv_Wp.of (jv_Ev.ret jv_i295 rfl rfl) ?_
                rw [hQ]
                have td0 : ¬ zd = 0 := fun z => h1 ((vr_isN (L := L) okd hd11).mp ((hd ()).trans z))
                have td7 : zd = 7 := (hd ()).symm.trans ((vr_is (L := L) 7 (by decide) okd).mpr (Classical.not_not.mp h10))
                have ts0 : ¬ zs = 0 := fun z => h37 ((vr_isN (L := L) oks hs11).mp ((hs ()).trans z))
                have ts1 : ¬ zs = 1 := fun z => h40 ((vr_is (L := L) 1 (by decide) oks).mp ((hs ()).trans z))
                have t00 : z0 = 0 := (h0 ()).symm.trans ((vr_isN (L := L) ok0 (by decide)).mpr h43)
                have ev : vx_even (vr_T I L (76800 + f.d)).val f.o f.z = true := by rw [vr_valv (by rw [(vr_is (L := L) 7 (by decide) okd).mp ((hd ()).trans (by omega))]; rfl), ← vr_dO D, vx_even_r hz]; exact (by rw [decide_eq_true (Classical.not_not.mp h19), decide_eq_true (Classical.not_not.mp h28)]; rfl)
                have r7 := vx_r7' (M := M) (A := (vr_A I L 1024)) (o := f.o) (z := f.z) (w := true) ((hd ()).trans (show zd = 7 by omega))
                rw [hrr ()] at r7
                have e : vx_atp M f (vr_A I L 1024) = (1, (vr_A I L 1024)) := by
                  exact vx_at1 (by rw [eD, eS, e0, hd (), hs (), h0 ()]; omega)
                exact ⟨_, _, by rw [← eQ, e]; rfl, fun z => by rw [← eQ, e] at z; exact absurd (show (1 : Nat) = 0 from z) (by omega), vr_fr_refl hf⟩
              · refine jv_Wp.lift (fun _ Kz => jv_Ev.steps jv_i295 2 (pc' := 230) (l' := [(2, .int (1 : Int32)), (7, .int (1 : Int32)), (5, .long ((vl_I f.z).toInt64 - (1 : Int64))), (4, .int (vl_I (8 + (76800 + f.d)))), (3, .int (I 205 (76800 + f.d))), (1, .int (vl_I f.z)), (0, .ref 196)]) (st' := [.int (0 : Int32), .ref 196, .int (1 : Int32)]) rfl Kz) ?_
                refine jv_Wp.lift (fun _ Kz => jv_Ev.c jv_i295 (pc' := 233) (S' := [.int (I 205 (76800 + 0)), .int (1 : Int32)]) jv_i271 [.ref 196, .int (0 : Int32)] rfl rfl rfl rfl (jv_cal rfl (jv_H_at (jv_rwK hW 196 12 24 (by decide))) rfl rfl) rfl (vq_sortOf 0 hW (by omega)) rfl rfl Kz) ?_
                refine jv_Wp.lift (fun _ Kz => jv_Ev.steps jv_i295 1 (pc' := 234) (l' := [(2, .int (1 : Int32)), (7, .int (1 : Int32)), (5, .long ((vl_I f.z).toInt64 - (1 : Int64))), (4, .int (vl_I (8 + (76800 + f.d)))), (3, .int (I 205 (76800 + f.d))), (1, .int (vl_I f.z)), (0, .ref 196)]) (st' := [.int (1 : Int32), .int (I 205 (76800 + 0)), .int (1 : Int32)]) rfl Kz) ?_
                refine jv_Wp.cnd jv_i295 (pt := 242) (pe := 237) (p := ((I 205 (76800 + 0)) = (1 : Int32))) (q := ((I 205 (76800 + 0)) = (1 : Int32))) rfl jv_bc_eq rfl rfl Iff.rfl (fun h44 => ?_) (fun h44 => ?_)
                · refine jv_Wp.lift (fun _ Kz => jv_Ev.steps jv_i295 1 (pc' := 243) (l' := [(2, .int (1 : Int32)), (7, .int (1 : Int32)), (5, .long ((vl_I f.z).toInt64 - (1 : Int64))), (4, .int (vl_I (8 + (76800 + f.d)))), (3, .int (I 205 (76800 + f.d))), (1, .int (vl_I f.z)), (0, .ref 196)]) (st' := [.int (0 : Int32), .int (1 : Int32)]) rfl Kz) ?_
                  have Hf181 := vq_first (I := I) (L := L) (K := K) (R := R) (n := n) (sl := sl) 1 0 (by omega) (by omega)
                  rw [show vx_fst 1 0 = 1 from by decide] at Hf181
                  refine jv_Wp.lift (fun _ Kz => jv_Ev.c jv_i295 (pc' := 246) (S' := [.int (1 : Int32)]) jv_i282 [.int (1 : Int32), .int (0 : Int32)] rfl rfl rfl rfl rfl rfl Hf181 rfl rfl Kz) ?_
                  refine jv_Wp.lift (fun _ Kz => jv_Ev.steps jv_i295 2 (pc' := 248) (l' := [(2, .int (1 : Int32)), (7, .int (1 : Int32)), (5, .long ((vl_I f.z).toInt64 - (1 : Int64))), (4, .int (vl_I (8 + (76800 + f.d)))), (3, .int (I 205 (76800 + f.d))), (1, .int (vl_I f.z)), (0, .ref 196)]) (st' := [.int (1 : Int32)]) rfl Kz) ?_
                  refine jv_Wp.lift (fun _ Kz => jv_Ev.br jv_i295 (pc' := 251) (st' := []) rfl (by rfl) Kz) ?_
                  refine jv_Wp.lift (fun _ Kz => jv_Ev.steps jv_i295 1 (pc' := 252) (l' := [(2, .int (1 : Int32)), (7, .int (1 : Int32)), (5, .long ((vl_I f.z).toInt64 - (1 : Int64))), (4, .int (vl_I (8 + (76800 + f.d)))), (3, .int (I 205 (76800 + f.d))), (1, .int (vl_I f.z)), (0, .ref 196)]) (st' := [.int (1 : Int32)]) rfl Kz) ?_
                  refine jv_Wp.of (jv_Ev.ret jv_i295 rfl rfl) ?_
                  rw [hQ]
                  have td0 : ¬ zd = 0 := fun z => h1 ((vr_isN (L := L) okd hd11).mp ((hd ()).trans z))
                  have td7 : zd = 7 := (hd ()).symm.trans ((vr_is (L := L) 7 (by decide) okd).mpr (Classical.not_not.mp h10))
                  have ts0 : ¬ zs = 0 := fun z => h37 ((vr_isN (L := L) oks hs11).mp ((hs ()).trans z))
                  have ts1 : ¬ zs = 1 := fun z => h40 ((vr_is (L := L) 1 (by decide) oks).mp ((hs ()).trans z))
                  have t00 : ¬ z0 = 0 := fun z => h43 ((vr_isN (L := L) ok0 (by decide)).mp ((h0 ()).trans z))
                  have t01 : z0 = 1 := (h0 ()).symm.trans ((vr_is (L := L) 1 (by decide) ok0).mpr h44)
                  have ev : vx_even (vr_T I L (76800 + f.d)).val f.o f.z = true := by rw [vr_valv (by rw [(vr_is (L := L) 7 (by decide) okd).mp ((hd ()).trans (by omega))]; rfl), ← vr_dO D, vx_even_r hz]; exact (by rw [decide_eq_true (Classical.not_not.mp h19), decide_eq_true (Classical.not_not.mp h28)]; rfl)
                  have r7 := vx_r7' (M := M) (A := (vr_A I L 1024)) (o := f.o) (z := f.z) (w := true) ((hd ()).trans (show zd = 7 by omega))
                  rw [hrr ()] at r7
                  have e : vx_atp M f (vr_A I L 1024) = (1, (vr_A I L 1024)) := by
                    exact vx_at1 (by rw [eD, eS, e0, hd (), hs (), h0 ()]; omega)
                  exact ⟨_, _, by rw [← eQ, e]; rfl, fun z => by rw [← eQ, e] at z; exact absurd (show (1 : Nat) = 0 from z) (by omega), vr_fr_refl hf⟩
                · refine jv_Wp.lift (fun _ Kz => jv_Ev.steps jv_i295 2 (pc' := 243) (l' := [(2, .int (1 : Int32)), (7, .int (1 : Int32)), (5, .long ((vl_I f.z).toInt64 - (1 : Int64))), (4, .int (vl_I (8 + (76800 + f.d)))), (3, .int (I 205 (76800 + f.d))), (1, .int (vl_I f.z)), (0, .ref 196)]) (st' := [.int (6 : Int32), .int (1 : Int32)]) rfl Kz) ?_
                  have Hf182 := vq_first (I := I) (L := L) (K := K) (R := R) (n := n) (sl := sl) 1 6 (by omega) (by omega)
                  rw [show vx_fst 1 6 = 1 from by decide] at Hf182
                  refine jv_Wp.lift (fun _ Kz => jv_Ev.c jv_i295 (pc' := 246) (S' := [.int (1 : Int32)]) jv_i282 [.int (1 : Int32), .int (6 : Int32)] rfl rfl rfl rfl rfl rfl Hf182 rfl rfl Kz) ?_
                  refine jv_Wp.lift (fun _ Kz => jv_Ev.steps jv_i295 2 (pc' := 248) (l' := [(2, .int (1 : Int32)), (7, .int (1 : Int32)), (5, .long ((vl_I f.z).toInt64 - (1 : Int64))), (4, .int (vl_I (8 + (76800 + f.d)))), (3, .int (I 205 (76800 + f.d))), (1, .int (vl_I f.z)), (0, .ref 196)]) (st' := [.int (1 : Int32)]) rfl Kz) ?_
                  refine jv_Wp.lift (fun _ Kz => jv_Ev.br jv_i295 (pc' := 251) (st' := []) rfl (by rfl) Kz) ?_
                  refine jv_Wp.lift (fun _ Kz => jv_Ev.steps jv_i295 1 (pc' := 252) (l' := [(2, .int (1 : Int32)), (7, .int (1 : Int32)), (5, .long ((vl_I f.z).toInt64 - (1 : Int64))), (4, .int (vl_I (8 + (76800 + f.d)))), (3, .int (I 205 (76800 + f.d))), (1, .int (vl_I f.z)), (0, .ref 196)]) (st' := [.int (1 : Int32)]) rfl Kz) ?_
                  refine jv_Wp.of (jv_Ev.ret jv_i295 rfl rfl) ?_
                  rw [hQ]
                  have td0 : ¬ zd = 0 := fun z => h1 ((vr_isN (L := L) okd hd11).mp ((hd ()).trans z))
                  have td7 : zd = 7 := (hd ()).symm.trans ((vr_is (L := L) 7 (by decide) okd).mpr (Classical.not_not.mp h10))
                  have ts0 : ¬ zs = 0 := fun z => h37 ((vr_isN (L := L) oks hs11).mp ((hs ()).trans z))
                  have ts1 : ¬ zs = 1 := fun z => h40 ((vr_is (L := L) 1 (by decide) oks).mp ((hs ()).trans z))
                  have t00 : ¬ z0 = 0 := fun z => h43 ((vr_isN (L := L) ok0 (by decide)).mp ((h0 ()).trans z))
                  have t01 : ¬ z0 = 1 := fun z => h44 ((vr_is (L := L) 1 (by decide) ok0).mp ((h0 ()).trans z))
                  have ev : vx_even (vr_T I L (76800 + f.d)).val f.o f.z = true := by rw [vr_valv (by rw [(vr_is (L := L) 7 (by decide) okd).mp ((hd ()).trans (by omega))]; rfl), ← vr_dO D, vx_even_r hz]; exact (by rw [decide_eq_true (Classical.not_not.mp h19), decide_eq_true (Classical.not_not.mp h28)]; rfl)
                  have r7 := vx_r7' (M := M) (A := (vr_A I L 1024)) (o := f.o) (z := f.z) (w := true) ((hd ()).trans (show zd = 7 by omega))
                  rw [hrr ()] at r7
                  have e : vx_atp M f (vr_A I L 1024) = (1, (vr_A I L 1024)) := by
                    exact vx_at1 (by rw [eD, eS, e0, hd (), hs (), h0 ()]; omega)
                  exact ⟨_, _, by rw [← eQ, e]; rfl, fun z => by rw [← eQ, e] at z; exact absurd (show (1 : Nat) = 0 from z) (by omega), vr_fr_refl hf⟩
theorem vq_atomic {K : Nat → Option (Nat × Nat)} {I : Nat → Nat → Int32} {L : Nat → Nat → Int64} {R : Nat → Nat → Value} (M : vf_M) (f : vf_F) (hW : jv_rW K R) (hf : vr_fl I) (hM : vr_M I M) (D : vr_dec I f) (hi : 0 ≤ f.i ∧ f.i < 256) (oa : vr_okA I 1024) (gA : ∀ n, n < 75 → vt_g (vr_T I L (76800 + n))) (hd11 : f.d < 11) (hs11 : f.s < 11) {n sl : Nat} : ∃ I1 L1, jv_Ms 295 [.ref 196] (jv_H K I L R) n sl (some (.int (vl_I (vx_atomic M f (vr_A I L 1024)).1)), jv_H K I1 L1 R, n, sl) ∧ ((vx_atomic M f (vr_A I L 1024)).1 = 0 → vr_A I1 L1 1024 = (vx_atomic M f (vr_A I L 1024)).2 ∧ vr_okA I1 1024) ∧ vr_fr (fun x => x = 76800 ∨ x = 76800 + f.s) noE I L I1 L1 := by
  by_cases h : f.i = 241
  · by_cases c : (vr_T I L (76800 + f.d)).sort = 0 ∨ (vr_T I L (76800 + f.s)).sort = 0 ∨ (vr_T I L (76800 + 0)).sort = 0
    · exact vq_atomicXB M f hW hf hM D hi h oa gA hd11 hs11 c
    · exact vq_atomicXG M f hW hf hM D hi h oa gA hd11 hs11 (fun z => c (Or.inl z)) (fun z => c (Or.inr (Or.inl z))) (fun z => c (Or.inr (Or.inr z)))
  · by_cases c : (vr_T I L (76800 + f.d)).sort = 0 ∨ (vr_T I L (76800 + f.s)).sort = 0
    · exact vq_atomicNB M f hW hf hM D hi h oa gA hd11 hs11 c
    · exact vq_atomicNG M f hW hf hM D hi h oa gA hd11 hs11 (fun z => c (Or.inl z)) (fun z => c (Or.inr z))