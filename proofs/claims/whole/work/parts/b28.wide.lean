/-! part b28: wide numbers and maps (gen/tb28.py) -/
/-- a program of the class: its cell, the cell of its words, how many, and the words -/
def vc_P (K : Nat → Option (Nat × Nat)) (L : Nat → Nat → Int64) (R : Nat → Nat → Value) (pr ws len : Nat) (W : Nat → Int64) : Prop := K pr = some (3, 1) ∧ R pr 0 = .ref ws ∧ K ws = some (103, len) ∧ len ≤ 1024 ∧ ∀ i, i < len → L ws i = W i
theorem vc_fr_P {P : Nat → Prop} {K : Nat → Option (Nat × Nat)} {I I1 : Nat → Nat → Int32} {L L1 : Nat → Nat → Int64} {R : Nat → Nat → Value} {pr ws len : Nat} {W : Nat → Int64} (h : vc_fr P I L I1 L1) (hw : ¬ P ws) (z : vc_P K L R pr ws len W) : vc_P K L1 R pr ws len W := ⟨z.1, z.2.1, z.2.2.1, z.2.2.2.1, fun i hi => ((h ws hw).2 i).trans (z.2.2.2.2 i hi)⟩
theorem vl_I_n0 {a : Nat} (ha : a < 2147483648) : ¬ vl_I a < 0 := fun z => absurd ((vl_I_lt (b := 0) ha (by decide)).mp z) (Nat.not_lt_zero _)
theorem vl_I_p1 (p : Nat) : vl_I p + (1 : Int32) = vl_I (p + 1) := vl_I_add p 1
theorem vl_I_p2 (p : Nat) : vl_I p + (2 : Int32) = vl_I (p + 2) := vl_I_add p 2
theorem vw_imm (w : Int64) : (vc_F w).i % 4294967296 = ((vc_N w / 4294967296 : Nat) : Int) := by
  show (jv_wfimmediate w).toInt % 4294967296 = _
  unfold jv_wfimmediate
  rw [Int64.toInt_toInt32]
  have e : (w >>> ((32 : Int32).toInt64 &&& 63)).toInt = w.toBitVec.toInt >>> 32 := by
    show (w >>> ((32 : Int32).toInt64 &&& 63)).toBitVec.toInt = _
    rw [vl_sshr w (s := 32) (k := 32) rfl, BitVec.toInt_sshiftRight]
  rw [e, Int.shiftRight_eq_div_pow]
  have f : vc_N w = w.toBitVec.toNat := rfl
  have lt := w.toBitVec.isLt
  rw [f]
  rw [BitVec.toInt_eq_toNat_cond, Int.bmod_def]
  split <;> split <;> omega
theorem vw_wide (w w2 : Int64) : (((w.toUInt64 >>> ((32 : Int32).toInt64.toUInt64 &&& Int64.toUInt64 63)).toInt64) ||| ((jv_wfimmediate w2).toInt64 <<< ((32 : Int32).toInt64 &&& 63))).toBitVec = BitVec.ofInt 64 ((vc_F w2).i * 4294967296 + (vc_F w).i % 4294967296) := by
  rw [vw_imm, Int64.toBitVec_or, vl_ushr w (s := 32) (k := 32) rfl, vl_shl _ (s := 32) (k := 32) rfl]
  have hb : ((jv_wfimmediate w2).toInt64).toBitVec.toInt = (vc_F w2).i := Int32.toInt_toInt64 _
  have f : vc_N w = w.toBitVec.toNat := rfl
  rw [f, ← hb]
  generalize ((jv_wfimmediate w2).toInt64).toBitVec = b
  generalize w.toBitVec = a
  have h : (a >>> 32) &&& (b <<< 32) = 0 := by
    refine BitVec.eq_of_getLsbD_eq (fun i hi => ?_)
    rw [BitVec.getLsbD_and, BitVec.getLsbD_ushiftRight, BitVec.getLsbD_shiftLeft]
    by_cases c : i < 32
    · rw [decide_eq_true c]; show _ = (0 : Nat).testBit i; rw [Nat.zero_testBit]; simp
    · rw [BitVec.getLsbD_of_ge a _ (by omega)]; show _ = (0 : Nat).testBit i; rw [Nat.zero_testBit]; rfl
  rw [← BitVec.add_eq_or_of_and_eq_zero _ _ h]
  refine BitVec.eq_of_toNat_eq ?_
  rw [BitVec.toNat_add, BitVec.toNat_ushiftRight, BitVec.toNat_shiftLeft, BitVec.toNat_ofInt, Nat.shiftRight_eq_div_pow, Nat.shiftLeft_eq, BitVec.toInt_eq_toNat_cond]
  have la := a.isLt
  have lb := b.isLt
  split <;> omega
/-- what changes no map and not their number leaves the maps as they were -/
theorem vc_frM {P : Nat → Prop} {K : Nat → Option (Nat × Nat)} {I I1 : Nat → Nat → Int32} {L L1 : Nat → Nat → Int64} {R : Nat → Nat → Value} {M : vf_M} (h : vc_fr P I L I1 L1) (h2n : ¬ P 2) (hm : ∀ k o : Nat, R 7 k = .ref o → ¬ P o) (z : vc_M K I R M) : vc_M K I1 R M := by
  obtain ⟨h2, hr, N, cnt, h7, hc, hN, hB, hy, hno⟩ := z
  refine ⟨h2, hr, N, cnt, h7, ((h 2 h2n).1 7).trans hc, hN, hB, fun k hk => ?_, hno⟩
  obtain ⟨o, e, ro, me, a1, a2, a3, a4, a5, a6⟩ := hy k hk
  have n := hm k o ro
  exact ⟨o, e, ro, me, a1, a2, ((h o n).1 0).trans a3, ((h o n).1 1).trans a4, ((h o n).1 2).trans a5, a6⟩
theorem vc_fr_u10 (I : Nat → Nat → Int32) (L : Nat → Nat → Int64) (j : Nat) (x : Int32) : vc_fr (fun p => p = 10) I L (jv_u I 10 j x) L := fun q hq => ⟨fun f => jv_u_o _ _ _ _ hq, fun _ => rfl⟩
theorem jv_i78 : jv_I 78 2 (some .long) 0 0 jv_c78 := ⟨rfl, rfl, rfl, rfl, rfl⟩
theorem vc_word {K : Nat → Option (Nat × Nat)} {I : Nat → Nat → Int32} {L : Nat → Nat → Int64} {R : Nat → Nat → Value} {pr ws len : Nat} {W : Nat → Int64} (p : Nat) (hP : vc_P K L R pr ws len W) (hp : p < len) {n sl : Nat} : ∃ I1 L1, jv_Ms 78 [.ref pr, .int (vl_I p)] (jv_H K I L R) n sl (some (.long (W p)), jv_H K I1 L1 R, n, sl) ∧ I1 = I ∧ L1 = L := by
  obtain ⟨Q, hQ⟩ : ∃ Q : jv_R → Prop, Q = fun X => ∃ I1 L1, X = (some (.long (W p)), jv_H K I1 L1 R, n, sl) ∧ I1 = I ∧ L1 = L := ⟨_, rfl⟩
  suffices h : jv_Wp 78 0 [(0, .ref pr), (1, .int (vl_I p))] [] (jv_H K I L R) n sl Q by
    rw [hQ] at h
    obtain ⟨X, h, I1, L1, e, h'⟩ := h
    subst e
    exact ⟨I1, L1, h, h'⟩
  have hle := hP.2.2.2.1
  refine jv_Wp.lift (fun _ Kz => jv_Ev.steps jv_i78 1 (pc' := 1) (l' := [(0, .ref pr), (1, .int (vl_I p))]) (st' := [.int (vl_I p)]) rfl Kz) ?_
  refine jv_Wp.cnd jv_i78 (pt := 13) (pe := 4) (p := ((vl_I p) < 0)) (q := ((vl_I p) < 0)) rfl jv_bi_lt rfl rfl Iff.rfl (fun hz => absurd hz (vl_I_n0 (by omega))) (fun _ => ?_)
  refine jv_Wp.lift (fun _ Kz => jv_Ev.steps jv_i78 2 (pc' := 6) (l' := [(0, .ref pr), (1, .int (vl_I p))]) (st' := [.ref pr, .int (vl_I p)]) rfl Kz) ?_
  refine jv_Wp.lift (fun _ Kz => jv_Ev.m jv_i78 (pc' := 9) (st' := [.ref ws, .int (vl_I p)]) (G' := (jv_H K I L R)) rfl rfl (jv_m_getR hP.1 rfl rfl hP.2.1) Kz) ?_
  refine jv_Wp.lift (fun _ Kz => jv_Ev.m jv_i78 (pc' := 10) (st' := [.int (Int32.ofNat len), .int (vl_I p)]) (G' := (jv_H K I L R)) rfl rfl (jv_m_len hP.2.2.1 rfl) Kz) ?_
  refine jv_Wp.cnd jv_i78 (pt := 17) (pe := 13) (p := ((vl_I p) < (Int32.ofNat len))) (q := ((vl_I p) < (Int32.ofNat len))) rfl jv_bc_lt rfl rfl Iff.rfl (fun _ => ?_) (fun hz => absurd ((vl_I_lt (b := len) (by omega) (by omega)).mpr hp) hz)
  refine jv_Wp.lift (fun _ Kz => jv_Ev.steps jv_i78 1 (pc' := 18) (l' := [(0, .ref pr), (1, .int (vl_I p))]) (st' := [.ref pr]) rfl Kz) ?_
  refine jv_Wp.lift (fun _ Kz => jv_Ev.m jv_i78 (pc' := 21) (st' := [.ref ws]) (G' := (jv_H K I L R)) rfl rfl (jv_m_getR hP.1 rfl rfl hP.2.1) Kz) ?_
  refine jv_Wp.lift (fun _ Kz => jv_Ev.steps jv_i78 1 (pc' := 22) (l' := [(0, .ref pr), (1, .int (vl_I p))]) (st' := [.int (vl_I p), .ref ws]) rfl Kz) ?_
  refine jv_Wp.lift (fun _ Kz => jv_Ev.m jv_i78 (pc' := 23) (st' := [.long (L ws (vl_I p).toNatClampNeg)]) (G' := (jv_H K I L R)) rfl rfl (jv_m_laldv hP.2.2.1 rfl (vl_I_ix hp (by omega)) rfl rfl) Kz) ?_
  refine jv_Wp.of (jv_Ev.ret jv_i78 rfl rfl) ?_
  rw [hQ]
  exact ⟨_, _, by rw [vl_I_nat (by omega), hP.2.2.2.2 p hp], rfl, rfl⟩
theorem vc_wordq {K : Nat → Option (Nat × Nat)} {I : Nat → Nat → Int32} {L : Nat → Nat → Int64} {R : Nat → Nat → Value} {pr ws len : Nat} {W : Nat → Int64} {p : Nat} {a : Int32} (hP : vc_P K L R pr ws len W) (hp : p < len) (ha : a = vl_I p) {n sl : Nat} : jv_Ms 78 [.ref pr, .int a] (jv_H K I L R) n sl (some (.long (W p)), jv_H K I L R, n, sl) := by
  obtain ⟨I1, L1, H, e1, e2⟩ := vc_word (I := I) (L := L) (R := R) (n := n) (sl := sl) p hP hp
  rw [e1, e2] at H; rw [ha]; exact H
theorem vc_word0 {K : Nat → Option (Nat × Nat)} {I : Nat → Nat → Int32} {L : Nat → Nat → Int64} {R : Nat → Nat → Value} {pr ws len : Nat} {W : Nat → Int64} (p : Nat) (hP : vc_P K L R pr ws len W) (hp : ¬ p < len) (hp2 : p < 2147483648) {n sl : Nat} : ∃ I1 L1, jv_Ms 78 [.ref pr, .int (vl_I p)] (jv_H K I L R) n sl (some (.long 0), jv_H K I1 L1 R, n, sl) ∧ I1 = I ∧ L1 = L := by
  obtain ⟨Q, hQ⟩ : ∃ Q : jv_R → Prop, Q = fun X => ∃ I1 L1, X = (some (.long 0), jv_H K I1 L1 R, n, sl) ∧ I1 = I ∧ L1 = L := ⟨_, rfl⟩
  suffices h : jv_Wp 78 0 [(0, .ref pr), (1, .int (vl_I p))] [] (jv_H K I L R) n sl Q by
    rw [hQ] at h
    obtain ⟨X, h, I1, L1, e, h'⟩ := h
    subst e
    exact ⟨I1, L1, h, h'⟩
  have hle := hP.2.2.2.1
  refine jv_Wp.lift (fun _ Kz => jv_Ev.steps jv_i78 1 (pc' := 1) (l' := [(0, .ref pr), (1, .int (vl_I p))]) (st' := [.int (vl_I p)]) rfl Kz) ?_
  refine jv_Wp.cnd jv_i78 (pt := 13) (pe := 4) (p := ((vl_I p) < 0)) (q := ((vl_I p) < 0)) rfl jv_bi_lt rfl rfl Iff.rfl (fun hz => absurd hz (vl_I_n0 (by omega))) (fun _ => ?_)
  refine jv_Wp.lift (fun _ Kz => jv_Ev.steps jv_i78 2 (pc' := 6) (l' := [(0, .ref pr), (1, .int (vl_I p))]) (st' := [.ref pr, .int (vl_I p)]) rfl Kz) ?_
  refine jv_Wp.lift (fun _ Kz => jv_Ev.m jv_i78 (pc' := 9) (st' := [.ref ws, .int (vl_I p)]) (G' := (jv_H K I L R)) rfl rfl (jv_m_getR hP.1 rfl rfl hP.2.1) Kz) ?_
  refine jv_Wp.lift (fun _ Kz => jv_Ev.m jv_i78 (pc' := 10) (st' := [.int (Int32.ofNat len), .int (vl_I p)]) (G' := (jv_H K I L R)) rfl rfl (jv_m_len hP.2.2.1 rfl) Kz) ?_
  refine jv_Wp.cnd jv_i78 (pt := 17) (pe := 13) (p := ((vl_I p) < (Int32.ofNat len))) (q := ((vl_I p) < (Int32.ofNat len))) rfl jv_bc_lt rfl rfl Iff.rfl (fun hz => absurd hz (fun z => hp ((vl_I_lt (b := len) (by omega) (by omega)).mp z))) (fun _ => ?_)
  refine jv_Wp.lift (fun _ Kz => jv_Ev.steps jv_i78 2 (pc' := 23) (l' := [(0, .ref pr), (1, .int (vl_I p))]) (st' := [.long (0 : Int64)]) rfl Kz) ?_
  refine jv_Wp.of (jv_Ev.ret jv_i78 rfl rfl) ?_
  rw [hQ]
  exact ⟨_, _, rfl, rfl, rfl⟩
theorem vc_word0q {K : Nat → Option (Nat × Nat)} {I : Nat → Nat → Int32} {L : Nat → Nat → Int64} {R : Nat → Nat → Value} {pr ws len : Nat} {W : Nat → Int64} {p : Nat} {a : Int32} (hP : vc_P K L R pr ws len W) (hp : ¬ p < len) (hp2 : p < 2147483648) (ha : a = vl_I p) {n sl : Nat} : jv_Ms 78 [.ref pr, .int a] (jv_H K I L R) n sl (some (.long 0), jv_H K I L R, n, sl) := by
  obtain ⟨I1, L1, H, e1, e2⟩ := vc_word0 (I := I) (L := L) (R := R) (n := n) (sl := sl) p hP hp hp2
  rw [e1, e2] at H; rw [ha]; exact H
theorem jv_i26 : jv_I 26 6 (some .int) 2 46 jv_c26 := ⟨rfl, rfl, rfl, rfl, rfl⟩
theorem vc_number {K : Nat → Option (Nat × Nat)} {I : Nat → Nat → Int32} {L : Nat → Nat → Int64} {R : Nat → Nat → Value} {M : vf_M} {pr ws len : Nat} {W : Nat → Int64} (p : Nat) (hC : vc_C K R) (hM0 : vc_M K I R M) (hMR : ∀ k o : Nat, R 7 k = .ref o → 227 ≤ o) (hP : vc_P K L R pr ws len W) (hp : p < len) (hp1 : p + 1 < len) (hs : (vc_F (W p)).s ≠ 0 → 0 ≤ (vc_F (W p)).i) (oa : vc_okA I L 12) {n sl : Nat} : ∃ I1 L1, jv_Ms 26 [.ref 10, .ref pr, .int (vl_I p)] (jv_H K I L R) n sl (some (.int (vl_I (vx_wide M (vc_F (W p)) (vc_F (W (p + 1))).i (vc_A I L 12)).1)), jv_H K I1 L1 R, n, sl) ∧ ((vx_wide M (vc_F (W p)) (vc_F (W (p + 1))).i (vc_A I L 12)).1 = 0 → vc_A I1 L1 12 = (vx_wide M (vc_F (W p)) (vc_F (W (p + 1))).i (vc_A I L 12)).2 ∧ vc_okA I1 L1 12) ∧ vc_fr (fun p => vc_wk p ∨ p = 10) I L I1 L1 ∧ (∀ f, I1 12 f = I 12 f) ∧ I1 10 9 = vl_I (p + 2) ∧ ∀ f, f ≠ 9 → I1 10 f = I 10 f := by
  obtain ⟨Q, hQ⟩ : ∃ Q : jv_R → Prop, Q = fun X => ∃ I1 L1, X = (some (.int (vl_I (vx_wide M (vc_F (W p)) (vc_F (W (p + 1))).i (vc_A I L 12)).1)), jv_H K I1 L1 R, n, sl) ∧ ((vx_wide M (vc_F (W p)) (vc_F (W (p + 1))).i (vc_A I L 12)).1 = 0 → vc_A I1 L1 12 = (vx_wide M (vc_F (W p)) (vc_F (W (p + 1))).i (vc_A I L 12)).2 ∧ vc_okA I1 L1 12) ∧ vc_fr (fun p => vc_wk p ∨ p = 10) I L I1 L1 ∧ (∀ f, I1 12 f = I 12 f) ∧ I1 10 9 = vl_I (p + 2) ∧ ∀ f, f ≠ 9 → I1 10 f = I 10 f := ⟨_, rfl⟩
  suffices h : jv_Wp 26 0 [(0, .ref 10), (1, .ref pr), (2, .int (vl_I p))] [] (jv_H K I L R) n sl Q by
    rw [hQ] at h
    obtain ⟨X, h, I1, L1, e, h'⟩ := h
    subst e
    exact ⟨I1, L1, h, h'⟩
  have hM := vc_frM (vc_fr_u10 I L 9 (vl_I p + (2 : Int32))) (by omega) (fun k o z => by have := hMR k o z; show ¬ o = 10; omega) hM0
  have hd75 := vw_d75 (W p)
  have hs75 := vw_s75 (W p)
  have hP4 := hP.2.2.2.1
  refine jv_Wp.lift (fun _ Kz => jv_Ev.steps jv_i26 2 (pc' := 2) (l' := [(0, .ref 10), (1, .ref pr), (2, .int (vl_I p))]) (st' := [.int (vl_I p), .ref pr]) rfl Kz) ?_
  refine jv_Wp.lift (fun _ Kz => jv_Ev.c jv_i26 (pc' := 5) (S' := [.long (W p)]) jv_i78 [.ref pr, .int (vl_I p)] rfl rfl rfl rfl (jv_cal rfl (jv_H_at hP.1) rfl rfl) rfl (vc_wordq hP hp rfl) rfl rfl Kz) ?_
  refine jv_Wp.lift (fun _ Kz => jv_Ev.steps jv_i26 5 (pc' := 10) (l' := [(3, .long (W p)), (0, .ref 10), (1, .ref pr), (2, .int (vl_I p))]) (st' := [.int ((vl_I p) + (2 : Int32)), .ref 10]) rfl Kz) ?_
  refine jv_Wp.lift (fun _ Kz => jv_Ev.m jv_i26 (pc' := 13) (st' := []) (G' := (jv_H K (jv_u I 10 9 ((vl_I p) + (2 : Int32))) L R)) rfl rfl (jv_m_putI hC.k rfl rfl rfl rfl) Kz) ?_
  refine jv_Wp.lift (fun _ Kz => jv_Ev.steps jv_i26 1 (pc' := 14) (l' := [(3, .long (W p)), (0, .ref 10), (1, .ref pr), (2, .int (vl_I p))]) (st' := [.ref 10]) rfl Kz) ?_
  refine jv_Wp.lift (fun _ Kz => jv_Ev.m jv_i26 (pc' := 17) (st' := [.ref 12]) (G' := (jv_H K (jv_u I 10 9 ((vl_I p) + (2 : Int32))) L R)) rfl rfl (jv_m_getR hC.k rfl rfl hC.rnow) Kz) ?_
  refine jv_Wp.lift (fun _ Kz => jv_Ev.m jv_i26 (pc' := 20) (st' := [.ref (12 + 1)]) (G' := (jv_H K (jv_u I 10 9 ((vl_I p) + (2 : Int32))) L R)) rfl rfl (jv_m_getR hC.now.k rfl rfl hC.now.r) Kz) ?_
  refine jv_Wp.lift (fun _ Kz => jv_Ev.steps jv_i26 1 (pc' := 21) (l' := [(3, .long (W p)), (0, .ref 10), (1, .ref pr), (2, .int (vl_I p))]) (st' := [.long (W p), .ref (12 + 1)]) rfl Kz) ?_
  refine jv_Wp.lift (fun _ Kz => jv_Ev.c jv_i26 (pc' := 24) (S' := [.int (vl_I (vc_F (W p)).d), .ref (12 + 1)]) jv_i86 [.long (W p)] rfl rfl rfl rfl rfl rfl (vw_m86 (W p)) rfl rfl Kz) ?_
  refine jv_Wp.lift (fun _ Kz => jv_Ev.m jv_i26 (pc' := 25) (st' := [.ref (12 + 2 + (vc_F (W p)).d)]) (G' := (jv_H K (jv_u I 10 9 ((vl_I p) + (2 : Int32))) L R)) rfl rfl (jv_m_aaldR hC.now.kt rfl (vl_I_ix (vw_d75 (W p)) (by decide)) rfl (vc_St_rt hC.now (vw_d75 (W p)))) Kz) ?_
  refine jv_Wp.lift (fun _ Kz => jv_Ev.steps jv_i26 2 (pc' := 28) (l' := [(5, .ref (12 + 2 + (vc_F (W p)).d)), (3, .long (W p)), (0, .ref 10), (1, .ref pr), (2, .int (vl_I p))]) (st' := [.long (W p)]) rfl Kz) ?_
  refine jv_Wp.lift (fun _ Kz => jv_Ev.c jv_i26 (pc' := 31) (S' := [.int (vl_I (vc_F (W p)).s)]) jv_i87 [.long (W p)] rfl rfl rfl rfl rfl rfl (vw_m87 (W p)) rfl rfl Kz) ?_
  refine jv_Wp.cnd jv_i26 (pt := 60) (pe := 34) (p := (¬ (vl_I (vc_F (W p)).s) = 0)) (q := (¬ (vl_I (vc_F (W p)).s) = 0)) rfl jv_bi_ne rfl rfl Iff.rfl (fun h1 => ?_) (fun h1 => ?_)
  · refine jv_Wp.lift (fun _ Kz => jv_Ev.steps jv_i26 1 (pc' := 61) (l' := [(5, .ref (12 + 2 + (vc_F (W p)).d)), (3, .long (W p)), (0, .ref 10), (1, .ref pr), (2, .int (vl_I p))]) (st' := [.ref 10]) rfl Kz) ?_
    refine jv_Wp.lift (fun _ Kz => jv_Ev.m jv_i26 (pc' := 64) (st' := [.ref 2]) (G' := (jv_H K (jv_u I 10 9 ((vl_I p) + (2 : Int32))) L R)) rfl rfl (jv_m_getR hC.k rfl rfl hC.rstore) Kz) ?_
    refine jv_Wp.lift (fun _ Kz => jv_Ev.steps jv_i26 1 (pc' := 65) (l' := [(5, .ref (12 + 2 + (vc_F (W p)).d)), (3, .long (W p)), (0, .ref 10), (1, .ref pr), (2, .int (vl_I p))]) (st' := [.long (W p), .ref 2]) rfl Kz) ?_
    refine jv_Wp.lift (fun _ Kz => jv_Ev.c jv_i26 (pc' := 68) (S' := [.int (jv_wfimmediate (W p)), .ref 2]) jv_i89 [.long (W p)] rfl rfl rfl rfl rfl rfl (jv_s89 (W p)) rfl rfl Kz) ?_
    refine jv_Wp.lift (fun _ Kz => jv_Ev.steps jv_i26 1 (pc' := 69) (l' := [(5, .ref (12 + 2 + (vc_F (W p)).d)), (3, .long (W p)), (0, .ref 10), (1, .ref pr), (2, .int (vl_I p))]) (st' := [.long (jv_wfimmediate (W p)).toInt64, .ref 2]) rfl Kz) ?_
    rcases vc_map (I := (jv_u I 10 9 ((vl_I p) + (2 : Int32)))) (L := L) (R := R) (n := n) (sl := sl) hM (jv_wfimmediate (W p)).toInt64 with ⟨o1, e1, H1, hk1, me1, hm1⟩ | ⟨H1, hk1⟩
    · refine jv_Wp.lift (fun _ Kz => jv_Ev.c jv_i26 (pc' := 72) (S' := [.ref o1]) jv_i126 [.ref 2, .long (jv_wfimmediate (W p)).toInt64] rfl rfl rfl rfl (jv_cal rfl (jv_H_at hM0.1) rfl rfl) rfl H1 rfl rfl Kz) ?_
      refine jv_Wp.lift (fun _ Kz => jv_Ev.br jv_i26 (pc' := 78) (st' := []) rfl (by rfl) Kz) ?_
      refine jv_Wp.lift (fun _ Kz => jv_Ev.steps jv_i26 3 (pc' := 83) (l' := [(5, .ref (12 + 2 + (vc_F (W p)).d)), (3, .long (W p)), (0, .ref 10), (1, .ref pr), (2, .int (vl_I p))]) (st' := [.long (W p), .int (6 : Int32), .ref (12 + 2 + (vc_F (W p)).d)]) rfl Kz) ?_
      refine jv_Wp.lift (fun _ Kz => jv_Ev.c jv_i26 (pc' := 86) (S' := [.int (jv_wfimmediate (W p)), .int (6 : Int32), .ref (12 + 2 + (vc_F (W p)).d)]) jv_i89 [.long (W p)] rfl rfl rfl rfl rfl rfl (jv_s89 (W p)) rfl rfl Kz) ?_
      refine jv_Wp.lift (fun _ Kz => jv_Ev.steps jv_i26 1 (pc' := 87) (l' := [(5, .ref (12 + 2 + (vc_F (W p)).d)), (3, .long (W p)), (0, .ref 10), (1, .ref pr), (2, .int (vl_I p))]) (st' := [.long (0 : Int64), .int (jv_wfimmediate (W p)), .int (6 : Int32), .ref (12 + 2 + (vc_F (W p)).d)]) rfl Kz) ?_
      obtain ⟨I2, L2, H2, T2, O2, F2⟩ := vc_bec (I := (jv_u I 10 9 ((vl_I p) + (2 : Int32)))) (L := L) (R := R) (n := n) (sl := sl) (6 : Int32) (jv_wfimmediate (W p)) (0 : Int64) (hC.now.kk _ (vw_d75 (W p))) (Or.inr (Or.inr (Or.inr (Or.inl ⟨Or.inl rfl, rfl, rfl⟩))))
      refine jv_Wp.lift (fun _ Kz => jv_Ev.c jv_i26 (pc' := 90) (S' := []) (G1 := (jv_H K I2 L2 R)) jv_i140 [.ref (12 + 2 + (vc_F (W p)).d), .int (6 : Int32), .int (jv_wfimmediate (W p)), .long (0 : Int64)] rfl rfl rfl rfl (jv_cal rfl (jv_H_at (hC.now.kk _ (vw_d75 (W p)))) rfl rfl) rfl H2 rfl rfl Kz) ?_
      refine jv_Wp.lift (fun _ Kz => jv_Ev.steps jv_i26 1 (pc' := 91) (l' := [(5, .ref (12 + 2 + (vc_F (W p)).d)), (3, .long (W p)), (0, .ref 10), (1, .ref pr), (2, .int (vl_I p))]) (st' := [.int (0 : Int32)]) rfl Kz) ?_
      refine jv_Wp.of (jv_Ev.ret jv_i26 rfl rfl) ?_
      rw [hQ]
      have s0 : ¬ (vc_F (W p)).s = 0 := fun z => h1 (by rw [z]; rfl)
      have ei : (jv_wfimmediate (W p)).toInt64.toInt = (vc_F (W p)).i := Int32.toInt_toInt64 _
      rw [ei] at me1
      have mn : (M (vc_F (W p)).i.toNat).isSome = true := by rw [me1]; rfl
      have e : (vx_wide M (vc_F (W p)) (vc_F (W (p + 1))).i (vc_A I L 12)) = (0, vt_up (vc_A I L 12) (vc_F (W p)).d (vt_map (vc_F (W p)).i)) := (if_neg s0).trans (if_pos mn)
      have TT := T2
      have FF : vc_fr (fun r => r = (12 + 2 + (vc_F (W p)).d) ∨ r = 10) I L I2 L2 := vc_fr_trans (P := fun r => r = (12 + 2 + (vc_F (W p)).d) ∨ r = 10) (fun q hq => ⟨fun f => jv_u_o _ _ _ _ (fun z => hq (Or.inr z)), fun _ => rfl⟩) (vc_fr_mono F2 (fun p z => Or.inl z))
      have U := vc_up hd75 TT O2 FF (fun n hn e q => by omega) (by omega) oa
      exact ⟨_, _, by rw [e]; rfl, fun _ => by rw [e]; exact U, vc_fr_mono FF (fun q z => z.imp (fun z => Or.inl (by rw [z]; exact ⟨by omega, by omega⟩)) id), fun f => (FF 12 (by omega)).1 f, ((F2 10 (by omega)).1 9).trans ((jv_u_self _ _ _ _).trans (vl_I_p2 p)), fun f hf => ((F2 10 (by omega)).1 f).trans (jv_u_j _ _ _ _ hf)⟩
    · refine jv_Wp.lift (fun _ Kz => jv_Ev.c jv_i26 (pc' := 72) (S' := [.null]) jv_i126 [.ref 2, .long (jv_wfimmediate (W p)).toInt64] rfl rfl rfl rfl (jv_cal rfl (jv_H_at hM0.1) rfl rfl) rfl H1 rfl rfl Kz) ?_
      refine jv_Wp.lift (fun _ Kz => jv_Ev.br jv_i26 (pc' := 75) (st' := []) rfl (by rfl) Kz) ?_
      refine jv_Wp.lift (fun _ Kz => jv_Ev.steps jv_i26 1 (pc' := 77) (l' := [(5, .ref (12 + 2 + (vc_F (W p)).d)), (3, .long (W p)), (0, .ref 10), (1, .ref pr), (2, .int (vl_I p))]) (st' := [.int (8 : Int32)]) rfl Kz) ?_
      refine jv_Wp.of (jv_Ev.ret jv_i26 rfl rfl) ?_
      rw [hQ]
      have s0 : ¬ (vc_F (W p)).s = 0 := fun z => h1 (by rw [z]; rfl)
      have ei : (jv_wfimmediate (W p)).toInt64.toInt = (vc_F (W p)).i := Int32.toInt_toInt64 _
      have mn : ¬ (M (vc_F (W p)).i.toNat).isSome = true := by
        rw [ei] at hk1
        have n := hk1.resolve_left (Int.not_lt.mpr (hs s0))
        rw [n]; exact fun z => absurd z (by decide)
      have e : (vx_wide M (vc_F (W p)) (vc_F (W (p + 1))).i (vc_A I L 12)) = (8, vc_A I L 12) := (if_neg s0).trans (if_neg mn)
      exact ⟨_, _, by rw [e]; rfl, fun z => by rw [e] at z; exact absurd (show (8 : Nat) = 0 from z) (by decide), fun q hq => ⟨fun f => jv_u_o _ _ _ _ (fun z => hq (Or.inr z)), fun _ => rfl⟩, fun f => jv_u_o _ _ _ _ (by decide), (jv_u_self _ _ _ _).trans (vl_I_p2 p), fun f hf => jv_u_j _ _ _ _ hf⟩
  · refine jv_Wp.lift (fun _ Kz => jv_Ev.steps jv_i26 8 (pc' := 44) (l' := [(5, .ref (12 + 2 + (vc_F (W p)).d)), (3, .long (W p)), (0, .ref 10), (1, .ref pr), (2, .int (vl_I p))]) (st' := [.int ((vl_I p) + (1 : Int32)), .ref pr, .long (((W p).toUInt64 >>> ((32 : Int32).toInt64.toUInt64 &&& Int64.toUInt64 63)).toInt64), .ref (12 + 2 + (vc_F (W p)).d)]) rfl Kz) ?_
    refine jv_Wp.lift (fun _ Kz => jv_Ev.c jv_i26 (pc' := 47) (S' := [.long (W (p + 1)), .long (((W p).toUInt64 >>> ((32 : Int32).toInt64.toUInt64 &&& Int64.toUInt64 63)).toInt64), .ref (12 + 2 + (vc_F (W p)).d)]) jv_i78 [.ref pr, .int ((vl_I p) + (1 : Int32))] rfl rfl rfl rfl (jv_cal rfl (jv_H_at hP.1) rfl rfl) rfl (vc_wordq hP hp1 (vl_I_p1 p)) rfl rfl Kz) ?_
    refine jv_Wp.lift (fun _ Kz => jv_Ev.c jv_i26 (pc' := 50) (S' := [.int (jv_wfimmediate (W (p + 1))), .long (((W p).toUInt64 >>> ((32 : Int32).toInt64.toUInt64 &&& Int64.toUInt64 63)).toInt64), .ref (12 + 2 + (vc_F (W p)).d)]) jv_i89 [.long (W (p + 1))] rfl rfl rfl rfl rfl rfl (jv_s89 (W (p + 1))) rfl rfl Kz) ?_
    refine jv_Wp.lift (fun _ Kz => jv_Ev.steps jv_i26 4 (pc' := 55) (l' := [(5, .ref (12 + 2 + (vc_F (W p)).d)), (3, .long (W p)), (0, .ref 10), (1, .ref pr), (2, .int (vl_I p))]) (st' := [.long ((((W p).toUInt64 >>> ((32 : Int32).toInt64.toUInt64 &&& Int64.toUInt64 63)).toInt64) ||| ((jv_wfimmediate (W (p + 1))).toInt64 <<< ((32 : Int32).toInt64 &&& 63))), .ref (12 + 2 + (vc_F (W p)).d)]) rfl Kz) ?_
    have f1 : (vc_F (W p)).s = 0 := (vl_I_inj (by omega) (by decide)).mp (Classical.not_not.mp h1)
    obtain ⟨I3, L3, H3, T3, O3, F3⟩ := vc_just (I := (jv_u I 10 9 ((vl_I p) + (2 : Int32)))) (L := L) (R := R) (n := n) (sl := sl) ((((W p).toUInt64 >>> ((32 : Int32).toInt64.toUInt64 &&& Int64.toUInt64 63)).toInt64) ||| ((jv_wfimmediate (W (p + 1))).toInt64 <<< ((32 : Int32).toInt64 &&& 63))) (hC.now.kk _ (vw_d75 (W p)))
    refine jv_Wp.lift (fun _ Kz => jv_Ev.c jv_i26 (pc' := 58) (S' := []) (G1 := (jv_H K I3 L3 R)) jv_i143 [.ref (12 + 2 + (vc_F (W p)).d), .long ((((W p).toUInt64 >>> ((32 : Int32).toInt64.toUInt64 &&& Int64.toUInt64 63)).toInt64) ||| ((jv_wfimmediate (W (p + 1))).toInt64 <<< ((32 : Int32).toInt64 &&& 63)))] rfl rfl rfl rfl (jv_cal rfl (jv_H_at (hC.now.kk _ (vw_d75 (W p)))) rfl rfl) rfl H3 rfl rfl Kz) ?_
    refine jv_Wp.lift (fun _ Kz => jv_Ev.steps jv_i26 1 (pc' := 59) (l' := [(5, .ref (12 + 2 + (vc_F (W p)).d)), (3, .long (W p)), (0, .ref 10), (1, .ref pr), (2, .int (vl_I p))]) (st' := [.int (0 : Int32)]) rfl Kz) ?_
    refine jv_Wp.of (jv_Ev.ret jv_i26 rfl rfl) ?_
    rw [hQ]
    have s0 : (vc_F (W p)).s = 0 := (vl_I_inj (by have := vw_s75 (W p); omega) (by decide)).mp (Classical.not_not.mp h1)
    have e : (vx_wide M (vc_F (W p)) (vc_F (W (p + 1))).i (vc_A I L 12)) = (0, vt_up (vc_A I L 12) (vc_F (W p)).d (vt_num (vb_just (BitVec.ofInt 64 ((vc_F (W (p + 1))).i * 4294967296 + (vc_F (W p)).i % 4294967296))))) := if_pos s0
    have TT : vc_T I3 L3 (12 + 2 + (vc_F (W p)).d) = vt_num (vb_just (BitVec.ofInt 64 ((vc_F (W (p + 1))).i * 4294967296 + (vc_F (W p)).i % 4294967296))) := by rw [T3, vw_wide]
    have FF : vc_fr (fun r => r = (12 + 2 + (vc_F (W p)).d) ∨ r = 10) I L I3 L3 := vc_fr_trans (P := fun r => r = (12 + 2 + (vc_F (W p)).d) ∨ r = 10) (fun q hq => ⟨fun f => jv_u_o _ _ _ _ (fun z => hq (Or.inr z)), fun _ => rfl⟩) (vc_fr_mono F3 (fun p z => Or.inl z))
    have U := vc_up hd75 TT O3 FF (fun n hn e q => by omega) (by omega) oa
    exact ⟨_, _, by rw [e]; rfl, fun _ => by rw [e]; exact U, vc_fr_mono FF (fun q z => z.imp (fun z => Or.inl (by rw [z]; exact ⟨by omega, by omega⟩)) id), fun f => (FF 12 (by omega)).1 f, ((F3 10 (by omega)).1 9).trans ((jv_u_self _ _ _ _).trans (vl_I_p2 p)), fun f hf => ((F3 10 (by omega)).1 f).trans (jv_u_j _ _ _ _ hf)⟩