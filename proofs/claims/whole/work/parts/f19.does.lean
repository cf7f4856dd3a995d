/-! part f19: instructions of the reference that are no calls (gen/tf19.py) -/
theorem vm_D_30 {I I1 : Nat → Nat → Int32} {f : vf_F} (D : vm_D I f) (h : ∀ j, j ≠ 30 → I1 178 j = I 178 j) : vm_D I1 f := ⟨(h 25 (by decide)).trans D.1, (h 26 (by decide)).trans D.2.1, (h 27 (by decide)).trans D.2.2.1, (congrArg Int32.toInt (h 28 (by decide))).trans D.2.2.2.1, (congrArg Int32.toInt (h 29 (by decide))).trans D.2.2.2.2.1, D.2.2.2.2.2⟩
theorem vm_wideR {a b : Int32} {i2 i1 : Int} (ha : a.toInt = i2) (hb : b.toInt = i1) : ((a.toInt64 <<< ((32 : Int32).toInt64 &&& 63)) ||| (b.toInt64 &&& (4294967295 : Int64))) = vm_i (i2 * 4294967296 + i1 % 4294967296) := by
  have b1 := b.toInt_lt; have b2 := b.le_toInt
  refine Int64.toBitVec_inj.mp ?_
  rw [Int64.toBitVec_or, Int64.toBitVec_and, vl_shl _ (k := 32) (by decide), vm_io ha, vm_io hb]
  show BitVec.ofInt 64 i2 <<< 32 ||| (BitVec.ofInt 64 i1 &&& 4294967295#64) = BitVec.ofInt 64 (i2 * 4294967296 + i1 % 4294967296)
  have e5 : BitVec.ofInt 64 i1 &&& 4294967295#64 = BitVec.ofInt 64 (i1 % 4294967296) := by
    refine BitVec.eq_of_toNat_eq ?_
    rw [BitVec.toNat_and, show (4294967295#64 : BitVec 64).toNat = 2 ^ 32 - 1 from by decide, Nat.and_two_pow_sub_one_eq_mod, BitVec.toNat_ofInt, BitVec.toNat_ofInt, show ((2 ^ 64 : Nat) : Int) = 18446744073709551616 from rfl, show (2 ^ 32 : Nat) = 4294967296 from rfl]
    omega
  rw [e5, BitVec.ofInt_add]
  have e4 : BitVec.ofInt 64 (i2 * 4294967296) = BitVec.ofInt 64 i2 <<< 32 := by
    rw [BitVec.ofInt_mul, show BitVec.ofInt 64 4294967296 = BitVec.twoPow 64 32 from by decide, BitVec.mul_twoPow_eq_shiftLeft]
  rw [e4]
  refine (BitVec.add_eq_or_of_and_eq_zero _ _ ?_).symm
  refine BitVec.eq_of_getLsbD_eq (fun i hi => ?_)
  have hn : (BitVec.ofInt 64 (i1 % 4294967296)).toNat < 2 ^ 32 := by
    rw [BitVec.toNat_ofInt, show ((2 ^ 64 : Nat) : Int) = 18446744073709551616 from rfl, show (2 ^ 32 : Nat) = 4294967296 from rfl]; omega
  rw [BitVec.getLsbD_and, BitVec.getLsbD_shiftLeft]
  by_cases c : i < 32
  · rw [decide_eq_true c]; simp
  · have : (BitVec.ofInt 64 (i1 % 4294967296)).getLsbD i = false := by
      rw [← BitVec.testBit_toNat]
      exact Nat.testBit_lt_two_pow (Nat.lt_of_lt_of_le hn (Nat.pow_le_pow_right (by decide) (by omega)))
    rw [this]; simp
theorem jv_i402 : jv_I 402 2 none 8 187 jv_c402 := ⟨rfl, rfl, rfl, rfl, rfl⟩
theorem jv_i401 : jv_I 401 4 none 7 164 jv_c401 := ⟨rfl, rfl, rfl, rfl, rfl⟩
theorem vr_does1 {K : Nat → Option (Nat × Nat)} {I : Nat → Nat → Int32} {L : Nat → Nat → Int64} {R : Nat → Nat → Value} (hW : jv_rW K R) {S T : vm_S} (hsh : vm_sh S) (h : vm_r I L S) {f : vf_F} (D : vm_D I f) (hd : f.d < 11) (hs : f.s < 11) {g : Int} {p : Nat} (hp : p < 1024) (h0 : 0 ≤ g ∧ g ≤ 1024) (hk : f.kind = 1) (hg : g = (p : Int) + 1) (hz : f.mode = 4 → f.z = 1 ∨ f.z = 2 ∨ f.z = 4) (hl : vm_load 1073750016 1073758208 f S = some T) {n sl : Nat} : ∃ I1 L1, jv_Ms 402 [.ref 178, .int (vl_I p)] (jv_H K I L R) n sl (none, jv_H K I1 L1 R, n, sl) ∧ vm_r I1 L1 T ∧ I1 178 30 = vl_I g.toNat ∧ vc_ff vr_Ep I L I1 L1 := by
  obtain ⟨Q, hQ⟩ : ∃ Q : jv_R → Prop, Q = fun X => ∃ I1 L1, X = (none, jv_H K I1 L1 R, n, sl) ∧ vm_r I1 L1 T ∧ I1 178 30 = vl_I g.toNat ∧ vc_ff vr_Ep I L I1 L1 := ⟨_, rfl⟩
  suffices hE : jv_Wp 402 0 [(0, .ref 178), (1, .int (vl_I p))] [] (jv_H K I L R) n sl Q by
    rw [hQ] at hE
    obtain ⟨X, hE, I1, L1, e, h'⟩ := hE
    subst e
    exact ⟨I1, L1, hE, h'⟩
  have hw : ¬ f.code = 24 := by have : f.kind = f.code % 8 := rfl; omega
  obtain ⟨IN, eN⟩ : ∃ IN, IN = jv_u I 178 30 ((vl_I p) + (1 : Int32)) := ⟨_, rfl⟩
  have nN : IN 178 30 = vl_I (p + 1) := by rw [eN, jv_u_self]; exact vl_I_add p 1
  have dN : ∀ j, j ≠ 30 → IN 178 j = I 178 j := fun j hj => by rw [eN]; exact jv_u_j _ _ _ _ hj
  have DN : vm_D IN f := vm_D_30 D dN
  have hN : vm_r IN L S := by rw [eN]; exact vm_r_nx h
  have fN : vc_ff vr_Ep I L IN L := by rw [eN]; exact vc_ff_u (Or.inr ⟨rfl, rfl⟩)
  obtain ⟨I2, L2, hF, hm, hf0⟩ := vr_access1 (n := n) (sl := sl) hW hsh hN DN hd hs hk hz hl
  have hn2 : I2 178 30 = vl_I g.toNat := by rw [hf0.1 178 30 (by omega), nN]; congr 1; omega
  have hf := vc_ff_trans fN (vc_ff_le (fun _ _ z => Or.inl z) hf0)
  subst eN
  refine jv_Wp.lift (fun _ Kz => jv_Ev.steps jv_i402 2 (pc' := 2) (l' := [(0, .ref 178), (1, .int (vl_I p))]) (st' := [.ref 178, .ref 178]) rfl Kz) ?_
  refine jv_Wp.lift (fun _ Kz => jv_Ev.c jv_i402 (pc' := 5) (S' := [.int (0 : Int32), .ref 178]) jv_i390 [.ref 178] rfl rfl rfl rfl (jv_cal rfl (jv_H_at (jv_rwK hW 178 14 31 (by decide))) rfl rfl) rfl (by have z := vr_misWide (L := L) (n := n) (sl := sl) hW D; rw [show decide (f.code = 24) = false from decide_eq_false hw] at z; exact z) rfl rfl Kz) ?_
  refine jv_Wp.lift (fun _ Kz => jv_Ev.br jv_i402 (pc' := 14) (st' := [.ref 178]) rfl (by rfl) Kz) ?_
  refine jv_Wp.lift (fun _ Kz => jv_Ev.steps jv_i402 3 (pc' := 17) (l' := [(0, .ref 178), (1, .int (vl_I p))]) (st' := [.int ((vl_I p) + (1 : Int32)), .ref 178]) rfl Kz) ?_
  refine jv_Wp.lift (fun _ Kz => jv_Ev.m jv_i402 (pc' := 20) (st' := []) (G' := (jv_H K (jv_u I 178 30 ((vl_I p) + (1 : Int32))) L R)) rfl rfl (jv_m_putI (jv_rwK hW 178 14 31 (by decide)) rfl rfl rfl rfl) Kz) ?_
  refine jv_Wp.lift (fun _ Kz => jv_Ev.steps jv_i402 1 (pc' := 21) (l' := [(0, .ref 178), (1, .int (vl_I p))]) (st' := [.ref 178]) rfl Kz) ?_
  refine jv_Wp.lift (fun _ Kz => jv_Ev.c jv_i402 (pc' := 24) (S' := [.int (1 : Int32)]) jv_i385 [.ref 178] rfl rfl rfl rfl (jv_cal rfl (jv_H_at (jv_rwK hW 178 14 31 (by decide))) rfl rfl) rfl (by have z := vr_mkind (L := L) (n := n) (sl := sl) hW DN; rw [hk] at z; exact z) rfl rfl Kz) ?_
  refine jv_Wp.lift (fun _ Kz => jv_Ev.br jv_i402 (pc' := 152) (st' := []) rfl (by rfl) Kz) ?_
  refine jv_Wp.lift (fun _ Kz => jv_Ev.steps jv_i402 1 (pc' := 153) (l' := [(0, .ref 178), (1, .int (vl_I p))]) (st' := [.ref 178]) rfl Kz) ?_
  refine jv_Wp.lift (fun _ Kz => jv_Ev.c jv_i402 (pc' := 156) (S' := []) (G1 := (jv_H K I2 L2 R)) jv_i395 [.ref 178] rfl rfl rfl rfl (jv_cal rfl (jv_H_at (jv_rwK hW 178 14 31 (by decide))) rfl rfl) rfl hF rfl rfl Kz) ?_
  refine jv_Wp.of (jv_Ev.ret jv_i402 rfl rfl) ?_
  rw [hQ]
  exact ⟨_, _, rfl, hm, hn2, hf⟩
theorem vr_does2 {K : Nat → Option (Nat × Nat)} {I : Nat → Nat → Int32} {L : Nat → Nat → Int64} {R : Nat → Nat → Value} (hW : jv_rW K R) {S T : vm_S} (hsh : vm_sh S) (h : vm_r I L S) {f : vf_F} (D : vm_D I f) (hd : f.d < 11) (hs : f.s < 11) {g : Int} {p : Nat} (hp : p < 1024) (h0 : 0 ≤ g ∧ g ≤ 1024) (hk : f.kind = 2) (hg : g = (p : Int) + 1) (hl : vm_store 1073750016 1073758208 f S = some T) {n sl : Nat} : ∃ I1 L1, jv_Ms 402 [.ref 178, .int (vl_I p)] (jv_H K I L R) n sl (none, jv_H K I1 L1 R, n, sl) ∧ vm_r I1 L1 T ∧ I1 178 30 = vl_I g.toNat ∧ vc_ff vr_Ep I L I1 L1 := by
  obtain ⟨Q, hQ⟩ : ∃ Q : jv_R → Prop, Q = fun X => ∃ I1 L1, X = (none, jv_H K I1 L1 R, n, sl) ∧ vm_r I1 L1 T ∧ I1 178 30 = vl_I g.toNat ∧ vc_ff vr_Ep I L I1 L1 := ⟨_, rfl⟩
  suffices hE : jv_Wp 402 0 [(0, .ref 178), (1, .int (vl_I p))] [] (jv_H K I L R) n sl Q by
    rw [hQ] at hE
    obtain ⟨X, hE, I1, L1, e, h'⟩ := hE
    subst e
    exact ⟨I1, L1, hE, h'⟩
  have hw : ¬ f.code = 24 := by have : f.kind = f.code % 8 := rfl; omega
  obtain ⟨IN, eN⟩ : ∃ IN, IN = jv_u I 178 30 ((vl_I p) + (1 : Int32)) := ⟨_, rfl⟩
  have nN : IN 178 30 = vl_I (p + 1) := by rw [eN, jv_u_self]; exact vl_I_add p 1
  have dN : ∀ j, j ≠ 30 → IN 178 j = I 178 j := fun j hj => by rw [eN]; exact jv_u_j _ _ _ _ hj
  have DN : vm_D IN f := vm_D_30 D dN
  have hN : vm_r IN L S := by rw [eN]; exact vm_r_nx h
  have fN : vc_ff vr_Ep I L IN L := by rw [eN]; exact vc_ff_u (Or.inr ⟨rfl, rfl⟩)
  obtain ⟨I2, L2, hF, hm, hf0⟩ := vr_access2 (n := n) (sl := sl) hW hsh hN DN hd hs hk hl
  have hn2 : I2 178 30 = vl_I g.toNat := by rw [hf0.1 178 30 (by omega), nN]; congr 1; omega
  have hf := vc_ff_trans fN (vc_ff_le (fun _ _ z => Or.inl z) hf0)
  subst eN
  refine jv_Wp.lift (fun _ Kz => jv_Ev.steps jv_i402 2 (pc' := 2) (l' := [(0, .ref 178), (1, .int (vl_I p))]) (st' := [.ref 178, .ref 178]) rfl Kz) ?_
  refine jv_Wp.lift (fun _ Kz => jv_Ev.c jv_i402 (pc' := 5) (S' := [.int (0 : Int32), .ref 178]) jv_i390 [.ref 178] rfl rfl rfl rfl (jv_cal rfl (jv_H_at (jv_rwK hW 178 14 31 (by decide))) rfl rfl) rfl (by have z := vr_misWide (L := L) (n := n) (sl := sl) hW D; rw [show decide (f.code = 24) = false from decide_eq_false hw] at z; exact z) rfl rfl Kz) ?_
  refine jv_Wp.lift (fun _ Kz => jv_Ev.br jv_i402 (pc' := 14) (st' := [.ref 178]) rfl (by rfl) Kz) ?_
  refine jv_Wp.lift (fun _ Kz => jv_Ev.steps jv_i402 3 (pc' := 17) (l' := [(0, .ref 178), (1, .int (vl_I p))]) (st' := [.int ((vl_I p) + (1 : Int32)), .ref 178]) rfl Kz) ?_
  refine jv_Wp.lift (fun _ Kz => jv_Ev.m jv_i402 (pc' := 20) (st' := []) (G' := (jv_H K (jv_u I 178 30 ((vl_I p) + (1 : Int32))) L R)) rfl rfl (jv_m_putI (jv_rwK hW 178 14 31 (by decide)) rfl rfl rfl rfl) Kz) ?_
  refine jv_Wp.lift (fun _ Kz => jv_Ev.steps jv_i402 1 (pc' := 21) (l' := [(0, .ref 178), (1, .int (vl_I p))]) (st' := [.ref 178]) rfl Kz) ?_
  refine jv_Wp.lift (fun _ Kz => jv_Ev.c jv_i402 (pc' := 24) (S' := [.int (2 : Int32)]) jv_i385 [.ref 178] rfl rfl rfl rfl (jv_cal rfl (jv_H_at (jv_rwK hW 178 14 31 (by decide))) rfl rfl) rfl (by have z := vr_mkind (L := L) (n := n) (sl := sl) hW DN; rw [hk] at z; exact z) rfl rfl Kz) ?_
  refine jv_Wp.lift (fun _ Kz => jv_Ev.br jv_i402 (pc' := 152) (st' := []) rfl (by rfl) Kz) ?_
  refine jv_Wp.lift (fun _ Kz => jv_Ev.steps jv_i402 1 (pc' := 153) (l' := [(0, .ref 178), (1, .int (vl_I p))]) (st' := [.ref 178]) rfl Kz) ?_
  refine jv_Wp.lift (fun _ Kz => jv_Ev.c jv_i402 (pc' := 156) (S' := []) (G1 := (jv_H K I2 L2 R)) jv_i395 [.ref 178] rfl rfl rfl rfl (jv_cal rfl (jv_H_at (jv_rwK hW 178 14 31 (by decide))) rfl rfl) rfl hF rfl rfl Kz) ?_
  refine jv_Wp.of (jv_Ev.ret jv_i402 rfl rfl) ?_
  rw [hQ]
  exact ⟨_, _, rfl, hm, hn2, hf⟩
theorem vr_does3 {K : Nat → Option (Nat × Nat)} {I : Nat → Nat → Int32} {L : Nat → Nat → Int64} {R : Nat → Nat → Value} (hW : jv_rW K R) {S T : vm_S} (hsh : vm_sh S) (h : vm_r I L S) {f : vf_F} (D : vm_D I f) (hd : f.d < 11) (hs : f.s < 11) {g : Int} {p : Nat} (hp : p < 1024) (h0 : 0 ≤ g ∧ g ≤ 1024) (hk : f.kind = 3) (hmo : ¬ f.mode = 6) (hg : g = (p : Int) + 1) (hl : vm_store 1073750016 1073758208 f S = some T) {n sl : Nat} : ∃ I1 L1, jv_Ms 402 [.ref 178, .int (vl_I p)] (jv_H K I L R) n sl (none, jv_H K I1 L1 R, n, sl) ∧ vm_r I1 L1 T ∧ I1 178 30 = vl_I g.toNat ∧ vc_ff vr_Ep I L I1 L1 := by
  obtain ⟨Q, hQ⟩ : ∃ Q : jv_R → Prop, Q = fun X => ∃ I1 L1, X = (none, jv_H K I1 L1 R, n, sl) ∧ vm_r I1 L1 T ∧ I1 178 30 = vl_I g.toNat ∧ vc_ff vr_Ep I L I1 L1 := ⟨_, rfl⟩
  suffices hE : jv_Wp 402 0 [(0, .ref 178), (1, .int (vl_I p))] [] (jv_H K I L R) n sl Q by
    rw [hQ] at hE
    obtain ⟨X, hE, I1, L1, e, h'⟩ := hE
    subst e
    exact ⟨I1, L1, hE, h'⟩
  have hw : ¬ f.code = 24 := by have : f.kind = f.code % 8 := rfl; omega
  obtain ⟨IN, eN⟩ : ∃ IN, IN = jv_u I 178 30 ((vl_I p) + (1 : Int32)) := ⟨_, rfl⟩
  have nN : IN 178 30 = vl_I (p + 1) := by rw [eN, jv_u_self]; exact vl_I_add p 1
  have dN : ∀ j, j ≠ 30 → IN 178 j = I 178 j := fun j hj => by rw [eN]; exact jv_u_j _ _ _ _ hj
  have DN : vm_D IN f := vm_D_30 D dN
  have hN : vm_r IN L S := by rw [eN]; exact vm_r_nx h
  have fN : vc_ff vr_Ep I L IN L := by rw [eN]; exact vc_ff_u (Or.inr ⟨rfl, rfl⟩)
  obtain ⟨I2, L2, hF, hm, hf0⟩ := vr_access3 (n := n) (sl := sl) hW hsh hN DN hd hs hk hmo hl
  have hn2 : I2 178 30 = vl_I g.toNat := by rw [hf0.1 178 30 (by omega), nN]; congr 1; omega
  have hf := vc_ff_trans fN (vc_ff_le (fun _ _ z => Or.inl z) hf0)
  subst eN
  refine jv_Wp.lift (fun _ Kz => jv_Ev.steps jv_i402 2 (pc' := 2) (l' := [(0, .ref 178), (1, .int (vl_I p))]) (st' := [.ref 178, .ref 178]) rfl Kz) ?_
  refine jv_Wp.lift (fun _ Kz => jv_Ev.c jv_i402 (pc' := 5) (S' := [.int (0 : Int32), .ref 178]) jv_i390 [.ref 178] rfl rfl rfl rfl (jv_cal rfl (jv_H_at (jv_rwK hW 178 14 31 (by decide))) rfl rfl) rfl (by have z := vr_misWide (L := L) (n := n) (sl := sl) hW D; rw [show decide (f.code = 24) = false from decide_eq_false hw] at z; exact z) rfl rfl Kz) ?_
  refine jv_Wp.lift (fun _ Kz => jv_Ev.br jv_i402 (pc' := 14) (st' := [.ref 178]) rfl (by rfl) Kz) ?_
  refine jv_Wp.lift (fun _ Kz => jv_Ev.steps jv_i402 3 (pc' := 17) (l' := [(0, .ref 178), (1, .int (vl_I p))]) (st' := [.int ((vl_I p) + (1 : Int32)), .ref 178]) rfl Kz) ?_
  refine jv_Wp.lift (fun _ Kz => jv_Ev.m jv_i402 (pc' := 20) (st' := []) (G' := (jv_H K (jv_u I 178 30 ((vl_I p) + (1 : Int32))) L R)) rfl rfl (jv_m_putI (jv_rwK hW 178 14 31 (by decide)) rfl rfl rfl rfl) Kz) ?_
  refine jv_Wp.lift (fun _ Kz => jv_Ev.steps jv_i402 1 (pc' := 21) (l' := [(0, .ref 178), (1, .int (vl_I p))]) (st' := [.ref 178]) rfl Kz) ?_
  refine jv_Wp.lift (fun _ Kz => jv_Ev.c jv_i402 (pc' := 24) (S' := [.int (3 : Int32)]) jv_i385 [.ref 178] rfl rfl rfl rfl (jv_cal rfl (jv_H_at (jv_rwK hW 178 14 31 (by decide))) rfl rfl) rfl (by have z := vr_mkind (L := L) (n := n) (sl := sl) hW DN; rw [hk] at z; exact z) rfl rfl Kz) ?_
  refine jv_Wp.lift (fun _ Kz => jv_Ev.br jv_i402 (pc' := 152) (st' := []) rfl (by rfl) Kz) ?_
  refine jv_Wp.lift (fun _ Kz => jv_Ev.steps jv_i402 1 (pc' := 153) (l' := [(0, .ref 178), (1, .int (vl_I p))]) (st' := [.ref 178]) rfl Kz) ?_
  refine jv_Wp.lift (fun _ Kz => jv_Ev.c jv_i402 (pc' := 156) (S' := []) (G1 := (jv_H K I2 L2 R)) jv_i395 [.ref 178] rfl rfl rfl rfl (jv_cal rfl (jv_H_at (jv_rwK hW 178 14 31 (by decide))) rfl rfl) rfl hF rfl rfl Kz) ?_
  refine jv_Wp.of (jv_Ev.ret jv_i402 rfl rfl) ?_
  rw [hQ]
  exact ⟨_, _, rfl, hm, hn2, hf⟩
theorem vr_does3A {K : Nat → Option (Nat × Nat)} {I : Nat → Nat → Int32} {L : Nat → Nat → Int64} {R : Nat → Nat → Value} (hW : jv_rW K R) {S T : vm_S} (hsh : vm_sh S) (h : vm_r I L S) {f : vf_F} (D : vm_D I f) (hd : f.d < 11) (hs : f.s < 11) {g : Int} {p : Nat} (hp : p < 1024) (h0 : 0 ≤ g ∧ g ≤ 1024) (hk : f.kind = 3) (hmo : f.mode = 6) (hg : g = (p : Int) + 1) (hi : f.i = 0 ∨ f.i = 1 ∨ f.i = 64 ∨ f.i = 65 ∨ f.i = 80 ∨ f.i = 81 ∨ f.i = 160 ∨ f.i = 161 ∨ f.i = 225 ∨ f.i = 241) (hl : vm_atomic 1073750016 1073758208 f S = some T) {n sl : Nat} : ∃ I1 L1, jv_Ms 402 [.ref 178, .int (vl_I p)] (jv_H K I L R) n sl (none, jv_H K I1 L1 R, n, sl) ∧ vm_r I1 L1 T ∧ I1 178 30 = vl_I g.toNat ∧ vc_ff vr_Ep I L I1 L1 := by
  obtain ⟨Q, hQ⟩ : ∃ Q : jv_R → Prop, Q = fun X => ∃ I1 L1, X = (none, jv_H K I1 L1 R, n, sl) ∧ vm_r I1 L1 T ∧ I1 178 30 = vl_I g.toNat ∧ vc_ff vr_Ep I L I1 L1 := ⟨_, rfl⟩
  suffices hE : jv_Wp 402 0 [(0, .ref 178), (1, .int (vl_I p))] [] (jv_H K I L R) n sl Q by
    rw [hQ] at hE
    obtain ⟨X, hE, I1, L1, e, h'⟩ := hE
    subst e
    exact ⟨I1, L1, hE, h'⟩
  have hw : ¬ f.code = 24 := by have : f.kind = f.code % 8 := rfl; omega
  obtain ⟨IN, eN⟩ : ∃ IN, IN = jv_u I 178 30 ((vl_I p) + (1 : Int32)) := ⟨_, rfl⟩
  have nN : IN 178 30 = vl_I (p + 1) := by rw [eN, jv_u_self]; exact vl_I_add p 1
  have dN : ∀ j, j ≠ 30 → IN 178 j = I 178 j := fun j hj => by rw [eN]; exact jv_u_j _ _ _ _ hj
  have DN : vm_D IN f := vm_D_30 D dN
  have hN : vm_r IN L S := by rw [eN]; exact vm_r_nx h
  have fN : vc_ff vr_Ep I L IN L := by rw [eN]; exact vc_ff_u (Or.inr ⟨rfl, rfl⟩)
  obtain ⟨I2, L2, hF, hm, hf0⟩ := vr_access3A (n := n) (sl := sl) hW hsh hN DN hd hs hk hmo hi hl
  have hn2 : I2 178 30 = vl_I g.toNat := by rw [hf0.1 178 30 (by omega), nN]; congr 1; omega
  have hf := vc_ff_trans fN (vc_ff_le (fun _ _ z => Or.inl z) hf0)
  subst eN
  refine jv_Wp.lift (fun _ Kz => jv_Ev.steps jv_i402 2 (pc' := 2) (l' := [(0, .ref 178), (1, .int (vl_I p))]) (st' := [.ref 178, .ref 178]) rfl Kz) ?_
  refine jv_Wp.lift (fun _ Kz => jv_Ev.c jv_i402 (pc' := 5) (S' := [.int (0 : Int32), .ref 178]) jv_i390 [.ref 178] rfl rfl rfl rfl (jv_cal rfl (jv_H_at (jv_rwK hW 178 14 31 (by decide))) rfl rfl) rfl (by have z := vr_misWide (L := L) (n := n) (sl := sl) hW D; rw [show decide (f.code = 24) = false from decide_eq_false hw] at z; exact z) rfl rfl Kz) ?_
  refine jv_Wp.lift (fun _ Kz => jv_Ev.br jv_i402 (pc' := 14) (st' := [.ref 178]) rfl (by rfl) Kz) ?_
  refine jv_Wp.lift (fun _ Kz => jv_Ev.steps jv_i402 3 (pc' := 17) (l' := [(0, .ref 178), (1, .int (vl_I p))]) (st' := [.int ((vl_I p) + (1 : Int32)), .ref 178]) rfl Kz) ?_
  refine jv_Wp.lift (fun _ Kz => jv_Ev.m jv_i402 (pc' := 20) (st' := []) (G' := (jv_H K (jv_u I 178 30 ((vl_I p) + (1 : Int32))) L R)) rfl rfl (jv_m_putI (jv_rwK hW 178 14 31 (by decide)) rfl rfl rfl rfl) Kz) ?_
  refine jv_Wp.lift (fun _ Kz => jv_Ev.steps jv_i402 1 (pc' := 21) (l' := [(0, .ref 178), (1, .int (vl_I p))]) (st' := [.ref 178]) rfl Kz) ?_
  refine jv_Wp.lift (fun _ Kz => jv_Ev.c jv_i402 (pc' := 24) (S' := [.int (3 : Int32)]) jv_i385 [.ref 178] rfl rfl rfl rfl (jv_cal rfl (jv_H_at (jv_rwK hW 178 14 31 (by decide))) rfl rfl) rfl (by have z := vr_mkind (L := L) (n := n) (sl := sl) hW DN; rw [hk] at z; exact z) rfl rfl Kz) ?_
  refine jv_Wp.lift (fun _ Kz => jv_Ev.br jv_i402 (pc' := 152) (st' := []) rfl (by rfl) Kz) ?_
  refine jv_Wp.lift (fun _ Kz => jv_Ev.steps jv_i402 1 (pc' := 153) (l' := [(0, .ref 178), (1, .int (vl_I p))]) (st' := [.ref 178]) rfl Kz) ?_
  refine jv_Wp.lift (fun _ Kz => jv_Ev.c jv_i402 (pc' := 156) (S' := []) (G1 := (jv_H K I2 L2 R)) jv_i395 [.ref 178] rfl rfl rfl rfl (jv_cal rfl (jv_H_at (jv_rwK hW 178 14 31 (by decide))) rfl rfl) rfl hF rfl rfl Kz) ?_
  refine jv_Wp.of (jv_Ev.ret jv_i402 rfl rfl) ?_
  rw [hQ]
  exact ⟨_, _, rfl, hm, hn2, hf⟩
theorem vr_does4 {K : Nat → Option (Nat × Nat)} {I : Nat → Nat → Int32} {L : Nat → Nat → Int64} {R : Nat → Nat → Value} (hW : jv_rW K R) {S T : vm_S} (hsh : vm_sh S) (h : vm_r I L S) {f : vf_F} (D : vm_D I f) (hd : f.d < 11) (hs : f.s < 11) {g : Int} {p : Nat} (hp : p < 1024) (h0 : 0 ≤ g ∧ g ≤ 1024) (har : vf_ar f) (hk : f.kind = 4) (hg : g = (p : Int) + 1) (hl : vm_arith f S = some T) {n sl : Nat} : ∃ I1 L1, jv_Ms 402 [.ref 178, .int (vl_I p)] (jv_H K I L R) n sl (none, jv_H K I1 L1 R, n, sl) ∧ vm_r I1 L1 T ∧ I1 178 30 = vl_I g.toNat ∧ vc_ff vr_Ep I L I1 L1 := by
  obtain ⟨Q, hQ⟩ : ∃ Q : jv_R → Prop, Q = fun X => ∃ I1 L1, X = (none, jv_H K I1 L1 R, n, sl) ∧ vm_r I1 L1 T ∧ I1 178 30 = vl_I g.toNat ∧ vc_ff vr_Ep I L I1 L1 := ⟨_, rfl⟩
  suffices hE : jv_Wp 402 0 [(0, .ref 178), (1, .int (vl_I p))] [] (jv_H K I L R) n sl Q by
    rw [hQ] at hE
    obtain ⟨X, hE, I1, L1, e, h'⟩ := hE
    subst e
    exact ⟨I1, L1, hE, h'⟩
  have hw : ¬ f.code = 24 := by have : f.kind = f.code % 8 := rfl; omega
  obtain ⟨IN, eN⟩ : ∃ IN, IN = jv_u I 178 30 ((vl_I p) + (1 : Int32)) := ⟨_, rfl⟩
  have nN : IN 178 30 = vl_I (p + 1) := by rw [eN, jv_u_self]; exact vl_I_add p 1
  have dN : ∀ j, j ≠ 30 → IN 178 j = I 178 j := fun j hj => by rw [eN]; exact jv_u_j _ _ _ _ hj
  have DN : vm_D IN f := vm_D_30 D dN
  have hN : vm_r IN L S := by rw [eN]; exact vm_r_nx h
  have fN : vc_ff vr_Ep I L IN L := by rw [eN]; exact vc_ff_u (Or.inr ⟨rfl, rfl⟩)
  obtain ⟨I2, L2, hF, hm, hf0⟩ := vr_arithM (n := n) (sl := sl) hW hsh hN DN hd hs har (by omega) hl
  have hn2 : I2 178 30 = vl_I g.toNat := by rw [hf0.1 178 30 (by omega), nN]; congr 1; omega
  have hf := vc_ff_trans fN (vc_ff_le (fun _ _ z => Or.inl z) hf0)
  subst eN
  refine jv_Wp.lift (fun _ Kz => jv_Ev.steps jv_i402 2 (pc' := 2) (l' := [(0, .ref 178), (1, .int (vl_I p))]) (st' := [.ref 178, .ref 178]) rfl Kz) ?_
  refine jv_Wp.lift (fun _ Kz => jv_Ev.c jv_i402 (pc' := 5) (S' := [.int (0 : Int32), .ref 178]) jv_i390 [.ref 178] rfl rfl rfl rfl (jv_cal rfl (jv_H_at (jv_rwK hW 178 14 31 (by decide))) rfl rfl) rfl (by have z := vr_misWide (L := L) (n := n) (sl := sl) hW D; rw [show decide (f.code = 24) = false from decide_eq_false hw] at z; exact z) rfl rfl Kz) ?_
  refine jv_Wp.lift (fun _ Kz => jv_Ev.br jv_i402 (pc' := 14) (st' := [.ref 178]) rfl (by rfl) Kz) ?_
  refine jv_Wp.lift (fun _ Kz => jv_Ev.steps jv_i402 3 (pc' := 17) (l' := [(0, .ref 178), (1, .int (vl_I p))]) (st' := [.int ((vl_I p) + (1 : Int32)), .ref 178]) rfl Kz) ?_
  refine jv_Wp.lift (fun _ Kz => jv_Ev.m jv_i402 (pc' := 20) (st' := []) (G' := (jv_H K (jv_u I 178 30 ((vl_I p) + (1 : Int32))) L R)) rfl rfl (jv_m_putI (jv_rwK hW 178 14 31 (by decide)) rfl rfl rfl rfl) Kz) ?_
  refine jv_Wp.lift (fun _ Kz => jv_Ev.steps jv_i402 1 (pc' := 21) (l' := [(0, .ref 178), (1, .int (vl_I p))]) (st' := [.ref 178]) rfl Kz) ?_
  refine jv_Wp.lift (fun _ Kz => jv_Ev.c jv_i402 (pc' := 24) (S' := [.int (4 : Int32)]) jv_i385 [.ref 178] rfl rfl rfl rfl (jv_cal rfl (jv_H_at (jv_rwK hW 178 14 31 (by decide))) rfl rfl) rfl (by have z := vr_mkind (L := L) (n := n) (sl := sl) hW DN; rw [hk] at z; exact z) rfl rfl Kz) ?_
  refine jv_Wp.lift (fun _ Kz => jv_Ev.br jv_i402 (pc' := 72) (st' := []) rfl (by rfl) Kz) ?_
  refine jv_Wp.lift (fun _ Kz => jv_Ev.steps jv_i402 1 (pc' := 73) (l' := [(0, .ref 178), (1, .int (vl_I p))]) (st' := [.ref 178]) rfl Kz) ?_
  refine jv_Wp.lift (fun _ Kz => jv_Ev.c jv_i402 (pc' := 76) (S' := []) (G1 := (jv_H K I2 L2 R)) jv_i391 [.ref 178] rfl rfl rfl rfl (jv_cal rfl (jv_H_at (jv_rwK hW 178 14 31 (by decide))) rfl rfl) rfl hF rfl rfl Kz) ?_
  refine jv_Wp.lift (fun _ Kz => jv_Ev.steps jv_i402 1 (pc' := 156) (l' := [(0, .ref 178), (1, .int (vl_I p))]) (st' := []) rfl Kz) ?_
  refine jv_Wp.of (jv_Ev.ret jv_i402 rfl rfl) ?_
  rw [hQ]
  exact ⟨_, _, rfl, hm, hn2, hf⟩
theorem vr_does7 {K : Nat → Option (Nat × Nat)} {I : Nat → Nat → Int32} {L : Nat → Nat → Int64} {R : Nat → Nat → Value} (hW : jv_rW K R) {S T : vm_S} (hsh : vm_sh S) (h : vm_r I L S) {f : vf_F} (D : vm_D I f) (hd : f.d < 11) (hs : f.s < 11) {g : Int} {p : Nat} (hp : p < 1024) (h0 : 0 ≤ g ∧ g ≤ 1024) (har : vf_ar f) (hk : f.kind = 7) (hg : g = (p : Int) + 1) (hl : vm_arith f S = some T) {n sl : Nat} : ∃ I1 L1, jv_Ms 402 [.ref 178, .int (vl_I p)] (jv_H K I L R) n sl (none, jv_H K I1 L1 R, n, sl) ∧ vm_r I1 L1 T ∧ I1 178 30 = vl_I g.toNat ∧ vc_ff vr_Ep I L I1 L1 := by
  obtain ⟨Q, hQ⟩ : ∃ Q : jv_R → Prop, Q = fun X => ∃ I1 L1, X = (none, jv_H K I1 L1 R, n, sl) ∧ vm_r I1 L1 T ∧ I1 178 30 = vl_I g.toNat ∧ vc_ff vr_Ep I L I1 L1 := ⟨_, rfl⟩
  suffices hE : jv_Wp 402 0 [(0, .ref 178), (1, .int (vl_I p))] [] (jv_H K I L R) n sl Q by
    rw [hQ] at hE
    obtain ⟨X, hE, I1, L1, e, h'⟩ := hE
    subst e
    exact ⟨I1, L1, hE, h'⟩
  have hw : ¬ f.code = 24 := by have : f.kind = f.code % 8 := rfl; omega
  obtain ⟨IN, eN⟩ : ∃ IN, IN = jv_u I 178 30 ((vl_I p) + (1 : Int32)) := ⟨_, rfl⟩
  have nN : IN 178 30 = vl_I (p + 1) := by rw [eN, jv_u_self]; exact vl_I_add p 1
  have dN : ∀ j, j ≠ 30 → IN 178 j = I 178 j := fun j hj => by rw [eN]; exact jv_u_j _ _ _ _ hj
  have DN : vm_D IN f := vm_D_30 D dN
  have hN : vm_r IN L S := by rw [eN]; exact vm_r_nx h
  have fN : vc_ff vr_Ep I L IN L := by rw [eN]; exact vc_ff_u (Or.inr ⟨rfl, rfl⟩)
  obtain ⟨I2, L2, hF, hm, hf0⟩ := vr_arithM (n := n) (sl := sl) hW hsh hN DN hd hs har (by omega) hl
  have hn2 : I2 178 30 = vl_I g.toNat := by rw [hf0.1 178 30 (by omega), nN]; congr 1; omega
  have hf := vc_ff_trans fN (vc_ff_le (fun _ _ z => Or.inl z) hf0)
  subst eN
  refine jv_Wp.lift (fun _ Kz => jv_Ev.steps jv_i402 2 (pc' := 2) (l' := [(0, .ref 178), (1, .int (vl_I p))]) (st' := [.ref 178, .ref 178]) rfl Kz) ?_
  refine jv_Wp.lift (fun _ Kz => jv_Ev.c jv_i402 (pc' := 5) (S' := [.int (0 : Int32), .ref 178]) jv_i390 [.ref 178] rfl rfl rfl rfl (jv_cal rfl (jv_H_at (jv_rwK hW 178 14 31 (by decide))) rfl rfl) rfl (by have z := vr_misWide (L := L) (n := n) (sl := sl) hW D; rw [show decide (f.code = 24) = false from decide_eq_false hw] at z; exact z) rfl rfl Kz) ?_
  refine jv_Wp.lift (fun _ Kz => jv_Ev.br jv_i402 (pc' := 14) (st' := [.ref 178]) rfl (by rfl) Kz) ?_
  refine jv_Wp.lift (fun _ Kz => jv_Ev.steps jv_i402 3 (pc' := 17) (l' := [(0, .ref 178), (1, .int (vl_I p))]) (st' := [.int ((vl_I p) + (1 : Int32)), .ref 178]) rfl Kz) ?_
  refine jv_Wp.lift (fun _ Kz => jv_Ev.m jv_i402 (pc' := 20) (st' := []) (G' := (jv_H K (jv_u I 178 30 ((vl_I p) + (1 : Int32))) L R)) rfl rfl (jv_m_putI (jv_rwK hW 178 14 31 (by decide)) rfl rfl rfl rfl) Kz) ?_
  refine jv_Wp.lift (fun _ Kz => jv_Ev.steps jv_i402 1 (pc' := 21) (l' := [(0, .ref 178), (1, .int (vl_I p))]) (st' := [.ref 178]) rfl Kz) ?_
  refine jv_Wp.lift (fun _ Kz => jv_Ev.c jv_i402 (pc' := 24) (S' := [.int (7 : Int32)]) jv_i385 [.ref 178] rfl rfl rfl rfl (jv_cal rfl (jv_H_at (jv_rwK hW 178 14 31 (by decide))) rfl rfl) rfl (by have z := vr_mkind (L := L) (n := n) (sl := sl) hW DN; rw [hk] at z; exact z) rfl rfl Kz) ?_
  refine jv_Wp.lift (fun _ Kz => jv_Ev.br jv_i402 (pc' := 72) (st' := []) rfl (by rfl) Kz) ?_
  refine jv_Wp.lift (fun _ Kz => jv_Ev.steps jv_i402 1 (pc' := 73) (l' := [(0, .ref 178), (1, .int (vl_I p))]) (st' := [.ref 178]) rfl Kz) ?_
  refine jv_Wp.lift (fun _ Kz => jv_Ev.c jv_i402 (pc' := 76) (S' := []) (G1 := (jv_H K I2 L2 R)) jv_i391 [.ref 178] rfl rfl rfl rfl (jv_cal rfl (jv_H_at (jv_rwK hW 178 14 31 (by decide))) rfl rfl) rfl hF rfl rfl Kz) ?_
  refine jv_Wp.lift (fun _ Kz => jv_Ev.steps jv_i402 1 (pc' := 156) (l' := [(0, .ref 178), (1, .int (vl_I p))]) (st' := []) rfl Kz) ?_
  refine jv_Wp.of (jv_Ev.ret jv_i402 rfl rfl) ?_
  rw [hQ]
  exact ⟨_, _, rfl, hm, hn2, hf⟩
theorem vr_does5 {K : Nat → Option (Nat × Nat)} {I : Nat → Nat → Int32} {L : Nat → Nat → Int64} {R : Nat → Nat → Value} (hW : jv_rW K R) {S T : vm_S} (hsh : vm_sh S) (h : vm_r I L S) {f : vf_F} (D : vm_D I f) (hd : f.d < 11) (hs : f.s < 11) {g : Int} {p : Nat} (hp : p < 1024) (h0 : 0 ≤ g ∧ g ≤ 1024) (eT : S = T) (hk : f.kind = 5) (hcc : ¬ f.code = 133) (hn : f.n ≠ 0) (hl : vm_jump f p S = some g) {n sl : Nat} : ∃ I1 L1, jv_Ms 402 [.ref 178, .int (vl_I p)] (jv_H K I L R) n sl (none, jv_H K I1 L1 R, n, sl) ∧ vm_r I1 L1 T ∧ I1 178 30 = vl_I g.toNat ∧ vc_ff vr_Ep I L I1 L1 := by
  obtain ⟨Q, hQ⟩ : ∃ Q : jv_R → Prop, Q = fun X => ∃ I1 L1, X = (none, jv_H K I1 L1 R, n, sl) ∧ vm_r I1 L1 T ∧ I1 178 30 = vl_I g.toNat ∧ vc_ff vr_Ep I L I1 L1 := ⟨_, rfl⟩
  suffices hE : jv_Wp 402 0 [(0, .ref 178), (1, .int (vl_I p))] [] (jv_H K I L R) n sl Q by
    rw [hQ] at hE
    obtain ⟨X, hE, I1, L1, e, h'⟩ := hE
    subst e
    exact ⟨I1, L1, hE, h'⟩
  have hw : ¬ f.code = 24 := by have : f.kind = f.code % 8 := rfl; omega
  obtain ⟨IN, eN⟩ : ∃ IN, IN = jv_u I 178 30 ((vl_I p) + (1 : Int32)) := ⟨_, rfl⟩
  have nN : IN 178 30 = vl_I (p + 1) := by rw [eN, jv_u_self]; exact vl_I_add p 1
  have dN : ∀ j, j ≠ 30 → IN 178 j = I 178 j := fun j hj => by rw [eN]; exact jv_u_j _ _ _ _ hj
  have DN : vm_D IN f := vm_D_30 D dN
  have hN : vm_r IN L S := by rw [eN]; exact vm_r_nx h
  have fN : vc_ff vr_Ep I L IN L := by rw [eN]; exact vc_ff_u (Or.inr ⟨rfl, rfl⟩)
  have hJ0 : ∃ I1 L1, jv_Ms 393 [.ref 178, .int (vl_I p)] (jv_H K IN L R) n sl (none, jv_H K I1 L1 R, n, sl) ∧ vm_r I1 L1 T ∧ I1 178 30 = vl_I g.toNat ∧ vc_ff vr_Ep IN L I1 L1 := by
    cases hb3 : f.bit3 with
    | true => exact vr_jump5r hW eT hN DN hd hs hp nN h0 hn hk hb3 hl
    | false => exact vr_jump5i hW eT hN DN hd hs hp nN h0 hn hk hb3 hl
  obtain ⟨I2, L2, hF, hm, hn2, hf0⟩ := hJ0
  have hf := vc_ff_trans fN hf0
  subst eN
  refine jv_Wp.lift (fun _ Kz => jv_Ev.steps jv_i402 2 (pc' := 2) (l' := [(0, .ref 178), (1, .int (vl_I p))]) (st' := [.ref 178, .ref 178]) rfl Kz) ?_
  refine jv_Wp.lift (fun _ Kz => jv_Ev.c jv_i402 (pc' := 5) (S' := [.int (0 : Int32), .ref 178]) jv_i390 [.ref 178] rfl rfl rfl rfl (jv_cal rfl (jv_H_at (jv_rwK hW 178 14 31 (by decide))) rfl rfl) rfl (by have z := vr_misWide (L := L) (n := n) (sl := sl) hW D; rw [show decide (f.code = 24) = false from decide_eq_false hw] at z; exact z) rfl rfl Kz) ?_
  refine jv_Wp.lift (fun _ Kz => jv_Ev.br jv_i402 (pc' := 14) (st' := [.ref 178]) rfl (by rfl) Kz) ?_
  refine jv_Wp.lift (fun _ Kz => jv_Ev.steps jv_i402 3 (pc' := 17) (l' := [(0, .ref 178), (1, .int (vl_I p))]) (st' := [.int ((vl_I p) + (1 : Int32)), .ref 178]) rfl Kz) ?_
  refine jv_Wp.lift (fun _ Kz => jv_Ev.m jv_i402 (pc' := 20) (st' := []) (G' := (jv_H K (jv_u I 178 30 ((vl_I p) + (1 : Int32))) L R)) rfl rfl (jv_m_putI (jv_rwK hW 178 14 31 (by decide)) rfl rfl rfl rfl) Kz) ?_
  refine jv_Wp.lift (fun _ Kz => jv_Ev.steps jv_i402 1 (pc' := 21) (l' := [(0, .ref 178), (1, .int (vl_I p))]) (st' := [.ref 178]) rfl Kz) ?_
  refine jv_Wp.lift (fun _ Kz => jv_Ev.c jv_i402 (pc' := 24) (S' := [.int (5 : Int32)]) jv_i385 [.ref 178] rfl rfl rfl rfl (jv_cal rfl (jv_H_at (jv_rwK hW 178 14 31 (by decide))) rfl rfl) rfl (by have z := vr_mkind (L := L) (n := n) (sl := sl) hW DN; rw [hk] at z; exact z) rfl rfl Kz) ?_
  refine jv_Wp.lift (fun _ Kz => jv_Ev.br jv_i402 (pc' := 79) (st' := []) rfl (by rfl) Kz) ?_
  refine jv_Wp.lift (fun _ Kz => jv_Ev.steps jv_i402 1 (pc' := 80) (l' := [(0, .ref 178), (1, .int (vl_I p))]) (st' := [.ref 178]) rfl Kz) ?_
  refine jv_Wp.lift (fun _ Kz => jv_Ev.m jv_i402 (pc' := 83) (st' := [.int (vl_I f.code)]) (G' := (jv_H K (jv_u I 178 30 ((vl_I p) + (1 : Int32))) L R)) rfl rfl (jv_m_getI (jv_rwK hW 178 14 31 (by decide)) rfl rfl ((jv_u_j _ _ _ _ (by decide)).trans (vm_d_c D))) Kz) ?_
  refine jv_Wp.lift (fun _ Kz => jv_Ev.steps jv_i402 1 (pc' := 86) (l' := [(0, .ref 178), (1, .int (vl_I p))]) (st' := [.int (133 : Int32), .int (vl_I f.code)]) rfl Kz) ?_
  refine jv_Wp.cnd jv_i402 (pt := 96) (pe := 89) (p := (¬ (vl_I f.code) = (133 : Int32))) (q := (¬ (vl_I f.code) = (133 : Int32))) rfl jv_bc_ne rfl rfl Iff.rfl (fun _ => ?_) (fun hz => absurd (fun z => hcc ((vl_I_inj (a := f.code) (b := 133) (by have := vr_dc D; omega) (by decide)).mp z)) hz)
  refine jv_Wp.lift (fun _ Kz => jv_Ev.steps jv_i402 2 (pc' := 98) (l' := [(0, .ref 178), (1, .int (vl_I p))]) (st' := [.int (vl_I p), .ref 178]) rfl Kz) ?_
  refine jv_Wp.lift (fun _ Kz => jv_Ev.c jv_i402 (pc' := 101) (S' := []) (G1 := (jv_H K I2 L2 R)) jv_i393 [.ref 178, .int (vl_I p)] rfl rfl rfl rfl (jv_cal rfl (jv_H_at (jv_rwK hW 178 14 31 (by decide))) rfl rfl) rfl hF rfl rfl Kz) ?_
  refine jv_Wp.lift (fun _ Kz => jv_Ev.steps jv_i402 1 (pc' := 156) (l' := [(0, .ref 178), (1, .int (vl_I p))]) (st' := []) rfl Kz) ?_
  refine jv_Wp.of (jv_Ev.ret jv_i402 rfl rfl) ?_
  rw [hQ]
  exact ⟨_, _, rfl, hm, hn2, hf⟩
theorem vr_does50 {K : Nat → Option (Nat × Nat)} {I : Nat → Nat → Int32} {L : Nat → Nat → Int64} {R : Nat → Nat → Value} (hW : jv_rW K R) {S T : vm_S} (hsh : vm_sh S) (h : vm_r I L S) {f : vf_F} (D : vm_D I f) (hd : f.d < 11) (hs : f.s < 11) {g : Int} {p : Nat} (hp : p < 1024) (h0 : 0 ≤ g ∧ g ≤ 1024) (eT : S = T) (hk : f.kind = 5) (hcc : ¬ f.code = 133) (hn : f.n = 0) (hG : g = (p : Int) + 1 + f.o) {n sl : Nat} : ∃ I1 L1, jv_Ms 402 [.ref 178, .int (vl_I p)] (jv_H K I L R) n sl (none, jv_H K I1 L1 R, n, sl) ∧ vm_r I1 L1 T ∧ I1 178 30 = vl_I g.toNat ∧ vc_ff vr_Ep I L I1 L1 := by
  obtain ⟨Q, hQ⟩ : ∃ Q : jv_R → Prop, Q = fun X => ∃ I1 L1, X = (none, jv_H K I1 L1 R, n, sl) ∧ vm_r I1 L1 T ∧ I1 178 30 = vl_I g.toNat ∧ vc_ff vr_Ep I L I1 L1 := ⟨_, rfl⟩
  suffices hE : jv_Wp 402 0 [(0, .ref 178), (1, .int (vl_I p))] [] (jv_H K I L R) n sl Q by
    rw [hQ] at hE
    obtain ⟨X, hE, I1, L1, e, h'⟩ := hE
    subst e
    exact ⟨I1, L1, hE, h'⟩
  have hw : ¬ f.code = 24 := by have : f.kind = f.code % 8 := rfl; omega
  obtain ⟨IN, eN⟩ : ∃ IN, IN = jv_u I 178 30 ((vl_I p) + (1 : Int32)) := ⟨_, rfl⟩
  have nN : IN 178 30 = vl_I (p + 1) := by rw [eN, jv_u_self]; exact vl_I_add p 1
  have dN : ∀ j, j ≠ 30 → IN 178 j = I 178 j := fun j hj => by rw [eN]; exact jv_u_j _ _ _ _ hj
  have DN : vm_D IN f := vm_D_30 D dN
  have hN : vm_r IN L S := by rw [eN]; exact vm_r_nx h
  have fN : vc_ff vr_Ep I L IN L := by rw [eN]; exact vc_ff_u (Or.inr ⟨rfl, rfl⟩)
  obtain ⟨I2, L2, hF, hm, hn2, hf0⟩ := vr_jump50 (n := n) (sl := sl) (L := L) hW eT hN DN hd hs hp nN h0 hn hk hG
  have hf := vc_ff_trans fN hf0
  subst eN
  refine jv_Wp.lift (fun _ Kz => jv_Ev.steps jv_i402 2 (pc' := 2) (l' := [(0, .ref 178), (1, .int (vl_I p))]) (st' := [.ref 178, .ref 178]) rfl Kz) ?_
  refine jv_Wp.lift (fun _ Kz => jv_Ev.c jv_i402 (pc' := 5) (S' := [.int (0 : Int32), .ref 178]) jv_i390 [.ref 178] rfl rfl rfl rfl (jv_cal rfl (jv_H_at (jv_rwK hW 178 14 31 (by decide))) rfl rfl) rfl (by have z := vr_misWide (L := L) (n := n) (sl := sl) hW D; rw [show decide (f.code = 24) = false from decide_eq_false hw] at z; exact z) rfl rfl Kz) ?_
  refine jv_Wp.lift (fun _ Kz => jv_Ev.br jv_i402 (pc' := 14) (st' := [.ref 178]) rfl (by rfl) Kz) ?_
  refine jv_Wp.lift (fun _ Kz => jv_Ev.steps jv_i402 3 (pc' := 17) (l' := [(0, .ref 178), (1, .int (vl_I p))]) (st' := [.int ((vl_I p) + (1 : Int32)), .ref 178]) rfl Kz) ?_
  refine jv_Wp.lift (fun _ Kz => jv_Ev.m jv_i402 (pc' := 20) (st' := []) (G' := (jv_H K (jv_u I 178 30 ((vl_I p) + (1 : Int32))) L R)) rfl rfl (jv_m_putI (jv_rwK hW 178 14 31 (by decide)) rfl rfl rfl rfl) Kz) ?_
  refine jv_Wp.lift (fun _ Kz => jv_Ev.steps jv_i402 1 (pc' := 21) (l' := [(0, .ref 178), (1, .int (vl_I p))]) (st' := [.ref 178]) rfl Kz) ?_
  refine jv_Wp.lift (fun _ Kz => jv_Ev.c jv_i402 (pc' := 24) (S' := [.int (5 : Int32)]) jv_i385 [.ref 178] rfl rfl rfl rfl (jv_cal rfl (jv_H_at (jv_rwK hW 178 14 31 (by decide))) rfl rfl) rfl (by have z := vr_mkind (L := L) (n := n) (sl := sl) hW DN; rw [hk] at z; exact z) rfl rfl Kz) ?_
  refine jv_Wp.lift (fun _ Kz => jv_Ev.br jv_i402 (pc' := 79) (st' := []) rfl (by rfl) Kz) ?_
  refine jv_Wp.lift (fun _ Kz => jv_Ev.steps jv_i402 1 (pc' := 80) (l' := [(0, .ref 178), (1, .int (vl_I p))]) (st' := [.ref 178]) rfl Kz) ?_
  refine jv_Wp.lift (fun _ Kz => jv_Ev.m jv_i402 (pc' := 83) (st' := [.int (vl_I f.code)]) (G' := (jv_H K (jv_u I 178 30 ((vl_I p) + (1 : Int32))) L R)) rfl rfl (jv_m_getI (jv_rwK hW 178 14 31 (by decide)) rfl rfl ((jv_u_j _ _ _ _ (by decide)).trans (vm_d_c D))) Kz) ?_
  refine jv_Wp.lift (fun _ Kz => jv_Ev.steps jv_i402 1 (pc' := 86) (l' := [(0, .ref 178), (1, .int (vl_I p))]) (st' := [.int (133 : Int32), .int (vl_I f.code)]) rfl Kz) ?_
  refine jv_Wp.cnd jv_i402 (pt := 96) (pe := 89) (p := (¬ (vl_I f.code) = (133 : Int32))) (q := (¬ (vl_I f.code) = (133 : Int32))) rfl jv_bc_ne rfl rfl Iff.rfl (fun _ => ?_) (fun hz => absurd (fun z => hcc ((vl_I_inj (a := f.code) (b := 133) (by have := vr_dc D; omega) (by decide)).mp z)) hz)
  refine jv_Wp.lift (fun _ Kz => jv_Ev.steps jv_i402 2 (pc' := 98) (l' := [(0, .ref 178), (1, .int (vl_I p))]) (st' := [.int (vl_I p), .ref 178]) rfl Kz) ?_
  refine jv_Wp.lift (fun _ Kz => jv_Ev.c jv_i402 (pc' := 101) (S' := []) (G1 := (jv_H K I2 L2 R)) jv_i393 [.ref 178, .int (vl_I p)] rfl rfl rfl rfl (jv_cal rfl (jv_H_at (jv_rwK hW 178 14 31 (by decide))) rfl rfl) rfl hF rfl rfl Kz) ?_
  refine jv_Wp.lift (fun _ Kz => jv_Ev.steps jv_i402 1 (pc' := 156) (l' := [(0, .ref 178), (1, .int (vl_I p))]) (st' := []) rfl Kz) ?_
  refine jv_Wp.of (jv_Ev.ret jv_i402 rfl rfl) ?_
  rw [hQ]
  exact ⟨_, _, rfl, hm, hn2, hf⟩
theorem vr_doesC {K : Nat → Option (Nat × Nat)} {I : Nat → Nat → Int32} {L : Nat → Nat → Int64} {R : Nat → Nat → Value} (hW : jv_rW K R) {S T : vm_S} (hsh : vm_sh S) (h : vm_r I L S) {f : vf_F} (D : vm_D I f) (hd : f.d < 11) (hs : f.s < 11) {g : Int} {p : Nat} (hp : p < 1024) (h0 : 0 ≤ g ∧ g ≤ 1024) (hk : f.kind = 5) (hcc : f.code = 133) (hg : g = (p : Int) + 1) {n sl : Nat} {E : Nat → Nat → Prop} (hE : ∀ q f, vr_Ep q f → E q f) (hC0 : ∀ IN, vm_r IN L S → vm_D IN f → IN 178 30 = vl_I (p + 1) → (∀ q f, ¬ (q = 178 ∧ f = 30) → IN q f = I q f) → ∃ I1 L1, jv_Ms 401 [.ref 178] (jv_H K IN L R) n sl (none, jv_H K I1 L1 R, n, sl) ∧ vm_r I1 L1 T ∧ I1 178 30 = vl_I (p + 1) ∧ vc_ff E IN L I1 L1) : ∃ I1 L1, jv_Ms 402 [.ref 178, .int (vl_I p)] (jv_H K I L R) n sl (none, jv_H K I1 L1 R, n, sl) ∧ vm_r I1 L1 T ∧ I1 178 30 = vl_I g.toNat ∧ vc_ff E I L I1 L1 := by
  obtain ⟨Q, hQ⟩ : ∃ Q : jv_R → Prop, Q = fun X => ∃ I1 L1, X = (none, jv_H K I1 L1 R, n, sl) ∧ vm_r I1 L1 T ∧ I1 178 30 = vl_I g.toNat ∧ vc_ff E I L I1 L1 := ⟨_, rfl⟩
  suffices hE : jv_Wp 402 0 [(0, .ref 178), (1, .int (vl_I p))] [] (jv_H K I L R) n sl Q by
    rw [hQ] at hE
    obtain ⟨X, hE, I1, L1, e, h'⟩ := hE
    subst e
    exact ⟨I1, L1, hE, h'⟩
  have hw : ¬ f.code = 24 := by have : f.kind = f.code % 8 := rfl; omega
  obtain ⟨IN, eN⟩ : ∃ IN, IN = jv_u I 178 30 ((vl_I p) + (1 : Int32)) := ⟨_, rfl⟩
  have nN : IN 178 30 = vl_I (p + 1) := by rw [eN, jv_u_self]; exact vl_I_add p 1
  have dN : ∀ j, j ≠ 30 → IN 178 j = I 178 j := fun j hj => by rw [eN]; exact jv_u_j _ _ _ _ hj
  have DN : vm_D IN f := vm_D_30 D dN
  have hN : vm_r IN L S := by rw [eN]; exact vm_r_nx h
  have fN : vc_ff vr_Ep I L IN L := by rw [eN]; exact vc_ff_u (Or.inr ⟨rfl, rfl⟩)
  obtain ⟨I2, L2, hF, hm, hn3, hf0⟩ := hC0 IN hN DN nN (fun q f z => by rw [eN, jv_u_at, if_neg z])
  have hn2 : I2 178 30 = vl_I g.toNat := by rw [hn3]; congr 1; omega
  have hf := vc_ff_trans (vc_ff_le hE fN) hf0
  subst eN
  refine jv_Wp.lift (fun _ Kz => jv_Ev.steps jv_i402 2 (pc' := 2) (l' := [(0, .ref 178), (1, .int (vl_I p))]) (st' := [.ref 178, .ref 178]) rfl Kz) ?_
  refine jv_Wp.lift (fun _ Kz => jv_Ev.c jv_i402 (pc' := 5) (S' := [.int (0 : Int32), .ref 178]) jv_i390 [.ref 178] rfl rfl rfl rfl (jv_cal rfl (jv_H_at (jv_rwK hW 178 14 31 (by decide))) rfl rfl) rfl (by have z := vr_misWide (L := L) (n := n) (sl := sl) hW D; rw [show decide (f.code = 24) = false from decide_eq_false hw] at z; exact z) rfl rfl Kz) ?_
  refine jv_Wp.lift (fun _ Kz => jv_Ev.br jv_i402 (pc' := 14) (st' := [.ref 178]) rfl (by rfl) Kz) ?_
  refine jv_Wp.lift (fun _ Kz => jv_Ev.steps jv_i402 3 (pc' := 17) (l' := [(0, .ref 178), (1, .int (vl_I p))]) (st' := [.int ((vl_I p) + (1 : Int32)), .ref 178]) rfl Kz) ?_
  refine jv_Wp.lift (fun _ Kz => jv_Ev.m jv_i402 (pc' := 20) (st' := []) (G' := (jv_H K (jv_u I 178 30 ((vl_I p) + (1 : Int32))) L R)) rfl rfl (jv_m_putI (jv_rwK hW 178 14 31 (by decide)) rfl rfl rfl rfl) Kz) ?_
  refine jv_Wp.lift (fun _ Kz => jv_Ev.steps jv_i402 1 (pc' := 21) (l' := [(0, .ref 178), (1, .int (vl_I p))]) (st' := [.ref 178]) rfl Kz) ?_
  refine jv_Wp.lift (fun _ Kz => jv_Ev.c jv_i402 (pc' := 24) (S' := [.int (5 : Int32)]) jv_i385 [.ref 178] rfl rfl rfl rfl (jv_cal rfl (jv_H_at (jv_rwK hW 178 14 31 (by decide))) rfl rfl) rfl (by have z := vr_mkind (L := L) (n := n) (sl := sl) hW DN; rw [hk] at z; exact z) rfl rfl Kz) ?_
  refine jv_Wp.lift (fun _ Kz => jv_Ev.br jv_i402 (pc' := 79) (st' := []) rfl (by rfl) Kz) ?_
  refine jv_Wp.lift (fun _ Kz => jv_Ev.steps jv_i402 1 (pc' := 80) (l' := [(0, .ref 178), (1, .int (vl_I p))]) (st' := [.ref 178]) rfl Kz) ?_
  refine jv_Wp.lift (fun _ Kz => jv_Ev.m jv_i402 (pc' := 83) (st' := [.int (vl_I f.code)]) (G' := (jv_H K (jv_u I 178 30 ((vl_I p) + (1 : Int32))) L R)) rfl rfl (jv_m_getI (jv_rwK hW 178 14 31 (by decide)) rfl rfl ((jv_u_j _ _ _ _ (by decide)).trans (vm_d_c D))) Kz) ?_
  refine jv_Wp.lift (fun _ Kz => jv_Ev.steps jv_i402 1 (pc' := 86) (l' := [(0, .ref 178), (1, .int (vl_I p))]) (st' := [.int (133 : Int32), .int (vl_I f.code)]) rfl Kz) ?_
  refine jv_Wp.cnd jv_i402 (pt := 96) (pe := 89) (p := (¬ (vl_I f.code) = (133 : Int32))) (q := (¬ (vl_I f.code) = (133 : Int32))) rfl jv_bc_ne rfl rfl Iff.rfl (fun hz => absurd hz (fun z => z ((vl_I_inj (a := f.code) (b := 133) (by have := vr_dc D; omega) (by decide)).mpr hcc))) (fun _ => ?_)
  refine jv_Wp.lift (fun _ Kz => jv_Ev.steps jv_i402 1 (pc' := 90) (l' := [(0, .ref 178), (1, .int (vl_I p))]) (st' := [.ref 178]) rfl Kz) ?_
  refine jv_Wp.lift (fun _ Kz => jv_Ev.c jv_i402 (pc' := 93) (S' := []) (G1 := (jv_H K I2 L2 R)) jv_i401 [.ref 178] rfl rfl rfl rfl (jv_cal rfl (jv_H_at (jv_rwK hW 178 14 31 (by decide))) rfl rfl) rfl hF rfl rfl Kz) ?_
  refine jv_Wp.lift (fun _ Kz => jv_Ev.steps jv_i402 1 (pc' := 156) (l' := [(0, .ref 178), (1, .int (vl_I p))]) (st' := []) rfl Kz) ?_
  refine jv_Wp.of (jv_Ev.ret jv_i402 rfl rfl) ?_
  rw [hQ]
  exact ⟨_, _, rfl, hm, hn2, hf⟩
theorem vr_does6 {K : Nat → Option (Nat × Nat)} {I : Nat → Nat → Int32} {L : Nat → Nat → Int64} {R : Nat → Nat → Value} (hW : jv_rW K R) {S T : vm_S} (hsh : vm_sh S) (h : vm_r I L S) {f : vf_F} (D : vm_D I f) (hd : f.d < 11) (hs : f.s < 11) {g : Int} {p : Nat} (hp : p < 1024) (h0 : 0 ≤ g ∧ g ≤ 1024) (eT : S = T) (hk : f.kind = 6) (hcc : ¬ f.code = 133) (hn : f.n ≠ 0) (hl : vm_jump f p S = some g) {n sl : Nat} : ∃ I1 L1, jv_Ms 402 [.ref 178, .int (vl_I p)] (jv_H K I L R) n sl (none, jv_H K I1 L1 R, n, sl) ∧ vm_r I1 L1 T ∧ I1 178 30 = vl_I g.toNat ∧ vc_ff vr_Ep I L I1 L1 := by
  obtain ⟨Q, hQ⟩ : ∃ Q : jv_R → Prop, Q = fun X => ∃ I1 L1, X = (none, jv_H K I1 L1 R, n, sl) ∧ vm_r I1 L1 T ∧ I1 178 30 = vl_I g.toNat ∧ vc_ff vr_Ep I L I1 L1 := ⟨_, rfl⟩
  suffices hE : jv_Wp 402 0 [(0, .ref 178), (1, .int (vl_I p))] [] (jv_H K I L R) n sl Q by
    rw [hQ] at hE
    obtain ⟨X, hE, I1, L1, e, h'⟩ := hE
    subst e
    exact ⟨I1, L1, hE, h'⟩
  have hw : ¬ f.code = 24 := by have : f.kind = f.code % 8 := rfl; omega
  obtain ⟨IN, eN⟩ : ∃ IN, IN = jv_u I 178 30 ((vl_I p) + (1 : Int32)) := ⟨_, rfl⟩
  have nN : IN 178 30 = vl_I (p + 1) := by rw [eN, jv_u_self]; exact vl_I_add p 1
  have dN : ∀ j, j ≠ 30 → IN 178 j = I 178 j := fun j hj => by rw [eN]; exact jv_u_j _ _ _ _ hj
  have DN : vm_D IN f := vm_D_30 D dN
  have hN : vm_r IN L S := by rw [eN]; exact vm_r_nx h
  have fN : vc_ff vr_Ep I L IN L := by rw [eN]; exact vc_ff_u (Or.inr ⟨rfl, rfl⟩)
  have hJ0 : ∃ I1 L1, jv_Ms 393 [.ref 178, .int (vl_I p)] (jv_H K IN L R) n sl (none, jv_H K I1 L1 R, n, sl) ∧ vm_r I1 L1 T ∧ I1 178 30 = vl_I g.toNat ∧ vc_ff vr_Ep IN L I1 L1 := by
    cases hb3 : f.bit3 with
    | true => exact vr_jump6r hW eT hN DN hd hs hp nN h0 hn hk hb3 hl
    | false => exact vr_jump6i hW eT hN DN hd hs hp nN h0 hn hk hb3 hl
  obtain ⟨I2, L2, hF, hm, hn2, hf0⟩ := hJ0
  have hf := vc_ff_trans fN hf0
  subst eN
  refine jv_Wp.lift (fun _ Kz => jv_Ev.steps jv_i402 2 (pc' := 2) (l' := [(0, .ref 178), (1, .int (vl_I p))]) (st' := [.ref 178, .ref 178]) rfl Kz) ?_
  refine jv_Wp.lift (fun _ Kz => jv_Ev.c jv_i402 (pc' := 5) (S' := [.int (0 : Int32), .ref 178]) jv_i390 [.ref 178] rfl rfl rfl rfl (jv_cal rfl (jv_H_at (jv_rwK hW 178 14 31 (by decide))) rfl rfl) rfl (by have z := vr_misWide (L := L) (n := n) (sl := sl) hW D; rw [show decide (f.code = 24) = false from decide_eq_false hw] at z; exact z) rfl rfl Kz) ?_
  refine jv_Wp.lift (fun _ Kz => jv_Ev.br jv_i402 (pc' := 14) (st' := [.ref 178]) rfl (by rfl) Kz) ?_
  refine jv_Wp.lift (fun _ Kz => jv_Ev.steps jv_i402 3 (pc' := 17) (l' := [(0, .ref 178), (1, .int (vl_I p))]) (st' := [.int ((vl_I p) + (1 : Int32)), .ref 178]) rfl Kz) ?_
  refine jv_Wp.lift (fun _ Kz => jv_Ev.m jv_i402 (pc' := 20) (st' := []) (G' := (jv_H K (jv_u I 178 30 ((vl_I p) + (1 : Int32))) L R)) rfl rfl (jv_m_putI (jv_rwK hW 178 14 31 (by decide)) rfl rfl rfl rfl) Kz) ?_
  refine jv_Wp.lift (fun _ Kz => jv_Ev.steps jv_i402 1 (pc' := 21) (l' := [(0, .ref 178), (1, .int (vl_I p))]) (st' := [.ref 178]) rfl Kz) ?_
  refine jv_Wp.lift (fun _ Kz => jv_Ev.c jv_i402 (pc' := 24) (S' := [.int (6 : Int32)]) jv_i385 [.ref 178] rfl rfl rfl rfl (jv_cal rfl (jv_H_at (jv_rwK hW 178 14 31 (by decide))) rfl rfl) rfl (by have z := vr_mkind (L := L) (n := n) (sl := sl) hW DN; rw [hk] at z; exact z) rfl rfl Kz) ?_
  refine jv_Wp.lift (fun _ Kz => jv_Ev.br jv_i402 (pc' := 79) (st' := []) rfl (by rfl) Kz) ?_
  refine jv_Wp.lift (fun _ Kz => jv_Ev.steps jv_i402 1 (pc' := 80) (l' := [(0, .ref 178), (1, .int (vl_I p))]) (st' := [.ref 178]) rfl Kz) ?_
  refine jv_Wp.lift (fun _ Kz => jv_Ev.m jv_i402 (pc' := 83) (st' := [.int (vl_I f.code)]) (G' := (jv_H K (jv_u I 178 30 ((vl_I p) + (1 : Int32))) L R)) rfl rfl (jv_m_getI (jv_rwK hW 178 14 31 (by decide)) rfl rfl ((jv_u_j _ _ _ _ (by decide)).trans (vm_d_c D))) Kz) ?_
  refine jv_Wp.lift (fun _ Kz => jv_Ev.steps jv_i402 1 (pc' := 86) (l' := [(0, .ref 178), (1, .int (vl_I p))]) (st' := [.int (133 : Int32), .int (vl_I f.code)]) rfl Kz) ?_
  refine jv_Wp.cnd jv_i402 (pt := 96) (pe := 89) (p := (¬ (vl_I f.code) = (133 : Int32))) (q := (¬ (vl_I f.code) = (133 : Int32))) rfl jv_bc_ne rfl rfl Iff.rfl (fun _ => ?_) (fun hz => absurd (fun z => hcc ((vl_I_inj (a := f.code) (b := 133) (by have := vr_dc D; omega) (by decide)).mp z)) hz)
  refine jv_Wp.lift (fun _ Kz => jv_Ev.steps jv_i402 2 (pc' := 98) (l' := [(0, .ref 178), (1, .int (vl_I p))]) (st' := [.int (vl_I p), .ref 178]) rfl Kz) ?_
  refine jv_Wp.lift (fun _ Kz => jv_Ev.c jv_i402 (pc' := 101) (S' := []) (G1 := (jv_H K I2 L2 R)) jv_i393 [.ref 178, .int (vl_I p)] rfl rfl rfl rfl (jv_cal rfl (jv_H_at (jv_rwK hW 178 14 31 (by decide))) rfl rfl) rfl hF rfl rfl Kz) ?_
  refine jv_Wp.lift (fun _ Kz => jv_Ev.steps jv_i402 1 (pc' := 156) (l' := [(0, .ref 178), (1, .int (vl_I p))]) (st' := []) rfl Kz) ?_
  refine jv_Wp.of (jv_Ev.ret jv_i402 rfl rfl) ?_
  rw [hQ]
  exact ⟨_, _, rfl, hm, hn2, hf⟩
theorem vr_does60 {K : Nat → Option (Nat × Nat)} {I : Nat → Nat → Int32} {L : Nat → Nat → Int64} {R : Nat → Nat → Value} (hW : jv_rW K R) {S T : vm_S} (hsh : vm_sh S) (h : vm_r I L S) {f : vf_F} (D : vm_D I f) (hd : f.d < 11) (hs : f.s < 11) {g : Int} {p : Nat} (hp : p < 1024) (h0 : 0 ≤ g ∧ g ≤ 1024) (eT : S = T) (hk : f.kind = 6) (hcc : ¬ f.code = 133) (hn : f.n = 0) (hG : g = (p : Int) + 1 + f.i) {n sl : Nat} : ∃ I1 L1, jv_Ms 402 [.ref 178, .int (vl_I p)] (jv_H K I L R) n sl (none, jv_H K I1 L1 R, n, sl) ∧ vm_r I1 L1 T ∧ I1 178 30 = vl_I g.toNat ∧ vc_ff vr_Ep I L I1 L1 := by
  obtain ⟨Q, hQ⟩ : ∃ Q : jv_R → Prop, Q = fun X => ∃ I1 L1, X = (none, jv_H K I1 L1 R, n, sl) ∧ vm_r I1 L1 T ∧ I1 178 30 = vl_I g.toNat ∧ vc_ff vr_Ep I L I1 L1 := ⟨_, rfl⟩
  suffices hE : jv_Wp 402 0 [(0, .ref 178), (1, .int (vl_I p))] [] (jv_H K I L R) n sl Q by
    rw [hQ] at hE
    obtain ⟨X, hE, I1, L1, e, h'⟩ := hE
    subst e
    exact ⟨I1, L1, hE, h'⟩
  have hw : ¬ f.code = 24 := by have : f.kind = f.code % 8 := rfl; omega
  obtain ⟨IN, eN⟩ : ∃ IN, IN = jv_u I 178 30 ((vl_I p) + (1 : Int32)) := ⟨_, rfl⟩
  have nN : IN 178 30 = vl_I (p + 1) := by rw [eN, jv_u_self]; exact vl_I_add p 1
  have dN : ∀ j, j ≠ 30 → IN 178 j = I 178 j := fun j hj => by rw [eN]; exact jv_u_j _ _ _ _ hj
  have DN : vm_D IN f := vm_D_30 D dN
  have hN : vm_r IN L S := by rw [eN]; exact vm_r_nx h
  have fN : vc_ff vr_Ep I L IN L := by rw [eN]; exact vc_ff_u (Or.inr ⟨rfl, rfl⟩)
  obtain ⟨I2, L2, hF, hm, hn2, hf0⟩ := vr_jump60 (n := n) (sl := sl) (L := L) hW eT hN DN hd hs hp nN h0 hn hk hG
  have hf := vc_ff_trans fN hf0
  subst eN
  refine jv_Wp.lift (fun _ Kz => jv_Ev.steps jv_i402 2 (pc' := 2) (l' := [(0, .ref 178), (1, .int (vl_I p))]) (st' := [.ref 178, .ref 178]) rfl Kz) ?_
  refine jv_Wp.lift (fun _ Kz => jv_Ev.c jv_i402 (pc' := 5) (S' := [.int (0 : Int32), .ref 178]) jv_i390 [.ref 178] rfl rfl rfl rfl (jv_cal rfl (jv_H_at (jv_rwK hW 178 14 31 (by decide))) rfl rfl) rfl (by have z := vr_misWide (L := L) (n := n) (sl := sl) hW D; rw [show decide (f.code = 24) = false from decide_eq_false hw] at z; exact z) rfl rfl Kz) ?_
  refine jv_Wp.lift (fun _ Kz => jv_Ev.br jv_i402 (pc' := 14) (st' := [.ref 178]) rfl (by rfl) Kz) ?_
  refine jv_Wp.lift (fun _ Kz => jv_Ev.steps jv_i402 3 (pc' := 17) (l' := [(0, .ref 178), (1, .int (vl_I p))]) (st' := [.int ((vl_I p) + (1 : Int32)), .ref 178]) rfl Kz) ?_
  refine jv_Wp.lift (fun _ Kz => jv_Ev.m jv_i402 (pc' := 20) (st' := []) (G' := (jv_H K (jv_u I 178 30 ((vl_I p) + (1 : Int32))) L R)) rfl rfl (jv_m_putI (jv_rwK hW 178 14 31 (by decide)) rfl rfl rfl rfl) Kz) ?_
  refine jv_Wp.lift (fun _ Kz => jv_Ev.steps jv_i402 1 (pc' := 21) (l' := [(0, .ref 178), (1, .int (vl_I p))]) (st' := [.ref 178]) rfl Kz) ?_
  refine jv_Wp.lift (fun _ Kz => jv_Ev.c jv_i402 (pc' := 24) (S' := [.int (6 : Int32)]) jv_i385 [.ref 178] rfl rfl rfl rfl (jv_cal rfl (jv_H_at (jv_rwK hW 178 14 31 (by decide))) rfl rfl) rfl (by have z := vr_mkind (L := L) (n := n) (sl := sl) hW DN; rw [hk] at z; exact z) rfl rfl Kz) ?_
  refine jv_Wp.lift (fun _ Kz => jv_Ev.br jv_i402 (pc' := 79) (st' := []) rfl (by rfl) Kz) ?_
  refine jv_Wp.lift (fun _ Kz => jv_Ev.steps jv_i402 1 (pc' := 80) (l' := [(0, .ref 178), (1, .int (vl_I p))]) (st' := [.ref 178]) rfl Kz) ?_
  refine jv_Wp.lift (fun _ Kz => jv_Ev.m jv_i402 (pc' := 83) (st' := [.int (vl_I f.code)]) (G' := (jv_H K (jv_u I 178 30 ((vl_I p) + (1 : Int32))) L R)) rfl rfl (jv_m_getI (jv_rwK hW 178 14 31 (by decide)) rfl rfl ((jv_u_j _ _ _ _ (by decide)).trans (vm_d_c D))) Kz) ?_
  refine jv_Wp.lift (fun _ Kz => jv_Ev.steps jv_i402 1 (pc' := 86) (l' := [(0, .ref 178), (1, .int (vl_I p))]) (st' := [.int (133 : Int32), .int (vl_I f.code)]) rfl Kz) ?_
  refine jv_Wp.cnd jv_i402 (pt := 96) (pe := 89) (p := (¬ (vl_I f.code) = (133 : Int32))) (q := (¬ (vl_I f.code) = (133 : Int32))) rfl jv_bc_ne rfl rfl Iff.rfl (fun _ => ?_) (fun hz => absurd (fun z => hcc ((vl_I_inj (a := f.code) (b := 133) (by have := vr_dc D; omega) (by decide)).mp z)) hz)
  refine jv_Wp.lift (fun _ Kz => jv_Ev.steps jv_i402 2 (pc' := 98) (l' := [(0, .ref 178), (1, .int (vl_I p))]) (st' := [.int (vl_I p), .ref 178]) rfl Kz) ?_
  refine jv_Wp.lift (fun _ Kz => jv_Ev.c jv_i402 (pc' := 101) (S' := []) (G1 := (jv_H K I2 L2 R)) jv_i393 [.ref 178, .int (vl_I p)] rfl rfl rfl rfl (jv_cal rfl (jv_H_at (jv_rwK hW 178 14 31 (by decide))) rfl rfl) rfl hF rfl rfl Kz) ?_
  refine jv_Wp.lift (fun _ Kz => jv_Ev.steps jv_i402 1 (pc' := 156) (l' := [(0, .ref 178), (1, .int (vl_I p))]) (st' := []) rfl Kz) ?_
  refine jv_Wp.of (jv_Ev.ret jv_i402 rfl rfl) ?_
  rw [hQ]
  exact ⟨_, _, rfl, hm, hn2, hf⟩
theorem vr_does0 {K : Nat → Option (Nat × Nat)} {I : Nat → Nat → Int32} {L : Nat → Nat → Int64} {R : Nat → Nat → Value} (hW : jv_rW K R) {S : vm_S} (h : vm_r I L S) {f : vf_F} (D : vm_D I f) (hd : f.d < 11) (hs : f.s < 11) {g : Int} {p : Nat} (hp : p < 1024) (h0 : 0 ≤ g ∧ g ≤ 1024) (hk : f.kind = 0) (hc24 : f.code = 24) {gp N : Nat} {B : Nat → Nat} (hpg : vr_pg I gp N B) (hgp : gp < 8) (hNN : N ≤ 1024) (hb : I 178 24 = vl_I (8192 * gp)) (hp1 : p + 1 < N) {i2 : Int} (e2 : (vr_F B (p + 1)).i = i2) (hone : f.s = 1 → i2 = 0 ∧ 0 ≤ f.i) (hg : g = (p : Int) + 2) {n sl : Nat} : ∃ I1 L1, jv_Ms 402 [.ref 178, .int (vl_I p)] (jv_H K I L R) n sl (none, jv_H K I1 L1 R, n, sl) ∧ vm_r I1 L1 (vm_gv S f.d (vm_i (i2 * 4294967296 + f.i % 4294967296))) ∧ I1 178 30 = vl_I g.toNat ∧ vc_ff vr_Ep I L I1 L1 := by
  obtain ⟨Q, hQ⟩ : ∃ Q : jv_R → Prop, Q = fun X => ∃ I1 L1, X = (none, jv_H K I1 L1 R, n, sl) ∧ vm_r I1 L1 (vm_gv S f.d (vm_i (i2 * 4294967296 + f.i % 4294967296))) ∧ I1 178 30 = vl_I g.toNat ∧ vc_ff vr_Ep I L I1 L1 := ⟨_, rfl⟩
  suffices hE : jv_Wp 402 0 [(0, .ref 178), (1, .int (vl_I p))] [] (jv_H K I L R) n sl Q by
    rw [hQ] at hE
    obtain ⟨X, hE, I1, L1, e, h'⟩ := hE
    subst e
    exact ⟨I1, L1, hE, h'⟩
  have hw : f.code = 24 := hc24
  obtain ⟨IN, eN⟩ : ∃ IN, IN = jv_u I 178 30 ((vl_I p) + (2 : Int32)) := ⟨_, rfl⟩
  have nN : IN 178 30 = vl_I (p + 2) := by rw [eN, jv_u_self]; exact vl_I_add p 2
  have dN : ∀ j, j ≠ 30 → IN 178 j = I 178 j := fun j hj => by rw [eN]; exact jv_u_j _ _ _ _ hj
  have DN : vm_D IN f := vm_D_30 D dN
  have hN : vm_r IN L S := by rw [eN]; exact vm_r_nx h
  have fN : vc_ff vr_Ep I L IN L := by rw [eN]; exact vc_ff_u (Or.inr ⟨rfl, rfl⟩)
  have hpgN : vr_pg IN gp N B := fun j hj => by rw [eN, jv_u_o _ _ _ _ (show (216 : Nat) ≠ 178 by decide)]; exact hpg j hj
  have hI2 := vr_immediate (L := L) (R := R) (K := K) (n := n) (sl := sl) hW hpgN hgp hNN ((dN 24 (by decide)).trans hb) hp1
  rw [← vl_I_p1] at hI2
  have q0 := (hpg (8 * (p + 1) + 4) (by omega)).2
  have q1 := (hpg (8 * (p + 1) + 4 + 1) (by omega)).2
  have q2 := (hpg (8 * (p + 1) + 4 + 2) (by omega)).2
  have q3 := (hpg (8 * (p + 1) + 4 + 3) (by omega)).2
  have hi2 : (vl_I (vr_n4 B (8 * (p + 1) + 4))).toInt = i2 := (vi_long (by unfold vr_n4; omega)).trans e2
  subst eN
  refine jv_Wp.lift (fun _ Kz => jv_Ev.steps jv_i402 2 (pc' := 2) (l' := [(0, .ref 178), (1, .int (vl_I p))]) (st' := [.ref 178, .ref 178]) rfl Kz) ?_
  refine jv_Wp.lift (fun _ Kz => jv_Ev.c jv_i402 (pc' := 5) (S' := [.int (1 : Int32), .ref 178]) jv_i390 [.ref 178] rfl rfl rfl rfl (jv_cal rfl (jv_H_at (jv_rwK hW 178 14 31 (by decide))) rfl rfl) rfl (by have z := vr_misWide (L := L) (n := n) (sl := sl) hW D; rw [show decide (f.code = 24) = true from decide_eq_true hw] at z; exact z) rfl rfl Kz) ?_
  refine jv_Wp.lift (fun _ Kz => jv_Ev.br jv_i402 (pc' := 8) (st' := [.ref 178]) rfl (by rfl) Kz) ?_
  refine jv_Wp.lift (fun _ Kz => jv_Ev.steps jv_i402 4 (pc' := 17) (l' := [(0, .ref 178), (1, .int (vl_I p))]) (st' := [.int ((vl_I p) + (2 : Int32)), .ref 178]) rfl Kz) ?_
  refine jv_Wp.lift (fun _ Kz => jv_Ev.m jv_i402 (pc' := 20) (st' := []) (G' := (jv_H K (jv_u I 178 30 ((vl_I p) + (2 : Int32))) L R)) rfl rfl (jv_m_putI (jv_rwK hW 178 14 31 (by decide)) rfl rfl rfl rfl) Kz) ?_
  refine jv_Wp.lift (fun _ Kz => jv_Ev.steps jv_i402 1 (pc' := 21) (l' := [(0, .ref 178), (1, .int (vl_I p))]) (st' := [.ref 178]) rfl Kz) ?_
  refine jv_Wp.lift (fun _ Kz => jv_Ev.c jv_i402 (pc' := 24) (S' := [.int (0 : Int32)]) jv_i385 [.ref 178] rfl rfl rfl rfl (jv_cal rfl (jv_H_at (jv_rwK hW 178 14 31 (by decide))) rfl rfl) rfl (by have z := vr_mkind (L := L) (n := n) (sl := sl) hW DN; rw [hk] at z; exact z) rfl rfl Kz) ?_
  refine jv_Wp.lift (fun _ Kz => jv_Ev.br jv_i402 (pc' := 104) (st' := []) rfl (by rfl) Kz) ?_
  refine jv_Wp.lift (fun _ Kz => jv_Ev.steps jv_i402 2 (pc' := 106) (l' := [(0, .ref 178), (1, .int (vl_I p))]) (st' := [.ref 178, .ref 178]) rfl Kz) ?_
  refine jv_Wp.lift (fun _ Kz => jv_Ev.m jv_i402 (pc' := 109) (st' := [.int (vl_I f.d), .ref 178]) (G' := (jv_H K (jv_u I 178 30 ((vl_I p) + (2 : Int32))) L R)) rfl rfl (jv_m_getI (jv_rwK hW 178 14 31 (by decide)) rfl rfl ((jv_u_j _ _ _ _ (by decide)).trans (vm_d_d D))) Kz) ?_
  refine jv_Wp.lift (fun _ Kz => jv_Ev.steps jv_i402 1 (pc' := 110) (l' := [(0, .ref 178), (1, .int (vl_I p))]) (st' := [.ref 178, .int (vl_I f.d), .ref 178]) rfl Kz) ?_
  refine jv_Wp.lift (fun _ Kz => jv_Ev.m jv_i402 (pc' := 113) (st' := [.int (vl_I f.s), .int (vl_I f.d), .ref 178]) (G' := (jv_H K (jv_u I 178 30 ((vl_I p) + (2 : Int32))) L R)) rfl rfl (jv_m_getI (jv_rwK hW 178 14 31 (by decide)) rfl rfl ((jv_u_j _ _ _ _ (by decide)).trans (vm_d_s D))) Kz) ?_
  refine jv_Wp.lift (fun _ Kz => jv_Ev.steps jv_i402 1 (pc' := 114) (l' := [(0, .ref 178), (1, .int (vl_I p))]) (st' := [.int (1 : Int32), .int (vl_I f.s), .int (vl_I f.d), .ref 178]) rfl Kz) ?_
  refine jv_Wp.cnd jv_i402 (pt := 125) (pe := 117) (p := (¬ (vl_I f.s) = (1 : Int32))) (q := (¬ (vl_I f.s) = (1 : Int32))) rfl jv_bc_ne rfl rfl Iff.rfl (fun h1 => ?_) (fun h1 => ?_)
  · refine jv_Wp.lift (fun _ Kz => jv_Ev.steps jv_i402 4 (pc' := 129) (l' := [(0, .ref 178), (1, .int (vl_I p))]) (st' := [.int ((vl_I p) + (1 : Int32)), .ref 178, .int (vl_I f.d), .ref 178]) rfl Kz) ?_
    refine jv_Wp.lift (fun _ Kz => jv_Ev.c jv_i402 (pc' := 132) (S' := [.int (vl_I (vr_n4 B (8 * (p + 1) + 4))), .int (vl_I f.d), .ref 178]) jv_i384 [.ref 178, .int ((vl_I p) + (1 : Int32))] rfl rfl rfl rfl (jv_cal rfl (jv_H_at (jv_rwK hW 178 14 31 (by decide))) rfl rfl) rfl (hI2) rfl rfl Kz) ?_
    refine jv_Wp.lift (fun _ Kz => jv_Ev.steps jv_i402 4 (pc' := 137) (l' := [(0, .ref 178), (1, .int (vl_I p))]) (st' := [.ref 178, .long ((vl_I (vr_n4 B (8 * (p + 1) + 4))).toInt64 <<< ((32 : Int32).toInt64 &&& 63)), .int (vl_I f.d), .ref 178]) rfl Kz) ?_
    refine jv_Wp.lift (fun _ Kz => jv_Ev.m jv_i402 (pc' := 140) (st' := [.int (Int32.ofInt f.i), .long ((vl_I (vr_n4 B (8 * (p + 1) + 4))).toInt64 <<< ((32 : Int32).toInt64 &&& 63)), .int (vl_I f.d), .ref 178]) (G' := (jv_H K (jv_u I 178 30 ((vl_I p) + (2 : Int32))) L R)) rfl rfl (jv_m_getI (jv_rwK hW 178 14 31 (by decide)) rfl rfl ((jv_u_j _ _ _ _ (by decide)).trans (vm_d_i D))) Kz) ?_
    refine jv_Wp.lift (fun _ Kz => jv_Ev.steps jv_i402 4 (pc' := 146) (l' := [(0, .ref 178), (1, .int (vl_I p))]) (st' := [.long (((vl_I (vr_n4 B (8 * (p + 1) + 4))).toInt64 <<< ((32 : Int32).toInt64 &&& 63)) ||| ((Int32.ofInt f.i).toInt64 &&& (4294967295 : Int64))), .int (vl_I f.d), .ref 178]) rfl Kz) ?_
    refine jv_Wp.lift (fun _ Kz => jv_Ev.c jv_i402 (pc' := 149) (S' := []) (G1 := (jv_H K (jv_u (jv_u I 178 30 ((vl_I p) + (2 : Int32))) 221 f.d 1) (jv_u L 220 f.d (((vl_I (vr_n4 B (8 * (p + 1) + 4))).toInt64 <<< ((32 : Int32).toInt64 &&& 63)) ||| ((Int32.ofInt f.i).toInt64 &&& (4294967295 : Int64)))) R)) jv_i375 [.ref 178, .int (vl_I f.d), .long (((vl_I (vr_n4 B (8 * (p + 1) + 4))).toInt64 <<< ((32 : Int32).toInt64 &&& 63)) ||| ((Int32.ofInt f.i).toInt64 &&& (4294967295 : Int64)))] rfl rfl rfl rfl (jv_cal rfl (jv_H_at (jv_rwK hW 178 14 31 (by decide))) rfl rfl) rfl (vr_give (I := (jv_u I 178 30 ((vl_I p) + (2 : Int32)))) (L := L) (n := n) (sl := sl) (r := f.d) hW (by omega)) rfl rfl Kz) ?_
    refine jv_Wp.lift (fun _ Kz => jv_Ev.steps jv_i402 1 (pc' := 156) (l' := [(0, .ref 178), (1, .int (vl_I p))]) (st' := []) rfl Kz) ?_
    refine jv_Wp.of (jv_Ev.ret jv_i402 rfl rfl) ?_
    have ev : (((vl_I (vr_n4 B (8 * (p + 1) + 4))).toInt64 <<< ((32 : Int32).toInt64 &&& 63)) ||| ((Int32.ofInt f.i).toInt64 &&& (4294967295 : Int64))) = vm_i (i2 * 4294967296 + f.i % 4294967296) := vm_wideR hi2 (vr_dQ D)
    rw [hQ, ev]
    refine ⟨_, _, rfl, vm_r_gv hN, ?_, vc_ff_trans fN (vc_ff_le (fun _ _ z => Or.inl z) (vr_gv_ff (vc_ff_refl _ _ L)))⟩
    rw [jv_u_o _ _ _ _ (show (178 : Nat) ≠ 221 by decide), nN]
    congr 1
    omega
  · refine jv_Wp.lift (fun _ Kz => jv_Ev.steps jv_i402 1 (pc' := 118) (l' := [(0, .ref 178), (1, .int (vl_I p))]) (st' := [.ref 178, .int (vl_I f.d), .ref 178]) rfl Kz) ?_
    refine jv_Wp.lift (fun _ Kz => jv_Ev.m jv_i402 (pc' := 121) (st' := [.int (Int32.ofInt f.i), .int (vl_I f.d), .ref 178]) (G' := (jv_H K (jv_u I 178 30 ((vl_I p) + (2 : Int32))) L R)) rfl rfl (jv_m_getI (jv_rwK hW 178 14 31 (by decide)) rfl rfl ((jv_u_j _ _ _ _ (by decide)).trans (vm_d_i D))) Kz) ?_
    refine jv_Wp.lift (fun _ Kz => jv_Ev.steps jv_i402 2 (pc' := 146) (l' := [(0, .ref 178), (1, .int (vl_I p))]) (st' := [.long (Int32.ofInt f.i).toInt64, .int (vl_I f.d), .ref 178]) rfl Kz) ?_
    refine jv_Wp.lift (fun _ Kz => jv_Ev.c jv_i402 (pc' := 149) (S' := []) (G1 := (jv_H K (jv_u (jv_u I 178 30 ((vl_I p) + (2 : Int32))) 221 f.d 1) (jv_u L 220 f.d (Int32.ofInt f.i).toInt64) R)) jv_i375 [.ref 178, .int (vl_I f.d), .long (Int32.ofInt f.i).toInt64] rfl rfl rfl rfl (jv_cal rfl (jv_H_at (jv_rwK hW 178 14 31 (by decide))) rfl rfl) rfl (vr_give (I := (jv_u I 178 30 ((vl_I p) + (2 : Int32)))) (L := L) (n := n) (sl := sl) (r := f.d) hW (by omega)) rfl rfl Kz) ?_
    refine jv_Wp.lift (fun _ Kz => jv_Ev.steps jv_i402 1 (pc' := 156) (l' := [(0, .ref 178), (1, .int (vl_I p))]) (st' := []) rfl Kz) ?_
    refine jv_Wp.of (jv_Ev.ret jv_i402 rfl rfl) ?_
    have ev : (Int32.ofInt f.i).toInt64 = vm_i (i2 * 4294967296 + f.i % 4294967296) := by obtain ⟨y1, y2⟩ := hone ((vl_I_inj (a := f.s) (b := 1) (by omega) (by decide)).mp (Classical.not_not.mp h1)); rw [vm_io (vr_dQ D), y1]; congr 1; have t1 := (Int32.ofInt f.i).toInt_lt; rw [vr_dQ D] at t1; omega
    rw [hQ, ev]
    refine ⟨_, _, rfl, vm_r_gv hN, ?_, vc_ff_trans fN (vc_ff_le (fun _ _ z => Or.inl z) (vr_gv_ff (vc_ff_refl _ _ L)))⟩
    rw [jv_u_o _ _ _ _ (show (178 : Nat) ≠ 221 by decide), nN]
    congr 1
    omega