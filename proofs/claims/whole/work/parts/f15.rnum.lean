/-! part f15: words and numbers of the machine, of the reference (gen/tf15.py) -/
/-- the word that the machine is at: the reference's fields (as the checker's are at 196, from 19 on) -/
def vm_D (I : Nat → Nat → Int32) (f : vf_F) : Prop := vr_dec (fun _ j => I 178 (j + 6)) f
theorem vm_D_same {I I1 : Nat → Nat → Int32} {f : vf_F} (D : vm_D I f) (h : ∀ j, I1 178 j = I 178 j) : vm_D I1 f := by
  unfold vm_D vr_dec at *
  simp only [h]
  exact D
theorem vm_d_c {I : Nat → Nat → Int32} {f : vf_F} (D : vm_D I f) : I 178 25 = vl_I f.code := D.1
theorem vm_d_d {I : Nat → Nat → Int32} {f : vf_F} (D : vm_D I f) : I 178 26 = vl_I f.d := D.2.1
theorem vm_d_s {I : Nat → Nat → Int32} {f : vf_F} (D : vm_D I f) : I 178 27 = vl_I f.s := D.2.2.1
theorem vm_d_o {I : Nat → Nat → Int32} {f : vf_F} (D : vm_D I f) : I 178 28 = Int32.ofInt f.o := vr_dI D
theorem vm_d_i {I : Nat → Nat → Int32} {f : vf_F} (D : vm_D I f) : I 178 29 = Int32.ofInt f.i := vr_dJ D
theorem vb_t256 {t w : BitVec 64} (hw : w.toNat < 256) : 256#64 * t + w = (t <<< 8) ||| w := by
  have e : 256#64 * t = t <<< 8 := by
    rw [BitVec.mul_comm, show (256#64 : BitVec 64) = BitVec.twoPow 64 8 from by decide, BitVec.mul_twoPow_eq_shiftLeft]
  rw [e]
  refine BitVec.add_eq_or_of_and_eq_zero _ _ ?_
  refine BitVec.eq_of_getLsbD_eq (fun i hi => ?_)
  rw [BitVec.getLsbD_and, BitVec.getLsbD_shiftLeft]
  by_cases c : i < 8
  · rw [decide_eq_true c]; simp
  · have : w.getLsbD i = false := by
      rw [← BitVec.testBit_toNat]
      exact Nat.testBit_lt_two_pow (Nat.lt_of_lt_of_le hw (by show 2 ^ 8 ≤ 2 ^ i; exact Nat.pow_le_pow_right (by decide) (by omega)))
    rw [this]; simp
theorem jv_i385 : jv_I 385 1 (some .int) 0 0 jv_c385 := ⟨rfl, rfl, rfl, rfl, rfl⟩
theorem vr_mkind_0 {K : Nat → Option (Nat × Nat)} {I : Nat → Nat → Int32} {L : Nat → Nat → Int64} {R : Nat → Nat → Value} (hW : jv_rW K R) {f : vf_F} (D : vm_D I f) {n sl : Nat} {Q : jv_R → Prop} (hQ : Q (some (.int (vl_I f.kind)), jv_H K I L R, n, sl)) : jv_Wp 385 0 [(0, .ref 178)] [] (jv_H K I L R) n sl Q := by
  have cc := vr_dc D
  refine jv_Wp.lift (fun _ Kz => jv_Ev.steps jv_i385 1 (pc' := 1) (l' := [(0, .ref 178)]) (st' := [.ref 178]) rfl Kz) ?_
  refine jv_Wp.lift (fun _ Kz => jv_Ev.m jv_i385 (pc' := 4) (st' := [.int (vl_I f.code)]) (G' := (jv_H K I L R)) rfl rfl (jv_m_getI (jv_rwK hW 178 14 31 (by decide)) rfl rfl (vm_d_c D)) Kz) ?_
  refine jv_Wp.lift (fun _ Kz => jv_Ev.steps jv_i385 2 (pc' := 7) (l' := [(0, .ref 178)]) (st' := [.int ((vl_I f.code) &&& (7 : Int32))]) rfl Kz) ?_
  refine jv_Wp.of (jv_Ev.ret jv_i385 rfl rfl) ?_
  have ev : ((vl_I f.code) &&& (7 : Int32)) = (vl_I f.kind) := vi_and7 (vr_dc D)
  rw [← ev] at hQ
  exact hQ
theorem vr_mkind {K : Nat → Option (Nat × Nat)} {I : Nat → Nat → Int32} {L : Nat → Nat → Int64} {R : Nat → Nat → Value} (hW : jv_rW K R) {f : vf_F} (D : vm_D I f) {n sl : Nat} : jv_Ms 385 [.ref 178] (jv_H K I L R) n sl (some (.int (vl_I f.kind)), jv_H K I L R, n, sl) := by
  obtain ⟨X, k, e⟩ := vr_mkind_0 (n := n) (sl := sl) (I := I) (L := L) (Q := fun X => X = (some (.int (vl_I f.kind)), jv_H K I L R, n, sl)) hW D rfl
  subst e
  exact k
theorem jv_i386 : jv_I 386 1 (some .int) 0 0 jv_c386 := ⟨rfl, rfl, rfl, rfl, rfl⟩
theorem vr_mn_0 {K : Nat → Option (Nat × Nat)} {I : Nat → Nat → Int32} {L : Nat → Nat → Int64} {R : Nat → Nat → Value} (hW : jv_rW K R) {f : vf_F} (D : vm_D I f) {n sl : Nat} {Q : jv_R → Prop} (hQ : Q (some (.int (vl_I f.n)), jv_H K I L R, n, sl)) : jv_Wp 386 0 [(0, .ref 178)] [] (jv_H K I L R) n sl Q := by
  have cc := vr_dc D
  refine jv_Wp.lift (fun _ Kz => jv_Ev.steps jv_i386 1 (pc' := 1) (l' := [(0, .ref 178)]) (st' := [.ref 178]) rfl Kz) ?_
  refine jv_Wp.lift (fun _ Kz => jv_Ev.m jv_i386 (pc' := 4) (st' := [.int (vl_I f.code)]) (G' := (jv_H K I L R)) rfl rfl (jv_m_getI (jv_rwK hW 178 14 31 (by decide)) rfl rfl (vm_d_c D)) Kz) ?_
  refine jv_Wp.lift (fun _ Kz => jv_Ev.steps jv_i386 2 (pc' := 6) (l' := [(0, .ref 178)]) (st' := [.int ((vl_I f.code) >>> ((4 : Int32) &&& 31))]) rfl Kz) ?_
  refine jv_Wp.of (jv_Ev.ret jv_i386 rfl rfl) ?_
  have ev : ((vl_I f.code) >>> ((4 : Int32) &&& 31)) = (vl_I f.n) := vi_shr4 ⟨f.code, vr_dc D⟩
  rw [← ev] at hQ
  exact hQ
theorem vr_mn {K : Nat → Option (Nat × Nat)} {I : Nat → Nat → Int32} {L : Nat → Nat → Int64} {R : Nat → Nat → Value} (hW : jv_rW K R) {f : vf_F} (D : vm_D I f) {n sl : Nat} : jv_Ms 386 [.ref 178] (jv_H K I L R) n sl (some (.int (vl_I f.n)), jv_H K I L R, n, sl) := by
  obtain ⟨X, k, e⟩ := vr_mn_0 (n := n) (sl := sl) (I := I) (L := L) (Q := fun X => X = (some (.int (vl_I f.n)), jv_H K I L R, n, sl)) hW D rfl
  subst e
  exact k
theorem jv_i389 : jv_I 389 1 (some .int) 0 0 jv_c389 := ⟨rfl, rfl, rfl, rfl, rfl⟩
theorem vr_mmode_0 {K : Nat → Option (Nat × Nat)} {I : Nat → Nat → Int32} {L : Nat → Nat → Int64} {R : Nat → Nat → Value} (hW : jv_rW K R) {f : vf_F} (D : vm_D I f) {n sl : Nat} {Q : jv_R → Prop} (hQ : Q (some (.int (vl_I f.mode)), jv_H K I L R, n, sl)) : jv_Wp 389 0 [(0, .ref 178)] [] (jv_H K I L R) n sl Q := by
  have cc := vr_dc D
  refine jv_Wp.lift (fun _ Kz => jv_Ev.steps jv_i389 1 (pc' := 1) (l' := [(0, .ref 178)]) (st' := [.ref 178]) rfl Kz) ?_
  refine jv_Wp.lift (fun _ Kz => jv_Ev.m jv_i389 (pc' := 4) (st' := [.int (vl_I f.code)]) (G' := (jv_H K I L R)) rfl rfl (jv_m_getI (jv_rwK hW 178 14 31 (by decide)) rfl rfl (vm_d_c D)) Kz) ?_
  refine jv_Wp.lift (fun _ Kz => jv_Ev.steps jv_i389 2 (pc' := 6) (l' := [(0, .ref 178)]) (st' := [.int ((vl_I f.code) >>> ((5 : Int32) &&& 31))]) rfl Kz) ?_
  refine jv_Wp.of (jv_Ev.ret jv_i389 rfl rfl) ?_
  have ev : ((vl_I f.code) >>> ((5 : Int32) &&& 31)) = (vl_I f.mode) := vi_shr5 ⟨f.code, vr_dc D⟩
  rw [← ev] at hQ
  exact hQ
theorem vr_mmode {K : Nat → Option (Nat × Nat)} {I : Nat → Nat → Int32} {L : Nat → Nat → Int64} {R : Nat → Nat → Value} (hW : jv_rW K R) {f : vf_F} (D : vm_D I f) {n sl : Nat} : jv_Ms 389 [.ref 178] (jv_H K I L R) n sl (some (.int (vl_I f.mode)), jv_H K I L R, n, sl) := by
  obtain ⟨X, k, e⟩ := vr_mmode_0 (n := n) (sl := sl) (I := I) (L := L) (Q := fun X => X = (some (.int (vl_I f.mode)), jv_H K I L R, n, sl)) hW D rfl
  subst e
  exact k
theorem jv_i387 : jv_I 387 1 (some .boolean) 0 0 jv_c387 := ⟨rfl, rfl, rfl, rfl, rfl⟩
theorem vr_mbit3_0 {K : Nat → Option (Nat × Nat)} {I : Nat → Nat → Int32} {L : Nat → Nat → Int64} {R : Nat → Nat → Value} (hW : jv_rW K R) {f : vf_F} (D : vm_D I f) {n sl : Nat} {Q : jv_R → Prop} (hQ : Q (some (.int (vr_b f.bit3)), jv_H K I L R, n, sl)) : jv_Wp 387 0 [(0, .ref 178)] [] (jv_H K I L R) n sl Q := by
  have cc := vr_dc D
  refine jv_Wp.lift (fun _ Kz => jv_Ev.steps jv_i387 1 (pc' := 1) (l' := [(0, .ref 178)]) (st' := [.ref 178]) rfl Kz) ?_
  refine jv_Wp.lift (fun _ Kz => jv_Ev.m jv_i387 (pc' := 4) (st' := [.int (vl_I f.code)]) (G' := (jv_H K I L R)) rfl rfl (jv_m_getI (jv_rwK hW 178 14 31 (by decide)) rfl rfl (vm_d_c D)) Kz) ?_
  refine jv_Wp.lift (fun _ Kz => jv_Ev.steps jv_i387 5 (pc' := 9) (l' := [(0, .ref 178)]) (st' := [.int (1 : Int32), .int (((vl_I f.code) >>> ((3 : Int32) &&& 31)) &&& (1 : Int32))]) rfl Kz) ?_
  refine jv_Wp.cnd jv_i387 (pt := 16) (pe := 12) (p := (¬ (((vl_I f.code) >>> ((3 : Int32) &&& 31)) &&& (1 : Int32)) = (1 : Int32))) (q := (¬ (((vl_I f.code) >>> ((3 : Int32) &&& 31)) &&& (1 : Int32)) = (1 : Int32))) rfl jv_bc_ne rfl rfl Iff.rfl (fun h1 => ?_) (fun h1 => ?_)
  · refine jv_Wp.lift (fun _ Kz => jv_Ev.steps jv_i387 1 (pc' := 17) (l' := [(0, .ref 178)]) (st' := [.int (0 : Int32)]) rfl Kz) ?_
    refine jv_Wp.of (jv_Ev.ret jv_i387 rfl (jv_ret_b (Or.inl rfl))) ?_
    have ev : (0 : Int32) = (vr_b f.bit3) := by have z : f.bit3 = false := decide_eq_false (fun z => h1 ((vr_sm (v := 1) (by omega) (by decide) (vi_b3 (vr_dc D))).mpr z)); rw [z]; rfl
    rw [← ev] at hQ
    exact hQ
  · refine jv_Wp.lift (fun _ Kz => jv_Ev.steps jv_i387 2 (pc' := 17) (l' := [(0, .ref 178)]) (st' := [.int (1 : Int32)]) rfl Kz) ?_
    refine jv_Wp.of (jv_Ev.ret jv_i387 rfl (jv_ret_b (Or.inr rfl))) ?_
    have ev : (1 : Int32) = (vr_b f.bit3) := by have z : f.bit3 = true := decide_eq_true ((vr_sm (v := 1) (by omega) (by decide) (vi_b3 (vr_dc D))).mp (Classical.not_not.mp h1)); rw [z]; rfl
    rw [← ev] at hQ
    exact hQ
theorem vr_mbit3 {K : Nat → Option (Nat × Nat)} {I : Nat → Nat → Int32} {L : Nat → Nat → Int64} {R : Nat → Nat → Value} (hW : jv_rW K R) {f : vf_F} (D : vm_D I f) {n sl : Nat} : jv_Ms 387 [.ref 178] (jv_H K I L R) n sl (some (.int (vr_b f.bit3)), jv_H K I L R, n, sl) := by
  obtain ⟨X, k, e⟩ := vr_mbit3_0 (n := n) (sl := sl) (I := I) (L := L) (Q := fun X => X = (some (.int (vr_b f.bit3)), jv_H K I L R, n, sl)) hW D rfl
  subst e
  exact k
theorem jv_i388 : jv_I 388 2 (some .int) 0 0 jv_c388 := ⟨rfl, rfl, rfl, rfl, rfl⟩
theorem vr_mbytes_0 {K : Nat → Option (Nat × Nat)} {I : Nat → Nat → Int32} {L : Nat → Nat → Int64} {R : Nat → Nat → Value} (hW : jv_rW K R) {f : vf_F} (D : vm_D I f) {n sl : Nat} {Q : jv_R → Prop} (hQ : Q (some (.int (vl_I f.z)), jv_H K I L R, n, sl)) : jv_Wp 388 0 [(0, .ref 178)] [] (jv_H K I L R) n sl Q := by
  have cc := vr_dc D
  refine jv_Wp.lift (fun _ Kz => jv_Ev.steps jv_i388 1 (pc' := 1) (l' := [(0, .ref 178)]) (st' := [.ref 178]) rfl Kz) ?_
  refine jv_Wp.lift (fun _ Kz => jv_Ev.m jv_i388 (pc' := 4) (st' := [.int (vl_I f.code)]) (G' := (jv_H K I L R)) rfl rfl (jv_m_getI (jv_rwK hW 178 14 31 (by decide)) rfl rfl (vm_d_c D)) Kz) ?_
  refine jv_Wp.lift (fun _ Kz => jv_Ev.steps jv_i388 6 (pc' := 10) (l' := [(1, .int (((vl_I f.code) >>> ((3 : Int32) &&& 31)) &&& (3 : Int32))), (0, .ref 178)]) (st' := [.int (((vl_I f.code) >>> ((3 : Int32) &&& 31)) &&& (3 : Int32))]) rfl Kz) ?_
  refine jv_Wp.cnd jv_i388 (pt := 17) (pe := 13) (p := (¬ (((vl_I f.code) >>> ((3 : Int32) &&& 31)) &&& (3 : Int32)) = 0)) (q := (¬ (((vl_I f.code) >>> ((3 : Int32) &&& 31)) &&& (3 : Int32)) = 0)) rfl jv_bi_ne rfl rfl Iff.rfl (fun h1 => ?_) (fun h1 => ?_)
  · refine jv_Wp.lift (fun _ Kz => jv_Ev.steps jv_i388 2 (pc' := 19) (l' := [(1, .int (((vl_I f.code) >>> ((3 : Int32) &&& 31)) &&& (3 : Int32))), (0, .ref 178)]) (st' := [.int (1 : Int32), .int (((vl_I f.code) >>> ((3 : Int32) &&& 31)) &&& (3 : Int32))]) rfl Kz) ?_
    refine jv_Wp.cnd jv_i388 (pt := 26) (pe := 22) (p := (¬ (((vl_I f.code) >>> ((3 : Int32) &&& 31)) &&& (3 : Int32)) = (1 : Int32))) (q := (¬ (((vl_I f.code) >>> ((3 : Int32) &&& 31)) &&& (3 : Int32)) = (1 : Int32))) rfl jv_bc_ne rfl rfl Iff.rfl (fun h2 => ?_) (fun h2 => ?_)
    · refine jv_Wp.lift (fun _ Kz => jv_Ev.steps jv_i388 2 (pc' := 28) (l' := [(1, .int (((vl_I f.code) >>> ((3 : Int32) &&& 31)) &&& (3 : Int32))), (0, .ref 178)]) (st' := [.int (2 : Int32), .int (((vl_I f.code) >>> ((3 : Int32) &&& 31)) &&& (3 : Int32))]) rfl Kz) ?_
      refine jv_Wp.cnd jv_i388 (pt := 35) (pe := 31) (p := (¬ (((vl_I f.code) >>> ((3 : Int32) &&& 31)) &&& (3 : Int32)) = (2 : Int32))) (q := (¬ (((vl_I f.code) >>> ((3 : Int32) &&& 31)) &&& (3 : Int32)) = (2 : Int32))) rfl jv_bc_ne rfl rfl Iff.rfl (fun h3 => ?_) (fun h3 => ?_)
      · refine jv_Wp.lift (fun _ Kz => jv_Ev.steps jv_i388 1 (pc' := 37) (l' := [(1, .int (((vl_I f.code) >>> ((3 : Int32) &&& 31)) &&& (3 : Int32))), (0, .ref 178)]) (st' := [.int (8 : Int32)]) rfl Kz) ?_
        refine jv_Wp.of (jv_Ev.ret jv_i388 rfl rfl) ?_
        have ev : (8 : Int32) = (vl_I f.z) := by unfold vf_F.z; rw [if_neg (fun z => h1 ((vr_sm (v := 0) (by omega) (by decide) (vi_z3 (vr_dc D))).mpr z)), if_neg (fun z => h2 ((vr_sm (v := 1) (by omega) (by decide) (vi_z3 (vr_dc D))).mpr z)), if_neg (fun z => h3 ((vr_sm (v := 2) (by omega) (by decide) (vi_z3 (vr_dc D))).mpr z))]; rfl
        rw [← ev] at hQ
        exact hQ
      · refine jv_Wp.lift (fun _ Kz => jv_Ev.steps jv_i388 2 (pc' := 37) (l' := [(1, .int (((vl_I f.code) >>> ((3 : Int32) &&& 31)) &&& (3 : Int32))), (0, .ref 178)]) (st' := [.int (1 : Int32)]) rfl Kz) ?_
        refine jv_Wp.of (jv_Ev.ret jv_i388 rfl rfl) ?_
        have ev : (1 : Int32) = (vl_I f.z) := by unfold vf_F.z; rw [if_neg (fun z => h1 ((vr_sm (v := 0) (by omega) (by decide) (vi_z3 (vr_dc D))).mpr z)), if_neg (fun z => h2 ((vr_sm (v := 1) (by omega) (by decide) (vi_z3 (vr_dc D))).mpr z)), if_pos ((vr_sm (v := 2) (by omega) (by decide) (vi_z3 (vr_dc D))).mp (Classical.not_not.mp h3))]; rfl
        rw [← ev] at hQ
        exact hQ
    · refine jv_Wp.lift (fun _ Kz => jv_Ev.steps jv_i388 2 (pc' := 37) (l' := [(1, .int (((vl_I f.code) >>> ((3 : Int32) &&& 31)) &&& (3 : Int32))), (0, .ref 178)]) (st' := [.int (2 : Int32)]) rfl Kz) ?_
      refine jv_Wp.of (jv_Ev.ret jv_i388 rfl rfl) ?_
      have ev : (2 : Int32) = (vl_I f.z) := by unfold vf_F.z; rw [if_neg (fun z => h1 ((vr_sm (v := 0) (by omega) (by decide) (vi_z3 (vr_dc D))).mpr z)), if_pos ((vr_sm (v := 1) (by omega) (by decide) (vi_z3 (vr_dc D))).mp (Classical.not_not.mp h2))]; rfl
      rw [← ev] at hQ
      exact hQ
  · refine jv_Wp.lift (fun _ Kz => jv_Ev.steps jv_i388 2 (pc' := 37) (l' := [(1, .int (((vl_I f.code) >>> ((3 : Int32) &&& 31)) &&& (3 : Int32))), (0, .ref 178)]) (st' := [.int (4 : Int32)]) rfl Kz) ?_
    refine jv_Wp.of (jv_Ev.ret jv_i388 rfl rfl) ?_
    have ev : (4 : Int32) = (vl_I f.z) := by unfold vf_F.z; rw [if_pos ((vr_sm (v := 0) (by omega) (by decide) (vi_z3 (vr_dc D))).mp (Classical.not_not.mp h1))]; rfl
    rw [← ev] at hQ
    exact hQ
theorem vr_mbytes {K : Nat → Option (Nat × Nat)} {I : Nat → Nat → Int32} {L : Nat → Nat → Int64} {R : Nat → Nat → Value} (hW : jv_rW K R) {f : vf_F} (D : vm_D I f) {n sl : Nat} : jv_Ms 388 [.ref 178] (jv_H K I L R) n sl (some (.int (vl_I f.z)), jv_H K I L R, n, sl) := by
  obtain ⟨X, k, e⟩ := vr_mbytes_0 (n := n) (sl := sl) (I := I) (L := L) (Q := fun X => X = (some (.int (vl_I f.z)), jv_H K I L R, n, sl)) hW D rfl
  subst e
  exact k
theorem jv_i390 : jv_I 390 1 (some .boolean) 0 0 jv_c390 := ⟨rfl, rfl, rfl, rfl, rfl⟩
theorem vr_misWide_0 {K : Nat → Option (Nat × Nat)} {I : Nat → Nat → Int32} {L : Nat → Nat → Int64} {R : Nat → Nat → Value} (hW : jv_rW K R) {f : vf_F} (D : vm_D I f) {n sl : Nat} {Q : jv_R → Prop} (hQ : Q (some (.int (vr_b (decide (f.code = 24)))), jv_H K I L R, n, sl)) : jv_Wp 390 0 [(0, .ref 178)] [] (jv_H K I L R) n sl Q := by
  have cc := vr_dc D
  refine jv_Wp.lift (fun _ Kz => jv_Ev.steps jv_i390 1 (pc' := 1) (l' := [(0, .ref 178)]) (st' := [.ref 178]) rfl Kz) ?_
  refine jv_Wp.lift (fun _ Kz => jv_Ev.m jv_i390 (pc' := 4) (st' := [.int (vl_I f.code)]) (G' := (jv_H K I L R)) rfl rfl (jv_m_getI (jv_rwK hW 178 14 31 (by decide)) rfl rfl (vm_d_c D)) Kz) ?_
  refine jv_Wp.lift (fun _ Kz => jv_Ev.steps jv_i390 1 (pc' := 6) (l' := [(0, .ref 178)]) (st' := [.int (24 : Int32), .int (vl_I f.code)]) rfl Kz) ?_
  refine jv_Wp.cnd jv_i390 (pt := 13) (pe := 9) (p := (¬ (vl_I f.code) = (24 : Int32))) (q := (¬ (vl_I f.code) = (24 : Int32))) rfl jv_bc_ne rfl rfl Iff.rfl (fun h1 => ?_) (fun h1 => ?_)
  · refine jv_Wp.lift (fun _ Kz => jv_Ev.steps jv_i390 1 (pc' := 14) (l' := [(0, .ref 178)]) (st' := [.int (0 : Int32)]) rfl Kz) ?_
    refine jv_Wp.of (jv_Ev.ret jv_i390 rfl (jv_ret_b (Or.inl rfl))) ?_
    have ev : (0 : Int32) = (vr_b (decide (f.code = 24))) := by rw [decide_eq_false (fun z => h1 ((vr_sm (v := 24) (by omega) (by decide) rfl).mpr z))]; rfl
    rw [← ev] at hQ
    exact hQ
  · refine jv_Wp.lift (fun _ Kz => jv_Ev.steps jv_i390 2 (pc' := 14) (l' := [(0, .ref 178)]) (st' := [.int (1 : Int32)]) rfl Kz) ?_
    refine jv_Wp.of (jv_Ev.ret jv_i390 rfl (jv_ret_b (Or.inr rfl))) ?_
    have ev : (1 : Int32) = (vr_b (decide (f.code = 24))) := by rw [decide_eq_true ((vr_sm (v := 24) (by omega) (by decide) rfl).mp (Classical.not_not.mp h1))]; rfl
    rw [← ev] at hQ
    exact hQ
theorem vr_misWide {K : Nat → Option (Nat × Nat)} {I : Nat → Nat → Int32} {L : Nat → Nat → Int64} {R : Nat → Nat → Value} (hW : jv_rW K R) {f : vf_F} (D : vm_D I f) {n sl : Nat} : jv_Ms 390 [.ref 178] (jv_H K I L R) n sl (some (.int (vr_b (decide (f.code = 24)))), jv_H K I L R, n, sl) := by
  obtain ⟨X, k, e⟩ := vr_misWide_0 (n := n) (sl := sl) (I := I) (L := L) (Q := fun X => X = (some (.int (vr_b (decide (f.code = 24)))), jv_H K I L R, n, sl)) hW D rfl
  subst e
  exact k
theorem vm_neg {r : Int64} {x : Nat} (hr : r = vm_J x) (hx : x < 18446744073709551616) (h : ¬ (0 : Int64) ≤ r) : 9223372036854775808 ≤ x := by
  have e := vm_toNat r
  have k : r.toBitVec.toNat = x := by rw [hr]; exact vm_J_nat hx
  have h := (not_congr Int64.le_iff_toInt_le).mp h
  rw [show (0 : Int64).toInt = 0 from by decide] at h
  omega
theorem vm_nneg {r : Int64} {x : Nat} (hr : r = vm_J x) (hx : x < 18446744073709551616) (h : (0 : Int64) ≤ r) : x < 9223372036854775808 := by
  have e := vm_toNat r
  have k : r.toBitVec.toNat = x := by rw [hr]; exact vm_J_nat hx
  have h := Int64.le_iff_toInt_le.mp h
  rw [show (0 : Int64).toInt = 0 from by decide] at h
  omega
theorem vm_lessJ {b : Int64} {B T : Nat} (eB : b.toBitVec.toNat = B) (hT : T < 18446744073709551616) (h : ¬ (vm_J T).toBitVec < b.toBitVec) : B ≤ T := by
  rw [BitVec.lt_def, vm_J_nat hT, eB] at h; omega
theorem vm_lessJ2 {b : Int64} {B T : Nat} (eB : b.toBitVec.toNat = B) (hT : T < 18446744073709551616) (h : (vm_J T).toBitVec < b.toBitVec) : T < B := by
  rw [BitVec.lt_def, vm_J_nat hT, eB] at h; exact h
theorem vm_subJ {b : Int64} {B T : Nat} (eB : b.toBitVec.toNat = B) (ge : B ≤ T) (hT : T < B + 18446744073709551616) : vm_J T - b = vm_J (T - B) := by
  refine Int64.toBitVec_inj.mp (BitVec.eq_of_toNat_eq ?_)
  rw [Int64.toBitVec_sub, BitVec.toNat_sub, eB]
  have hb := b.toBitVec.isLt
  show (2 ^ 64 - B + T % 2 ^ 64) % 2 ^ 64 = (T - B) % 2 ^ 64
  omega
theorem vm_dblJ {q : Nat} : (2 : Int64) * vm_J q = vm_J (2 * q) := Int64.toBitVec_inj.mp (by rw [Int64.toBitVec_mul]; exact (BitVec.ofNat_mul 2 q).symm)
theorem vm_oneJ {q : Nat} : vm_J q + (1 : Int64) = vm_J (q + 1) := Int64.toBitVec_inj.mp (by rw [Int64.toBitVec_add]; exact (BitVec.ofNat_add q 1).symm)
theorem vm_shr1 {a : Int64} {i : Nat} (hi : i < 64) : (a >>> ((vl_I i).toInt64 &&& 63)) &&& (1 : Int64) = vm_J (a.toBitVec.toNat / 2 ^ i % 2) := by
  refine Int64.toBitVec_inj.mp ?_
  rw [Int64.toBitVec_and, vl_sshrI a hi]
  show _ &&& 1#64 = BitVec.ofNat 64 _
  refine BitVec.eq_of_getLsbD_eq (fun j hj => ?_)
  rw [BitVec.getLsbD_and, show (1#64 : BitVec 64).getLsbD j = decide (j = 0) from by simp [BitVec.getLsbD_one], BitVec.getLsbD_ofNat, decide_eq_true hj, Bool.true_and, BitVec.getLsbD_sshiftRight]
  by_cases c : j = 0
  · subst c
    rw [if_pos (by omega)]
    have t : (a.toBitVec.toNat / 2 ^ i % 2).testBit 0 = (a.toBitVec.toNat / 2 ^ i).testBit 0 := by rw [Nat.testBit_zero, Nat.testBit_zero, Nat.mod_mod]
    rw [t, Nat.testBit_div_two_pow, BitVec.testBit_toNat]; simp
  · rw [decide_eq_false c, Bool.and_false]
    exact (Nat.testBit_lt_two_pow (Nat.lt_of_lt_of_le (Nat.mod_lt _ (by decide)) (by show 2 ^ 1 ≤ 2 ^ j; exact Nat.pow_le_pow_right (by decide) (by omega)))).symm
theorem vm_trJ {x y : Nat} : ((2 : Int64) * vm_J x) + vm_J y = vm_J (2 * x + y) := by
  rw [vm_dblJ]; exact Int64.toBitVec_inj.mp (by rw [Int64.toBitVec_add]; exact (BitVec.ofNat_add (2 * x) y).symm)
theorem jv_i377 : jv_I 377 10 (some .long) 1 23 jv_c377 := ⟨rfl, rfl, rfl, rfl, rfl⟩
theorem vr_div_t {G : jv_G} {a b : Int64} {n sl : Nat} {Q : jv_R → Prop} (hb0 : ¬ b = (0 : Int64)) {B i : Nat} (eB : b.toBitVec.toNat = B) (hB : 0 < B) (hi : i < 64) {q r : Int64} (hq : q = vm_J (a.toBitVec.toNat / 2 ^ (i + 1) / B)) (hr : r = vm_J (a.toBitVec.toNat / 2 ^ (i + 1) % B)) (cont : jv_Wp 377 10 [(0, .long a), (2, .long b), (4, .long (vm_J (a.toBitVec.toNat / 2 ^ i / B))), (6, .long (vm_J (a.toBitVec.toNat / 2 ^ i % B))), (8, .int (vl_I i + Int32.ofInt (-1)))] [] G n sl Q) : jv_Wp 377 10 [(0, .long a), (2, .long b), (4, .long q), (6, .long r), (8, .int (vl_I i))] [] G n sl Q := by
  have hB64 : B < 18446744073709551616 := eB ▸ b.toBitVec.isLt
  have hrB := Nat.mod_lt (a.toBitVec.toNat / 2 ^ (i + 1)) hB
  have hA : a.toBitVec.toNat / 2 ^ i = 2 * (a.toBitVec.toNat / 2 ^ (i + 1)) + a.toBitVec.toNat / 2 ^ i % 2 := by
    rw [Nat.pow_succ, ← Nat.div_div_eq_div_mul]; omega
  have hd := Nat.div_add_mod (a.toBitVec.toNat / 2 ^ (i + 1)) B
  obtain ⟨T, hT⟩ : ∃ T, T = 2 * (a.toBitVec.toNat / 2 ^ (i + 1) % B) + a.toBitVec.toNat / 2 ^ i % 2 := ⟨_, rfl⟩
  have hbit : a.toBitVec.toNat / 2 ^ i % 2 < 2 := Nat.mod_lt _ (by decide)
  have eT : (((2 : Int64) * r) + ((a >>> ((vl_I i).toInt64 &&& 63)) &&& (1 : Int64))) = vm_J T := by rw [vm_shr1 hi, hr, vm_trJ, hT]
  have hT2 : T < B + 18446744073709551616 := by omega
  have hr64 : a.toBitVec.toNat / 2 ^ (i + 1) % B < 18446744073709551616 := by omega
  have hAT : a.toBitVec.toNat / 2 ^ i = B * (2 * (a.toBitVec.toNat / 2 ^ (i + 1) / B)) + T := by rw [Nat.mul_left_comm]; omega
  have c2 : T < B → jv_Wp 377 10 [(0, .long a), (2, .long b), (4, .long (vm_J (2 * (a.toBitVec.toNat / 2 ^ (i + 1) / B)))), (6, .long (vm_J T)), (8, .int (vl_I i + Int32.ofInt (-1)))] [] G n sl Q := fun lt => by
    rw [hAT, Nat.mul_add_div hB, Nat.mul_add_mod, Nat.div_eq_of_lt lt, Nat.mod_eq_of_lt lt, Nat.add_zero] at cont
    exact cont
  have c1 : B ≤ T → jv_Wp 377 10 [(0, .long a), (2, .long b), (4, .long (vm_J (2 * (a.toBitVec.toNat / 2 ^ (i + 1) / B) + 1))), (6, .long (vm_J (T - B))), (8, .int (vl_I i + Int32.ofInt (-1)))] [] G n sl Q := fun ge => by
    have e2 : B * (2 * (a.toBitVec.toNat / 2 ^ (i + 1) / B)) + T = B * (2 * (a.toBitVec.toNat / 2 ^ (i + 1) / B) + 1) + (T - B) := by rw [Nat.mul_add, Nat.mul_one]; omega
    rw [hAT, e2, Nat.mul_add_div hB, Nat.mul_add_mod, Nat.div_eq_of_lt (show T - B < B by omega), Nat.mod_eq_of_lt (show T - B < B by omega), Nat.add_zero] at cont
    exact cont
  refine jv_Wp.lift (fun _ Kz => jv_Ev.steps jv_i377 1 (pc' := 12) (l' := [(0, .long a), (2, .long b), (4, .long q), (6, .long r), (8, .int (vl_I i))]) (st' := [.int (vl_I i)]) rfl Kz) ?_
  refine jv_Wp.cnd jv_i377 (pt := 90) (pe := 15) (p := ((vl_I i) < 0)) (q := ((vl_I i) < 0)) rfl jv_bi_lt rfl rfl Iff.rfl (fun hz => absurd hz (vl_I_n0 (by omega))) (fun _ => ?_)
  refine jv_Wp.lift (fun _ Kz => jv_Ev.steps jv_i377 3 (pc' := 18) (l' := [(0, .long a), (2, .long b), (4, .long q), (6, .long r), (8, .int (vl_I i))]) (st' := [.int (lg_cmp b (0 : Int64))]) rfl Kz) ?_
  refine jv_Wp.cnd jv_i377 (pt := 90) (pe := 21) (p := ((lg_cmp b (0 : Int64)) = 0)) (q := (b = (0 : Int64))) rfl jv_bi_eq rfl rfl (lg_cmp_eq b (0 : Int64)) (fun hz => absurd hz hb0) (fun _ => ?_)
  refine jv_Wp.lift (fun _ Kz => jv_Ev.steps jv_i377 3 (pc' := 25) (l' := [(0, .long a), (2, .long b), (4, .long q), (6, .long r), (8, .int (vl_I i))]) (st' := [.int (lg_cmp r (0 : Int64))]) rfl Kz) ?_
  refine jv_Wp.cnd jv_i377 (pt := 32) (pe := 28) (p := (0 ≤ (lg_cmp r (0 : Int64)))) (q := ((0 : Int64) ≤ r)) rfl jv_bi_ge rfl rfl (lg_cmp_ge r (0 : Int64)) (fun h1 => ?_) (fun h1 => ?_)
  · refine jv_Wp.lift (fun _ Kz => jv_Ev.steps jv_i377 17 (pc' := 60) (l' := [(4, .long ((2 : Int64) * q)), (6, .long (((2 : Int64) * r) + ((a >>> ((vl_I i).toInt64 &&& 63)) &&& (1 : Int64)))), (9, .int (0 : Int32)), (0, .long a), (2, .long b), (8, .int (vl_I i))]) (st' := [.int (0 : Int32)]) rfl Kz) ?_
    refine jv_Wp.lift (fun _ Kz => jv_Ev.br jv_i377 (pc' := 63) (st' := []) rfl (by rfl) Kz) ?_
    refine jv_Wp.lift (fun _ Kz => jv_Ev.steps jv_i377 2 (pc' := 66) (l' := [(4, .long ((2 : Int64) * q)), (6, .long (((2 : Int64) * r) + ((a >>> ((vl_I i).toInt64 &&& 63)) &&& (1 : Int64)))), (9, .int (0 : Int32)), (0, .long a), (2, .long b), (8, .int (vl_I i))]) (st' := [.long b, .long (((2 : Int64) * r) + ((a >>> ((vl_I i).toInt64 &&& 63)) &&& (1 : Int64)))]) rfl Kz) ?_
    refine jv_Wp.lift (fun _ Kz => jv_Ev.c jv_i377 (pc' := 69) (S' := [.int (vr_b (decide ((((2 : Int64) * r) + ((a >>> ((vl_I i).toInt64 &&& 63)) &&& (1 : Int64))).toBitVec < b.toBitVec)))]) jv_i376 [.long (((2 : Int64) * r) + ((a >>> ((vl_I i).toInt64 &&& 63)) &&& (1 : Int64))), .long b] rfl rfl rfl rfl rfl rfl (vr_isLess (a := (((2 : Int64) * r) + ((a >>> ((vl_I i).toInt64 &&& 63)) &&& (1 : Int64)))) (b := b)) rfl rfl Kz) ?_
    refine jv_Wp.cnd jv_i377 (pt := 84) (pe := 72) (p := (¬ (vr_b (decide ((((2 : Int64) * r) + ((a >>> ((vl_I i).toInt64 &&& 63)) &&& (1 : Int64))).toBitVec < b.toBitVec))) = 0)) (q := (¬ (vr_b (decide ((((2 : Int64) * r) + ((a >>> ((vl_I i).toInt64 &&& 63)) &&& (1 : Int64))).toBitVec < b.toBitVec))) = 0)) rfl jv_bi_ne rfl rfl Iff.rfl (fun h2 => ?_) (fun h2 => ?_)
    · refine jv_Wp.lift (fun _ Kz => jv_Ev.steps jv_i377 2 (pc' := 10) (l' := [(8, .int ((vl_I i) + Int32.ofInt (-1))), (4, .long ((2 : Int64) * q)), (6, .long (((2 : Int64) * r) + ((a >>> ((vl_I i).toInt64 &&& 63)) &&& (1 : Int64)))), (9, .int (0 : Int32)), (0, .long a), (2, .long b)]) (st' := []) rfl Kz) ?_
      refine jv_Wp.loc (l := [(0, .long a), (2, .long b), (4, .long ((2 : Int64) * q)), (6, .long (((2 : Int64) * r) + ((a >>> ((vl_I i).toInt64 &&& 63)) &&& (1 : Int64)))), (8, .int ((vl_I i) + Int32.ofInt (-1)))]) ⟨List.forall_mem_cons.mpr ⟨.tail _ (.tail _ (.tail _ (.tail _ (.head _)))), List.forall_mem_cons.mpr ⟨.tail _ (.tail _ (.tail _ (.tail _ (.tail _ (.head _))))), List.forall_mem_cons.mpr ⟨.tail _ (.head _), List.forall_mem_cons.mpr ⟨.tail _ (.tail _ (.head _)), List.forall_mem_cons.mpr ⟨.head _, fun _ h => absurd h List.not_mem_nil⟩⟩⟩⟩⟩, by show List.Nodup [8, 4, 6, 9, 0, 2]; decide⟩ ?_
      have lt : T < B := by have z := of_decide_eq_true (vr_b_t h2); rw [eT] at z; have fr := vm_nneg hr hr64 h1; exact vm_lessJ2 eB (by omega) z
      rw [eT, hq, vm_dblJ]
      exact c2 lt
    · refine jv_Wp.lift (fun _ Kz => jv_Ev.steps jv_i377 10 (pc' := 10) (l' := [(8, .int ((vl_I i) + Int32.ofInt (-1))), (4, .long (((2 : Int64) * q) + (1 : Int64))), (6, .long ((((2 : Int64) * r) + ((a >>> ((vl_I i).toInt64 &&& 63)) &&& (1 : Int64))) - b)), (9, .int (0 : Int32)), (0, .long a), (2, .long b)]) (st' := []) rfl Kz) ?_
      refine jv_Wp.loc (l := [(0, .long a), (2, .long b), (4, .long (((2 : Int64) * q) + (1 : Int64))), (6, .long ((((2 : Int64) * r) + ((a >>> ((vl_I i).toInt64 &&& 63)) &&& (1 : Int64))) - b)), (8, .int ((vl_I i) + Int32.ofInt (-1)))]) ⟨List.forall_mem_cons.mpr ⟨.tail _ (.tail _ (.tail _ (.tail _ (.head _)))), List.forall_mem_cons.mpr ⟨.tail _ (.tail _ (.tail _ (.tail _ (.tail _ (.head _))))), List.forall_mem_cons.mpr ⟨.tail _ (.head _), List.forall_mem_cons.mpr ⟨.tail _ (.tail _ (.head _)), List.forall_mem_cons.mpr ⟨.head _, fun _ h => absurd h List.not_mem_nil⟩⟩⟩⟩⟩, by show List.Nodup [8, 4, 6, 9, 0, 2]; decide⟩ ?_
      have ge : B ≤ T := by have z := of_decide_eq_false (vr_b_f (Classical.not_not.mp h2)); rw [eT] at z; have fr := vm_nneg hr hr64 h1; exact vm_lessJ eB (by omega) z
      rw [eT, vm_subJ eB ge hT2, hq, vm_dblJ, vm_oneJ]
      exact c1 ge
  · refine jv_Wp.lift (fun _ Kz => jv_Ev.steps jv_i377 18 (pc' := 60) (l' := [(4, .long ((2 : Int64) * q)), (6, .long (((2 : Int64) * r) + ((a >>> ((vl_I i).toInt64 &&& 63)) &&& (1 : Int64)))), (9, .int (1 : Int32)), (0, .long a), (2, .long b), (8, .int (vl_I i))]) (st' := [.int (1 : Int32)]) rfl Kz) ?_
    refine jv_Wp.lift (fun _ Kz => jv_Ev.br jv_i377 (pc' := 72) (st' := []) rfl (by rfl) Kz) ?_
    refine jv_Wp.lift (fun _ Kz => jv_Ev.steps jv_i377 10 (pc' := 10) (l' := [(8, .int ((vl_I i) + Int32.ofInt (-1))), (4, .long (((2 : Int64) * q) + (1 : Int64))), (6, .long ((((2 : Int64) * r) + ((a >>> ((vl_I i).toInt64 &&& 63)) &&& (1 : Int64))) - b)), (9, .int (1 : Int32)), (0, .long a), (2, .long b)]) (st' := []) rfl Kz) ?_
    refine jv_Wp.loc (l := [(0, .long a), (2, .long b), (4, .long (((2 : Int64) * q) + (1 : Int64))), (6, .long ((((2 : Int64) * r) + ((a >>> ((vl_I i).toInt64 &&& 63)) &&& (1 : Int64))) - b)), (8, .int ((vl_I i) + Int32.ofInt (-1)))]) ⟨List.forall_mem_cons.mpr ⟨.tail _ (.tail _ (.tail _ (.tail _ (.head _)))), List.forall_mem_cons.mpr ⟨.tail _ (.tail _ (.tail _ (.tail _ (.tail _ (.head _))))), List.forall_mem_cons.mpr ⟨.tail _ (.head _), List.forall_mem_cons.mpr ⟨.tail _ (.tail _ (.head _)), List.forall_mem_cons.mpr ⟨.head _, fun _ h => absurd h List.not_mem_nil⟩⟩⟩⟩⟩, by show List.Nodup [8, 4, 6, 9, 0, 2]; decide⟩ ?_
    have ge : B ≤ T := by have fr := vm_neg hr hr64 h1; omega
    rw [eT, vm_subJ eB ge hT2, hq, vm_dblJ, vm_oneJ]
    exact c1 ge
theorem vr_div_e {G : jv_G} {a b : Int64} {n sl : Nat} {Q : jv_R → Prop} {q r : Int64} (hQ : Q (some (.long q), G, n, sl)) : jv_Wp 377 10 [(0, .long a), (2, .long b), (4, .long q), (6, .long r), (8, .int (-1 : Int32))] [] G n sl Q := by
  refine jv_Wp.lift (fun _ Kz => jv_Ev.steps jv_i377 1 (pc' := 12) (l' := [(0, .long a), (2, .long b), (4, .long q), (6, .long r), (8, .int (-1 : Int32))]) (st' := [.int (-1 : Int32)]) rfl Kz) ?_
  refine jv_Wp.lift (fun _ Kz => jv_Ev.br jv_i377 (pc' := 90) (st' := []) rfl (by rfl) Kz) ?_
  refine jv_Wp.lift (fun _ Kz => jv_Ev.steps jv_i377 1 (pc' := 92) (l' := [(0, .long a), (2, .long b), (4, .long q), (6, .long r), (8, .int (-1 : Int32))]) (st' := [.long q]) rfl Kz) ?_
  refine jv_Wp.of (jv_Ev.ret jv_i377 rfl rfl) ?_
  exact hQ
theorem vr_div_z {G : jv_G} {a b : Int64} {n sl : Nat} {Q : jv_R → Prop} (hb0 : b = (0 : Int64)) (hQ : Q (some (.long (0 : Int64)), G, n, sl)) : jv_Wp 377 0 [(0, .long a), (2, .long b)] [] G n sl Q := by
  refine jv_Wp.lift (fun _ Kz => jv_Ev.steps jv_i377 7 (pc' := 12) (l' := [(8, .int (63 : Int32)), (6, .long (0 : Int64)), (4, .long (0 : Int64)), (0, .long a), (2, .long b)]) (st' := [.int (63 : Int32)]) rfl Kz) ?_
  refine jv_Wp.lift (fun _ Kz => jv_Ev.br jv_i377 (pc' := 15) (st' := []) rfl (by rfl) Kz) ?_
  refine jv_Wp.lift (fun _ Kz => jv_Ev.steps jv_i377 3 (pc' := 18) (l' := [(8, .int (63 : Int32)), (6, .long (0 : Int64)), (4, .long (0 : Int64)), (0, .long a), (2, .long b)]) (st' := [.int (lg_cmp b (0 : Int64))]) rfl Kz) ?_
  refine jv_Wp.cnd jv_i377 (pt := 90) (pe := 21) (p := ((lg_cmp b (0 : Int64)) = 0)) (q := (b = (0 : Int64))) rfl jv_bi_eq rfl rfl (lg_cmp_eq b (0 : Int64)) (fun _ => ?_) (fun hz => absurd hb0 hz)
  refine jv_Wp.lift (fun _ Kz => jv_Ev.steps jv_i377 1 (pc' := 92) (l' := [(8, .int (63 : Int32)), (6, .long (0 : Int64)), (4, .long (0 : Int64)), (0, .long a), (2, .long b)]) (st' := [.long (0 : Int64)]) rfl Kz) ?_
  refine jv_Wp.of (jv_Ev.ret jv_i377 rfl rfl) ?_
  exact hQ
theorem vr_div_s {G : jv_G} {a b : Int64} {n sl : Nat} {Q : jv_R → Prop} (cont : jv_Wp 377 10 [(0, .long a), (2, .long b), (4, .long (0 : Int64)), (6, .long (0 : Int64)), (8, .int (63 : Int32))] [] G n sl Q) : jv_Wp 377 0 [(0, .long a), (2, .long b)] [] G n sl Q := by
  refine jv_Wp.lift (fun _ Kz => jv_Ev.steps jv_i377 6 (pc' := 10) (l' := [(8, .int (63 : Int32)), (6, .long (0 : Int64)), (4, .long (0 : Int64)), (0, .long a), (2, .long b)]) (st' := []) rfl Kz) ?_
  refine jv_Wp.loc (l := [(0, .long a), (2, .long b), (4, .long (0 : Int64)), (6, .long (0 : Int64)), (8, .int (63 : Int32))]) ⟨List.forall_mem_cons.mpr ⟨.tail _ (.tail _ (.tail _ (.head _))), List.forall_mem_cons.mpr ⟨.tail _ (.tail _ (.tail _ (.tail _ (.head _)))), List.forall_mem_cons.mpr ⟨.tail _ (.tail _ (.head _)), List.forall_mem_cons.mpr ⟨.tail _ (.head _), List.forall_mem_cons.mpr ⟨.head _, fun _ h => absurd h List.not_mem_nil⟩⟩⟩⟩⟩, by show List.Nodup [8, 6, 4, 0, 2]; decide⟩ ?_
  exact cont
theorem vr_div_l {G : jv_G} {a b : Int64} {n sl : Nat} {Q : jv_R → Prop} (hb0 : ¬ b = (0 : Int64)) {B : Nat} (eB : b.toBitVec.toNat = B) (hB : 0 < B) (hQ : Q (some (.long (vm_J (a.toBitVec.toNat / B))), G, n, sl)) : ∀ j, j ≤ 64 → jv_Wp 377 10 [(0, .long a), (2, .long b), (4, .long (vm_J (a.toBitVec.toNat / 2 ^ j / B))), (6, .long (vm_J (a.toBitVec.toNat / 2 ^ j % B))), (8, .int (vm_K j))] [] G n sl Q
  | 0, _ => by
    rw [Nat.pow_zero, Nat.div_one]
    exact vr_div_e hQ
  | j + 1, hj => by
    rw [vm_K_s]
    refine vr_div_t hb0 eB hB (by omega) rfl rfl ?_
    rw [vm_K_p]
    exact vr_div_l hb0 eB hB hQ j (by omega)
theorem vr_divided {G : jv_G} {a b : Int64} {n sl : Nat} : jv_Ms 377 [.long a, .long b] G n sl (some (.long (Int64.ofBitVec (a.toBitVec / b.toBitVec))), G, n, sl) := by
  suffices k : jv_Wp 377 0 [(0, .long a), (2, .long b)] [] G n sl (fun X => X = (some (.long (Int64.ofBitVec (a.toBitVec / b.toBitVec))), G, n, sl)) by
    obtain ⟨X, k, e⟩ := k
    subst e
    exact k
  by_cases hb0 : b = (0 : Int64)
  · refine vr_div_z hb0 ?_
    rw [show Int64.ofBitVec (a.toBitVec / b.toBitVec) = (0 : Int64) from by rw [hb0]; exact Int64.toBitVec_inj.mp (BitVec.udiv_zero)]
  · have hB : 0 < b.toBitVec.toNat := Nat.pos_of_ne_zero (fun z => hb0 (Int64.toBitVec_inj.mp (BitVec.eq_of_toNat_eq z)))
    have k := vr_div_l (a := a) (G := G) (n := n) (sl := sl) (Q := fun X => X = (some (.long (Int64.ofBitVec (a.toBitVec / b.toBitVec))), G, n, sl)) hb0 rfl hB (by
      rw [show vm_J (a.toBitVec.toNat / b.toBitVec.toNat) = Int64.ofBitVec (a.toBitVec / b.toBitVec) from Int64.toBitVec_inj.mp (BitVec.eq_of_toNat_eq (by
        show (a.toBitVec.toNat / b.toBitVec.toNat) % 2 ^ 64 = (a.toBitVec / b.toBitVec).toNat
        rw [BitVec.toNat_udiv]
        exact Nat.mod_eq_of_lt (Nat.lt_of_le_of_lt (Nat.div_le_self _ _) a.toBitVec.isLt)))]) 64 (Nat.le_refl 64)
    rw [Nat.div_eq_of_lt a.toBitVec.isLt, Nat.zero_div, Nat.zero_mod] at k
    exact vr_div_s k
theorem vm_msb_f {a : Int64} (h : (0 : Int64) ≤ a) : a.toBitVec.msb = false := by
  rw [BitVec.msb_eq_toInt]
  have h := Int64.le_iff_toInt_le.mp h
  rw [show (0 : Int64).toInt = 0 from by decide] at h
  exact decide_eq_false (Int.not_lt.mpr h)
theorem vm_msb_t {a : Int64} (h : ¬ (0 : Int64) ≤ a) : a.toBitVec.msb = true := by
  rw [BitVec.msb_eq_toInt]
  have h := (not_congr Int64.le_iff_toInt_le).mp h
  rw [show (0 : Int64).toInt = 0 from by decide] at h
  exact decide_eq_true (Int.not_le.mp h)
theorem jv_i378 : jv_I 378 9 (some .long) 2 52 jv_c378 := ⟨rfl, rfl, rfl, rfl, rfl⟩
theorem vr_quot0_0 {G : jv_G} {a b : Int64} {m sl : Nat} {Q : jv_R → Prop} (hQ : Q (some (.long (Int64.ofBitVec (a.toBitVec / b.toBitVec))), G, m, sl)) : jv_Wp 378 0 [(0, .long a), (2, .long b), (4, .int (0 : Int32))] [] G m sl Q := by
  refine jv_Wp.lift (fun _ Kz => jv_Ev.steps jv_i378 1 (pc' := 2) (l' := [(0, .long a), (2, .long b), (4, .int (0 : Int32))]) (st' := [.int (0 : Int32)]) rfl Kz) ?_
  refine jv_Wp.lift (fun _ Kz => jv_Ev.br jv_i378 (pc' := 15) (st' := []) rfl (by rfl) Kz) ?_
  refine jv_Wp.lift (fun _ Kz => jv_Ev.steps jv_i378 3 (pc' := 20) (l' := [(5, .int (0 : Int32)), (0, .long a), (2, .long b), (4, .int (0 : Int32))]) (st' := [.int (0 : Int32)]) rfl Kz) ?_
  refine jv_Wp.lift (fun _ Kz => jv_Ev.br jv_i378 (pc' := 33) (st' := []) rfl (by rfl) Kz) ?_
  refine jv_Wp.lift (fun _ Kz => jv_Ev.steps jv_i378 3 (pc' := 38) (l' := [(6, .int (0 : Int32)), (5, .int (0 : Int32)), (0, .long a), (2, .long b), (4, .int (0 : Int32))]) (st' := [.int (0 : Int32)]) rfl Kz) ?_
  refine jv_Wp.lift (fun _ Kz => jv_Ev.br jv_i378 (pc' := 46) (st' := []) rfl (by rfl) Kz) ?_
  refine jv_Wp.lift (fun _ Kz => jv_Ev.steps jv_i378 2 (pc' := 49) (l' := [(6, .int (0 : Int32)), (5, .int (0 : Int32)), (0, .long a), (2, .long b), (4, .int (0 : Int32))]) (st' := [.int (0 : Int32), .long a]) rfl Kz) ?_
  refine jv_Wp.lift (fun _ Kz => jv_Ev.br jv_i378 (pc' := 57) (st' := [.long a]) rfl (by rfl) Kz) ?_
  refine jv_Wp.lift (fun _ Kz => jv_Ev.steps jv_i378 1 (pc' := 58) (l' := [(6, .int (0 : Int32)), (5, .int (0 : Int32)), (0, .long a), (2, .long b), (4, .int (0 : Int32))]) (st' := [.long b, .long a]) rfl Kz) ?_
  refine jv_Wp.lift (fun _ Kz => jv_Ev.c jv_i378 (pc' := 61) (S' := [.long (Int64.ofBitVec ((a).toBitVec / (b).toBitVec))]) jv_i377 [.long a, .long b] rfl rfl rfl rfl rfl rfl (vr_divided (a := a) (b := b)) rfl rfl Kz) ?_
  refine jv_Wp.lift (fun _ Kz => jv_Ev.steps jv_i378 3 (pc' := 67) (l' := [(7, .long (Int64.ofBitVec ((a).toBitVec / (b).toBitVec))), (6, .int (0 : Int32)), (5, .int (0 : Int32)), (0, .long a), (2, .long b), (4, .int (0 : Int32))]) (st' := [.int (0 : Int32), .int (0 : Int32)]) rfl Kz) ?_
  refine jv_Wp.lift (fun _ Kz => jv_Ev.br jv_i378 (pc' := 76) (st' := []) rfl (by rfl) Kz) ?_
  refine jv_Wp.lift (fun _ Kz => jv_Ev.steps jv_i378 1 (pc' := 78) (l' := [(7, .long (Int64.ofBitVec ((a).toBitVec / (b).toBitVec))), (6, .int (0 : Int32)), (5, .int (0 : Int32)), (0, .long a), (2, .long b), (4, .int (0 : Int32))]) (st' := [.long (Int64.ofBitVec ((a).toBitVec / (b).toBitVec))]) rfl Kz) ?_
  refine jv_Wp.of (jv_Ev.ret jv_i378 rfl rfl) ?_
  exact hQ
theorem vr_quot0 {G : jv_G} {a b : Int64} {m sl : Nat} : jv_Ms 378 [.long a, .long b, .int (0 : Int32)] G m sl (some (.long (Int64.ofBitVec (a.toBitVec / b.toBitVec))), G, m, sl) := by
  obtain ⟨X, k, e⟩ := vr_quot0_0 (G := G) (m := m) (sl := sl) (Q := fun X => X = (some (.long (Int64.ofBitVec (a.toBitVec / b.toBitVec))), G, m, sl))  rfl
  subst e
  exact k
theorem vr_quot1_0 {G : jv_G} {a b : Int64} {m sl : Nat} {Q : jv_R → Prop} (hQ : Q (some (.long (Int64.ofBitVec (a.toBitVec.sdiv b.toBitVec))), G, m, sl)) : jv_Wp 378 0 [(0, .long a), (2, .long b), (4, .int (1 : Int32))] [] G m sl Q := by
  refine jv_Wp.lift (fun _ Kz => jv_Ev.steps jv_i378 1 (pc' := 2) (l' := [(0, .long a), (2, .long b), (4, .int (1 : Int32))]) (st' := [.int (1 : Int32)]) rfl Kz) ?_
  refine jv_Wp.lift (fun _ Kz => jv_Ev.br jv_i378 (pc' := 5) (st' := []) rfl (by rfl) Kz) ?_
  refine jv_Wp.lift (fun _ Kz => jv_Ev.steps jv_i378 3 (pc' := 8) (l' := [(0, .long a), (2, .long b), (4, .int (1 : Int32))]) (st' := [.int (lg_cmp a (0 : Int64))]) rfl Kz) ?_
  refine jv_Wp.cnd jv_i378 (pt := 15) (pe := 11) (p := (0 ≤ (lg_cmp a (0 : Int64)))) (q := ((0 : Int64) ≤ a)) rfl jv_bi_ge rfl rfl (lg_cmp_ge a (0 : Int64)) (fun h1 => ?_) (fun h1 => ?_)
  · refine jv_Wp.lift (fun _ Kz => jv_Ev.steps jv_i378 3 (pc' := 20) (l' := [(5, .int (0 : Int32)), (0, .long a), (2, .long b), (4, .int (1 : Int32))]) (st' := [.int (1 : Int32)]) rfl Kz) ?_
    refine jv_Wp.lift (fun _ Kz => jv_Ev.br jv_i378 (pc' := 23) (st' := []) rfl (by rfl) Kz) ?_
    refine jv_Wp.lift (fun _ Kz => jv_Ev.steps jv_i378 3 (pc' := 26) (l' := [(5, .int (0 : Int32)), (0, .long a), (2, .long b), (4, .int (1 : Int32))]) (st' := [.int (lg_cmp b (0 : Int64))]) rfl Kz) ?_
    refine jv_Wp.cnd jv_i378 (pt := 33) (pe := 29) (p := (0 ≤ (lg_cmp b (0 : Int64)))) (q := ((0 : Int64) ≤ b)) rfl jv_bi_ge rfl rfl (lg_cmp_ge b (0 : Int64)) (fun h2 => ?_) (fun h2 => ?_)
    · refine jv_Wp.lift (fun _ Kz => jv_Ev.steps jv_i378 3 (pc' := 38) (l' := [(6, .int (0 : Int32)), (5, .int (0 : Int32)), (0, .long a), (2, .long b), (4, .int (1 : Int32))]) (st' := [.int (0 : Int32)]) rfl Kz) ?_
      refine jv_Wp.lift (fun _ Kz => jv_Ev.br jv_i378 (pc' := 46) (st' := []) rfl (by rfl) Kz) ?_
      refine jv_Wp.lift (fun _ Kz => jv_Ev.steps jv_i378 2 (pc' := 49) (l' := [(6, .int (0 : Int32)), (5, .int (0 : Int32)), (0, .long a), (2, .long b), (4, .int (1 : Int32))]) (st' := [.int (0 : Int32), .long a]) rfl Kz) ?_
      refine jv_Wp.lift (fun _ Kz => jv_Ev.br jv_i378 (pc' := 57) (st' := [.long a]) rfl (by rfl) Kz) ?_
      refine jv_Wp.lift (fun _ Kz => jv_Ev.steps jv_i378 1 (pc' := 58) (l' := [(6, .int (0 : Int32)), (5, .int (0 : Int32)), (0, .long a), (2, .long b), (4, .int (1 : Int32))]) (st' := [.long b, .long a]) rfl Kz) ?_
      refine jv_Wp.lift (fun _ Kz => jv_Ev.c jv_i378 (pc' := 61) (S' := [.long (Int64.ofBitVec ((a).toBitVec / (b).toBitVec))]) jv_i377 [.long a, .long b] rfl rfl rfl rfl rfl rfl (vr_divided (a := a) (b := b)) rfl rfl Kz) ?_
      refine jv_Wp.lift (fun _ Kz => jv_Ev.steps jv_i378 3 (pc' := 67) (l' := [(7, .long (Int64.ofBitVec ((a).toBitVec / (b).toBitVec))), (6, .int (0 : Int32)), (5, .int (0 : Int32)), (0, .long a), (2, .long b), (4, .int (1 : Int32))]) (st' := [.int (0 : Int32), .int (0 : Int32)]) rfl Kz) ?_
      refine jv_Wp.lift (fun _ Kz => jv_Ev.br jv_i378 (pc' := 76) (st' := []) rfl (by rfl) Kz) ?_
      refine jv_Wp.lift (fun _ Kz => jv_Ev.steps jv_i378 1 (pc' := 78) (l' := [(7, .long (Int64.ofBitVec ((a).toBitVec / (b).toBitVec))), (6, .int (0 : Int32)), (5, .int (0 : Int32)), (0, .long a), (2, .long b), (4, .int (1 : Int32))]) (st' := [.long (Int64.ofBitVec ((a).toBitVec / (b).toBitVec))]) rfl Kz) ?_
      refine jv_Wp.of (jv_Ev.ret jv_i378 rfl rfl) ?_
      have ma : a.toBitVec.msb = false := vm_msb_f h1
      have mb : b.toBitVec.msb = false := vm_msb_f h2
      rw [show Int64.ofBitVec (a.toBitVec.sdiv b.toBitVec) = (Int64.ofBitVec ((a).toBitVec / (b).toBitVec)) from Int64.toBitVec_inj.mp (by show BitVec.sdiv _ _ = _; unfold BitVec.sdiv; rw [ma, mb]; first | rfl | (rw [Int64.toBitVec_neg]; first | rfl | (rw [Int64.toBitVec_neg]; rfl)))] at hQ
      exact hQ
    · refine jv_Wp.lift (fun _ Kz => jv_Ev.steps jv_i378 4 (pc' := 38) (l' := [(6, .int (1 : Int32)), (5, .int (0 : Int32)), (0, .long a), (2, .long b), (4, .int (1 : Int32))]) (st' := [.int (0 : Int32)]) rfl Kz) ?_
      refine jv_Wp.lift (fun _ Kz => jv_Ev.br jv_i378 (pc' := 46) (st' := []) rfl (by rfl) Kz) ?_
      refine jv_Wp.lift (fun _ Kz => jv_Ev.steps jv_i378 2 (pc' := 49) (l' := [(6, .int (1 : Int32)), (5, .int (0 : Int32)), (0, .long a), (2, .long b), (4, .int (1 : Int32))]) (st' := [.int (1 : Int32), .long a]) rfl Kz) ?_
      refine jv_Wp.lift (fun _ Kz => jv_Ev.br jv_i378 (pc' := 52) (st' := [.long a]) rfl (by rfl) Kz) ?_
      refine jv_Wp.lift (fun _ Kz => jv_Ev.steps jv_i378 3 (pc' := 58) (l' := [(6, .int (1 : Int32)), (5, .int (0 : Int32)), (0, .long a), (2, .long b), (4, .int (1 : Int32))]) (st' := [.long (-b), .long a]) rfl Kz) ?_
      refine jv_Wp.lift (fun _ Kz => jv_Ev.c jv_i378 (pc' := 61) (S' := [.long (Int64.ofBitVec ((a).toBitVec / ((-b)).toBitVec))]) jv_i377 [.long a, .long (-b)] rfl rfl rfl rfl rfl rfl (vr_divided (a := a) (b := (-b))) rfl rfl Kz) ?_
      refine jv_Wp.lift (fun _ Kz => jv_Ev.steps jv_i378 3 (pc' := 67) (l' := [(7, .long (Int64.ofBitVec ((a).toBitVec / ((-b)).toBitVec))), (6, .int (1 : Int32)), (5, .int (0 : Int32)), (0, .long a), (2, .long b), (4, .int (1 : Int32))]) (st' := [.int (1 : Int32), .int (0 : Int32)]) rfl Kz) ?_
      refine jv_Wp.lift (fun _ Kz => jv_Ev.br jv_i378 (pc' := 70) (st' := []) rfl (by rfl) Kz) ?_
      refine jv_Wp.lift (fun _ Kz => jv_Ev.steps jv_i378 3 (pc' := 78) (l' := [(7, .long (Int64.ofBitVec ((a).toBitVec / ((-b)).toBitVec))), (6, .int (1 : Int32)), (5, .int (0 : Int32)), (0, .long a), (2, .long b), (4, .int (1 : Int32))]) (st' := [.long (-(Int64.ofBitVec ((a).toBitVec / ((-b)).toBitVec)))]) rfl Kz) ?_
      refine jv_Wp.of (jv_Ev.ret jv_i378 rfl rfl) ?_
      have ma : a.toBitVec.msb = false := vm_msb_f h1
      have mb : b.toBitVec.msb = true := vm_msb_t h2
      rw [show Int64.ofBitVec (a.toBitVec.sdiv b.toBitVec) = (-(Int64.ofBitVec ((a).toBitVec / ((-b)).toBitVec))) from Int64.toBitVec_inj.mp (by show BitVec.sdiv _ _ = _; unfold BitVec.sdiv; rw [ma, mb]; first | rfl | (rw [Int64.toBitVec_neg]; first | rfl | (rw [Int64.toBitVec_neg]; rfl)))] at hQ
      exact hQ
  · refine jv_Wp.lift (fun _ Kz => jv_Ev.steps jv_i378 4 (pc' := 20) (l' := [(5, .int (1 : Int32)), (0, .long a), (2, .long b), (4, .int (1 : Int32))]) (st' := [.int (1 : Int32)]) rfl Kz) ?_
    refine jv_Wp.lift (fun _ Kz => jv_Ev.br jv_i378 (pc' := 23) (st' := []) rfl (by rfl) Kz) ?_
    refine jv_Wp.lift (fun _ Kz => jv_Ev.steps jv_i378 3 (pc' := 26) (l' := [(5, .int (1 : Int32)), (0, .long a), (2, .long b), (4, .int (1 : Int32))]) (st' := [.int (lg_cmp b (0 : Int64))]) rfl Kz) ?_
    refine jv_Wp.cnd jv_i378 (pt := 33) (pe := 29) (p := (0 ≤ (lg_cmp b (0 : Int64)))) (q := ((0 : Int64) ≤ b)) rfl jv_bi_ge rfl rfl (lg_cmp_ge b (0 : Int64)) (fun h3 => ?_) (fun h3 => ?_)
    · refine jv_Wp.lift (fun _ Kz => jv_Ev.steps jv_i378 3 (pc' := 38) (l' := [(6, .int (0 : Int32)), (5, .int (1 : Int32)), (0, .long a), (2, .long b), (4, .int (1 : Int32))]) (st' := [.int (1 : Int32)]) rfl Kz) ?_
      refine jv_Wp.lift (fun _ Kz => jv_Ev.br jv_i378 (pc' := 41) (st' := []) rfl (by rfl) Kz) ?_
      refine jv_Wp.lift (fun _ Kz => jv_Ev.steps jv_i378 4 (pc' := 49) (l' := [(6, .int (0 : Int32)), (5, .int (1 : Int32)), (0, .long a), (2, .long b), (4, .int (1 : Int32))]) (st' := [.int (0 : Int32), .long (-a)]) rfl Kz) ?_
      refine jv_Wp.lift (fun _ Kz => jv_Ev.br jv_i378 (pc' := 57) (st' := [.long (-a)]) rfl (by rfl) Kz) ?_
      refine jv_Wp.lift (fun _ Kz => jv_Ev.steps jv_i378 1 (pc' := 58) (l' := [(6, .int (0 : Int32)), (5, .int (1 : Int32)), (0, .long a), (2, .long b), (4, .int (1 : Int32))]) (st' := [.long b, .long (-a)]) rfl Kz) ?_
      refine jv_Wp.lift (fun _ Kz => jv_Ev.c jv_i378 (pc' := 61) (S' := [.long (Int64.ofBitVec (((-a)).toBitVec / (b).toBitVec))]) jv_i377 [.long (-a), .long b] rfl rfl rfl rfl rfl rfl (vr_divided (a := (-a)) (b := b)) rfl rfl Kz) ?_
      refine jv_Wp.lift (fun _ Kz => jv_Ev.steps jv_i378 3 (pc' := 67) (l' := [(7, .long (Int64.ofBitVec (((-a)).toBitVec / (b).toBitVec))), (6, .int (0 : Int32)), (5, .int (1 : Int32)), (0, .long a), (2, .long b), (4, .int (1 : Int32))]) (st' := [.int (0 : Int32), .int (1 : Int32)]) rfl Kz) ?_
      refine jv_Wp.lift (fun _ Kz => jv_Ev.br jv_i378 (pc' := 70) (st' := []) rfl (by rfl) Kz) ?_
      refine jv_Wp.lift (fun _ Kz => jv_Ev.steps jv_i378 3 (pc' := 78) (l' := [(7, .long (Int64.ofBitVec (((-a)).toBitVec / (b).toBitVec))), (6, .int (0 : Int32)), (5, .int (1 : Int32)), (0, .long a), (2, .long b), (4, .int (1 : Int32))]) (st' := [.long (-(Int64.ofBitVec (((-a)).toBitVec / (b).toBitVec)))]) rfl Kz) ?_
      refine jv_Wp.of (jv_Ev.ret jv_i378 rfl rfl) ?_
      have ma : a.toBitVec.msb = true := vm_msb_t h1
      have mb : b.toBitVec.msb = false := vm_msb_f h3
      rw [show Int64.ofBitVec (a.toBitVec.sdiv b.toBitVec) = (-(Int64.ofBitVec (((-a)).toBitVec / (b).toBitVec))) from Int64.toBitVec_inj.mp (by show BitVec.sdiv _ _ = _; unfold BitVec.sdiv; rw [ma, mb]; first | rfl | (rw [Int64.toBitVec_neg]; first | rfl | (rw [Int64.toBitVec_neg]; rfl)))] at hQ
      exact hQ
    · refine jv_Wp.lift (fun _ Kz => jv_Ev.steps jv_i378 4 (pc' := 38) (l' := [(6, .int (1 : Int32)), (5, .int (1 : Int32)), (0, .long a), (2, .long b), (4, .int (1 : Int32))]) (st' := [.int (1 : Int32)]) rfl Kz) ?_
      refine jv_Wp.lift (fun _ Kz => jv_Ev.br jv_i378 (pc' := 41) (st' := []) rfl (by rfl) Kz) ?_
      refine jv_Wp.lift (fun _ Kz => jv_Ev.steps jv_i378 4 (pc' := 49) (l' := [(6, .int (1 : Int32)), (5, .int (1 : Int32)), (0, .long a), (2, .long b), (4, .int (1 : Int32))]) (st' := [.int (1 : Int32), .long (-a)]) rfl Kz) ?_
      refine jv_Wp.lift (fun _ Kz => jv_Ev.br jv_i378 (pc' := 52) (st' := [.long (-a)]) rfl (by rfl) Kz) ?_
      refine jv_Wp.lift (fun _ Kz => jv_Ev.steps jv_i378 3 (pc' := 58) (l' := [(6, .int (1 : Int32)), (5, .int (1 : Int32)), (0, .long a), (2, .long b), (4, .int (1 : Int32))]) (st' := [.long (-b), .long (-a)]) rfl Kz) ?_
      refine jv_Wp.lift (fun _ Kz => jv_Ev.c jv_i378 (pc' := 61) (S' := [.long (Int64.ofBitVec (((-a)).toBitVec / ((-b)).toBitVec))]) jv_i377 [.long (-a), .long (-b)] rfl rfl rfl rfl rfl rfl (vr_divided (a := (-a)) (b := (-b))) rfl rfl Kz) ?_
      refine jv_Wp.lift (fun _ Kz => jv_Ev.steps jv_i378 3 (pc' := 67) (l' := [(7, .long (Int64.ofBitVec (((-a)).toBitVec / ((-b)).toBitVec))), (6, .int (1 : Int32)), (5, .int (1 : Int32)), (0, .long a), (2, .long b), (4, .int (1 : Int32))]) (st' := [.int (1 : Int32), .int (1 : Int32)]) rfl Kz) ?_
      refine jv_Wp.lift (fun _ Kz => jv_Ev.br jv_i378 (pc' := 76) (st' := []) rfl (by rfl) Kz) ?_
      refine jv_Wp.lift (fun _ Kz => jv_Ev.steps jv_i378 1 (pc' := 78) (l' := [(7, .long (Int64.ofBitVec (((-a)).toBitVec / ((-b)).toBitVec))), (6, .int (1 : Int32)), (5, .int (1 : Int32)), (0, .long a), (2, .long b), (4, .int (1 : Int32))]) (st' := [.long (Int64.ofBitVec (((-a)).toBitVec / ((-b)).toBitVec))]) rfl Kz) ?_
      refine jv_Wp.of (jv_Ev.ret jv_i378 rfl rfl) ?_
      have ma : a.toBitVec.msb = true := vm_msb_t h1
      have mb : b.toBitVec.msb = true := vm_msb_t h3
      rw [show Int64.ofBitVec (a.toBitVec.sdiv b.toBitVec) = (Int64.ofBitVec (((-a)).toBitVec / ((-b)).toBitVec)) from Int64.toBitVec_inj.mp (by show BitVec.sdiv _ _ = _; unfold BitVec.sdiv; rw [ma, mb]; first | rfl | (rw [Int64.toBitVec_neg]; first | rfl | (rw [Int64.toBitVec_neg]; rfl)))] at hQ
      exact hQ
theorem vr_quot1 {G : jv_G} {a b : Int64} {m sl : Nat} : jv_Ms 378 [.long a, .long b, .int (1 : Int32)] G m sl (some (.long (Int64.ofBitVec (a.toBitVec.sdiv b.toBitVec))), G, m, sl) := by
  obtain ⟨X, k, e⟩ := vr_quot1_0 (G := G) (m := m) (sl := sl) (Q := fun X => X = (some (.long (Int64.ofBitVec (a.toBitVec.sdiv b.toBitVec))), G, m, sl))  rfl
  subst e
  exact k
theorem vm_trn {v : Int64} {j k : Nat} (hk : k = 8 * j ∧ k < 64) : ((256 : Int64) * Int64.ofBitVec (vb_turnedL v.toBitVec j)) + (((v.toUInt64 >>> ((vl_I k).toInt64.toUInt64 &&& Int64.toUInt64 63)).toInt64) &&& (255 : Int64)) = Int64.ofBitVec (vb_turnedL v.toBitVec (j + 1)) := by
  refine Int64.toBitVec_inj.mp ?_
  rw [Int64.toBitVec_add, Int64.toBitVec_mul, Int64.toBitVec_and, vl_ushrI v hk.2, hk.1]
  show 256#64 * vb_turnedL v.toBitVec j + (v.toBitVec >>> (8 * j) &&& 255#64) = vb_turnedL v.toBitVec j <<< 8 ||| (v.toBitVec >>> (8 * j) &&& 255)
  refine vb_t256 ?_
  rw [BitVec.toNat_and]
  exact Nat.lt_of_le_of_lt Nat.and_le_right (by decide)
theorem jv_i379 : jv_I 379 6 (some .long) 0 0 jv_c379 := ⟨rfl, rfl, rfl, rfl, rfl⟩
theorem vr_turned_t {G : jv_G} {v : Int64} {nb : Nat} (hnb : nb ≤ 64) {n sl : Nat} {Q : jv_R → Prop} {j k : Nat} (hk : k = 8 * j ∧ k < 64) (hkn : k < nb) {t : Int64} (ht : t = Int64.ofBitVec (vb_turnedL v.toBitVec j)) (cont : jv_Wp 379 5 [(0, .long v), (2, .int (vl_I nb)), (3, .long (Int64.ofBitVec (vb_turnedL v.toBitVec (j + 1)))), (5, .int (vl_I (8 * (j + 1))))] [] G n sl Q) : jv_Wp 379 5 [(0, .long v), (2, .int (vl_I nb)), (3, .long t), (5, .int (vl_I k))] [] G n sl Q := by
  refine jv_Wp.lift (fun _ Kz => jv_Ev.steps jv_i379 2 (pc' := 8) (l' := [(0, .long v), (2, .int (vl_I nb)), (3, .long t), (5, .int (vl_I k))]) (st' := [.int (vl_I nb), .int (vl_I k)]) rfl Kz) ?_
  refine jv_Wp.cnd jv_i379 (pt := 36) (pe := 11) (p := ((vl_I nb) ≤ (vl_I k))) (q := ((vl_I nb) ≤ (vl_I k))) rfl jv_bc_ge rfl rfl Iff.rfl (fun hz => absurd hz (fun z => absurd ((vl_I_le (by omega) (by omega)).mp z) (by omega))) (fun _ => ?_)
  refine jv_Wp.lift (fun _ Kz => jv_Ev.steps jv_i379 15 (pc' := 5) (l' := [(5, .int ((vl_I k) + (8 : Int32))), (3, .long (((256 : Int64) * t) + (((v.toUInt64 >>> ((vl_I k).toInt64.toUInt64 &&& Int64.toUInt64 63)).toInt64) &&& (255 : Int64)))), (0, .long v), (2, .int (vl_I nb))]) (st' := []) rfl Kz) ?_
  refine jv_Wp.loc (l := [(0, .long v), (2, .int (vl_I nb)), (3, .long (((256 : Int64) * t) + (((v.toUInt64 >>> ((vl_I k).toInt64.toUInt64 &&& Int64.toUInt64 63)).toInt64) &&& (255 : Int64)))), (5, .int ((vl_I k) + (8 : Int32)))]) ⟨List.forall_mem_cons.mpr ⟨.tail _ (.tail _ (.head _)), List.forall_mem_cons.mpr ⟨.tail _ (.tail _ (.tail _ (.head _))), List.forall_mem_cons.mpr ⟨.tail _ (.head _), List.forall_mem_cons.mpr ⟨.head _, fun _ h => absurd h List.not_mem_nil⟩⟩⟩⟩, by show List.Nodup [5, 3, 0, 2]; decide⟩ ?_
  rw [ht, vm_trn hk, show vl_I k + (8 : Int32) = vl_I (8 * (j + 1)) from (vl_I_add k 8).trans (congrArg vl_I (by omega))]
  exact cont
theorem vr_turned_e {G : jv_G} {v : Int64} {nb : Nat} (hnb : nb ≤ 64) {n sl : Nat} {Q : jv_R → Prop} {t : Int64} (hQ : Q (some (.long t), G, n, sl)) : jv_Wp 379 5 [(0, .long v), (2, .int (vl_I nb)), (3, .long t), (5, .int (vl_I nb))] [] G n sl Q := by
  refine jv_Wp.lift (fun _ Kz => jv_Ev.steps jv_i379 2 (pc' := 8) (l' := [(0, .long v), (2, .int (vl_I nb)), (3, .long t), (5, .int (vl_I nb))]) (st' := [.int (vl_I nb), .int (vl_I nb)]) rfl Kz) ?_
  refine jv_Wp.cnd jv_i379 (pt := 36) (pe := 11) (p := ((vl_I nb) ≤ (vl_I nb))) (q := ((vl_I nb) ≤ (vl_I nb))) rfl jv_bc_ge rfl rfl Iff.rfl (fun _ => ?_) (fun hz => absurd ((vl_I_le (by omega) (by omega)).mpr (Nat.le_refl nb)) hz)
  refine jv_Wp.lift (fun _ Kz => jv_Ev.steps jv_i379 1 (pc' := 37) (l' := [(0, .long v), (2, .int (vl_I nb)), (3, .long t), (5, .int (vl_I nb))]) (st' := [.long t]) rfl Kz) ?_
  refine jv_Wp.of (jv_Ev.ret jv_i379 rfl rfl) ?_
  exact hQ
theorem vr_turned_l {G : jv_G} {v : Int64} {nb : Nat} (hnb : nb ≤ 64) {n sl : Nat} {Q : jv_R → Prop} {m : Nat} (hm : nb = 8 * m) (hQ : Q (some (.long (Int64.ofBitVec (vb_turnedL v.toBitVec m))), G, n, sl)) : ∀ d j, j + d = m → jv_Wp 379 5 [(0, .long v), (2, .int (vl_I nb)), (3, .long (Int64.ofBitVec (vb_turnedL v.toBitVec j))), (5, .int (vl_I (8 * j)))] [] G n sl Q
  | 0, j, e => by
    have e : j = m := e
    subst e
    rw [← hm]; exact vr_turned_e hnb hQ
  | d + 1, j, e => vr_turned_t hnb (k := 8 * j) ⟨rfl, by omega⟩ (by omega) rfl (vr_turned_l hnb hm hQ d (j + 1) (by omega))
theorem vr_turned_0 {G : jv_G} {v : Int64} {nb : Nat} (hnb : nb ≤ 64) {n sl : Nat} {Q : jv_R → Prop} (cont : jv_Wp 379 5 [(0, .long v), (2, .int (vl_I nb)), (3, .long (0 : Int64)), (5, .int (0 : Int32))] [] G n sl Q) : jv_Wp 379 0 [(0, .long v), (2, .int (vl_I nb))] [] G n sl Q := by
  refine jv_Wp.lift (fun _ Kz => jv_Ev.steps jv_i379 4 (pc' := 5) (l' := [(5, .int (0 : Int32)), (3, .long (0 : Int64)), (0, .long v), (2, .int (vl_I nb))]) (st' := []) rfl Kz) ?_
  refine jv_Wp.loc (l := [(0, .long v), (2, .int (vl_I nb)), (3, .long (0 : Int64)), (5, .int (0 : Int32))]) ⟨List.forall_mem_cons.mpr ⟨.tail _ (.tail _ (.head _)), List.forall_mem_cons.mpr ⟨.tail _ (.tail _ (.tail _ (.head _))), List.forall_mem_cons.mpr ⟨.tail _ (.head _), List.forall_mem_cons.mpr ⟨.head _, fun _ h => absurd h List.not_mem_nil⟩⟩⟩⟩, by show List.Nodup [5, 3, 0, 2]; decide⟩ ?_
  exact cont
theorem vr_turned {G : jv_G} {v : Int64} {nb : Nat} (hnb : nb = 16 ∨ nb = 32 ∨ nb = 64) {n sl : Nat} : jv_Ms 379 [.long v, .int (vl_I nb)] G n sl (some (.long (Int64.ofBitVec (vb_turned v.toBitVec nb))), G, n, sl) := by
  have k := vr_turned_l (v := v) (G := G) (n := n) (sl := sl) (Q := fun X => X = (some (.long (Int64.ofBitVec (vb_turned v.toBitVec nb))), G, n, sl)) (nb := nb) (m := nb / 8) (by omega) (by omega) rfl (nb / 8) 0 (by omega)
  obtain ⟨X, k, e⟩ := vr_turned_0 (by omega) k
  subst e
  exact k
theorem vb_bit_ge {c : BitVec 64} {n : Nat} (h0 : 0 < n) (hc : c.toNat < 2 ^ n) (hn : n ≤ 32) : c.getLsbD (n - 1) = decide (2 ^ (n - 1) ≤ c.toNat) := by
  obtain ⟨m, rfl⟩ : ∃ m, n = m + 1 := ⟨n - 1, by omega⟩
  rw [← BitVec.testBit_toNat]
  show c.toNat.testBit m = decide (2 ^ m ≤ c.toNat)
  by_cases g : 2 ^ m ≤ c.toNat
  · rw [decide_eq_true g]
    have hp : 2 ^ (m + 1) = 2 ^ m * 2 := Nat.pow_succ 2 m
    have d : c.toNat / 2 ^ m = 1 := Nat.div_eq_of_lt_le (by omega) (by omega)
    rw [Nat.testBit_eq_decide_div_mod_eq, d]; rfl
  · rw [decide_eq_false g]; exact Nat.testBit_lt_two_pow (by omega)
theorem vm_sgn_c {v m : Int64} {n : Nat} (hm : m.toBitVec = vb_lowest n) (hn : n ≤ 32) : (v &&& m).toBitVec = v.toBitVec &&& vb_lowest n ∧ (v.toBitVec &&& vb_lowest n).toNat < 2 ^ n ∧ (v &&& m).toInt = ((v.toBitVec &&& vb_lowest n).toNat : Int) := by
  have e : (v &&& m).toBitVec = v.toBitVec &&& vb_lowest n := by rw [Int64.toBitVec_and, hm]
  have el : (vb_lowest n).toNat = 2 ^ n - 1 := by
    unfold vb_lowest; rw [if_neg (by omega)]
    have p : 2 ^ n < 2 ^ 64 := Nat.pow_lt_pow_right (by decide) (by omega)
    have q : 0 < 2 ^ n := Nat.two_pow_pos n
    rw [BitVec.toNat_sub, BitVec.toNat_twoPow, Nat.mod_eq_of_lt p]
    show (2 ^ 64 - 1 + 2 ^ n) % 2 ^ 64 = 2 ^ n - 1
    omega
  have b : (v.toBitVec &&& vb_lowest n).toNat < 2 ^ n := by
    rw [BitVec.toNat_and, el, Nat.and_two_pow_sub_one_eq_mod]; exact Nat.mod_lt _ (Nat.two_pow_pos n)
  have p : 2 ^ n ≤ 2 ^ 32 := Nat.pow_le_pow_right (by decide) hn
  refine ⟨e, b, ?_⟩
  have t := vm_toNat (v &&& m)
  rw [e] at t
  omega
theorem vm_sgn_f {v m h : Int64} {n : Nat} (hn : n ≤ 32) (h0 : 0 < n) (hm : m.toBitVec = vb_lowest n) (hh : h.toInt = 2 ^ (n - 1)) (lt : (v &&& m) < h) : Int64.ofBitVec (vm_sx v.toBitVec n) = (v &&& m) := by
  obtain ⟨e, b, t⟩ := vm_sgn_c (v := v) hm hn
  have lt := Int64.lt_iff_toInt_lt.mp lt
  rw [t, hh] at lt
  refine Int64.toBitVec_inj.mp ?_
  show vm_sx v.toBitVec n = _
  unfold vm_sx vb_sext
  rw [if_neg (by omega), vb_bit_ge h0 b hn, decide_eq_false (by intro z; have z : ((2 ^ (n - 1) : Nat) : Int) ≤ _ := Int.ofNat_le.mpr z; push_cast at z; omega), if_neg (by decide), e]
theorem vm_sgn_t {v m h k : Int64} {n : Nat} (hn : n ≤ 32) (h0 : 0 < n) (hm : m.toBitVec = vb_lowest n) (hh : h.toInt = 2 ^ (n - 1)) (hk : k.toBitVec = BitVec.twoPow 64 n) (ge : ¬ (v &&& m) < h) : Int64.ofBitVec (vm_sx v.toBitVec n) = (v &&& m) - k := by
  obtain ⟨e, b, t⟩ := vm_sgn_c (v := v) hm hn
  have ge := Int.not_lt.mp ((not_congr Int64.lt_iff_toInt_lt).mp ge)
  rw [t, hh] at ge
  refine Int64.toBitVec_inj.mp ?_
  show vm_sx v.toBitVec n = _
  unfold vm_sx vb_sext
  rw [if_neg (by omega), vb_bit_ge h0 b hn, decide_eq_true (Int.ofNat_le.mp (by push_cast; exact ge)), if_pos rfl, Int64.toBitVec_sub, e, hk]
  have nl : ~~~vb_lowest n = -(BitVec.twoPow 64 n) := by
    rw [BitVec.neg_eq_not_add]
    have : vb_lowest n = BitVec.twoPow 64 n - 1 := by unfold vb_lowest; rw [if_neg (by omega)]
    rw [this]
    refine BitVec.eq_of_toNat_eq ?_
    have q := (BitVec.twoPow 64 n).isLt
    rw [BitVec.toNat_not, BitVec.toNat_add, BitVec.toNat_not, BitVec.toNat_sub]
    show 2 ^ 64 - 1 - (2 ^ 64 - 1 + _) % 2 ^ 64 = (2 ^ 64 - 1 - _ + 1) % 2 ^ 64
    have p : (BitVec.twoPow 64 n).toNat = 2 ^ n := by rw [BitVec.toNat_twoPow]; exact Nat.mod_eq_of_lt (Nat.pow_lt_pow_right (by decide) (by omega))
    have := Nat.two_pow_pos n
    omega
  rw [nl, BitVec.sub_eq_add_neg, ← nl]
  refine (BitVec.add_eq_or_of_and_eq_zero _ _ ?_).symm
  refine BitVec.eq_of_getLsbD_eq (fun i hi => ?_)
  rw [BitVec.getLsbD_and, BitVec.getLsbD_and, BitVec.getLsbD_not]
  cases (vb_lowest n).getLsbD i <;> simp
theorem jv_i380 : jv_I 380 7 (some .long) 0 0 jv_c380 := ⟨rfl, rfl, rfl, rfl, rfl⟩
theorem vr_signed8_0 {G : jv_G} {v : Int64} {m sl : Nat} {Q : jv_R → Prop} (hQ : Q (some (.long (Int64.ofBitVec (vm_sx v.toBitVec 8))), G, m, sl)) : jv_Wp 380 0 [(0, .long v), (2, .int (8 : Int32))] [] G m sl Q := by
  refine jv_Wp.lift (fun _ Kz => jv_Ev.steps jv_i380 8 (pc' := 9) (l' := [(3, .long ((1 : Int64) <<< (((8 : Int32) - (1 : Int32)).toInt64 &&& 63))), (0, .long v), (2, .int (8 : Int32))]) (st' := [.int (64 : Int32), .int (8 : Int32)]) rfl Kz) ?_
  refine jv_Wp.lift (fun _ Kz => jv_Ev.br jv_i380 (pc' := 16) (st' := []) rfl (by rfl) Kz) ?_
  refine jv_Wp.lift (fun _ Kz => jv_Ev.steps jv_i380 10 (pc' := 30) (l' := [(5, .long (v &&& (((2 : Int64) * ((1 : Int64) <<< (((8 : Int32) - (1 : Int32)).toInt64 &&& 63))) - (1 : Int64)))), (3, .long ((1 : Int64) <<< (((8 : Int32) - (1 : Int32)).toInt64 &&& 63))), (0, .long v), (2, .int (8 : Int32))]) (st' := [.int (64 : Int32), .int (8 : Int32)]) rfl Kz) ?_
  refine jv_Wp.lift (fun _ Kz => jv_Ev.br jv_i380 (pc' := 33) (st' := []) rfl (by rfl) Kz) ?_
  refine jv_Wp.lift (fun _ Kz => jv_Ev.steps jv_i380 3 (pc' := 37) (l' := [(5, .long (v &&& (((2 : Int64) * ((1 : Int64) <<< (((8 : Int32) - (1 : Int32)).toInt64 &&& 63))) - (1 : Int64)))), (3, .long ((1 : Int64) <<< (((8 : Int32) - (1 : Int32)).toInt64 &&& 63))), (0, .long v), (2, .int (8 : Int32))]) (st' := [.int (lg_cmp (v &&& (((2 : Int64) * ((1 : Int64) <<< (((8 : Int32) - (1 : Int32)).toInt64 &&& 63))) - (1 : Int64))) ((1 : Int64) <<< (((8 : Int32) - (1 : Int32)).toInt64 &&& 63)))]) rfl Kz) ?_
  refine jv_Wp.cnd jv_i380 (pt := 51) (pe := 40) (p := ((lg_cmp (v &&& (((2 : Int64) * ((1 : Int64) <<< (((8 : Int32) - (1 : Int32)).toInt64 &&& 63))) - (1 : Int64))) ((1 : Int64) <<< (((8 : Int32) - (1 : Int32)).toInt64 &&& 63))) < 0)) (q := ((v &&& (((2 : Int64) * ((1 : Int64) <<< (((8 : Int32) - (1 : Int32)).toInt64 &&& 63))) - (1 : Int64))) < ((1 : Int64) <<< (((8 : Int32) - (1 : Int32)).toInt64 &&& 63)))) rfl jv_bi_lt rfl rfl (lg_cmp_lt (v &&& (((2 : Int64) * ((1 : Int64) <<< (((8 : Int32) - (1 : Int32)).toInt64 &&& 63))) - (1 : Int64))) ((1 : Int64) <<< (((8 : Int32) - (1 : Int32)).toInt64 &&& 63))) (fun h1 => ?_) (fun h1 => ?_)
  · refine jv_Wp.lift (fun _ Kz => jv_Ev.steps jv_i380 1 (pc' := 53) (l' := [(5, .long (v &&& (((2 : Int64) * ((1 : Int64) <<< (((8 : Int32) - (1 : Int32)).toInt64 &&& 63))) - (1 : Int64)))), (3, .long ((1 : Int64) <<< (((8 : Int32) - (1 : Int32)).toInt64 &&& 63))), (0, .long v), (2, .int (8 : Int32))]) (st' := [.long (v &&& (((2 : Int64) * ((1 : Int64) <<< (((8 : Int32) - (1 : Int32)).toInt64 &&& 63))) - (1 : Int64)))]) rfl Kz) ?_
    refine jv_Wp.of (jv_Ev.ret jv_i380 rfl rfl) ?_
    rw [show Int64.ofBitVec (vm_sx v.toBitVec 8) = (v &&& (((2 : Int64) * ((1 : Int64) <<< (((8 : Int32) - (1 : Int32)).toInt64 &&& 63))) - (1 : Int64))) from vm_sgn_f (n := 8) (by decide) (by decide) (by decide) (by decide) h1] at hQ
    exact hQ
  · refine jv_Wp.lift (fun _ Kz => jv_Ev.steps jv_i380 6 (pc' := 53) (l' := [(5, .long (v &&& (((2 : Int64) * ((1 : Int64) <<< (((8 : Int32) - (1 : Int32)).toInt64 &&& 63))) - (1 : Int64)))), (3, .long ((1 : Int64) <<< (((8 : Int32) - (1 : Int32)).toInt64 &&& 63))), (0, .long v), (2, .int (8 : Int32))]) (st' := [.long ((v &&& (((2 : Int64) * ((1 : Int64) <<< (((8 : Int32) - (1 : Int32)).toInt64 &&& 63))) - (1 : Int64))) - ((2 : Int64) * ((1 : Int64) <<< (((8 : Int32) - (1 : Int32)).toInt64 &&& 63))))]) rfl Kz) ?_
    refine jv_Wp.of (jv_Ev.ret jv_i380 rfl rfl) ?_
    rw [show Int64.ofBitVec (vm_sx v.toBitVec 8) = ((v &&& (((2 : Int64) * ((1 : Int64) <<< (((8 : Int32) - (1 : Int32)).toInt64 &&& 63))) - (1 : Int64))) - ((2 : Int64) * ((1 : Int64) <<< (((8 : Int32) - (1 : Int32)).toInt64 &&& 63)))) from vm_sgn_t (n := 8) (by decide) (by decide) (by decide) (by decide) (by decide) h1] at hQ
    exact hQ
theorem vr_signed8 {G : jv_G} {v : Int64} {m sl : Nat} : jv_Ms 380 [.long v, .int (8 : Int32)] G m sl (some (.long (Int64.ofBitVec (vm_sx v.toBitVec 8))), G, m, sl) := by
  obtain ⟨X, k, e⟩ := vr_signed8_0 (G := G) (m := m) (sl := sl) (Q := fun X => X = (some (.long (Int64.ofBitVec (vm_sx v.toBitVec 8))), G, m, sl))  rfl
  subst e
  exact k
theorem vr_signed16_0 {G : jv_G} {v : Int64} {m sl : Nat} {Q : jv_R → Prop} (hQ : Q (some (.long (Int64.ofBitVec (vm_sx v.toBitVec 16))), G, m, sl)) : jv_Wp 380 0 [(0, .long v), (2, .int (16 : Int32))] [] G m sl Q := by
  refine jv_Wp.lift (fun _ Kz => jv_Ev.steps jv_i380 8 (pc' := 9) (l' := [(3, .long ((1 : Int64) <<< (((16 : Int32) - (1 : Int32)).toInt64 &&& 63))), (0, .long v), (2, .int (16 : Int32))]) (st' := [.int (64 : Int32), .int (16 : Int32)]) rfl Kz) ?_
  refine jv_Wp.lift (fun _ Kz => jv_Ev.br jv_i380 (pc' := 16) (st' := []) rfl (by rfl) Kz) ?_
  refine jv_Wp.lift (fun _ Kz => jv_Ev.steps jv_i380 10 (pc' := 30) (l' := [(5, .long (v &&& (((2 : Int64) * ((1 : Int64) <<< (((16 : Int32) - (1 : Int32)).toInt64 &&& 63))) - (1 : Int64)))), (3, .long ((1 : Int64) <<< (((16 : Int32) - (1 : Int32)).toInt64 &&& 63))), (0, .long v), (2, .int (16 : Int32))]) (st' := [.int (64 : Int32), .int (16 : Int32)]) rfl Kz) ?_
  refine jv_Wp.lift (fun _ Kz => jv_Ev.br jv_i380 (pc' := 33) (st' := []) rfl (by rfl) Kz) ?_
  refine jv_Wp.lift (fun _ Kz => jv_Ev.steps jv_i380 3 (pc' := 37) (l' := [(5, .long (v &&& (((2 : Int64) * ((1 : Int64) <<< (((16 : Int32) - (1 : Int32)).toInt64 &&& 63))) - (1 : Int64)))), (3, .long ((1 : Int64) <<< (((16 : Int32) - (1 : Int32)).toInt64 &&& 63))), (0, .long v), (2, .int (16 : Int32))]) (st' := [.int (lg_cmp (v &&& (((2 : Int64) * ((1 : Int64) <<< (((16 : Int32) - (1 : Int32)).toInt64 &&& 63))) - (1 : Int64))) ((1 : Int64) <<< (((16 : Int32) - (1 : Int32)).toInt64 &&& 63)))]) rfl Kz) ?_
  refine jv_Wp.cnd jv_i380 (pt := 51) (pe := 40) (p := ((lg_cmp (v &&& (((2 : Int64) * ((1 : Int64) <<< (((16 : Int32) - (1 : Int32)).toInt64 &&& 63))) - (1 : Int64))) ((1 : Int64) <<< (((16 : Int32) - (1 : Int32)).toInt64 &&& 63))) < 0)) (q := ((v &&& (((2 : Int64) * ((1 : Int64) <<< (((16 : Int32) - (1 : Int32)).toInt64 &&& 63))) - (1 : Int64))) < ((1 : Int64) <<< (((16 : Int32) - (1 : Int32)).toInt64 &&& 63)))) rfl jv_bi_lt rfl rfl (lg_cmp_lt (v &&& (((2 : Int64) * ((1 : Int64) <<< (((16 : Int32) - (1 : Int32)).toInt64 &&& 63))) - (1 : Int64))) ((1 : Int64) <<< (((16 : Int32) - (1 : Int32)).toInt64 &&& 63))) (fun h1 => ?_) (fun h1 => ?_)
  · refine jv_Wp.lift (fun _ Kz => jv_Ev.steps jv_i380 1 (pc' := 53) (l' := [(5, .long (v &&& (((2 : Int64) * ((1 : Int64) <<< (((16 : Int32) - (1 : Int32)).toInt64 &&& 63))) - (1 : Int64)))), (3, .long ((1 : Int64) <<< (((16 : Int32) - (1 : Int32)).toInt64 &&& 63))), (0, .long v), (2, .int (16 : Int32))]) (st' := [.long (v &&& (((2 : Int64) * ((1 : Int64) <<< (((16 : Int32) - (1 : Int32)).toInt64 &&& 63))) - (1 : Int64)))]) rfl Kz) ?_
    refine jv_Wp.of (jv_Ev.ret jv_i380 rfl rfl) ?_
    rw [show Int64.ofBitVec (vm_sx v.toBitVec 16) = (v &&& (((2 : Int64) * ((1 : Int64) <<< (((16 : Int32) - (1 : Int32)).toInt64 &&& 63))) - (1 : Int64))) from vm_sgn_f (n := 16) (by decide) (by decide) (by decide) (by decide) h1] at hQ
    exact hQ
  · refine jv_Wp.lift (fun _ Kz => jv_Ev.steps jv_i380 6 (pc' := 53) (l' := [(5, .long (v &&& (((2 : Int64) * ((1 : Int64) <<< (((16 : Int32) - (1 : Int32)).toInt64 &&& 63))) - (1 : Int64)))), (3, .long ((1 : Int64) <<< (((16 : Int32) - (1 : Int32)).toInt64 &&& 63))), (0, .long v), (2, .int (16 : Int32))]) (st' := [.long ((v &&& (((2 : Int64) * ((1 : Int64) <<< (((16 : Int32) - (1 : Int32)).toInt64 &&& 63))) - (1 : Int64))) - ((2 : Int64) * ((1 : Int64) <<< (((16 : Int32) - (1 : Int32)).toInt64 &&& 63))))]) rfl Kz) ?_
    refine jv_Wp.of (jv_Ev.ret jv_i380 rfl rfl) ?_
    rw [show Int64.ofBitVec (vm_sx v.toBitVec 16) = ((v &&& (((2 : Int64) * ((1 : Int64) <<< (((16 : Int32) - (1 : Int32)).toInt64 &&& 63))) - (1 : Int64))) - ((2 : Int64) * ((1 : Int64) <<< (((16 : Int32) - (1 : Int32)).toInt64 &&& 63)))) from vm_sgn_t (n := 16) (by decide) (by decide) (by decide) (by decide) (by decide) h1] at hQ
    exact hQ
theorem vr_signed16 {G : jv_G} {v : Int64} {m sl : Nat} : jv_Ms 380 [.long v, .int (16 : Int32)] G m sl (some (.long (Int64.ofBitVec (vm_sx v.toBitVec 16))), G, m, sl) := by
  obtain ⟨X, k, e⟩ := vr_signed16_0 (G := G) (m := m) (sl := sl) (Q := fun X => X = (some (.long (Int64.ofBitVec (vm_sx v.toBitVec 16))), G, m, sl))  rfl
  subst e
  exact k
theorem vr_signed32_0 {G : jv_G} {v : Int64} {m sl : Nat} {Q : jv_R → Prop} (hQ : Q (some (.long (Int64.ofBitVec (vm_sx v.toBitVec 32))), G, m, sl)) : jv_Wp 380 0 [(0, .long v), (2, .int (32 : Int32))] [] G m sl Q := by
  refine jv_Wp.lift (fun _ Kz => jv_Ev.steps jv_i380 8 (pc' := 9) (l' := [(3, .long ((1 : Int64) <<< (((32 : Int32) - (1 : Int32)).toInt64 &&& 63))), (0, .long v), (2, .int (32 : Int32))]) (st' := [.int (64 : Int32), .int (32 : Int32)]) rfl Kz) ?_
  refine jv_Wp.lift (fun _ Kz => jv_Ev.br jv_i380 (pc' := 16) (st' := []) rfl (by rfl) Kz) ?_
  refine jv_Wp.lift (fun _ Kz => jv_Ev.steps jv_i380 10 (pc' := 30) (l' := [(5, .long (v &&& (((2 : Int64) * ((1 : Int64) <<< (((32 : Int32) - (1 : Int32)).toInt64 &&& 63))) - (1 : Int64)))), (3, .long ((1 : Int64) <<< (((32 : Int32) - (1 : Int32)).toInt64 &&& 63))), (0, .long v), (2, .int (32 : Int32))]) (st' := [.int (64 : Int32), .int (32 : Int32)]) rfl Kz) ?_
  refine jv_Wp.lift (fun _ Kz => jv_Ev.br jv_i380 (pc' := 33) (st' := []) rfl (by rfl) Kz) ?_
  refine jv_Wp.lift (fun _ Kz => jv_Ev.steps jv_i380 3 (pc' := 37) (l' := [(5, .long (v &&& (((2 : Int64) * ((1 : Int64) <<< (((32 : Int32) - (1 : Int32)).toInt64 &&& 63))) - (1 : Int64)))), (3, .long ((1 : Int64) <<< (((32 : Int32) - (1 : Int32)).toInt64 &&& 63))), (0, .long v), (2, .int (32 : Int32))]) (st' := [.int (lg_cmp (v &&& (((2 : Int64) * ((1 : Int64) <<< (((32 : Int32) - (1 : Int32)).toInt64 &&& 63))) - (1 : Int64))) ((1 : Int64) <<< (((32 : Int32) - (1 : Int32)).toInt64 &&& 63)))]) rfl Kz) ?_
  refine jv_Wp.cnd jv_i380 (pt := 51) (pe := 40) (p := ((lg_cmp (v &&& (((2 : Int64) * ((1 : Int64) <<< (((32 : Int32) - (1 : Int32)).toInt64 &&& 63))) - (1 : Int64))) ((1 : Int64) <<< (((32 : Int32) - (1 : Int32)).toInt64 &&& 63))) < 0)) (q := ((v &&& (((2 : Int64) * ((1 : Int64) <<< (((32 : Int32) - (1 : Int32)).toInt64 &&& 63))) - (1 : Int64))) < ((1 : Int64) <<< (((32 : Int32) - (1 : Int32)).toInt64 &&& 63)))) rfl jv_bi_lt rfl rfl (lg_cmp_lt (v &&& (((2 : Int64) * ((1 : Int64) <<< (((32 : Int32) - (1 : Int32)).toInt64 &&& 63))) - (1 : Int64))) ((1 : Int64) <<< (((32 : Int32) - (1 : Int32)).toInt64 &&& 63))) (fun h1 => ?_) (fun h1 => ?_)
  · refine jv_Wp.lift (fun _ Kz => jv_Ev.steps jv_i380 1 (pc' := 53) (l' := [(5, .long (v &&& (((2 : Int64) * ((1 : Int64) <<< (((32 : Int32) - (1 : Int32)).toInt64 &&& 63))) - (1 : Int64)))), (3, .long ((1 : Int64) <<< (((32 : Int32) - (1 : Int32)).toInt64 &&& 63))), (0, .long v), (2, .int (32 : Int32))]) (st' := [.long (v &&& (((2 : Int64) * ((1 : Int64) <<< (((32 : Int32) - (1 : Int32)).toInt64 &&& 63))) - (1 : Int64)))]) rfl Kz) ?_
    refine jv_Wp.of (jv_Ev.ret jv_i380 rfl rfl) ?_
    rw [show Int64.ofBitVec (vm_sx v.toBitVec 32) = (v &&& (((2 : Int64) * ((1 : Int64) <<< (((32 : Int32) - (1 : Int32)).toInt64 &&& 63))) - (1 : Int64))) from vm_sgn_f (n := 32) (by decide) (by decide) (by decide) (by decide) h1] at hQ
    exact hQ
  · refine jv_Wp.lift (fun _ Kz => jv_Ev.steps jv_i380 6 (pc' := 53) (l' := [(5, .long (v &&& (((2 : Int64) * ((1 : Int64) <<< (((32 : Int32) - (1 : Int32)).toInt64 &&& 63))) - (1 : Int64)))), (3, .long ((1 : Int64) <<< (((32 : Int32) - (1 : Int32)).toInt64 &&& 63))), (0, .long v), (2, .int (32 : Int32))]) (st' := [.long ((v &&& (((2 : Int64) * ((1 : Int64) <<< (((32 : Int32) - (1 : Int32)).toInt64 &&& 63))) - (1 : Int64))) - ((2 : Int64) * ((1 : Int64) <<< (((32 : Int32) - (1 : Int32)).toInt64 &&& 63))))]) rfl Kz) ?_
    refine jv_Wp.of (jv_Ev.ret jv_i380 rfl rfl) ?_
    rw [show Int64.ofBitVec (vm_sx v.toBitVec 32) = ((v &&& (((2 : Int64) * ((1 : Int64) <<< (((32 : Int32) - (1 : Int32)).toInt64 &&& 63))) - (1 : Int64))) - ((2 : Int64) * ((1 : Int64) <<< (((32 : Int32) - (1 : Int32)).toInt64 &&& 63)))) from vm_sgn_t (n := 32) (by decide) (by decide) (by decide) (by decide) (by decide) h1] at hQ
    exact hQ
theorem vr_signed32 {G : jv_G} {v : Int64} {m sl : Nat} : jv_Ms 380 [.long v, .int (32 : Int32)] G m sl (some (.long (Int64.ofBitVec (vm_sx v.toBitVec 32))), G, m, sl) := by
  obtain ⟨X, k, e⟩ := vr_signed32_0 (G := G) (m := m) (sl := sl) (Q := fun X => X = (some (.long (Int64.ofBitVec (vm_sx v.toBitVec 32))), G, m, sl))  rfl
  subst e
  exact k
theorem vr_signed64_0 {G : jv_G} {v : Int64} {m sl : Nat} {Q : jv_R → Prop} (hQ : Q (some (.long (Int64.ofBitVec (vm_sx v.toBitVec 64))), G, m, sl)) : jv_Wp 380 0 [(0, .long v), (2, .int (64 : Int32))] [] G m sl Q := by
  refine jv_Wp.lift (fun _ Kz => jv_Ev.steps jv_i380 8 (pc' := 9) (l' := [(3, .long ((1 : Int64) <<< (((64 : Int32) - (1 : Int32)).toInt64 &&& 63))), (0, .long v), (2, .int (64 : Int32))]) (st' := [.int (64 : Int32), .int (64 : Int32)]) rfl Kz) ?_
  refine jv_Wp.lift (fun _ Kz => jv_Ev.br jv_i380 (pc' := 12) (st' := []) rfl (by rfl) Kz) ?_
  refine jv_Wp.lift (fun _ Kz => jv_Ev.steps jv_i380 5 (pc' := 30) (l' := [(5, .long v), (3, .long ((1 : Int64) <<< (((64 : Int32) - (1 : Int32)).toInt64 &&& 63))), (0, .long v), (2, .int (64 : Int32))]) (st' := [.int (64 : Int32), .int (64 : Int32)]) rfl Kz) ?_
  refine jv_Wp.lift (fun _ Kz => jv_Ev.br jv_i380 (pc' := 51) (st' := []) rfl (by rfl) Kz) ?_
  refine jv_Wp.lift (fun _ Kz => jv_Ev.steps jv_i380 1 (pc' := 53) (l' := [(5, .long v), (3, .long ((1 : Int64) <<< (((64 : Int32) - (1 : Int32)).toInt64 &&& 63))), (0, .long v), (2, .int (64 : Int32))]) (st' := [.long v]) rfl Kz) ?_
  refine jv_Wp.of (jv_Ev.ret jv_i380 rfl rfl) ?_
  exact hQ
theorem vr_signed64 {G : jv_G} {v : Int64} {m sl : Nat} : jv_Ms 380 [.long v, .int (64 : Int32)] G m sl (some (.long (Int64.ofBitVec (vm_sx v.toBitVec 64))), G, m, sl) := by
  obtain ⟨X, k, e⟩ := vr_signed64_0 (G := G) (m := m) (sl := sl) (Q := fun X => X = (some (.long (Int64.ofBitVec (vm_sx v.toBitVec 64))), G, m, sl))  rfl
  subst e
  exact k
theorem jv_i381 : jv_I 381 3 (some .long) 0 0 jv_c381 := ⟨rfl, rfl, rfl, rfl, rfl⟩
theorem vr_low8_0 {G : jv_G} {v : Int64} {m sl : Nat} {Q : jv_R → Prop} (hQ : Q (some (.long (Int64.ofBitVec (v.toBitVec &&& vb_lowest 8))), G, m, sl)) : jv_Wp 381 0 [(0, .long v), (2, .int (8 : Int32))] [] G m sl Q := by
  refine jv_Wp.lift (fun _ Kz => jv_Ev.steps jv_i381 2 (pc' := 3) (l' := [(0, .long v), (2, .int (8 : Int32))]) (st' := [.int (64 : Int32), .int (8 : Int32)]) rfl Kz) ?_
  refine jv_Wp.lift (fun _ Kz => jv_Ev.br jv_i381 (pc' := 10) (st' := []) rfl (by rfl) Kz) ?_
  refine jv_Wp.lift (fun _ Kz => jv_Ev.steps jv_i381 7 (pc' := 17) (l' := [(0, .long v), (2, .int (8 : Int32))]) (st' := [.long (v &&& (((1 : Int64) <<< ((8 : Int32).toInt64 &&& 63)) - (1 : Int64)))]) rfl Kz) ?_
  refine jv_Wp.of (jv_Ev.ret jv_i381 rfl rfl) ?_
  rw [show Int64.ofBitVec (v.toBitVec &&& vb_lowest 8) = (v &&& (((1 : Int64) <<< ((8 : Int32).toInt64 &&& 63)) - (1 : Int64))) from Int64.toBitVec_inj.mp (by rw [Int64.toBitVec_and]; rfl)] at hQ
  exact hQ
theorem vr_low8 {G : jv_G} {v : Int64} {m sl : Nat} : jv_Ms 381 [.long v, .int (8 : Int32)] G m sl (some (.long (Int64.ofBitVec (v.toBitVec &&& vb_lowest 8))), G, m, sl) := by
  obtain ⟨X, k, e⟩ := vr_low8_0 (G := G) (m := m) (sl := sl) (Q := fun X => X = (some (.long (Int64.ofBitVec (v.toBitVec &&& vb_lowest 8))), G, m, sl))  rfl
  subst e
  exact k
theorem vr_low16_0 {G : jv_G} {v : Int64} {m sl : Nat} {Q : jv_R → Prop} (hQ : Q (some (.long (Int64.ofBitVec (v.toBitVec &&& vb_lowest 16))), G, m, sl)) : jv_Wp 381 0 [(0, .long v), (2, .int (16 : Int32))] [] G m sl Q := by
  refine jv_Wp.lift (fun _ Kz => jv_Ev.steps jv_i381 2 (pc' := 3) (l' := [(0, .long v), (2, .int (16 : Int32))]) (st' := [.int (64 : Int32), .int (16 : Int32)]) rfl Kz) ?_
  refine jv_Wp.lift (fun _ Kz => jv_Ev.br jv_i381 (pc' := 10) (st' := []) rfl (by rfl) Kz) ?_
  refine jv_Wp.lift (fun _ Kz => jv_Ev.steps jv_i381 7 (pc' := 17) (l' := [(0, .long v), (2, .int (16 : Int32))]) (st' := [.long (v &&& (((1 : Int64) <<< ((16 : Int32).toInt64 &&& 63)) - (1 : Int64)))]) rfl Kz) ?_
  refine jv_Wp.of (jv_Ev.ret jv_i381 rfl rfl) ?_
  rw [show Int64.ofBitVec (v.toBitVec &&& vb_lowest 16) = (v &&& (((1 : Int64) <<< ((16 : Int32).toInt64 &&& 63)) - (1 : Int64))) from Int64.toBitVec_inj.mp (by rw [Int64.toBitVec_and]; rfl)] at hQ
  exact hQ
theorem vr_low16 {G : jv_G} {v : Int64} {m sl : Nat} : jv_Ms 381 [.long v, .int (16 : Int32)] G m sl (some (.long (Int64.ofBitVec (v.toBitVec &&& vb_lowest 16))), G, m, sl) := by
  obtain ⟨X, k, e⟩ := vr_low16_0 (G := G) (m := m) (sl := sl) (Q := fun X => X = (some (.long (Int64.ofBitVec (v.toBitVec &&& vb_lowest 16))), G, m, sl))  rfl
  subst e
  exact k
theorem vr_low32_0 {G : jv_G} {v : Int64} {m sl : Nat} {Q : jv_R → Prop} (hQ : Q (some (.long (Int64.ofBitVec (v.toBitVec &&& vb_lowest 32))), G, m, sl)) : jv_Wp 381 0 [(0, .long v), (2, .int (32 : Int32))] [] G m sl Q := by
  refine jv_Wp.lift (fun _ Kz => jv_Ev.steps jv_i381 2 (pc' := 3) (l' := [(0, .long v), (2, .int (32 : Int32))]) (st' := [.int (64 : Int32), .int (32 : Int32)]) rfl Kz) ?_
  refine jv_Wp.lift (fun _ Kz => jv_Ev.br jv_i381 (pc' := 10) (st' := []) rfl (by rfl) Kz) ?_
  refine jv_Wp.lift (fun _ Kz => jv_Ev.steps jv_i381 7 (pc' := 17) (l' := [(0, .long v), (2, .int (32 : Int32))]) (st' := [.long (v &&& (((1 : Int64) <<< ((32 : Int32).toInt64 &&& 63)) - (1 : Int64)))]) rfl Kz) ?_
  refine jv_Wp.of (jv_Ev.ret jv_i381 rfl rfl) ?_
  rw [show Int64.ofBitVec (v.toBitVec &&& vb_lowest 32) = (v &&& (((1 : Int64) <<< ((32 : Int32).toInt64 &&& 63)) - (1 : Int64))) from Int64.toBitVec_inj.mp (by rw [Int64.toBitVec_and]; rfl)] at hQ
  exact hQ
theorem vr_low32 {G : jv_G} {v : Int64} {m sl : Nat} : jv_Ms 381 [.long v, .int (32 : Int32)] G m sl (some (.long (Int64.ofBitVec (v.toBitVec &&& vb_lowest 32))), G, m, sl) := by
  obtain ⟨X, k, e⟩ := vr_low32_0 (G := G) (m := m) (sl := sl) (Q := fun X => X = (some (.long (Int64.ofBitVec (v.toBitVec &&& vb_lowest 32))), G, m, sl))  rfl
  subst e
  exact k
theorem vr_low64_0 {G : jv_G} {v : Int64} {m sl : Nat} {Q : jv_R → Prop} (hQ : Q (some (.long (Int64.ofBitVec (v.toBitVec &&& vb_lowest 64))), G, m, sl)) : jv_Wp 381 0 [(0, .long v), (2, .int (64 : Int32))] [] G m sl Q := by
  refine jv_Wp.lift (fun _ Kz => jv_Ev.steps jv_i381 2 (pc' := 3) (l' := [(0, .long v), (2, .int (64 : Int32))]) (st' := [.int (64 : Int32), .int (64 : Int32)]) rfl Kz) ?_
  refine jv_Wp.lift (fun _ Kz => jv_Ev.br jv_i381 (pc' := 6) (st' := []) rfl (by rfl) Kz) ?_
  refine jv_Wp.lift (fun _ Kz => jv_Ev.steps jv_i381 2 (pc' := 17) (l' := [(0, .long v), (2, .int (64 : Int32))]) (st' := [.long v]) rfl Kz) ?_
  refine jv_Wp.of (jv_Ev.ret jv_i381 rfl rfl) ?_
  rw [vb_low64] at hQ
  exact hQ
theorem vr_low64 {G : jv_G} {v : Int64} {m sl : Nat} : jv_Ms 381 [.long v, .int (64 : Int32)] G m sl (some (.long (Int64.ofBitVec (v.toBitVec &&& vb_lowest 64))), G, m, sl) := by
  obtain ⟨X, k, e⟩ := vr_low64_0 (G := G) (m := m) (sl := sl) (Q := fun X => X = (some (.long (Int64.ofBitVec (v.toBitVec &&& vb_lowest 64))), G, m, sl))  rfl
  subst e
  exact k