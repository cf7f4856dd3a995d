/-! part c10: the word that is looked at, what small methods answer (gen/tc10.py) -/
section
variable {I : Nat → Nat → Int32} {f : vf_F}
theorem vr_dI (D : vr_dec I f) : I 196 22 = Int32.ofInt f.o := by rw [← D.2.2.2.1]; exact (Int32.ofInt_toInt _).symm
theorem vr_dJ (D : vr_dec I f) : I 196 23 = Int32.ofInt f.i := by rw [← D.2.2.2.2.1]; exact (Int32.ofInt_toInt _).symm
theorem vr_dO (D : vr_dec I f) : (Int32.ofInt f.o).toInt = f.o := by rw [← vr_dI D]; exact D.2.2.2.1
theorem vr_dQ (D : vr_dec I f) : (Int32.ofInt f.i).toInt = f.i := by rw [← vr_dJ D]; exact D.2.2.2.2.1
theorem vr_dc (D : vr_dec I f) : f.code < 256 := D.2.2.2.2.2.1
theorem vr_dd (D : vr_dec I f) : f.d < 16 := D.2.2.2.2.2.2.1
theorem vr_ds (D : vr_dec I f) : f.s < 16 := D.2.2.2.2.2.2.2
theorem vr_dn (D : vr_dec I f) : f.n < 16 := by have := vr_dc D; unfold vf_F.n; omega
theorem vr_dk (D : vr_dec I f) : f.kind < 8 := Nat.mod_lt _ (by decide)
theorem vr_dec_rf {t : Nat} {I1 : Nat → Nat → Int32} {L L1 : Nat → Nat → Int64} (h : vq_rf t I L I1 L1) (D : vr_dec I f) : vr_dec I1 f := by
  have c : ∀ j, I1 196 j = I 196 j := fun j => h.2.1 196 j (by decide)
  unfold vr_dec
  rw [c 19, c 20, c 21, c 22, c 23]
  exact D
end
theorem vi_and7 {c : Nat} (h : c < 256) : vl_I c &&& (7 : Int32) = vl_I (c % 8) := (vi_and8 h (show 7 < 256 by decide)).trans (congrArg vl_I (Nat.and_two_pow_sub_one_eq_mod c 3))
theorem vi_and3' {c : Nat} (h : c < 256) : vl_I c &&& (3 : Int32) = vl_I (c % 4) := (vi_and8 h (show 3 < 256 by decide)).trans (congrArg vl_I (Nat.and_two_pow_sub_one_eq_mod c 2))
theorem vi_and1' {c : Nat} (h : c < 256) : vl_I c &&& (1 : Int32) = vl_I (c % 2) := (vi_and8 h (show 1 < 256 by decide)).trans (congrArg vl_I (Nat.and_two_pow_sub_one_eq_mod c 1))
set_option maxRecDepth 100000 in
theorem vi_shr3 : ∀ c : Fin 256, vl_I c.val >>> (3 : Int32) = vl_I (c.val / 8) := by decide
set_option maxRecDepth 100000 in
theorem vi_shr4 : ∀ c : Fin 256, vl_I c.val >>> (4 : Int32) = vl_I (c.val / 16) := by decide
set_option maxRecDepth 100000 in
theorem vi_shr5 : ∀ c : Fin 256, vl_I c.val >>> (5 : Int32) = vl_I (c.val / 32) := by decide
theorem vi_b3 {c : Nat} (h : c < 256) : ((vl_I c) >>> ((3 : Int32) &&& 31)) &&& (1 : Int32) = vl_I (c / 8 % 2) := by
  rw [show (3 : Int32) &&& 31 = 3 from rfl, vi_shr3 ⟨c, h⟩]; exact vi_and1' (by show c / 8 < 256; omega)
theorem vi_z3 {c : Nat} (h : c < 256) : ((vl_I c) >>> ((3 : Int32) &&& 31)) &&& (3 : Int32) = vl_I (c / 8 % 4) := by
  rw [show (3 : Int32) &&& 31 = 3 from rfl, vi_shr3 ⟨c, h⟩]; exact vi_and3' (by show c / 8 < 256; omega)
theorem vr_sm {k v : Nat} (hk : k < 4294967296) (hv : v < 4294967296) {x : Int32} (hx : x = vl_I k) : x = vl_I v ↔ k = v := by rw [hx]; exact vl_I_inj hk hv
theorem jv_i257 : jv_I 257 1 (some .int) 0 0 jv_c257 := ⟨rfl, rfl, rfl, rfl, rfl⟩
theorem vq_kind_ {K : Nat → Option (Nat × Nat)} {I : Nat → Nat → Int32} {L : Nat → Nat → Int64} {R : Nat → Nat → Value} (f : vf_F) (hW : jv_rW K R) (D : vr_dec I f) {n sl : Nat} : ∃ I1 L1, jv_Ms 257 [.ref 196] (jv_H K I L R) n sl (some (.int (vl_I f.kind)), jv_H K I1 L1 R, n, sl) ∧ I1 = I ∧ L1 = L := by
  obtain ⟨Q, hQ⟩ : ∃ Q : jv_R → Prop, Q = fun X => ∃ I1 L1, X = (some (.int (vl_I f.kind)), jv_H K I1 L1 R, n, sl) ∧ I1 = I ∧ L1 = L := ⟨_, rfl⟩
  suffices h : jv_Wp 257 0 [(0, .ref 196)] [] (jv_H K I L R) n sl Q by
    rw [hQ] at h
    obtain ⟨X, h, I1, L1, e, h'⟩ := h
    subst e
    exact ⟨I1, L1, h, h'⟩
  refine jv_Wp.lift (fun _ Kz => jv_Ev.steps jv_i257 1 (pc' := 1) (l' := [(0, .ref 196)]) (st' := [.ref 196]) rfl Kz) ?_
  refine jv_Wp.lift (fun _ Kz => jv_Ev.m jv_i257 (pc' := 4) (st' := [.int (vl_I f.code)]) (G' := (jv_H K I L R)) rfl rfl (jv_m_getI (jv_rwK hW 196 12 24 (by decide)) rfl rfl D.1) Kz) ?_
  refine jv_Wp.lift (fun _ Kz => jv_Ev.steps jv_i257 2 (pc' := 7) (l' := [(0, .ref 196)]) (st' := [.int ((vl_I f.code) &&& (7 : Int32))]) rfl Kz) ?_
  refine jv_Wp.of (jv_Ev.ret jv_i257 rfl rfl) ?_
  rw [hQ]
  have ev : ((vl_I f.code) &&& (7 : Int32)) = (vl_I f.kind) := vi_and7 (vr_dc D)
  exact ⟨_, _, by rw [ev], rfl, rfl⟩
theorem vq_kind {K : Nat → Option (Nat × Nat)} {I : Nat → Nat → Int32} {L : Nat → Nat → Int64} {R : Nat → Nat → Value} (f : vf_F) (hW : jv_rW K R) (D : vr_dec I f) {n sl : Nat} : jv_Ms 257 [.ref 196] (jv_H K I L R) n sl (some (.int (vl_I f.kind)), jv_H K I L R, n, sl) := by
  obtain ⟨I1, L1, H, ei, el⟩ := vq_kind_ (n := n) (sl := sl) f hW D
  rw [ei, el] at H
  exact H
theorem jv_i258 : jv_I 258 1 (some .int) 0 0 jv_c258 := ⟨rfl, rfl, rfl, rfl, rfl⟩
theorem vq_n_ {K : Nat → Option (Nat × Nat)} {I : Nat → Nat → Int32} {L : Nat → Nat → Int64} {R : Nat → Nat → Value} (f : vf_F) (hW : jv_rW K R) (D : vr_dec I f) {n sl : Nat} : ∃ I1 L1, jv_Ms 258 [.ref 196] (jv_H K I L R) n sl (some (.int (vl_I f.n)), jv_H K I1 L1 R, n, sl) ∧ I1 = I ∧ L1 = L := by
  obtain ⟨Q, hQ⟩ : ∃ Q : jv_R → Prop, Q = fun X => ∃ I1 L1, X = (some (.int (vl_I f.n)), jv_H K I1 L1 R, n, sl) ∧ I1 = I ∧ L1 = L := ⟨_, rfl⟩
  suffices h : jv_Wp 258 0 [(0, .ref 196)] [] (jv_H K I L R) n sl Q by
    rw [hQ] at h
    obtain ⟨X, h, I1, L1, e, h'⟩ := h
    subst e
    exact ⟨I1, L1, h, h'⟩
  refine jv_Wp.lift (fun _ Kz => jv_Ev.steps jv_i258 1 (pc' := 1) (l' := [(0, .ref 196)]) (st' := [.ref 196]) rfl Kz) ?_
  refine jv_Wp.lift (fun _ Kz => jv_Ev.m jv_i258 (pc' := 4) (st' := [.int (vl_I f.code)]) (G' := (jv_H K I L R)) rfl rfl (jv_m_getI (jv_rwK hW 196 12 24 (by decide)) rfl rfl D.1) Kz) ?_
  refine jv_Wp.lift (fun _ Kz => jv_Ev.steps jv_i258 2 (pc' := 6) (l' := [(0, .ref 196)]) (st' := [.int ((vl_I f.code) >>> ((4 : Int32) &&& 31))]) rfl Kz) ?_
  refine jv_Wp.of (jv_Ev.ret jv_i258 rfl rfl) ?_
  rw [hQ]
  have ev : ((vl_I f.code) >>> ((4 : Int32) &&& 31)) = (vl_I f.n) := vi_shr4 ⟨f.code, vr_dc D⟩
  exact ⟨_, _, by rw [ev], rfl, rfl⟩
theorem vq_n {K : Nat → Option (Nat × Nat)} {I : Nat → Nat → Int32} {L : Nat → Nat → Int64} {R : Nat → Nat → Value} (f : vf_F) (hW : jv_rW K R) (D : vr_dec I f) {n sl : Nat} : jv_Ms 258 [.ref 196] (jv_H K I L R) n sl (some (.int (vl_I f.n)), jv_H K I L R, n, sl) := by
  obtain ⟨I1, L1, H, ei, el⟩ := vq_n_ (n := n) (sl := sl) f hW D
  rw [ei, el] at H
  exact H
theorem jv_i261 : jv_I 261 1 (some .int) 0 0 jv_c261 := ⟨rfl, rfl, rfl, rfl, rfl⟩
theorem vq_mode_ {K : Nat → Option (Nat × Nat)} {I : Nat → Nat → Int32} {L : Nat → Nat → Int64} {R : Nat → Nat → Value} (f : vf_F) (hW : jv_rW K R) (D : vr_dec I f) {n sl : Nat} : ∃ I1 L1, jv_Ms 261 [.ref 196] (jv_H K I L R) n sl (some (.int (vl_I f.mode)), jv_H K I1 L1 R, n, sl) ∧ I1 = I ∧ L1 = L := by
  obtain ⟨Q, hQ⟩ : ∃ Q : jv_R → Prop, Q = fun X => ∃ I1 L1, X = (some (.int (vl_I f.mode)), jv_H K I1 L1 R, n, sl) ∧ I1 = I ∧ L1 = L := ⟨_, rfl⟩
  suffices h : jv_Wp 261 0 [(0, .ref 196)] [] (jv_H K I L R) n sl Q by
    rw [hQ] at h
    obtain ⟨X, h, I1, L1, e, h'⟩ := h
    subst e
    exact ⟨I1, L1, h, h'⟩
  refine jv_Wp.lift (fun _ Kz => jv_Ev.steps jv_i261 1 (pc' := 1) (l' := [(0, .ref 196)]) (st' := [.ref 196]) rfl Kz) ?_
  refine jv_Wp.lift (fun _ Kz => jv_Ev.m jv_i261 (pc' := 4) (st' := [.int (vl_I f.code)]) (G' := (jv_H K I L R)) rfl rfl (jv_m_getI (jv_rwK hW 196 12 24 (by decide)) rfl rfl D.1) Kz) ?_
  refine jv_Wp.lift (fun _ Kz => jv_Ev.steps jv_i261 2 (pc' := 6) (l' := [(0, .ref 196)]) (st' := [.int ((vl_I f.code) >>> ((5 : Int32) &&& 31))]) rfl Kz) ?_
  refine jv_Wp.of (jv_Ev.ret jv_i261 rfl rfl) ?_
  rw [hQ]
  have ev : ((vl_I f.code) >>> ((5 : Int32) &&& 31)) = (vl_I f.mode) := vi_shr5 ⟨f.code, vr_dc D⟩
  exact ⟨_, _, by rw [ev], rfl, rfl⟩
theorem vq_mode {K : Nat → Option (Nat × Nat)} {I : Nat → Nat → Int32} {L : Nat → Nat → Int64} {R : Nat → Nat → Value} (f : vf_F) (hW : jv_rW K R) (D : vr_dec I f) {n sl : Nat} : jv_Ms 261 [.ref 196] (jv_H K I L R) n sl (some (.int (vl_I f.mode)), jv_H K I L R, n, sl) := by
  obtain ⟨I1, L1, H, ei, el⟩ := vq_mode_ (n := n) (sl := sl) f hW D
  rw [ei, el] at H
  exact H
theorem jv_i259 : jv_I 259 1 (some .boolean) 0 0 jv_c259 := ⟨rfl, rfl, rfl, rfl, rfl⟩
theorem vq_bit3_ {K : Nat → Option (Nat × Nat)} {I : Nat → Nat → Int32} {L : Nat → Nat → Int64} {R : Nat → Nat → Value} (f : vf_F) (hW : jv_rW K R) (D : vr_dec I f) {n sl : Nat} : ∃ I1 L1, jv_Ms 259 [.ref 196] (jv_H K I L R) n sl (some (.int (vr_b f.bit3)), jv_H K I1 L1 R, n, sl) ∧ I1 = I ∧ L1 = L := by
  obtain ⟨Q, hQ⟩ : ∃ Q : jv_R → Prop, Q = fun X => ∃ I1 L1, X = (some (.int (vr_b f.bit3)), jv_H K I1 L1 R, n, sl) ∧ I1 = I ∧ L1 = L := ⟨_, rfl⟩
  have hc := vr_dc D
  suffices h : jv_Wp 259 0 [(0, .ref 196)] [] (jv_H K I L R) n sl Q by
    rw [hQ] at h
    obtain ⟨X, h, I1, L1, e, h'⟩ := h
    subst e
    exact ⟨I1, L1, h, h'⟩
  refine jv_Wp.lift (fun _ Kz => jv_Ev.steps jv_i259 1 (pc' := 1) (l' := [(0, .ref 196)]) (st' := [.ref 196]) rfl Kz) ?_
  refine jv_Wp.lift (fun _ Kz => jv_Ev.m jv_i259 (pc' := 4) (st' := [.int (vl_I f.code)]) (G' := (jv_H K I L R)) rfl rfl (jv_m_getI (jv_rwK hW 196 12 24 (by decide)) rfl rfl D.1) Kz) ?_
  refine jv_Wp.lift (fun _ Kz => jv_Ev.steps jv_i259 5 (pc' := 9) (l' := [(0, .ref 196)]) (st' := [.int (1 : Int32), .int (((vl_I f.code) >>> ((3 : Int32) &&& 31)) &&& (1 : Int32))]) rfl Kz) ?_
  refine jv_Wp.cnd jv_i259 (pt := 16) (pe := 12) (p := (¬ (((vl_I f.code) >>> ((3 : Int32) &&& 31)) &&& (1 : Int32)) = (1 : Int32))) (q := (¬ (((vl_I f.code) >>> ((3 : Int32) &&& 31)) &&& (1 : Int32)) = (1 : Int32))) rfl jv_bc_ne rfl rfl Iff.rfl (fun h1 => ?_) (fun h1 => ?_)
  · refine jv_Wp.lift (fun _ Kz => jv_Ev.steps jv_i259 1 (pc' := 17) (l' := [(0, .ref 196)]) (st' := [.int (0 : Int32)]) rfl Kz) ?_
    refine jv_Wp.of (jv_Ev.ret jv_i259 rfl (jv_ret_b (Or.inl rfl))) ?_
    rw [hQ]
    have ev : (0 : Int32) = (vr_b f.bit3) := by have z : f.bit3 = false := decide_eq_false (fun z => h1 ((vr_sm (v := 1) (by omega) (by decide) (vi_b3 (vr_dc D))).mpr z)); rw [z]; rfl
    exact ⟨_, _, by rw [ev], rfl, rfl⟩
  · refine jv_Wp.lift (fun _ Kz => jv_Ev.steps jv_i259 2 (pc' := 17) (l' := [(0, .ref 196)]) (st' := [.int (1 : Int32)]) rfl Kz) ?_
    refine jv_Wp.of (jv_Ev.ret jv_i259 rfl (jv_ret_b (Or.inr rfl))) ?_
    rw [hQ]
    have ev : (1 : Int32) = (vr_b f.bit3) := by have z : f.bit3 = true := decide_eq_true ((vr_sm (v := 1) (by omega) (by decide) (vi_b3 (vr_dc D))).mp (Classical.not_not.mp h1)); rw [z]; rfl
    exact ⟨_, _, by rw [ev], rfl, rfl⟩
theorem vq_bit3 {K : Nat → Option (Nat × Nat)} {I : Nat → Nat → Int32} {L : Nat → Nat → Int64} {R : Nat → Nat → Value} (f : vf_F) (hW : jv_rW K R) (D : vr_dec I f) {n sl : Nat} : jv_Ms 259 [.ref 196] (jv_H K I L R) n sl (some (.int (vr_b f.bit3)), jv_H K I L R, n, sl) := by
  obtain ⟨I1, L1, H, ei, el⟩ := vq_bit3_ (n := n) (sl := sl) f hW D
  rw [ei, el] at H
  exact H
theorem jv_i260 : jv_I 260 2 (some .int) 0 0 jv_c260 := ⟨rfl, rfl, rfl, rfl, rfl⟩
theorem vq_size_ {K : Nat → Option (Nat × Nat)} {I : Nat → Nat → Int32} {L : Nat → Nat → Int64} {R : Nat → Nat → Value} (f : vf_F) (hW : jv_rW K R) (D : vr_dec I f) {n sl : Nat} : ∃ I1 L1, jv_Ms 260 [.ref 196] (jv_H K I L R) n sl (some (.int (vl_I f.z)), jv_H K I1 L1 R, n, sl) ∧ I1 = I ∧ L1 = L := by
  obtain ⟨Q, hQ⟩ : ∃ Q : jv_R → Prop, Q = fun X => ∃ I1 L1, X = (some (.int (vl_I f.z)), jv_H K I1 L1 R, n, sl) ∧ I1 = I ∧ L1 = L := ⟨_, rfl⟩
  have hc := vr_dc D
  suffices h : jv_Wp 260 0 [(0, .ref 196)] [] (jv_H K I L R) n sl Q by
    rw [hQ] at h
    obtain ⟨X, h, I1, L1, e, h'⟩ := h
    subst e
    exact ⟨I1, L1, h, h'⟩
  refine jv_Wp.lift (fun _ Kz => jv_Ev.steps jv_i260 1 (pc' := 1) (l' := [(0, .ref 196)]) (st' := [.ref 196]) rfl Kz) ?_
  refine jv_Wp.lift (fun _ Kz => jv_Ev.m jv_i260 (pc' := 4) (st' := [.int (vl_I f.code)]) (G' := (jv_H K I L R)) rfl rfl (jv_m_getI (jv_rwK hW 196 12 24 (by decide)) rfl rfl D.1) Kz) ?_
  refine jv_Wp.lift (fun _ Kz => jv_Ev.steps jv_i260 6 (pc' := 10) (l' := [(1, .int (((vl_I f.code) >>> ((3 : Int32) &&& 31)) &&& (3 : Int32))), (0, .ref 196)]) (st' := [.int (((vl_I f.code) >>> ((3 : Int32) &&& 31)) &&& (3 : Int32))]) rfl Kz) ?_
  refine jv_Wp.cnd jv_i260 (pt := 17) (pe := 13) (p := (¬ (((vl_I f.code) >>> ((3 : Int32) &&& 31)) &&& (3 : Int32)) = 0)) (q := (¬ (((vl_I f.code) >>> ((3 : Int32) &&& 31)) &&& (3 : Int32)) = 0)) rfl jv_bi_ne rfl rfl Iff.rfl (fun h1 => ?_) (fun h1 => ?_)
  · refine jv_Wp.lift (fun _ Kz => jv_Ev.steps jv_i260 2 (pc' := 19) (l' := [(1, .int (((vl_I f.code) >>> ((3 : Int32) &&& 31)) &&& (3 : Int32))), (0, .ref 196)]) (st' := [.int (1 : Int32), .int (((vl_I f.code) >>> ((3 : Int32) &&& 31)) &&& (3 : Int32))]) rfl Kz) ?_
    refine jv_Wp.cnd jv_i260 (pt := 26) (pe := 22) (p := (¬ (((vl_I f.code) >>> ((3 : Int32) &&& 31)) &&& (3 : Int32)) = (1 : Int32))) (q := (¬ (((vl_I f.code) >>> ((3 : Int32) &&& 31)) &&& (3 : Int32)) = (1 : Int32))) rfl jv_bc_ne rfl rfl Iff.rfl (fun h2 => ?_) (fun h2 => ?_)
    · refine jv_Wp.lift (fun _ Kz => jv_Ev.steps jv_i260 2 (pc' := 28) (l' := [(1, .int (((vl_I f.code) >>> ((3 : Int32) &&& 31)) &&& (3 : Int32))), (0, .ref 196)]) (st' := [.int (2 : Int32), .int (((vl_I f.code) >>> ((3 : Int32) &&& 31)) &&& (3 : Int32))]) rfl Kz) ?_
      refine jv_Wp.cnd jv_i260 (pt := 35) (pe := 31) (p := (¬ (((vl_I f.code) >>> ((3 : Int32) &&& 31)) &&& (3 : Int32)) = (2 : Int32))) (q := (¬ (((vl_I f.code) >>> ((3 : Int32) &&& 31)) &&& (3 : Int32)) = (2 : Int32))) rfl jv_bc_ne rfl rfl Iff.rfl (fun h3 => ?_) (fun h3 => ?_)
      · refine jv_Wp.lift (fun _ Kz => jv_Ev.steps jv_i260 1 (pc' := 37) (l' := [(1, .int (((vl_I f.code) >>> ((3 : Int32) &&& 31)) &&& (3 : Int32))), (0, .ref 196)]) (st' := [.int (8 : Int32)]) rfl Kz) ?_
        refine jv_Wp.of (jv_Ev.ret jv_i260 rfl rfl) ?_
        rw [hQ]
        have ev : (8 : Int32) = (vl_I f.z) := by unfold vf_F.z; rw [if_neg (fun z => h1 ((vr_sm (v := 0) (by omega) (by decide) (vi_z3 (vr_dc D))).mpr z)), if_neg (fun z => h2 ((vr_sm (v := 1) (by omega) (by decide) (vi_z3 (vr_dc D))).mpr z)), if_neg (fun z => h3 ((vr_sm (v := 2) (by omega) (by decide) (vi_z3 (vr_dc D))).mpr z))]; rfl
        exact ⟨_, _, by rw [ev], rfl, rfl⟩
      · refine jv_Wp.lift (fun _ Kz => jv_Ev.steps jv_i260 2 (pc' := 37) (l' := [(1, .int (((vl_I f.code) >>> ((3 : Int32) &&& 31)) &&& (3 : Int32))), (0, .ref 196)]) (st' := [.int (1 : Int32)]) rfl Kz) ?_
        refine jv_Wp.of (jv_Ev.ret jv_i260 rfl rfl) ?_
        rw [hQ]
        have ev : (1 : Int32) = (vl_I f.z) := by unfold vf_F.z; rw [if_neg (fun z => h1 ((vr_sm (v := 0) (by omega) (by decide) (vi_z3 (vr_dc D))).mpr z)), if_neg (fun z => h2 ((vr_sm (v := 1) (by omega) (by decide) (vi_z3 (vr_dc D))).mpr z)), if_pos ((vr_sm (v := 2) (by omega) (by decide) (vi_z3 (vr_dc D))).mp (Classical.not_not.mp h3))]; rfl
        exact ⟨_, _, by rw [ev], rfl, rfl⟩
    · refine jv_Wp.lift (fun _ Kz => jv_Ev.steps jv_i260 2 (pc' := 37) (l' := [(1, .int (((vl_I f.code) >>> ((3 : Int32) &&& 31)) &&& (3 : Int32))), (0, .ref 196)]) (st' := [.int (2 : Int32)]) rfl Kz) ?_
      refine jv_Wp.of (jv_Ev.ret jv_i260 rfl rfl) ?_
      rw [hQ]
      have ev : (2 : Int32) = (vl_I f.z) := by unfold vf_F.z; rw [if_neg (fun z => h1 ((vr_sm (v := 0) (by omega) (by decide) (vi_z3 (vr_dc D))).mpr z)), if_pos ((vr_sm (v := 1) (by omega) (by decide) (vi_z3 (vr_dc D))).mp (Classical.not_not.mp h2))]; rfl
      exact ⟨_, _, by rw [ev], rfl, rfl⟩
  · refine jv_Wp.lift (fun _ Kz => jv_Ev.steps jv_i260 2 (pc' := 37) (l' := [(1, .int (((vl_I f.code) >>> ((3 : Int32) &&& 31)) &&& (3 : Int32))), (0, .ref 196)]) (st' := [.int (4 : Int32)]) rfl Kz) ?_
    refine jv_Wp.of (jv_Ev.ret jv_i260 rfl rfl) ?_
    rw [hQ]
    have ev : (4 : Int32) = (vl_I f.z) := by unfold vf_F.z; rw [if_pos ((vr_sm (v := 0) (by omega) (by decide) (vi_z3 (vr_dc D))).mp (Classical.not_not.mp h1))]; rfl
    exact ⟨_, _, by rw [ev], rfl, rfl⟩
theorem vq_size {K : Nat → Option (Nat × Nat)} {I : Nat → Nat → Int32} {L : Nat → Nat → Int64} {R : Nat → Nat → Value} (f : vf_F) (hW : jv_rW K R) (D : vr_dec I f) {n sl : Nat} : jv_Ms 260 [.ref 196] (jv_H K I L R) n sl (some (.int (vl_I f.z)), jv_H K I L R, n, sl) := by
  obtain ⟨I1, L1, H, ei, el⟩ := vq_size_ (n := n) (sl := sl) f hW D
  rw [ei, el] at H
  exact H
theorem jv_i262 : jv_I 262 1 (some .boolean) 0 0 jv_c262 := ⟨rfl, rfl, rfl, rfl, rfl⟩
theorem vq_isWide_ {K : Nat → Option (Nat × Nat)} {I : Nat → Nat → Int32} {L : Nat → Nat → Int64} {R : Nat → Nat → Value} (f : vf_F) (hW : jv_rW K R) (D : vr_dec I f) {n sl : Nat} : ∃ I1 L1, jv_Ms 262 [.ref 196] (jv_H K I L R) n sl (some (.int (vr_b (decide (f.code = 24)))), jv_H K I1 L1 R, n, sl) ∧ I1 = I ∧ L1 = L := by
  obtain ⟨Q, hQ⟩ : ∃ Q : jv_R → Prop, Q = fun X => ∃ I1 L1, X = (some (.int (vr_b (decide (f.code = 24)))), jv_H K I1 L1 R, n, sl) ∧ I1 = I ∧ L1 = L := ⟨_, rfl⟩
  have hc := vr_dc D
  suffices h : jv_Wp 262 0 [(0, .ref 196)] [] (jv_H K I L R) n sl Q by
    rw [hQ] at h
    obtain ⟨X, h, I1, L1, e, h'⟩ := h
    subst e
    exact ⟨I1, L1, h, h'⟩
  refine jv_Wp.lift (fun _ Kz => jv_Ev.steps jv_i262 1 (pc' := 1) (l' := [(0, .ref 196)]) (st' := [.ref 196]) rfl Kz) ?_
  refine jv_Wp.lift (fun _ Kz => jv_Ev.m jv_i262 (pc' := 4) (st' := [.int (vl_I f.code)]) (G' := (jv_H K I L R)) rfl rfl (jv_m_getI (jv_rwK hW 196 12 24 (by decide)) rfl rfl D.1) Kz) ?_
  refine jv_Wp.lift (fun _ Kz => jv_Ev.steps jv_i262 1 (pc' := 6) (l' := [(0, .ref 196)]) (st' := [.int (24 : Int32), .int (vl_I f.code)]) rfl Kz) ?_
  refine jv_Wp.cnd jv_i262 (pt := 13) (pe := 9) (p := (¬ (vl_I f.code) = (24 : Int32))) (q := (¬ (vl_I f.code) = (24 : Int32))) rfl jv_bc_ne rfl rfl Iff.rfl (fun h1 => ?_) (fun h1 => ?_)
  · refine jv_Wp.lift (fun _ Kz => jv_Ev.steps jv_i262 1 (pc' := 14) (l' := [(0, .ref 196)]) (st' := [.int (0 : Int32)]) rfl Kz) ?_
    refine jv_Wp.of (jv_Ev.ret jv_i262 rfl (jv_ret_b (Or.inl rfl))) ?_
    rw [hQ]
    have ev : (0 : Int32) = (vr_b (decide (f.code = 24))) := by rw [decide_eq_false (fun z => h1 ((vr_sm (v := 24) (by omega) (by decide) rfl).mpr z))]; rfl
    exact ⟨_, _, by rw [ev], rfl, rfl⟩
  · refine jv_Wp.lift (fun _ Kz => jv_Ev.steps jv_i262 2 (pc' := 14) (l' := [(0, .ref 196)]) (st' := [.int (1 : Int32)]) rfl Kz) ?_
    refine jv_Wp.of (jv_Ev.ret jv_i262 rfl (jv_ret_b (Or.inr rfl))) ?_
    rw [hQ]
    have ev : (1 : Int32) = (vr_b (decide (f.code = 24))) := by rw [decide_eq_true ((vr_sm (v := 24) (by omega) (by decide) rfl).mp (Classical.not_not.mp h1))]; rfl
    exact ⟨_, _, by rw [ev], rfl, rfl⟩
theorem vq_isWide {K : Nat → Option (Nat × Nat)} {I : Nat → Nat → Int32} {L : Nat → Nat → Int64} {R : Nat → Nat → Value} (f : vf_F) (hW : jv_rW K R) (D : vr_dec I f) {n sl : Nat} : jv_Ms 262 [.ref 196] (jv_H K I L R) n sl (some (.int (vr_b (decide (f.code = 24)))), jv_H K I L R, n, sl) := by
  obtain ⟨I1, L1, H, ei, el⟩ := vq_isWide_ (n := n) (sl := sl) f hW D
  rw [ei, el] at H
  exact H