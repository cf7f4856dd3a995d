/-! part f11: atomic and wide instructions of the class (gen/tf11.py) -/
theorem vw_l89 {w : Int64} {f : vf_F} (ef : vc_F w = f) {k : Int} (hk : f.i = k) {x : Int32} (hx : x.toInt = k) {G : jv_G} {n sl : Nat} : jv_Ms 89 [.long w] G n sl (some (.int x), G, n, sl) := by
  have e : Int32.ofInt f.i = x := Int32.toInt_inj.mp (by rw [vw_dQ ef, hk, hx])
  have h := vw_f89 ef (G := G) (n := n) (sl := sl)
  rw [e] at h; exact h
theorem vm_al {a : Int64} {z : Nat} (hz : z = 1 ∨ z = 2 ∨ z = 4 ∨ z = 8) (h : a.toInt % (z : Int) = 0) : (a &&& ((vl_I z) - (1 : Int32)).toInt64) = (0 : Int64) := by
  have key : ∀ (k : Nat) (m : Int64), m.toBitVec.toNat = 2 ^ k - 1 → (a.toBitVec.toNat) % 2 ^ k = 0 → (a &&& m) = (0 : Int64) := fun k m hm h0 => by
    refine Int64.toBitVec_inj.mp (BitVec.eq_of_toNat_eq ?_)
    rw [Int64.toBitVec_and, BitVec.toNat_and, hm, Nat.and_two_pow_sub_one_eq_mod, h0]; rfl
  have e : a.toInt = (a.toBitVec.toNat : Int) ∨ a.toInt = (a.toBitVec.toNat : Int) - 18446744073709551616 := by
    show a.toBitVec.toInt = _ ∨ a.toBitVec.toInt = _
    rw [BitVec.toInt_eq_toNat_cond]
    split
    · exact Or.inl rfl
    · exact Or.inr rfl
  rcases hz with z | z | z | z <;> subst z
  · exact key 0 _ (by decide) (Nat.mod_one _)
  · exact key 1 _ (by decide) (by omega)
  · exact key 2 _ (by decide) (by omega)
  · exact key 3 _ (by decide) (by omega)
theorem jv_i62 : jv_I 62 13 none 3 73 jv_c62 := ⟨rfl, rfl, rfl, rfl, rfl⟩
theorem vc_atomic0 {K : Nat → Option (Nat × Nat)} {I : Nat → Nat → Int32} {L : Nat → Nat → Int64} {R : Nat → Nat → Value} (hC : vm_CW K R) {S T : vm_S} (h : vm_c I L S) {w : Int64} {f : vf_F} (ef : vc_F w = f) (hd : f.d < 11) (hs : f.s < 11) (hi : f.i = 0) (hl : vm_atomic 1073750528 1073807360 f S = some T) {n sl : Nat} : ∃ I1 L1, jv_Ms 62 [.ref 171, .long w] (jv_H K I L R) n sl (none, jv_H K I1 L1 R, n, sl) ∧ vm_c I1 L1 T ∧ vc_ff vm_Er I L I1 L1 := by
  obtain ⟨Q, hQ⟩ : ∃ Q : jv_R → Prop, Q = fun X => ∃ I1 L1, X = (none, jv_H K I1 L1 R, n, sl) ∧ vm_c I1 L1 T ∧ vc_ff vm_Er I L I1 L1 := ⟨_, rfl⟩
  suffices hE : jv_Wp 62 0 [(0, .ref 171), (1, .long w)] [] (jv_H K I L R) n sl Q by
    rw [hQ] at hE
    obtain ⟨X, hE, I1, L1, e, h'⟩ := hE
    subst e
    exact ⟨I1, L1, hE, h'⟩
  obtain ⟨xd, y, q, old, U, hgd, hgs, hq, hal0, hnum, hU, hT⟩ := vm_atomic_dec hl
  obtain ⟨xs, exs⟩ : ∃ xs, xs = y := ⟨y, rfl⟩
  have hgs : vm_rd S f.s = some xs := exs ▸ hgs
  have z4 := vf_z_cases f
  have z8 : f.z ≤ 8 := by rcases z4 with e | e | e | e <;> omega
  obtain ⟨B, hB, eB⟩ := vc_mnum h.1.2 hnum
  have hRD := vc_mread (n := n) (sl := sl) hC h hB (by omega)
  obtain ⟨I2, hW, hm, hf⟩ := vc_mwrite (n := n) (sl := sl) (R := R) hC z8 h hU
  have hal := vm_al z4 hal0
  rw [← vm_io (vw_dO ef)] at hW hRD hal
  rw [eB] at hRD
  rw [if_neg (show ¬ f.i = 241 by omega), if_neg (show ¬ f.i % 2 = 1 by omega)] at hT
  subst hT
  refine jv_Wp.lift (fun _ Kz => jv_Ev.steps jv_i62 1 (pc' := 1) (l' := [(0, .ref 171), (1, .long w)]) (st' := [.long w]) rfl Kz) ?_
  refine jv_Wp.lift (fun _ Kz => jv_Ev.c jv_i62 (pc' := 4) (S' := [.int (vl_I f.z)]) jv_i85 [.long w] rfl rfl rfl rfl rfl rfl (vw_f85 ef) rfl rfl Kz) ?_
  refine jv_Wp.lift (fun _ Kz => jv_Ev.steps jv_i62 2 (pc' := 6) (l' := [(3, .int (vl_I f.z)), (0, .ref 171), (1, .long w)]) (st' := [.long w]) rfl Kz) ?_
  refine jv_Wp.lift (fun _ Kz => jv_Ev.c jv_i62 (pc' := 9) (S' := [.int (0 : Int32)]) jv_i89 [.long w] rfl rfl rfl rfl rfl rfl (vw_l89 ef hi (by decide)) rfl rfl Kz) ?_
  refine jv_Wp.lift (fun _ Kz => jv_Ev.steps jv_i62 3 (pc' := 13) (l' := [(4, .int (0 : Int32)), (3, .int (vl_I f.z)), (0, .ref 171), (1, .long w)]) (st' := [.long w, .ref 171]) rfl Kz) ?_
  refine jv_Wp.lift (fun _ Kz => jv_Ev.c jv_i62 (pc' := 16) (S' := [.int (vl_I f.d), .ref 171]) jv_i86 [.long w] rfl rfl rfl rfl rfl rfl (vw_f86 ef) rfl rfl Kz) ?_
  refine jv_Wp.lift (fun _ Kz => jv_Ev.c jv_i62 (pc' := 19) (S' := [.long xd]) jv_i53 [.ref 171, .int (vl_I f.d)] rfl rfl rfl rfl (jv_cal rfl (jv_H_at (vm_cK hC 171 2 13 (by decide))) rfl rfl) rfl (vm_cget hC h hd hgd) rfl rfl Kz) ?_
  refine jv_Wp.lift (fun _ Kz => jv_Ev.steps jv_i62 1 (pc' := 20) (l' := [(4, .int (0 : Int32)), (3, .int (vl_I f.z)), (0, .ref 171), (1, .long w)]) (st' := [.long w, .long xd]) rfl Kz) ?_
  refine jv_Wp.lift (fun _ Kz => jv_Ev.c jv_i62 (pc' := 23) (S' := [.int (Int32.ofInt f.o), .long xd]) jv_i88 [.long w] rfl rfl rfl rfl rfl rfl (vw_f88 ef) rfl rfl Kz) ?_
  refine jv_Wp.lift (fun _ Kz => jv_Ev.steps jv_i62 5 (pc' := 29) (l' := [(5, .long (xd + (Int32.ofInt f.o).toInt64)), (4, .int (0 : Int32)), (3, .int (vl_I f.z)), (0, .ref 171), (1, .long w)]) (st' := [.long w, .ref 171]) rfl Kz) ?_
  refine jv_Wp.lift (fun _ Kz => jv_Ev.c jv_i62 (pc' := 32) (S' := [.int (vl_I f.s), .ref 171]) jv_i87 [.long w] rfl rfl rfl rfl rfl rfl (vw_f87 ef) rfl rfl Kz) ?_
  refine jv_Wp.lift (fun _ Kz => jv_Ev.c jv_i62 (pc' := 35) (S' := [.long xs]) jv_i53 [.ref 171, .int (vl_I f.s)] rfl rfl rfl rfl (jv_cal rfl (jv_H_at (vm_cK hC 171 2 13 (by decide))) rfl rfl) rfl (vm_cget hC h hs hgs) rfl rfl Kz) ?_
  refine jv_Wp.lift (fun _ Kz => jv_Ev.steps jv_i62 9 (pc' := 46) (l' := [(7, .long xs), (5, .long (xd + (Int32.ofInt f.o).toInt64)), (4, .int (0 : Int32)), (3, .int (vl_I f.z)), (0, .ref 171), (1, .long w)]) (st' := [.int (lg_cmp ((xd + (Int32.ofInt f.o).toInt64) &&& ((vl_I f.z) - (1 : Int32)).toInt64) (0 : Int64))]) rfl Kz) ?_
  refine jv_Wp.cnd jv_i62 (pt := 59) (pe := 49) (p := ((lg_cmp ((xd + (Int32.ofInt f.o).toInt64) &&& ((vl_I f.z) - (1 : Int32)).toInt64) (0 : Int64)) = 0)) (q := (((xd + (Int32.ofInt f.o).toInt64) &&& ((vl_I f.z) - (1 : Int32)).toInt64) = (0 : Int64))) rfl jv_bi_eq rfl rfl (lg_cmp_eq ((xd + (Int32.ofInt f.o).toInt64) &&& ((vl_I f.z) - (1 : Int32)).toInt64) (0 : Int64)) (fun _ => ?_) (fun hz => absurd hal hz)
  refine jv_Wp.lift (fun _ Kz => jv_Ev.steps jv_i62 3 (pc' := 63) (l' := [(7, .long xs), (5, .long (xd + (Int32.ofInt f.o).toInt64)), (4, .int (0 : Int32)), (3, .int (vl_I f.z)), (0, .ref 171), (1, .long w)]) (st' := [.int (vl_I f.z), .long (xd + (Int32.ofInt f.o).toInt64), .ref 171]) rfl Kz) ?_
  refine jv_Wp.lift (fun _ Kz => jv_Ev.c jv_i62 (pc' := 66) (S' := [.long (vm_J old)]) jv_i58 [.ref 171, .long (xd + (Int32.ofInt f.o).toInt64), .int (vl_I f.z)] rfl rfl rfl rfl (jv_cal rfl (jv_H_at (vm_cK hC 171 2 13 (by decide))) rfl rfl) rfl hRD rfl rfl Kz) ?_
  refine jv_Wp.lift (fun _ Kz => jv_Ev.steps jv_i62 4 (pc' := 73) (l' := [(9, .long (vm_J old)), (7, .long xs), (5, .long (xd + (Int32.ofInt f.o).toInt64)), (4, .int (0 : Int32)), (3, .int (vl_I f.z)), (0, .ref 171), (1, .long w)]) (st' := [.int (0 : Int32)]) rfl Kz) ?_
  refine jv_Wp.lift (fun _ Kz => jv_Ev.br jv_i62 (pc' := 124) (st' := []) rfl (by rfl) Kz) ?_
  refine jv_Wp.lift (fun _ Kz => jv_Ev.steps jv_i62 9 (pc' := 205) (l' := [(11, .long ((vm_J old) + xs)), (9, .long (vm_J old)), (7, .long xs), (5, .long (xd + (Int32.ofInt f.o).toInt64)), (4, .int (0 : Int32)), (3, .int (vl_I f.z)), (0, .ref 171), (1, .long w)]) (st' := [.long ((vm_J old) + xs), .int (vl_I f.z), .long (xd + (Int32.ofInt f.o).toInt64), .ref 171]) rfl Kz) ?_
  have ev : ((vm_J old) + xs) = Int64.ofBitVec (vm_new f (BitVec.ofNat 64 old) y.toBitVec q.toBitVec) := Int64.toBitVec_inj.mp (by rw [Int64.toBitVec_add, exs]; show _ = vm_new f (BitVec.ofNat 64 old) y.toBitVec q.toBitVec; unfold vm_new; rw [if_pos (show f.i = 0 ∨ f.i = 1 by omega)]; rfl)
  refine jv_Wp.lift (fun _ Kz => jv_Ev.c jv_i62 (pc' := 208) (S' := []) (G1 := (jv_H K I2 L R)) jv_i60 [.ref 171, .long (xd + (Int32.ofInt f.o).toInt64), .int (vl_I f.z), .long ((vm_J old) + xs)] rfl rfl rfl rfl (jv_cal rfl (jv_H_at (vm_cK hC 171 2 13 (by decide))) rfl rfl) rfl (show jv_Ms 60 [.ref 171, .long (xd + (Int32.ofInt f.o).toInt64), .int (vl_I f.z), .long ((vm_J old) + xs)] _ _ _ _ from by rw [ev]; exact hW) rfl rfl Kz) ?_
  refine jv_Wp.lift (fun _ Kz => jv_Ev.steps jv_i62 3 (pc' := 212) (l' := [(11, .long ((vm_J old) + xs)), (9, .long (vm_J old)), (7, .long xs), (5, .long (xd + (Int32.ofInt f.o).toInt64)), (4, .int (0 : Int32)), (3, .int (vl_I f.z)), (0, .ref 171), (1, .long w)]) (st' := [.int (0 : Int32)]) rfl Kz) ?_
  refine jv_Wp.lift (fun _ Kz => jv_Ev.br jv_i62 (pc' := 237) (st' := []) rfl (by rfl) Kz) ?_
  refine jv_Wp.of (jv_Ev.ret jv_i62 rfl rfl) ?_
  rw [hQ]
  exact ⟨_, _, rfl, hm, vc_ff_le (fun _ _ z => Or.inl z) hf⟩
theorem vc_atomic1 {K : Nat → Option (Nat × Nat)} {I : Nat → Nat → Int32} {L : Nat → Nat → Int64} {R : Nat → Nat → Value} (hC : vm_CW K R) {S T : vm_S} (h : vm_c I L S) {w : Int64} {f : vf_F} (ef : vc_F w = f) (hd : f.d < 11) (hs : f.s < 11) (hi : f.i = 1) (hl : vm_atomic 1073750528 1073807360 f S = some T) {n sl : Nat} : ∃ I1 L1, jv_Ms 62 [.ref 171, .long w] (jv_H K I L R) n sl (none, jv_H K I1 L1 R, n, sl) ∧ vm_c I1 L1 T ∧ vc_ff vm_Er I L I1 L1 := by
  obtain ⟨Q, hQ⟩ : ∃ Q : jv_R → Prop, Q = fun X => ∃ I1 L1, X = (none, jv_H K I1 L1 R, n, sl) ∧ vm_c I1 L1 T ∧ vc_ff vm_Er I L I1 L1 := ⟨_, rfl⟩
  suffices hE : jv_Wp 62 0 [(0, .ref 171), (1, .long w)] [] (jv_H K I L R) n sl Q by
    rw [hQ] at hE
    obtain ⟨X, hE, I1, L1, e, h'⟩ := hE
    subst e
    exact ⟨I1, L1, hE, h'⟩
  obtain ⟨xd, y, q, old, U, hgd, hgs, hq, hal0, hnum, hU, hT⟩ := vm_atomic_dec hl
  obtain ⟨xs, exs⟩ : ∃ xs, xs = y := ⟨y, rfl⟩
  have hgs : vm_rd S f.s = some xs := exs ▸ hgs
  have z4 := vf_z_cases f
  have z8 : f.z ≤ 8 := by rcases z4 with e | e | e | e <;> omega
  obtain ⟨B, hB, eB⟩ := vc_mnum h.1.2 hnum
  have hRD := vc_mread (n := n) (sl := sl) hC h hB (by omega)
  obtain ⟨I2, hW, hm, hf⟩ := vc_mwrite (n := n) (sl := sl) (R := R) hC z8 h hU
  have hal := vm_al z4 hal0
  rw [← vm_io (vw_dO ef)] at hW hRD hal
  rw [eB] at hRD
  rw [if_neg (show ¬ f.i = 241 by omega), if_pos (show f.i % 2 = 1 by omega)] at hT
  subst hT
  refine jv_Wp.lift (fun _ Kz => jv_Ev.steps jv_i62 1 (pc' := 1) (l' := [(0, .ref 171), (1, .long w)]) (st' := [.long w]) rfl Kz) ?_
  refine jv_Wp.lift (fun _ Kz => jv_Ev.c jv_i62 (pc' := 4) (S' := [.int (vl_I f.z)]) jv_i85 [.long w] rfl rfl rfl rfl rfl rfl (vw_f85 ef) rfl rfl Kz) ?_
  refine jv_Wp.lift (fun _ Kz => jv_Ev.steps jv_i62 2 (pc' := 6) (l' := [(3, .int (vl_I f.z)), (0, .ref 171), (1, .long w)]) (st' := [.long w]) rfl Kz) ?_
  refine jv_Wp.lift (fun _ Kz => jv_Ev.c jv_i62 (pc' := 9) (S' := [.int (1 : Int32)]) jv_i89 [.long w] rfl rfl rfl rfl rfl rfl (vw_l89 ef hi (by decide)) rfl rfl Kz) ?_
  refine jv_Wp.lift (fun _ Kz => jv_Ev.steps jv_i62 3 (pc' := 13) (l' := [(4, .int (1 : Int32)), (3, .int (vl_I f.z)), (0, .ref 171), (1, .long w)]) (st' := [.long w, .ref 171]) rfl Kz) ?_
  refine jv_Wp.lift (fun _ Kz => jv_Ev.c jv_i62 (pc' := 16) (S' := [.int (vl_I f.d), .ref 171]) jv_i86 [.long w] rfl rfl rfl rfl rfl rfl (vw_f86 ef) rfl rfl Kz) ?_
  refine jv_Wp.lift (fun _ Kz => jv_Ev.c jv_i62 (pc' := 19) (S' := [.long xd]) jv_i53 [.ref 171, .int (vl_I f.d)] rfl rfl rfl rfl (jv_cal rfl (jv_H_at (vm_cK hC 171 2 13 (by decide))) rfl rfl) rfl (vm_cget hC h hd hgd) rfl rfl Kz) ?_
  refine jv_Wp.lift (fun _ Kz => jv_Ev.steps jv_i62 1 (pc' := 20) (l' := [(4, .int (1 : Int32)), (3, .int (vl_I f.z)), (0, .ref 171), (1, .long w)]) (st' := [.long w, .long xd]) rfl Kz) ?_
  refine jv_Wp.lift (fun _ Kz => jv_Ev.c jv_i62 (pc' := 23) (S' := [.int (Int32.ofInt f.o), .long xd]) jv_i88 [.long w] rfl rfl rfl rfl rfl rfl (vw_f88 ef) rfl rfl Kz) ?_
  refine jv_Wp.lift (fun _ Kz => jv_Ev.steps jv_i62 5 (pc' := 29) (l' := [(5, .long (xd + (Int32.ofInt f.o).toInt64)), (4, .int (1 : Int32)), (3, .int (vl_I f.z)), (0, .ref 171), (1, .long w)]) (st' := [.long w, .ref 171]) rfl Kz) ?_
  refine jv_Wp.lift (fun _ Kz => jv_Ev.c jv_i62 (pc' := 32) (S' := [.int (vl_I f.s), .ref 171]) jv_i87 [.long w] rfl rfl rfl rfl rfl rfl (vw_f87 ef) rfl rfl Kz) ?_
  refine jv_Wp.lift (fun _ Kz => jv_Ev.c jv_i62 (pc' := 35) (S' := [.long xs]) jv_i53 [.ref 171, .int (vl_I f.s)] rfl rfl rfl rfl (jv_cal rfl (jv_H_at (vm_cK hC 171 2 13 (by decide))) rfl rfl) rfl (vm_cget hC h hs hgs) rfl rfl Kz) ?_
  refine jv_Wp.lift (fun _ Kz => jv_Ev.steps jv_i62 9 (pc' := 46) (l' := [(7, .long xs), (5, .long (xd + (Int32.ofInt f.o).toInt64)), (4, .int (1 : Int32)), (3, .int (vl_I f.z)), (0, .ref 171), (1, .long w)]) (st' := [.int (lg_cmp ((xd + (Int32.ofInt f.o).toInt64) &&& ((vl_I f.z) - (1 : Int32)).toInt64) (0 : Int64))]) rfl Kz) ?_
  refine jv_Wp.cnd jv_i62 (pt := 59) (pe := 49) (p := ((lg_cmp ((xd + (Int32.ofInt f.o).toInt64) &&& ((vl_I f.z) - (1 : Int32)).toInt64) (0 : Int64)) = 0)) (q := (((xd + (Int32.ofInt f.o).toInt64) &&& ((vl_I f.z) - (1 : Int32)).toInt64) = (0 : Int64))) rfl jv_bi_eq rfl rfl (lg_cmp_eq ((xd + (Int32.ofInt f.o).toInt64) &&& ((vl_I f.z) - (1 : Int32)).toInt64) (0 : Int64)) (fun _ => ?_) (fun hz => absurd hal hz)
  refine jv_Wp.lift (fun _ Kz => jv_Ev.steps jv_i62 3 (pc' := 63) (l' := [(7, .long xs), (5, .long (xd + (Int32.ofInt f.o).toInt64)), (4, .int (1 : Int32)), (3, .int (vl_I f.z)), (0, .ref 171), (1, .long w)]) (st' := [.int (vl_I f.z), .long (xd + (Int32.ofInt f.o).toInt64), .ref 171]) rfl Kz) ?_
  refine jv_Wp.lift (fun _ Kz => jv_Ev.c jv_i62 (pc' := 66) (S' := [.long (vm_J old)]) jv_i58 [.ref 171, .long (xd + (Int32.ofInt f.o).toInt64), .int (vl_I f.z)] rfl rfl rfl rfl (jv_cal rfl (jv_H_at (vm_cK hC 171 2 13 (by decide))) rfl rfl) rfl hRD rfl rfl Kz) ?_
  refine jv_Wp.lift (fun _ Kz => jv_Ev.steps jv_i62 4 (pc' := 73) (l' := [(9, .long (vm_J old)), (7, .long xs), (5, .long (xd + (Int32.ofInt f.o).toInt64)), (4, .int (1 : Int32)), (3, .int (vl_I f.z)), (0, .ref 171), (1, .long w)]) (st' := [.int (0 : Int32)]) rfl Kz) ?_
  refine jv_Wp.lift (fun _ Kz => jv_Ev.br jv_i62 (pc' := 124) (st' := []) rfl (by rfl) Kz) ?_
  refine jv_Wp.lift (fun _ Kz => jv_Ev.steps jv_i62 9 (pc' := 205) (l' := [(11, .long ((vm_J old) + xs)), (9, .long (vm_J old)), (7, .long xs), (5, .long (xd + (Int32.ofInt f.o).toInt64)), (4, .int (1 : Int32)), (3, .int (vl_I f.z)), (0, .ref 171), (1, .long w)]) (st' := [.long ((vm_J old) + xs), .int (vl_I f.z), .long (xd + (Int32.ofInt f.o).toInt64), .ref 171]) rfl Kz) ?_
  have ev : ((vm_J old) + xs) = Int64.ofBitVec (vm_new f (BitVec.ofNat 64 old) y.toBitVec q.toBitVec) := Int64.toBitVec_inj.mp (by rw [Int64.toBitVec_add, exs]; show _ = vm_new f (BitVec.ofNat 64 old) y.toBitVec q.toBitVec; unfold vm_new; rw [if_pos (show f.i = 0 ∨ f.i = 1 by omega)]; rfl)
  refine jv_Wp.lift (fun _ Kz => jv_Ev.c jv_i62 (pc' := 208) (S' := []) (G1 := (jv_H K I2 L R)) jv_i60 [.ref 171, .long (xd + (Int32.ofInt f.o).toInt64), .int (vl_I f.z), .long ((vm_J old) + xs)] rfl rfl rfl rfl (jv_cal rfl (jv_H_at (vm_cK hC 171 2 13 (by decide))) rfl rfl) rfl (show jv_Ms 60 [.ref 171, .long (xd + (Int32.ofInt f.o).toInt64), .int (vl_I f.z), .long ((vm_J old) + xs)] _ _ _ _ from by rw [ev]; exact hW) rfl rfl Kz) ?_
  refine jv_Wp.lift (fun _ Kz => jv_Ev.steps jv_i62 3 (pc' := 212) (l' := [(11, .long ((vm_J old) + xs)), (9, .long (vm_J old)), (7, .long xs), (5, .long (xd + (Int32.ofInt f.o).toInt64)), (4, .int (1 : Int32)), (3, .int (vl_I f.z)), (0, .ref 171), (1, .long w)]) (st' := [.int (1 : Int32)]) rfl Kz) ?_
  refine jv_Wp.lift (fun _ Kz => jv_Ev.br jv_i62 (pc' := 215) (st' := []) rfl (by rfl) Kz) ?_
  refine jv_Wp.lift (fun _ Kz => jv_Ev.steps jv_i62 3 (pc' := 221) (l' := [(11, .long ((vm_J old) + xs)), (9, .long (vm_J old)), (7, .long xs), (5, .long (xd + (Int32.ofInt f.o).toInt64)), (4, .int (1 : Int32)), (3, .int (vl_I f.z)), (0, .ref 171), (1, .long w)]) (st' := [.int (241 : Int32), .int (1 : Int32), .ref 171]) rfl Kz) ?_
  refine jv_Wp.lift (fun _ Kz => jv_Ev.br jv_i62 (pc' := 228) (st' := [.ref 171]) rfl (by rfl) Kz) ?_
  refine jv_Wp.lift (fun _ Kz => jv_Ev.steps jv_i62 1 (pc' := 229) (l' := [(11, .long ((vm_J old) + xs)), (9, .long (vm_J old)), (7, .long xs), (5, .long (xd + (Int32.ofInt f.o).toInt64)), (4, .int (1 : Int32)), (3, .int (vl_I f.z)), (0, .ref 171), (1, .long w)]) (st' := [.long w, .ref 171]) rfl Kz) ?_
  refine jv_Wp.lift (fun _ Kz => jv_Ev.c jv_i62 (pc' := 232) (S' := [.int (vl_I f.s), .ref 171]) jv_i87 [.long w] rfl rfl rfl rfl rfl rfl (vw_f87 ef) rfl rfl Kz) ?_
  refine jv_Wp.lift (fun _ Kz => jv_Ev.steps jv_i62 1 (pc' := 234) (l' := [(11, .long ((vm_J old) + xs)), (9, .long (vm_J old)), (7, .long xs), (5, .long (xd + (Int32.ofInt f.o).toInt64)), (4, .int (1 : Int32)), (3, .int (vl_I f.z)), (0, .ref 171), (1, .long w)]) (st' := [.long (vm_J old), .int (vl_I f.s), .ref 171]) rfl Kz) ?_
  refine jv_Wp.lift (fun _ Kz => jv_Ev.c jv_i62 (pc' := 237) (S' := []) (G1 := (jv_H K (jv_u I2 171 2 ((I2 171 2) ||| ((1 : Int32) <<< ((vl_I f.s) &&& 31)))) (jv_u L 172 f.s (vm_J old)) R)) jv_i54 [.ref 171, .int (vl_I f.s), .long (vm_J old)] rfl rfl rfl rfl (jv_cal rfl (jv_H_at (vm_cK hC 171 2 13 (by decide))) rfl rfl) rfl (vm_cset (I := I2) (L := L) (n := n) (sl := sl) (r := f.s) hC (by omega)) rfl rfl Kz) ?_
  refine jv_Wp.of (jv_Ev.ret jv_i62 rfl rfl) ?_
  rw [hQ]
  exact ⟨_, _, rfl, vc_m_gv (r := f.s) hm hs, vm_gv_ff (vc_ff_le (fun _ _ z => Or.inl z) hf)⟩
theorem vc_atomic64 {K : Nat → Option (Nat × Nat)} {I : Nat → Nat → Int32} {L : Nat → Nat → Int64} {R : Nat → Nat → Value} (hC : vm_CW K R) {S T : vm_S} (h : vm_c I L S) {w : Int64} {f : vf_F} (ef : vc_F w = f) (hd : f.d < 11) (hs : f.s < 11) (hi : f.i = 64) (hl : vm_atomic 1073750528 1073807360 f S = some T) {n sl : Nat} : ∃ I1 L1, jv_Ms 62 [.ref 171, .long w] (jv_H K I L R) n sl (none, jv_H K I1 L1 R, n, sl) ∧ vm_c I1 L1 T ∧ vc_ff vm_Er I L I1 L1 := by
  obtain ⟨Q, hQ⟩ : ∃ Q : jv_R → Prop, Q = fun X => ∃ I1 L1, X = (none, jv_H K I1 L1 R, n, sl) ∧ vm_c I1 L1 T ∧ vc_ff vm_Er I L I1 L1 := ⟨_, rfl⟩
  suffices hE : jv_Wp 62 0 [(0, .ref 171), (1, .long w)] [] (jv_H K I L R) n sl Q by
    rw [hQ] at hE
    obtain ⟨X, hE, I1, L1, e, h'⟩ := hE
    subst e
    exact ⟨I1, L1, hE, h'⟩
  obtain ⟨xd, y, q, old, U, hgd, hgs, hq, hal0, hnum, hU, hT⟩ := vm_atomic_dec hl
  obtain ⟨xs, exs⟩ : ∃ xs, xs = y := ⟨y, rfl⟩
  have hgs : vm_rd S f.s = some xs := exs ▸ hgs
  have z4 := vf_z_cases f
  have z8 : f.z ≤ 8 := by rcases z4 with e | e | e | e <;> omega
  obtain ⟨B, hB, eB⟩ := vc_mnum h.1.2 hnum
  have hRD := vc_mread (n := n) (sl := sl) hC h hB (by omega)
  obtain ⟨I2, hW, hm, hf⟩ := vc_mwrite (n := n) (sl := sl) (R := R) hC z8 h hU
  have hal := vm_al z4 hal0
  rw [← vm_io (vw_dO ef)] at hW hRD hal
  rw [eB] at hRD
  rw [if_neg (show ¬ f.i = 241 by omega), if_neg (show ¬ f.i % 2 = 1 by omega)] at hT
  subst hT
  refine jv_Wp.lift (fun _ Kz => jv_Ev.steps jv_i62 1 (pc' := 1) (l' := [(0, .ref 171), (1, .long w)]) (st' := [.long w]) rfl Kz) ?_
  refine jv_Wp.lift (fun _ Kz => jv_Ev.c jv_i62 (pc' := 4) (S' := [.int (vl_I f.z)]) jv_i85 [.long w] rfl rfl rfl rfl rfl rfl (vw_f85 ef) rfl rfl Kz) ?_
  refine jv_Wp.lift (fun _ Kz => jv_Ev.steps jv_i62 2 (pc' := 6) (l' := [(3, .int (vl_I f.z)), (0, .ref 171), (1, .long w)]) (st' := [.long w]) rfl Kz) ?_
  refine jv_Wp.lift (fun _ Kz => jv_Ev.c jv_i62 (pc' := 9) (S' := [.int (64 : Int32)]) jv_i89 [.long w] rfl rfl rfl rfl rfl rfl (vw_l89 ef hi (by decide)) rfl rfl Kz) ?_
  refine jv_Wp.lift (fun _ Kz => jv_Ev.steps jv_i62 3 (pc' := 13) (l' := [(4, .int (64 : Int32)), (3, .int (vl_I f.z)), (0, .ref 171), (1, .long w)]) (st' := [.long w, .ref 171]) rfl Kz) ?_
  refine jv_Wp.lift (fun _ Kz => jv_Ev.c jv_i62 (pc' := 16) (S' := [.int (vl_I f.d), .ref 171]) jv_i86 [.long w] rfl rfl rfl rfl rfl rfl (vw_f86 ef) rfl rfl Kz) ?_
  refine jv_Wp.lift (fun _ Kz => jv_Ev.c jv_i62 (pc' := 19) (S' := [.long xd]) jv_i53 [.ref 171, .int (vl_I f.d)] rfl rfl rfl rfl (jv_cal rfl (jv_H_at (vm_cK hC 171 2 13 (by decide))) rfl rfl) rfl (vm_cget hC h hd hgd) rfl rfl Kz) ?_
  refine jv_Wp.lift (fun _ Kz => jv_Ev.steps jv_i62 1 (pc' := 20) (l' := [(4, .int (64 : Int32)), (3, .int (vl_I f.z)), (0, .ref 171), (1, .long w)]) (st' := [.long w, .long xd]) rfl Kz) ?_
  refine jv_Wp.lift (fun _ Kz => jv_Ev.c jv_i62 (pc' := 23) (S' := [.int (Int32.ofInt f.o), .long xd]) jv_i88 [.long w] rfl rfl rfl rfl rfl rfl (vw_f88 ef) rfl rfl Kz) ?_
  refine jv_Wp.lift (fun _ Kz => jv_Ev.steps jv_i62 5 (pc' := 29) (l' := [(5, .long (xd + (Int32.ofInt f.o).toInt64)), (4, .int (64 : Int32)), (3, .int (vl_I f.z)), (0, .ref 171), (1, .long w)]) (st' := [.long w, .ref 171]) rfl Kz) ?_
  refine jv_Wp.lift (fun _ Kz => jv_Ev.c jv_i62 (pc' := 32) (S' := [.int (vl_I f.s), .ref 171]) jv_i87 [.long w] rfl rfl rfl rfl rfl rfl (vw_f87 ef) rfl rfl Kz) ?_
  refine jv_Wp.lift (fun _ Kz => jv_Ev.c jv_i62 (pc' := 35) (S' := [.long xs]) jv_i53 [.ref 171, .int (vl_I f.s)] rfl rfl rfl rfl (jv_cal rfl (jv_H_at (vm_cK hC 171 2 13 (by decide))) rfl rfl) rfl (vm_cget hC h hs hgs) rfl rfl Kz) ?_
  refine jv_Wp.lift (fun _ Kz => jv_Ev.steps jv_i62 9 (pc' := 46) (l' := [(7, .long xs), (5, .long (xd + (Int32.ofInt f.o).toInt64)), (4, .int (64 : Int32)), (3, .int (vl_I f.z)), (0, .ref 171), (1, .long w)]) (st' := [.int (lg_cmp ((xd + (Int32.ofInt f.o).toInt64) &&& ((vl_I f.z) - (1 : Int32)).toInt64) (0 : Int64))]) rfl Kz) ?_
  refine jv_Wp.cnd jv_i62 (pt := 59) (pe := 49) (p := ((lg_cmp ((xd + (Int32.ofInt f.o).toInt64) &&& ((vl_I f.z) - (1 : Int32)).toInt64) (0 : Int64)) = 0)) (q := (((xd + (Int32.ofInt f.o).toInt64) &&& ((vl_I f.z) - (1 : Int32)).toInt64) = (0 : Int64))) rfl jv_bi_eq rfl rfl (lg_cmp_eq ((xd + (Int32.ofInt f.o).toInt64) &&& ((vl_I f.z) - (1 : Int32)).toInt64) (0 : Int64)) (fun _ => ?_) (fun hz => absurd hal hz)
  refine jv_Wp.lift (fun _ Kz => jv_Ev.steps jv_i62 3 (pc' := 63) (l' := [(7, .long xs), (5, .long (xd + (Int32.ofInt f.o).toInt64)), (4, .int (64 : Int32)), (3, .int (vl_I f.z)), (0, .ref 171), (1, .long w)]) (st' := [.int (vl_I f.z), .long (xd + (Int32.ofInt f.o).toInt64), .ref 171]) rfl Kz) ?_
  refine jv_Wp.lift (fun _ Kz => jv_Ev.c jv_i62 (pc' := 66) (S' := [.long (vm_J old)]) jv_i58 [.ref 171, .long (xd + (Int32.ofInt f.o).toInt64), .int (vl_I f.z)] rfl rfl rfl rfl (jv_cal rfl (jv_H_at (vm_cK hC 171 2 13 (by decide))) rfl rfl) rfl hRD rfl rfl Kz) ?_
  refine jv_Wp.lift (fun _ Kz => jv_Ev.steps jv_i62 4 (pc' := 73) (l' := [(9, .long (vm_J old)), (7, .long xs), (5, .long (xd + (Int32.ofInt f.o).toInt64)), (4, .int (64 : Int32)), (3, .int (vl_I f.z)), (0, .ref 171), (1, .long w)]) (st' := [.int (64 : Int32)]) rfl Kz) ?_
  refine jv_Wp.lift (fun _ Kz => jv_Ev.br jv_i62 (pc' := 134) (st' := []) rfl (by rfl) Kz) ?_
  refine jv_Wp.lift (fun _ Kz => jv_Ev.steps jv_i62 9 (pc' := 205) (l' := [(11, .long ((vm_J old) ||| xs)), (9, .long (vm_J old)), (7, .long xs), (5, .long (xd + (Int32.ofInt f.o).toInt64)), (4, .int (64 : Int32)), (3, .int (vl_I f.z)), (0, .ref 171), (1, .long w)]) (st' := [.long ((vm_J old) ||| xs), .int (vl_I f.z), .long (xd + (Int32.ofInt f.o).toInt64), .ref 171]) rfl Kz) ?_
  have ev : ((vm_J old) ||| xs) = Int64.ofBitVec (vm_new f (BitVec.ofNat 64 old) y.toBitVec q.toBitVec) := Int64.toBitVec_inj.mp (by rw [Int64.toBitVec_or, exs]; show _ = vm_new f (BitVec.ofNat 64 old) y.toBitVec q.toBitVec; unfold vm_new; rw [if_neg (show ¬ (f.i = 0 ∨ f.i = 1) by omega), if_pos (show f.i = 64 ∨ f.i = 65 by omega)]; rfl)
  refine jv_Wp.lift (fun _ Kz => jv_Ev.c jv_i62 (pc' := 208) (S' := []) (G1 := (jv_H K I2 L R)) jv_i60 [.ref 171, .long (xd + (Int32.ofInt f.o).toInt64), .int (vl_I f.z), .long ((vm_J old) ||| xs)] rfl rfl rfl rfl (jv_cal rfl (jv_H_at (vm_cK hC 171 2 13 (by decide))) rfl rfl) rfl (show jv_Ms 60 [.ref 171, .long (xd + (Int32.ofInt f.o).toInt64), .int (vl_I f.z), .long ((vm_J old) ||| xs)] _ _ _ _ from by rw [ev]; exact hW) rfl rfl Kz) ?_
  refine jv_Wp.lift (fun _ Kz => jv_Ev.steps jv_i62 3 (pc' := 212) (l' := [(11, .long ((vm_J old) ||| xs)), (9, .long (vm_J old)), (7, .long xs), (5, .long (xd + (Int32.ofInt f.o).toInt64)), (4, .int (64 : Int32)), (3, .int (vl_I f.z)), (0, .ref 171), (1, .long w)]) (st' := [.int (0 : Int32)]) rfl Kz) ?_
  refine jv_Wp.lift (fun _ Kz => jv_Ev.br jv_i62 (pc' := 237) (st' := []) rfl (by rfl) Kz) ?_
  refine jv_Wp.of (jv_Ev.ret jv_i62 rfl rfl) ?_
  rw [hQ]
  exact ⟨_, _, rfl, hm, vc_ff_le (fun _ _ z => Or.inl z) hf⟩
theorem vc_atomic65 {K : Nat → Option (Nat × Nat)} {I : Nat → Nat → Int32} {L : Nat → Nat → Int64} {R : Nat → Nat → Value} (hC : vm_CW K R) {S T : vm_S} (h : vm_c I L S) {w : Int64} {f : vf_F} (ef : vc_F w = f) (hd : f.d < 11) (hs : f.s < 11) (hi : f.i = 65) (hl : vm_atomic 1073750528 1073807360 f S = some T) {n sl : Nat} : ∃ I1 L1, jv_Ms 62 [.ref 171, .long w] (jv_H K I L R) n sl (none, jv_H K I1 L1 R, n, sl) ∧ vm_c I1 L1 T ∧ vc_ff vm_Er I L I1 L1 := by
  obtain ⟨Q, hQ⟩ : ∃ Q : jv_R → Prop, Q = fun X => ∃ I1 L1, X = (none, jv_H K I1 L1 R, n, sl) ∧ vm_c I1 L1 T ∧ vc_ff vm_Er I L I1 L1 := ⟨_, rfl⟩
  suffices hE : jv_Wp 62 0 [(0, .ref 171), (1, .long w)] [] (jv_H K I L R) n sl Q by
    rw [hQ] at hE
    obtain ⟨X, hE, I1, L1, e, h'⟩ := hE
    subst e
    exact ⟨I1, L1, hE, h'⟩
  obtain ⟨xd, y, q, old, U, hgd, hgs, hq, hal0, hnum, hU, hT⟩ := vm_atomic_dec hl
  obtain ⟨xs, exs⟩ : ∃ xs, xs = y := ⟨y, rfl⟩
  have hgs : vm_rd S f.s = some xs := exs ▸ hgs
  have z4 := vf_z_cases f
  have z8 : f.z ≤ 8 := by rcases z4 with e | e | e | e <;> omega
  obtain ⟨B, hB, eB⟩ := vc_mnum h.1.2 hnum
  have hRD := vc_mread (n := n) (sl := sl) hC h hB (by omega)
  obtain ⟨I2, hW, hm, hf⟩ := vc_mwrite (n := n) (sl := sl) (R := R) hC z8 h hU
  have hal := vm_al z4 hal0
  rw [← vm_io (vw_dO ef)] at hW hRD hal
  rw [eB] at hRD
  rw [if_neg (show ¬ f.i = 241 by omega), if_pos (show f.i % 2 = 1 by omega)] at hT
  subst hT
  refine jv_Wp.lift (fun _ Kz => jv_Ev.steps jv_i62 1 (pc' := 1) (l' := [(0, .ref 171), (1, .long w)]) (st' := [.long w]) rfl Kz) ?_
  refine jv_Wp.lift (fun _ Kz => jv_Ev.c jv_i62 (pc' := 4) (S' := [.int (vl_I f.z)]) jv_i85 [.long w] rfl rfl rfl rfl rfl rfl (vw_f85 ef) rfl rfl Kz) ?_
  refine jv_Wp.lift (fun _ Kz => jv_Ev.steps jv_i62 2 (pc' := 6) (l' := [(3, .int (vl_I f.z)), (0, .ref 171), (1, .long w)]) (st' := [.long w]) rfl Kz) ?_
  refine jv_Wp.lift (fun _ Kz => jv_Ev.c jv_i62 (pc' := 9) (S' := [.int (65 : Int32)]) jv_i89 [.long w] rfl rfl rfl rfl rfl rfl (vw_l89 ef hi (by decide)) rfl rfl Kz) ?_
  refine jv_Wp.lift (fun _ Kz => jv_Ev.steps jv_i62 3 (pc' := 13) (l' := [(4, .int (65 : Int32)), (3, .int (vl_I f.z)), (0, .ref 171), (1, .long w)]) (st' := [.long w, .ref 171]) rfl Kz) ?_
  refine jv_Wp.lift (fun _ Kz => jv_Ev.c jv_i62 (pc' := 16) (S' := [.int (vl_I f.d), .ref 171]) jv_i86 [.long w] rfl rfl rfl rfl rfl rfl (vw_f86 ef) rfl rfl Kz) ?_
  refine jv_Wp.lift (fun _ Kz => jv_Ev.c jv_i62 (pc' := 19) (S' := [.long xd]) jv_i53 [.ref 171, .int (vl_I f.d)] rfl rfl rfl rfl (jv_cal rfl (jv_H_at (vm_cK hC 171 2 13 (by decide))) rfl rfl) rfl (vm_cget hC h hd hgd) rfl rfl Kz) ?_
  refine jv_Wp.lift (fun _ Kz => jv_Ev.steps jv_i62 1 (pc' := 20) (l' := [(4, .int (65 : Int32)), (3, .int (vl_I f.z)), (0, .ref 171), (1, .long w)]) (st' := [.long w, .long xd]) rfl Kz) ?_
  refine jv_Wp.lift (fun _ Kz => jv_Ev.c jv_i62 (pc' := 23) (S' := [.int (Int32.ofInt f.o), .long xd]) jv_i88 [.long w] rfl rfl rfl rfl rfl rfl (vw_f88 ef) rfl rfl Kz) ?_
  refine jv_Wp.lift (fun _ Kz => jv_Ev.steps jv_i62 5 (pc' := 29) (l' := [(5, .long (xd + (Int32.ofInt f.o).toInt64)), (4, .int (65 : Int32)), (3, .int (vl_I f.z)), (0, .ref 171), (1, .long w)]) (st' := [.long w, .ref 171]) rfl Kz) ?_
  refine jv_Wp.lift (fun _ Kz => jv_Ev.c jv_i62 (pc' := 32) (S' := [.int (vl_I f.s), .ref 171]) jv_i87 [.long w] rfl rfl rfl rfl rfl rfl (vw_f87 ef) rfl rfl Kz) ?_
  refine jv_Wp.lift (fun _ Kz => jv_Ev.c jv_i62 (pc' := 35) (S' := [.long xs]) jv_i53 [.ref 171, .int (vl_I f.s)] rfl rfl rfl rfl (jv_cal rfl (jv_H_at (vm_cK hC 171 2 13 (by decide))) rfl rfl) rfl (vm_cget hC h hs hgs) rfl rfl Kz) ?_
  refine jv_Wp.lift (fun _ Kz => jv_Ev.steps jv_i62 9 (pc' := 46) (l' := [(7, .long xs), (5, .long (xd + (Int32.ofInt f.o).toInt64)), (4, .int (65 : Int32)), (3, .int (vl_I f.z)), (0, .ref 171), (1, .long w)]) (st' := [.int (lg_cmp ((xd + (Int32.ofInt f.o).toInt64) &&& ((vl_I f.z) - (1 : Int32)).toInt64) (0 : Int64))]) rfl Kz) ?_
  refine jv_Wp.cnd jv_i62 (pt := 59) (pe := 49) (p := ((lg_cmp ((xd + (Int32.ofInt f.o).toInt64) &&& ((vl_I f.z) - (1 : Int32)).toInt64) (0 : Int64)) = 0)) (q := (((xd + (Int32.ofInt f.o).toInt64) &&& ((vl_I f.z) - (1 : Int32)).toInt64) = (0 : Int64))) rfl jv_bi_eq rfl rfl (lg_cmp_eq ((xd + (Int32.ofInt f.o).toInt64) &&& ((vl_I f.z) - (1 : Int32)).toInt64) (0 : Int64)) (fun _ => ?_) (fun hz => absurd hal hz)
  refine jv_Wp.lift (fun _ Kz => jv_Ev.steps jv_i62 3 (pc' := 63) (l' := [(7, .long xs), (5, .long (xd + (Int32.ofInt f.o).toInt64)), (4, .int (65 : Int32)), (3, .int (vl_I f.z)), (0, .ref 171), (1, .long w)]) (st' := [.int (vl_I f.z), .long (xd + (Int32.ofInt f.o).toInt64), .ref 171]) rfl Kz) ?_
  refine jv_Wp.lift (fun _ Kz => jv_Ev.c jv_i62 (pc' := 66) (S' := [.long (vm_J old)]) jv_i58 [.ref 171, .long (xd + (Int32.ofInt f.o).toInt64), .int (vl_I f.z)] rfl rfl rfl rfl (jv_cal rfl (jv_H_at (vm_cK hC 171 2 13 (by decide))) rfl rfl) rfl hRD rfl rfl Kz) ?_
  refine jv_Wp.lift (fun _ Kz => jv_Ev.steps jv_i62 4 (pc' := 73) (l' := [(9, .long (vm_J old)), (7, .long xs), (5, .long (xd + (Int32.ofInt f.o).toInt64)), (4, .int (65 : Int32)), (3, .int (vl_I f.z)), (0, .ref 171), (1, .long w)]) (st' := [.int (64 : Int32)]) rfl Kz) ?_
  refine jv_Wp.lift (fun _ Kz => jv_Ev.br jv_i62 (pc' := 134) (st' := []) rfl (by rfl) Kz) ?_
  refine jv_Wp.lift (fun _ Kz => jv_Ev.steps jv_i62 9 (pc' := 205) (l' := [(11, .long ((vm_J old) ||| xs)), (9, .long (vm_J old)), (7, .long xs), (5, .long (xd + (Int32.ofInt f.o).toInt64)), (4, .int (65 : Int32)), (3, .int (vl_I f.z)), (0, .ref 171), (1, .long w)]) (st' := [.long ((vm_J old) ||| xs), .int (vl_I f.z), .long (xd + (Int32.ofInt f.o).toInt64), .ref 171]) rfl Kz) ?_
  have ev : ((vm_J old) ||| xs) = Int64.ofBitVec (vm_new f (BitVec.ofNat 64 old) y.toBitVec q.toBitVec) := Int64.toBitVec_inj.mp (by rw [Int64.toBitVec_or, exs]; show _ = vm_new f (BitVec.ofNat 64 old) y.toBitVec q.toBitVec; unfold vm_new; rw [if_neg (show ¬ (f.i = 0 ∨ f.i = 1) by omega), if_pos (show f.i = 64 ∨ f.i = 65 by omega)]; rfl)
  refine jv_Wp.lift (fun _ Kz => jv_Ev.c jv_i62 (pc' := 208) (S' := []) (G1 := (jv_H K I2 L R)) jv_i60 [.ref 171, .long (xd + (Int32.ofInt f.o).toInt64), .int (vl_I f.z), .long ((vm_J old) ||| xs)] rfl rfl rfl rfl (jv_cal rfl (jv_H_at (vm_cK hC 171 2 13 (by decide))) rfl rfl) rfl (show jv_Ms 60 [.ref 171, .long (xd + (Int32.ofInt f.o).toInt64), .int (vl_I f.z), .long ((vm_J old) ||| xs)] _ _ _ _ from by rw [ev]; exact hW) rfl rfl Kz) ?_
  refine jv_Wp.lift (fun _ Kz => jv_Ev.steps jv_i62 3 (pc' := 212) (l' := [(11, .long ((vm_J old) ||| xs)), (9, .long (vm_J old)), (7, .long xs), (5, .long (xd + (Int32.ofInt f.o).toInt64)), (4, .int (65 : Int32)), (3, .int (vl_I f.z)), (0, .ref 171), (1, .long w)]) (st' := [.int (1 : Int32)]) rfl Kz) ?_
  refine jv_Wp.lift (fun _ Kz => jv_Ev.br jv_i62 (pc' := 215) (st' := []) rfl (by rfl) Kz) ?_
  refine jv_Wp.lift (fun _ Kz => jv_Ev.steps jv_i62 3 (pc' := 221) (l' := [(11, .long ((vm_J old) ||| xs)), (9, .long (vm_J old)), (7, .long xs), (5, .long (xd + (Int32.ofInt f.o).toInt64)), (4, .int (65 : Int32)), (3, .int (vl_I f.z)), (0, .ref 171), (1, .long w)]) (st' := [.int (241 : Int32), .int (65 : Int32), .ref 171]) rfl Kz) ?_
  refine jv_Wp.lift (fun _ Kz => jv_Ev.br jv_i62 (pc' := 228) (st' := [.ref 171]) rfl (by rfl) Kz) ?_
  refine jv_Wp.lift (fun _ Kz => jv_Ev.steps jv_i62 1 (pc' := 229) (l' := [(11, .long ((vm_J old) ||| xs)), (9, .long (vm_J old)), (7, .long xs), (5, .long (xd + (Int32.ofInt f.o).toInt64)), (4, .int (65 : Int32)), (3, .int (vl_I f.z)), (0, .ref 171), (1, .long w)]) (st' := [.long w, .ref 171]) rfl Kz) ?_
  refine jv_Wp.lift (fun _ Kz => jv_Ev.c jv_i62 (pc' := 232) (S' := [.int (vl_I f.s), .ref 171]) jv_i87 [.long w] rfl rfl rfl rfl rfl rfl (vw_f87 ef) rfl rfl Kz) ?_
  refine jv_Wp.lift (fun _ Kz => jv_Ev.steps jv_i62 1 (pc' := 234) (l' := [(11, .long ((vm_J old) ||| xs)), (9, .long (vm_J old)), (7, .long xs), (5, .long (xd + (Int32.ofInt f.o).toInt64)), (4, .int (65 : Int32)), (3, .int (vl_I f.z)), (0, .ref 171), (1, .long w)]) (st' := [.long (vm_J old), .int (vl_I f.s), .ref 171]) rfl Kz) ?_
  refine jv_Wp.lift (fun _ Kz => jv_Ev.c jv_i62 (pc' := 237) (S' := []) (G1 := (jv_H K (jv_u I2 171 2 ((I2 171 2) ||| ((1 : Int32) <<< ((vl_I f.s) &&& 31)))) (jv_u L 172 f.s (vm_J old)) R)) jv_i54 [.ref 171, .int (vl_I f.s), .long (vm_J old)] rfl rfl rfl rfl (jv_cal rfl (jv_H_at (vm_cK hC 171 2 13 (by decide))) rfl rfl) rfl (vm_cset (I := I2) (L := L) (n := n) (sl := sl) (r := f.s) hC (by omega)) rfl rfl Kz) ?_
  refine jv_Wp.of (jv_Ev.ret jv_i62 rfl rfl) ?_
  rw [hQ]
  exact ⟨_, _, rfl, vc_m_gv (r := f.s) hm hs, vm_gv_ff (vc_ff_le (fun _ _ z => Or.inl z) hf)⟩
theorem vc_atomic80 {K : Nat → Option (Nat × Nat)} {I : Nat → Nat → Int32} {L : Nat → Nat → Int64} {R : Nat → Nat → Value} (hC : vm_CW K R) {S T : vm_S} (h : vm_c I L S) {w : Int64} {f : vf_F} (ef : vc_F w = f) (hd : f.d < 11) (hs : f.s < 11) (hi : f.i = 80) (hl : vm_atomic 1073750528 1073807360 f S = some T) {n sl : Nat} : ∃ I1 L1, jv_Ms 62 [.ref 171, .long w] (jv_H K I L R) n sl (none, jv_H K I1 L1 R, n, sl) ∧ vm_c I1 L1 T ∧ vc_ff vm_Er I L I1 L1 := by
  obtain ⟨Q, hQ⟩ : ∃ Q : jv_R → Prop, Q = fun X => ∃ I1 L1, X = (none, jv_H K I1 L1 R, n, sl) ∧ vm_c I1 L1 T ∧ vc_ff vm_Er I L I1 L1 := ⟨_, rfl⟩
  suffices hE : jv_Wp 62 0 [(0, .ref 171), (1, .long w)] [] (jv_H K I L R) n sl Q by
    rw [hQ] at hE
    obtain ⟨X, hE, I1, L1, e, h'⟩ := hE
    subst e
    exact ⟨I1, L1, hE, h'⟩
  obtain ⟨xd, y, q, old, U, hgd, hgs, hq, hal0, hnum, hU, hT⟩ := vm_atomic_dec hl
  obtain ⟨xs, exs⟩ : ∃ xs, xs = y := ⟨y, rfl⟩
  have hgs : vm_rd S f.s = some xs := exs ▸ hgs
  have z4 := vf_z_cases f
  have z8 : f.z ≤ 8 := by rcases z4 with e | e | e | e <;> omega
  obtain ⟨B, hB, eB⟩ := vc_mnum h.1.2 hnum
  have hRD := vc_mread (n := n) (sl := sl) hC h hB (by omega)
  obtain ⟨I2, hW, hm, hf⟩ := vc_mwrite (n := n) (sl := sl) (R := R) hC z8 h hU
  have hal := vm_al z4 hal0
  rw [← vm_io (vw_dO ef)] at hW hRD hal
  rw [eB] at hRD
  rw [if_neg (show ¬ f.i = 241 by omega), if_neg (show ¬ f.i % 2 = 1 by omega)] at hT
  subst hT
  refine jv_Wp.lift (fun _ Kz => jv_Ev.steps jv_i62 1 (pc' := 1) (l' := [(0, .ref 171), (1, .long w)]) (st' := [.long w]) rfl Kz) ?_
  refine jv_Wp.lift (fun _ Kz => jv_Ev.c jv_i62 (pc' := 4) (S' := [.int (vl_I f.z)]) jv_i85 [.long w] rfl rfl rfl rfl rfl rfl (vw_f85 ef) rfl rfl Kz) ?_
  refine jv_Wp.lift (fun _ Kz => jv_Ev.steps jv_i62 2 (pc' := 6) (l' := [(3, .int (vl_I f.z)), (0, .ref 171), (1, .long w)]) (st' := [.long w]) rfl Kz) ?_
  refine jv_Wp.lift (fun _ Kz => jv_Ev.c jv_i62 (pc' := 9) (S' := [.int (80 : Int32)]) jv_i89 [.long w] rfl rfl rfl rfl rfl rfl (vw_l89 ef hi (by decide)) rfl rfl Kz) ?_
  refine jv_Wp.lift (fun _ Kz => jv_Ev.steps jv_i62 3 (pc' := 13) (l' := [(4, .int (80 : Int32)), (3, .int (vl_I f.z)), (0, .ref 171), (1, .long w)]) (st' := [.long w, .ref 171]) rfl Kz) ?_
  refine jv_Wp.lift (fun _ Kz => jv_Ev.c jv_i62 (pc' := 16) (S' := [.int (vl_I f.d), .ref 171]) jv_i86 [.long w] rfl rfl rfl rfl rfl rfl (vw_f86 ef) rfl rfl Kz) ?_
  refine jv_Wp.lift (fun _ Kz => jv_Ev.c jv_i62 (pc' := 19) (S' := [.long xd]) jv_i53 [.ref 171, .int (vl_I f.d)] rfl rfl rfl rfl (jv_cal rfl (jv_H_at (vm_cK hC 171 2 13 (by decide))) rfl rfl) rfl (vm_cget hC h hd hgd) rfl rfl Kz) ?_
  refine jv_Wp.lift (fun _ Kz => jv_Ev.steps jv_i62 1 (pc' := 20) (l' := [(4, .int (80 : Int32)), (3, .int (vl_I f.z)), (0, .ref 171), (1, .long w)]) (st' := [.long w, .long xd]) rfl Kz) ?_
  refine jv_Wp.lift (fun _ Kz => jv_Ev.c jv_i62 (pc' := 23) (S' := [.int (Int32.ofInt f.o), .long xd]) jv_i88 [.long w] rfl rfl rfl rfl rfl rfl (vw_f88 ef) rfl rfl Kz) ?_
  refine jv_Wp.lift (fun _ Kz => jv_Ev.steps jv_i62 5 (pc' := 29) (l' := [(5, .long (xd + (Int32.ofInt f.o).toInt64)), (4, .int (80 : Int32)), (3, .int (vl_I f.z)), (0, .ref 171), (1, .long w)]) (st' := [.long w, .ref 171]) rfl Kz) ?_
  refine jv_Wp.lift (fun _ Kz => jv_Ev.c jv_i62 (pc' := 32) (S' := [.int (vl_I f.s), .ref 171]) jv_i87 [.long w] rfl rfl rfl rfl rfl rfl (vw_f87 ef) rfl rfl Kz) ?_
  refine jv_Wp.lift (fun _ Kz => jv_Ev.c jv_i62 (pc' := 35) (S' := [.long xs]) jv_i53 [.ref 171, .int (vl_I f.s)] rfl rfl rfl rfl (jv_cal rfl (jv_H_at (vm_cK hC 171 2 13 (by decide))) rfl rfl) rfl (vm_cget hC h hs hgs) rfl rfl Kz) ?_
  refine jv_Wp.lift (fun _ Kz => jv_Ev.steps jv_i62 9 (pc' := 46) (l' := [(7, .long xs), (5, .long (xd + (Int32.ofInt f.o).toInt64)), (4, .int (80 : Int32)), (3, .int (vl_I f.z)), (0, .ref 171), (1, .long w)]) (st' := [.int (lg_cmp ((xd + (Int32.ofInt f.o).toInt64) &&& ((vl_I f.z) - (1 : Int32)).toInt64) (0 : Int64))]) rfl Kz) ?_
  refine jv_Wp.cnd jv_i62 (pt := 59) (pe := 49) (p := ((lg_cmp ((xd + (Int32.ofInt f.o).toInt64) &&& ((vl_I f.z) - (1 : Int32)).toInt64) (0 : Int64)) = 0)) (q := (((xd + (Int32.ofInt f.o).toInt64) &&& ((vl_I f.z) - (1 : Int32)).toInt64) = (0 : Int64))) rfl jv_bi_eq rfl rfl (lg_cmp_eq ((xd + (Int32.ofInt f.o).toInt64) &&& ((vl_I f.z) - (1 : Int32)).toInt64) (0 : Int64)) (fun _ => ?_) (fun hz => absurd hal hz)
  refine jv_Wp.lift (fun _ Kz => jv_Ev.steps jv_i62 3 (pc' := 63) (l' := [(7, .long xs), (5, .long (xd + (Int32.ofInt f.o).toInt64)), (4, .int (80 : Int32)), (3, .int (vl_I f.z)), (0, .ref 171), (1, .long w)]) (st' := [.int (vl_I f.z), .long (xd + (Int32.ofInt f.o).toInt64), .ref 171]) rfl Kz) ?_
  refine jv_Wp.lift (fun _ Kz => jv_Ev.c jv_i62 (pc' := 66) (S' := [.long (vm_J old)]) jv_i58 [.ref 171, .long (xd + (Int32.ofInt f.o).toInt64), .int (vl_I f.z)] rfl rfl rfl rfl (jv_cal rfl (jv_H_at (vm_cK hC 171 2 13 (by decide))) rfl rfl) rfl hRD rfl rfl Kz) ?_
  refine jv_Wp.lift (fun _ Kz => jv_Ev.steps jv_i62 4 (pc' := 73) (l' := [(9, .long (vm_J old)), (7, .long xs), (5, .long (xd + (Int32.ofInt f.o).toInt64)), (4, .int (80 : Int32)), (3, .int (vl_I f.z)), (0, .ref 171), (1, .long w)]) (st' := [.int (80 : Int32)]) rfl Kz) ?_
  refine jv_Wp.lift (fun _ Kz => jv_Ev.br jv_i62 (pc' := 144) (st' := []) rfl (by rfl) Kz) ?_
  refine jv_Wp.lift (fun _ Kz => jv_Ev.steps jv_i62 9 (pc' := 205) (l' := [(11, .long ((vm_J old) &&& xs)), (9, .long (vm_J old)), (7, .long xs), (5, .long (xd + (Int32.ofInt f.o).toInt64)), (4, .int (80 : Int32)), (3, .int (vl_I f.z)), (0, .ref 171), (1, .long w)]) (st' := [.long ((vm_J old) &&& xs), .int (vl_I f.z), .long (xd + (Int32.ofInt f.o).toInt64), .ref 171]) rfl Kz) ?_
  have ev : ((vm_J old) &&& xs) = Int64.ofBitVec (vm_new f (BitVec.ofNat 64 old) y.toBitVec q.toBitVec) := Int64.toBitVec_inj.mp (by rw [Int64.toBitVec_and, exs]; show _ = vm_new f (BitVec.ofNat 64 old) y.toBitVec q.toBitVec; unfold vm_new; rw [if_neg (show ¬ (f.i = 0 ∨ f.i = 1) by omega), if_neg (show ¬ (f.i = 64 ∨ f.i = 65) by omega), if_pos (show f.i = 80 ∨ f.i = 81 by omega)]; rfl)
  refine jv_Wp.lift (fun _ Kz => jv_Ev.c jv_i62 (pc' := 208) (S' := []) (G1 := (jv_H K I2 L R)) jv_i60 [.ref 171, .long (xd + (Int32.ofInt f.o).toInt64), .int (vl_I f.z), .long ((vm_J old) &&& xs)] rfl rfl rfl rfl (jv_cal rfl (jv_H_at (vm_cK hC 171 2 13 (by decide))) rfl rfl) rfl (show jv_Ms 60 [.ref 171, .long (xd + (Int32.ofInt f.o).toInt64), .int (vl_I f.z), .long ((vm_J old) &&& xs)] _ _ _ _ from by rw [ev]; exact hW) rfl rfl Kz) ?_
  refine jv_Wp.lift (fun _ Kz => jv_Ev.steps jv_i62 3 (pc' := 212) (l' := [(11, .long ((vm_J old) &&& xs)), (9, .long (vm_J old)), (7, .long xs), (5, .long (xd + (Int32.ofInt f.o).toInt64)), (4, .int (80 : Int32)), (3, .int (vl_I f.z)), (0, .ref 171), (1, .long w)]) (st' := [.int (0 : Int32)]) rfl Kz) ?_
  refine jv_Wp.lift (fun _ Kz => jv_Ev.br jv_i62 (pc' := 237) (st' := []) rfl (by rfl) Kz) ?_
  refine jv_Wp.of (jv_Ev.ret jv_i62 rfl rfl) ?_
  rw [hQ]
  exact ⟨_, _, rfl, hm, vc_ff_le (fun _ _ z => Or.inl z) hf⟩
theorem vc_atomic81 {K : Nat → Option (Nat × Nat)} {I : Nat → Nat → Int32} {L : Nat → Nat → Int64} {R : Nat → Nat → Value} (hC : vm_CW K R) {S T : vm_S} (h : vm_c I L S) {w : Int64} {f : vf_F} (ef : vc_F w = f) (hd : f.d < 11) (hs : f.s < 11) (hi : f.i = 81) (hl : vm_atomic 1073750528 1073807360 f S = some T) {n sl : Nat} : ∃ I1 L1, jv_Ms 62 [.ref 171, .long w] (jv_H K I L R) n sl (none, jv_H K I1 L1 R, n, sl) ∧ vm_c I1 L1 T ∧ vc_ff vm_Er I L I1 L1 := by
  obtain ⟨Q, hQ⟩ : ∃ Q : jv_R → Prop, Q = fun X => ∃ I1 L1, X = (none, jv_H K I1 L1 R, n, sl) ∧ vm_c I1 L1 T ∧ vc_ff vm_Er I L I1 L1 := ⟨_, rfl⟩
  suffices hE : jv_Wp 62 0 [(0, .ref 171), (1, .long w)] [] (jv_H K I L R) n sl Q by
    rw [hQ] at hE
    obtain ⟨X, hE, I1, L1, e, h'⟩ := hE
    subst e
    exact ⟨I1, L1, hE, h'⟩
  obtain ⟨xd, y, q, old, U, hgd, hgs, hq, hal0, hnum, hU, hT⟩ := vm_atomic_dec hl
  obtain ⟨xs, exs⟩ : ∃ xs, xs = y := ⟨y, rfl⟩
  have hgs : vm_rd S f.s = some xs := exs ▸ hgs
  have z4 := vf_z_cases f
  have z8 : f.z ≤ 8 := by rcases z4 with e | e | e | e <;> omega
  obtain ⟨B, hB, eB⟩ := vc_mnum h.1.2 hnum
  have hRD := vc_mread (n := n) (sl := sl) hC h hB (by omega)
  obtain ⟨I2, hW, hm, hf⟩ := vc_mwrite (n := n) (sl := sl) (R := R) hC z8 h hU
  have hal := vm_al z4 hal0
  rw [← vm_io (vw_dO ef)] at hW hRD hal
  rw [eB] at hRD
  rw [if_neg (show ¬ f.i = 241 by omega), if_pos (show f.i % 2 = 1 by omega)] at hT
  subst hT
  refine jv_Wp.lift (fun _ Kz => jv_Ev.steps jv_i62 1 (pc' := 1) (l' := [(0, .ref 171), (1, .long w)]) (st' := [.long w]) rfl Kz) ?_
  refine jv_Wp.lift (fun _ Kz => jv_Ev.c jv_i62 (pc' := 4) (S' := [.int (vl_I f.z)]) jv_i85 [.long w] rfl rfl rfl rfl rfl rfl (vw_f85 ef) rfl rfl Kz) ?_
  refine jv_Wp.lift (fun _ Kz => jv_Ev.steps jv_i62 2 (pc' := 6) (l' := [(3, .int (vl_I f.z)), (0, .ref 171), (1, .long w)]) (st' := [.long w]) rfl Kz) ?_
  refine jv_Wp.lift (fun _ Kz => jv_Ev.c jv_i62 (pc' := 9) (S' := [.int (81 : Int32)]) jv_i89 [.long w] rfl rfl rfl rfl rfl rfl (vw_l89 ef hi (by decide)) rfl rfl Kz) ?_
  refine jv_Wp.lift (fun _ Kz => jv_Ev.steps jv_i62 3 (pc' := 13) (l' := [(4, .int (81 : Int32)), (3, .int (vl_I f.z)), (0, .ref 171), (1, .long w)]) (st' := [.long w, .ref 171]) rfl Kz) ?_
  refine jv_Wp.lift (fun _ Kz => jv_Ev.c jv_i62 (pc' := 16) (S' := [.int (vl_I f.d), .ref 171]) jv_i86 [.long w] rfl rfl rfl rfl rfl rfl (vw_f86 ef) rfl rfl Kz) ?_
  refine jv_Wp.lift (fun _ Kz => jv_Ev.c jv_i62 (pc' := 19) (S' := [.long xd]) jv_i53 [.ref 171, .int (vl_I f.d)] rfl rfl rfl rfl (jv_cal rfl (jv_H_at (vm_cK hC 171 2 13 (by decide))) rfl rfl) rfl (vm_cget hC h hd hgd) rfl rfl Kz) ?_
  refine jv_Wp.lift (fun _ Kz => jv_Ev.steps jv_i62 1 (pc' := 20) (l' := [(4, .int (81 : Int32)), (3, .int (vl_I f.z)), (0, .ref 171), (1, .long w)]) (st' := [.long w, .long xd]) rfl Kz) ?_
  refine jv_Wp.lift (fun _ Kz => jv_Ev.c jv_i62 (pc' := 23) (S' := [.int (Int32.ofInt f.o), .long xd]) jv_i88 [.long w] rfl rfl rfl rfl rfl rfl (vw_f88 ef) rfl rfl Kz) ?_
  refine jv_Wp.lift (fun _ Kz => jv_Ev.steps jv_i62 5 (pc' := 29) (l' := [(5, .long (xd + (Int32.ofInt f.o).toInt64)), (4, .int (81 : Int32)), (3, .int (vl_I f.z)), (0, .ref 171), (1, .long w)]) (st' := [.long w, .ref 171]) rfl Kz) ?_
  refine jv_Wp.lift (fun _ Kz => jv_Ev.c jv_i62 (pc' := 32) (S' := [.int (vl_I f.s), .ref 171]) jv_i87 [.long w] rfl rfl rfl rfl rfl rfl (vw_f87 ef) rfl rfl Kz) ?_
  refine jv_Wp.lift (fun _ Kz => jv_Ev.c jv_i62 (pc' := 35) (S' := [.long xs]) jv_i53 [.ref 171, .int (vl_I f.s)] rfl rfl rfl rfl (jv_cal rfl (jv_H_at (vm_cK hC 171 2 13 (by decide))) rfl rfl) rfl (vm_cget hC h hs hgs) rfl rfl Kz) ?_
  refine jv_Wp.lift (fun _ Kz => jv_Ev.steps jv_i62 9 (pc' := 46) (l' := [(7, .long xs), (5, .long (xd + (Int32.ofInt f.o).toInt64)), (4, .int (81 : Int32)), (3, .int (vl_I f.z)), (0, .ref 171), (1, .long w)]) (st' := [.int (lg_cmp ((xd + (Int32.ofInt f.o).toInt64) &&& ((vl_I f.z) - (1 : Int32)).toInt64) (0 : Int64))]) rfl Kz) ?_
  refine jv_Wp.cnd jv_i62 (pt := 59) (pe := 49) (p := ((lg_cmp ((xd + (Int32.ofInt f.o).toInt64) &&& ((vl_I f.z) - (1 : Int32)).toInt64) (0 : Int64)) = 0)) (q := (((xd + (Int32.ofInt f.o).toInt64) &&& ((vl_I f.z) - (1 : Int32)).toInt64) = (0 : Int64))) rfl jv_bi_eq rfl rfl (lg_cmp_eq ((xd + (Int32.ofInt f.o).toInt64) &&& ((vl_I f.z) - (1 : Int32)).toInt64) (0 : Int64)) (fun _ => ?_) (fun hz => absurd hal hz)
  refine jv_Wp.lift (fun _ Kz => jv_Ev.steps jv_i62 3 (pc' := 63) (l' := [(7, .long xs), (5, .long (xd + (Int32.ofInt f.o).toInt64)), (4, .int (81 : Int32)), (3, .int (vl_I f.z)), (0, .ref 171), (1, .long w)]) (st' := [.int (vl_I f.z), .long (xd + (Int32.ofInt f.o).toInt64), .ref 171]) rfl Kz) ?_
  refine jv_Wp.lift (fun _ Kz => jv_Ev.c jv_i62 (pc' := 66) (S' := [.long (vm_J old)]) jv_i58 [.ref 171, .long (xd + (Int32.ofInt f.o).toInt64), .int (vl_I f.z)] rfl rfl rfl rfl (jv_cal rfl (jv_H_at (vm_cK hC 171 2 13 (by decide))) rfl rfl) rfl hRD rfl rfl Kz) ?_
  refine jv_Wp.lift (fun _ Kz => jv_Ev.steps jv_i62 4 (pc' := 73) (l' := [(9, .long (vm_J old)), (7, .long xs), (5, .long (xd + (Int32.ofInt f.o).toInt64)), (4, .int (81 : Int32)), (3, .int (vl_I f.z)), (0, .ref 171), (1, .long w)]) (st' := [.int (80 : Int32)]) rfl Kz) ?_
  refine jv_Wp.lift (fun _ Kz => jv_Ev.br jv_i62 (pc' := 144) (st' := []) rfl (by rfl) Kz) ?_
  refine jv_Wp.lift (fun _ Kz => jv_Ev.steps jv_i62 9 (pc' := 205) (l' := [(11, .long ((vm_J old) &&& xs)), (9, .long (vm_J old)), (7, .long xs), (5, .long (xd + (Int32.ofInt f.o).toInt64)), (4, .int (81 : Int32)), (3, .int (vl_I f.z)), (0, .ref 171), (1, .long w)]) (st' := [.long ((vm_J old) &&& xs), .int (vl_I f.z), .long (xd + (Int32.ofInt f.o).toInt64), .ref 171]) rfl Kz) ?_
  have ev : ((vm_J old) &&& xs) = Int64.ofBitVec (vm_new f (BitVec.ofNat 64 old) y.toBitVec q.toBitVec) := Int64.toBitVec_inj.mp (by rw [Int64.toBitVec_and, exs]; show _ = vm_new f (BitVec.ofNat 64 old) y.toBitVec q.toBitVec; unfold vm_new; rw [if_neg (show ¬ (f.i = 0 ∨ f.i = 1) by omega), if_neg (show ¬ (f.i = 64 ∨ f.i = 65) by omega), if_pos (show f.i = 80 ∨ f.i = 81 by omega)]; rfl)
  refine jv_Wp.lift (fun _ Kz => jv_Ev.c jv_i62 (pc' := 208) (S' := []) (G1 := (jv_H K I2 L R)) jv_i60 [.ref 171, .long (xd + (Int32.ofInt f.o).toInt64), .int (vl_I f.z), .long ((vm_J old) &&& xs)] rfl rfl rfl rfl (jv_cal rfl (jv_H_at (vm_cK hC 171 2 13 (by decide))) rfl rfl) rfl (show jv_Ms 60 [.ref 171, .long (xd + (Int32.ofInt f.o).toInt64), .int (vl_I f.z), .long ((vm_J old) &&& xs)] _ _ _ _ from by rw [ev]; exact hW) rfl rfl Kz) ?_
  refine jv_Wp.lift (fun _ Kz => jv_Ev.steps jv_i62 3 (pc' := 212) (l' := [(11, .long ((vm_J old) &&& xs)), (9, .long (vm_J old)), (7, .long xs), (5, .long (xd + (Int32.ofInt f.o).toInt64)), (4, .int (81 : Int32)), (3, .int (vl_I f.z)), (0, .ref 171), (1, .long w)]) (st' := [.int (1 : Int32)]) rfl Kz) ?_
  refine jv_Wp.lift (fun _ Kz => jv_Ev.br jv_i62 (pc' := 215) (st' := []) rfl (by rfl) Kz) ?_
  refine jv_Wp.lift (fun _ Kz => jv_Ev.steps jv_i62 3 (pc' := 221) (l' := [(11, .long ((vm_J old) &&& xs)), (9, .long (vm_J old)), (7, .long xs), (5, .long (xd + (Int32.ofInt f.o).toInt64)), (4, .int (81 : Int32)), (3, .int (vl_I f.z)), (0, .ref 171), (1, .long w)]) (st' := [.int (241 : Int32), .int (81 : Int32), .ref 171]) rfl Kz) ?_
  refine jv_Wp.lift (fun _ Kz => jv_Ev.br jv_i62 (pc' := 228) (st' := [.ref 171]) rfl (by rfl) Kz) ?_
  refine jv_Wp.lift (fun _ Kz => jv_Ev.steps jv_i62 1 (pc' := 229) (l' := [(11, .long ((vm_J old) &&& xs)), (9, .long (vm_J old)), (7, .long xs), (5, .long (xd + (Int32.ofInt f.o).toInt64)), (4, .int (81 : Int32)), (3, .int (vl_I f.z)), (0, .ref 171), (1, .long w)]) (st' := [.long w, .ref 171]) rfl Kz) ?_
  refine jv_Wp.lift (fun _ Kz => jv_Ev.c jv_i62 (pc' := 232) (S' := [.int (vl_I f.s), .ref 171]) jv_i87 [.long w] rfl rfl rfl rfl rfl rfl (vw_f87 ef) rfl rfl Kz) ?_
  refine jv_Wp.lift (fun _ Kz => jv_Ev.steps jv_i62 1 (pc' := 234) (l' := [(11, .long ((vm_J old) &&& xs)), (9, .long (vm_J old)), (7, .long xs), (5, .long (xd + (Int32.ofInt f.o).toInt64)), (4, .int (81 : Int32)), (3, .int (vl_I f.z)), (0, .ref 171), (1, .long w)]) (st' := [.long (vm_J old), .int (vl_I f.s), .ref 171]) rfl Kz) ?_
  refine jv_Wp.lift (fun _ Kz => jv_Ev.c jv_i62 (pc' := 237) (S' := []) (G1 := (jv_H K (jv_u I2 171 2 ((I2 171 2) ||| ((1 : Int32) <<< ((vl_I f.s) &&& 31)))) (jv_u L 172 f.s (vm_J old)) R)) jv_i54 [.ref 171, .int (vl_I f.s), .long (vm_J old)] rfl rfl rfl rfl (jv_cal rfl (jv_H_at (vm_cK hC 171 2 13 (by decide))) rfl rfl) rfl (vm_cset (I := I2) (L := L) (n := n) (sl := sl) (r := f.s) hC (by omega)) rfl rfl Kz) ?_
  refine jv_Wp.of (jv_Ev.ret jv_i62 rfl rfl) ?_
  rw [hQ]
  exact ⟨_, _, rfl, vc_m_gv (r := f.s) hm hs, vm_gv_ff (vc_ff_le (fun _ _ z => Or.inl z) hf)⟩
theorem vc_atomic160 {K : Nat → Option (Nat × Nat)} {I : Nat → Nat → Int32} {L : Nat → Nat → Int64} {R : Nat → Nat → Value} (hC : vm_CW K R) {S T : vm_S} (h : vm_c I L S) {w : Int64} {f : vf_F} (ef : vc_F w = f) (hd : f.d < 11) (hs : f.s < 11) (hi : f.i = 160) (hl : vm_atomic 1073750528 1073807360 f S = some T) {n sl : Nat} : ∃ I1 L1, jv_Ms 62 [.ref 171, .long w] (jv_H K I L R) n sl (none, jv_H K I1 L1 R, n, sl) ∧ vm_c I1 L1 T ∧ vc_ff vm_Er I L I1 L1 := by
  obtain ⟨Q, hQ⟩ : ∃ Q : jv_R → Prop, Q = fun X => ∃ I1 L1, X = (none, jv_H K I1 L1 R, n, sl) ∧ vm_c I1 L1 T ∧ vc_ff vm_Er I L I1 L1 := ⟨_, rfl⟩
  suffices hE : jv_Wp 62 0 [(0, .ref 171), (1, .long w)] [] (jv_H K I L R) n sl Q by
    rw [hQ] at hE
    obtain ⟨X, hE, I1, L1, e, h'⟩ := hE
    subst e
    exact ⟨I1, L1, hE, h'⟩
  obtain ⟨xd, y, q, old, U, hgd, hgs, hq, hal0, hnum, hU, hT⟩ := vm_atomic_dec hl
  obtain ⟨xs, exs⟩ : ∃ xs, xs = y := ⟨y, rfl⟩
  have hgs : vm_rd S f.s = some xs := exs ▸ hgs
  have z4 := vf_z_cases f
  have z8 : f.z ≤ 8 := by rcases z4 with e | e | e | e <;> omega
  obtain ⟨B, hB, eB⟩ := vc_mnum h.1.2 hnum
  have hRD := vc_mread (n := n) (sl := sl) hC h hB (by omega)
  obtain ⟨I2, hW, hm, hf⟩ := vc_mwrite (n := n) (sl := sl) (R := R) hC z8 h hU
  have hal := vm_al z4 hal0
  rw [← vm_io (vw_dO ef)] at hW hRD hal
  rw [eB] at hRD
  rw [if_neg (show ¬ f.i = 241 by omega), if_neg (show ¬ f.i % 2 = 1 by omega)] at hT
  subst hT
  refine jv_Wp.lift (fun _ Kz => jv_Ev.steps jv_i62 1 (pc' := 1) (l' := [(0, .ref 171), (1, .long w)]) (st' := [.long w]) rfl Kz) ?_
  refine jv_Wp.lift (fun _ Kz => jv_Ev.c jv_i62 (pc' := 4) (S' := [.int (vl_I f.z)]) jv_i85 [.long w] rfl rfl rfl rfl rfl rfl (vw_f85 ef) rfl rfl Kz) ?_
  refine jv_Wp.lift (fun _ Kz => jv_Ev.steps jv_i62 2 (pc' := 6) (l' := [(3, .int (vl_I f.z)), (0, .ref 171), (1, .long w)]) (st' := [.long w]) rfl Kz) ?_
  refine jv_Wp.lift (fun _ Kz => jv_Ev.c jv_i62 (pc' := 9) (S' := [.int (160 : Int32)]) jv_i89 [.long w] rfl rfl rfl rfl rfl rfl (vw_l89 ef hi (by decide)) rfl rfl Kz) ?_
  refine jv_Wp.lift (fun _ Kz => jv_Ev.steps jv_i62 3 (pc' := 13) (l' := [(4, .int (160 : Int32)), (3, .int (vl_I f.z)), (0, .ref 171), (1, .long w)]) (st' := [.long w, .ref 171]) rfl Kz) ?_
  refine jv_Wp.lift (fun _ Kz => jv_Ev.c jv_i62 (pc' := 16) (S' := [.int (vl_I f.d), .ref 171]) jv_i86 [.long w] rfl rfl rfl rfl rfl rfl (vw_f86 ef) rfl rfl Kz) ?_
  refine jv_Wp.lift (fun _ Kz => jv_Ev.c jv_i62 (pc' := 19) (S' := [.long xd]) jv_i53 [.ref 171, .int (vl_I f.d)] rfl rfl rfl rfl (jv_cal rfl (jv_H_at (vm_cK hC 171 2 13 (by decide))) rfl rfl) rfl (vm_cget hC h hd hgd) rfl rfl Kz) ?_
  refine jv_Wp.lift (fun _ Kz => jv_Ev.steps jv_i62 1 (pc' := 20) (l' := [(4, .int (160 : Int32)), (3, .int (vl_I f.z)), (0, .ref 171), (1, .long w)]) (st' := [.long w, .long xd]) rfl Kz) ?_
  refine jv_Wp.lift (fun _ Kz => jv_Ev.c jv_i62 (pc' := 23) (S' := [.int (Int32.ofInt f.o), .long xd]) jv_i88 [.long w] rfl rfl rfl rfl rfl rfl (vw_f88 ef) rfl rfl Kz) ?_
  refine jv_Wp.lift (fun _ Kz => jv_Ev.steps jv_i62 5 (pc' := 29) (l' := [(5, .long (xd + (Int32.ofInt f.o).toInt64)), (4, .int (160 : Int32)), (3, .int (vl_I f.z)), (0, .ref 171), (1, .long w)]) (st' := [.long w, .ref 171]) rfl Kz) ?_
  refine jv_Wp.lift (fun _ Kz => jv_Ev.c jv_i62 (pc' := 32) (S' := [.int (vl_I f.s), .ref 171]) jv_i87 [.long w] rfl rfl rfl rfl rfl rfl (vw_f87 ef) rfl rfl Kz) ?_
  refine jv_Wp.lift (fun _ Kz => jv_Ev.c jv_i62 (pc' := 35) (S' := [.long xs]) jv_i53 [.ref 171, .int (vl_I f.s)] rfl rfl rfl rfl (jv_cal rfl (jv_H_at (vm_cK hC 171 2 13 (by decide))) rfl rfl) rfl (vm_cget hC h hs hgs) rfl rfl Kz) ?_
  refine jv_Wp.lift (fun _ Kz => jv_Ev.steps jv_i62 9 (pc' := 46) (l' := [(7, .long xs), (5, .long (xd + (Int32.ofInt f.o).toInt64)), (4, .int (160 : Int32)), (3, .int (vl_I f.z)), (0, .ref 171), (1, .long w)]) (st' := [.int (lg_cmp ((xd + (Int32.ofInt f.o).toInt64) &&& ((vl_I f.z) - (1 : Int32)).toInt64) (0 : Int64))]) rfl Kz) ?_
  refine jv_Wp.cnd jv_i62 (pt := 59) (pe := 49) (p := ((lg_cmp ((xd + (Int32.ofInt f.o).toInt64) &&& ((vl_I f.z) - (1 : Int32)).toInt64) (0 : Int64)) = 0)) (q := (((xd + (Int32.ofInt f.o).toInt64) &&& ((vl_I f.z) - (1 : Int32)).toInt64) = (0 : Int64))) rfl jv_bi_eq rfl rfl (lg_cmp_eq ((xd + (Int32.ofInt f.o).toInt64) &&& ((vl_I f.z) - (1 : Int32)).toInt64) (0 : Int64)) (fun _ => ?_) (fun hz => absurd hal hz)
  refine jv_Wp.lift (fun _ Kz => jv_Ev.steps jv_i62 3 (pc' := 63) (l' := [(7, .long xs), (5, .long (xd + (Int32.ofInt f.o).toInt64)), (4, .int (160 : Int32)), (3, .int (vl_I f.z)), (0, .ref 171), (1, .long w)]) (st' := [.int (vl_I f.z), .long (xd + (Int32.ofInt f.o).toInt64), .ref 171]) rfl Kz) ?_
  refine jv_Wp.lift (fun _ Kz => jv_Ev.c jv_i62 (pc' := 66) (S' := [.long (vm_J old)]) jv_i58 [.ref 171, .long (xd + (Int32.ofInt f.o).toInt64), .int (vl_I f.z)] rfl rfl rfl rfl (jv_cal rfl (jv_H_at (vm_cK hC 171 2 13 (by decide))) rfl rfl) rfl hRD rfl rfl Kz) ?_
  refine jv_Wp.lift (fun _ Kz => jv_Ev.steps jv_i62 4 (pc' := 73) (l' := [(9, .long (vm_J old)), (7, .long xs), (5, .long (xd + (Int32.ofInt f.o).toInt64)), (4, .int (160 : Int32)), (3, .int (vl_I f.z)), (0, .ref 171), (1, .long w)]) (st' := [.int (160 : Int32)]) rfl Kz) ?_
  refine jv_Wp.lift (fun _ Kz => jv_Ev.br jv_i62 (pc' := 154) (st' := []) rfl (by rfl) Kz) ?_
  refine jv_Wp.lift (fun _ Kz => jv_Ev.steps jv_i62 9 (pc' := 205) (l' := [(11, .long ((vm_J old) ^^^ xs)), (9, .long (vm_J old)), (7, .long xs), (5, .long (xd + (Int32.ofInt f.o).toInt64)), (4, .int (160 : Int32)), (3, .int (vl_I f.z)), (0, .ref 171), (1, .long w)]) (st' := [.long ((vm_J old) ^^^ xs), .int (vl_I f.z), .long (xd + (Int32.ofInt f.o).toInt64), .ref 171]) rfl Kz) ?_
  have ev : ((vm_J old) ^^^ xs) = Int64.ofBitVec (vm_new f (BitVec.ofNat 64 old) y.toBitVec q.toBitVec) := Int64.toBitVec_inj.mp (by rw [Int64.toBitVec_xor, exs]; show _ = vm_new f (BitVec.ofNat 64 old) y.toBitVec q.toBitVec; unfold vm_new; rw [if_neg (show ¬ (f.i = 0 ∨ f.i = 1) by omega), if_neg (show ¬ (f.i = 64 ∨ f.i = 65) by omega), if_neg (show ¬ (f.i = 80 ∨ f.i = 81) by omega), if_pos (show f.i = 160 ∨ f.i = 161 by omega)]; rfl)
  refine jv_Wp.lift (fun _ Kz => jv_Ev.c jv_i62 (pc' := 208) (S' := []) (G1 := (jv_H K I2 L R)) jv_i60 [.ref 171, .long (xd + (Int32.ofInt f.o).toInt64), .int (vl_I f.z), .long ((vm_J old) ^^^ xs)] rfl rfl rfl rfl (jv_cal rfl (jv_H_at (vm_cK hC 171 2 13 (by decide))) rfl rfl) rfl (show jv_Ms 60 [.ref 171, .long (xd + (Int32.ofInt f.o).toInt64), .int (vl_I f.z), .long ((vm_J old) ^^^ xs)] _ _ _ _ from by rw [ev]; exact hW) rfl rfl Kz) ?_
  refine jv_Wp.lift (fun _ Kz => jv_Ev.steps jv_i62 3 (pc' := 212) (l' := [(11, .long ((vm_J old) ^^^ xs)), (9, .long (vm_J old)), (7, .long xs), (5, .long (xd + (Int32.ofInt f.o).toInt64)), (4, .int (160 : Int32)), (3, .int (vl_I f.z)), (0, .ref 171), (1, .long w)]) (st' := [.int (0 : Int32)]) rfl Kz) ?_
  refine jv_Wp.lift (fun _ Kz => jv_Ev.br jv_i62 (pc' := 237) (st' := []) rfl (by rfl) Kz) ?_
  refine jv_Wp.of (jv_Ev.ret jv_i62 rfl rfl) ?_
  rw [hQ]
  exact ⟨_, _, rfl, hm, vc_ff_le (fun _ _ z => Or.inl z) hf⟩
theorem vc_atomic161 {K : Nat → Option (Nat × Nat)} {I : Nat → Nat → Int32} {L : Nat → Nat → Int64} {R : Nat → Nat → Value} (hC : vm_CW K R) {S T : vm_S} (h : vm_c I L S) {w : Int64} {f : vf_F} (ef : vc_F w = f) (hd : f.d < 11) (hs : f.s < 11) (hi : f.i = 161) (hl : vm_atomic 1073750528 1073807360 f S = some T) {n sl : Nat} : ∃ I1 L1, jv_Ms 62 [.ref 171, .long w] (jv_H K I L R) n sl (none, jv_H K I1 L1 R, n, sl) ∧ vm_c I1 L1 T ∧ vc_ff vm_Er I L I1 L1 := by
  obtain ⟨Q, hQ⟩ : ∃ Q : jv_R → Prop, Q = fun X => ∃ I1 L1, X = (none, jv_H K I1 L1 R, n, sl) ∧ vm_c I1 L1 T ∧ vc_ff vm_Er I L I1 L1 := ⟨_, rfl⟩
  suffices hE : jv_Wp 62 0 [(0, .ref 171), (1, .long w)] [] (jv_H K I L R) n sl Q by
    rw [hQ] at hE
    obtain ⟨X, hE, I1, L1, e, h'⟩ := hE
    subst e
    exact ⟨I1, L1, hE, h'⟩
  obtain ⟨xd, y, q, old, U, hgd, hgs, hq, hal0, hnum, hU, hT⟩ := vm_atomic_dec hl
  obtain ⟨xs, exs⟩ : ∃ xs, xs = y := ⟨y, rfl⟩
  have hgs : vm_rd S f.s = some xs := exs ▸ hgs
  have z4 := vf_z_cases f
  have z8 : f.z ≤ 8 := by rcases z4 with e | e | e | e <;> omega
  obtain ⟨B, hB, eB⟩ := vc_mnum h.1.2 hnum
  have hRD := vc_mread (n := n) (sl := sl) hC h hB (by omega)
  obtain ⟨I2, hW, hm, hf⟩ := vc_mwrite (n := n) (sl := sl) (R := R) hC z8 h hU
  have hal := vm_al z4 hal0
  rw [← vm_io (vw_dO ef)] at hW hRD hal
  rw [eB] at hRD
  rw [if_neg (show ¬ f.i = 241 by omega), if_pos (show f.i % 2 = 1 by omega)] at hT
  subst hT
  refine jv_Wp.lift (fun _ Kz => jv_Ev.steps jv_i62 1 (pc' := 1) (l' := [(0, .ref 171), (1, .long w)]) (st' := [.long w]) rfl Kz) ?_
  refine jv_Wp.lift (fun _ Kz => jv_Ev.c jv_i62 (pc' := 4) (S' := [.int (vl_I f.z)]) jv_i85 [.long w] rfl rfl rfl rfl rfl rfl (vw_f85 ef) rfl rfl Kz) ?_
  refine jv_Wp.lift (fun _ Kz => jv_Ev.steps jv_i62 2 (pc' := 6) (l' := [(3, .int (vl_I f.z)), (0, .ref 171), (1, .long w)]) (st' := [.long w]) rfl Kz) ?_
  refine jv_Wp.lift (fun _ Kz => jv_Ev.c jv_i62 (pc' := 9) (S' := [.int (161 : Int32)]) jv_i89 [.long w] rfl rfl rfl rfl rfl rfl (vw_l89 ef hi (by decide)) rfl rfl Kz) ?_
  refine jv_Wp.lift (fun _ Kz => jv_Ev.steps jv_i62 3 (pc' := 13) (l' := [(4, .int (161 : Int32)), (3, .int (vl_I f.z)), (0, .ref 171), (1, .long w)]) (st' := [.long w, .ref 171]) rfl Kz) ?_
  refine jv_Wp.lift (fun _ Kz => jv_Ev.c jv_i62 (pc' := 16) (S' := [.int (vl_I f.d), .ref 171]) jv_i86 [.long w] rfl rfl rfl rfl rfl rfl (vw_f86 ef) rfl rfl Kz) ?_
  refine jv_Wp.lift (fun _ Kz => jv_Ev.c jv_i62 (pc' := 19) (S' := [.long xd]) jv_i53 [.ref 171, .int (vl_I f.d)] rfl rfl rfl rfl (jv_cal rfl (jv_H_at (vm_cK hC 171 2 13 (by decide))) rfl rfl) rfl (vm_cget hC h hd hgd) rfl rfl Kz) ?_
  refine jv_Wp.lift (fun _ Kz => jv_Ev.steps jv_i62 1 (pc' := 20) (l' := [(4, .int (161 : Int32)), (3, .int (vl_I f.z)), (0, .ref 171), (1, .long w)]) (st' := [.long w, .long xd]) rfl Kz) ?_
  refine jv_Wp.lift (fun _ Kz => jv_Ev.c jv_i62 (pc' := 23) (S' := [.int (Int32.ofInt f.o), .long xd]) jv_i88 [.long w] rfl rfl rfl rfl rfl rfl (vw_f88 ef) rfl rfl Kz) ?_
  refine jv_Wp.lift (fun _ Kz => jv_Ev.steps jv_i62 5 (pc' := 29) (l' := [(5, .long (xd + (Int32.ofInt f.o).toInt64)), (4, .int (161 : Int32)), (3, .int (vl_I f.z)), (0, .ref 171), (1, .long w)]) (st' := [.long w, .ref 171]) rfl Kz) ?_
  refine jv_Wp.lift (fun _ Kz => jv_Ev.c jv_i62 (pc' := 32) (S' := [.int (vl_I f.s), .ref 171]) jv_i87 [.long w] rfl rfl rfl rfl rfl rfl (vw_f87 ef) rfl rfl Kz) ?_
  refine jv_Wp.lift (fun _ Kz => jv_Ev.c jv_i62 (pc' := 35) (S' := [.long xs]) jv_i53 [.ref 171, .int (vl_I f.s)] rfl rfl rfl rfl (jv_cal rfl (jv_H_at (vm_cK hC 171 2 13 (by decide))) rfl rfl) rfl (vm_cget hC h hs hgs) rfl rfl Kz) ?_
  refine jv_Wp.lift (fun _ Kz => jv_Ev.steps jv_i62 9 (pc' := 46) (l' := [(7, .long xs), (5, .long (xd + (Int32.ofInt f.o).toInt64)), (4, .int (161 : Int32)), (3, .int (vl_I f.z)), (0, .ref 171), (1, .long w)]) (st' := [.int (lg_cmp ((xd + (Int32.ofInt f.o).toInt64) &&& ((vl_I f.z) - (1 : Int32)).toInt64) (0 : Int64))]) rfl Kz) ?_
  refine jv_Wp.cnd jv_i62 (pt := 59) (pe := 49) (p := ((lg_cmp ((xd + (Int32.ofInt f.o).toInt64) &&& ((vl_I f.z) - (1 : Int32)).toInt64) (0 : Int64)) = 0)) (q := (((xd + (Int32.ofInt f.o).toInt64) &&& ((vl_I f.z) - (1 : Int32)).toInt64) = (0 : Int64))) rfl jv_bi_eq rfl rfl (lg_cmp_eq ((xd + (Int32.ofInt f.o).toInt64) &&& ((vl_I f.z) - (1 : Int32)).toInt64) (0 : Int64)) (fun _ => ?_) (fun hz => absurd hal hz)
  refine jv_Wp.lift (fun _ Kz => jv_Ev.steps jv_i62 3 (pc' := 63) (l' := [(7, .long xs), (5, .long (xd + (Int32.ofInt f.o).toInt64)), (4, .int (161 : Int32)), (3, .int (vl_I f.z)), (0, .ref 171), (1, .long w)]) (st' := [.int (vl_I f.z), .long (xd + (Int32.ofInt f.o).toInt64), .ref 171]) rfl Kz) ?_
  refine jv_Wp.lift (fun _ Kz => jv_Ev.c jv_i62 (pc' := 66) (S' := [.long (vm_J old)]) jv_i58 [.ref 171, .long (xd + (Int32.ofInt f.o).toInt64), .int (vl_I f.z)] rfl rfl rfl rfl (jv_cal rfl (jv_H_at (vm_cK hC 171 2 13 (by decide))) rfl rfl) rfl hRD rfl rfl Kz) ?_
  refine jv_Wp.lift (fun _ Kz => jv_Ev.steps jv_i62 4 (pc' := 73) (l' := [(9, .long (vm_J old)), (7, .long xs), (5, .long (xd + (Int32.ofInt f.o).toInt64)), (4, .int (161 : Int32)), (3, .int (vl_I f.z)), (0, .ref 171), (1, .long w)]) (st' := [.int (160 : Int32)]) rfl Kz) ?_
  refine jv_Wp.lift (fun _ Kz => jv_Ev.br jv_i62 (pc' := 154) (st' := []) rfl (by rfl) Kz) ?_
  refine jv_Wp.lift (fun _ Kz => jv_Ev.steps jv_i62 9 (pc' := 205) (l' := [(11, .long ((vm_J old) ^^^ xs)), (9, .long (vm_J old)), (7, .long xs), (5, .long (xd + (Int32.ofInt f.o).toInt64)), (4, .int (161 : Int32)), (3, .int (vl_I f.z)), (0, .ref 171), (1, .long w)]) (st' := [.long ((vm_J old) ^^^ xs), .int (vl_I f.z), .long (xd + (Int32.ofInt f.o).toInt64), .ref 171]) rfl Kz) ?_
  have ev : ((vm_J old) ^^^ xs) = Int64.ofBitVec (vm_new f (BitVec.ofNat 64 old) y.toBitVec q.toBitVec) := Int64.toBitVec_inj.mp (by rw [Int64.toBitVec_xor, exs]; show _ = vm_new f (BitVec.ofNat 64 old) y.toBitVec q.toBitVec; unfold vm_new; rw [if_neg (show ¬ (f.i = 0 ∨ f.i = 1) by omega), if_neg (show ¬ (f.i = 64 ∨ f.i = 65) by omega), if_neg (show ¬ (f.i = 80 ∨ f.i = 81) by omega), if_pos (show f.i = 160 ∨ f.i = 161 by omega)]; rfl)
  refine jv_Wp.lift (fun _ Kz => jv_Ev.c jv_i62 (pc' := 208) (S' := []) (G1 := (jv_H K I2 L R)) jv_i60 [.ref 171, .long (xd + (Int32.ofInt f.o).toInt64), .int (vl_I f.z), .long ((vm_J old) ^^^ xs)] rfl rfl rfl rfl (jv_cal rfl (jv_H_at (vm_cK hC 171 2 13 (by decide))) rfl rfl) rfl (show jv_Ms 60 [.ref 171, .long (xd + (Int32.ofInt f.o).toInt64), .int (vl_I f.z), .long ((vm_J old) ^^^ xs)] _ _ _ _ from by rw [ev]; exact hW) rfl rfl Kz) ?_
  refine jv_Wp.lift (fun _ Kz => jv_Ev.steps jv_i62 3 (pc' := 212) (l' := [(11, .long ((vm_J old) ^^^ xs)), (9, .long (vm_J old)), (7, .long xs), (5, .long (xd + (Int32.ofInt f.o).toInt64)), (4, .int (161 : Int32)), (3, .int (vl_I f.z)), (0, .ref 171), (1, .long w)]) (st' := [.int (1 : Int32)]) rfl Kz) ?_
  refine jv_Wp.lift (fun _ Kz => jv_Ev.br jv_i62 (pc' := 215) (st' := []) rfl (by rfl) Kz) ?_
  refine jv_Wp.lift (fun _ Kz => jv_Ev.steps jv_i62 3 (pc' := 221) (l' := [(11, .long ((vm_J old) ^^^ xs)), (9, .long (vm_J old)), (7, .long xs), (5, .long (xd + (Int32.ofInt f.o).toInt64)), (4, .int (161 : Int32)), (3, .int (vl_I f.z)), (0, .ref 171), (1, .long w)]) (st' := [.int (241 : Int32), .int (161 : Int32), .ref 171]) rfl Kz) ?_
  refine jv_Wp.lift (fun _ Kz => jv_Ev.br jv_i62 (pc' := 228) (st' := [.ref 171]) rfl (by rfl) Kz) ?_
  refine jv_Wp.lift (fun _ Kz => jv_Ev.steps jv_i62 1 (pc' := 229) (l' := [(11, .long ((vm_J old) ^^^ xs)), (9, .long (vm_J old)), (7, .long xs), (5, .long (xd + (Int32.ofInt f.o).toInt64)), (4, .int (161 : Int32)), (3, .int (vl_I f.z)), (0, .ref 171), (1, .long w)]) (st' := [.long w, .ref 171]) rfl Kz) ?_
  refine jv_Wp.lift (fun _ Kz => jv_Ev.c jv_i62 (pc' := 232) (S' := [.int (vl_I f.s), .ref 171]) jv_i87 [.long w] rfl rfl rfl rfl rfl rfl (vw_f87 ef) rfl rfl Kz) ?_
  refine jv_Wp.lift (fun _ Kz => jv_Ev.steps jv_i62 1 (pc' := 234) (l' := [(11, .long ((vm_J old) ^^^ xs)), (9, .long (vm_J old)), (7, .long xs), (5, .long (xd + (Int32.ofInt f.o).toInt64)), (4, .int (161 : Int32)), (3, .int (vl_I f.z)), (0, .ref 171), (1, .long w)]) (st' := [.long (vm_J old), .int (vl_I f.s), .ref 171]) rfl Kz) ?_
  refine jv_Wp.lift (fun _ Kz => jv_Ev.c jv_i62 (pc' := 237) (S' := []) (G1 := (jv_H K (jv_u I2 171 2 ((I2 171 2) ||| ((1 : Int32) <<< ((vl_I f.s) &&& 31)))) (jv_u L 172 f.s (vm_J old)) R)) jv_i54 [.ref 171, .int (vl_I f.s), .long (vm_J old)] rfl rfl rfl rfl (jv_cal rfl (jv_H_at (vm_cK hC 171 2 13 (by decide))) rfl rfl) rfl (vm_cset (I := I2) (L := L) (n := n) (sl := sl) (r := f.s) hC (by omega)) rfl rfl Kz) ?_
  refine jv_Wp.of (jv_Ev.ret jv_i62 rfl rfl) ?_
  rw [hQ]
  exact ⟨_, _, rfl, vc_m_gv (r := f.s) hm hs, vm_gv_ff (vc_ff_le (fun _ _ z => Or.inl z) hf)⟩
theorem vc_atomic225 {K : Nat → Option (Nat × Nat)} {I : Nat → Nat → Int32} {L : Nat → Nat → Int64} {R : Nat → Nat → Value} (hC : vm_CW K R) {S T : vm_S} (h : vm_c I L S) {w : Int64} {f : vf_F} (ef : vc_F w = f) (hd : f.d < 11) (hs : f.s < 11) (hi : f.i = 225) (hl : vm_atomic 1073750528 1073807360 f S = some T) {n sl : Nat} : ∃ I1 L1, jv_Ms 62 [.ref 171, .long w] (jv_H K I L R) n sl (none, jv_H K I1 L1 R, n, sl) ∧ vm_c I1 L1 T ∧ vc_ff vm_Er I L I1 L1 := by
  obtain ⟨Q, hQ⟩ : ∃ Q : jv_R → Prop, Q = fun X => ∃ I1 L1, X = (none, jv_H K I1 L1 R, n, sl) ∧ vm_c I1 L1 T ∧ vc_ff vm_Er I L I1 L1 := ⟨_, rfl⟩
  suffices hE : jv_Wp 62 0 [(0, .ref 171), (1, .long w)] [] (jv_H K I L R) n sl Q by
    rw [hQ] at hE
    obtain ⟨X, hE, I1, L1, e, h'⟩ := hE
    subst e
    exact ⟨I1, L1, hE, h'⟩
  obtain ⟨xd, y, q, old, U, hgd, hgs, hq, hal0, hnum, hU, hT⟩ := vm_atomic_dec hl
  obtain ⟨xs, exs⟩ : ∃ xs, xs = y := ⟨y, rfl⟩
  have hgs : vm_rd S f.s = some xs := exs ▸ hgs
  have z4 := vf_z_cases f
  have z8 : f.z ≤ 8 := by rcases z4 with e | e | e | e <;> omega
  obtain ⟨B, hB, eB⟩ := vc_mnum h.1.2 hnum
  have hRD := vc_mread (n := n) (sl := sl) hC h hB (by omega)
  obtain ⟨I2, hW, hm, hf⟩ := vc_mwrite (n := n) (sl := sl) (R := R) hC z8 h hU
  have hal := vm_al z4 hal0
  rw [← vm_io (vw_dO ef)] at hW hRD hal
  rw [eB] at hRD
  rw [if_neg (show ¬ f.i = 241 by omega), if_pos (show f.i % 2 = 1 by omega)] at hT
  subst hT
  refine jv_Wp.lift (fun _ Kz => jv_Ev.steps jv_i62 1 (pc' := 1) (l' := [(0, .ref 171), (1, .long w)]) (st' := [.long w]) rfl Kz) ?_
  refine jv_Wp.lift (fun _ Kz => jv_Ev.c jv_i62 (pc' := 4) (S' := [.int (vl_I f.z)]) jv_i85 [.long w] rfl rfl rfl rfl rfl rfl (vw_f85 ef) rfl rfl Kz) ?_
  refine jv_Wp.lift (fun _ Kz => jv_Ev.steps jv_i62 2 (pc' := 6) (l' := [(3, .int (vl_I f.z)), (0, .ref 171), (1, .long w)]) (st' := [.long w]) rfl Kz) ?_
  refine jv_Wp.lift (fun _ Kz => jv_Ev.c jv_i62 (pc' := 9) (S' := [.int (225 : Int32)]) jv_i89 [.long w] rfl rfl rfl rfl rfl rfl (vw_l89 ef hi (by decide)) rfl rfl Kz) ?_
  refine jv_Wp.lift (fun _ Kz => jv_Ev.steps jv_i62 3 (pc' := 13) (l' := [(4, .int (225 : Int32)), (3, .int (vl_I f.z)), (0, .ref 171), (1, .long w)]) (st' := [.long w, .ref 171]) rfl Kz) ?_
  refine jv_Wp.lift (fun _ Kz => jv_Ev.c jv_i62 (pc' := 16) (S' := [.int (vl_I f.d), .ref 171]) jv_i86 [.long w] rfl rfl rfl rfl rfl rfl (vw_f86 ef) rfl rfl Kz) ?_
  refine jv_Wp.lift (fun _ Kz => jv_Ev.c jv_i62 (pc' := 19) (S' := [.long xd]) jv_i53 [.ref 171, .int (vl_I f.d)] rfl rfl rfl rfl (jv_cal rfl (jv_H_at (vm_cK hC 171 2 13 (by decide))) rfl rfl) rfl (vm_cget hC h hd hgd) rfl rfl Kz) ?_
  refine jv_Wp.lift (fun _ Kz => jv_Ev.steps jv_i62 1 (pc' := 20) (l' := [(4, .int (225 : Int32)), (3, .int (vl_I f.z)), (0, .ref 171), (1, .long w)]) (st' := [.long w, .long xd]) rfl Kz) ?_
  refine jv_Wp.lift (fun _ Kz => jv_Ev.c jv_i62 (pc' := 23) (S' := [.int (Int32.ofInt f.o), .long xd]) jv_i88 [.long w] rfl rfl rfl rfl rfl rfl (vw_f88 ef) rfl rfl Kz) ?_
  refine jv_Wp.lift (fun _ Kz => jv_Ev.steps jv_i62 5 (pc' := 29) (l' := [(5, .long (xd + (Int32.ofInt f.o).toInt64)), (4, .int (225 : Int32)), (3, .int (vl_I f.z)), (0, .ref 171), (1, .long w)]) (st' := [.long w, .ref 171]) rfl Kz) ?_
  refine jv_Wp.lift (fun _ Kz => jv_Ev.c jv_i62 (pc' := 32) (S' := [.int (vl_I f.s), .ref 171]) jv_i87 [.long w] rfl rfl rfl rfl rfl rfl (vw_f87 ef) rfl rfl Kz) ?_
  refine jv_Wp.lift (fun _ Kz => jv_Ev.c jv_i62 (pc' := 35) (S' := [.long xs]) jv_i53 [.ref 171, .int (vl_I f.s)] rfl rfl rfl rfl (jv_cal rfl (jv_H_at (vm_cK hC 171 2 13 (by decide))) rfl rfl) rfl (vm_cget hC h hs hgs) rfl rfl Kz) ?_
  refine jv_Wp.lift (fun _ Kz => jv_Ev.steps jv_i62 9 (pc' := 46) (l' := [(7, .long xs), (5, .long (xd + (Int32.ofInt f.o).toInt64)), (4, .int (225 : Int32)), (3, .int (vl_I f.z)), (0, .ref 171), (1, .long w)]) (st' := [.int (lg_cmp ((xd + (Int32.ofInt f.o).toInt64) &&& ((vl_I f.z) - (1 : Int32)).toInt64) (0 : Int64))]) rfl Kz) ?_
  refine jv_Wp.cnd jv_i62 (pt := 59) (pe := 49) (p := ((lg_cmp ((xd + (Int32.ofInt f.o).toInt64) &&& ((vl_I f.z) - (1 : Int32)).toInt64) (0 : Int64)) = 0)) (q := (((xd + (Int32.ofInt f.o).toInt64) &&& ((vl_I f.z) - (1 : Int32)).toInt64) = (0 : Int64))) rfl jv_bi_eq rfl rfl (lg_cmp_eq ((xd + (Int32.ofInt f.o).toInt64) &&& ((vl_I f.z) - (1 : Int32)).toInt64) (0 : Int64)) (fun _ => ?_) (fun hz => absurd hal hz)
  refine jv_Wp.lift (fun _ Kz => jv_Ev.steps jv_i62 3 (pc' := 63) (l' := [(7, .long xs), (5, .long (xd + (Int32.ofInt f.o).toInt64)), (4, .int (225 : Int32)), (3, .int (vl_I f.z)), (0, .ref 171), (1, .long w)]) (st' := [.int (vl_I f.z), .long (xd + (Int32.ofInt f.o).toInt64), .ref 171]) rfl Kz) ?_
  refine jv_Wp.lift (fun _ Kz => jv_Ev.c jv_i62 (pc' := 66) (S' := [.long (vm_J old)]) jv_i58 [.ref 171, .long (xd + (Int32.ofInt f.o).toInt64), .int (vl_I f.z)] rfl rfl rfl rfl (jv_cal rfl (jv_H_at (vm_cK hC 171 2 13 (by decide))) rfl rfl) rfl hRD rfl rfl Kz) ?_
  refine jv_Wp.lift (fun _ Kz => jv_Ev.steps jv_i62 4 (pc' := 73) (l' := [(9, .long (vm_J old)), (7, .long xs), (5, .long (xd + (Int32.ofInt f.o).toInt64)), (4, .int (225 : Int32)), (3, .int (vl_I f.z)), (0, .ref 171), (1, .long w)]) (st' := [.int (224 : Int32)]) rfl Kz) ?_
  refine jv_Wp.lift (fun _ Kz => jv_Ev.br jv_i62 (pc' := 164) (st' := []) rfl (by rfl) Kz) ?_
  refine jv_Wp.lift (fun _ Kz => jv_Ev.steps jv_i62 7 (pc' := 205) (l' := [(11, .long xs), (9, .long (vm_J old)), (7, .long xs), (5, .long (xd + (Int32.ofInt f.o).toInt64)), (4, .int (225 : Int32)), (3, .int (vl_I f.z)), (0, .ref 171), (1, .long w)]) (st' := [.long xs, .int (vl_I f.z), .long (xd + (Int32.ofInt f.o).toInt64), .ref 171]) rfl Kz) ?_
  have ev : xs = Int64.ofBitVec (vm_new f (BitVec.ofNat 64 old) y.toBitVec q.toBitVec) := Int64.toBitVec_inj.mp (by rw [exs]; show _ = vm_new f (BitVec.ofNat 64 old) y.toBitVec q.toBitVec; unfold vm_new; rw [if_neg (show ¬ (f.i = 0 ∨ f.i = 1) by omega), if_neg (show ¬ (f.i = 64 ∨ f.i = 65) by omega), if_neg (show ¬ (f.i = 80 ∨ f.i = 81) by omega), if_neg (show ¬ (f.i = 160 ∨ f.i = 161) by omega), if_pos hi])
  refine jv_Wp.lift (fun _ Kz => jv_Ev.c jv_i62 (pc' := 208) (S' := []) (G1 := (jv_H K I2 L R)) jv_i60 [.ref 171, .long (xd + (Int32.ofInt f.o).toInt64), .int (vl_I f.z), .long xs] rfl rfl rfl rfl (jv_cal rfl (jv_H_at (vm_cK hC 171 2 13 (by decide))) rfl rfl) rfl (show jv_Ms 60 [.ref 171, .long (xd + (Int32.ofInt f.o).toInt64), .int (vl_I f.z), .long xs] _ _ _ _ from by rw [ev]; exact hW) rfl rfl Kz) ?_
  refine jv_Wp.lift (fun _ Kz => jv_Ev.steps jv_i62 3 (pc' := 212) (l' := [(11, .long xs), (9, .long (vm_J old)), (7, .long xs), (5, .long (xd + (Int32.ofInt f.o).toInt64)), (4, .int (225 : Int32)), (3, .int (vl_I f.z)), (0, .ref 171), (1, .long w)]) (st' := [.int (1 : Int32)]) rfl Kz) ?_
  refine jv_Wp.lift (fun _ Kz => jv_Ev.br jv_i62 (pc' := 215) (st' := []) rfl (by rfl) Kz) ?_
  refine jv_Wp.lift (fun _ Kz => jv_Ev.steps jv_i62 3 (pc' := 221) (l' := [(11, .long xs), (9, .long (vm_J old)), (7, .long xs), (5, .long (xd + (Int32.ofInt f.o).toInt64)), (4, .int (225 : Int32)), (3, .int (vl_I f.z)), (0, .ref 171), (1, .long w)]) (st' := [.int (241 : Int32), .int (225 : Int32), .ref 171]) rfl Kz) ?_
  refine jv_Wp.lift (fun _ Kz => jv_Ev.br jv_i62 (pc' := 228) (st' := [.ref 171]) rfl (by rfl) Kz) ?_
  refine jv_Wp.lift (fun _ Kz => jv_Ev.steps jv_i62 1 (pc' := 229) (l' := [(11, .long xs), (9, .long (vm_J old)), (7, .long xs), (5, .long (xd + (Int32.ofInt f.o).toInt64)), (4, .int (225 : Int32)), (3, .int (vl_I f.z)), (0, .ref 171), (1, .long w)]) (st' := [.long w, .ref 171]) rfl Kz) ?_
  refine jv_Wp.lift (fun _ Kz => jv_Ev.c jv_i62 (pc' := 232) (S' := [.int (vl_I f.s), .ref 171]) jv_i87 [.long w] rfl rfl rfl rfl rfl rfl (vw_f87 ef) rfl rfl Kz) ?_
  refine jv_Wp.lift (fun _ Kz => jv_Ev.steps jv_i62 1 (pc' := 234) (l' := [(11, .long xs), (9, .long (vm_J old)), (7, .long xs), (5, .long (xd + (Int32.ofInt f.o).toInt64)), (4, .int (225 : Int32)), (3, .int (vl_I f.z)), (0, .ref 171), (1, .long w)]) (st' := [.long (vm_J old), .int (vl_I f.s), .ref 171]) rfl Kz) ?_
  refine jv_Wp.lift (fun _ Kz => jv_Ev.c jv_i62 (pc' := 237) (S' := []) (G1 := (jv_H K (jv_u I2 171 2 ((I2 171 2) ||| ((1 : Int32) <<< ((vl_I f.s) &&& 31)))) (jv_u L 172 f.s (vm_J old)) R)) jv_i54 [.ref 171, .int (vl_I f.s), .long (vm_J old)] rfl rfl rfl rfl (jv_cal rfl (jv_H_at (vm_cK hC 171 2 13 (by decide))) rfl rfl) rfl (vm_cset (I := I2) (L := L) (n := n) (sl := sl) (r := f.s) hC (by omega)) rfl rfl Kz) ?_
  refine jv_Wp.of (jv_Ev.ret jv_i62 rfl rfl) ?_
  rw [hQ]
  exact ⟨_, _, rfl, vc_m_gv (r := f.s) hm hs, vm_gv_ff (vc_ff_le (fun _ _ z => Or.inl z) hf)⟩
theorem vc_atomic241 {K : Nat → Option (Nat × Nat)} {I : Nat → Nat → Int32} {L : Nat → Nat → Int64} {R : Nat → Nat → Value} (hC : vm_CW K R) {S T : vm_S} (h : vm_c I L S) {w : Int64} {f : vf_F} (ef : vc_F w = f) (hd : f.d < 11) (hs : f.s < 11) (hi : f.i = 241) (hl : vm_atomic 1073750528 1073807360 f S = some T) {n sl : Nat} : ∃ I1 L1, jv_Ms 62 [.ref 171, .long w] (jv_H K I L R) n sl (none, jv_H K I1 L1 R, n, sl) ∧ vm_c I1 L1 T ∧ vc_ff vm_Er I L I1 L1 := by
  obtain ⟨Q, hQ⟩ : ∃ Q : jv_R → Prop, Q = fun X => ∃ I1 L1, X = (none, jv_H K I1 L1 R, n, sl) ∧ vm_c I1 L1 T ∧ vc_ff vm_Er I L I1 L1 := ⟨_, rfl⟩
  suffices hE : jv_Wp 62 0 [(0, .ref 171), (1, .long w)] [] (jv_H K I L R) n sl Q by
    rw [hQ] at hE
    obtain ⟨X, hE, I1, L1, e, h'⟩ := hE
    subst e
    exact ⟨I1, L1, hE, h'⟩
  obtain ⟨xd, y, q, old, U, hgd, hgs, hq, hal0, hnum, hU, hT⟩ := vm_atomic_dec hl
  obtain ⟨xs, exs⟩ : ∃ xs, xs = y := ⟨y, rfl⟩
  have hgs : vm_rd S f.s = some xs := exs ▸ hgs
  have z4 := vf_z_cases f
  have z8 : f.z ≤ 8 := by rcases z4 with e | e | e | e <;> omega
  obtain ⟨B, hB, eB⟩ := vc_mnum h.1.2 hnum
  have hRD := vc_mread (n := n) (sl := sl) hC h hB (by omega)
  obtain ⟨I2, hW, hm, hf⟩ := vc_mwrite (n := n) (sl := sl) (R := R) hC z8 h hU
  have hal := vm_al z4 hal0
  rw [← vm_io (vw_dO ef)] at hW hRD hal
  rw [eB] at hRD
  rw [if_pos hi] at hq hT
  obtain ⟨x0, exq⟩ : ∃ x0, x0 = q := ⟨q, rfl⟩
  have hg0 : vm_rd S 0 = some x0 := exq ▸ hq
  subst hT
  refine jv_Wp.lift (fun _ Kz => jv_Ev.steps jv_i62 1 (pc' := 1) (l' := [(0, .ref 171), (1, .long w)]) (st' := [.long w]) rfl Kz) ?_
  refine jv_Wp.lift (fun _ Kz => jv_Ev.c jv_i62 (pc' := 4) (S' := [.int (vl_I f.z)]) jv_i85 [.long w] rfl rfl rfl rfl rfl rfl (vw_f85 ef) rfl rfl Kz) ?_
  refine jv_Wp.lift (fun _ Kz => jv_Ev.steps jv_i62 2 (pc' := 6) (l' := [(3, .int (vl_I f.z)), (0, .ref 171), (1, .long w)]) (st' := [.long w]) rfl Kz) ?_
  refine jv_Wp.lift (fun _ Kz => jv_Ev.c jv_i62 (pc' := 9) (S' := [.int (241 : Int32)]) jv_i89 [.long w] rfl rfl rfl rfl rfl rfl (vw_l89 ef hi (by decide)) rfl rfl Kz) ?_
  refine jv_Wp.lift (fun _ Kz => jv_Ev.steps jv_i62 3 (pc' := 13) (l' := [(4, .int (241 : Int32)), (3, .int (vl_I f.z)), (0, .ref 171), (1, .long w)]) (st' := [.long w, .ref 171]) rfl Kz) ?_
  refine jv_Wp.lift (fun _ Kz => jv_Ev.c jv_i62 (pc' := 16) (S' := [.int (vl_I f.d), .ref 171]) jv_i86 [.long w] rfl rfl rfl rfl rfl rfl (vw_f86 ef) rfl rfl Kz) ?_
  refine jv_Wp.lift (fun _ Kz => jv_Ev.c jv_i62 (pc' := 19) (S' := [.long xd]) jv_i53 [.ref 171, .int (vl_I f.d)] rfl rfl rfl rfl (jv_cal rfl (jv_H_at (vm_cK hC 171 2 13 (by decide))) rfl rfl) rfl (vm_cget hC h hd hgd) rfl rfl Kz) ?_
  refine jv_Wp.lift (fun _ Kz => jv_Ev.steps jv_i62 1 (pc' := 20) (l' := [(4, .int (241 : Int32)), (3, .int (vl_I f.z)), (0, .ref 171), (1, .long w)]) (st' := [.long w, .long xd]) rfl Kz) ?_
  refine jv_Wp.lift (fun _ Kz => jv_Ev.c jv_i62 (pc' := 23) (S' := [.int (Int32.ofInt f.o), .long xd]) jv_i88 [.long w] rfl rfl rfl rfl rfl rfl (vw_f88 ef) rfl rfl Kz) ?_
  refine jv_Wp.lift (fun _ Kz => jv_Ev.steps jv_i62 5 (pc' := 29) (l' := [(5, .long (xd + (Int32.ofInt f.o).toInt64)), (4, .int (241 : Int32)), (3, .int (vl_I f.z)), (0, .ref 171), (1, .long w)]) (st' := [.long w, .ref 171]) rfl Kz) ?_
  refine jv_Wp.lift (fun _ Kz => jv_Ev.c jv_i62 (pc' := 32) (S' := [.int (vl_I f.s), .ref 171]) jv_i87 [.long w] rfl rfl rfl rfl rfl rfl (vw_f87 ef) rfl rfl Kz) ?_
  refine jv_Wp.lift (fun _ Kz => jv_Ev.c jv_i62 (pc' := 35) (S' := [.long xs]) jv_i53 [.ref 171, .int (vl_I f.s)] rfl rfl rfl rfl (jv_cal rfl (jv_H_at (vm_cK hC 171 2 13 (by decide))) rfl rfl) rfl (vm_cget hC h hs hgs) rfl rfl Kz) ?_
  refine jv_Wp.lift (fun _ Kz => jv_Ev.steps jv_i62 9 (pc' := 46) (l' := [(7, .long xs), (5, .long (xd + (Int32.ofInt f.o).toInt64)), (4, .int (241 : Int32)), (3, .int (vl_I f.z)), (0, .ref 171), (1, .long w)]) (st' := [.int (lg_cmp ((xd + (Int32.ofInt f.o).toInt64) &&& ((vl_I f.z) - (1 : Int32)).toInt64) (0 : Int64))]) rfl Kz) ?_
  refine jv_Wp.cnd jv_i62 (pt := 59) (pe := 49) (p := ((lg_cmp ((xd + (Int32.ofInt f.o).toInt64) &&& ((vl_I f.z) - (1 : Int32)).toInt64) (0 : Int64)) = 0)) (q := (((xd + (Int32.ofInt f.o).toInt64) &&& ((vl_I f.z) - (1 : Int32)).toInt64) = (0 : Int64))) rfl jv_bi_eq rfl rfl (lg_cmp_eq ((xd + (Int32.ofInt f.o).toInt64) &&& ((vl_I f.z) - (1 : Int32)).toInt64) (0 : Int64)) (fun _ => ?_) (fun hz => absurd hal hz)
  refine jv_Wp.lift (fun _ Kz => jv_Ev.steps jv_i62 3 (pc' := 63) (l' := [(7, .long xs), (5, .long (xd + (Int32.ofInt f.o).toInt64)), (4, .int (241 : Int32)), (3, .int (vl_I f.z)), (0, .ref 171), (1, .long w)]) (st' := [.int (vl_I f.z), .long (xd + (Int32.ofInt f.o).toInt64), .ref 171]) rfl Kz) ?_
  refine jv_Wp.lift (fun _ Kz => jv_Ev.c jv_i62 (pc' := 66) (S' := [.long (vm_J old)]) jv_i58 [.ref 171, .long (xd + (Int32.ofInt f.o).toInt64), .int (vl_I f.z)] rfl rfl rfl rfl (jv_cal rfl (jv_H_at (vm_cK hC 171 2 13 (by decide))) rfl rfl) rfl hRD rfl rfl Kz) ?_
  refine jv_Wp.lift (fun _ Kz => jv_Ev.steps jv_i62 4 (pc' := 73) (l' := [(9, .long (vm_J old)), (7, .long xs), (5, .long (xd + (Int32.ofInt f.o).toInt64)), (4, .int (241 : Int32)), (3, .int (vl_I f.z)), (0, .ref 171), (1, .long w)]) (st' := [.int (240 : Int32)]) rfl Kz) ?_
  refine jv_Wp.lift (fun _ Kz => jv_Ev.br jv_i62 (pc' := 171) (st' := []) rfl (by rfl) Kz) ?_
  refine jv_Wp.lift (fun _ Kz => jv_Ev.steps jv_i62 3 (pc' := 175) (l' := [(9, .long (vm_J old)), (7, .long xs), (5, .long (xd + (Int32.ofInt f.o).toInt64)), (4, .int (241 : Int32)), (3, .int (vl_I f.z)), (0, .ref 171), (1, .long w)]) (st' := [.int (0 : Int32), .ref 171, .long (vm_J old)]) rfl Kz) ?_
  refine jv_Wp.lift (fun _ Kz => jv_Ev.c jv_i62 (pc' := 178) (S' := [.long x0, .long (vm_J old)]) jv_i53 [.ref 171, .int (0 : Int32)] rfl rfl rfl rfl (jv_cal rfl (jv_H_at (vm_cK hC 171 2 13 (by decide))) rfl rfl) rfl (vm_cget hC h (r := 0) (by decide) hg0) rfl rfl Kz) ?_
  refine jv_Wp.lift (fun _ Kz => jv_Ev.steps jv_i62 3 (pc' := 182) (l' := [(9, .long (vm_J old)), (7, .long xs), (5, .long (xd + (Int32.ofInt f.o).toInt64)), (4, .int (241 : Int32)), (3, .int (vl_I f.z)), (0, .ref 171), (1, .long w)]) (st' := [.int ((8 : Int32) * (vl_I f.z)), .long x0, .long (vm_J old)]) rfl Kz) ?_
  refine jv_Wp.lift (fun _ Kz => jv_Ev.c jv_i62 (pc' := 185) (S' := [.long (jv_clowest ((8 : Int32) * (vl_I f.z))), .long x0, .long (vm_J old)]) jv_i5 [.int ((8 : Int32) * (vl_I f.z))] rfl rfl rfl rfl rfl rfl (jv_s5 ((8 : Int32) * (vl_I f.z))) rfl rfl Kz) ?_
  refine jv_Wp.lift (fun _ Kz => jv_Ev.steps jv_i62 2 (pc' := 187) (l' := [(9, .long (vm_J old)), (7, .long xs), (5, .long (xd + (Int32.ofInt f.o).toInt64)), (4, .int (241 : Int32)), (3, .int (vl_I f.z)), (0, .ref 171), (1, .long w)]) (st' := [.int (lg_cmp (vm_J old) (x0 &&& (jv_clowest ((8 : Int32) * (vl_I f.z)))))]) rfl Kz) ?_
  refine jv_Wp.cnd jv_i62 (pt := 195) (pe := 190) (p := (¬ (lg_cmp (vm_J old) (x0 &&& (jv_clowest ((8 : Int32) * (vl_I f.z))))) = 0)) (q := (¬ (vm_J old) = (x0 &&& (jv_clowest ((8 : Int32) * (vl_I f.z)))))) rfl jv_bi_ne rfl rfl (not_congr (lg_cmp_eq (vm_J old) (x0 &&& (jv_clowest ((8 : Int32) * (vl_I f.z)))))) (fun h1 => ?_) (fun h1 => ?_)
  · refine jv_Wp.lift (fun _ Kz => jv_Ev.steps jv_i62 6 (pc' := 205) (l' := [(11, .long (vm_J old)), (9, .long (vm_J old)), (7, .long xs), (5, .long (xd + (Int32.ofInt f.o).toInt64)), (4, .int (241 : Int32)), (3, .int (vl_I f.z)), (0, .ref 171), (1, .long w)]) (st' := [.long (vm_J old), .int (vl_I f.z), .long (xd + (Int32.ofInt f.o).toInt64), .ref 171]) rfl Kz) ?_
    have ev : (vm_J old) = Int64.ofBitVec (vm_new f (BitVec.ofNat 64 old) y.toBitVec q.toBitVec) := Int64.toBitVec_inj.mp (by show _ = vm_new f (BitVec.ofNat 64 old) y.toBitVec q.toBitVec; unfold vm_new; rw [if_neg (show ¬ (f.i = 0 ∨ f.i = 1) by omega), if_neg (show ¬ (f.i = 64 ∨ f.i = 65) by omega), if_neg (show ¬ (f.i = 80 ∨ f.i = 81) by omega), if_neg (show ¬ (f.i = 160 ∨ f.i = 161) by omega), if_neg (show ¬ f.i = 225 by omega), if_neg (show ¬ BitVec.ofNat 64 old = q.toBitVec &&& vb_lowest (8 * f.z) from fun z => h1 (Int64.toBitVec_inj.mp (by rw [← (show x0.toBitVec &&& vb_lowest (8 * f.z) = (x0 &&& (jv_clowest ((8 : Int32) * (vl_I f.z)))).toBitVec from by rw [Int64.toBitVec_and, vi_mul8, vl_lowk (n := 8 * f.z) (by omega)]), exq]; exact z)))]; rfl)
    refine jv_Wp.lift (fun _ Kz => jv_Ev.c jv_i62 (pc' := 208) (S' := []) (G1 := (jv_H K I2 L R)) jv_i60 [.ref 171, .long (xd + (Int32.ofInt f.o).toInt64), .int (vl_I f.z), .long (vm_J old)] rfl rfl rfl rfl (jv_cal rfl (jv_H_at (vm_cK hC 171 2 13 (by decide))) rfl rfl) rfl (show jv_Ms 60 [.ref 171, .long (xd + (Int32.ofInt f.o).toInt64), .int (vl_I f.z), .long (vm_J old)] _ _ _ _ from by rw [ev]; exact hW) rfl rfl Kz) ?_
    refine jv_Wp.lift (fun _ Kz => jv_Ev.steps jv_i62 3 (pc' := 212) (l' := [(11, .long (vm_J old)), (9, .long (vm_J old)), (7, .long xs), (5, .long (xd + (Int32.ofInt f.o).toInt64)), (4, .int (241 : Int32)), (3, .int (vl_I f.z)), (0, .ref 171), (1, .long w)]) (st' := [.int (1 : Int32)]) rfl Kz) ?_
    refine jv_Wp.lift (fun _ Kz => jv_Ev.br jv_i62 (pc' := 215) (st' := []) rfl (by rfl) Kz) ?_
    refine jv_Wp.lift (fun _ Kz => jv_Ev.steps jv_i62 3 (pc' := 221) (l' := [(11, .long (vm_J old)), (9, .long (vm_J old)), (7, .long xs), (5, .long (xd + (Int32.ofInt f.o).toInt64)), (4, .int (241 : Int32)), (3, .int (vl_I f.z)), (0, .ref 171), (1, .long w)]) (st' := [.int (241 : Int32), .int (241 : Int32), .ref 171]) rfl Kz) ?_
    refine jv_Wp.lift (fun _ Kz => jv_Ev.br jv_i62 (pc' := 224) (st' := [.ref 171]) rfl (by rfl) Kz) ?_
    refine jv_Wp.lift (fun _ Kz => jv_Ev.steps jv_i62 3 (pc' := 234) (l' := [(11, .long (vm_J old)), (9, .long (vm_J old)), (7, .long xs), (5, .long (xd + (Int32.ofInt f.o).toInt64)), (4, .int (241 : Int32)), (3, .int (vl_I f.z)), (0, .ref 171), (1, .long w)]) (st' := [.long (vm_J old), .int (0 : Int32), .ref 171]) rfl Kz) ?_
    refine jv_Wp.lift (fun _ Kz => jv_Ev.c jv_i62 (pc' := 237) (S' := []) (G1 := (jv_H K (jv_u I2 171 2 ((I2 171 2) ||| ((1 : Int32) <<< ((vl_I 0) &&& 31)))) (jv_u L 172 0 (vm_J old)) R)) jv_i54 [.ref 171, .int (0 : Int32), .long (vm_J old)] rfl rfl rfl rfl (jv_cal rfl (jv_H_at (vm_cK hC 171 2 13 (by decide))) rfl rfl) rfl (vm_cset (I := I2) (L := L) (n := n) (sl := sl) (r := 0) hC (by decide)) rfl rfl Kz) ?_
    refine jv_Wp.of (jv_Ev.ret jv_i62 rfl rfl) ?_
    rw [hQ]
    exact ⟨_, _, rfl, vc_m_gv (r := 0) hm (by decide), vm_gv_ff (vc_ff_le (fun _ _ z => Or.inl z) hf)⟩
  · refine jv_Wp.lift (fun _ Kz => jv_Ev.steps jv_i62 7 (pc' := 205) (l' := [(11, .long xs), (9, .long (vm_J old)), (7, .long xs), (5, .long (xd + (Int32.ofInt f.o).toInt64)), (4, .int (241 : Int32)), (3, .int (vl_I f.z)), (0, .ref 171), (1, .long w)]) (st' := [.long xs, .int (vl_I f.z), .long (xd + (Int32.ofInt f.o).toInt64), .ref 171]) rfl Kz) ?_
    have ev : xs = Int64.ofBitVec (vm_new f (BitVec.ofNat 64 old) y.toBitVec q.toBitVec) := Int64.toBitVec_inj.mp (by rw [exs]; show _ = vm_new f (BitVec.ofNat 64 old) y.toBitVec q.toBitVec; unfold vm_new; rw [if_neg (show ¬ (f.i = 0 ∨ f.i = 1) by omega), if_neg (show ¬ (f.i = 64 ∨ f.i = 65) by omega), if_neg (show ¬ (f.i = 80 ∨ f.i = 81) by omega), if_neg (show ¬ (f.i = 160 ∨ f.i = 161) by omega), if_neg (show ¬ f.i = 225 by omega), if_pos (show BitVec.ofNat 64 old = q.toBitVec &&& vb_lowest (8 * f.z) from by rw [← exq, (show x0.toBitVec &&& vb_lowest (8 * f.z) = (x0 &&& (jv_clowest ((8 : Int32) * (vl_I f.z)))).toBitVec from by rw [Int64.toBitVec_and, vi_mul8, vl_lowk (n := 8 * f.z) (by omega)]), ← (Classical.not_not.mp h1)]; rfl)])
    refine jv_Wp.lift (fun _ Kz => jv_Ev.c jv_i62 (pc' := 208) (S' := []) (G1 := (jv_H K I2 L R)) jv_i60 [.ref 171, .long (xd + (Int32.ofInt f.o).toInt64), .int (vl_I f.z), .long xs] rfl rfl rfl rfl (jv_cal rfl (jv_H_at (vm_cK hC 171 2 13 (by decide))) rfl rfl) rfl (show jv_Ms 60 [.ref 171, .long (xd + (Int32.ofInt f.o).toInt64), .int (vl_I f.z), .long xs] _ _ _ _ from by rw [ev]; exact hW) rfl rfl Kz) ?_
    refine jv_Wp.lift (fun _ Kz => jv_Ev.steps jv_i62 3 (pc' := 212) (l' := [(11, .long xs), (9, .long (vm_J old)), (7, .long xs), (5, .long (xd + (Int32.ofInt f.o).toInt64)), (4, .int (241 : Int32)), (3, .int (vl_I f.z)), (0, .ref 171), (1, .long w)]) (st' := [.int (1 : Int32)]) rfl Kz) ?_
    refine jv_Wp.lift (fun _ Kz => jv_Ev.br jv_i62 (pc' := 215) (st' := []) rfl (by rfl) Kz) ?_
    refine jv_Wp.lift (fun _ Kz => jv_Ev.steps jv_i62 3 (pc' := 221) (l' := [(11, .long xs), (9, .long (vm_J old)), (7, .long xs), (5, .long (xd + (Int32.ofInt f.o).toInt64)), (4, .int (241 : Int32)), (3, .int (vl_I f.z)), (0, .ref 171), (1, .long w)]) (st' := [.int (241 : Int32), .int (241 : Int32), .ref 171]) rfl Kz) ?_
    refine jv_Wp.lift (fun _ Kz => jv_Ev.br jv_i62 (pc' := 224) (st' := [.ref 171]) rfl (by rfl) Kz) ?_
    refine jv_Wp.lift (fun _ Kz => jv_Ev.steps jv_i62 3 (pc' := 234) (l' := [(11, .long xs), (9, .long (vm_J old)), (7, .long xs), (5, .long (xd + (Int32.ofInt f.o).toInt64)), (4, .int (241 : Int32)), (3, .int (vl_I f.z)), (0, .ref 171), (1, .long w)]) (st' := [.long (vm_J old), .int (0 : Int32), .ref 171]) rfl Kz) ?_
    refine jv_Wp.lift (fun _ Kz => jv_Ev.c jv_i62 (pc' := 237) (S' := []) (G1 := (jv_H K (jv_u I2 171 2 ((I2 171 2) ||| ((1 : Int32) <<< ((vl_I 0) &&& 31)))) (jv_u L 172 0 (vm_J old)) R)) jv_i54 [.ref 171, .int (0 : Int32), .long (vm_J old)] rfl rfl rfl rfl (jv_cal rfl (jv_H_at (vm_cK hC 171 2 13 (by decide))) rfl rfl) rfl (vm_cset (I := I2) (L := L) (n := n) (sl := sl) (r := 0) hC (by decide)) rfl rfl Kz) ?_
    refine jv_Wp.of (jv_Ev.ret jv_i62 rfl rfl) ?_
    rw [hQ]
    exact ⟨_, _, rfl, vc_m_gv (r := 0) hm (by decide), vm_gv_ff (vc_ff_le (fun _ _ z => Or.inl z) hf)⟩
theorem vc_atomicM {K : Nat → Option (Nat × Nat)} {I : Nat → Nat → Int32} {L : Nat → Nat → Int64} {R : Nat → Nat → Value} (hC : vm_CW K R) {S T : vm_S} (h : vm_c I L S) {w : Int64} {f : vf_F} (ef : vc_F w = f) (hd : f.d < 11) (hs : f.s < 11) (hi : f.i = 0 ∨ f.i = 1 ∨ f.i = 64 ∨ f.i = 65 ∨ f.i = 80 ∨ f.i = 81 ∨ f.i = 160 ∨ f.i = 161 ∨ f.i = 225 ∨ f.i = 241) (hl : vm_atomic 1073750528 1073807360 f S = some T) {n sl : Nat} : ∃ I1 L1, jv_Ms 62 [.ref 171, .long w] (jv_H K I L R) n sl (none, jv_H K I1 L1 R, n, sl) ∧ vm_c I1 L1 T ∧ vc_ff vm_Er I L I1 L1 := by
  rcases hi with hi | hi | hi | hi | hi | hi | hi | hi | hi | hi
  · exact vc_atomic0 hC h ef hd hs hi hl
  · exact vc_atomic1 hC h ef hd hs hi hl
  · exact vc_atomic64 hC h ef hd hs hi hl
  · exact vc_atomic65 hC h ef hd hs hi hl
  · exact vc_atomic80 hC h ef hd hs hi hl
  · exact vc_atomic81 hC h ef hd hs hi hl
  · exact vc_atomic160 hC h ef hd hs hi hl
  · exact vc_atomic161 hC h ef hd hs hi hl
  · exact vc_atomic225 hC h ef hd hs hi hl
  · exact vc_atomic241 hC h ef hd hs hi hl
theorem vc_instr3A {K : Nat → Option (Nat × Nat)} {I : Nat → Nat → Int32} {L : Nat → Nat → Int64} {R : Nat → Nat → Value} (hC : vm_CW K R) {S T : vm_S} (h : vm_c I L S) {w : Int64} {f : vf_F} (ef : vc_F w = f) (hd : f.d < 11) (hs : f.s < 11) {pr : Nat} (hk : f.kind = 3) (hmo : f.mode = 6) (hi : f.i = 0 ∨ f.i = 1 ∨ f.i = 64 ∨ f.i = 65 ∨ f.i = 80 ∨ f.i = 81 ∨ f.i = 160 ∨ f.i = 161 ∨ f.i = 225 ∨ f.i = 241) (hl : vm_atomic 1073750528 1073807360 f S = some T) {n sl : Nat} : ∃ I1 L1, jv_Ms 55 [.ref 171, .ref pr, .long w] (jv_H K I L R) n sl (none, jv_H K I1 L1 R, n, sl) ∧ vm_c I1 L1 T ∧ vc_ff vm_Er I L I1 L1 := by
  obtain ⟨Q, hQ⟩ : ∃ Q : jv_R → Prop, Q = fun X => ∃ I1 L1, X = (none, jv_H K I1 L1 R, n, sl) ∧ vm_c I1 L1 T ∧ vc_ff vm_Er I L I1 L1 := ⟨_, rfl⟩
  suffices hE : jv_Wp 55 0 [(0, .ref 171), (1, .ref pr), (2, .long w)] [] (jv_H K I L R) n sl Q by
    rw [hQ] at hE
    obtain ⟨X, hE, I1, L1, e, h'⟩ := hE
    subst e
    exact ⟨I1, L1, hE, h'⟩
  obtain ⟨I2, L2, hF, hm, hf⟩ := vc_atomicM (n := n) (sl := sl) hC h ef hd hs hi hl
  refine jv_Wp.lift (fun _ Kz => jv_Ev.steps jv_i55 1 (pc' := 1) (l' := [(0, .ref 171), (1, .ref pr), (2, .long w)]) (st' := [.long w]) rfl Kz) ?_
  refine jv_Wp.lift (fun _ Kz => jv_Ev.c jv_i55 (pc' := 4) (S' := [.int (3 : Int32)]) jv_i81 [.long w] rfl rfl rfl rfl rfl rfl (vw_l81 ef hk rfl) rfl rfl Kz) ?_
  refine jv_Wp.lift (fun _ Kz => jv_Ev.br jv_i55 (pc' := 127) (st' := []) rfl (by rfl) Kz) ?_
  refine jv_Wp.lift (fun _ Kz => jv_Ev.steps jv_i55 1 (pc' := 128) (l' := [(0, .ref 171), (1, .ref pr), (2, .long w)]) (st' := [.long w]) rfl Kz) ?_
  refine jv_Wp.lift (fun _ Kz => jv_Ev.c jv_i55 (pc' := 131) (S' := [.int (vl_I f.mode)]) jv_i84 [.long w] rfl rfl rfl rfl rfl rfl (vw_f84 ef) rfl rfl Kz) ?_
  refine jv_Wp.lift (fun _ Kz => jv_Ev.steps jv_i55 1 (pc' := 133) (l' := [(0, .ref 171), (1, .ref pr), (2, .long w)]) (st' := [.int (6 : Int32), .int (vl_I f.mode)]) rfl Kz) ?_
  refine jv_Wp.cnd jv_i55 (pt := 144) (pe := 136) (p := (¬ (vl_I f.mode) = (6 : Int32))) (q := (¬ (vl_I f.mode) = (6 : Int32))) rfl jv_bc_ne rfl rfl Iff.rfl (fun hz => absurd hz (fun z => z ((vl_I_inj (a := f.mode) (b := 6) (by have : f.mode = f.code / 32 := rfl; have := vw_dc ef; omega) (by decide)).mpr hmo))) (fun _ => ?_)
  refine jv_Wp.lift (fun _ Kz => jv_Ev.steps jv_i55 2 (pc' := 138) (l' := [(0, .ref 171), (1, .ref pr), (2, .long w)]) (st' := [.long w, .ref 171]) rfl Kz) ?_
  refine jv_Wp.lift (fun _ Kz => jv_Ev.c jv_i55 (pc' := 141) (S' := []) (G1 := (jv_H K I2 L2 R)) jv_i62 [.ref 171, .long w] rfl rfl rfl rfl (jv_cal rfl (jv_H_at (vm_cK hC 171 2 13 (by decide))) rfl rfl) rfl hF rfl rfl Kz) ?_
  refine jv_Wp.lift (fun _ Kz => jv_Ev.steps jv_i55 1 (pc' := 190) (l' := [(0, .ref 171), (1, .ref pr), (2, .long w)]) (st' := []) rfl Kz) ?_
  refine jv_Wp.of (jv_Ev.ret jv_i55 rfl rfl) ?_
  rw [hQ]
  exact ⟨_, _, rfl, hm, hf⟩
theorem vm_imm (w : Int64) : (jv_wfimmediate w).toInt = ((w.toBitVec.toNat / 4294967296 : Nat) : Int) ∨ (jv_wfimmediate w).toInt = ((w.toBitVec.toNat / 4294967296 : Nat) : Int) - 4294967296 := by
  have b := w.toBitVec.isLt
  have e : (jv_wfimmediate w).toBitVec = BitVec.ofNat 32 (w.toBitVec.toNat / 4294967296) := by
    unfold jv_wfimmediate
    rw [vl_i32, vl_sshr w (k := 32) (by decide)]
    refine BitVec.eq_of_getLsbD_eq (fun i hi => ?_)
    rw [BitVec.getLsbD_setWidth, BitVec.getLsbD_sshiftRight, BitVec.getLsbD_ofNat, decide_eq_true hi, decide_eq_false (show ¬ 64 ≤ i by omega), if_pos (show 32 + i < 64 by omega), Bool.true_and, Bool.true_and, Bool.not_false, Bool.true_and]
    rw [show 4294967296 = 2 ^ 32 from rfl, Nat.testBit_div_two_pow, BitVec.testBit_toNat, Nat.add_comm]
  show (jv_wfimmediate w).toBitVec.toInt = _ ∨ (jv_wfimmediate w).toBitVec.toInt = _
  rw [e, BitVec.toInt_eq_toNat_cond, BitVec.toNat_ofNat]
  split
  · exact Or.inl (by omega)
  · exact Or.inr (by omega)
theorem vm_wide {w w2 : Int64} {f : vf_F} (ef : vc_F w = f) {i2 : Int} (e2 : (vc_F w2).i = i2) : (((w.toUInt64 >>> ((32 : Int32).toInt64.toUInt64 &&& Int64.toUInt64 63)).toInt64) ||| ((Int32.ofInt (vc_F w2).i).toInt64 <<< ((32 : Int32).toInt64 &&& 63))) = vm_i (i2 * 4294967296 + f.i % 4294967296) := by
  have q1 := vw_dQ ef; have q2 := vw_dQ (w := w2) rfl
  have ew : f.i = ((w.toBitVec.toNat / 4294967296 : Nat) : Int) ∨ f.i = ((w.toBitVec.toNat / 4294967296 : Nat) : Int) - 4294967296 := by
    have z := vw_eQ ef
    have b := w.toBitVec.isLt
    rw [← q1, ← z]
    exact vm_imm w
  have b := w.toBitVec.isLt
  refine Int64.toBitVec_inj.mp ?_
  rw [Int64.toBitVec_or, vl_ushr w (k := 32) (by decide), vl_shl _ (k := 32) (by decide)]
  have h2 : ((Int32.ofInt (vc_F w2).i).toInt64) = vm_i i2 := vm_io (q2.trans e2)
  rw [h2]
  show w.toBitVec >>> 32 ||| BitVec.ofInt 64 i2 <<< 32 = BitVec.ofInt 64 (i2 * 4294967296 + f.i % 4294967296)
  have e3 : f.i % 4294967296 = ((w.toBitVec.toNat / 4294967296 : Nat) : Int) := by omega
  rw [e3, BitVec.ofInt_add, BitVec.ofInt_natCast]
  have e4 : BitVec.ofInt 64 (i2 * 4294967296) = BitVec.ofInt 64 i2 <<< 32 := by
    rw [BitVec.ofInt_mul, show BitVec.ofInt 64 4294967296 = BitVec.twoPow 64 32 from by decide, BitVec.mul_twoPow_eq_shiftLeft]
  rw [e4, BitVec.or_comm]
  have e5 : w.toBitVec >>> 32 = BitVec.ofNat 64 (w.toBitVec.toNat / 4294967296) := by
    refine BitVec.eq_of_toNat_eq ?_
    rw [BitVec.toNat_ushiftRight, Nat.shiftRight_eq_div_pow, BitVec.toNat_ofNat]
    omega
  rw [← e5]
  refine (BitVec.add_eq_or_of_and_eq_zero _ _ ?_).symm
  refine BitVec.eq_of_getLsbD_eq (fun i hi => ?_)
  rw [BitVec.getLsbD_and, BitVec.getLsbD_shiftLeft, BitVec.getLsbD_ushiftRight]
  by_cases c : i < 32
  · rw [decide_eq_true c]; simp
  · rw [BitVec.getLsbD_of_ge w.toBitVec (32 + i) (by omega)]; simp
theorem vc_instr0 {K : Nat → Option (Nat × Nat)} {I : Nat → Nat → Int32} {L : Nat → Nat → Int64} {R : Nat → Nat → Value} (hC : vm_CW K R) {S : vm_S} (h : vm_c I L S) {w : Int64} {f : vf_F} (ef : vc_F w = f) (hd : f.d < 11) (hk : f.kind = 0) {pr ws len p : Nat} {W : Nat → Int64} (hP : vc_P K L R pr ws len W) (hp1 : p + 1 < len) (hnx : I 171 8 = vl_I (p + 1)) {i2 : Int} (e2 : (vc_F (W (p + 1))).i = i2) {n sl : Nat} : ∃ I1 L1, jv_Ms 55 [.ref 171, .ref pr, .long w] (jv_H K I L R) n sl (none, jv_H K I1 L1 R, n, sl) ∧ vm_c I1 L1 (vm_gv S f.d (vm_i (i2 * 4294967296 + f.i % 4294967296))) ∧ I1 171 8 = vl_I (p + 2) ∧ vc_ff vm_Ep I L I1 L1 := by
  obtain ⟨Q, hQ⟩ : ∃ Q : jv_R → Prop, Q = fun X => ∃ I1 L1, X = (none, jv_H K I1 L1 R, n, sl) ∧ vm_c I1 L1 (vm_gv S f.d (vm_i (i2 * 4294967296 + f.i % 4294967296))) ∧ I1 171 8 = vl_I (p + 2) ∧ vc_ff vm_Ep I L I1 L1 := ⟨_, rfl⟩
  suffices hE : jv_Wp 55 0 [(0, .ref 171), (1, .ref pr), (2, .long w)] [] (jv_H K I L R) n sl Q by
    rw [hQ] at hE
    obtain ⟨X, hE, I1, L1, e, h'⟩ := hE
    subst e
    exact ⟨I1, L1, hE, h'⟩
  refine jv_Wp.lift (fun _ Kz => jv_Ev.steps jv_i55 1 (pc' := 1) (l' := [(0, .ref 171), (1, .ref pr), (2, .long w)]) (st' := [.long w]) rfl Kz) ?_
  refine jv_Wp.lift (fun _ Kz => jv_Ev.c jv_i55 (pc' := 4) (S' := [.int (0 : Int32)]) jv_i81 [.long w] rfl rfl rfl rfl rfl rfl (vw_l81 ef hk rfl) rfl rfl Kz) ?_
  refine jv_Wp.lift (fun _ Kz => jv_Ev.br jv_i55 (pc' := 48) (st' := []) rfl (by rfl) Kz) ?_
  refine jv_Wp.lift (fun _ Kz => jv_Ev.steps jv_i55 2 (pc' := 50) (l' := [(0, .ref 171), (1, .ref pr), (2, .long w)]) (st' := [.long w, .ref 171]) rfl Kz) ?_
  refine jv_Wp.lift (fun _ Kz => jv_Ev.c jv_i55 (pc' := 53) (S' := [.int (vl_I f.d), .ref 171]) jv_i86 [.long w] rfl rfl rfl rfl rfl rfl (vw_f86 ef) rfl rfl Kz) ?_
  refine jv_Wp.lift (fun _ Kz => jv_Ev.steps jv_i55 5 (pc' := 59) (l' := [(0, .ref 171), (1, .ref pr), (2, .long w)]) (st' := [.ref 171, .ref pr, .long ((w.toUInt64 >>> ((32 : Int32).toInt64.toUInt64 &&& Int64.toUInt64 63)).toInt64), .int (vl_I f.d), .ref 171]) rfl Kz) ?_
  refine jv_Wp.lift (fun _ Kz => jv_Ev.m jv_i55 (pc' := 62) (st' := [.int (I 171 8), .ref pr, .long ((w.toUInt64 >>> ((32 : Int32).toInt64.toUInt64 &&& Int64.toUInt64 63)).toInt64), .int (vl_I f.d), .ref 171]) (G' := (jv_H K I L R)) rfl rfl (jv_m_getI (vm_cK hC 171 2 13 (by decide)) rfl rfl rfl) Kz) ?_
  refine jv_Wp.lift (fun _ Kz => jv_Ev.c jv_i55 (pc' := 65) (S' := [.long (W (p + 1)), .long ((w.toUInt64 >>> ((32 : Int32).toInt64.toUInt64 &&& Int64.toUInt64 63)).toInt64), .int (vl_I f.d), .ref 171]) jv_i78 [.ref pr, .int (I 171 8)] rfl rfl rfl rfl (jv_cal rfl (jv_H_at hP.1) rfl rfl) rfl (vc_wordq hP hp1 hnx) rfl rfl Kz) ?_
  refine jv_Wp.lift (fun _ Kz => jv_Ev.c jv_i55 (pc' := 68) (S' := [.int (Int32.ofInt (vc_F (W (p + 1))).i), .long ((w.toUInt64 >>> ((32 : Int32).toInt64.toUInt64 &&& Int64.toUInt64 63)).toInt64), .int (vl_I f.d), .ref 171]) jv_i89 [.long (W (p + 1))] rfl rfl rfl rfl rfl rfl (vw_f89 rfl) rfl rfl Kz) ?_
  refine jv_Wp.lift (fun _ Kz => jv_Ev.steps jv_i55 4 (pc' := 73) (l' := [(0, .ref 171), (1, .ref pr), (2, .long w)]) (st' := [.long (((w.toUInt64 >>> ((32 : Int32).toInt64.toUInt64 &&& Int64.toUInt64 63)).toInt64) ||| ((Int32.ofInt (vc_F (W (p + 1))).i).toInt64 <<< ((32 : Int32).toInt64 &&& 63))), .int (vl_I f.d), .ref 171]) rfl Kz) ?_
  refine jv_Wp.lift (fun _ Kz => jv_Ev.c jv_i55 (pc' := 76) (S' := []) (G1 := (jv_H K (jv_u I 171 2 ((I 171 2) ||| ((1 : Int32) <<< ((vl_I f.d) &&& 31)))) (jv_u L 172 f.d (((w.toUInt64 >>> ((32 : Int32).toInt64.toUInt64 &&& Int64.toUInt64 63)).toInt64) ||| ((Int32.ofInt (vc_F (W (p + 1))).i).toInt64 <<< ((32 : Int32).toInt64 &&& 63)))) R)) jv_i54 [.ref 171, .int (vl_I f.d), .long (((w.toUInt64 >>> ((32 : Int32).toInt64.toUInt64 &&& Int64.toUInt64 63)).toInt64) ||| ((Int32.ofInt (vc_F (W (p + 1))).i).toInt64 <<< ((32 : Int32).toInt64 &&& 63)))] rfl rfl rfl rfl (jv_cal rfl (jv_H_at (vm_cK hC 171 2 13 (by decide))) rfl rfl) rfl (vm_cset (I := I) (L := L) (n := n) (sl := sl) (r := f.d) hC (by omega)) rfl rfl Kz) ?_
  refine jv_Wp.lift (fun _ Kz => jv_Ev.steps jv_i55 2 (pc' := 78) (l' := [(0, .ref 171), (1, .ref pr), (2, .long w)]) (st' := [.ref 171, .ref 171]) rfl Kz) ?_
  refine jv_Wp.lift (fun _ Kz => jv_Ev.m jv_i55 (pc' := 81) (st' := [.int (I 171 8), .ref 171]) (G' := (jv_H K (jv_u I 171 2 ((I 171 2) ||| ((1 : Int32) <<< ((vl_I f.d) &&& 31)))) (jv_u L 172 f.d (((w.toUInt64 >>> ((32 : Int32).toInt64.toUInt64 &&& Int64.toUInt64 63)).toInt64) ||| ((Int32.ofInt (vc_F (W (p + 1))).i).toInt64 <<< ((32 : Int32).toInt64 &&& 63)))) R)) rfl rfl (jv_m_getI (vm_cK hC 171 2 13 (by decide)) rfl rfl (jv_u_j _ _ _ _ (by decide))) Kz) ?_
  refine jv_Wp.lift (fun _ Kz => jv_Ev.steps jv_i55 2 (pc' := 83) (l' := [(0, .ref 171), (1, .ref pr), (2, .long w)]) (st' := [.int ((I 171 8) + (1 : Int32)), .ref 171]) rfl Kz) ?_
  refine jv_Wp.lift (fun _ Kz => jv_Ev.m jv_i55 (pc' := 86) (st' := []) (G' := (jv_H K (jv_u (jv_u I 171 2 ((I 171 2) ||| ((1 : Int32) <<< ((vl_I f.d) &&& 31)))) 171 8 ((I 171 8) + (1 : Int32))) (jv_u L 172 f.d (((w.toUInt64 >>> ((32 : Int32).toInt64.toUInt64 &&& Int64.toUInt64 63)).toInt64) ||| ((Int32.ofInt (vc_F (W (p + 1))).i).toInt64 <<< ((32 : Int32).toInt64 &&& 63)))) R)) rfl rfl (jv_m_putI (vm_cK hC 171 2 13 (by decide)) rfl rfl rfl rfl) Kz) ?_
  refine jv_Wp.lift (fun _ Kz => jv_Ev.steps jv_i55 1 (pc' := 190) (l' := [(0, .ref 171), (1, .ref pr), (2, .long w)]) (st' := []) rfl Kz) ?_
  refine jv_Wp.of (jv_Ev.ret jv_i55 rfl rfl) ?_
  have ev : (((w.toUInt64 >>> ((32 : Int32).toInt64.toUInt64 &&& Int64.toUInt64 63)).toInt64) ||| ((Int32.ofInt (vc_F (W (p + 1))).i).toInt64 <<< ((32 : Int32).toInt64 &&& 63))) = vm_i (i2 * 4294967296 + f.i % 4294967296) := vm_wide ef e2
  rw [hQ, ev]
  refine ⟨_, _, rfl, vm_c_nx (vc_m_gv h hd), ?_, vc_ff_trans (vc_ff_le (fun _ _ z => Or.inl z) (vm_gv_ff (vc_ff_refl _ I L))) (vc_ff_u (Or.inr ⟨rfl, rfl⟩))⟩
  rw [jv_u_self]
  rw [hnx]
  exact vl_I_add (p + 1) 1