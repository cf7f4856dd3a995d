/-! part f05: instructions of the class: loads, stores, jumps (gen/tf05.py) -/
theorem vw_l80 {w : Int64} {f : vf_F} (ef : vc_F w = f) {k : Nat} (hk : f.code = k) {x : Int32} (hx : vl_I k = x) {G : jv_G} {n sl : Nat} : jv_Ms 80 [.long w] G n sl (some (.int x), G, n, sl) := by subst hk; subst hx; exact vw_f80 ef
theorem vw_l81 {w : Int64} {f : vf_F} (ef : vc_F w = f) {k : Nat} (hk : f.kind = k) {x : Int32} (hx : vl_I k = x) {G : jv_G} {n sl : Nat} : jv_Ms 81 [.long w] G n sl (some (.int x), G, n, sl) := by subst hk; subst hx; exact vw_f81 ef
theorem vw_l84 {w : Int64} {f : vf_F} (ef : vc_F w = f) {k : Nat} (hk : f.mode = k) {x : Int32} (hx : vl_I k = x) {G : jv_G} {n sl : Nat} : jv_Ms 84 [.long w] G n sl (some (.int x), G, n, sl) := by subst hk; subst hx; exact vw_f84 ef
/-- the cells that an instruction may change, but for the place -/
abbrev vm_Er (q f : Nat) : Prop := vc_Ew q f ∨ q = 172 ∨ (q = 171 ∧ f = 2)
/-- and the place -/
abbrev vm_Ep (q f : Nat) : Prop := vm_Er q f ∨ (q = 171 ∧ f = 8)
theorem vm_i_int {i : Int} (h : -9223372036854775808 ≤ i ∧ i ≤ 9223372036854775807) : (vm_i i).toInt = i := by
  show (BitVec.ofInt 64 i).toInt = i
  rw [BitVec.toInt_ofInt]; exact vi_bm h.1 (by omega)
theorem vm_io {x : Int32} {i : Int} (h : x.toInt = i) : x.toInt64 = vm_i i := by
  have b1 := x.toInt_lt; have b2 := x.le_toInt
  refine Int64.toInt_inj.mp ?_
  rw [Int32.toInt_toInt64, h, vm_i_int (by omega)]
theorem vm_gv_ff {I : Nat → Nat → Int32} {L : Nat → Nat → Int64} {I1 : Nat → Nat → Int32} {L1 : Nat → Nat → Int64} {r : Nat} {x : Int32} {v : Int64} (h : vc_ff vm_Er I L I1 L1) : vc_ff vm_Er I L (jv_u I1 171 2 x) (jv_u L1 172 r v) := ⟨fun q f z => by
    refine Eq.trans ?_ (h.1 q f z)
    by_cases c : q = 171
    · subst c; exact jv_u_j _ _ _ _ (fun y => z (Or.inr (Or.inr ⟨rfl, y⟩)))
    · exact jv_u_o _ _ _ _ c, fun q f z => by
    refine Eq.trans ?_ (h.2 q f z)
    exact jv_u_o _ _ _ _ (fun y => z (Or.inr (Or.inl y)))⟩
theorem vb_shsx {x : BitVec 64} {n : Nat} (h0 : 0 < n) (h : n < 64) : (x <<< (64 - n)).sshiftRight (64 - n) = vb_sext (x &&& vb_lowest n) n := by
  have cb : (x &&& vb_lowest n).getLsbD (n - 1) = x.getLsbD (n - 1) := by
    rw [BitVec.getLsbD_and, vb_lowest_bit n (by omega), decide_eq_true (by omega), Bool.and_true]
  refine BitVec.eq_of_getLsbD_eq (fun i hi => ?_)
  rw [BitVec.getLsbD_sshiftRight, decide_eq_false (show ¬ 64 ≤ i by omega), Bool.not_false, Bool.true_and]
  have sh : ∀ j, 64 - n ≤ j → j < 64 → (x <<< (64 - n)).getLsbD j = x.getLsbD (j - (64 - n)) := fun j a b => by
    rw [BitVec.getLsbD_shiftLeft, decide_eq_true b, decide_eq_false (by omega)]; simp
  unfold vb_sext
  rw [cb]
  by_cases c : i < n
  · rw [if_pos (by omega), sh _ (by omega) (by omega), show 64 - n + i - (64 - n) = i by omega]
    have e1 : (x &&& vb_lowest n).getLsbD i = x.getLsbD i := by rw [BitVec.getLsbD_and, vb_lowest_bit n hi, decide_eq_true c, Bool.and_true]
    split
    · rw [BitVec.getLsbD_or, BitVec.getLsbD_not, vb_lowest_bit n hi, decide_eq_true c, e1]; simp
    · exact e1.symm
  · rw [if_neg (by omega), BitVec.msb_eq_getLsbD_last, sh _ (by omega) (by omega), show 64 - 1 - (64 - n) = n - 1 by omega]
    have e1 : (x &&& vb_lowest n).getLsbD i = false := by rw [BitVec.getLsbD_and, vb_lowest_bit n hi, decide_eq_false c, Bool.and_false]
    split
    · next g => rw [BitVec.getLsbD_or, BitVec.getLsbD_not, vb_lowest_bit n hi, decide_eq_false c, e1, g, decide_eq_true hi]; rfl
    · next g => rw [e1]; simpa using g
theorem vm_shs {v : Int64} {z : Nat} (hz : z = 1 ∨ z = 2 ∨ z = 4) : ((v <<< ((64 - 8 * vl_I z : Int32).toInt64 &&& 63)) >>> ((64 - 8 * vl_I z : Int32).toInt64 &&& 63)) = Int64.ofBitVec (vm_sx v.toBitVec (8 * z)) := by
  have key : ∀ n : Nat, 0 < n → n < 64 → ∀ s : Int64, s.toBitVec.smod 64 = BitVec.ofNat 64 (64 - n) → (v <<< s) >>> s = Int64.ofBitVec (vm_sx v.toBitVec n) := fun n a b s hs => by
    refine Int64.toBitVec_inj.mp ?_
    rw [Int64.toBitVec_shiftRight, Int64.toBitVec_shiftLeft, hs, BitVec.sshiftRight_eq', BitVec.shiftLeft_eq', show (BitVec.ofNat 64 (64 - n)).toNat = 64 - n from (BitVec.toNat_ofNat _ _).trans (Nat.mod_eq_of_lt (by omega)), vb_shsx a b]
    unfold vm_sx; rw [if_neg (by omega)]; rfl
  rcases hz with z | z | z <;> subst z
  · exact key 8 (by decide) (by decide) _ (by decide)
  · exact key 16 (by decide) (by decide) _ (by decide)
  · exact key 32 (by decide) (by decide) _ (by decide)
theorem vm_load_dec {SE AB : Int} {f : vf_F} {S T : vm_S} (h : vm_load SE AB f S = some T) : ∃ b v, vm_rd S f.s = some b ∧ vm_even SE (b + vm_i f.o) f.z ∧ vm_num SE AB S (b + vm_i f.o) f.z = some v ∧ T = vm_gv S f.d (if f.mode = 4 then Int64.ofBitVec (vm_sx (BitVec.ofNat 64 v) (8 * f.z)) else vm_J v) := by
  obtain ⟨b, hb, h⟩ := Option.bind_eq_some_iff.mp h
  by_cases c : vm_even SE (b + vm_i f.o) f.z
  · rw [if_pos c] at h
    obtain ⟨v, hv, e⟩ := Option.map_eq_some_iff.mp h
    exact ⟨b, v, hb, c, hv, e.symm⟩
  · rw [if_neg c] at h; cases h
theorem vm_store_dec {SE AB : Int} {f : vf_F} {S T : vm_S} (h : vm_store SE AB f S = some T) : ∃ b v, vm_rd S f.d = some b ∧ (if f.kind = 2 then some (vm_i f.i) else vm_rd S f.s) = some v ∧ vm_even SE (b + vm_i f.o) f.z ∧ vm_keep SE AB S (b + vm_i f.o) (vm_bt v) f.z = some T := by
  obtain ⟨b, hb, h⟩ := Option.bind_eq_some_iff.mp h
  obtain ⟨v, hv, h⟩ := Option.bind_eq_some_iff.mp h
  by_cases c : vm_even SE (b + vm_i f.o) f.z
  · rw [if_pos c] at h
    exact ⟨b, v, hb, hv, c, h⟩
  · rw [if_neg c] at h; cases h
theorem vm_atomic_dec {SE AB : Int} {f : vf_F} {S T : vm_S} (h : vm_atomic SE AB f S = some T) : ∃ b y q old U, vm_rd S f.d = some b ∧ vm_rd S f.s = some y ∧ (if f.i = 241 then vm_rd S 0 else some 0) = some q ∧ (b + vm_i f.o).toInt % (f.z : Int) = 0 ∧ vm_num SE AB S (b + vm_i f.o) f.z = some old ∧ vm_keep SE AB S (b + vm_i f.o) (vm_bt (Int64.ofBitVec (vm_new f (BitVec.ofNat 64 old) y.toBitVec q.toBitVec))) f.z = some U ∧ T = (if f.i = 241 then vm_gv U 0 (vm_J old) else if f.i % 2 = 1 then vm_gv U f.s (vm_J old) else U) := by
  obtain ⟨b, hb, h⟩ := Option.bind_eq_some_iff.mp h
  obtain ⟨y, hy, h⟩ := Option.bind_eq_some_iff.mp h
  obtain ⟨q, hq, h⟩ := Option.bind_eq_some_iff.mp h
  by_cases c : (b + vm_i f.o).toInt % (f.z : Int) = 0
  · rw [if_pos c] at h
    obtain ⟨old, ho, h⟩ := Option.bind_eq_some_iff.mp h
    obtain ⟨U, hU, e⟩ := Option.map_eq_some_iff.mp h
    exact ⟨b, y, q, old, U, hb, hy, hq, c, ho, hU, e.symm⟩
  · rw [if_neg c] at h; cases h
theorem vm_jump_dec {f : vf_F} {p : Nat} {S : vm_S} {g : Int} (h : vm_jump f p S = some g) : ∃ x y, vm_rd S f.d = some x ∧ (if f.bit3 = true then vm_rd S f.s else some (vm_i f.i)) = some y ∧ g = (if vm_so f x.toBitVec y.toBitVec = true then (p : Int) + 1 + f.o else (p : Int) + 1) := by
  obtain ⟨x, hx, h⟩ := Option.bind_eq_some_iff.mp h
  obtain ⟨y, hy, h⟩ := Option.bind_eq_some_iff.mp h
  exact ⟨x, y, hx, hy, (Option.some.inj h).symm⟩
theorem vm_arith_dec {f : vf_F} {S T : vm_S} (h : vm_arith f S = some T) : ∃ x y, (if f.n = 11 then some 0 else vm_rd S f.d) = some x ∧ (if f.n = 13 then some 0 else if f.bit3 = true then vm_rd S f.s else some (vm_i f.i)) = some y ∧ T = vm_gv S f.d (Int64.ofBitVec (vx_do f x.toBitVec y.toBitVec (vm_sg f x.toBitVec y.toBitVec))) := by
  obtain ⟨x, hx, h⟩ := Option.bind_eq_some_iff.mp h
  obtain ⟨y, hy, h⟩ := Option.bind_eq_some_iff.mp h
  exact ⟨x, y, hx, hy, (Option.some.inj h).symm⟩
theorem jv_i57 : jv_I 57 7 none 3 73 jv_c57 := ⟨rfl, rfl, rfl, rfl, rfl⟩
theorem vc_fetchM {K : Nat → Option (Nat × Nat)} {I : Nat → Nat → Int32} {L : Nat → Nat → Int64} {R : Nat → Nat → Value} (hC : vm_CW K R) {S T : vm_S} (h : vm_c I L S) {w : Int64} {f : vf_F} (ef : vc_F w = f) (hd : f.d < 11) (hs : f.s < 11) (hz : f.mode = 4 → f.z = 1 ∨ f.z = 2 ∨ f.z = 4) (hl : vm_load 1073750528 1073807360 f S = some T) {n sl : Nat} : ∃ I1 L1, jv_Ms 57 [.ref 171, .long w] (jv_H K I L R) n sl (none, jv_H K I1 L1 R, n, sl) ∧ vm_c I1 L1 T ∧ vc_ff vm_Er I L I1 L1 := by
  obtain ⟨Q, hQ⟩ : ∃ Q : jv_R → Prop, Q = fun X => ∃ I1 L1, X = (none, jv_H K I1 L1 R, n, sl) ∧ vm_c I1 L1 T ∧ vc_ff vm_Er I L I1 L1 := ⟨_, rfl⟩
  suffices hE : jv_Wp 57 0 [(0, .ref 171), (1, .long w)] [] (jv_H K I L R) n sl Q by
    rw [hQ] at hE
    obtain ⟨X, hE, I1, L1, e, h'⟩ := hE
    subst e
    exact ⟨I1, L1, hE, h'⟩
  obtain ⟨xs, v, hgs, hev, hnum, hT⟩ := vm_load_dec hl
  obtain ⟨B, hB, eB⟩ := vc_mnum h.1.2 hnum
  have z8 : f.z ≤ 8 := by rcases vf_z_cases f with e | e | e | e <;> omega
  have hRD := vc_mread (n := n) (sl := sl) hC h hB (by omega)
  rw [eB, ← vm_io (vw_dO ef)] at hRD
  refine jv_Wp.lift (fun _ Kz => jv_Ev.steps jv_i57 1 (pc' := 1) (l' := [(0, .ref 171), (1, .long w)]) (st' := [.long w]) rfl Kz) ?_
  refine jv_Wp.lift (fun _ Kz => jv_Ev.c jv_i57 (pc' := 4) (S' := [.int (vl_I f.z)]) jv_i85 [.long w] rfl rfl rfl rfl rfl rfl (vw_f85 ef) rfl rfl Kz) ?_
  refine jv_Wp.lift (fun _ Kz => jv_Ev.steps jv_i57 4 (pc' := 8) (l' := [(3, .int (vl_I f.z)), (0, .ref 171), (1, .long w)]) (st' := [.long w, .ref 171, .ref 171]) rfl Kz) ?_
  refine jv_Wp.lift (fun _ Kz => jv_Ev.c jv_i57 (pc' := 11) (S' := [.int (vl_I f.s), .ref 171, .ref 171]) jv_i87 [.long w] rfl rfl rfl rfl rfl rfl (vw_f87 ef) rfl rfl Kz) ?_
  refine jv_Wp.lift (fun _ Kz => jv_Ev.c jv_i57 (pc' := 14) (S' := [.long xs, .ref 171]) jv_i53 [.ref 171, .int (vl_I f.s)] rfl rfl rfl rfl (jv_cal rfl (jv_H_at (vm_cK hC 171 2 13 (by decide))) rfl rfl) rfl (vm_cget hC h hs hgs) rfl rfl Kz) ?_
  refine jv_Wp.lift (fun _ Kz => jv_Ev.steps jv_i57 1 (pc' := 15) (l' := [(3, .int (vl_I f.z)), (0, .ref 171), (1, .long w)]) (st' := [.long w, .long xs, .ref 171]) rfl Kz) ?_
  refine jv_Wp.lift (fun _ Kz => jv_Ev.c jv_i57 (pc' := 18) (S' := [.int (Int32.ofInt f.o), .long xs, .ref 171]) jv_i88 [.long w] rfl rfl rfl rfl rfl rfl (vw_f88 ef) rfl rfl Kz) ?_
  refine jv_Wp.lift (fun _ Kz => jv_Ev.steps jv_i57 3 (pc' := 21) (l' := [(3, .int (vl_I f.z)), (0, .ref 171), (1, .long w)]) (st' := [.int (vl_I f.z), .long (xs + (Int32.ofInt f.o).toInt64), .ref 171]) rfl Kz) ?_
  refine jv_Wp.lift (fun _ Kz => jv_Ev.c jv_i57 (pc' := 24) (S' := [.long (vm_J v)]) jv_i58 [.ref 171, .long (xs + (Int32.ofInt f.o).toInt64), .int (vl_I f.z)] rfl rfl rfl rfl (jv_cal rfl (jv_H_at (vm_cK hC 171 2 13 (by decide))) rfl rfl) rfl hRD rfl rfl Kz) ?_
  refine jv_Wp.lift (fun _ Kz => jv_Ev.steps jv_i57 2 (pc' := 27) (l' := [(4, .long (vm_J v)), (3, .int (vl_I f.z)), (0, .ref 171), (1, .long w)]) (st' := [.long w]) rfl Kz) ?_
  refine jv_Wp.lift (fun _ Kz => jv_Ev.c jv_i57 (pc' := 30) (S' := [.int (vl_I f.mode)]) jv_i84 [.long w] rfl rfl rfl rfl rfl rfl (vw_f84 ef) rfl rfl Kz) ?_
  refine jv_Wp.lift (fun _ Kz => jv_Ev.steps jv_i57 1 (pc' := 31) (l' := [(4, .long (vm_J v)), (3, .int (vl_I f.z)), (0, .ref 171), (1, .long w)]) (st' := [.int (4 : Int32), .int (vl_I f.mode)]) rfl Kz) ?_
  refine jv_Wp.cnd jv_i57 (pt := 53) (pe := 34) (p := (¬ (vl_I f.mode) = (4 : Int32))) (q := (¬ (vl_I f.mode) = (4 : Int32))) rfl jv_bc_ne rfl rfl Iff.rfl (fun h1 => ?_) (fun h1 => ?_)
  · refine jv_Wp.lift (fun _ Kz => jv_Ev.steps jv_i57 2 (pc' := 55) (l' := [(4, .long (vm_J v)), (3, .int (vl_I f.z)), (0, .ref 171), (1, .long w)]) (st' := [.long w, .ref 171]) rfl Kz) ?_
    refine jv_Wp.lift (fun _ Kz => jv_Ev.c jv_i57 (pc' := 58) (S' := [.int (vl_I f.d), .ref 171]) jv_i86 [.long w] rfl rfl rfl rfl rfl rfl (vw_f86 ef) rfl rfl Kz) ?_
    refine jv_Wp.lift (fun _ Kz => jv_Ev.steps jv_i57 1 (pc' := 60) (l' := [(4, .long (vm_J v)), (3, .int (vl_I f.z)), (0, .ref 171), (1, .long w)]) (st' := [.long (vm_J v), .int (vl_I f.d), .ref 171]) rfl Kz) ?_
    refine jv_Wp.lift (fun _ Kz => jv_Ev.c jv_i57 (pc' := 63) (S' := []) (G1 := (jv_H K (jv_u I 171 2 ((I 171 2) ||| ((1 : Int32) <<< ((vl_I f.d) &&& 31)))) (jv_u L 172 f.d (vm_J v)) R)) jv_i54 [.ref 171, .int (vl_I f.d), .long (vm_J v)] rfl rfl rfl rfl (jv_cal rfl (jv_H_at (vm_cK hC 171 2 13 (by decide))) rfl rfl) rfl (vm_cset (I := I) (L := L) (n := n) (sl := sl) (r := f.d) hC (by omega)) rfl rfl Kz) ?_
    refine jv_Wp.of (jv_Ev.ret jv_i57 rfl rfl) ?_
    rw [hQ]
    rw [if_neg (show ¬ f.mode = 4 from fun z => h1 ((vl_I_inj (a := f.mode) (b := 4) (by have : f.mode = f.code / 32 := rfl; have := vw_dc ef; omega) (by decide)).mpr z))] at hT
    subst hT
    exact ⟨_, _, rfl, vc_m_gv h hd, vm_gv_ff (vc_ff_refl _ I L)⟩
  · refine jv_Wp.lift (fun _ Kz => jv_Ev.steps jv_i57 14 (pc' := 55) (l' := [(4, .long (((vm_J v) <<< (((64 : Int32) - ((8 : Int32) * (vl_I f.z))).toInt64 &&& 63)) >>> (((64 : Int32) - ((8 : Int32) * (vl_I f.z))).toInt64 &&& 63))), (6, .int ((64 : Int32) - ((8 : Int32) * (vl_I f.z)))), (3, .int (vl_I f.z)), (0, .ref 171), (1, .long w)]) (st' := [.long w, .ref 171]) rfl Kz) ?_
    refine jv_Wp.lift (fun _ Kz => jv_Ev.c jv_i57 (pc' := 58) (S' := [.int (vl_I f.d), .ref 171]) jv_i86 [.long w] rfl rfl rfl rfl rfl rfl (vw_f86 ef) rfl rfl Kz) ?_
    refine jv_Wp.lift (fun _ Kz => jv_Ev.steps jv_i57 1 (pc' := 60) (l' := [(4, .long (((vm_J v) <<< (((64 : Int32) - ((8 : Int32) * (vl_I f.z))).toInt64 &&& 63)) >>> (((64 : Int32) - ((8 : Int32) * (vl_I f.z))).toInt64 &&& 63))), (6, .int ((64 : Int32) - ((8 : Int32) * (vl_I f.z)))), (3, .int (vl_I f.z)), (0, .ref 171), (1, .long w)]) (st' := [.long (((vm_J v) <<< (((64 : Int32) - ((8 : Int32) * (vl_I f.z))).toInt64 &&& 63)) >>> (((64 : Int32) - ((8 : Int32) * (vl_I f.z))).toInt64 &&& 63)), .int (vl_I f.d), .ref 171]) rfl Kz) ?_
    refine jv_Wp.lift (fun _ Kz => jv_Ev.c jv_i57 (pc' := 63) (S' := []) (G1 := (jv_H K (jv_u I 171 2 ((I 171 2) ||| ((1 : Int32) <<< ((vl_I f.d) &&& 31)))) (jv_u L 172 f.d (((vm_J v) <<< (((64 : Int32) - ((8 : Int32) * (vl_I f.z))).toInt64 &&& 63)) >>> (((64 : Int32) - ((8 : Int32) * (vl_I f.z))).toInt64 &&& 63))) R)) jv_i54 [.ref 171, .int (vl_I f.d), .long (((vm_J v) <<< (((64 : Int32) - ((8 : Int32) * (vl_I f.z))).toInt64 &&& 63)) >>> (((64 : Int32) - ((8 : Int32) * (vl_I f.z))).toInt64 &&& 63))] rfl rfl rfl rfl (jv_cal rfl (jv_H_at (vm_cK hC 171 2 13 (by decide))) rfl rfl) rfl (vm_cset (I := I) (L := L) (n := n) (sl := sl) (r := f.d) hC (by omega)) rfl rfl Kz) ?_
    refine jv_Wp.of (jv_Ev.ret jv_i57 rfl rfl) ?_
    rw [hQ]
    have m4 : f.mode = 4 := (vl_I_inj (a := f.mode) (b := 4) (by have : f.mode = f.code / 32 := rfl; have := vw_dc ef; omega) (by decide)).mp (Classical.not_not.mp h1)
    rw [if_pos m4] at hT
    subst hT
    have eS := vm_shs (v := vm_J v) (hz m4)
    rw [show ((64 : Int32) - ((8 : Int32) * (vl_I f.z))) = (64 - 8 * vl_I f.z : Int32) from rfl, eS]
    exact ⟨_, _, rfl, vc_m_gv h hd, vm_gv_ff (vc_ff_refl _ I L)⟩
theorem jv_i55 : jv_I 55 4 none 5 131 jv_c55 := ⟨rfl, rfl, rfl, rfl, rfl⟩
theorem vc_instr1 {K : Nat → Option (Nat × Nat)} {I : Nat → Nat → Int32} {L : Nat → Nat → Int64} {R : Nat → Nat → Value} (hC : vm_CW K R) {S T : vm_S} (h : vm_c I L S) {w : Int64} {f : vf_F} (ef : vc_F w = f) (hd : f.d < 11) (hs : f.s < 11) {pr : Nat} (hk : f.kind = 1) (hz : f.mode = 4 → f.z = 1 ∨ f.z = 2 ∨ f.z = 4) (hl : vm_load 1073750528 1073807360 f S = some T) {n sl : Nat} : ∃ I1 L1, jv_Ms 55 [.ref 171, .ref pr, .long w] (jv_H K I L R) n sl (none, jv_H K I1 L1 R, n, sl) ∧ vm_c I1 L1 T ∧ vc_ff vm_Er I L I1 L1 := by
  obtain ⟨Q, hQ⟩ : ∃ Q : jv_R → Prop, Q = fun X => ∃ I1 L1, X = (none, jv_H K I1 L1 R, n, sl) ∧ vm_c I1 L1 T ∧ vc_ff vm_Er I L I1 L1 := ⟨_, rfl⟩
  suffices hE : jv_Wp 55 0 [(0, .ref 171), (1, .ref pr), (2, .long w)] [] (jv_H K I L R) n sl Q by
    rw [hQ] at hE
    obtain ⟨X, hE, I1, L1, e, h'⟩ := hE
    subst e
    exact ⟨I1, L1, hE, h'⟩
  obtain ⟨I2, L2, hF, hm, hf⟩ := vc_fetchM (n := n) (sl := sl) hC h ef hd hs hz hl
  refine jv_Wp.lift (fun _ Kz => jv_Ev.steps jv_i55 1 (pc' := 1) (l' := [(0, .ref 171), (1, .ref pr), (2, .long w)]) (st' := [.long w]) rfl Kz) ?_
  refine jv_Wp.lift (fun _ Kz => jv_Ev.c jv_i55 (pc' := 4) (S' := [.int (1 : Int32)]) jv_i81 [.long w] rfl rfl rfl rfl rfl rfl (vw_l81 ef hk rfl) rfl rfl Kz) ?_
  refine jv_Wp.lift (fun _ Kz => jv_Ev.br jv_i55 (pc' := 89) (st' := []) rfl (by rfl) Kz) ?_
  refine jv_Wp.lift (fun _ Kz => jv_Ev.steps jv_i55 2 (pc' := 91) (l' := [(0, .ref 171), (1, .ref pr), (2, .long w)]) (st' := [.long w, .ref 171]) rfl Kz) ?_
  refine jv_Wp.lift (fun _ Kz => jv_Ev.c jv_i55 (pc' := 94) (S' := []) (G1 := (jv_H K I2 L2 R)) jv_i57 [.ref 171, .long w] rfl rfl rfl rfl (jv_cal rfl (jv_H_at (vm_cK hC 171 2 13 (by decide))) rfl rfl) rfl hF rfl rfl Kz) ?_
  refine jv_Wp.lift (fun _ Kz => jv_Ev.steps jv_i55 1 (pc' := 190) (l' := [(0, .ref 171), (1, .ref pr), (2, .long w)]) (st' := []) rfl Kz) ?_
  refine jv_Wp.of (jv_Ev.ret jv_i55 rfl rfl) ?_
  rw [hQ]
  exact ⟨_, _, rfl, hm, hf⟩
theorem vc_instr2 {K : Nat → Option (Nat × Nat)} {I : Nat → Nat → Int32} {L : Nat → Nat → Int64} {R : Nat → Nat → Value} (hC : vm_CW K R) {S T : vm_S} (h : vm_c I L S) {w : Int64} {f : vf_F} (ef : vc_F w = f) (hd : f.d < 11) (hs : f.s < 11) {pr : Nat} (hk : f.kind = 2) (hl : vm_store 1073750528 1073807360 f S = some T) {n sl : Nat} : ∃ I1 L1, jv_Ms 55 [.ref 171, .ref pr, .long w] (jv_H K I L R) n sl (none, jv_H K I1 L1 R, n, sl) ∧ vm_c I1 L1 T ∧ vc_ff vm_Er I L I1 L1 := by
  obtain ⟨Q, hQ⟩ : ∃ Q : jv_R → Prop, Q = fun X => ∃ I1 L1, X = (none, jv_H K I1 L1 R, n, sl) ∧ vm_c I1 L1 T ∧ vc_ff vm_Er I L I1 L1 := ⟨_, rfl⟩
  suffices hE : jv_Wp 55 0 [(0, .ref 171), (1, .ref pr), (2, .long w)] [] (jv_H K I L R) n sl Q by
    rw [hQ] at hE
    obtain ⟨X, hE, I1, L1, e, h'⟩ := hE
    subst e
    exact ⟨I1, L1, hE, h'⟩
  obtain ⟨xd, v, hgd, hv, hev, hT⟩ := vm_store_dec hl
  rw [if_pos hk] at hv
  have hv := Option.some.inj hv
  subst hv
  have z8 : f.z ≤ 8 := by rcases vf_z_cases f with e | e | e | e <;> omega
  obtain ⟨I2, hF, hm, hf⟩ := vc_mwrite (n := n) (sl := sl) (R := R) hC z8 h hT
  rw [← vm_io (vw_dO ef), ← vm_io (vw_dQ ef)] at hF
  refine jv_Wp.lift (fun _ Kz => jv_Ev.steps jv_i55 1 (pc' := 1) (l' := [(0, .ref 171), (1, .ref pr), (2, .long w)]) (st' := [.long w]) rfl Kz) ?_
  refine jv_Wp.lift (fun _ Kz => jv_Ev.c jv_i55 (pc' := 4) (S' := [.int (2 : Int32)]) jv_i81 [.long w] rfl rfl rfl rfl rfl rfl (vw_l81 ef hk rfl) rfl rfl Kz) ?_
  refine jv_Wp.lift (fun _ Kz => jv_Ev.br jv_i55 (pc' := 97) (st' := []) rfl (by rfl) Kz) ?_
  refine jv_Wp.lift (fun _ Kz => jv_Ev.steps jv_i55 3 (pc' := 100) (l' := [(0, .ref 171), (1, .ref pr), (2, .long w)]) (st' := [.long w, .ref 171, .ref 171]) rfl Kz) ?_
  refine jv_Wp.lift (fun _ Kz => jv_Ev.c jv_i55 (pc' := 103) (S' := [.int (vl_I f.d), .ref 171, .ref 171]) jv_i86 [.long w] rfl rfl rfl rfl rfl rfl (vw_f86 ef) rfl rfl Kz) ?_
  refine jv_Wp.lift (fun _ Kz => jv_Ev.c jv_i55 (pc' := 106) (S' := [.long xd, .ref 171]) jv_i53 [.ref 171, .int (vl_I f.d)] rfl rfl rfl rfl (jv_cal rfl (jv_H_at (vm_cK hC 171 2 13 (by decide))) rfl rfl) rfl (vm_cget hC h hd hgd) rfl rfl Kz) ?_
  refine jv_Wp.lift (fun _ Kz => jv_Ev.steps jv_i55 1 (pc' := 107) (l' := [(0, .ref 171), (1, .ref pr), (2, .long w)]) (st' := [.long w, .long xd, .ref 171]) rfl Kz) ?_
  refine jv_Wp.lift (fun _ Kz => jv_Ev.c jv_i55 (pc' := 110) (S' := [.int (Int32.ofInt f.o), .long xd, .ref 171]) jv_i88 [.long w] rfl rfl rfl rfl rfl rfl (vw_f88 ef) rfl rfl Kz) ?_
  refine jv_Wp.lift (fun _ Kz => jv_Ev.steps jv_i55 3 (pc' := 113) (l' := [(0, .ref 171), (1, .ref pr), (2, .long w)]) (st' := [.long w, .long (xd + (Int32.ofInt f.o).toInt64), .ref 171]) rfl Kz) ?_
  refine jv_Wp.lift (fun _ Kz => jv_Ev.c jv_i55 (pc' := 116) (S' := [.int (vl_I f.z), .long (xd + (Int32.ofInt f.o).toInt64), .ref 171]) jv_i85 [.long w] rfl rfl rfl rfl rfl rfl (vw_f85 ef) rfl rfl Kz) ?_
  refine jv_Wp.lift (fun _ Kz => jv_Ev.steps jv_i55 1 (pc' := 117) (l' := [(0, .ref 171), (1, .ref pr), (2, .long w)]) (st' := [.long w, .int (vl_I f.z), .long (xd + (Int32.ofInt f.o).toInt64), .ref 171]) rfl Kz) ?_
  refine jv_Wp.lift (fun _ Kz => jv_Ev.c jv_i55 (pc' := 120) (S' := [.int (Int32.ofInt f.i), .int (vl_I f.z), .long (xd + (Int32.ofInt f.o).toInt64), .ref 171]) jv_i89 [.long w] rfl rfl rfl rfl rfl rfl (vw_f89 ef) rfl rfl Kz) ?_
  refine jv_Wp.lift (fun _ Kz => jv_Ev.steps jv_i55 1 (pc' := 121) (l' := [(0, .ref 171), (1, .ref pr), (2, .long w)]) (st' := [.long (Int32.ofInt f.i).toInt64, .int (vl_I f.z), .long (xd + (Int32.ofInt f.o).toInt64), .ref 171]) rfl Kz) ?_
  refine jv_Wp.lift (fun _ Kz => jv_Ev.c jv_i55 (pc' := 124) (S' := []) (G1 := (jv_H K I2 L R)) jv_i60 [.ref 171, .long (xd + (Int32.ofInt f.o).toInt64), .int (vl_I f.z), .long (Int32.ofInt f.i).toInt64] rfl rfl rfl rfl (jv_cal rfl (jv_H_at (vm_cK hC 171 2 13 (by decide))) rfl rfl) rfl hF rfl rfl Kz) ?_
  refine jv_Wp.lift (fun _ Kz => jv_Ev.steps jv_i55 1 (pc' := 190) (l' := [(0, .ref 171), (1, .ref pr), (2, .long w)]) (st' := []) rfl Kz) ?_
  refine jv_Wp.of (jv_Ev.ret jv_i55 rfl rfl) ?_
  rw [hQ]
  exact ⟨_, _, rfl, hm, vc_ff_le (fun _ _ z => Or.inl z) hf⟩
theorem vc_instr3 {K : Nat → Option (Nat × Nat)} {I : Nat → Nat → Int32} {L : Nat → Nat → Int64} {R : Nat → Nat → Value} (hC : vm_CW K R) {S T : vm_S} (h : vm_c I L S) {w : Int64} {f : vf_F} (ef : vc_F w = f) (hd : f.d < 11) (hs : f.s < 11) {pr : Nat} (hk : f.kind = 3) (hmo : ¬ f.mode = 6) (hl : vm_store 1073750528 1073807360 f S = some T) {n sl : Nat} : ∃ I1 L1, jv_Ms 55 [.ref 171, .ref pr, .long w] (jv_H K I L R) n sl (none, jv_H K I1 L1 R, n, sl) ∧ vm_c I1 L1 T ∧ vc_ff vm_Er I L I1 L1 := by
  obtain ⟨Q, hQ⟩ : ∃ Q : jv_R → Prop, Q = fun X => ∃ I1 L1, X = (none, jv_H K I1 L1 R, n, sl) ∧ vm_c I1 L1 T ∧ vc_ff vm_Er I L I1 L1 := ⟨_, rfl⟩
  suffices hE : jv_Wp 55 0 [(0, .ref 171), (1, .ref pr), (2, .long w)] [] (jv_H K I L R) n sl Q by
    rw [hQ] at hE
    obtain ⟨X, hE, I1, L1, e, h'⟩ := hE
    subst e
    exact ⟨I1, L1, hE, h'⟩
  obtain ⟨xd, xs, hgd, hgs, hev, hT⟩ := vm_store_dec hl
  rw [if_neg (by omega)] at hgs
  have z8 : f.z ≤ 8 := by rcases vf_z_cases f with e | e | e | e <;> omega
  obtain ⟨I2, hF, hm, hf⟩ := vc_mwrite (n := n) (sl := sl) (R := R) hC z8 h hT
  rw [← vm_io (vw_dO ef)] at hF
  refine jv_Wp.lift (fun _ Kz => jv_Ev.steps jv_i55 1 (pc' := 1) (l' := [(0, .ref 171), (1, .ref pr), (2, .long w)]) (st' := [.long w]) rfl Kz) ?_
  refine jv_Wp.lift (fun _ Kz => jv_Ev.c jv_i55 (pc' := 4) (S' := [.int (3 : Int32)]) jv_i81 [.long w] rfl rfl rfl rfl rfl rfl (vw_l81 ef hk rfl) rfl rfl Kz) ?_
  refine jv_Wp.lift (fun _ Kz => jv_Ev.br jv_i55 (pc' := 127) (st' := []) rfl (by rfl) Kz) ?_
  refine jv_Wp.lift (fun _ Kz => jv_Ev.steps jv_i55 1 (pc' := 128) (l' := [(0, .ref 171), (1, .ref pr), (2, .long w)]) (st' := [.long w]) rfl Kz) ?_
  refine jv_Wp.lift (fun _ Kz => jv_Ev.c jv_i55 (pc' := 131) (S' := [.int (vl_I f.mode)]) jv_i84 [.long w] rfl rfl rfl rfl rfl rfl (vw_f84 ef) rfl rfl Kz) ?_
  refine jv_Wp.lift (fun _ Kz => jv_Ev.steps jv_i55 1 (pc' := 133) (l' := [(0, .ref 171), (1, .ref pr), (2, .long w)]) (st' := [.int (6 : Int32), .int (vl_I f.mode)]) rfl Kz) ?_
  refine jv_Wp.cnd jv_i55 (pt := 144) (pe := 136) (p := (¬ (vl_I f.mode) = (6 : Int32))) (q := (¬ (vl_I f.mode) = (6 : Int32))) rfl jv_bc_ne rfl rfl Iff.rfl (fun _ => ?_) (fun hz => absurd (fun z => hmo ((vl_I_inj (a := f.mode) (b := 6) (by have : f.mode = f.code / 32 := rfl; have := vw_dc ef; omega) (by decide)).mp z)) hz)
  refine jv_Wp.lift (fun _ Kz => jv_Ev.steps jv_i55 3 (pc' := 147) (l' := [(0, .ref 171), (1, .ref pr), (2, .long w)]) (st' := [.long w, .ref 171, .ref 171]) rfl Kz) ?_
  refine jv_Wp.lift (fun _ Kz => jv_Ev.c jv_i55 (pc' := 150) (S' := [.int (vl_I f.d), .ref 171, .ref 171]) jv_i86 [.long w] rfl rfl rfl rfl rfl rfl (vw_f86 ef) rfl rfl Kz) ?_
  refine jv_Wp.lift (fun _ Kz => jv_Ev.c jv_i55 (pc' := 153) (S' := [.long xd, .ref 171]) jv_i53 [.ref 171, .int (vl_I f.d)] rfl rfl rfl rfl (jv_cal rfl (jv_H_at (vm_cK hC 171 2 13 (by decide))) rfl rfl) rfl (vm_cget hC h hd hgd) rfl rfl Kz) ?_
  refine jv_Wp.lift (fun _ Kz => jv_Ev.steps jv_i55 1 (pc' := 154) (l' := [(0, .ref 171), (1, .ref pr), (2, .long w)]) (st' := [.long w, .long xd, .ref 171]) rfl Kz) ?_
  refine jv_Wp.lift (fun _ Kz => jv_Ev.c jv_i55 (pc' := 157) (S' := [.int (Int32.ofInt f.o), .long xd, .ref 171]) jv_i88 [.long w] rfl rfl rfl rfl rfl rfl (vw_f88 ef) rfl rfl Kz) ?_
  refine jv_Wp.lift (fun _ Kz => jv_Ev.steps jv_i55 3 (pc' := 160) (l' := [(0, .ref 171), (1, .ref pr), (2, .long w)]) (st' := [.long w, .long (xd + (Int32.ofInt f.o).toInt64), .ref 171]) rfl Kz) ?_
  refine jv_Wp.lift (fun _ Kz => jv_Ev.c jv_i55 (pc' := 163) (S' := [.int (vl_I f.z), .long (xd + (Int32.ofInt f.o).toInt64), .ref 171]) jv_i85 [.long w] rfl rfl rfl rfl rfl rfl (vw_f85 ef) rfl rfl Kz) ?_
  refine jv_Wp.lift (fun _ Kz => jv_Ev.steps jv_i55 2 (pc' := 165) (l' := [(0, .ref 171), (1, .ref pr), (2, .long w)]) (st' := [.long w, .ref 171, .int (vl_I f.z), .long (xd + (Int32.ofInt f.o).toInt64), .ref 171]) rfl Kz) ?_
  refine jv_Wp.lift (fun _ Kz => jv_Ev.c jv_i55 (pc' := 168) (S' := [.int (vl_I f.s), .ref 171, .int (vl_I f.z), .long (xd + (Int32.ofInt f.o).toInt64), .ref 171]) jv_i87 [.long w] rfl rfl rfl rfl rfl rfl (vw_f87 ef) rfl rfl Kz) ?_
  refine jv_Wp.lift (fun _ Kz => jv_Ev.c jv_i55 (pc' := 171) (S' := [.long xs, .int (vl_I f.z), .long (xd + (Int32.ofInt f.o).toInt64), .ref 171]) jv_i53 [.ref 171, .int (vl_I f.s)] rfl rfl rfl rfl (jv_cal rfl (jv_H_at (vm_cK hC 171 2 13 (by decide))) rfl rfl) rfl (vm_cget hC h hs hgs) rfl rfl Kz) ?_
  refine jv_Wp.lift (fun _ Kz => jv_Ev.c jv_i55 (pc' := 174) (S' := []) (G1 := (jv_H K I2 L R)) jv_i60 [.ref 171, .long (xd + (Int32.ofInt f.o).toInt64), .int (vl_I f.z), .long xs] rfl rfl rfl rfl (jv_cal rfl (jv_H_at (vm_cK hC 171 2 13 (by decide))) rfl rfl) rfl hF rfl rfl Kz) ?_
  refine jv_Wp.lift (fun _ Kz => jv_Ev.steps jv_i55 1 (pc' := 190) (l' := [(0, .ref 171), (1, .ref pr), (2, .long w)]) (st' := []) rfl Kz) ?_
  refine jv_Wp.of (jv_Ev.ret jv_i55 rfl rfl) ?_
  rw [hQ]
  exact ⟨_, _, rfl, hm, vc_ff_le (fun _ _ z => Or.inl z) hf⟩