/-! part f07: jumps of the class (gen/tf07.py) -/
theorem vw_l83 {w : Int64} {f : vf_F} (ef : vc_F w = f) {k : Bool} (hk : f.bit3 = k) {x : Int32} (hx : vr_b k = x) {G : jv_G} {n sl : Nat} : jv_Ms 83 [.long w] G n sl (some (.int x), G, n, sl) := by subst hk; subst hx; exact vw_f83 ef
theorem vb_sx32 (x : BitVec 64) : (x.setWidth 32).signExtend 64 = vb_sext (x &&& vb_lowest 32) 32 := by
  have cb : (x &&& vb_lowest 32).getLsbD (32 - 1) = x.getLsbD 31 := by
    rw [BitVec.getLsbD_and, vb_lowest_bit 32 (by omega), decide_eq_true (by omega), Bool.and_true]
  refine BitVec.eq_of_getLsbD_eq (fun i hi => ?_)
  rw [BitVec.getLsbD_signExtend, decide_eq_true hi, Bool.true_and]
  unfold vb_sext
  rw [cb]
  by_cases c : i < 32
  · rw [if_pos c, BitVec.getLsbD_setWidth, decide_eq_true c, Bool.true_and]
    have e1 : (x &&& vb_lowest 32).getLsbD i = x.getLsbD i := by rw [BitVec.getLsbD_and, vb_lowest_bit 32 hi, decide_eq_true c, Bool.and_true]
    split
    · rw [BitVec.getLsbD_or, BitVec.getLsbD_not, vb_lowest_bit 32 hi, decide_eq_true c, e1]; simp
    · exact e1.symm
  · rw [if_neg c, BitVec.msb_eq_getLsbD_last, BitVec.getLsbD_setWidth]
    have e1 : (x &&& vb_lowest 32).getLsbD i = false := by rw [BitVec.getLsbD_and, vb_lowest_bit 32 hi, decide_eq_false c, Bool.and_false]
    split
    · next g => rw [BitVec.getLsbD_or, BitVec.getLsbD_not, vb_lowest_bit 32 hi, decide_eq_false c, e1, g, decide_eq_true hi]; rfl
    · next g => rw [e1]; simpa using g
theorem vm_x32 (x : Int64) : (x.toInt32.toInt64).toBitVec = vm_sx x.toBitVec 32 := by
  rw [Int32.toBitVec_toInt64, Int64.toBitVec_toInt32, BitVec.signExtend_eq_setWidth_of_le _ (show 32 ≤ 64 by decide)]
  unfold vm_sx; rw [if_neg (by decide)]; exact vb_sx32 _
theorem vm_so_iff {f : vf_F} {x y : BitVec 64} : vm_so f x y = true ↔ vb_cmp (vx_cmp f.n) (if f.kind = 5 then x else vm_sx x 32) (if f.kind = 5 then y else vm_sx y 32) := by
  unfold vm_so; exact @decide_eq_true_iff _ (Classical.propDecidable _)
theorem vm_c_nx {I : Nat → Nat → Int32} {L : Nat → Nat → Int64} {S : vm_S} {x : Int32} (h : vm_c I L S) : vm_c (jv_u I 171 8 x) L S := by
  have eI : ∀ q f, ¬ (q = 171 ∧ f = 8) → jv_u I 171 8 x q f = I q f := fun q f z => by
    by_cases c : q = 171
    · subst c; exact jv_u_j _ _ _ _ (fun y => z ⟨rfl, y⟩)
    · exact jv_u_o _ _ _ _ c
  obtain ⟨h1, h2, h3, h4, h5, h6, h7, h8, h9⟩ := h
  refine ⟨⟨(eI 2 1 (by omega)).trans h1.1, h1.2⟩, fun j hj => ?_, h3, fun k hk => ?_, fun j hj => ?_, fun j hj => ?_, fun j hj => ?_, fun q hq => ?_, h9⟩
  · rw [eI 171 2 (by omega)]; exact h2 j hj
  · rw [eI 174 k (by omega), eI 173 k (by omega)]; exact h4 k hk
  · rw [eI 3 j (by omega)]; exact h5 j hj
  · rw [eI 4 j (by omega)]; exact h6 j hj
  · rw [eI 6 j (by omega)]; exact h7 j hj
  · unfold vc_led; rw [eI 8 _ (by omega), eI 9 _ (by omega), eI 171 7 (by omega)]; exact h8 q hq
theorem vm_goal {p : Nat} {o g : Int} {x : Int32} (hx : x.toInt = o) (hg : g = p + 1 + o) (h0 : 0 ≤ g ∧ g ≤ 1024) (hp : p < 1024) : vl_I (p + 1) + x = vl_I g.toNat := by
  refine Int32.toInt_inj.mp ?_
  rw [Int32.toInt_add, vl_I_i (by omega), vl_I_i (by omega), hx, Int.bmod_def]
  split <;> omega
theorem jv_i67 : jv_I 67 7 none 2 47 jv_c67 := ⟨rfl, rfl, rfl, rfl, rfl⟩
theorem vc_jump5r {K : Nat → Option (Nat × Nat)} {I : Nat → Nat → Int32} {L : Nat → Nat → Int64} {R : Nat → Nat → Value} (hC : vm_CW K R) {S T : vm_S} (eT : S = T) (h : vm_c I L S) {w : Int64} {f : vf_F} (ef : vc_F w = f) (hd : f.d < 11) (hs : f.s < 11) {p : Nat} (hp : p < 1024) (hnx : I 171 8 = vl_I (p + 1)) {g : Int} (h0 : 0 ≤ g ∧ g ≤ 1024) (hk : f.kind = 5) (hb3 : f.bit3 = true) (hl : vm_jump f p S = some g) {n sl : Nat} : ∃ I1 L1, jv_Ms 67 [.ref 171, .long w] (jv_H K I L R) n sl (none, jv_H K I1 L1 R, n, sl) ∧ vm_c I1 L1 T ∧ I1 171 8 = vl_I g.toNat ∧ vc_ff vm_Ep I L I1 L1 := by
  obtain ⟨Q, hQ⟩ : ∃ Q : jv_R → Prop, Q = fun X => ∃ I1 L1, X = (none, jv_H K I1 L1 R, n, sl) ∧ vm_c I1 L1 T ∧ I1 171 8 = vl_I g.toNat ∧ vc_ff vm_Ep I L I1 L1 := ⟨_, rfl⟩
  suffices hE : jv_Wp 67 0 [(0, .ref 171), (1, .long w)] [] (jv_H K I L R) n sl Q by
    rw [hQ] at hE
    obtain ⟨X, hE, I1, L1, e, h'⟩ := hE
    subst e
    exact ⟨I1, L1, hE, h'⟩
  subst eT
  obtain ⟨xd, y, hgd, hy, hG⟩ := vm_jump_dec hl
  rw [if_pos hb3] at hy
  obtain ⟨xs, exs⟩ : ∃ xs, xs = y := ⟨y, rfl⟩
  have hgs : vm_rd S f.s = some xs := exs ▸ hy
  have hso : vm_so f xd.toBitVec y.toBitVec = true ↔ vb_cmp (vx_cmp f.n) (xd).toBitVec (xs).toBitVec := by
    rw [vm_so_iff]
    rw [if_pos hk, if_pos hk, exs]
  refine jv_Wp.lift (fun _ Kz => jv_Ev.steps jv_i67 2 (pc' := 2) (l' := [(0, .ref 171), (1, .long w)]) (st' := [.long w, .ref 171]) rfl Kz) ?_
  refine jv_Wp.lift (fun _ Kz => jv_Ev.c jv_i67 (pc' := 5) (S' := [.int (vl_I f.d), .ref 171]) jv_i86 [.long w] rfl rfl rfl rfl rfl rfl (vw_f86 ef) rfl rfl Kz) ?_
  refine jv_Wp.lift (fun _ Kz => jv_Ev.c jv_i67 (pc' := 8) (S' := [.long xd]) jv_i53 [.ref 171, .int (vl_I f.d)] rfl rfl rfl rfl (jv_cal rfl (jv_H_at (vm_cK hC 171 2 13 (by decide))) rfl rfl) rfl (vm_cget hC h hd hgd) rfl rfl Kz) ?_
  refine jv_Wp.lift (fun _ Kz => jv_Ev.steps jv_i67 2 (pc' := 10) (l' := [(3, .long xd), (0, .ref 171), (1, .long w)]) (st' := [.long w]) rfl Kz) ?_
  refine jv_Wp.lift (fun _ Kz => jv_Ev.c jv_i67 (pc' := 13) (S' := [.int (1 : Int32)]) jv_i83 [.long w] rfl rfl rfl rfl rfl rfl (vw_l83 ef hb3 rfl) rfl rfl Kz) ?_
  refine jv_Wp.lift (fun _ Kz => jv_Ev.br jv_i67 (pc' := 16) (st' := []) rfl (by rfl) Kz) ?_
  refine jv_Wp.lift (fun _ Kz => jv_Ev.steps jv_i67 2 (pc' := 18) (l' := [(3, .long xd), (0, .ref 171), (1, .long w)]) (st' := [.long w, .ref 171]) rfl Kz) ?_
  refine jv_Wp.lift (fun _ Kz => jv_Ev.c jv_i67 (pc' := 21) (S' := [.int (vl_I f.s), .ref 171]) jv_i87 [.long w] rfl rfl rfl rfl rfl rfl (vw_f87 ef) rfl rfl Kz) ?_
  refine jv_Wp.lift (fun _ Kz => jv_Ev.c jv_i67 (pc' := 24) (S' := [.long xs]) jv_i53 [.ref 171, .int (vl_I f.s)] rfl rfl rfl rfl (jv_cal rfl (jv_H_at (vm_cK hC 171 2 13 (by decide))) rfl rfl) rfl (vm_cget hC h hs hgs) rfl rfl Kz) ?_
  refine jv_Wp.lift (fun _ Kz => jv_Ev.steps jv_i67 3 (pc' := 35) (l' := [(5, .long xs), (3, .long xd), (0, .ref 171), (1, .long w)]) (st' := [.long w]) rfl Kz) ?_
  refine jv_Wp.lift (fun _ Kz => jv_Ev.c jv_i67 (pc' := 38) (S' := [.int (5 : Int32)]) jv_i81 [.long w] rfl rfl rfl rfl rfl rfl (vw_l81 ef hk rfl) rfl rfl Kz) ?_
  refine jv_Wp.lift (fun _ Kz => jv_Ev.steps jv_i67 1 (pc' := 40) (l' := [(5, .long xs), (3, .long xd), (0, .ref 171), (1, .long w)]) (st' := [.int (6 : Int32), .int (5 : Int32)]) rfl Kz) ?_
  refine jv_Wp.lift (fun _ Kz => jv_Ev.br jv_i67 (pc' := 53) (st' := []) rfl (by rfl) Kz) ?_
  refine jv_Wp.lift (fun _ Kz => jv_Ev.steps jv_i67 1 (pc' := 54) (l' := [(5, .long xs), (3, .long xd), (0, .ref 171), (1, .long w)]) (st' := [.long w]) rfl Kz) ?_
  refine jv_Wp.lift (fun _ Kz => jv_Ev.c jv_i67 (pc' := 57) (S' := [.int (vl_I f.n)]) jv_i82 [.long w] rfl rfl rfl rfl rfl rfl (vw_f82 ef) rfl rfl Kz) ?_
  refine jv_Wp.lift (fun _ Kz => jv_Ev.steps jv_i67 2 (pc' := 60) (l' := [(5, .long xs), (3, .long xd), (0, .ref 171), (1, .long w)]) (st' := [.long xs, .long xd, .int (vl_I f.n)]) rfl Kz) ?_
  refine jv_Wp.lift (fun _ Kz => jv_Ev.c jv_i67 (pc' := 63) (S' := [.int (vr_b (vm_so f xd.toBitVec y.toBitVec))]) jv_i68 [.int (vl_I f.n), .long xd, .long xs] rfl rfl rfl rfl rfl rfl (vc_holds (by have : f.n = f.code / 16 := rfl; have := vw_dc ef; omega) hso) rfl rfl Kz) ?_
  refine jv_Wp.cnd jv_i67 (pt := 79) (pe := 66) (p := ((vr_b (vm_so f xd.toBitVec y.toBitVec)) = 0)) (q := ((vr_b (vm_so f xd.toBitVec y.toBitVec)) = 0)) rfl jv_bi_eq rfl rfl Iff.rfl (fun h1 => ?_) (fun h1 => ?_)
  · refine jv_Wp.of (jv_Ev.ret jv_i67 rfl rfl) ?_
    have so : vm_so f xd.toBitVec y.toBitVec = false := vr_b_f h1
    rw [if_neg (by rw [so]; decide)] at hG
    rw [hQ]
    exact ⟨_, _, rfl, h, by rw [hnx]; congr 1; omega, vc_ff_refl _ I L⟩
  · refine jv_Wp.lift (fun _ Kz => jv_Ev.steps jv_i67 2 (pc' := 68) (l' := [(5, .long xs), (3, .long xd), (0, .ref 171), (1, .long w)]) (st' := [.ref 171, .ref 171]) rfl Kz) ?_
    refine jv_Wp.lift (fun _ Kz => jv_Ev.m jv_i67 (pc' := 71) (st' := [.int (I 171 8), .ref 171]) (G' := (jv_H K I L R)) rfl rfl (jv_m_getI (vm_cK hC 171 2 13 (by decide)) rfl rfl rfl) Kz) ?_
    refine jv_Wp.lift (fun _ Kz => jv_Ev.steps jv_i67 1 (pc' := 72) (l' := [(5, .long xs), (3, .long xd), (0, .ref 171), (1, .long w)]) (st' := [.long w, .int (I 171 8), .ref 171]) rfl Kz) ?_
    refine jv_Wp.lift (fun _ Kz => jv_Ev.c jv_i67 (pc' := 75) (S' := [.int (Int32.ofInt f.o), .int (I 171 8), .ref 171]) jv_i88 [.long w] rfl rfl rfl rfl rfl rfl (vw_f88 ef) rfl rfl Kz) ?_
    refine jv_Wp.lift (fun _ Kz => jv_Ev.steps jv_i67 1 (pc' := 76) (l' := [(5, .long xs), (3, .long xd), (0, .ref 171), (1, .long w)]) (st' := [.int ((I 171 8) + (Int32.ofInt f.o)), .ref 171]) rfl Kz) ?_
    refine jv_Wp.lift (fun _ Kz => jv_Ev.m jv_i67 (pc' := 79) (st' := []) (G' := (jv_H K (jv_u I 171 8 ((I 171 8) + (Int32.ofInt f.o))) L R)) rfl rfl (jv_m_putI (vm_cK hC 171 2 13 (by decide)) rfl rfl rfl rfl) Kz) ?_
    refine jv_Wp.of (jv_Ev.ret jv_i67 rfl rfl) ?_
    have so : vm_so f xd.toBitVec y.toBitVec = true := vr_b_t h1
    rw [if_pos so] at hG
    rw [hQ]
    refine ⟨_, _, rfl, vm_c_nx h, ?_, vc_ff_u (Or.inr ⟨rfl, rfl⟩)⟩
    rw [jv_u_self, hnx]
    exact vm_goal (vw_dO ef) hG h0 hp
theorem vc_jump5i {K : Nat → Option (Nat × Nat)} {I : Nat → Nat → Int32} {L : Nat → Nat → Int64} {R : Nat → Nat → Value} (hC : vm_CW K R) {S T : vm_S} (eT : S = T) (h : vm_c I L S) {w : Int64} {f : vf_F} (ef : vc_F w = f) (hd : f.d < 11) (hs : f.s < 11) {p : Nat} (hp : p < 1024) (hnx : I 171 8 = vl_I (p + 1)) {g : Int} (h0 : 0 ≤ g ∧ g ≤ 1024) (hk : f.kind = 5) (hb3 : f.bit3 = false) (hl : vm_jump f p S = some g) {n sl : Nat} : ∃ I1 L1, jv_Ms 67 [.ref 171, .long w] (jv_H K I L R) n sl (none, jv_H K I1 L1 R, n, sl) ∧ vm_c I1 L1 T ∧ I1 171 8 = vl_I g.toNat ∧ vc_ff vm_Ep I L I1 L1 := by
  obtain ⟨Q, hQ⟩ : ∃ Q : jv_R → Prop, Q = fun X => ∃ I1 L1, X = (none, jv_H K I1 L1 R, n, sl) ∧ vm_c I1 L1 T ∧ I1 171 8 = vl_I g.toNat ∧ vc_ff vm_Ep I L I1 L1 := ⟨_, rfl⟩
  suffices hE : jv_Wp 67 0 [(0, .ref 171), (1, .long w)] [] (jv_H K I L R) n sl Q by
    rw [hQ] at hE
    obtain ⟨X, hE, I1, L1, e, h'⟩ := hE
    subst e
    exact ⟨I1, L1, hE, h'⟩
  subst eT
  obtain ⟨xd, y, hgd, hy, hG⟩ := vm_jump_dec hl
  rw [if_neg (by rw [hb3]; decide)] at hy
  have exs : (Int32.ofInt f.i).toInt64 = y := (vm_io (vw_dQ ef)).trans (Option.some.inj hy)
  have hso : vm_so f xd.toBitVec y.toBitVec = true ↔ vb_cmp (vx_cmp f.n) (xd).toBitVec ((Int32.ofInt f.i).toInt64).toBitVec := by
    rw [vm_so_iff]
    rw [if_pos hk, if_pos hk, exs]
  refine jv_Wp.lift (fun _ Kz => jv_Ev.steps jv_i67 2 (pc' := 2) (l' := [(0, .ref 171), (1, .long w)]) (st' := [.long w, .ref 171]) rfl Kz) ?_
  refine jv_Wp.lift (fun _ Kz => jv_Ev.c jv_i67 (pc' := 5) (S' := [.int (vl_I f.d), .ref 171]) jv_i86 [.long w] rfl rfl rfl rfl rfl rfl (vw_f86 ef) rfl rfl Kz) ?_
  refine jv_Wp.lift (fun _ Kz => jv_Ev.c jv_i67 (pc' := 8) (S' := [.long xd]) jv_i53 [.ref 171, .int (vl_I f.d)] rfl rfl rfl rfl (jv_cal rfl (jv_H_at (vm_cK hC 171 2 13 (by decide))) rfl rfl) rfl (vm_cget hC h hd hgd) rfl rfl Kz) ?_
  refine jv_Wp.lift (fun _ Kz => jv_Ev.steps jv_i67 2 (pc' := 10) (l' := [(3, .long xd), (0, .ref 171), (1, .long w)]) (st' := [.long w]) rfl Kz) ?_
  refine jv_Wp.lift (fun _ Kz => jv_Ev.c jv_i67 (pc' := 13) (S' := [.int (0 : Int32)]) jv_i83 [.long w] rfl rfl rfl rfl rfl rfl (vw_l83 ef hb3 rfl) rfl rfl Kz) ?_
  refine jv_Wp.lift (fun _ Kz => jv_Ev.br jv_i67 (pc' := 27) (st' := []) rfl (by rfl) Kz) ?_
  refine jv_Wp.lift (fun _ Kz => jv_Ev.steps jv_i67 1 (pc' := 28) (l' := [(3, .long xd), (0, .ref 171), (1, .long w)]) (st' := [.long w]) rfl Kz) ?_
  refine jv_Wp.lift (fun _ Kz => jv_Ev.c jv_i67 (pc' := 31) (S' := [.int (Int32.ofInt f.i)]) jv_i89 [.long w] rfl rfl rfl rfl rfl rfl (vw_f89 ef) rfl rfl Kz) ?_
  refine jv_Wp.lift (fun _ Kz => jv_Ev.steps jv_i67 3 (pc' := 35) (l' := [(5, .long (Int32.ofInt f.i).toInt64), (3, .long xd), (0, .ref 171), (1, .long w)]) (st' := [.long w]) rfl Kz) ?_
  refine jv_Wp.lift (fun _ Kz => jv_Ev.c jv_i67 (pc' := 38) (S' := [.int (5 : Int32)]) jv_i81 [.long w] rfl rfl rfl rfl rfl rfl (vw_l81 ef hk rfl) rfl rfl Kz) ?_
  refine jv_Wp.lift (fun _ Kz => jv_Ev.steps jv_i67 1 (pc' := 40) (l' := [(5, .long (Int32.ofInt f.i).toInt64), (3, .long xd), (0, .ref 171), (1, .long w)]) (st' := [.int (6 : Int32), .int (5 : Int32)]) rfl Kz) ?_
  refine jv_Wp.lift (fun _ Kz => jv_Ev.br jv_i67 (pc' := 53) (st' := []) rfl (by rfl) Kz) ?_
  refine jv_Wp.lift (fun _ Kz => jv_Ev.steps jv_i67 1 (pc' := 54) (l' := [(5, .long (Int32.ofInt f.i).toInt64), (3, .long xd), (0, .ref 171), (1, .long w)]) (st' := [.long w]) rfl Kz) ?_
  refine jv_Wp.lift (fun _ Kz => jv_Ev.c jv_i67 (pc' := 57) (S' := [.int (vl_I f.n)]) jv_i82 [.long w] rfl rfl rfl rfl rfl rfl (vw_f82 ef) rfl rfl Kz) ?_
  refine jv_Wp.lift (fun _ Kz => jv_Ev.steps jv_i67 2 (pc' := 60) (l' := [(5, .long (Int32.ofInt f.i).toInt64), (3, .long xd), (0, .ref 171), (1, .long w)]) (st' := [.long (Int32.ofInt f.i).toInt64, .long xd, .int (vl_I f.n)]) rfl Kz) ?_
  refine jv_Wp.lift (fun _ Kz => jv_Ev.c jv_i67 (pc' := 63) (S' := [.int (vr_b (vm_so f xd.toBitVec y.toBitVec))]) jv_i68 [.int (vl_I f.n), .long xd, .long (Int32.ofInt f.i).toInt64] rfl rfl rfl rfl rfl rfl (vc_holds (by have : f.n = f.code / 16 := rfl; have := vw_dc ef; omega) hso) rfl rfl Kz) ?_
  refine jv_Wp.cnd jv_i67 (pt := 79) (pe := 66) (p := ((vr_b (vm_so f xd.toBitVec y.toBitVec)) = 0)) (q := ((vr_b (vm_so f xd.toBitVec y.toBitVec)) = 0)) rfl jv_bi_eq rfl rfl Iff.rfl (fun h1 => ?_) (fun h1 => ?_)
  · refine jv_Wp.of (jv_Ev.ret jv_i67 rfl rfl) ?_
    have so : vm_so f xd.toBitVec y.toBitVec = false := vr_b_f h1
    rw [if_neg (by rw [so]; decide)] at hG
    rw [hQ]
    exact ⟨_, _, rfl, h, by rw [hnx]; congr 1; omega, vc_ff_refl _ I L⟩
  · refine jv_Wp.lift (fun _ Kz => jv_Ev.steps jv_i67 2 (pc' := 68) (l' := [(5, .long (Int32.ofInt f.i).toInt64), (3, .long xd), (0, .ref 171), (1, .long w)]) (st' := [.ref 171, .ref 171]) rfl Kz) ?_
    refine jv_Wp.lift (fun _ Kz => jv_Ev.m jv_i67 (pc' := 71) (st' := [.int (I 171 8), .ref 171]) (G' := (jv_H K I L R)) rfl rfl (jv_m_getI (vm_cK hC 171 2 13 (by decide)) rfl rfl rfl) Kz) ?_
    refine jv_Wp.lift (fun _ Kz => jv_Ev.steps jv_i67 1 (pc' := 72) (l' := [(5, .long (Int32.ofInt f.i).toInt64), (3, .long xd), (0, .ref 171), (1, .long w)]) (st' := [.long w, .int (I 171 8), .ref 171]) rfl Kz) ?_
    refine jv_Wp.lift (fun _ Kz => jv_Ev.c jv_i67 (pc' := 75) (S' := [.int (Int32.ofInt f.o), .int (I 171 8), .ref 171]) jv_i88 [.long w] rfl rfl rfl rfl rfl rfl (vw_f88 ef) rfl rfl Kz) ?_
    refine jv_Wp.lift (fun _ Kz => jv_Ev.steps jv_i67 1 (pc' := 76) (l' := [(5, .long (Int32.ofInt f.i).toInt64), (3, .long xd), (0, .ref 171), (1, .long w)]) (st' := [.int ((I 171 8) + (Int32.ofInt f.o)), .ref 171]) rfl Kz) ?_
    refine jv_Wp.lift (fun _ Kz => jv_Ev.m jv_i67 (pc' := 79) (st' := []) (G' := (jv_H K (jv_u I 171 8 ((I 171 8) + (Int32.ofInt f.o))) L R)) rfl rfl (jv_m_putI (vm_cK hC 171 2 13 (by decide)) rfl rfl rfl rfl) Kz) ?_
    refine jv_Wp.of (jv_Ev.ret jv_i67 rfl rfl) ?_
    have so : vm_so f xd.toBitVec y.toBitVec = true := vr_b_t h1
    rw [if_pos so] at hG
    rw [hQ]
    refine ⟨_, _, rfl, vm_c_nx h, ?_, vc_ff_u (Or.inr ⟨rfl, rfl⟩)⟩
    rw [jv_u_self, hnx]
    exact vm_goal (vw_dO ef) hG h0 hp
theorem vc_jump6r {K : Nat → Option (Nat × Nat)} {I : Nat → Nat → Int32} {L : Nat → Nat → Int64} {R : Nat → Nat → Value} (hC : vm_CW K R) {S T : vm_S} (eT : S = T) (h : vm_c I L S) {w : Int64} {f : vf_F} (ef : vc_F w = f) (hd : f.d < 11) (hs : f.s < 11) {p : Nat} (hp : p < 1024) (hnx : I 171 8 = vl_I (p + 1)) {g : Int} (h0 : 0 ≤ g ∧ g ≤ 1024) (hk : f.kind = 6) (hb3 : f.bit3 = true) (hl : vm_jump f p S = some g) {n sl : Nat} : ∃ I1 L1, jv_Ms 67 [.ref 171, .long w] (jv_H K I L R) n sl (none, jv_H K I1 L1 R, n, sl) ∧ vm_c I1 L1 T ∧ I1 171 8 = vl_I g.toNat ∧ vc_ff vm_Ep I L I1 L1 := by
  obtain ⟨Q, hQ⟩ : ∃ Q : jv_R → Prop, Q = fun X => ∃ I1 L1, X = (none, jv_H K I1 L1 R, n, sl) ∧ vm_c I1 L1 T ∧ I1 171 8 = vl_I g.toNat ∧ vc_ff vm_Ep I L I1 L1 := ⟨_, rfl⟩
  suffices hE : jv_Wp 67 0 [(0, .ref 171), (1, .long w)] [] (jv_H K I L R) n sl Q by
    rw [hQ] at hE
    obtain ⟨X, hE, I1, L1, e, h'⟩ := hE
    subst e
    exact ⟨I1, L1, hE, h'⟩
  subst eT
  obtain ⟨xd, y, hgd, hy, hG⟩ := vm_jump_dec hl
  rw [if_pos hb3] at hy
  obtain ⟨xs, exs⟩ : ∃ xs, xs = y := ⟨y, rfl⟩
  have hgs : vm_rd S f.s = some xs := exs ▸ hy
  have hso : vm_so f xd.toBitVec y.toBitVec = true ↔ vb_cmp (vx_cmp f.n) (xd.toInt32.toInt64).toBitVec (xs.toInt32.toInt64).toBitVec := by
    rw [vm_so_iff]
    rw [if_neg (by omega), if_neg (by omega), vm_x32, vm_x32, exs]
  refine jv_Wp.lift (fun _ Kz => jv_Ev.steps jv_i67 2 (pc' := 2) (l' := [(0, .ref 171), (1, .long w)]) (st' := [.long w, .ref 171]) rfl Kz) ?_
  refine jv_Wp.lift (fun _ Kz => jv_Ev.c jv_i67 (pc' := 5) (S' := [.int (vl_I f.d), .ref 171]) jv_i86 [.long w] rfl rfl rfl rfl rfl rfl (vw_f86 ef) rfl rfl Kz) ?_
  refine jv_Wp.lift (fun _ Kz => jv_Ev.c jv_i67 (pc' := 8) (S' := [.long xd]) jv_i53 [.ref 171, .int (vl_I f.d)] rfl rfl rfl rfl (jv_cal rfl (jv_H_at (vm_cK hC 171 2 13 (by decide))) rfl rfl) rfl (vm_cget hC h hd hgd) rfl rfl Kz) ?_
  refine jv_Wp.lift (fun _ Kz => jv_Ev.steps jv_i67 2 (pc' := 10) (l' := [(3, .long xd), (0, .ref 171), (1, .long w)]) (st' := [.long w]) rfl Kz) ?_
  refine jv_Wp.lift (fun _ Kz => jv_Ev.c jv_i67 (pc' := 13) (S' := [.int (1 : Int32)]) jv_i83 [.long w] rfl rfl rfl rfl rfl rfl (vw_l83 ef hb3 rfl) rfl rfl Kz) ?_
  refine jv_Wp.lift (fun _ Kz => jv_Ev.br jv_i67 (pc' := 16) (st' := []) rfl (by rfl) Kz) ?_
  refine jv_Wp.lift (fun _ Kz => jv_Ev.steps jv_i67 2 (pc' := 18) (l' := [(3, .long xd), (0, .ref 171), (1, .long w)]) (st' := [.long w, .ref 171]) rfl Kz) ?_
  refine jv_Wp.lift (fun _ Kz => jv_Ev.c jv_i67 (pc' := 21) (S' := [.int (vl_I f.s), .ref 171]) jv_i87 [.long w] rfl rfl rfl rfl rfl rfl (vw_f87 ef) rfl rfl Kz) ?_
  refine jv_Wp.lift (fun _ Kz => jv_Ev.c jv_i67 (pc' := 24) (S' := [.long xs]) jv_i53 [.ref 171, .int (vl_I f.s)] rfl rfl rfl rfl (jv_cal rfl (jv_H_at (vm_cK hC 171 2 13 (by decide))) rfl rfl) rfl (vm_cget hC h hs hgs) rfl rfl Kz) ?_
  refine jv_Wp.lift (fun _ Kz => jv_Ev.steps jv_i67 3 (pc' := 35) (l' := [(5, .long xs), (3, .long xd), (0, .ref 171), (1, .long w)]) (st' := [.long w]) rfl Kz) ?_
  refine jv_Wp.lift (fun _ Kz => jv_Ev.c jv_i67 (pc' := 38) (S' := [.int (6 : Int32)]) jv_i81 [.long w] rfl rfl rfl rfl rfl rfl (vw_l81 ef hk rfl) rfl rfl Kz) ?_
  refine jv_Wp.lift (fun _ Kz => jv_Ev.steps jv_i67 1 (pc' := 40) (l' := [(5, .long xs), (3, .long xd), (0, .ref 171), (1, .long w)]) (st' := [.int (6 : Int32), .int (6 : Int32)]) rfl Kz) ?_
  refine jv_Wp.lift (fun _ Kz => jv_Ev.br jv_i67 (pc' := 43) (st' := []) rfl (by rfl) Kz) ?_
  refine jv_Wp.lift (fun _ Kz => jv_Ev.steps jv_i67 9 (pc' := 54) (l' := [(5, .long xs.toInt32.toInt64), (3, .long xd.toInt32.toInt64), (0, .ref 171), (1, .long w)]) (st' := [.long w]) rfl Kz) ?_
  refine jv_Wp.lift (fun _ Kz => jv_Ev.c jv_i67 (pc' := 57) (S' := [.int (vl_I f.n)]) jv_i82 [.long w] rfl rfl rfl rfl rfl rfl (vw_f82 ef) rfl rfl Kz) ?_
  refine jv_Wp.lift (fun _ Kz => jv_Ev.steps jv_i67 2 (pc' := 60) (l' := [(5, .long xs.toInt32.toInt64), (3, .long xd.toInt32.toInt64), (0, .ref 171), (1, .long w)]) (st' := [.long xs.toInt32.toInt64, .long xd.toInt32.toInt64, .int (vl_I f.n)]) rfl Kz) ?_
  refine jv_Wp.lift (fun _ Kz => jv_Ev.c jv_i67 (pc' := 63) (S' := [.int (vr_b (vm_so f xd.toBitVec y.toBitVec))]) jv_i68 [.int (vl_I f.n), .long xd.toInt32.toInt64, .long xs.toInt32.toInt64] rfl rfl rfl rfl rfl rfl (vc_holds (by have : f.n = f.code / 16 := rfl; have := vw_dc ef; omega) hso) rfl rfl Kz) ?_
  refine jv_Wp.cnd jv_i67 (pt := 79) (pe := 66) (p := ((vr_b (vm_so f xd.toBitVec y.toBitVec)) = 0)) (q := ((vr_b (vm_so f xd.toBitVec y.toBitVec)) = 0)) rfl jv_bi_eq rfl rfl Iff.rfl (fun h1 => ?_) (fun h1 => ?_)
  · refine jv_Wp.of (jv_Ev.ret jv_i67 rfl rfl) ?_
    have so : vm_so f xd.toBitVec y.toBitVec = false := vr_b_f h1
    rw [if_neg (by rw [so]; decide)] at hG
    rw [hQ]
    exact ⟨_, _, rfl, h, by rw [hnx]; congr 1; omega, vc_ff_refl _ I L⟩
  · refine jv_Wp.lift (fun _ Kz => jv_Ev.steps jv_i67 2 (pc' := 68) (l' := [(5, .long xs.toInt32.toInt64), (3, .long xd.toInt32.toInt64), (0, .ref 171), (1, .long w)]) (st' := [.ref 171, .ref 171]) rfl Kz) ?_
    refine jv_Wp.lift (fun _ Kz => jv_Ev.m jv_i67 (pc' := 71) (st' := [.int (I 171 8), .ref 171]) (G' := (jv_H K I L R)) rfl rfl (jv_m_getI (vm_cK hC 171 2 13 (by decide)) rfl rfl rfl) Kz) ?_
    refine jv_Wp.lift (fun _ Kz => jv_Ev.steps jv_i67 1 (pc' := 72) (l' := [(5, .long xs.toInt32.toInt64), (3, .long xd.toInt32.toInt64), (0, .ref 171), (1, .long w)]) (st' := [.long w, .int (I 171 8), .ref 171]) rfl Kz) ?_
    refine jv_Wp.lift (fun _ Kz => jv_Ev.c jv_i67 (pc' := 75) (S' := [.int (Int32.ofInt f.o), .int (I 171 8), .ref 171]) jv_i88 [.long w] rfl rfl rfl rfl rfl rfl (vw_f88 ef) rfl rfl Kz) ?_
    refine jv_Wp.lift (fun _ Kz => jv_Ev.steps jv_i67 1 (pc' := 76) (l' := [(5, .long xs.toInt32.toInt64), (3, .long xd.toInt32.toInt64), (0, .ref 171), (1, .long w)]) (st' := [.int ((I 171 8) + (Int32.ofInt f.o)), .ref 171]) rfl Kz) ?_
    refine jv_Wp.lift (fun _ Kz => jv_Ev.m jv_i67 (pc' := 79) (st' := []) (G' := (jv_H K (jv_u I 171 8 ((I 171 8) + (Int32.ofInt f.o))) L R)) rfl rfl (jv_m_putI (vm_cK hC 171 2 13 (by decide)) rfl rfl rfl rfl) Kz) ?_
    refine jv_Wp.of (jv_Ev.ret jv_i67 rfl rfl) ?_
    have so : vm_so f xd.toBitVec y.toBitVec = true := vr_b_t h1
    rw [if_pos so] at hG
    rw [hQ]
    refine ⟨_, _, rfl, vm_c_nx h, ?_, vc_ff_u (Or.inr ⟨rfl, rfl⟩)⟩
    rw [jv_u_self, hnx]
    exact vm_goal (vw_dO ef) hG h0 hp
theorem vc_jump6i {K : Nat → Option (Nat × Nat)} {I : Nat → Nat → Int32} {L : Nat → Nat → Int64} {R : Nat → Nat → Value} (hC : vm_CW K R) {S T : vm_S} (eT : S = T) (h : vm_c I L S) {w : Int64} {f : vf_F} (ef : vc_F w = f) (hd : f.d < 11) (hs : f.s < 11) {p : Nat} (hp : p < 1024) (hnx : I 171 8 = vl_I (p + 1)) {g : Int} (h0 : 0 ≤ g ∧ g ≤ 1024) (hk : f.kind = 6) (hb3 : f.bit3 = false) (hl : vm_jump f p S = some g) {n sl : Nat} : ∃ I1 L1, jv_Ms 67 [.ref 171, .long w] (jv_H K I L R) n sl (none, jv_H K I1 L1 R, n, sl) ∧ vm_c I1 L1 T ∧ I1 171 8 = vl_I g.toNat ∧ vc_ff vm_Ep I L I1 L1 := by
  obtain ⟨Q, hQ⟩ : ∃ Q : jv_R → Prop, Q = fun X => ∃ I1 L1, X = (none, jv_H K I1 L1 R, n, sl) ∧ vm_c I1 L1 T ∧ I1 171 8 = vl_I g.toNat ∧ vc_ff vm_Ep I L I1 L1 := ⟨_, rfl⟩
  suffices hE : jv_Wp 67 0 [(0, .ref 171), (1, .long w)] [] (jv_H K I L R) n sl Q by
    rw [hQ] at hE
    obtain ⟨X, hE, I1, L1, e, h'⟩ := hE
    subst e
    exact ⟨I1, L1, hE, h'⟩
  subst eT
  obtain ⟨xd, y, hgd, hy, hG⟩ := vm_jump_dec hl
  rw [if_neg (by rw [hb3]; decide)] at hy
  have exs : (Int32.ofInt f.i).toInt64 = y := (vm_io (vw_dQ ef)).trans (Option.some.inj hy)
  have hso : vm_so f xd.toBitVec y.toBitVec = true ↔ vb_cmp (vx_cmp f.n) (xd.toInt32.toInt64).toBitVec ((Int32.ofInt f.i).toInt64.toInt32.toInt64).toBitVec := by
    rw [vm_so_iff]
    rw [if_neg (by omega), if_neg (by omega), vm_x32, vm_x32, exs]
  refine jv_Wp.lift (fun _ Kz => jv_Ev.steps jv_i67 2 (pc' := 2) (l' := [(0, .ref 171), (1, .long w)]) (st' := [.long w, .ref 171]) rfl Kz) ?_
  refine jv_Wp.lift (fun _ Kz => jv_Ev.c jv_i67 (pc' := 5) (S' := [.int (vl_I f.d), .ref 171]) jv_i86 [.long w] rfl rfl rfl rfl rfl rfl (vw_f86 ef) rfl rfl Kz) ?_
  refine jv_Wp.lift (fun _ Kz => jv_Ev.c jv_i67 (pc' := 8) (S' := [.long xd]) jv_i53 [.ref 171, .int (vl_I f.d)] rfl rfl rfl rfl (jv_cal rfl (jv_H_at (vm_cK hC 171 2 13 (by decide))) rfl rfl) rfl (vm_cget hC h hd hgd) rfl rfl Kz) ?_
  refine jv_Wp.lift (fun _ Kz => jv_Ev.steps jv_i67 2 (pc' := 10) (l' := [(3, .long xd), (0, .ref 171), (1, .long w)]) (st' := [.long w]) rfl Kz) ?_
  refine jv_Wp.lift (fun _ Kz => jv_Ev.c jv_i67 (pc' := 13) (S' := [.int (0 : Int32)]) jv_i83 [.long w] rfl rfl rfl rfl rfl rfl (vw_l83 ef hb3 rfl) rfl rfl Kz) ?_
  refine jv_Wp.lift (fun _ Kz => jv_Ev.br jv_i67 (pc' := 27) (st' := []) rfl (by rfl) Kz) ?_
  refine jv_Wp.lift (fun _ Kz => jv_Ev.steps jv_i67 1 (pc' := 28) (l' := [(3, .long xd), (0, .ref 171), (1, .long w)]) (st' := [.long w]) rfl Kz) ?_
  refine jv_Wp.lift (fun _ Kz => jv_Ev.c jv_i67 (pc' := 31) (S' := [.int (Int32.ofInt f.i)]) jv_i89 [.long w] rfl rfl rfl rfl rfl rfl (vw_f89 ef) rfl rfl Kz) ?_
  refine jv_Wp.lift (fun _ Kz => jv_Ev.steps jv_i67 3 (pc' := 35) (l' := [(5, .long (Int32.ofInt f.i).toInt64), (3, .long xd), (0, .ref 171), (1, .long w)]) (st' := [.long w]) rfl Kz) ?_
  refine jv_Wp.lift (fun _ Kz => jv_Ev.c jv_i67 (pc' := 38) (S' := [.int (6 : Int32)]) jv_i81 [.long w] rfl rfl rfl rfl rfl rfl (vw_l81 ef hk rfl) rfl rfl Kz) ?_
  refine jv_Wp.lift (fun _ Kz => jv_Ev.steps jv_i67 1 (pc' := 40) (l' := [(5, .long (Int32.ofInt f.i).toInt64), (3, .long xd), (0, .ref 171), (1, .long w)]) (st' := [.int (6 : Int32), .int (6 : Int32)]) rfl Kz) ?_
  refine jv_Wp.lift (fun _ Kz => jv_Ev.br jv_i67 (pc' := 43) (st' := []) rfl (by rfl) Kz) ?_
  refine jv_Wp.lift (fun _ Kz => jv_Ev.steps jv_i67 9 (pc' := 54) (l' := [(5, .long (Int32.ofInt f.i).toInt64.toInt32.toInt64), (3, .long xd.toInt32.toInt64), (0, .ref 171), (1, .long w)]) (st' := [.long w]) rfl Kz) ?_
  refine jv_Wp.lift (fun _ Kz => jv_Ev.c jv_i67 (pc' := 57) (S' := [.int (vl_I f.n)]) jv_i82 [.long w] rfl rfl rfl rfl rfl rfl (vw_f82 ef) rfl rfl Kz) ?_
  refine jv_Wp.lift (fun _ Kz => jv_Ev.steps jv_i67 2 (pc' := 60) (l' := [(5, .long (Int32.ofInt f.i).toInt64.toInt32.toInt64), (3, .long xd.toInt32.toInt64), (0, .ref 171), (1, .long w)]) (st' := [.long (Int32.ofInt f.i).toInt64.toInt32.toInt64, .long xd.toInt32.toInt64, .int (vl_I f.n)]) rfl Kz) ?_
  refine jv_Wp.lift (fun _ Kz => jv_Ev.c jv_i67 (pc' := 63) (S' := [.int (vr_b (vm_so f xd.toBitVec y.toBitVec))]) jv_i68 [.int (vl_I f.n), .long xd.toInt32.toInt64, .long (Int32.ofInt f.i).toInt64.toInt32.toInt64] rfl rfl rfl rfl rfl rfl (vc_holds (by have : f.n = f.code / 16 := rfl; have := vw_dc ef; omega) hso) rfl rfl Kz) ?_
  refine jv_Wp.cnd jv_i67 (pt := 79) (pe := 66) (p := ((vr_b (vm_so f xd.toBitVec y.toBitVec)) = 0)) (q := ((vr_b (vm_so f xd.toBitVec y.toBitVec)) = 0)) rfl jv_bi_eq rfl rfl Iff.rfl (fun h1 => ?_) (fun h1 => ?_)
  · refine jv_Wp.of (jv_Ev.ret jv_i67 rfl rfl) ?_
    have so : vm_so f xd.toBitVec y.toBitVec = false := vr_b_f h1
    rw [if_neg (by rw [so]; decide)] at hG
    rw [hQ]
    exact ⟨_, _, rfl, h, by rw [hnx]; congr 1; omega, vc_ff_refl _ I L⟩
  · refine jv_Wp.lift (fun _ Kz => jv_Ev.steps jv_i67 2 (pc' := 68) (l' := [(5, .long (Int32.ofInt f.i).toInt64.toInt32.toInt64), (3, .long xd.toInt32.toInt64), (0, .ref 171), (1, .long w)]) (st' := [.ref 171, .ref 171]) rfl Kz) ?_
    refine jv_Wp.lift (fun _ Kz => jv_Ev.m jv_i67 (pc' := 71) (st' := [.int (I 171 8), .ref 171]) (G' := (jv_H K I L R)) rfl rfl (jv_m_getI (vm_cK hC 171 2 13 (by decide)) rfl rfl rfl) Kz) ?_
    refine jv_Wp.lift (fun _ Kz => jv_Ev.steps jv_i67 1 (pc' := 72) (l' := [(5, .long (Int32.ofInt f.i).toInt64.toInt32.toInt64), (3, .long xd.toInt32.toInt64), (0, .ref 171), (1, .long w)]) (st' := [.long w, .int (I 171 8), .ref 171]) rfl Kz) ?_
    refine jv_Wp.lift (fun _ Kz => jv_Ev.c jv_i67 (pc' := 75) (S' := [.int (Int32.ofInt f.o), .int (I 171 8), .ref 171]) jv_i88 [.long w] rfl rfl rfl rfl rfl rfl (vw_f88 ef) rfl rfl Kz) ?_
    refine jv_Wp.lift (fun _ Kz => jv_Ev.steps jv_i67 1 (pc' := 76) (l' := [(5, .long (Int32.ofInt f.i).toInt64.toInt32.toInt64), (3, .long xd.toInt32.toInt64), (0, .ref 171), (1, .long w)]) (st' := [.int ((I 171 8) + (Int32.ofInt f.o)), .ref 171]) rfl Kz) ?_
    refine jv_Wp.lift (fun _ Kz => jv_Ev.m jv_i67 (pc' := 79) (st' := []) (G' := (jv_H K (jv_u I 171 8 ((I 171 8) + (Int32.ofInt f.o))) L R)) rfl rfl (jv_m_putI (vm_cK hC 171 2 13 (by decide)) rfl rfl rfl rfl) Kz) ?_
    refine jv_Wp.of (jv_Ev.ret jv_i67 rfl rfl) ?_
    have so : vm_so f xd.toBitVec y.toBitVec = true := vr_b_t h1
    rw [if_pos so] at hG
    rw [hQ]
    refine ⟨_, _, rfl, vm_c_nx h, ?_, vc_ff_u (Or.inr ⟨rfl, rfl⟩)⟩
    rw [jv_u_self, hnx]
    exact vm_goal (vw_dO ef) hG h0 hp
theorem jv_i56 : jv_I 56 3 none 3 73 jv_c56 := ⟨rfl, rfl, rfl, rfl, rfl⟩
theorem vc_goOn5 {K : Nat → Option (Nat × Nat)} {I : Nat → Nat → Int32} {L : Nat → Nat → Int64} {R : Nat → Nat → Value} (hC : vm_CW K R) {S T : vm_S} (eT : S = T) (h : vm_c I L S) {w : Int64} {f : vf_F} (ef : vc_F w = f) (hd : f.d < 11) (hs : f.s < 11) {p : Nat} (hp : p < 1024) (hnx : I 171 8 = vl_I (p + 1)) {g : Int} (h0 : 0 ≤ g ∧ g ≤ 1024) (hc : f.code = 5) (hG : g = (p : Int) + 1 + f.o) {n sl : Nat} : ∃ I1 L1, jv_Ms 56 [.ref 171, .long w] (jv_H K I L R) n sl (none, jv_H K I1 L1 R, n, sl) ∧ vm_c I1 L1 T ∧ I1 171 8 = vl_I g.toNat ∧ vc_ff vm_Ep I L I1 L1 := by
  obtain ⟨Q, hQ⟩ : ∃ Q : jv_R → Prop, Q = fun X => ∃ I1 L1, X = (none, jv_H K I1 L1 R, n, sl) ∧ vm_c I1 L1 T ∧ I1 171 8 = vl_I g.toNat ∧ vc_ff vm_Ep I L I1 L1 := ⟨_, rfl⟩
  suffices hE : jv_Wp 56 0 [(0, .ref 171), (1, .long w)] [] (jv_H K I L R) n sl Q by
    rw [hQ] at hE
    obtain ⟨X, hE, I1, L1, e, h'⟩ := hE
    subst e
    exact ⟨I1, L1, hE, h'⟩
  subst eT
  refine jv_Wp.lift (fun _ Kz => jv_Ev.steps jv_i56 1 (pc' := 1) (l' := [(0, .ref 171), (1, .long w)]) (st' := [.long w]) rfl Kz) ?_
  refine jv_Wp.lift (fun _ Kz => jv_Ev.c jv_i56 (pc' := 4) (S' := [.int (5 : Int32)]) jv_i80 [.long w] rfl rfl rfl rfl rfl rfl (vw_l80 ef hc rfl) rfl rfl Kz) ?_
  refine jv_Wp.lift (fun _ Kz => jv_Ev.br jv_i56 (pc' := 32) (st' := []) rfl (by rfl) Kz) ?_
  refine jv_Wp.lift (fun _ Kz => jv_Ev.steps jv_i56 2 (pc' := 34) (l' := [(0, .ref 171), (1, .long w)]) (st' := [.ref 171, .ref 171]) rfl Kz) ?_
  refine jv_Wp.lift (fun _ Kz => jv_Ev.m jv_i56 (pc' := 37) (st' := [.int (I 171 8), .ref 171]) (G' := (jv_H K I L R)) rfl rfl (jv_m_getI (vm_cK hC 171 2 13 (by decide)) rfl rfl rfl) Kz) ?_
  refine jv_Wp.lift (fun _ Kz => jv_Ev.steps jv_i56 1 (pc' := 38) (l' := [(0, .ref 171), (1, .long w)]) (st' := [.long w, .int (I 171 8), .ref 171]) rfl Kz) ?_
  refine jv_Wp.lift (fun _ Kz => jv_Ev.c jv_i56 (pc' := 41) (S' := [.int (Int32.ofInt f.o), .int (I 171 8), .ref 171]) jv_i88 [.long w] rfl rfl rfl rfl rfl rfl (vw_f88 ef) rfl rfl Kz) ?_
  refine jv_Wp.lift (fun _ Kz => jv_Ev.steps jv_i56 1 (pc' := 42) (l' := [(0, .ref 171), (1, .long w)]) (st' := [.int ((I 171 8) + (Int32.ofInt f.o)), .ref 171]) rfl Kz) ?_
  refine jv_Wp.lift (fun _ Kz => jv_Ev.m jv_i56 (pc' := 45) (st' := []) (G' := (jv_H K (jv_u I 171 8 ((I 171 8) + (Int32.ofInt f.o))) L R)) rfl rfl (jv_m_putI (vm_cK hC 171 2 13 (by decide)) rfl rfl rfl rfl) Kz) ?_
  refine jv_Wp.lift (fun _ Kz => jv_Ev.steps jv_i56 1 (pc' := 69) (l' := [(0, .ref 171), (1, .long w)]) (st' := []) rfl Kz) ?_
  refine jv_Wp.of (jv_Ev.ret jv_i56 rfl rfl) ?_
  rw [hQ]
  refine ⟨_, _, rfl, vm_c_nx h, ?_, vc_ff_u (Or.inr ⟨rfl, rfl⟩)⟩
  rw [jv_u_self, hnx]
  exact vm_goal (vw_dO ef) hG h0 hp
theorem vc_goOn6 {K : Nat → Option (Nat × Nat)} {I : Nat → Nat → Int32} {L : Nat → Nat → Int64} {R : Nat → Nat → Value} (hC : vm_CW K R) {S T : vm_S} (eT : S = T) (h : vm_c I L S) {w : Int64} {f : vf_F} (ef : vc_F w = f) (hd : f.d < 11) (hs : f.s < 11) {p : Nat} (hp : p < 1024) (hnx : I 171 8 = vl_I (p + 1)) {g : Int} (h0 : 0 ≤ g ∧ g ≤ 1024) (hc : f.code = 6) (hG : g = (p : Int) + 1 + f.i) {n sl : Nat} : ∃ I1 L1, jv_Ms 56 [.ref 171, .long w] (jv_H K I L R) n sl (none, jv_H K I1 L1 R, n, sl) ∧ vm_c I1 L1 T ∧ I1 171 8 = vl_I g.toNat ∧ vc_ff vm_Ep I L I1 L1 := by
  obtain ⟨Q, hQ⟩ : ∃ Q : jv_R → Prop, Q = fun X => ∃ I1 L1, X = (none, jv_H K I1 L1 R, n, sl) ∧ vm_c I1 L1 T ∧ I1 171 8 = vl_I g.toNat ∧ vc_ff vm_Ep I L I1 L1 := ⟨_, rfl⟩
  suffices hE : jv_Wp 56 0 [(0, .ref 171), (1, .long w)] [] (jv_H K I L R) n sl Q by
    rw [hQ] at hE
    obtain ⟨X, hE, I1, L1, e, h'⟩ := hE
    subst e
    exact ⟨I1, L1, hE, h'⟩
  subst eT
  refine jv_Wp.lift (fun _ Kz => jv_Ev.steps jv_i56 1 (pc' := 1) (l' := [(0, .ref 171), (1, .long w)]) (st' := [.long w]) rfl Kz) ?_
  refine jv_Wp.lift (fun _ Kz => jv_Ev.c jv_i56 (pc' := 4) (S' := [.int (6 : Int32)]) jv_i80 [.long w] rfl rfl rfl rfl rfl rfl (vw_l80 ef hc rfl) rfl rfl Kz) ?_
  refine jv_Wp.lift (fun _ Kz => jv_Ev.br jv_i56 (pc' := 48) (st' := []) rfl (by rfl) Kz) ?_
  refine jv_Wp.lift (fun _ Kz => jv_Ev.steps jv_i56 2 (pc' := 50) (l' := [(0, .ref 171), (1, .long w)]) (st' := [.ref 171, .ref 171]) rfl Kz) ?_
  refine jv_Wp.lift (fun _ Kz => jv_Ev.m jv_i56 (pc' := 53) (st' := [.int (I 171 8), .ref 171]) (G' := (jv_H K I L R)) rfl rfl (jv_m_getI (vm_cK hC 171 2 13 (by decide)) rfl rfl rfl) Kz) ?_
  refine jv_Wp.lift (fun _ Kz => jv_Ev.steps jv_i56 1 (pc' := 54) (l' := [(0, .ref 171), (1, .long w)]) (st' := [.long w, .int (I 171 8), .ref 171]) rfl Kz) ?_
  refine jv_Wp.lift (fun _ Kz => jv_Ev.c jv_i56 (pc' := 57) (S' := [.int (Int32.ofInt f.i), .int (I 171 8), .ref 171]) jv_i89 [.long w] rfl rfl rfl rfl rfl rfl (vw_f89 ef) rfl rfl Kz) ?_
  refine jv_Wp.lift (fun _ Kz => jv_Ev.steps jv_i56 1 (pc' := 58) (l' := [(0, .ref 171), (1, .long w)]) (st' := [.int ((I 171 8) + (Int32.ofInt f.i)), .ref 171]) rfl Kz) ?_
  refine jv_Wp.lift (fun _ Kz => jv_Ev.m jv_i56 (pc' := 61) (st' := []) (G' := (jv_H K (jv_u I 171 8 ((I 171 8) + (Int32.ofInt f.i))) L R)) rfl rfl (jv_m_putI (vm_cK hC 171 2 13 (by decide)) rfl rfl rfl rfl) Kz) ?_
  refine jv_Wp.lift (fun _ Kz => jv_Ev.steps jv_i56 1 (pc' := 69) (l' := [(0, .ref 171), (1, .long w)]) (st' := []) rfl Kz) ?_
  refine jv_Wp.of (jv_Ev.ret jv_i56 rfl rfl) ?_
  rw [hQ]
  refine ⟨_, _, rfl, vm_c_nx h, ?_, vc_ff_u (Or.inr ⟨rfl, rfl⟩)⟩
  rw [jv_u_self, hnx]
  exact vm_goal (vw_dQ ef) hG h0 hp
theorem vc_goOnJ {K : Nat → Option (Nat × Nat)} {I : Nat → Nat → Int32} {L : Nat → Nat → Int64} {R : Nat → Nat → Value} (hC : vm_CW K R) {S T : vm_S} (eT : S = T) (h : vm_c I L S) {w : Int64} {f : vf_F} (ef : vc_F w = f) (hd : f.d < 11) (hs : f.s < 11) {p : Nat} (hp : p < 1024) (hnx : I 171 8 = vl_I (p + 1)) {g : Int} (h0 : 0 ≤ g ∧ g ≤ 1024) (hk : f.kind = 5 ∨ f.kind = 6) (hc5 : ¬ f.code = 5) (hc6 : ¬ f.code = 6) (hl : vm_jump f p S = some g) {n sl : Nat} : ∃ I1 L1, jv_Ms 56 [.ref 171, .long w] (jv_H K I L R) n sl (none, jv_H K I1 L1 R, n, sl) ∧ vm_c I1 L1 T ∧ I1 171 8 = vl_I g.toNat ∧ vc_ff vm_Ep I L I1 L1 := by
  obtain ⟨Q, hQ⟩ : ∃ Q : jv_R → Prop, Q = fun X => ∃ I1 L1, X = (none, jv_H K I1 L1 R, n, sl) ∧ vm_c I1 L1 T ∧ I1 171 8 = vl_I g.toNat ∧ vc_ff vm_Ep I L I1 L1 := ⟨_, rfl⟩
  suffices hE : jv_Wp 56 0 [(0, .ref 171), (1, .long w)] [] (jv_H K I L R) n sl Q by
    rw [hQ] at hE
    obtain ⟨X, hE, I1, L1, e, h'⟩ := hE
    subst e
    exact ⟨I1, L1, hE, h'⟩
  have hJ0 : ∃ I1 L1, jv_Ms 67 [.ref 171, .long w] (jv_H K I L R) n sl (none, jv_H K I1 L1 R, n, sl) ∧ vm_c I1 L1 T ∧ I1 171 8 = vl_I g.toNat ∧ vc_ff vm_Ep I L I1 L1 := by
    cases hb3 : f.bit3 with
    | true => rcases hk with hk | hk
              · exact vc_jump5r hC eT h ef hd hs hp hnx h0 hk hb3 hl
              · exact vc_jump6r hC eT h ef hd hs hp hnx h0 hk hb3 hl
    | false => rcases hk with hk | hk
               · exact vc_jump5i hC eT h ef hd hs hp hnx h0 hk hb3 hl
               · exact vc_jump6i hC eT h ef hd hs hp hnx h0 hk hb3 hl
  obtain ⟨I2, L2, hJ, hm, hn2, hf⟩ := hJ0
  refine jv_Wp.lift (fun _ Kz => jv_Ev.steps jv_i56 1 (pc' := 1) (l' := [(0, .ref 171), (1, .long w)]) (st' := [.long w]) rfl Kz) ?_
  refine jv_Wp.lift (fun _ Kz => jv_Ev.c jv_i56 (pc' := 4) (S' := [.int (vl_I f.code)]) jv_i80 [.long w] rfl rfl rfl rfl rfl rfl (vw_f80 ef) rfl rfl Kz) ?_
  refine jv_Wp.bys (q := ((vl_I f.code) = Int32.ofInt 5)) (fun h1 => ?_) (fun h1 => ?_)
  · refine jv_Wp.lift (fun _ Kz => jv_Ev.br jv_i56 (pc' := 32) (st' := []) rfl (by rw [h1]; rfl) Kz) ?_
    refine jv_Wp.lift (fun _ Kz => jv_Ev.steps jv_i56 2 (pc' := 34) (l' := [(0, .ref 171), (1, .long w)]) (st' := [.ref 171, .ref 171]) rfl Kz) ?_
    refine jv_Wp.lift (fun _ Kz => jv_Ev.m jv_i56 (pc' := 37) (st' := [.int (I 171 8), .ref 171]) (G' := (jv_H K I L R)) rfl rfl (jv_m_getI (vm_cK hC 171 2 13 (by decide)) rfl rfl rfl) Kz) ?_
    refine jv_Wp.lift (fun _ Kz => jv_Ev.steps jv_i56 1 (pc' := 38) (l' := [(0, .ref 171), (1, .long w)]) (st' := [.long w, .int (I 171 8), .ref 171]) rfl Kz) ?_
    refine jv_Wp.lift (fun _ Kz => jv_Ev.c jv_i56 (pc' := 41) (S' := [.int (Int32.ofInt f.o), .int (I 171 8), .ref 171]) jv_i88 [.long w] rfl rfl rfl rfl rfl rfl (vw_f88 ef) rfl rfl Kz) ?_
    refine jv_Wp.lift (fun _ Kz => jv_Ev.steps jv_i56 1 (pc' := 42) (l' := [(0, .ref 171), (1, .long w)]) (st' := [.int ((I 171 8) + (Int32.ofInt f.o)), .ref 171]) rfl Kz) ?_
    refine jv_Wp.lift (fun _ Kz => jv_Ev.m jv_i56 (pc' := 45) (st' := []) (G' := (jv_H K (jv_u I 171 8 ((I 171 8) + (Int32.ofInt f.o))) L R)) rfl rfl (jv_m_putI (vm_cK hC 171 2 13 (by decide)) rfl rfl rfl rfl) Kz) ?_
    refine jv_Wp.lift (fun _ Kz => jv_Ev.steps jv_i56 1 (pc' := 69) (l' := [(0, .ref 171), (1, .long w)]) (st' := []) rfl Kz) ?_
    refine jv_Wp.of (jv_Ev.ret jv_i56 rfl rfl) ?_
    exact absurd ((vl_I_inj (a := f.code) (b := 5) (by have := vw_dc ef; omega) (by decide)).mp h1) hc5
  · refine jv_Wp.bys (q := ((vl_I f.code) = Int32.ofInt 6)) (fun h2 => ?_) (fun h2 => ?_)
    · refine jv_Wp.lift (fun _ Kz => jv_Ev.br jv_i56 (pc' := 48) (st' := []) rfl (by rw [h2]; rfl) Kz) ?_
      refine jv_Wp.lift (fun _ Kz => jv_Ev.steps jv_i56 2 (pc' := 50) (l' := [(0, .ref 171), (1, .long w)]) (st' := [.ref 171, .ref 171]) rfl Kz) ?_
      refine jv_Wp.lift (fun _ Kz => jv_Ev.m jv_i56 (pc' := 53) (st' := [.int (I 171 8), .ref 171]) (G' := (jv_H K I L R)) rfl rfl (jv_m_getI (vm_cK hC 171 2 13 (by decide)) rfl rfl rfl) Kz) ?_
      refine jv_Wp.lift (fun _ Kz => jv_Ev.steps jv_i56 1 (pc' := 54) (l' := [(0, .ref 171), (1, .long w)]) (st' := [.long w, .int (I 171 8), .ref 171]) rfl Kz) ?_
      refine jv_Wp.lift (fun _ Kz => jv_Ev.c jv_i56 (pc' := 57) (S' := [.int (Int32.ofInt f.i), .int (I 171 8), .ref 171]) jv_i89 [.long w] rfl rfl rfl rfl rfl rfl (vw_f89 ef) rfl rfl Kz) ?_
      refine jv_Wp.lift (fun _ Kz => jv_Ev.steps jv_i56 1 (pc' := 58) (l' := [(0, .ref 171), (1, .long w)]) (st' := [.int ((I 171 8) + (Int32.ofInt f.i)), .ref 171]) rfl Kz) ?_
      refine jv_Wp.lift (fun _ Kz => jv_Ev.m jv_i56 (pc' := 61) (st' := []) (G' := (jv_H K (jv_u I 171 8 ((I 171 8) + (Int32.ofInt f.i))) L R)) rfl rfl (jv_m_putI (vm_cK hC 171 2 13 (by decide)) rfl rfl rfl rfl) Kz) ?_
      refine jv_Wp.lift (fun _ Kz => jv_Ev.steps jv_i56 1 (pc' := 69) (l' := [(0, .ref 171), (1, .long w)]) (st' := []) rfl Kz) ?_
      refine jv_Wp.of (jv_Ev.ret jv_i56 rfl rfl) ?_
      exact absurd ((vl_I_inj (a := f.code) (b := 6) (by have := vw_dc ef; omega) (by decide)).mp h2) hc6
    · refine jv_Wp.lift (fun _ Kz => jv_Ev.br jv_i56 (pc' := 64) (st' := []) rfl (jv_lsw_def (List.forall_mem_cons.mpr ⟨(jv_ne_toInt (k := 5) h1), List.forall_mem_cons.mpr ⟨(jv_ne_toInt (k := 6) h2), fun _ h => absurd h List.not_mem_nil⟩⟩)) Kz) ?_
      refine jv_Wp.lift (fun _ Kz => jv_Ev.steps jv_i56 2 (pc' := 66) (l' := [(0, .ref 171), (1, .long w)]) (st' := [.long w, .ref 171]) rfl Kz) ?_
      refine jv_Wp.lift (fun _ Kz => jv_Ev.c jv_i56 (pc' := 69) (S' := []) (G1 := (jv_H K I2 L2 R)) jv_i67 [.ref 171, .long w] rfl rfl rfl rfl (jv_cal rfl (jv_H_at (vm_cK hC 171 2 13 (by decide))) rfl rfl) rfl hJ rfl rfl Kz) ?_
      refine jv_Wp.of (jv_Ev.ret jv_i56 rfl rfl) ?_
      rw [hQ]
      exact ⟨_, _, rfl, hm, hn2, hf⟩
theorem vc_instr5 {K : Nat → Option (Nat × Nat)} {I : Nat → Nat → Int32} {L : Nat → Nat → Int64} {R : Nat → Nat → Value} (hC : vm_CW K R) {S : vm_S} (h : vm_c I L S) {n sl : Nat} {w : Int64} {f : vf_F} (ef : vc_F w = f) (hd : f.d < 11) (hs : f.s < 11) {p : Nat} (hp : p < 1024) (hnx : I 171 8 = vl_I (p + 1)) {g : Int} (h0 : 0 ≤ g ∧ g ≤ 1024) {T : vm_S} {pr : Nat} (hk : f.kind = 5) (hJ0 : ∃ I1 L1, jv_Ms 56 [.ref 171, .long w] (jv_H K I L R) n sl (none, jv_H K I1 L1 R, n, sl) ∧ vm_c I1 L1 T ∧ I1 171 8 = vl_I g.toNat ∧ vc_ff vm_Ep I L I1 L1) : ∃ I1 L1, jv_Ms 55 [.ref 171, .ref pr, .long w] (jv_H K I L R) n sl (none, jv_H K I1 L1 R, n, sl) ∧ vm_c I1 L1 T ∧ I1 171 8 = vl_I g.toNat ∧ vc_ff vm_Ep I L I1 L1 := by
  obtain ⟨Q, hQ⟩ : ∃ Q : jv_R → Prop, Q = fun X => ∃ I1 L1, X = (none, jv_H K I1 L1 R, n, sl) ∧ vm_c I1 L1 T ∧ I1 171 8 = vl_I g.toNat ∧ vc_ff vm_Ep I L I1 L1 := ⟨_, rfl⟩
  suffices hE : jv_Wp 55 0 [(0, .ref 171), (1, .ref pr), (2, .long w)] [] (jv_H K I L R) n sl Q by
    rw [hQ] at hE
    obtain ⟨X, hE, I1, L1, e, h'⟩ := hE
    subst e
    exact ⟨I1, L1, hE, h'⟩
  obtain ⟨I2, L2, hJ, hm, hn2, hf⟩ := hJ0
  refine jv_Wp.lift (fun _ Kz => jv_Ev.steps jv_i55 1 (pc' := 1) (l' := [(0, .ref 171), (1, .ref pr), (2, .long w)]) (st' := [.long w]) rfl Kz) ?_
  refine jv_Wp.lift (fun _ Kz => jv_Ev.c jv_i55 (pc' := 4) (S' := [.int (5 : Int32)]) jv_i81 [.long w] rfl rfl rfl rfl rfl rfl (vw_l81 ef hk rfl) rfl rfl Kz) ?_
  refine jv_Wp.lift (fun _ Kz => jv_Ev.br jv_i55 (pc' := 177) (st' := []) rfl (by rfl) Kz) ?_
  refine jv_Wp.lift (fun _ Kz => jv_Ev.steps jv_i55 2 (pc' := 179) (l' := [(0, .ref 171), (1, .ref pr), (2, .long w)]) (st' := [.long w, .ref 171]) rfl Kz) ?_
  refine jv_Wp.lift (fun _ Kz => jv_Ev.c jv_i55 (pc' := 182) (S' := []) (G1 := (jv_H K I2 L2 R)) jv_i56 [.ref 171, .long w] rfl rfl rfl rfl (jv_cal rfl (jv_H_at (vm_cK hC 171 2 13 (by decide))) rfl rfl) rfl hJ rfl rfl Kz) ?_
  refine jv_Wp.lift (fun _ Kz => jv_Ev.steps jv_i55 1 (pc' := 190) (l' := [(0, .ref 171), (1, .ref pr), (2, .long w)]) (st' := []) rfl Kz) ?_
  refine jv_Wp.of (jv_Ev.ret jv_i55 rfl rfl) ?_
  rw [hQ]
  exact ⟨_, _, rfl, hm, hn2, hf⟩
theorem vc_instr6 {K : Nat → Option (Nat × Nat)} {I : Nat → Nat → Int32} {L : Nat → Nat → Int64} {R : Nat → Nat → Value} (hC : vm_CW K R) {S : vm_S} (h : vm_c I L S) {n sl : Nat} {w : Int64} {f : vf_F} (ef : vc_F w = f) (hd : f.d < 11) (hs : f.s < 11) {p : Nat} (hp : p < 1024) (hnx : I 171 8 = vl_I (p + 1)) {g : Int} (h0 : 0 ≤ g ∧ g ≤ 1024) {T : vm_S} {pr : Nat} (hk : f.kind = 6) (hJ0 : ∃ I1 L1, jv_Ms 56 [.ref 171, .long w] (jv_H K I L R) n sl (none, jv_H K I1 L1 R, n, sl) ∧ vm_c I1 L1 T ∧ I1 171 8 = vl_I g.toNat ∧ vc_ff vm_Ep I L I1 L1) : ∃ I1 L1, jv_Ms 55 [.ref 171, .ref pr, .long w] (jv_H K I L R) n sl (none, jv_H K I1 L1 R, n, sl) ∧ vm_c I1 L1 T ∧ I1 171 8 = vl_I g.toNat ∧ vc_ff vm_Ep I L I1 L1 := by
  obtain ⟨Q, hQ⟩ : ∃ Q : jv_R → Prop, Q = fun X => ∃ I1 L1, X = (none, jv_H K I1 L1 R, n, sl) ∧ vm_c I1 L1 T ∧ I1 171 8 = vl_I g.toNat ∧ vc_ff vm_Ep I L I1 L1 := ⟨_, rfl⟩
  suffices hE : jv_Wp 55 0 [(0, .ref 171), (1, .ref pr), (2, .long w)] [] (jv_H K I L R) n sl Q by
    rw [hQ] at hE
    obtain ⟨X, hE, I1, L1, e, h'⟩ := hE
    subst e
    exact ⟨I1, L1, hE, h'⟩
  obtain ⟨I2, L2, hJ, hm, hn2, hf⟩ := hJ0
  refine jv_Wp.lift (fun _ Kz => jv_Ev.steps jv_i55 1 (pc' := 1) (l' := [(0, .ref 171), (1, .ref pr), (2, .long w)]) (st' := [.long w]) rfl Kz) ?_
  refine jv_Wp.lift (fun _ Kz => jv_Ev.c jv_i55 (pc' := 4) (S' := [.int (6 : Int32)]) jv_i81 [.long w] rfl rfl rfl rfl rfl rfl (vw_l81 ef hk rfl) rfl rfl Kz) ?_
  refine jv_Wp.lift (fun _ Kz => jv_Ev.br jv_i55 (pc' := 177) (st' := []) rfl (by rfl) Kz) ?_
  refine jv_Wp.lift (fun _ Kz => jv_Ev.steps jv_i55 2 (pc' := 179) (l' := [(0, .ref 171), (1, .ref pr), (2, .long w)]) (st' := [.long w, .ref 171]) rfl Kz) ?_
  refine jv_Wp.lift (fun _ Kz => jv_Ev.c jv_i55 (pc' := 182) (S' := []) (G1 := (jv_H K I2 L2 R)) jv_i56 [.ref 171, .long w] rfl rfl rfl rfl (jv_cal rfl (jv_H_at (vm_cK hC 171 2 13 (by decide))) rfl rfl) rfl hJ rfl rfl Kz) ?_
  refine jv_Wp.lift (fun _ Kz => jv_Ev.steps jv_i55 1 (pc' := 190) (l' := [(0, .ref 171), (1, .ref pr), (2, .long w)]) (st' := []) rfl Kz) ?_
  refine jv_Wp.of (jv_Ev.ret jv_i55 rfl rfl) ?_
  rw [hQ]
  exact ⟨_, _, rfl, hm, hn2, hf⟩