/-! part f16: reckoning of the machine, of the reference (gen/tf16.py) -/
theorem vb_rest (x y : BitVec 64) : x - x / y * y = if y = 0 then x else x % y := by
  by_cases c : y = 0
  · rw [if_pos c, c]
    refine BitVec.eq_of_toNat_eq ?_
    rw [BitVec.toNat_sub, BitVec.toNat_mul]
    have := x.isLt
    show (2 ^ 64 - (x / 0#64).toNat * 0 % 2 ^ 64 + x.toNat) % 2 ^ 64 = x.toNat
    omega
  · rw [if_neg c]
    refine BitVec.eq_of_toNat_eq ?_
    have hx := x.isLt
    have hm : x.toNat / y.toNat * y.toNat ≤ x.toNat := Nat.div_mul_le_self _ _
    have hd := Nat.div_add_mod x.toNat y.toNat
    rw [Nat.mul_comm] at hd
    rw [BitVec.toNat_sub, BitVec.toNat_mul, BitVec.toNat_udiv, BitVec.toNat_umod, Nat.mod_eq_of_lt (show x.toNat / y.toNat * y.toNat < 2 ^ 64 by omega)]
    have hl : x.toNat % y.toNat < 2 ^ 64 := Nat.lt_of_le_of_lt (Nat.mod_le _ _) hx
    omega
theorem vm_pl63 (y : Int64) : ((y &&& ((64 : Int32) - (1 : Int32)).toInt64).toInt32).toBitVec.toNat % 64 = y.toBitVec.toNat % 64 := by
  rw [vl_i32, BitVec.toNat_setWidth, Int64.toBitVec_and, BitVec.toNat_and, show (((64 : Int32) - (1 : Int32)).toInt64).toBitVec.toNat = 2 ^ 6 - 1 from by decide, Nat.and_two_pow_sub_one_eq_mod]
  omega
theorem vm_pl31 (y : Int64) : ((y &&& ((32 : Int32) - (1 : Int32)).toInt64).toInt32).toBitVec.toNat % 64 = y.toBitVec.toNat % 32 := by
  rw [vl_i32, BitVec.toNat_setWidth, Int64.toBitVec_and, BitVec.toNat_and, show (((32 : Int32) - (1 : Int32)).toInt64).toBitVec.toNat = 2 ^ 5 - 1 from by decide, Nat.and_two_pow_sub_one_eq_mod]
  omega
theorem vm_r32 (v : BitVec 64) : vm_sx v 32 = (v.setWidth 32).signExtend 64 := by unfold vm_sx; rw [if_neg (by decide)]; exact (vb_sx32 v).symm
theorem vm_r32n (v : BitVec 64) : (vm_sx v 32).toNat % 32 = (v.setWidth 32).toNat % 32 := by
  have e : (vm_sx v 32).setWidth 32 = v.setWidth 32 := by rw [vm_r32]; exact vb_lo_se _
  have t := congrArg BitVec.toNat e
  rw [BitVec.toNat_setWidth] at t
  omega
theorem vm_ci_n {n : Nat} {X Y : BitVec 32} {sg : Bool} (h6 : n ≠ 6) (h7 : n ≠ 7) (h12 : n ≠ 12) (h : ¬ ((n = 3 ∨ n = 9) ∧ sg = false)) : vm_ci n X Y sg = vm_ck n (X.signExtend 64) (Y.signExtend 64) sg := by
  unfold vm_ci; rw [if_neg h6, if_neg h7, if_neg h12, if_neg h]
theorem vm_low_o {y : BitVec 64} {o : Nat} (ho : o = 8 ∨ o = 16 ∨ o = 32) : vm_sx (vm_sx y 32) o = vb_sext (y &&& vb_lowest o) o := by
  have e : vm_sx y 32 &&& vb_lowest o = y &&& vb_lowest o := by
    refine BitVec.eq_of_getLsbD_eq (fun i hi => ?_)
    rw [BitVec.getLsbD_and, BitVec.getLsbD_and, vb_lowest_bit o hi]
    by_cases c : i < o
    · have : (vm_sx y 32).getLsbD i = y.getLsbD i := by
        rw [vm_r32, BitVec.getLsbD_signExtend, decide_eq_true hi, if_pos (by omega), BitVec.getLsbD_setWidth, decide_eq_true (by omega)]; rfl
      rw [this]
    · rw [decide_eq_false c, Bool.and_false, Bool.and_false]
  unfold vm_sx at e ⊢
  rw [if_neg (by omega)]
  rw [e]
theorem vr_signedO {G : jv_G} {I : Nat → Nat → Int32} {f : vf_F} (D : vm_D I f) (har : vf_ar f) (h11 : f.n = 11) (hz : ¬ (Int32.ofInt f.o) = 0) {v : Int64} {n sl : Nat} : jv_Ms 380 [.long v, .int (Int32.ofInt f.o)] G n sl (some (.long (Int64.ofBitVec (vm_sx v.toBitVec f.o.toNat))), G, n, sl) := by
  have ho0 : ¬ f.o = 0 := fun z => hz (Int32.toInt_inj.mp (by rw [vr_dO D, z]; rfl))
  rcases har.2.2.2.1 h11 ho0 with z | z | z
  · have e : Int32.ofInt f.o = (8 : Int32) := by rw [z]; decide
    rw [e, z]; exact vr_signed8
  · have e : Int32.ofInt f.o = (16 : Int32) := by rw [z]; decide
    rw [e, z]; exact vr_signed16
  · have e : Int32.ofInt f.o = (32 : Int32) := by rw [z]; decide
    rw [e, z]; exact vr_signed32
theorem vm_sh7 (x : BitVec 64) (s : Nat) : ((x &&& vb_lowest 32) >>> s).setWidth 32 = (x.setWidth 32) >>> s := by
  refine BitVec.eq_of_getLsbD_eq (fun i hi => ?_)
  rw [BitVec.getLsbD_setWidth, BitVec.getLsbD_ushiftRight, BitVec.getLsbD_ushiftRight, BitVec.getLsbD_setWidth, decide_eq_true hi, Bool.true_and]
  by_cases c : s + i < 64
  · exact vb_lo_bit c
  · rw [BitVec.getLsbD_of_ge _ _ (by omega), decide_eq_false (show ¬ s + i < 32 by omega)]; rfl
theorem vm_sh12 (X : BitVec 32) {s : Nat} (hs : s < 32) : ((X.signExtend 64).sshiftRight s).setWidth 32 = X.sshiftRight s := by
  refine BitVec.eq_of_getLsbD_eq (fun i hi => ?_)
  rw [BitVec.getLsbD_setWidth, BitVec.getLsbD_sshiftRight, BitVec.getLsbD_sshiftRight, decide_eq_true hi, decide_eq_false (show ¬ 64 ≤ i by omega), decide_eq_false (show ¬ 32 ≤ i by omega), if_pos (show s + i < 64 by omega), BitVec.getLsbD_signExtend, decide_eq_true (show s + i < 64 by omega)]
  simp
/-- the cells that an instruction of the reference may change -/
abbrev vr_Er (q f : Nat) : Prop := vr_Ew q f ∨ q = 220 ∨ q = 221
theorem vr_gv_ff {I : Nat → Nat → Int32} {L : Nat → Nat → Int64} {I1 : Nat → Nat → Int32} {L1 : Nat → Nat → Int64} {r : Nat} {x : Int32} {v : Int64} (h : vc_ff vr_Er I L I1 L1) : vc_ff vr_Er I L (jv_u I1 221 r x) (jv_u L1 220 r v) := ⟨fun q f z => Eq.trans (jv_u_o _ _ _ _ (fun y => z (Or.inr (Or.inr y)))) (h.1 q f z), fun q f z => Eq.trans (jv_u_o _ _ _ _ (fun y => z (Or.inr (Or.inl y)))) (h.2 q f z)⟩
theorem jv_i382 : jv_I 382 12 (some .long) 3 80 jv_c382 := ⟨rfl, rfl, rfl, rfl, rfl⟩
theorem vr_reck64_0 {K : Nat → Option (Nat × Nat)} {I : Nat → Nat → Int32} {L : Nat → Nat → Int64} {R : Nat → Nat → Value} (hW : jv_rW K R) {f : vf_F} (D : vm_D I f) (har : vf_ar f) (h13 : f.n ≠ 13) (hk : f.kind = 7) {x y : Int64} {n sl : Nat} {Q : jv_R → Prop} (hQ : Q (some (.long (Int64.ofBitVec (vx_do f x.toBitVec y.toBitVec (vm_sg f x.toBitVec y.toBitVec)))), jv_H K I L R, n, sl)) : jv_Wp 382 0 [(0, .ref 178), (1, .long x), (3, .long y), (5, .int (64 : Int32))] [] (jv_H K I L R) n sl Q := by
  have hn256 : f.n < 256 := by have : f.n = f.code / 16 := rfl; have := vr_dc D; omega
  have hS : f.n = 11 → ¬ (Int32.ofInt f.o) = 0 → jv_Ms 380 [.long y, .int (Int32.ofInt f.o)] (jv_H K I L R) n sl (some (.long (Int64.ofBitVec (vm_sx (y).toBitVec f.o.toNat))), jv_H K I L R, n, sl) := fun h11 hz => vr_signedO D har h11 hz
  refine jv_Wp.lift (fun _ Kz => jv_Ev.steps jv_i382 1 (pc' := 1) (l' := [(0, .ref 178), (1, .long x), (3, .long y), (5, .int (64 : Int32))]) (st' := [.ref 178]) rfl Kz) ?_
  refine jv_Wp.lift (fun _ Kz => jv_Ev.m jv_i382 (pc' := 4) (st' := [.int (Int32.ofInt f.o)]) (G' := (jv_H K I L R)) rfl rfl (jv_m_getI (jv_rwK hW 178 14 31 (by decide)) rfl rfl (vm_d_o D)) Kz) ?_
  refine jv_Wp.lift (fun _ Kz => jv_Ev.steps jv_i382 1 (pc' := 5) (l' := [(0, .ref 178), (1, .long x), (3, .long y), (5, .int (64 : Int32))]) (st' := [.int (1 : Int32), .int (Int32.ofInt f.o)]) rfl Kz) ?_
  refine jv_Wp.cnd jv_i382 (pt := 12) (pe := 8) (p := (¬ (Int32.ofInt f.o) = (1 : Int32))) (q := (¬ (Int32.ofInt f.o) = (1 : Int32))) rfl jv_bc_ne rfl rfl Iff.rfl (fun h1 => ?_) (fun h1 => ?_)
  · refine jv_Wp.lift (fun _ Kz => jv_Ev.steps jv_i382 3 (pc' := 17) (l' := [(6, .int (0 : Int32)), (0, .ref 178), (1, .long x), (3, .long y), (5, .int (64 : Int32))]) (st' := [.int (0 : Int32)]) rfl Kz) ?_
    refine jv_Wp.lift (fun _ Kz => jv_Ev.br jv_i382 (pc' := 24) (st' := []) rfl (by rfl) Kz) ?_
    refine jv_Wp.lift (fun _ Kz => jv_Ev.steps jv_i382 2 (pc' := 27) (l' := [(6, .int (0 : Int32)), (0, .ref 178), (1, .long x), (3, .long y), (5, .int (64 : Int32))]) (st' := [.int (64 : Int32), .long x]) rfl Kz) ?_
    refine jv_Wp.lift (fun _ Kz => jv_Ev.c jv_i382 (pc' := 30) (S' := [.long (Int64.ofBitVec ((x).toBitVec &&& vb_lowest 64))]) jv_i381 [.long x, .int (64 : Int32)] rfl rfl rfl rfl rfl rfl (vr_low64 (v := x)) rfl rfl Kz) ?_
    refine jv_Wp.lift (fun _ Kz => jv_Ev.steps jv_i382 2 (pc' := 34) (l' := [(7, .long (Int64.ofBitVec ((x).toBitVec &&& vb_lowest 64))), (6, .int (0 : Int32)), (0, .ref 178), (1, .long x), (3, .long y), (5, .int (64 : Int32))]) (st' := [.int (0 : Int32)]) rfl Kz) ?_
    refine jv_Wp.lift (fun _ Kz => jv_Ev.br jv_i382 (pc' := 41) (st' := []) rfl (by rfl) Kz) ?_
    refine jv_Wp.lift (fun _ Kz => jv_Ev.steps jv_i382 2 (pc' := 44) (l' := [(7, .long (Int64.ofBitVec ((x).toBitVec &&& vb_lowest 64))), (6, .int (0 : Int32)), (0, .ref 178), (1, .long x), (3, .long y), (5, .int (64 : Int32))]) (st' := [.int (64 : Int32), .long y]) rfl Kz) ?_
    refine jv_Wp.lift (fun _ Kz => jv_Ev.c jv_i382 (pc' := 47) (S' := [.long (Int64.ofBitVec ((y).toBitVec &&& vb_lowest 64))]) jv_i381 [.long y, .int (64 : Int32)] rfl rfl rfl rfl rfl rfl (vr_low64 (v := y)) rfl rfl Kz) ?_
    refine jv_Wp.lift (fun _ Kz => jv_Ev.steps jv_i382 10 (pc' := 60) (l' := [(11, .int (y &&& ((64 : Int32) - (1 : Int32)).toInt64).toInt32), (9, .long (Int64.ofBitVec ((y).toBitVec &&& vb_lowest 64))), (7, .long (Int64.ofBitVec ((x).toBitVec &&& vb_lowest 64))), (6, .int (0 : Int32)), (0, .ref 178), (1, .long x), (3, .long y), (5, .int (64 : Int32))]) (st' := [.ref 178]) rfl Kz) ?_
    refine jv_Wp.lift (fun _ Kz => jv_Ev.c jv_i382 (pc' := 63) (S' := [.int (vl_I f.n)]) jv_i386 [.ref 178] rfl rfl rfl rfl (jv_cal rfl (jv_H_at (jv_rwK hW 178 14 31 (by decide))) rfl rfl) rfl (vr_mn hW D) rfl rfl Kz) ?_
    refine jv_Wp.bys (q := ((vl_I f.n) = Int32.ofInt 0)) (fun h2 => ?_) (fun h2 => ?_)
    · refine jv_Wp.lift (fun _ Kz => jv_Ev.br jv_i382 (pc' := 124) (st' := []) rfl (by rw [h2]; rfl) Kz) ?_
      refine jv_Wp.lift (fun _ Kz => jv_Ev.steps jv_i382 3 (pc' := 127) (l' := [(11, .int (y &&& ((64 : Int32) - (1 : Int32)).toInt64).toInt32), (9, .long (Int64.ofBitVec ((y).toBitVec &&& vb_lowest 64))), (7, .long (Int64.ofBitVec ((x).toBitVec &&& vb_lowest 64))), (6, .int (0 : Int32)), (0, .ref 178), (1, .long x), (3, .long y), (5, .int (64 : Int32))]) (st' := [.long (x + y)]) rfl Kz) ?_
      refine jv_Wp.of (jv_Ev.ret jv_i382 rfl rfl) ?_
      have hnk : f.n = 0 := (vl_I_inj (a := f.n) (b := 0) (by omega) (by decide)).mp h2
      have hs : false = decide (f.o = 1) := (decide_eq_false (fun z => h1 ((vm_o1 (vr_dO D)).mpr z))).symm
      have hd := vm_do7 hk (a := x.toBitVec) (b := y.toBitVec) har (by omega) (by omega) hs
      rw [hnk] at hd
      rw [show Int64.ofBitVec (vx_do f x.toBitVec y.toBitVec (vm_sg f x.toBitVec y.toBitVec)) = (x + y) from by rw [hd]; exact Int64.toBitVec_inj.mp (by rw [Int64.toBitVec_add]; rfl)] at hQ
      exact hQ
    · refine jv_Wp.bys (q := ((vl_I f.n) = Int32.ofInt 1)) (fun h3 => ?_) (fun h3 => ?_)
      · refine jv_Wp.lift (fun _ Kz => jv_Ev.br jv_i382 (pc' := 128) (st' := []) rfl (by rw [h3]; rfl) Kz) ?_
        refine jv_Wp.lift (fun _ Kz => jv_Ev.steps jv_i382 3 (pc' := 131) (l' := [(11, .int (y &&& ((64 : Int32) - (1 : Int32)).toInt64).toInt32), (9, .long (Int64.ofBitVec ((y).toBitVec &&& vb_lowest 64))), (7, .long (Int64.ofBitVec ((x).toBitVec &&& vb_lowest 64))), (6, .int (0 : Int32)), (0, .ref 178), (1, .long x), (3, .long y), (5, .int (64 : Int32))]) (st' := [.long (x - y)]) rfl Kz) ?_
        refine jv_Wp.of (jv_Ev.ret jv_i382 rfl rfl) ?_
        have hnk : f.n = 1 := (vl_I_inj (a := f.n) (b := 1) (by omega) (by decide)).mp h3
        have hs : false = decide (f.o = 1) := (decide_eq_false (fun z => h1 ((vm_o1 (vr_dO D)).mpr z))).symm
        have hd := vm_do7 hk (a := x.toBitVec) (b := y.toBitVec) har (by omega) (by omega) hs
        rw [hnk] at hd
        rw [show Int64.ofBitVec (vx_do f x.toBitVec y.toBitVec (vm_sg f x.toBitVec y.toBitVec)) = (x - y) from by rw [hd]; exact Int64.toBitVec_inj.mp (by rw [Int64.toBitVec_sub]; rfl)] at hQ
        exact hQ
      · refine jv_Wp.bys (q := ((vl_I f.n) = Int32.ofInt 2)) (fun h4 => ?_) (fun h4 => ?_)
        · refine jv_Wp.lift (fun _ Kz => jv_Ev.br jv_i382 (pc' := 132) (st' := []) rfl (by rw [h4]; rfl) Kz) ?_
          refine jv_Wp.lift (fun _ Kz => jv_Ev.steps jv_i382 3 (pc' := 135) (l' := [(11, .int (y &&& ((64 : Int32) - (1 : Int32)).toInt64).toInt32), (9, .long (Int64.ofBitVec ((y).toBitVec &&& vb_lowest 64))), (7, .long (Int64.ofBitVec ((x).toBitVec &&& vb_lowest 64))), (6, .int (0 : Int32)), (0, .ref 178), (1, .long x), (3, .long y), (5, .int (64 : Int32))]) (st' := [.long (x * y)]) rfl Kz) ?_
          refine jv_Wp.of (jv_Ev.ret jv_i382 rfl rfl) ?_
          have hnk : f.n = 2 := (vl_I_inj (a := f.n) (b := 2) (by omega) (by decide)).mp h4
          have hs : false = decide (f.o = 1) := (decide_eq_false (fun z => h1 ((vm_o1 (vr_dO D)).mpr z))).symm
          have hd := vm_do7 hk (a := x.toBitVec) (b := y.toBitVec) har (by omega) (by omega) hs
          rw [hnk] at hd
          rw [show Int64.ofBitVec (vx_do f x.toBitVec y.toBitVec (vm_sg f x.toBitVec y.toBitVec)) = (x * y) from by rw [hd]; exact Int64.toBitVec_inj.mp (by rw [Int64.toBitVec_mul]; rfl)] at hQ
          exact hQ
        · refine jv_Wp.bys (q := ((vl_I f.n) = Int32.ofInt 3)) (fun h5 => ?_) (fun h5 => ?_)
          · refine jv_Wp.lift (fun _ Kz => jv_Ev.br jv_i382 (pc' := 136) (st' := []) rfl (by rw [h5]; rfl) Kz) ?_
            refine jv_Wp.lift (fun _ Kz => jv_Ev.steps jv_i382 3 (pc' := 142) (l' := [(11, .int (y &&& ((64 : Int32) - (1 : Int32)).toInt64).toInt32), (9, .long (Int64.ofBitVec ((y).toBitVec &&& vb_lowest 64))), (7, .long (Int64.ofBitVec ((x).toBitVec &&& vb_lowest 64))), (6, .int (0 : Int32)), (0, .ref 178), (1, .long x), (3, .long y), (5, .int (64 : Int32))]) (st' := [.int (0 : Int32), .long (Int64.ofBitVec ((y).toBitVec &&& vb_lowest 64)), .long (Int64.ofBitVec ((x).toBitVec &&& vb_lowest 64))]) rfl Kz) ?_
            refine jv_Wp.lift (fun _ Kz => jv_Ev.c jv_i382 (pc' := 145) (S' := [.long (Int64.ofBitVec (((Int64.ofBitVec ((x).toBitVec &&& vb_lowest 64))).toBitVec / ((Int64.ofBitVec ((y).toBitVec &&& vb_lowest 64))).toBitVec))]) jv_i378 [.long (Int64.ofBitVec ((x).toBitVec &&& vb_lowest 64)), .long (Int64.ofBitVec ((y).toBitVec &&& vb_lowest 64)), .int (0 : Int32)] rfl rfl rfl rfl rfl rfl (vr_quot0 (a := (Int64.ofBitVec ((x).toBitVec &&& vb_lowest 64))) (b := (Int64.ofBitVec ((y).toBitVec &&& vb_lowest 64)))) rfl rfl Kz) ?_
            refine jv_Wp.of (jv_Ev.ret jv_i382 rfl rfl) ?_
            have hnk : f.n = 3 := (vl_I_inj (a := f.n) (b := 3) (by omega) (by decide)).mp h5
            have hs : false = decide (f.o = 1) := (decide_eq_false (fun z => h1 ((vm_o1 (vr_dO D)).mpr z))).symm
            have hd := vm_do7 hk (a := x.toBitVec) (b := y.toBitVec) har (by omega) (by omega) hs
            rw [hnk] at hd
            rw [show Int64.ofBitVec (vx_do f x.toBitVec y.toBitVec (vm_sg f x.toBitVec y.toBitVec)) = (Int64.ofBitVec (((Int64.ofBitVec ((x).toBitVec &&& vb_lowest 64))).toBitVec / ((Int64.ofBitVec ((y).toBitVec &&& vb_lowest 64))).toBitVec)) from by rw [hd]; show _ = Int64.ofBitVec ((Int64.ofBitVec (x.toBitVec &&& vb_lowest 64)).toBitVec / (Int64.ofBitVec (y.toBitVec &&& vb_lowest 64)).toBitVec); rw [vb_low64, vb_low64]; rfl] at hQ
            exact hQ
          · refine jv_Wp.bys (q := ((vl_I f.n) = Int32.ofInt 4)) (fun h6 => ?_) (fun h6 => ?_)
            · refine jv_Wp.lift (fun _ Kz => jv_Ev.br jv_i382 (pc' := 146) (st' := []) rfl (by rw [h6]; rfl) Kz) ?_
              refine jv_Wp.lift (fun _ Kz => jv_Ev.steps jv_i382 3 (pc' := 149) (l' := [(11, .int (y &&& ((64 : Int32) - (1 : Int32)).toInt64).toInt32), (9, .long (Int64.ofBitVec ((y).toBitVec &&& vb_lowest 64))), (7, .long (Int64.ofBitVec ((x).toBitVec &&& vb_lowest 64))), (6, .int (0 : Int32)), (0, .ref 178), (1, .long x), (3, .long y), (5, .int (64 : Int32))]) (st' := [.long (x ||| y)]) rfl Kz) ?_
              refine jv_Wp.of (jv_Ev.ret jv_i382 rfl rfl) ?_
              have hnk : f.n = 4 := (vl_I_inj (a := f.n) (b := 4) (by omega) (by decide)).mp h6
              have hs : false = decide (f.o = 1) := (decide_eq_false (fun z => h1 ((vm_o1 (vr_dO D)).mpr z))).symm
              have hd := vm_do7 hk (a := x.toBitVec) (b := y.toBitVec) har (by omega) (by omega) hs
              rw [hnk] at hd
              rw [show Int64.ofBitVec (vx_do f x.toBitVec y.toBitVec (vm_sg f x.toBitVec y.toBitVec)) = (x ||| y) from by rw [hd]; exact Int64.toBitVec_inj.mp (by rw [Int64.toBitVec_or]; rfl)] at hQ
              exact hQ
            · refine jv_Wp.bys (q := ((vl_I f.n) = Int32.ofInt 5)) (fun h7 => ?_) (fun h7 => ?_)
              · refine jv_Wp.lift (fun _ Kz => jv_Ev.br jv_i382 (pc' := 150) (st' := []) rfl (by rw [h7]; rfl) Kz) ?_
                refine jv_Wp.lift (fun _ Kz => jv_Ev.steps jv_i382 3 (pc' := 153) (l' := [(11, .int (y &&& ((64 : Int32) - (1 : Int32)).toInt64).toInt32), (9, .long (Int64.ofBitVec ((y).toBitVec &&& vb_lowest 64))), (7, .long (Int64.ofBitVec ((x).toBitVec &&& vb_lowest 64))), (6, .int (0 : Int32)), (0, .ref 178), (1, .long x), (3, .long y), (5, .int (64 : Int32))]) (st' := [.long (x &&& y)]) rfl Kz) ?_
                refine jv_Wp.of (jv_Ev.ret jv_i382 rfl rfl) ?_
                have hnk : f.n = 5 := (vl_I_inj (a := f.n) (b := 5) (by omega) (by decide)).mp h7
                have hs : false = decide (f.o = 1) := (decide_eq_false (fun z => h1 ((vm_o1 (vr_dO D)).mpr z))).symm
                have hd := vm_do7 hk (a := x.toBitVec) (b := y.toBitVec) har (by omega) (by omega) hs
                rw [hnk] at hd
                rw [show Int64.ofBitVec (vx_do f x.toBitVec y.toBitVec (vm_sg f x.toBitVec y.toBitVec)) = (x &&& y) from by rw [hd]; exact Int64.toBitVec_inj.mp (by rw [Int64.toBitVec_and]; rfl)] at hQ
                exact hQ
              · refine jv_Wp.bys (q := ((vl_I f.n) = Int32.ofInt 6)) (fun h8 => ?_) (fun h8 => ?_)
                · refine jv_Wp.lift (fun _ Kz => jv_Ev.br jv_i382 (pc' := 154) (st' := []) rfl (by rw [h8]; rfl) Kz) ?_
                  refine jv_Wp.lift (fun _ Kz => jv_Ev.steps jv_i382 3 (pc' := 158) (l' := [(11, .int (y &&& ((64 : Int32) - (1 : Int32)).toInt64).toInt32), (9, .long (Int64.ofBitVec ((y).toBitVec &&& vb_lowest 64))), (7, .long (Int64.ofBitVec ((x).toBitVec &&& vb_lowest 64))), (6, .int (0 : Int32)), (0, .ref 178), (1, .long x), (3, .long y), (5, .int (64 : Int32))]) (st' := [.long (x <<< ((y &&& ((64 : Int32) - (1 : Int32)).toInt64).toInt32.toInt64 &&& 63))]) rfl Kz) ?_
                  refine jv_Wp.of (jv_Ev.ret jv_i382 rfl rfl) ?_
                  have hnk : f.n = 6 := (vl_I_inj (a := f.n) (b := 6) (by omega) (by decide)).mp h8
                  have hs : false = decide (f.o = 1) := (decide_eq_false (fun z => h1 ((vm_o1 (vr_dO D)).mpr z))).symm
                  have hd := vm_do7 hk (a := x.toBitVec) (b := y.toBitVec) har (by omega) (by omega) hs
                  rw [hnk] at hd
                  rw [show Int64.ofBitVec (vx_do f x.toBitVec y.toBitVec (vm_sg f x.toBitVec y.toBitVec)) = (x <<< ((y &&& ((64 : Int32) - (1 : Int32)).toInt64).toInt32.toInt64 &&& 63)) from by rw [hd]; exact Int64.toBitVec_inj.mp (vl_shl x ((vi_s63 _).trans (vm_pl63 y))).symm] at hQ
                  exact hQ
                · refine jv_Wp.bys (q := ((vl_I f.n) = Int32.ofInt 7)) (fun h9 => ?_) (fun h9 => ?_)
                  · refine jv_Wp.lift (fun _ Kz => jv_Ev.br jv_i382 (pc' := 159) (st' := []) rfl (by rw [h9]; rfl) Kz) ?_
                    refine jv_Wp.lift (fun _ Kz => jv_Ev.steps jv_i382 2 (pc' := 162) (l' := [(11, .int (y &&& ((64 : Int32) - (1 : Int32)).toInt64).toInt32), (9, .long (Int64.ofBitVec ((y).toBitVec &&& vb_lowest 64))), (7, .long (Int64.ofBitVec ((x).toBitVec &&& vb_lowest 64))), (6, .int (0 : Int32)), (0, .ref 178), (1, .long x), (3, .long y), (5, .int (64 : Int32))]) (st' := [.int (64 : Int32), .long x]) rfl Kz) ?_
                    refine jv_Wp.lift (fun _ Kz => jv_Ev.c jv_i382 (pc' := 165) (S' := [.long (Int64.ofBitVec ((x).toBitVec &&& vb_lowest 64))]) jv_i381 [.long x, .int (64 : Int32)] rfl rfl rfl rfl rfl rfl (vr_low64 (v := x)) rfl rfl Kz) ?_
                    refine jv_Wp.lift (fun _ Kz => jv_Ev.steps jv_i382 2 (pc' := 168) (l' := [(11, .int (y &&& ((64 : Int32) - (1 : Int32)).toInt64).toInt32), (9, .long (Int64.ofBitVec ((y).toBitVec &&& vb_lowest 64))), (7, .long (Int64.ofBitVec ((x).toBitVec &&& vb_lowest 64))), (6, .int (0 : Int32)), (0, .ref 178), (1, .long x), (3, .long y), (5, .int (64 : Int32))]) (st' := [.long (((Int64.ofBitVec ((x).toBitVec &&& vb_lowest 64)).toUInt64 >>> ((y &&& ((64 : Int32) - (1 : Int32)).toInt64).toInt32.toInt64.toUInt64 &&& Int64.toUInt64 63)).toInt64)]) rfl Kz) ?_
                    refine jv_Wp.of (jv_Ev.ret jv_i382 rfl rfl) ?_
                    have hnk : f.n = 7 := (vl_I_inj (a := f.n) (b := 7) (by omega) (by decide)).mp h9
                    have hs : false = decide (f.o = 1) := (decide_eq_false (fun z => h1 ((vm_o1 (vr_dO D)).mpr z))).symm
                    have hd := vm_do7 hk (a := x.toBitVec) (b := y.toBitVec) har (by omega) (by omega) hs
                    rw [hnk] at hd
                    rw [show Int64.ofBitVec (vx_do f x.toBitVec y.toBitVec (vm_sg f x.toBitVec y.toBitVec)) = (((Int64.ofBitVec ((x).toBitVec &&& vb_lowest 64)).toUInt64 >>> ((y &&& ((64 : Int32) - (1 : Int32)).toInt64).toInt32.toInt64.toUInt64 &&& Int64.toUInt64 63)).toInt64) from by rw [hd, vb_low64]; exact Int64.toBitVec_inj.mp (vl_ushr x ((vi_u63 _).trans (vm_pl63 y))).symm] at hQ
                    exact hQ
                  · refine jv_Wp.bys (q := ((vl_I f.n) = Int32.ofInt 8)) (fun h10 => ?_) (fun h10 => ?_)
                    · refine jv_Wp.lift (fun _ Kz => jv_Ev.br jv_i382 (pc' := 169) (st' := []) rfl (by rw [h10]; rfl) Kz) ?_
                      refine jv_Wp.lift (fun _ Kz => jv_Ev.steps jv_i382 2 (pc' := 171) (l' := [(11, .int (y &&& ((64 : Int32) - (1 : Int32)).toInt64).toInt32), (9, .long (Int64.ofBitVec ((y).toBitVec &&& vb_lowest 64))), (7, .long (Int64.ofBitVec ((x).toBitVec &&& vb_lowest 64))), (6, .int (0 : Int32)), (0, .ref 178), (1, .long x), (3, .long y), (5, .int (64 : Int32))]) (st' := [.long (-x)]) rfl Kz) ?_
                      refine jv_Wp.of (jv_Ev.ret jv_i382 rfl rfl) ?_
                      have hnk : f.n = 8 := (vl_I_inj (a := f.n) (b := 8) (by omega) (by decide)).mp h10
                      have hs : false = decide (f.o = 1) := (decide_eq_false (fun z => h1 ((vm_o1 (vr_dO D)).mpr z))).symm
                      have hd := vm_do7 hk (a := x.toBitVec) (b := y.toBitVec) har (by omega) (by omega) hs
                      rw [hnk] at hd
                      rw [show Int64.ofBitVec (vx_do f x.toBitVec y.toBitVec (vm_sg f x.toBitVec y.toBitVec)) = (-x) from by rw [hd]; exact Int64.toBitVec_inj.mp (by rw [Int64.toBitVec_neg]; rfl)] at hQ
                      exact hQ
                    · refine jv_Wp.bys (q := ((vl_I f.n) = Int32.ofInt 9)) (fun h11 => ?_) (fun h11 => ?_)
                      · refine jv_Wp.lift (fun _ Kz => jv_Ev.br jv_i382 (pc' := 172) (st' := []) rfl (by rw [h11]; rfl) Kz) ?_
                        refine jv_Wp.lift (fun _ Kz => jv_Ev.steps jv_i382 4 (pc' := 180) (l' := [(11, .int (y &&& ((64 : Int32) - (1 : Int32)).toInt64).toInt32), (9, .long (Int64.ofBitVec ((y).toBitVec &&& vb_lowest 64))), (7, .long (Int64.ofBitVec ((x).toBitVec &&& vb_lowest 64))), (6, .int (0 : Int32)), (0, .ref 178), (1, .long x), (3, .long y), (5, .int (64 : Int32))]) (st' := [.int (0 : Int32), .long (Int64.ofBitVec ((y).toBitVec &&& vb_lowest 64)), .long (Int64.ofBitVec ((x).toBitVec &&& vb_lowest 64)), .long (Int64.ofBitVec ((x).toBitVec &&& vb_lowest 64))]) rfl Kz) ?_
                        refine jv_Wp.lift (fun _ Kz => jv_Ev.c jv_i382 (pc' := 183) (S' := [.long (Int64.ofBitVec (((Int64.ofBitVec ((x).toBitVec &&& vb_lowest 64))).toBitVec / ((Int64.ofBitVec ((y).toBitVec &&& vb_lowest 64))).toBitVec)), .long (Int64.ofBitVec ((x).toBitVec &&& vb_lowest 64))]) jv_i378 [.long (Int64.ofBitVec ((x).toBitVec &&& vb_lowest 64)), .long (Int64.ofBitVec ((y).toBitVec &&& vb_lowest 64)), .int (0 : Int32)] rfl rfl rfl rfl rfl rfl (vr_quot0 (a := (Int64.ofBitVec ((x).toBitVec &&& vb_lowest 64))) (b := (Int64.ofBitVec ((y).toBitVec &&& vb_lowest 64)))) rfl rfl Kz) ?_
                        refine jv_Wp.lift (fun _ Kz => jv_Ev.steps jv_i382 3 (pc' := 187) (l' := [(11, .int (y &&& ((64 : Int32) - (1 : Int32)).toInt64).toInt32), (9, .long (Int64.ofBitVec ((y).toBitVec &&& vb_lowest 64))), (7, .long (Int64.ofBitVec ((x).toBitVec &&& vb_lowest 64))), (6, .int (0 : Int32)), (0, .ref 178), (1, .long x), (3, .long y), (5, .int (64 : Int32))]) (st' := [.long ((Int64.ofBitVec ((x).toBitVec &&& vb_lowest 64)) - ((Int64.ofBitVec (((Int64.ofBitVec ((x).toBitVec &&& vb_lowest 64))).toBitVec / ((Int64.ofBitVec ((y).toBitVec &&& vb_lowest 64))).toBitVec)) * (Int64.ofBitVec ((y).toBitVec &&& vb_lowest 64))))]) rfl Kz) ?_
                        refine jv_Wp.of (jv_Ev.ret jv_i382 rfl rfl) ?_
                        have hnk : f.n = 9 := (vl_I_inj (a := f.n) (b := 9) (by omega) (by decide)).mp h11
                        have hs : false = decide (f.o = 1) := (decide_eq_false (fun z => h1 ((vm_o1 (vr_dO D)).mpr z))).symm
                        have hd := vm_do7 hk (a := x.toBitVec) (b := y.toBitVec) har (by omega) (by omega) hs
                        rw [hnk] at hd
                        rw [show Int64.ofBitVec (vx_do f x.toBitVec y.toBitVec (vm_sg f x.toBitVec y.toBitVec)) = ((Int64.ofBitVec ((x).toBitVec &&& vb_lowest 64)) - ((Int64.ofBitVec (((Int64.ofBitVec ((x).toBitVec &&& vb_lowest 64))).toBitVec / ((Int64.ofBitVec ((y).toBitVec &&& vb_lowest 64))).toBitVec)) * (Int64.ofBitVec ((y).toBitVec &&& vb_lowest 64)))) from by rw [hd, vb_low64, vb_low64]; exact Int64.toBitVec_inj.mp (by rw [Int64.toBitVec_sub, Int64.toBitVec_mul]; exact (vb_rest _ _).symm)] at hQ
                        exact hQ
                      · refine jv_Wp.bys (q := ((vl_I f.n) = Int32.ofInt 10)) (fun h12 => ?_) (fun h12 => ?_)
                        · refine jv_Wp.lift (fun _ Kz => jv_Ev.br jv_i382 (pc' := 188) (st' := []) rfl (by rw [h12]; rfl) Kz) ?_
                          refine jv_Wp.lift (fun _ Kz => jv_Ev.steps jv_i382 3 (pc' := 191) (l' := [(11, .int (y &&& ((64 : Int32) - (1 : Int32)).toInt64).toInt32), (9, .long (Int64.ofBitVec ((y).toBitVec &&& vb_lowest 64))), (7, .long (Int64.ofBitVec ((x).toBitVec &&& vb_lowest 64))), (6, .int (0 : Int32)), (0, .ref 178), (1, .long x), (3, .long y), (5, .int (64 : Int32))]) (st' := [.long (x ^^^ y)]) rfl Kz) ?_
                          refine jv_Wp.of (jv_Ev.ret jv_i382 rfl rfl) ?_
                          have hnk : f.n = 10 := (vl_I_inj (a := f.n) (b := 10) (by omega) (by decide)).mp h12
                          have hs : false = decide (f.o = 1) := (decide_eq_false (fun z => h1 ((vm_o1 (vr_dO D)).mpr z))).symm
                          have hd := vm_do7 hk (a := x.toBitVec) (b := y.toBitVec) har (by omega) (by omega) hs
                          rw [hnk] at hd
                          rw [show Int64.ofBitVec (vx_do f x.toBitVec y.toBitVec (vm_sg f x.toBitVec y.toBitVec)) = (x ^^^ y) from by rw [hd]; exact Int64.toBitVec_inj.mp (by rw [Int64.toBitVec_xor]; rfl)] at hQ
                          exact hQ
                        · refine jv_Wp.bys (q := ((vl_I f.n) = Int32.ofInt 11)) (fun h13 => ?_) (fun h13 => ?_)
                          · refine jv_Wp.lift (fun _ Kz => jv_Ev.br jv_i382 (pc' := 192) (st' := []) rfl (by rw [h13]; rfl) Kz) ?_
                            refine jv_Wp.lift (fun _ Kz => jv_Ev.steps jv_i382 1 (pc' := 193) (l' := [(11, .int (y &&& ((64 : Int32) - (1 : Int32)).toInt64).toInt32), (9, .long (Int64.ofBitVec ((y).toBitVec &&& vb_lowest 64))), (7, .long (Int64.ofBitVec ((x).toBitVec &&& vb_lowest 64))), (6, .int (0 : Int32)), (0, .ref 178), (1, .long x), (3, .long y), (5, .int (64 : Int32))]) (st' := [.ref 178]) rfl Kz) ?_
                            refine jv_Wp.lift (fun _ Kz => jv_Ev.m jv_i382 (pc' := 196) (st' := [.int (Int32.ofInt f.o)]) (G' := (jv_H K I L R)) rfl rfl (jv_m_getI (jv_rwK hW 178 14 31 (by decide)) rfl rfl (vm_d_o D)) Kz) ?_
                            refine jv_Wp.cnd jv_i382 (pt := 203) (pe := 199) (p := (¬ (Int32.ofInt f.o) = 0)) (q := (¬ (Int32.ofInt f.o) = 0)) rfl jv_bi_ne rfl rfl Iff.rfl (fun h14 => ?_) (fun h14 => ?_)
                            · refine jv_Wp.lift (fun _ Kz => jv_Ev.steps jv_i382 2 (pc' := 205) (l' := [(11, .int (y &&& ((64 : Int32) - (1 : Int32)).toInt64).toInt32), (9, .long (Int64.ofBitVec ((y).toBitVec &&& vb_lowest 64))), (7, .long (Int64.ofBitVec ((x).toBitVec &&& vb_lowest 64))), (6, .int (0 : Int32)), (0, .ref 178), (1, .long x), (3, .long y), (5, .int (64 : Int32))]) (st' := [.ref 178, .long y]) rfl Kz) ?_
                              refine jv_Wp.lift (fun _ Kz => jv_Ev.m jv_i382 (pc' := 208) (st' := [.int (Int32.ofInt f.o), .long y]) (G' := (jv_H K I L R)) rfl rfl (jv_m_getI (jv_rwK hW 178 14 31 (by decide)) rfl rfl (vm_d_o D)) Kz) ?_
                              refine jv_Wp.lift (fun _ Kz => jv_Ev.c jv_i382 (pc' := 211) (S' := [.long (Int64.ofBitVec (vm_sx (y).toBitVec f.o.toNat))]) jv_i380 [.long y, .int (Int32.ofInt f.o)] rfl rfl rfl rfl rfl rfl (hS ((vl_I_inj (a := f.n) (b := 11) (by omega) (by decide)).mp (by assumption)) (by assumption)) rfl rfl Kz) ?_
                              refine jv_Wp.of (jv_Ev.ret jv_i382 rfl rfl) ?_
                              have hnk : f.n = 11 := (vl_I_inj (a := f.n) (b := 11) (by omega) (by decide)).mp h13
                              have hs : false = decide (f.o = 1) := (decide_eq_false (fun z => h1 ((vm_o1 (vr_dO D)).mpr z))).symm
                              have ho0 : ¬ f.o = 0 := fun z => h14 (Int32.toInt_inj.mp (by rw [vr_dO D, z]; rfl))
                              have ho3 : f.o.toNat = 8 ∨ f.o.toNat = 16 ∨ f.o.toNat = 32 := by have := har.2.2.2.1 hnk ho0; omega
                              rw [show vx_do f x.toBitVec y.toBitVec (vm_sg f x.toBitVec y.toBitVec) = vm_sx y.toBitVec f.o.toNat from by rw [vm_do7m hk hnk, if_neg ho0]; unfold vm_sx; rw [if_neg (by omega)]] at hQ
                              exact hQ
                            · refine jv_Wp.lift (fun _ Kz => jv_Ev.steps jv_i382 2 (pc' := 211) (l' := [(11, .int (y &&& ((64 : Int32) - (1 : Int32)).toInt64).toInt32), (9, .long (Int64.ofBitVec ((y).toBitVec &&& vb_lowest 64))), (7, .long (Int64.ofBitVec ((x).toBitVec &&& vb_lowest 64))), (6, .int (0 : Int32)), (0, .ref 178), (1, .long x), (3, .long y), (5, .int (64 : Int32))]) (st' := [.long y]) rfl Kz) ?_
                              refine jv_Wp.of (jv_Ev.ret jv_i382 rfl rfl) ?_
                              have hnk : f.n = 11 := (vl_I_inj (a := f.n) (b := 11) (by omega) (by decide)).mp h13
                              have hs : false = decide (f.o = 1) := (decide_eq_false (fun z => h1 ((vm_o1 (vr_dO D)).mpr z))).symm
                              have ho0 : f.o = 0 := by have z := congrArg Int32.toInt (Classical.not_not.mp h14); rw [vr_dO D] at z; exact z
                              rw [show vx_do f x.toBitVec y.toBitVec (vm_sg f x.toBitVec y.toBitVec) = y.toBitVec from by rw [vm_do7m hk hnk, if_pos ho0]] at hQ
                              exact hQ
                          · refine jv_Wp.lift (fun _ Kz => jv_Ev.br jv_i382 (pc' := 212) (st' := []) rfl (jv_tsw_def (fun i hi h => by match i, hi, h with 
                                  | 0, _, h => exact absurd h (jv_ne_toInt (k := 0) h2) 
                                  | 1, _, h => exact absurd h (jv_ne_toInt (k := 1) h3) 
                                  | 2, _, h => exact absurd h (jv_ne_toInt (k := 2) h4) 
                                  | 3, _, h => exact absurd h (jv_ne_toInt (k := 3) h5) 
                                  | 4, _, h => exact absurd h (jv_ne_toInt (k := 4) h6) 
                                  | 5, _, h => exact absurd h (jv_ne_toInt (k := 5) h7) 
                                  | 6, _, h => exact absurd h (jv_ne_toInt (k := 6) h8) 
                                  | 7, _, h => exact absurd h (jv_ne_toInt (k := 7) h9) 
                                  | 8, _, h => exact absurd h (jv_ne_toInt (k := 8) h10) 
                                  | 9, _, h => exact absurd h (jv_ne_toInt (k := 9) h11) 
                                  | 10, _, h => exact absurd h (jv_ne_toInt (k := 10) h12) 
                                  | 11, _, h => exact absurd h (jv_ne_toInt (k := 11) h13) 
                                  | i + 12, hi, _ => exact absurd hi (by simp)) rfl) Kz) ?_
                            refine jv_Wp.lift (fun _ Kz => jv_Ev.steps jv_i382 3 (pc' := 216) (l' := [(11, .int (y &&& ((64 : Int32) - (1 : Int32)).toInt64).toInt32), (9, .long (Int64.ofBitVec ((y).toBitVec &&& vb_lowest 64))), (7, .long (Int64.ofBitVec ((x).toBitVec &&& vb_lowest 64))), (6, .int (0 : Int32)), (0, .ref 178), (1, .long x), (3, .long y), (5, .int (64 : Int32))]) (st' := [.long (x >>> ((y &&& ((64 : Int32) - (1 : Int32)).toInt64).toInt32.toInt64 &&& 63))]) rfl Kz) ?_
                            refine jv_Wp.of (jv_Ev.ret jv_i382 rfl rfl) ?_
                            have e0 : ¬ f.n = 0 := (fun z => h2 ((vl_I_inj (a := f.n) (b := 0) (by omega) (by decide)).mpr z))
                            have e1 : ¬ f.n = 1 := (fun z => h3 ((vl_I_inj (a := f.n) (b := 1) (by omega) (by decide)).mpr z))
                            have e2 : ¬ f.n = 2 := (fun z => h4 ((vl_I_inj (a := f.n) (b := 2) (by omega) (by decide)).mpr z))
                            have e3 : ¬ f.n = 3 := (fun z => h5 ((vl_I_inj (a := f.n) (b := 3) (by omega) (by decide)).mpr z))
                            have e4 : ¬ f.n = 4 := (fun z => h6 ((vl_I_inj (a := f.n) (b := 4) (by omega) (by decide)).mpr z))
                            have e5 : ¬ f.n = 5 := (fun z => h7 ((vl_I_inj (a := f.n) (b := 5) (by omega) (by decide)).mpr z))
                            have e6 : ¬ f.n = 6 := (fun z => h8 ((vl_I_inj (a := f.n) (b := 6) (by omega) (by decide)).mpr z))
                            have e7 : ¬ f.n = 7 := (fun z => h9 ((vl_I_inj (a := f.n) (b := 7) (by omega) (by decide)).mpr z))
                            have e8 : ¬ f.n = 8 := (fun z => h10 ((vl_I_inj (a := f.n) (b := 8) (by omega) (by decide)).mpr z))
                            have e9 : ¬ f.n = 9 := (fun z => h11 ((vl_I_inj (a := f.n) (b := 9) (by omega) (by decide)).mpr z))
                            have e10 : ¬ f.n = 10 := (fun z => h12 ((vl_I_inj (a := f.n) (b := 10) (by omega) (by decide)).mpr z))
                            have e11 : ¬ f.n = 11 := (fun z => h13 ((vl_I_inj (a := f.n) (b := 11) (by omega) (by decide)).mpr z))
                            have hnk : f.n = 12 := by have := har.1; omega
                            have hs : false = decide (f.o = 1) := (decide_eq_false (fun z => h1 ((vm_o1 (vr_dO D)).mpr z))).symm
                            have hd := vm_do7 hk (a := x.toBitVec) (b := y.toBitVec) har (by omega) (by omega) hs
                            rw [hnk] at hd
                            rw [show Int64.ofBitVec (vx_do f x.toBitVec y.toBitVec (vm_sg f x.toBitVec y.toBitVec)) = (x >>> ((y &&& ((64 : Int32) - (1 : Int32)).toInt64).toInt32.toInt64 &&& 63)) from by rw [hd]; exact Int64.toBitVec_inj.mp (vl_sshr x ((vi_s63 _).trans (vm_pl63 y))).symm] at hQ
                            exact hQ
  · refine jv_Wp.lift (fun _ Kz => jv_Ev.steps jv_i382 4 (pc' := 17) (l' := [(6, .int (1 : Int32)), (0, .ref 178), (1, .long x), (3, .long y), (5, .int (64 : Int32))]) (st' := [.int (1 : Int32)]) rfl Kz) ?_
    refine jv_Wp.lift (fun _ Kz => jv_Ev.br jv_i382 (pc' := 20) (st' := []) rfl (by rfl) Kz) ?_
    refine jv_Wp.lift (fun _ Kz => jv_Ev.steps jv_i382 4 (pc' := 34) (l' := [(7, .long x), (6, .int (1 : Int32)), (0, .ref 178), (1, .long x), (3, .long y), (5, .int (64 : Int32))]) (st' := [.int (1 : Int32)]) rfl Kz) ?_
    refine jv_Wp.lift (fun _ Kz => jv_Ev.br jv_i382 (pc' := 37) (st' := []) rfl (by rfl) Kz) ?_
    refine jv_Wp.lift (fun _ Kz => jv_Ev.steps jv_i382 12 (pc' := 60) (l' := [(11, .int (y &&& ((64 : Int32) - (1 : Int32)).toInt64).toInt32), (9, .long y), (7, .long x), (6, .int (1 : Int32)), (0, .ref 178), (1, .long x), (3, .long y), (5, .int (64 : Int32))]) (st' := [.ref 178]) rfl Kz) ?_
    refine jv_Wp.lift (fun _ Kz => jv_Ev.c jv_i382 (pc' := 63) (S' := [.int (vl_I f.n)]) jv_i386 [.ref 178] rfl rfl rfl rfl (jv_cal rfl (jv_H_at (jv_rwK hW 178 14 31 (by decide))) rfl rfl) rfl (vr_mn hW D) rfl rfl Kz) ?_
    refine jv_Wp.bys (q := ((vl_I f.n) = Int32.ofInt 0)) (fun h15 => ?_) (fun h15 => ?_)
    · refine jv_Wp.lift (fun _ Kz => jv_Ev.br jv_i382 (pc' := 124) (st' := []) rfl (by rw [h15]; rfl) Kz) ?_
      refine jv_Wp.lift (fun _ Kz => jv_Ev.steps jv_i382 3 (pc' := 127) (l' := [(11, .int (y &&& ((64 : Int32) - (1 : Int32)).toInt64).toInt32), (9, .long y), (7, .long x), (6, .int (1 : Int32)), (0, .ref 178), (1, .long x), (3, .long y), (5, .int (64 : Int32))]) (st' := [.long (x + y)]) rfl Kz) ?_
      refine jv_Wp.of (jv_Ev.ret jv_i382 rfl rfl) ?_
      have hnk : f.n = 0 := (vl_I_inj (a := f.n) (b := 0) (by omega) (by decide)).mp h15
      have hs : true = decide (f.o = 1) := (decide_eq_true ((vm_o1 (vr_dO D)).mp (Classical.not_not.mp h1))).symm
      have hd := vm_do7 hk (a := x.toBitVec) (b := y.toBitVec) har (by omega) (by omega) hs
      rw [hnk] at hd
      rw [show Int64.ofBitVec (vx_do f x.toBitVec y.toBitVec (vm_sg f x.toBitVec y.toBitVec)) = (x + y) from by rw [hd]; exact Int64.toBitVec_inj.mp (by rw [Int64.toBitVec_add]; rfl)] at hQ
      exact hQ
    · refine jv_Wp.bys (q := ((vl_I f.n) = Int32.ofInt 1)) (fun h16 => ?_) (fun h16 => ?_)
      · refine jv_Wp.lift (fun _ Kz => jv_Ev.br jv_i382 (pc' := 128) (st' := []) rfl (by rw [h16]; rfl) Kz) ?_
        refine jv_Wp.lift (fun _ Kz => jv_Ev.steps jv_i382 3 (pc' := 131) (l' := [(11, .int (y &&& ((64 : Int32) - (1 : Int32)).toInt64).toInt32), (9, .long y), (7, .long x), (6, .int (1 : Int32)), (0, .ref 178), (1, .long x), (3, .long y), (5, .int (64 : Int32))]) (st' := [.long (x - y)]) rfl Kz) ?_
        refine jv_Wp.of (jv_Ev.ret jv_i382 rfl rfl) ?_
        have hnk : f.n = 1 := (vl_I_inj (a := f.n) (b := 1) (by omega) (by decide)).mp h16
        have hs : true = decide (f.o = 1) := (decide_eq_true ((vm_o1 (vr_dO D)).mp (Classical.not_not.mp h1))).symm
        have hd := vm_do7 hk (a := x.toBitVec) (b := y.toBitVec) har (by omega) (by omega) hs
        rw [hnk] at hd
        rw [show Int64.ofBitVec (vx_do f x.toBitVec y.toBitVec (vm_sg f x.toBitVec y.toBitVec)) = (x - y) from by rw [hd]; exact Int64.toBitVec_inj.mp (by rw [Int64.toBitVec_sub]; rfl)] at hQ
        exact hQ
      · refine jv_Wp.bys (q := ((vl_I f.n) = Int32.ofInt 2)) (fun h17 => ?_) (fun h17 => ?_)
        · refine jv_Wp.lift (fun _ Kz => jv_Ev.br jv_i382 (pc' := 132) (st' := []) rfl (by rw [h17]; rfl) Kz) ?_
          refine jv_Wp.lift (fun _ Kz => jv_Ev.steps jv_i382 3 (pc' := 135) (l' := [(11, .int (y &&& ((64 : Int32) - (1 : Int32)).toInt64).toInt32), (9, .long y), (7, .long x), (6, .int (1 : Int32)), (0, .ref 178), (1, .long x), (3, .long y), (5, .int (64 : Int32))]) (st' := [.long (x * y)]) rfl Kz) ?_
          refine jv_Wp.of (jv_Ev.ret jv_i382 rfl rfl) ?_
          have hnk : f.n = 2 := (vl_I_inj (a := f.n) (b := 2) (by omega) (by decide)).mp h17
          have hs : true = decide (f.o = 1) := (decide_eq_true ((vm_o1 (vr_dO D)).mp (Classical.not_not.mp h1))).symm
          have hd := vm_do7 hk (a := x.toBitVec) (b := y.toBitVec) har (by omega) (by omega) hs
          rw [hnk] at hd
          rw [show Int64.ofBitVec (vx_do f x.toBitVec y.toBitVec (vm_sg f x.toBitVec y.toBitVec)) = (x * y) from by rw [hd]; exact Int64.toBitVec_inj.mp (by rw [Int64.toBitVec_mul]; rfl)] at hQ
          exact hQ
        · refine jv_Wp.bys (q := ((vl_I f.n) = Int32.ofInt 3)) (fun h18 => ?_) (fun h18 => ?_)
          · refine jv_Wp.lift (fun _ Kz => jv_Ev.br jv_i382 (pc' := 136) (st' := []) rfl (by rw [h18]; rfl) Kz) ?_
            refine jv_Wp.lift (fun _ Kz => jv_Ev.steps jv_i382 3 (pc' := 142) (l' := [(11, .int (y &&& ((64 : Int32) - (1 : Int32)).toInt64).toInt32), (9, .long y), (7, .long x), (6, .int (1 : Int32)), (0, .ref 178), (1, .long x), (3, .long y), (5, .int (64 : Int32))]) (st' := [.int (1 : Int32), .long y, .long x]) rfl Kz) ?_
            refine jv_Wp.lift (fun _ Kz => jv_Ev.c jv_i382 (pc' := 145) (S' := [.long (Int64.ofBitVec ((x).toBitVec.sdiv (y).toBitVec))]) jv_i378 [.long x, .long y, .int (1 : Int32)] rfl rfl rfl rfl rfl rfl (vr_quot1 (a := x) (b := y)) rfl rfl Kz) ?_
            refine jv_Wp.of (jv_Ev.ret jv_i382 rfl rfl) ?_
            have hnk : f.n = 3 := (vl_I_inj (a := f.n) (b := 3) (by omega) (by decide)).mp h18
            have hs : true = decide (f.o = 1) := (decide_eq_true ((vm_o1 (vr_dO D)).mp (Classical.not_not.mp h1))).symm
            have hd := vm_do7 hk (a := x.toBitVec) (b := y.toBitVec) har (by omega) (by omega) hs
            rw [hnk] at hd
            rw [show Int64.ofBitVec (vx_do f x.toBitVec y.toBitVec (vm_sg f x.toBitVec y.toBitVec)) = (Int64.ofBitVec ((x).toBitVec.sdiv (y).toBitVec)) from by rw [hd]; rfl] at hQ
            exact hQ
          · refine jv_Wp.bys (q := ((vl_I f.n) = Int32.ofInt 4)) (fun h19 => ?_) (fun h19 => ?_)
            · refine jv_Wp.lift (fun _ Kz => jv_Ev.br jv_i382 (pc' := 146) (st' := []) rfl (by rw [h19]; rfl) Kz) ?_
              refine jv_Wp.lift (fun _ Kz => jv_Ev.steps jv_i382 3 (pc' := 149) (l' := [(11, .int (y &&& ((64 : Int32) - (1 : Int32)).toInt64).toInt32), (9, .long y), (7, .long x), (6, .int (1 : Int32)), (0, .ref 178), (1, .long x), (3, .long y), (5, .int (64 : Int32))]) (st' := [.long (x ||| y)]) rfl Kz) ?_
              refine jv_Wp.of (jv_Ev.ret jv_i382 rfl rfl) ?_
              have hnk : f.n = 4 := (vl_I_inj (a := f.n) (b := 4) (by omega) (by decide)).mp h19
              have hs : true = decide (f.o = 1) := (decide_eq_true ((vm_o1 (vr_dO D)).mp (Classical.not_not.mp h1))).symm
              have hd := vm_do7 hk (a := x.toBitVec) (b := y.toBitVec) har (by omega) (by omega) hs
              rw [hnk] at hd
              rw [show Int64.ofBitVec (vx_do f x.toBitVec y.toBitVec (vm_sg f x.toBitVec y.toBitVec)) = (x ||| y) from by rw [hd]; exact Int64.toBitVec_inj.mp (by rw [Int64.toBitVec_or]; rfl)] at hQ
              exact hQ
            · refine jv_Wp.bys (q := ((vl_I f.n) = Int32.ofInt 5)) (fun h20 => ?_) (fun h20 => ?_)
              · refine jv_Wp.lift (fun _ Kz => jv_Ev.br jv_i382 (pc' := 150) (st' := []) rfl (by rw [h20]; rfl) Kz) ?_
                refine jv_Wp.lift (fun _ Kz => jv_Ev.steps jv_i382 3 (pc' := 153) (l' := [(11, .int (y &&& ((64 : Int32) - (1 : Int32)).toInt64).toInt32), (9, .long y), (7, .long x), (6, .int (1 : Int32)), (0, .ref 178), (1, .long x), (3, .long y), (5, .int (64 : Int32))]) (st' := [.long (x &&& y)]) rfl Kz) ?_
                refine jv_Wp.of (jv_Ev.ret jv_i382 rfl rfl) ?_
                have hnk : f.n = 5 := (vl_I_inj (a := f.n) (b := 5) (by omega) (by decide)).mp h20
                have hs : true = decide (f.o = 1) := (decide_eq_true ((vm_o1 (vr_dO D)).mp (Classical.not_not.mp h1))).symm
                have hd := vm_do7 hk (a := x.toBitVec) (b := y.toBitVec) har (by omega) (by omega) hs
                rw [hnk] at hd
                rw [show Int64.ofBitVec (vx_do f x.toBitVec y.toBitVec (vm_sg f x.toBitVec y.toBitVec)) = (x &&& y) from by rw [hd]; exact Int64.toBitVec_inj.mp (by rw [Int64.toBitVec_and]; rfl)] at hQ
                exact hQ
              · refine jv_Wp.bys (q := ((vl_I f.n) = Int32.ofInt 6)) (fun h21 => ?_) (fun h21 => ?_)
                · refine jv_Wp.lift (fun _ Kz => jv_Ev.br jv_i382 (pc' := 154) (st' := []) rfl (by rw [h21]; rfl) Kz) ?_
                  refine jv_Wp.lift (fun _ Kz => jv_Ev.steps jv_i382 3 (pc' := 158) (l' := [(11, .int (y &&& ((64 : Int32) - (1 : Int32)).toInt64).toInt32), (9, .long y), (7, .long x), (6, .int (1 : Int32)), (0, .ref 178), (1, .long x), (3, .long y), (5, .int (64 : Int32))]) (st' := [.long (x <<< ((y &&& ((64 : Int32) - (1 : Int32)).toInt64).toInt32.toInt64 &&& 63))]) rfl Kz) ?_
                  refine jv_Wp.of (jv_Ev.ret jv_i382 rfl rfl) ?_
                  have hnk : f.n = 6 := (vl_I_inj (a := f.n) (b := 6) (by omega) (by decide)).mp h21
                  have hs : true = decide (f.o = 1) := (decide_eq_true ((vm_o1 (vr_dO D)).mp (Classical.not_not.mp h1))).symm
                  have hd := vm_do7 hk (a := x.toBitVec) (b := y.toBitVec) har (by omega) (by omega) hs
                  rw [hnk] at hd
                  rw [show Int64.ofBitVec (vx_do f x.toBitVec y.toBitVec (vm_sg f x.toBitVec y.toBitVec)) = (x <<< ((y &&& ((64 : Int32) - (1 : Int32)).toInt64).toInt32.toInt64 &&& 63)) from by rw [hd]; exact Int64.toBitVec_inj.mp (vl_shl x ((vi_s63 _).trans (vm_pl63 y))).symm] at hQ
                  exact hQ
                · refine jv_Wp.bys (q := ((vl_I f.n) = Int32.ofInt 7)) (fun h22 => ?_) (fun h22 => ?_)
                  · refine jv_Wp.lift (fun _ Kz => jv_Ev.br jv_i382 (pc' := 159) (st' := []) rfl (by rw [h22]; rfl) Kz) ?_
                    refine jv_Wp.lift (fun _ Kz => jv_Ev.steps jv_i382 2 (pc' := 162) (l' := [(11, .int (y &&& ((64 : Int32) - (1 : Int32)).toInt64).toInt32), (9, .long y), (7, .long x), (6, .int (1 : Int32)), (0, .ref 178), (1, .long x), (3, .long y), (5, .int (64 : Int32))]) (st' := [.int (64 : Int32), .long x]) rfl Kz) ?_
                    refine jv_Wp.lift (fun _ Kz => jv_Ev.c jv_i382 (pc' := 165) (S' := [.long (Int64.ofBitVec ((x).toBitVec &&& vb_lowest 64))]) jv_i381 [.long x, .int (64 : Int32)] rfl rfl rfl rfl rfl rfl (vr_low64 (v := x)) rfl rfl Kz) ?_
                    refine jv_Wp.lift (fun _ Kz => jv_Ev.steps jv_i382 2 (pc' := 168) (l' := [(11, .int (y &&& ((64 : Int32) - (1 : Int32)).toInt64).toInt32), (9, .long y), (7, .long x), (6, .int (1 : Int32)), (0, .ref 178), (1, .long x), (3, .long y), (5, .int (64 : Int32))]) (st' := [.long (((Int64.ofBitVec ((x).toBitVec &&& vb_lowest 64)).toUInt64 >>> ((y &&& ((64 : Int32) - (1 : Int32)).toInt64).toInt32.toInt64.toUInt64 &&& Int64.toUInt64 63)).toInt64)]) rfl Kz) ?_
                    refine jv_Wp.of (jv_Ev.ret jv_i382 rfl rfl) ?_
                    have hnk : f.n = 7 := (vl_I_inj (a := f.n) (b := 7) (by omega) (by decide)).mp h22
                    have hs : true = decide (f.o = 1) := (decide_eq_true ((vm_o1 (vr_dO D)).mp (Classical.not_not.mp h1))).symm
                    have hd := vm_do7 hk (a := x.toBitVec) (b := y.toBitVec) har (by omega) (by omega) hs
                    rw [hnk] at hd
                    rw [show Int64.ofBitVec (vx_do f x.toBitVec y.toBitVec (vm_sg f x.toBitVec y.toBitVec)) = (((Int64.ofBitVec ((x).toBitVec &&& vb_lowest 64)).toUInt64 >>> ((y &&& ((64 : Int32) - (1 : Int32)).toInt64).toInt32.toInt64.toUInt64 &&& Int64.toUInt64 63)).toInt64) from by rw [hd, vb_low64]; exact Int64.toBitVec_inj.mp (vl_ushr x ((vi_u63 _).trans (vm_pl63 y))).symm] at hQ
                    exact hQ
                  · refine jv_Wp.bys (q := ((vl_I f.n) = Int32.ofInt 8)) (fun h23 => ?_) (fun h23 => ?_)
                    · refine jv_Wp.lift (fun _ Kz => jv_Ev.br jv_i382 (pc' := 169) (st' := []) rfl (by rw [h23]; rfl) Kz) ?_
                      refine jv_Wp.lift (fun _ Kz => jv_Ev.steps jv_i382 2 (pc' := 171) (l' := [(11, .int (y &&& ((64 : Int32) - (1 : Int32)).toInt64).toInt32), (9, .long y), (7, .long x), (6, .int (1 : Int32)), (0, .ref 178), (1, .long x), (3, .long y), (5, .int (64 : Int32))]) (st' := [.long (-x)]) rfl Kz) ?_
                      refine jv_Wp.of (jv_Ev.ret jv_i382 rfl rfl) ?_
                      have hnk : f.n = 8 := (vl_I_inj (a := f.n) (b := 8) (by omega) (by decide)).mp h23
                      have hs : true = decide (f.o = 1) := (decide_eq_true ((vm_o1 (vr_dO D)).mp (Classical.not_not.mp h1))).symm
                      have hd := vm_do7 hk (a := x.toBitVec) (b := y.toBitVec) har (by omega) (by omega) hs
                      rw [hnk] at hd
                      rw [show Int64.ofBitVec (vx_do f x.toBitVec y.toBitVec (vm_sg f x.toBitVec y.toBitVec)) = (-x) from by rw [hd]; exact Int64.toBitVec_inj.mp (by rw [Int64.toBitVec_neg]; rfl)] at hQ
                      exact hQ
                    · refine jv_Wp.bys (q := ((vl_I f.n) = Int32.ofInt 9)) (fun h24 => ?_) (fun h24 => ?_)
                      · refine jv_Wp.lift (fun _ Kz => jv_Ev.br jv_i382 (pc' := 172) (st' := []) rfl (by rw [h24]; rfl) Kz) ?_
                        refine jv_Wp.lift (fun _ Kz => jv_Ev.steps jv_i382 4 (pc' := 180) (l' := [(11, .int (y &&& ((64 : Int32) - (1 : Int32)).toInt64).toInt32), (9, .long y), (7, .long x), (6, .int (1 : Int32)), (0, .ref 178), (1, .long x), (3, .long y), (5, .int (64 : Int32))]) (st' := [.int (1 : Int32), .long y, .long x, .long x]) rfl Kz) ?_
                        refine jv_Wp.lift (fun _ Kz => jv_Ev.c jv_i382 (pc' := 183) (S' := [.long (Int64.ofBitVec ((x).toBitVec.sdiv (y).toBitVec)), .long x]) jv_i378 [.long x, .long y, .int (1 : Int32)] rfl rfl rfl rfl rfl rfl (vr_quot1 (a := x) (b := y)) rfl rfl Kz) ?_
                        refine jv_Wp.lift (fun _ Kz => jv_Ev.steps jv_i382 3 (pc' := 187) (l' := [(11, .int (y &&& ((64 : Int32) - (1 : Int32)).toInt64).toInt32), (9, .long y), (7, .long x), (6, .int (1 : Int32)), (0, .ref 178), (1, .long x), (3, .long y), (5, .int (64 : Int32))]) (st' := [.long (x - ((Int64.ofBitVec ((x).toBitVec.sdiv (y).toBitVec)) * y))]) rfl Kz) ?_
                        refine jv_Wp.of (jv_Ev.ret jv_i382 rfl rfl) ?_
                        have hnk : f.n = 9 := (vl_I_inj (a := f.n) (b := 9) (by omega) (by decide)).mp h24
                        have hs : true = decide (f.o = 1) := (decide_eq_true ((vm_o1 (vr_dO D)).mp (Classical.not_not.mp h1))).symm
                        have hd := vm_do7 hk (a := x.toBitVec) (b := y.toBitVec) har (by omega) (by omega) hs
                        rw [hnk] at hd
                        rw [show Int64.ofBitVec (vx_do f x.toBitVec y.toBitVec (vm_sg f x.toBitVec y.toBitVec)) = (x - ((Int64.ofBitVec ((x).toBitVec.sdiv (y).toBitVec)) * y)) from by rw [hd]; exact Int64.toBitVec_inj.mp (by rw [Int64.toBitVec_sub, Int64.toBitVec_mul]; rfl)] at hQ
                        exact hQ
                      · refine jv_Wp.bys (q := ((vl_I f.n) = Int32.ofInt 10)) (fun h25 => ?_) (fun h25 => ?_)
                        · refine jv_Wp.lift (fun _ Kz => jv_Ev.br jv_i382 (pc' := 188) (st' := []) rfl (by rw [h25]; rfl) Kz) ?_
                          refine jv_Wp.lift (fun _ Kz => jv_Ev.steps jv_i382 3 (pc' := 191) (l' := [(11, .int (y &&& ((64 : Int32) - (1 : Int32)).toInt64).toInt32), (9, .long y), (7, .long x), (6, .int (1 : Int32)), (0, .ref 178), (1, .long x), (3, .long y), (5, .int (64 : Int32))]) (st' := [.long (x ^^^ y)]) rfl Kz) ?_
                          refine jv_Wp.of (jv_Ev.ret jv_i382 rfl rfl) ?_
                          have hnk : f.n = 10 := (vl_I_inj (a := f.n) (b := 10) (by omega) (by decide)).mp h25
                          have hs : true = decide (f.o = 1) := (decide_eq_true ((vm_o1 (vr_dO D)).mp (Classical.not_not.mp h1))).symm
                          have hd := vm_do7 hk (a := x.toBitVec) (b := y.toBitVec) har (by omega) (by omega) hs
                          rw [hnk] at hd
                          rw [show Int64.ofBitVec (vx_do f x.toBitVec y.toBitVec (vm_sg f x.toBitVec y.toBitVec)) = (x ^^^ y) from by rw [hd]; exact Int64.toBitVec_inj.mp (by rw [Int64.toBitVec_xor]; rfl)] at hQ
                          exact hQ
                        · refine jv_Wp.bys (q := ((vl_I f.n) = Int32.ofInt 11)) (fun h26 => ?_) (fun h26 => ?_)
                          · refine jv_Wp.lift (fun _ Kz => jv_Ev.br jv_i382 (pc' := 192) (st' := []) rfl (by rw [h26]; rfl) Kz) ?_
                            refine jv_Wp.lift (fun _ Kz => jv_Ev.steps jv_i382 1 (pc' := 193) (l' := [(11, .int (y &&& ((64 : Int32) - (1 : Int32)).toInt64).toInt32), (9, .long y), (7, .long x), (6, .int (1 : Int32)), (0, .ref 178), (1, .long x), (3, .long y), (5, .int (64 : Int32))]) (st' := [.ref 178]) rfl Kz) ?_
                            refine jv_Wp.lift (fun _ Kz => jv_Ev.m jv_i382 (pc' := 196) (st' := [.int (Int32.ofInt f.o)]) (G' := (jv_H K I L R)) rfl rfl (jv_m_getI (jv_rwK hW 178 14 31 (by decide)) rfl rfl (vm_d_o D)) Kz) ?_
                            refine jv_Wp.cnd jv_i382 (pt := 203) (pe := 199) (p := (¬ (Int32.ofInt f.o) = 0)) (q := (¬ (Int32.ofInt f.o) = 0)) rfl jv_bi_ne rfl rfl Iff.rfl (fun h27 => ?_) (fun h27 => ?_)
                            · refine jv_Wp.lift (fun _ Kz => jv_Ev.steps jv_i382 2 (pc' := 205) (l' := [(11, .int (y &&& ((64 : Int32) - (1 : Int32)).toInt64).toInt32), (9, .long y), (7, .long x), (6, .int (1 : Int32)), (0, .ref 178), (1, .long x), (3, .long y), (5, .int (64 : Int32))]) (st' := [.ref 178, .long y]) rfl Kz) ?_
                              refine jv_Wp.lift (fun _ Kz => jv_Ev.m jv_i382 (pc' := 208) (st' := [.int (Int32.ofInt f.o), .long y]) (G' := (jv_H K I L R)) rfl rfl (jv_m_getI (jv_rwK hW 178 14 31 (by decide)) rfl rfl (vm_d_o D)) Kz) ?_
                              refine jv_Wp.lift (fun _ Kz => jv_Ev.c jv_i382 (pc' := 211) (S' := [.long (Int64.ofBitVec (vm_sx (y).toBitVec f.o.toNat))]) jv_i380 [.long y, .int (Int32.ofInt f.o)] rfl rfl rfl rfl rfl rfl (hS ((vl_I_inj (a := f.n) (b := 11) (by omega) (by decide)).mp (by assumption)) (by assumption)) rfl rfl Kz) ?_
                              refine jv_Wp.of (jv_Ev.ret jv_i382 rfl rfl) ?_
                              have hnk : f.n = 11 := (vl_I_inj (a := f.n) (b := 11) (by omega) (by decide)).mp h26
                              have hs : true = decide (f.o = 1) := (decide_eq_true ((vm_o1 (vr_dO D)).mp (Classical.not_not.mp h1))).symm
                              exact absurd (of_decide_eq_true hs.symm) (fun z => by have := har.2.2.2.1 hnk; omega)
                            · refine jv_Wp.lift (fun _ Kz => jv_Ev.steps jv_i382 2 (pc' := 211) (l' := [(11, .int (y &&& ((64 : Int32) - (1 : Int32)).toInt64).toInt32), (9, .long y), (7, .long x), (6, .int (1 : Int32)), (0, .ref 178), (1, .long x), (3, .long y), (5, .int (64 : Int32))]) (st' := [.long y]) rfl Kz) ?_
                              refine jv_Wp.of (jv_Ev.ret jv_i382 rfl rfl) ?_
                              have hnk : f.n = 11 := (vl_I_inj (a := f.n) (b := 11) (by omega) (by decide)).mp h26
                              have hs : true = decide (f.o = 1) := (decide_eq_true ((vm_o1 (vr_dO D)).mp (Classical.not_not.mp h1))).symm
                              exact absurd (of_decide_eq_true hs.symm) (fun z => by have := har.2.2.2.1 hnk; omega)
                          · refine jv_Wp.lift (fun _ Kz => jv_Ev.br jv_i382 (pc' := 212) (st' := []) rfl (jv_tsw_def (fun i hi h => by match i, hi, h with 
                                  | 0, _, h => exact absurd h (jv_ne_toInt (k := 0) h15) 
                                  | 1, _, h => exact absurd h (jv_ne_toInt (k := 1) h16) 
                                  | 2, _, h => exact absurd h (jv_ne_toInt (k := 2) h17) 
                                  | 3, _, h => exact absurd h (jv_ne_toInt (k := 3) h18) 
                                  | 4, _, h => exact absurd h (jv_ne_toInt (k := 4) h19) 
                                  | 5, _, h => exact absurd h (jv_ne_toInt (k := 5) h20) 
                                  | 6, _, h => exact absurd h (jv_ne_toInt (k := 6) h21) 
                                  | 7, _, h => exact absurd h (jv_ne_toInt (k := 7) h22) 
                                  | 8, _, h => exact absurd h (jv_ne_toInt (k := 8) h23) 
                                  | 9, _, h => exact absurd h (jv_ne_toInt (k := 9) h24) 
                                  | 10, _, h => exact absurd h (jv_ne_toInt (k := 10) h25) 
                                  | 11, _, h => exact absurd h (jv_ne_toInt (k := 11) h26) 
                                  | i + 12, hi, _ => exact absurd hi (by simp)) rfl) Kz) ?_
                            refine jv_Wp.lift (fun _ Kz => jv_Ev.steps jv_i382 3 (pc' := 216) (l' := [(11, .int (y &&& ((64 : Int32) - (1 : Int32)).toInt64).toInt32), (9, .long y), (7, .long x), (6, .int (1 : Int32)), (0, .ref 178), (1, .long x), (3, .long y), (5, .int (64 : Int32))]) (st' := [.long (x >>> ((y &&& ((64 : Int32) - (1 : Int32)).toInt64).toInt32.toInt64 &&& 63))]) rfl Kz) ?_
                            refine jv_Wp.of (jv_Ev.ret jv_i382 rfl rfl) ?_
                            have e0 : ¬ f.n = 0 := (fun z => h15 ((vl_I_inj (a := f.n) (b := 0) (by omega) (by decide)).mpr z))
                            have e1 : ¬ f.n = 1 := (fun z => h16 ((vl_I_inj (a := f.n) (b := 1) (by omega) (by decide)).mpr z))
                            have e2 : ¬ f.n = 2 := (fun z => h17 ((vl_I_inj (a := f.n) (b := 2) (by omega) (by decide)).mpr z))
                            have e3 : ¬ f.n = 3 := (fun z => h18 ((vl_I_inj (a := f.n) (b := 3) (by omega) (by decide)).mpr z))
                            have e4 : ¬ f.n = 4 := (fun z => h19 ((vl_I_inj (a := f.n) (b := 4) (by omega) (by decide)).mpr z))
                            have e5 : ¬ f.n = 5 := (fun z => h20 ((vl_I_inj (a := f.n) (b := 5) (by omega) (by decide)).mpr z))
                            have e6 : ¬ f.n = 6 := (fun z => h21 ((vl_I_inj (a := f.n) (b := 6) (by omega) (by decide)).mpr z))
                            have e7 : ¬ f.n = 7 := (fun z => h22 ((vl_I_inj (a := f.n) (b := 7) (by omega) (by decide)).mpr z))
                            have e8 : ¬ f.n = 8 := (fun z => h23 ((vl_I_inj (a := f.n) (b := 8) (by omega) (by decide)).mpr z))
                            have e9 : ¬ f.n = 9 := (fun z => h24 ((vl_I_inj (a := f.n) (b := 9) (by omega) (by decide)).mpr z))
                            have e10 : ¬ f.n = 10 := (fun z => h25 ((vl_I_inj (a := f.n) (b := 10) (by omega) (by decide)).mpr z))
                            have e11 : ¬ f.n = 11 := (fun z => h26 ((vl_I_inj (a := f.n) (b := 11) (by omega) (by decide)).mpr z))
                            have hnk : f.n = 12 := by have := har.1; omega
                            have hs : true = decide (f.o = 1) := (decide_eq_true ((vm_o1 (vr_dO D)).mp (Classical.not_not.mp h1))).symm
                            have hd := vm_do7 hk (a := x.toBitVec) (b := y.toBitVec) har (by omega) (by omega) hs
                            rw [hnk] at hd
                            rw [show Int64.ofBitVec (vx_do f x.toBitVec y.toBitVec (vm_sg f x.toBitVec y.toBitVec)) = (x >>> ((y &&& ((64 : Int32) - (1 : Int32)).toInt64).toInt32.toInt64 &&& 63)) from by rw [hd]; exact Int64.toBitVec_inj.mp (vl_sshr x ((vi_s63 _).trans (vm_pl63 y))).symm] at hQ
                            exact hQ
theorem vr_reck64 {K : Nat → Option (Nat × Nat)} {I : Nat → Nat → Int32} {L : Nat → Nat → Int64} {R : Nat → Nat → Value} (hW : jv_rW K R) {f : vf_F} (D : vm_D I f) (har : vf_ar f) (h13 : f.n ≠ 13) (hk : f.kind = 7) {x y : Int64} {n sl : Nat} : jv_Ms 382 [.ref 178, .long x, .long y, .int (64 : Int32)] (jv_H K I L R) n sl (some (.long (Int64.ofBitVec (vx_do f x.toBitVec y.toBitVec (vm_sg f x.toBitVec y.toBitVec)))), jv_H K I L R, n, sl) := by
  obtain ⟨X, k, e⟩ := vr_reck64_0 (n := n) (sl := sl) (L := L) (x := x) (y := y) (Q := fun X => X = (some (.long (Int64.ofBitVec (vx_do f x.toBitVec y.toBitVec (vm_sg f x.toBitVec y.toBitVec)))), jv_H K I L R, n, sl)) hW D har h13 hk rfl
  subst e
  exact k
theorem vr_reck32_0 {K : Nat → Option (Nat × Nat)} {I : Nat → Nat → Int32} {L : Nat → Nat → Int64} {R : Nat → Nat → Value} (hW : jv_rW K R) {f : vf_F} (D : vm_D I f) (har : vf_ar f) (h13 : f.n ≠ 13) (hk : ¬ f.kind = 7) {x y : BitVec 64} {n sl : Nat} {Q : jv_R → Prop} (hQ : ∀ v : Int64, v.toBitVec &&& vb_lowest 32 = vx_do f x y (vm_sg f x y) → Q (some (.long v), jv_H K I L R, n, sl)) : jv_Wp 382 0 [(0, .ref 178), (1, .long (Int64.ofBitVec (vm_sx x 32))), (3, .long (Int64.ofBitVec (vm_sx y 32))), (5, .int (32 : Int32))] [] (jv_H K I L R) n sl Q := by
  have hn256 : f.n < 256 := by have : f.n = f.code / 16 := rfl; have := vr_dc D; omega
  have hS : f.n = 11 → ¬ (Int32.ofInt f.o) = 0 → jv_Ms 380 [.long (Int64.ofBitVec (vm_sx y 32)), .int (Int32.ofInt f.o)] (jv_H K I L R) n sl (some (.long (Int64.ofBitVec (vm_sx ((Int64.ofBitVec (vm_sx y 32))).toBitVec f.o.toNat))), jv_H K I L R, n, sl) := fun h11 hz => vr_signedO D har h11 hz
  refine jv_Wp.lift (fun _ Kz => jv_Ev.steps jv_i382 1 (pc' := 1) (l' := [(0, .ref 178), (1, .long (Int64.ofBitVec (vm_sx x 32))), (3, .long (Int64.ofBitVec (vm_sx y 32))), (5, .int (32 : Int32))]) (st' := [.ref 178]) rfl Kz) ?_
  refine jv_Wp.lift (fun _ Kz => jv_Ev.m jv_i382 (pc' := 4) (st' := [.int (Int32.ofInt f.o)]) (G' := (jv_H K I L R)) rfl rfl (jv_m_getI (jv_rwK hW 178 14 31 (by decide)) rfl rfl (vm_d_o D)) Kz) ?_
  refine jv_Wp.lift (fun _ Kz => jv_Ev.steps jv_i382 1 (pc' := 5) (l' := [(0, .ref 178), (1, .long (Int64.ofBitVec (vm_sx x 32))), (3, .long (Int64.ofBitVec (vm_sx y 32))), (5, .int (32 : Int32))]) (st' := [.int (1 : Int32), .int (Int32.ofInt f.o)]) rfl Kz) ?_
  refine jv_Wp.cnd jv_i382 (pt := 12) (pe := 8) (p := (¬ (Int32.ofInt f.o) = (1 : Int32))) (q := (¬ (Int32.ofInt f.o) = (1 : Int32))) rfl jv_bc_ne rfl rfl Iff.rfl (fun h1 => ?_) (fun h1 => ?_)
  · refine jv_Wp.lift (fun _ Kz => jv_Ev.steps jv_i382 3 (pc' := 17) (l' := [(6, .int (0 : Int32)), (0, .ref 178), (1, .long (Int64.ofBitVec (vm_sx x 32))), (3, .long (Int64.ofBitVec (vm_sx y 32))), (5, .int (32 : Int32))]) (st' := [.int (0 : Int32)]) rfl Kz) ?_
    refine jv_Wp.lift (fun _ Kz => jv_Ev.br jv_i382 (pc' := 24) (st' := []) rfl (by rfl) Kz) ?_
    refine jv_Wp.lift (fun _ Kz => jv_Ev.steps jv_i382 2 (pc' := 27) (l' := [(6, .int (0 : Int32)), (0, .ref 178), (1, .long (Int64.ofBitVec (vm_sx x 32))), (3, .long (Int64.ofBitVec (vm_sx y 32))), (5, .int (32 : Int32))]) (st' := [.int (32 : Int32), .long (Int64.ofBitVec (vm_sx x 32))]) rfl Kz) ?_
    refine jv_Wp.lift (fun _ Kz => jv_Ev.c jv_i382 (pc' := 30) (S' := [.long (Int64.ofBitVec (((Int64.ofBitVec (vm_sx x 32))).toBitVec &&& vb_lowest 32))]) jv_i381 [.long (Int64.ofBitVec (vm_sx x 32)), .int (32 : Int32)] rfl rfl rfl rfl rfl rfl (vr_low32 (v := (Int64.ofBitVec (vm_sx x 32)))) rfl rfl Kz) ?_
    refine jv_Wp.lift (fun _ Kz => jv_Ev.steps jv_i382 2 (pc' := 34) (l' := [(7, .long (Int64.ofBitVec (((Int64.ofBitVec (vm_sx x 32))).toBitVec &&& vb_lowest 32))), (6, .int (0 : Int32)), (0, .ref 178), (1, .long (Int64.ofBitVec (vm_sx x 32))), (3, .long (Int64.ofBitVec (vm_sx y 32))), (5, .int (32 : Int32))]) (st' := [.int (0 : Int32)]) rfl Kz) ?_
    refine jv_Wp.lift (fun _ Kz => jv_Ev.br jv_i382 (pc' := 41) (st' := []) rfl (by rfl) Kz) ?_
    refine jv_Wp.lift (fun _ Kz => jv_Ev.steps jv_i382 2 (pc' := 44) (l' := [(7, .long (Int64.ofBitVec (((Int64.ofBitVec (vm_sx x 32))).toBitVec &&& vb_lowest 32))), (6, .int (0 : Int32)), (0, .ref 178), (1, .long (Int64.ofBitVec (vm_sx x 32))), (3, .long (Int64.ofBitVec (vm_sx y 32))), (5, .int (32 : Int32))]) (st' := [.int (32 : Int32), .long (Int64.ofBitVec (vm_sx y 32))]) rfl Kz) ?_
    refine jv_Wp.lift (fun _ Kz => jv_Ev.c jv_i382 (pc' := 47) (S' := [.long (Int64.ofBitVec (((Int64.ofBitVec (vm_sx y 32))).toBitVec &&& vb_lowest 32))]) jv_i381 [.long (Int64.ofBitVec (vm_sx y 32)), .int (32 : Int32)] rfl rfl rfl rfl rfl rfl (vr_low32 (v := (Int64.ofBitVec (vm_sx y 32)))) rfl rfl Kz) ?_
    refine jv_Wp.lift (fun _ Kz => jv_Ev.steps jv_i382 10 (pc' := 60) (l' := [(11, .int ((Int64.ofBitVec (vm_sx y 32)) &&& ((32 : Int32) - (1 : Int32)).toInt64).toInt32), (9, .long (Int64.ofBitVec (((Int64.ofBitVec (vm_sx y 32))).toBitVec &&& vb_lowest 32))), (7, .long (Int64.ofBitVec (((Int64.ofBitVec (vm_sx x 32))).toBitVec &&& vb_lowest 32))), (6, .int (0 : Int32)), (0, .ref 178), (1, .long (Int64.ofBitVec (vm_sx x 32))), (3, .long (Int64.ofBitVec (vm_sx y 32))), (5, .int (32 : Int32))]) (st' := [.ref 178]) rfl Kz) ?_
    refine jv_Wp.lift (fun _ Kz => jv_Ev.c jv_i382 (pc' := 63) (S' := [.int (vl_I f.n)]) jv_i386 [.ref 178] rfl rfl rfl rfl (jv_cal rfl (jv_H_at (jv_rwK hW 178 14 31 (by decide))) rfl rfl) rfl (vr_mn hW D) rfl rfl Kz) ?_
    refine jv_Wp.bys (q := ((vl_I f.n) = Int32.ofInt 0)) (fun h2 => ?_) (fun h2 => ?_)
    · refine jv_Wp.lift (fun _ Kz => jv_Ev.br jv_i382 (pc' := 124) (st' := []) rfl (by rw [h2]; rfl) Kz) ?_
      refine jv_Wp.lift (fun _ Kz => jv_Ev.steps jv_i382 3 (pc' := 127) (l' := [(11, .int ((Int64.ofBitVec (vm_sx y 32)) &&& ((32 : Int32) - (1 : Int32)).toInt64).toInt32), (9, .long (Int64.ofBitVec (((Int64.ofBitVec (vm_sx y 32))).toBitVec &&& vb_lowest 32))), (7, .long (Int64.ofBitVec (((Int64.ofBitVec (vm_sx x 32))).toBitVec &&& vb_lowest 32))), (6, .int (0 : Int32)), (0, .ref 178), (1, .long (Int64.ofBitVec (vm_sx x 32))), (3, .long (Int64.ofBitVec (vm_sx y 32))), (5, .int (32 : Int32))]) (st' := [.long ((Int64.ofBitVec (vm_sx x 32)) + (Int64.ofBitVec (vm_sx y 32)))]) rfl Kz) ?_
      refine jv_Wp.of (jv_Ev.ret jv_i382 rfl rfl) ?_
      have hnk : f.n = 0 := (vl_I_inj (a := f.n) (b := 0) (by omega) (by decide)).mp h2
      have hs : false = decide (f.o = 1) := (decide_eq_false (fun z => h1 ((vm_o1 (vr_dO D)).mpr z))).symm
      have hd := vm_do4 hk (a := x) (b := y) har (by omega) (by omega) hs
      rw [hnk] at hd
      refine hQ _ ?_
      rw [hd]
      rw [vm_ci_n (by decide) (by decide) (by decide) (by decide), ← vm_r32, ← vm_r32, Int64.toBitVec_add]
      rfl
    · refine jv_Wp.bys (q := ((vl_I f.n) = Int32.ofInt 1)) (fun h3 => ?_) (fun h3 => ?_)
      · refine jv_Wp.lift (fun _ Kz => jv_Ev.br jv_i382 (pc' := 128) (st' := []) rfl (by rw [h3]; rfl) Kz) ?_
        refine jv_Wp.lift (fun _ Kz => jv_Ev.steps jv_i382 3 (pc' := 131) (l' := [(11, .int ((Int64.ofBitVec (vm_sx y 32)) &&& ((32 : Int32) - (1 : Int32)).toInt64).toInt32), (9, .long (Int64.ofBitVec (((Int64.ofBitVec (vm_sx y 32))).toBitVec &&& vb_lowest 32))), (7, .long (Int64.ofBitVec (((Int64.ofBitVec (vm_sx x 32))).toBitVec &&& vb_lowest 32))), (6, .int (0 : Int32)), (0, .ref 178), (1, .long (Int64.ofBitVec (vm_sx x 32))), (3, .long (Int64.ofBitVec (vm_sx y 32))), (5, .int (32 : Int32))]) (st' := [.long ((Int64.ofBitVec (vm_sx x 32)) - (Int64.ofBitVec (vm_sx y 32)))]) rfl Kz) ?_
        refine jv_Wp.of (jv_Ev.ret jv_i382 rfl rfl) ?_
        have hnk : f.n = 1 := (vl_I_inj (a := f.n) (b := 1) (by omega) (by decide)).mp h3
        have hs : false = decide (f.o = 1) := (decide_eq_false (fun z => h1 ((vm_o1 (vr_dO D)).mpr z))).symm
        have hd := vm_do4 hk (a := x) (b := y) har (by omega) (by omega) hs
        rw [hnk] at hd
        refine hQ _ ?_
        rw [hd]
        rw [vm_ci_n (by decide) (by decide) (by decide) (by decide), ← vm_r32, ← vm_r32, Int64.toBitVec_sub]
        rfl
      · refine jv_Wp.bys (q := ((vl_I f.n) = Int32.ofInt 2)) (fun h4 => ?_) (fun h4 => ?_)
        · refine jv_Wp.lift (fun _ Kz => jv_Ev.br jv_i382 (pc' := 132) (st' := []) rfl (by rw [h4]; rfl) Kz) ?_
          refine jv_Wp.lift (fun _ Kz => jv_Ev.steps jv_i382 3 (pc' := 135) (l' := [(11, .int ((Int64.ofBitVec (vm_sx y 32)) &&& ((32 : Int32) - (1 : Int32)).toInt64).toInt32), (9, .long (Int64.ofBitVec (((Int64.ofBitVec (vm_sx y 32))).toBitVec &&& vb_lowest 32))), (7, .long (Int64.ofBitVec (((Int64.ofBitVec (vm_sx x 32))).toBitVec &&& vb_lowest 32))), (6, .int (0 : Int32)), (0, .ref 178), (1, .long (Int64.ofBitVec (vm_sx x 32))), (3, .long (Int64.ofBitVec (vm_sx y 32))), (5, .int (32 : Int32))]) (st' := [.long ((Int64.ofBitVec (vm_sx x 32)) * (Int64.ofBitVec (vm_sx y 32)))]) rfl Kz) ?_
          refine jv_Wp.of (jv_Ev.ret jv_i382 rfl rfl) ?_
          have hnk : f.n = 2 := (vl_I_inj (a := f.n) (b := 2) (by omega) (by decide)).mp h4
          have hs : false = decide (f.o = 1) := (decide_eq_false (fun z => h1 ((vm_o1 (vr_dO D)).mpr z))).symm
          have hd := vm_do4 hk (a := x) (b := y) har (by omega) (by omega) hs
          rw [hnk] at hd
          refine hQ _ ?_
          rw [hd]
          rw [vm_ci_n (by decide) (by decide) (by decide) (by decide), ← vm_r32, ← vm_r32, Int64.toBitVec_mul]
          rfl
        · refine jv_Wp.bys (q := ((vl_I f.n) = Int32.ofInt 3)) (fun h5 => ?_) (fun h5 => ?_)
          · refine jv_Wp.lift (fun _ Kz => jv_Ev.br jv_i382 (pc' := 136) (st' := []) rfl (by rw [h5]; rfl) Kz) ?_
            refine jv_Wp.lift (fun _ Kz => jv_Ev.steps jv_i382 3 (pc' := 142) (l' := [(11, .int ((Int64.ofBitVec (vm_sx y 32)) &&& ((32 : Int32) - (1 : Int32)).toInt64).toInt32), (9, .long (Int64.ofBitVec (((Int64.ofBitVec (vm_sx y 32))).toBitVec &&& vb_lowest 32))), (7, .long (Int64.ofBitVec (((Int64.ofBitVec (vm_sx x 32))).toBitVec &&& vb_lowest 32))), (6, .int (0 : Int32)), (0, .ref 178), (1, .long (Int64.ofBitVec (vm_sx x 32))), (3, .long (Int64.ofBitVec (vm_sx y 32))), (5, .int (32 : Int32))]) (st' := [.int (0 : Int32), .long (Int64.ofBitVec (((Int64.ofBitVec (vm_sx y 32))).toBitVec &&& vb_lowest 32)), .long (Int64.ofBitVec (((Int64.ofBitVec (vm_sx x 32))).toBitVec &&& vb_lowest 32))]) rfl Kz) ?_
            refine jv_Wp.lift (fun _ Kz => jv_Ev.c jv_i382 (pc' := 145) (S' := [.long (Int64.ofBitVec (((Int64.ofBitVec (((Int64.ofBitVec (vm_sx x 32))).toBitVec &&& vb_lowest 32))).toBitVec / ((Int64.ofBitVec (((Int64.ofBitVec (vm_sx y 32))).toBitVec &&& vb_lowest 32))).toBitVec))]) jv_i378 [.long (Int64.ofBitVec (((Int64.ofBitVec (vm_sx x 32))).toBitVec &&& vb_lowest 32)), .long (Int64.ofBitVec (((Int64.ofBitVec (vm_sx y 32))).toBitVec &&& vb_lowest 32)), .int (0 : Int32)] rfl rfl rfl rfl rfl rfl (vr_quot0 (a := (Int64.ofBitVec (((Int64.ofBitVec (vm_sx x 32))).toBitVec &&& vb_lowest 32))) (b := (Int64.ofBitVec (((Int64.ofBitVec (vm_sx y 32))).toBitVec &&& vb_lowest 32)))) rfl rfl Kz) ?_
            refine jv_Wp.of (jv_Ev.ret jv_i382 rfl rfl) ?_
            have hnk : f.n = 3 := (vl_I_inj (a := f.n) (b := 3) (by omega) (by decide)).mp h5
            have hs : false = decide (f.o = 1) := (decide_eq_false (fun z => h1 ((vm_o1 (vr_dO D)).mpr z))).symm
            have hd := vm_do4 hk (a := x) (b := y) har (by omega) (by omega) hs
            rw [hnk] at hd
            refine hQ _ ?_
            rw [hd]
            unfold vm_ci
            rw [if_neg (by decide), if_neg (by decide), if_neg (by decide), if_pos ⟨by decide, rfl⟩, ← vm_r32, ← vm_r32]
            rfl
          · refine jv_Wp.bys (q := ((vl_I f.n) = Int32.ofInt 4)) (fun h6 => ?_) (fun h6 => ?_)
            · refine jv_Wp.lift (fun _ Kz => jv_Ev.br jv_i382 (pc' := 146) (st' := []) rfl (by rw [h6]; rfl) Kz) ?_
              refine jv_Wp.lift (fun _ Kz => jv_Ev.steps jv_i382 3 (pc' := 149) (l' := [(11, .int ((Int64.ofBitVec (vm_sx y 32)) &&& ((32 : Int32) - (1 : Int32)).toInt64).toInt32), (9, .long (Int64.ofBitVec (((Int64.ofBitVec (vm_sx y 32))).toBitVec &&& vb_lowest 32))), (7, .long (Int64.ofBitVec (((Int64.ofBitVec (vm_sx x 32))).toBitVec &&& vb_lowest 32))), (6, .int (0 : Int32)), (0, .ref 178), (1, .long (Int64.ofBitVec (vm_sx x 32))), (3, .long (Int64.ofBitVec (vm_sx y 32))), (5, .int (32 : Int32))]) (st' := [.long ((Int64.ofBitVec (vm_sx x 32)) ||| (Int64.ofBitVec (vm_sx y 32)))]) rfl Kz) ?_
              refine jv_Wp.of (jv_Ev.ret jv_i382 rfl rfl) ?_
              have hnk : f.n = 4 := (vl_I_inj (a := f.n) (b := 4) (by omega) (by decide)).mp h6
              have hs : false = decide (f.o = 1) := (decide_eq_false (fun z => h1 ((vm_o1 (vr_dO D)).mpr z))).symm
              have hd := vm_do4 hk (a := x) (b := y) har (by omega) (by omega) hs
              rw [hnk] at hd
              refine hQ _ ?_
              rw [hd]
              rw [vm_ci_n (by decide) (by decide) (by decide) (by decide), ← vm_r32, ← vm_r32, Int64.toBitVec_or]
              rfl
            · refine jv_Wp.bys (q := ((vl_I f.n) = Int32.ofInt 5)) (fun h7 => ?_) (fun h7 => ?_)
              · refine jv_Wp.lift (fun _ Kz => jv_Ev.br jv_i382 (pc' := 150) (st' := []) rfl (by rw [h7]; rfl) Kz) ?_
                refine jv_Wp.lift (fun _ Kz => jv_Ev.steps jv_i382 3 (pc' := 153) (l' := [(11, .int ((Int64.ofBitVec (vm_sx y 32)) &&& ((32 : Int32) - (1 : Int32)).toInt64).toInt32), (9, .long (Int64.ofBitVec (((Int64.ofBitVec (vm_sx y 32))).toBitVec &&& vb_lowest 32))), (7, .long (Int64.ofBitVec (((Int64.ofBitVec (vm_sx x 32))).toBitVec &&& vb_lowest 32))), (6, .int (0 : Int32)), (0, .ref 178), (1, .long (Int64.ofBitVec (vm_sx x 32))), (3, .long (Int64.ofBitVec (vm_sx y 32))), (5, .int (32 : Int32))]) (st' := [.long ((Int64.ofBitVec (vm_sx x 32)) &&& (Int64.ofBitVec (vm_sx y 32)))]) rfl Kz) ?_
                refine jv_Wp.of (jv_Ev.ret jv_i382 rfl rfl) ?_
                have hnk : f.n = 5 := (vl_I_inj (a := f.n) (b := 5) (by omega) (by decide)).mp h7
                have hs : false = decide (f.o = 1) := (decide_eq_false (fun z => h1 ((vm_o1 (vr_dO D)).mpr z))).symm
                have hd := vm_do4 hk (a := x) (b := y) har (by omega) (by omega) hs
                rw [hnk] at hd
                refine hQ _ ?_
                rw [hd]
                rw [vm_ci_n (by decide) (by decide) (by decide) (by decide), ← vm_r32, ← vm_r32, Int64.toBitVec_and]
                rfl
              · refine jv_Wp.bys (q := ((vl_I f.n) = Int32.ofInt 6)) (fun h8 => ?_) (fun h8 => ?_)
                · refine jv_Wp.lift (fun _ Kz => jv_Ev.br jv_i382 (pc' := 154) (st' := []) rfl (by rw [h8]; rfl) Kz) ?_
                  refine jv_Wp.lift (fun _ Kz => jv_Ev.steps jv_i382 3 (pc' := 158) (l' := [(11, .int ((Int64.ofBitVec (vm_sx y 32)) &&& ((32 : Int32) - (1 : Int32)).toInt64).toInt32), (9, .long (Int64.ofBitVec (((Int64.ofBitVec (vm_sx y 32))).toBitVec &&& vb_lowest 32))), (7, .long (Int64.ofBitVec (((Int64.ofBitVec (vm_sx x 32))).toBitVec &&& vb_lowest 32))), (6, .int (0 : Int32)), (0, .ref 178), (1, .long (Int64.ofBitVec (vm_sx x 32))), (3, .long (Int64.ofBitVec (vm_sx y 32))), (5, .int (32 : Int32))]) (st' := [.long ((Int64.ofBitVec (vm_sx x 32)) <<< (((Int64.ofBitVec (vm_sx y 32)) &&& ((32 : Int32) - (1 : Int32)).toInt64).toInt32.toInt64 &&& 63))]) rfl Kz) ?_
                  refine jv_Wp.of (jv_Ev.ret jv_i382 rfl rfl) ?_
                  have hnk : f.n = 6 := (vl_I_inj (a := f.n) (b := 6) (by omega) (by decide)).mp h8
                  have hs : false = decide (f.o = 1) := (decide_eq_false (fun z => h1 ((vm_o1 (vr_dO D)).mpr z))).symm
                  have hd := vm_do4 hk (a := x) (b := y) har (by omega) (by omega) hs
                  rw [hnk] at hd
                  refine hQ _ ?_
                  rw [hd]
                  unfold vm_ci
                  rw [if_pos rfl, vl_shl _ ((vi_s63 _).trans (vm_pl31 _))]
                  refine vb_lo_eq ?_
                  rw [vb_lo_se]
                  show _ = _
                  show (vm_sx x 32 <<< ((vm_sx y 32).toNat % 32)).setWidth 32 = _
                  rw [vm_r32n y, BitVec.setWidth_shiftLeft_of_le (by decide), vm_r32 x, vb_lo_se]
                · refine jv_Wp.bys (q := ((vl_I f.n) = Int32.ofInt 7)) (fun h9 => ?_) (fun h9 => ?_)
                  · refine jv_Wp.lift (fun _ Kz => jv_Ev.br jv_i382 (pc' := 159) (st' := []) rfl (by rw [h9]; rfl) Kz) ?_
                    refine jv_Wp.lift (fun _ Kz => jv_Ev.steps jv_i382 2 (pc' := 162) (l' := [(11, .int ((Int64.ofBitVec (vm_sx y 32)) &&& ((32 : Int32) - (1 : Int32)).toInt64).toInt32), (9, .long (Int64.ofBitVec (((Int64.ofBitVec (vm_sx y 32))).toBitVec &&& vb_lowest 32))), (7, .long (Int64.ofBitVec (((Int64.ofBitVec (vm_sx x 32))).toBitVec &&& vb_lowest 32))), (6, .int (0 : Int32)), (0, .ref 178), (1, .long (Int64.ofBitVec (vm_sx x 32))), (3, .long (Int64.ofBitVec (vm_sx y 32))), (5, .int (32 : Int32))]) (st' := [.int (32 : Int32), .long (Int64.ofBitVec (vm_sx x 32))]) rfl Kz) ?_
                    refine jv_Wp.lift (fun _ Kz => jv_Ev.c jv_i382 (pc' := 165) (S' := [.long (Int64.ofBitVec (((Int64.ofBitVec (vm_sx x 32))).toBitVec &&& vb_lowest 32))]) jv_i381 [.long (Int64.ofBitVec (vm_sx x 32)), .int (32 : Int32)] rfl rfl rfl rfl rfl rfl (vr_low32 (v := (Int64.ofBitVec (vm_sx x 32)))) rfl rfl Kz) ?_
                    refine jv_Wp.lift (fun _ Kz => jv_Ev.steps jv_i382 2 (pc' := 168) (l' := [(11, .int ((Int64.ofBitVec (vm_sx y 32)) &&& ((32 : Int32) - (1 : Int32)).toInt64).toInt32), (9, .long (Int64.ofBitVec (((Int64.ofBitVec (vm_sx y 32))).toBitVec &&& vb_lowest 32))), (7, .long (Int64.ofBitVec (((Int64.ofBitVec (vm_sx x 32))).toBitVec &&& vb_lowest 32))), (6, .int (0 : Int32)), (0, .ref 178), (1, .long (Int64.ofBitVec (vm_sx x 32))), (3, .long (Int64.ofBitVec (vm_sx y 32))), (5, .int (32 : Int32))]) (st' := [.long (((Int64.ofBitVec (((Int64.ofBitVec (vm_sx x 32))).toBitVec &&& vb_lowest 32)).toUInt64 >>> (((Int64.ofBitVec (vm_sx y 32)) &&& ((32 : Int32) - (1 : Int32)).toInt64).toInt32.toInt64.toUInt64 &&& Int64.toUInt64 63)).toInt64)]) rfl Kz) ?_
                    refine jv_Wp.of (jv_Ev.ret jv_i382 rfl rfl) ?_
                    have hnk : f.n = 7 := (vl_I_inj (a := f.n) (b := 7) (by omega) (by decide)).mp h9
                    have hs : false = decide (f.o = 1) := (decide_eq_false (fun z => h1 ((vm_o1 (vr_dO D)).mpr z))).symm
                    have hd := vm_do4 hk (a := x) (b := y) har (by omega) (by omega) hs
                    rw [hnk] at hd
                    refine hQ _ ?_
                    rw [hd]
                    unfold vm_ci
                    rw [if_neg (by decide), if_pos rfl, vl_ushr _ ((vi_u63 _).trans (vm_pl31 _))]
                    refine vb_lo_eq ?_
                    rw [vb_lo_se]
                    show _ = _
                    show ((vm_sx x 32 &&& vb_lowest 32) >>> ((vm_sx y 32).toNat % 32)).setWidth 32 = _
                    rw [vm_r32n y, vm_r32 x, vb_se_lo]
                    exact vm_sh7 x _
                  · refine jv_Wp.bys (q := ((vl_I f.n) = Int32.ofInt 8)) (fun h10 => ?_) (fun h10 => ?_)
                    · refine jv_Wp.lift (fun _ Kz => jv_Ev.br jv_i382 (pc' := 169) (st' := []) rfl (by rw [h10]; rfl) Kz) ?_
                      refine jv_Wp.lift (fun _ Kz => jv_Ev.steps jv_i382 2 (pc' := 171) (l' := [(11, .int ((Int64.ofBitVec (vm_sx y 32)) &&& ((32 : Int32) - (1 : Int32)).toInt64).toInt32), (9, .long (Int64.ofBitVec (((Int64.ofBitVec (vm_sx y 32))).toBitVec &&& vb_lowest 32))), (7, .long (Int64.ofBitVec (((Int64.ofBitVec (vm_sx x 32))).toBitVec &&& vb_lowest 32))), (6, .int (0 : Int32)), (0, .ref 178), (1, .long (Int64.ofBitVec (vm_sx x 32))), (3, .long (Int64.ofBitVec (vm_sx y 32))), (5, .int (32 : Int32))]) (st' := [.long (-(Int64.ofBitVec (vm_sx x 32)))]) rfl Kz) ?_
                      refine jv_Wp.of (jv_Ev.ret jv_i382 rfl rfl) ?_
                      have hnk : f.n = 8 := (vl_I_inj (a := f.n) (b := 8) (by omega) (by decide)).mp h10
                      have hs : false = decide (f.o = 1) := (decide_eq_false (fun z => h1 ((vm_o1 (vr_dO D)).mpr z))).symm
                      have hd := vm_do4 hk (a := x) (b := y) har (by omega) (by omega) hs
                      rw [hnk] at hd
                      refine hQ _ ?_
                      rw [hd]
                      rw [vm_ci_n (by decide) (by decide) (by decide) (by decide), ← vm_r32, ← vm_r32, Int64.toBitVec_neg]
                      rfl
                    · refine jv_Wp.bys (q := ((vl_I f.n) = Int32.ofInt 9)) (fun h11 => ?_) (fun h11 => ?_)
                      · refine jv_Wp.lift (fun _ Kz => jv_Ev.br jv_i382 (pc' := 172) (st' := []) rfl (by rw [h11]; rfl) Kz) ?_
                        refine jv_Wp.lift (fun _ Kz => jv_Ev.steps jv_i382 4 (pc' := 180) (l' := [(11, .int ((Int64.ofBitVec (vm_sx y 32)) &&& ((32 : Int32) - (1 : Int32)).toInt64).toInt32), (9, .long (Int64.ofBitVec (((Int64.ofBitVec (vm_sx y 32))).toBitVec &&& vb_lowest 32))), (7, .long (Int64.ofBitVec (((Int64.ofBitVec (vm_sx x 32))).toBitVec &&& vb_lowest 32))), (6, .int (0 : Int32)), (0, .ref 178), (1, .long (Int64.ofBitVec (vm_sx x 32))), (3, .long (Int64.ofBitVec (vm_sx y 32))), (5, .int (32 : Int32))]) (st' := [.int (0 : Int32), .long (Int64.ofBitVec (((Int64.ofBitVec (vm_sx y 32))).toBitVec &&& vb_lowest 32)), .long (Int64.ofBitVec (((Int64.ofBitVec (vm_sx x 32))).toBitVec &&& vb_lowest 32)), .long (Int64.ofBitVec (((Int64.ofBitVec (vm_sx x 32))).toBitVec &&& vb_lowest 32))]) rfl Kz) ?_
                        refine jv_Wp.lift (fun _ Kz => jv_Ev.c jv_i382 (pc' := 183) (S' := [.long (Int64.ofBitVec (((Int64.ofBitVec (((Int64.ofBitVec (vm_sx x 32))).toBitVec &&& vb_lowest 32))).toBitVec / ((Int64.ofBitVec (((Int64.ofBitVec (vm_sx y 32))).toBitVec &&& vb_lowest 32))).toBitVec)), .long (Int64.ofBitVec (((Int64.ofBitVec (vm_sx x 32))).toBitVec &&& vb_lowest 32))]) jv_i378 [.long (Int64.ofBitVec (((Int64.ofBitVec (vm_sx x 32))).toBitVec &&& vb_lowest 32)), .long (Int64.ofBitVec (((Int64.ofBitVec (vm_sx y 32))).toBitVec &&& vb_lowest 32)), .int (0 : Int32)] rfl rfl rfl rfl rfl rfl (vr_quot0 (a := (Int64.ofBitVec (((Int64.ofBitVec (vm_sx x 32))).toBitVec &&& vb_lowest 32))) (b := (Int64.ofBitVec (((Int64.ofBitVec (vm_sx y 32))).toBitVec &&& vb_lowest 32)))) rfl rfl Kz) ?_
                        refine jv_Wp.lift (fun _ Kz => jv_Ev.steps jv_i382 3 (pc' := 187) (l' := [(11, .int ((Int64.ofBitVec (vm_sx y 32)) &&& ((32 : Int32) - (1 : Int32)).toInt64).toInt32), (9, .long (Int64.ofBitVec (((Int64.ofBitVec (vm_sx y 32))).toBitVec &&& vb_lowest 32))), (7, .long (Int64.ofBitVec (((Int64.ofBitVec (vm_sx x 32))).toBitVec &&& vb_lowest 32))), (6, .int (0 : Int32)), (0, .ref 178), (1, .long (Int64.ofBitVec (vm_sx x 32))), (3, .long (Int64.ofBitVec (vm_sx y 32))), (5, .int (32 : Int32))]) (st' := [.long ((Int64.ofBitVec (((Int64.ofBitVec (vm_sx x 32))).toBitVec &&& vb_lowest 32)) - ((Int64.ofBitVec (((Int64.ofBitVec (((Int64.ofBitVec (vm_sx x 32))).toBitVec &&& vb_lowest 32))).toBitVec / ((Int64.ofBitVec (((Int64.ofBitVec (vm_sx y 32))).toBitVec &&& vb_lowest 32))).toBitVec)) * (Int64.ofBitVec (((Int64.ofBitVec (vm_sx y 32))).toBitVec &&& vb_lowest 32))))]) rfl Kz) ?_
                        refine jv_Wp.of (jv_Ev.ret jv_i382 rfl rfl) ?_
                        have hnk : f.n = 9 := (vl_I_inj (a := f.n) (b := 9) (by omega) (by decide)).mp h11
                        have hs : false = decide (f.o = 1) := (decide_eq_false (fun z => h1 ((vm_o1 (vr_dO D)).mpr z))).symm
                        have hd := vm_do4 hk (a := x) (b := y) har (by omega) (by omega) hs
                        rw [hnk] at hd
                        refine hQ _ ?_
                        rw [hd]
                        unfold vm_ci
                        rw [if_neg (by decide), if_neg (by decide), if_neg (by decide), if_pos ⟨by decide, rfl⟩, ← vm_r32, ← vm_r32]
                        rw [Int64.toBitVec_sub, Int64.toBitVec_mul]
                        refine congrArg (fun z => z &&& vb_lowest 32) ?_
                        exact (vb_rest _ _)
                      · refine jv_Wp.bys (q := ((vl_I f.n) = Int32.ofInt 10)) (fun h12 => ?_) (fun h12 => ?_)
                        · refine jv_Wp.lift (fun _ Kz => jv_Ev.br jv_i382 (pc' := 188) (st' := []) rfl (by rw [h12]; rfl) Kz) ?_
                          refine jv_Wp.lift (fun _ Kz => jv_Ev.steps jv_i382 3 (pc' := 191) (l' := [(11, .int ((Int64.ofBitVec (vm_sx y 32)) &&& ((32 : Int32) - (1 : Int32)).toInt64).toInt32), (9, .long (Int64.ofBitVec (((Int64.ofBitVec (vm_sx y 32))).toBitVec &&& vb_lowest 32))), (7, .long (Int64.ofBitVec (((Int64.ofBitVec (vm_sx x 32))).toBitVec &&& vb_lowest 32))), (6, .int (0 : Int32)), (0, .ref 178), (1, .long (Int64.ofBitVec (vm_sx x 32))), (3, .long (Int64.ofBitVec (vm_sx y 32))), (5, .int (32 : Int32))]) (st' := [.long ((Int64.ofBitVec (vm_sx x 32)) ^^^ (Int64.ofBitVec (vm_sx y 32)))]) rfl Kz) ?_
                          refine jv_Wp.of (jv_Ev.ret jv_i382 rfl rfl) ?_
                          have hnk : f.n = 10 := (vl_I_inj (a := f.n) (b := 10) (by omega) (by decide)).mp h12
                          have hs : false = decide (f.o = 1) := (decide_eq_false (fun z => h1 ((vm_o1 (vr_dO D)).mpr z))).symm
                          have hd := vm_do4 hk (a := x) (b := y) har (by omega) (by omega) hs
                          rw [hnk] at hd
                          refine hQ _ ?_
                          rw [hd]
                          rw [vm_ci_n (by decide) (by decide) (by decide) (by decide), ← vm_r32, ← vm_r32, Int64.toBitVec_xor]
                          rfl
                        · refine jv_Wp.bys (q := ((vl_I f.n) = Int32.ofInt 11)) (fun h13 => ?_) (fun h13 => ?_)
                          · refine jv_Wp.lift (fun _ Kz => jv_Ev.br jv_i382 (pc' := 192) (st' := []) rfl (by rw [h13]; rfl) Kz) ?_
                            refine jv_Wp.lift (fun _ Kz => jv_Ev.steps jv_i382 1 (pc' := 193) (l' := [(11, .int ((Int64.ofBitVec (vm_sx y 32)) &&& ((32 : Int32) - (1 : Int32)).toInt64).toInt32), (9, .long (Int64.ofBitVec (((Int64.ofBitVec (vm_sx y 32))).toBitVec &&& vb_lowest 32))), (7, .long (Int64.ofBitVec (((Int64.ofBitVec (vm_sx x 32))).toBitVec &&& vb_lowest 32))), (6, .int (0 : Int32)), (0, .ref 178), (1, .long (Int64.ofBitVec (vm_sx x 32))), (3, .long (Int64.ofBitVec (vm_sx y 32))), (5, .int (32 : Int32))]) (st' := [.ref 178]) rfl Kz) ?_
                            refine jv_Wp.lift (fun _ Kz => jv_Ev.m jv_i382 (pc' := 196) (st' := [.int (Int32.ofInt f.o)]) (G' := (jv_H K I L R)) rfl rfl (jv_m_getI (jv_rwK hW 178 14 31 (by decide)) rfl rfl (vm_d_o D)) Kz) ?_
                            refine jv_Wp.cnd jv_i382 (pt := 203) (pe := 199) (p := (¬ (Int32.ofInt f.o) = 0)) (q := (¬ (Int32.ofInt f.o) = 0)) rfl jv_bi_ne rfl rfl Iff.rfl (fun h14 => ?_) (fun h14 => ?_)
                            · refine jv_Wp.lift (fun _ Kz => jv_Ev.steps jv_i382 2 (pc' := 205) (l' := [(11, .int ((Int64.ofBitVec (vm_sx y 32)) &&& ((32 : Int32) - (1 : Int32)).toInt64).toInt32), (9, .long (Int64.ofBitVec (((Int64.ofBitVec (vm_sx y 32))).toBitVec &&& vb_lowest 32))), (7, .long (Int64.ofBitVec (((Int64.ofBitVec (vm_sx x 32))).toBitVec &&& vb_lowest 32))), (6, .int (0 : Int32)), (0, .ref 178), (1, .long (Int64.ofBitVec (vm_sx x 32))), (3, .long (Int64.ofBitVec (vm_sx y 32))), (5, .int (32 : Int32))]) (st' := [.ref 178, .long (Int64.ofBitVec (vm_sx y 32))]) rfl Kz) ?_
                              refine jv_Wp.lift (fun _ Kz => jv_Ev.m jv_i382 (pc' := 208) (st' := [.int (Int32.ofInt f.o), .long (Int64.ofBitVec (vm_sx y 32))]) (G' := (jv_H K I L R)) rfl rfl (jv_m_getI (jv_rwK hW 178 14 31 (by decide)) rfl rfl (vm_d_o D)) Kz) ?_
                              refine jv_Wp.lift (fun _ Kz => jv_Ev.c jv_i382 (pc' := 211) (S' := [.long (Int64.ofBitVec (vm_sx ((Int64.ofBitVec (vm_sx y 32))).toBitVec f.o.toNat))]) jv_i380 [.long (Int64.ofBitVec (vm_sx y 32)), .int (Int32.ofInt f.o)] rfl rfl rfl rfl rfl rfl (hS ((vl_I_inj (a := f.n) (b := 11) (by omega) (by decide)).mp (by assumption)) (by assumption)) rfl rfl Kz) ?_
                              refine jv_Wp.of (jv_Ev.ret jv_i382 rfl rfl) ?_
                              have hnk : f.n = 11 := (vl_I_inj (a := f.n) (b := 11) (by omega) (by decide)).mp h13
                              have hs : false = decide (f.o = 1) := (decide_eq_false (fun z => h1 ((vm_o1 (vr_dO D)).mpr z))).symm
                              have ho0 : ¬ f.o = 0 := fun z => h14 (Int32.toInt_inj.mp (by rw [vr_dO D, z]; rfl))
                              have ho3 : f.o.toNat = 8 ∨ f.o.toNat = 16 ∨ f.o.toNat = 32 := by have := har.2.2.2.1 hnk ho0; omega
                              refine hQ _ ?_
                              rw [vm_do4m hk hnk, if_neg ho0]
                              show vm_sx (vm_sx y 32) f.o.toNat &&& _ = _
                              rw [vm_low_o ho3]
                            · refine jv_Wp.lift (fun _ Kz => jv_Ev.steps jv_i382 2 (pc' := 211) (l' := [(11, .int ((Int64.ofBitVec (vm_sx y 32)) &&& ((32 : Int32) - (1 : Int32)).toInt64).toInt32), (9, .long (Int64.ofBitVec (((Int64.ofBitVec (vm_sx y 32))).toBitVec &&& vb_lowest 32))), (7, .long (Int64.ofBitVec (((Int64.ofBitVec (vm_sx x 32))).toBitVec &&& vb_lowest 32))), (6, .int (0 : Int32)), (0, .ref 178), (1, .long (Int64.ofBitVec (vm_sx x 32))), (3, .long (Int64.ofBitVec (vm_sx y 32))), (5, .int (32 : Int32))]) (st' := [.long (Int64.ofBitVec (vm_sx y 32))]) rfl Kz) ?_
                              refine jv_Wp.of (jv_Ev.ret jv_i382 rfl rfl) ?_
                              have hnk : f.n = 11 := (vl_I_inj (a := f.n) (b := 11) (by omega) (by decide)).mp h13
                              have hs : false = decide (f.o = 1) := (decide_eq_false (fun z => h1 ((vm_o1 (vr_dO D)).mpr z))).symm
                              have ho0 : f.o = 0 := by have z := congrArg Int32.toInt (Classical.not_not.mp h14); rw [vr_dO D] at z; exact z
                              refine hQ _ ?_
                              rw [vm_do4m hk hnk, if_pos ho0]
                              show vm_sx y 32 &&& _ = _
                              rw [vm_r32]
                              exact vb_se_lo y
                          · refine jv_Wp.lift (fun _ Kz => jv_Ev.br jv_i382 (pc' := 212) (st' := []) rfl (jv_tsw_def (fun i hi h => by match i, hi, h with 
                                  | 0, _, h => exact absurd h (jv_ne_toInt (k := 0) h2) 
                                  | 1, _, h => exact absurd h (jv_ne_toInt (k := 1) h3) 
                                  | 2, _, h => exact absurd h (jv_ne_toInt (k := 2) h4) 
                                  | 3, _, h => exact absurd h (jv_ne_toInt (k := 3) h5) 
                                  | 4, _, h => exact absurd h (jv_ne_toInt (k := 4) h6) 
                                  | 5, _, h => exact absurd h (jv_ne_toInt (k := 5) h7) 
                                  | 6, _, h => exact absurd h (jv_ne_toInt (k := 6) h8) 
                                  | 7, _, h => exact absurd h (jv_ne_toInt (k := 7) h9) 
                                  | 8, _, h => exact absurd h (jv_ne_toInt (k := 8) h10) 
                                  | 9, _, h => exact absurd h (jv_ne_toInt (k := 9) h11) 
                                  | 10, _, h => exact absurd h (jv_ne_toInt (k := 10) h12) 
                                  | 11, _, h => exact absurd h (jv_ne_toInt (k := 11) h13) 
                                  | i + 12, hi, _ => exact absurd hi (by simp)) rfl) Kz) ?_
                            refine jv_Wp.lift (fun _ Kz => jv_Ev.steps jv_i382 3 (pc' := 216) (l' := [(11, .int ((Int64.ofBitVec (vm_sx y 32)) &&& ((32 : Int32) - (1 : Int32)).toInt64).toInt32), (9, .long (Int64.ofBitVec (((Int64.ofBitVec (vm_sx y 32))).toBitVec &&& vb_lowest 32))), (7, .long (Int64.ofBitVec (((Int64.ofBitVec (vm_sx x 32))).toBitVec &&& vb_lowest 32))), (6, .int (0 : Int32)), (0, .ref 178), (1, .long (Int64.ofBitVec (vm_sx x 32))), (3, .long (Int64.ofBitVec (vm_sx y 32))), (5, .int (32 : Int32))]) (st' := [.long ((Int64.ofBitVec (vm_sx x 32)) >>> (((Int64.ofBitVec (vm_sx y 32)) &&& ((32 : Int32) - (1 : Int32)).toInt64).toInt32.toInt64 &&& 63))]) rfl Kz) ?_
                            refine jv_Wp.of (jv_Ev.ret jv_i382 rfl rfl) ?_
                            have e0 : ¬ f.n = 0 := (fun z => h2 ((vl_I_inj (a := f.n) (b := 0) (by omega) (by decide)).mpr z))
                            have e1 : ¬ f.n = 1 := (fun z => h3 ((vl_I_inj (a := f.n) (b := 1) (by omega) (by decide)).mpr z))
                            have e2 : ¬ f.n = 2 := (fun z => h4 ((vl_I_inj (a := f.n) (b := 2) (by omega) (by decide)).mpr z))
                            have e3 : ¬ f.n = 3 := (fun z => h5 ((vl_I_inj (a := f.n) (b := 3) (by omega) (by decide)).mpr z))
                            have e4 : ¬ f.n = 4 := (fun z => h6 ((vl_I_inj (a := f.n) (b := 4) (by omega) (by decide)).mpr z))
                            have e5 : ¬ f.n = 5 := (fun z => h7 ((vl_I_inj (a := f.n) (b := 5) (by omega) (by decide)).mpr z))
                            have e6 : ¬ f.n = 6 := (fun z => h8 ((vl_I_inj (a := f.n) (b := 6) (by omega) (by decide)).mpr z))
                            have e7 : ¬ f.n = 7 := (fun z => h9 ((vl_I_inj (a := f.n) (b := 7) (by omega) (by decide)).mpr z))
                            have e8 : ¬ f.n = 8 := (fun z => h10 ((vl_I_inj (a := f.n) (b := 8) (by omega) (by decide)).mpr z))
                            have e9 : ¬ f.n = 9 := (fun z => h11 ((vl_I_inj (a := f.n) (b := 9) (by omega) (by decide)).mpr z))
                            have e10 : ¬ f.n = 10 := (fun z => h12 ((vl_I_inj (a := f.n) (b := 10) (by omega) (by decide)).mpr z))
                            have e11 : ¬ f.n = 11 := (fun z => h13 ((vl_I_inj (a := f.n) (b := 11) (by omega) (by decide)).mpr z))
                            have hnk : f.n = 12 := by have := har.1; omega
                            have hs : false = decide (f.o = 1) := (decide_eq_false (fun z => h1 ((vm_o1 (vr_dO D)).mpr z))).symm
                            have hd := vm_do4 hk (a := x) (b := y) har (by omega) (by omega) hs
                            rw [hnk] at hd
                            refine hQ _ ?_
                            rw [hd]
                            unfold vm_ci
                            rw [if_neg (by decide), if_neg (by decide), if_pos rfl, vl_sshr _ ((vi_s63 _).trans (vm_pl31 _))]
                            refine vb_lo_eq ?_
                            rw [vb_lo_se]
                            show _ = _
                            show ((vm_sx x 32).sshiftRight ((vm_sx y 32).toNat % 32)).setWidth 32 = _
                            rw [vm_r32n y, vm_r32 x]
                            exact vm_sh12 _ (Nat.mod_lt _ (by decide))
  · refine jv_Wp.lift (fun _ Kz => jv_Ev.steps jv_i382 4 (pc' := 17) (l' := [(6, .int (1 : Int32)), (0, .ref 178), (1, .long (Int64.ofBitVec (vm_sx x 32))), (3, .long (Int64.ofBitVec (vm_sx y 32))), (5, .int (32 : Int32))]) (st' := [.int (1 : Int32)]) rfl Kz) ?_
    refine jv_Wp.lift (fun _ Kz => jv_Ev.br jv_i382 (pc' := 20) (st' := []) rfl (by rfl) Kz) ?_
    refine jv_Wp.lift (fun _ Kz => jv_Ev.steps jv_i382 4 (pc' := 34) (l' := [(7, .long (Int64.ofBitVec (vm_sx x 32))), (6, .int (1 : Int32)), (0, .ref 178), (1, .long (Int64.ofBitVec (vm_sx x 32))), (3, .long (Int64.ofBitVec (vm_sx y 32))), (5, .int (32 : Int32))]) (st' := [.int (1 : Int32)]) rfl Kz) ?_
    refine jv_Wp.lift (fun _ Kz => jv_Ev.br jv_i382 (pc' := 37) (st' := []) rfl (by rfl) Kz) ?_
    refine jv_Wp.lift (fun _ Kz => jv_Ev.steps jv_i382 12 (pc' := 60) (l' := [(11, .int ((Int64.ofBitVec (vm_sx y 32)) &&& ((32 : Int32) - (1 : Int32)).toInt64).toInt32), (9, .long (Int64.ofBitVec (vm_sx y 32))), (7, .long (Int64.ofBitVec (vm_sx x 32))), (6, .int (1 : Int32)), (0, .ref 178), (1, .long (Int64.ofBitVec (vm_sx x 32))), (3, .long (Int64.ofBitVec (vm_sx y 32))), (5, .int (32 : Int32))]) (st' := [.ref 178]) rfl Kz) ?_
    refine jv_Wp.lift (fun _ Kz => jv_Ev.c jv_i382 (pc' := 63) (S' := [.int (vl_I f.n)]) jv_i386 [.ref 178] rfl rfl rfl rfl (jv_cal rfl (jv_H_at (jv_rwK hW 178 14 31 (by decide))) rfl rfl) rfl (vr_mn hW D) rfl rfl Kz) ?_
    refine jv_Wp.bys (q := ((vl_I f.n) = Int32.ofInt 0)) (fun h15 => ?_) (fun h15 => ?_)
    · refine jv_Wp.lift (fun _ Kz => jv_Ev.br jv_i382 (pc' := 124) (st' := []) rfl (by rw [h15]; rfl) Kz) ?_
      refine jv_Wp.lift (fun _ Kz => jv_Ev.steps jv_i382 3 (pc' := 127) (l' := [(11, .int ((Int64.ofBitVec (vm_sx y 32)) &&& ((32 : Int32) - (1 : Int32)).toInt64).toInt32), (9, .long (Int64.ofBitVec (vm_sx y 32))), (7, .long (Int64.ofBitVec (vm_sx x 32))), (6, .int (1 : Int32)), (0, .ref 178), (1, .long (Int64.ofBitVec (vm_sx x 32))), (3, .long (Int64.ofBitVec (vm_sx y 32))), (5, .int (32 : Int32))]) (st' := [.long ((Int64.ofBitVec (vm_sx x 32)) + (Int64.ofBitVec (vm_sx y 32)))]) rfl Kz) ?_
      refine jv_Wp.of (jv_Ev.ret jv_i382 rfl rfl) ?_
      have hnk : f.n = 0 := (vl_I_inj (a := f.n) (b := 0) (by omega) (by decide)).mp h15
      have hs : true = decide (f.o = 1) := (decide_eq_true ((vm_o1 (vr_dO D)).mp (Classical.not_not.mp h1))).symm
      have hd := vm_do4 hk (a := x) (b := y) har (by omega) (by omega) hs
      rw [hnk] at hd
      refine hQ _ ?_
      rw [hd]
      rw [vm_ci_n (by decide) (by decide) (by decide) (by decide), ← vm_r32, ← vm_r32, Int64.toBitVec_add]
      rfl
    · refine jv_Wp.bys (q := ((vl_I f.n) = Int32.ofInt 1)) (fun h16 => ?_) (fun h16 => ?_)
      · refine jv_Wp.lift (fun _ Kz => jv_Ev.br jv_i382 (pc' := 128) (st' := []) rfl (by rw [h16]; rfl) Kz) ?_
        refine jv_Wp.lift (fun _ Kz => jv_Ev.steps jv_i382 3 (pc' := 131) (l' := [(11, .int ((Int64.ofBitVec (vm_sx y 32)) &&& ((32 : Int32) - (1 : Int32)).toInt64).toInt32), (9, .long (Int64.ofBitVec (vm_sx y 32))), (7, .long (Int64.ofBitVec (vm_sx x 32))), (6, .int (1 : Int32)), (0, .ref 178), (1, .long (Int64.ofBitVec (vm_sx x 32))), (3, .long (Int64.ofBitVec (vm_sx y 32))), (5, .int (32 : Int32))]) (st' := [.long ((Int64.ofBitVec (vm_sx x 32)) - (Int64.ofBitVec (vm_sx y 32)))]) rfl Kz) ?_
        refine jv_Wp.of (jv_Ev.ret jv_i382 rfl rfl) ?_
        have hnk : f.n = 1 := (vl_I_inj (a := f.n) (b := 1) (by omega) (by decide)).mp h16
        have hs : true = decide (f.o = 1) := (decide_eq_true ((vm_o1 (vr_dO D)).mp (Classical.not_not.mp h1))).symm
        have hd := vm_do4 hk (a := x) (b := y) har (by omega) (by omega) hs
        rw [hnk] at hd
        refine hQ _ ?_
        rw [hd]
        rw [vm_ci_n (by decide) (by decide) (by decide) (by decide), ← vm_r32, ← vm_r32, Int64.toBitVec_sub]
        rfl
      · refine jv_Wp.bys (q := ((vl_I f.n) = Int32.ofInt 2)) (fun h17 => ?_) (fun h17 => ?_)
        · refine jv_Wp.lift (fun _ Kz => jv_Ev.br jv_i382 (pc' := 132) (st' := []) rfl (by rw [h17]; rfl) Kz) ?_
          refine jv_Wp.lift (fun _ Kz => jv_Ev.steps jv_i382 3 (pc' := 135) (l' := [(11, .int ((Int64.ofBitVec (vm_sx y 32)) &&& ((32 : Int32) - (1 : Int32)).toInt64).toInt32), (9, .long (Int64.ofBitVec (vm_sx y 32))), (7, .long (Int64.ofBitVec (vm_sx x 32))), (6, .int (1 : Int32)), (0, .ref 178), (1, .long (Int64.ofBitVec (vm_sx x 32))), (3, .long (Int64.ofBitVec (vm_sx y 32))), (5, .int (32 : Int32))]) (st' := [.long ((Int64.ofBitVec (vm_sx x 32)) * (Int64.ofBitVec (vm_sx y 32)))]) rfl Kz) ?_
          refine jv_Wp.of (jv_Ev.ret jv_i382 rfl rfl) ?_
          have hnk : f.n = 2 := (vl_I_inj (a := f.n) (b := 2) (by omega) (by decide)).mp h17
          have hs : true = decide (f.o = 1) := (decide_eq_true ((vm_o1 (vr_dO D)).mp (Classical.not_not.mp h1))).symm
          have hd := vm_do4 hk (a := x) (b := y) har (by omega) (by omega) hs
          rw [hnk] at hd
          refine hQ _ ?_
          rw [hd]
          rw [vm_ci_n (by decide) (by decide) (by decide) (by decide), ← vm_r32, ← vm_r32, Int64.toBitVec_mul]
          rfl
        · refine jv_Wp.bys (q := ((vl_I f.n) = Int32.ofInt 3)) (fun h18 => ?_) (fun h18 => ?_)
          · refine jv_Wp.lift (fun _ Kz => jv_Ev.br jv_i382 (pc' := 136) (st' := []) rfl (by rw [h18]; rfl) Kz) ?_
            refine jv_Wp.lift (fun _ Kz => jv_Ev.steps jv_i382 3 (pc' := 142) (l' := [(11, .int ((Int64.ofBitVec (vm_sx y 32)) &&& ((32 : Int32) - (1 : Int32)).toInt64).toInt32), (9, .long (Int64.ofBitVec (vm_sx y 32))), (7, .long (Int64.ofBitVec (vm_sx x 32))), (6, .int (1 : Int32)), (0, .ref 178), (1, .long (Int64.ofBitVec (vm_sx x 32))), (3, .long (Int64.ofBitVec (vm_sx y 32))), (5, .int (32 : Int32))]) (st' := [.int (1 : Int32), .long (Int64.ofBitVec (vm_sx y 32)), .long (Int64.ofBitVec (vm_sx x 32))]) rfl Kz) ?_
            refine jv_Wp.lift (fun _ Kz => jv_Ev.c jv_i382 (pc' := 145) (S' := [.long (Int64.ofBitVec (((Int64.ofBitVec (vm_sx x 32))).toBitVec.sdiv ((Int64.ofBitVec (vm_sx y 32))).toBitVec))]) jv_i378 [.long (Int64.ofBitVec (vm_sx x 32)), .long (Int64.ofBitVec (vm_sx y 32)), .int (1 : Int32)] rfl rfl rfl rfl rfl rfl (vr_quot1 (a := (Int64.ofBitVec (vm_sx x 32))) (b := (Int64.ofBitVec (vm_sx y 32)))) rfl rfl Kz) ?_
            refine jv_Wp.of (jv_Ev.ret jv_i382 rfl rfl) ?_
            have hnk : f.n = 3 := (vl_I_inj (a := f.n) (b := 3) (by omega) (by decide)).mp h18
            have hs : true = decide (f.o = 1) := (decide_eq_true ((vm_o1 (vr_dO D)).mp (Classical.not_not.mp h1))).symm
            have hd := vm_do4 hk (a := x) (b := y) har (by omega) (by omega) hs
            rw [hnk] at hd
            refine hQ _ ?_
            rw [hd]
            rw [vm_ci_n (by decide) (by decide) (by decide) (by decide), ← vm_r32, ← vm_r32]
            rfl
          · refine jv_Wp.bys (q := ((vl_I f.n) = Int32.ofInt 4)) (fun h19 => ?_) (fun h19 => ?_)
            · refine jv_Wp.lift (fun _ Kz => jv_Ev.br jv_i382 (pc' := 146) (st' := []) rfl (by rw [h19]; rfl) Kz) ?_
              refine jv_Wp.lift (fun _ Kz => jv_Ev.steps jv_i382 3 (pc' := 149) (l' := [(11, .int ((Int64.ofBitVec (vm_sx y 32)) &&& ((32 : Int32) - (1 : Int32)).toInt64).toInt32), (9, .long (Int64.ofBitVec (vm_sx y 32))), (7, .long (Int64.ofBitVec (vm_sx x 32))), (6, .int (1 : Int32)), (0, .ref 178), (1, .long (Int64.ofBitVec (vm_sx x 32))), (3, .long (Int64.ofBitVec (vm_sx y 32))), (5, .int (32 : Int32))]) (st' := [.long ((Int64.ofBitVec (vm_sx x 32)) ||| (Int64.ofBitVec (vm_sx y 32)))]) rfl Kz) ?_
              refine jv_Wp.of (jv_Ev.ret jv_i382 rfl rfl) ?_
              have hnk : f.n = 4 := (vl_I_inj (a := f.n) (b := 4) (by omega) (by decide)).mp h19
              have hs : true = decide (f.o = 1) := (decide_eq_true ((vm_o1 (vr_dO D)).mp (Classical.not_not.mp h1))).symm
              have hd := vm_do4 hk (a := x) (b := y) har (by omega) (by omega) hs
              rw [hnk] at hd
              refine hQ _ ?_
              rw [hd]
              rw [vm_ci_n (by decide) (by decide) (by decide) (by decide), ← vm_r32, ← vm_r32, Int64.toBitVec_or]
              rfl
            · refine jv_Wp.bys (q := ((vl_I f.n) = Int32.ofInt 5)) (fun h20 => ?_) (fun h20 => ?_)
              · refine jv_Wp.lift (fun _ Kz => jv_Ev.br jv_i382 (pc' := 150) (st' := []) rfl (by rw [h20]; rfl) Kz) ?_
                refine jv_Wp.lift (fun _ Kz => jv_Ev.steps jv_i382 3 (pc' := 153) (l' := [(11, .int ((Int64.ofBitVec (vm_sx y 32)) &&& ((32 : Int32) - (1 : Int32)).toInt64).toInt32), (9, .long (Int64.ofBitVec (vm_sx y 32))), (7, .long (Int64.ofBitVec (vm_sx x 32))), (6, .int (1 : Int32)), (0, .ref 178), (1, .long (Int64.ofBitVec (vm_sx x 32))), (3, .long (Int64.ofBitVec (vm_sx y 32))), (5, .int (32 : Int32))]) (st' := [.long ((Int64.ofBitVec (vm_sx x 32)) &&& (Int64.ofBitVec (vm_sx y 32)))]) rfl Kz) ?_
                refine jv_Wp.of (jv_Ev.ret jv_i382 rfl rfl) ?_
                have hnk : f.n = 5 := (vl_I_inj (a := f.n) (b := 5) (by omega) (by decide)).mp h20
                have hs : true = decide (f.o = 1) := (decide_eq_true ((vm_o1 (vr_dO D)).mp (Classical.not_not.mp h1))).symm
                have hd := vm_do4 hk (a := x) (b := y) har (by omega) (by omega) hs
                rw [hnk] at hd
                refine hQ _ ?_
                rw [hd]
                rw [vm_ci_n (by decide) (by decide) (by decide) (by decide), ← vm_r32, ← vm_r32, Int64.toBitVec_and]
                rfl
              · refine jv_Wp.bys (q := ((vl_I f.n) = Int32.ofInt 6)) (fun h21 => ?_) (fun h21 => ?_)
                · refine jv_Wp.lift (fun _ Kz => jv_Ev.br jv_i382 (pc' := 154) (st' := []) rfl (by rw [h21]; rfl) Kz) ?_
                  refine jv_Wp.lift (fun _ Kz => jv_Ev.steps jv_i382 3 (pc' := 158) (l' := [(11, .int ((Int64.ofBitVec (vm_sx y 32)) &&& ((32 : Int32) - (1 : Int32)).toInt64).toInt32), (9, .long (Int64.ofBitVec (vm_sx y 32))), (7, .long (Int64.ofBitVec (vm_sx x 32))), (6, .int (1 : Int32)), (0, .ref 178), (1, .long (Int64.ofBitVec (vm_sx x 32))), (3, .long (Int64.ofBitVec (vm_sx y 32))), (5, .int (32 : Int32))]) (st' := [.long ((Int64.ofBitVec (vm_sx x 32)) <<< (((Int64.ofBitVec (vm_sx y 32)) &&& ((32 : Int32) - (1 : Int32)).toInt64).toInt32.toInt64 &&& 63))]) rfl Kz) ?_
                  refine jv_Wp.of (jv_Ev.ret jv_i382 rfl rfl) ?_
                  have hnk : f.n = 6 := (vl_I_inj (a := f.n) (b := 6) (by omega) (by decide)).mp h21
                  have hs : true = decide (f.o = 1) := (decide_eq_true ((vm_o1 (vr_dO D)).mp (Classical.not_not.mp h1))).symm
                  have hd := vm_do4 hk (a := x) (b := y) har (by omega) (by omega) hs
                  rw [hnk] at hd
                  refine hQ _ ?_
                  rw [hd]
                  unfold vm_ci
                  rw [if_pos rfl, vl_shl _ ((vi_s63 _).trans (vm_pl31 _))]
                  refine vb_lo_eq ?_
                  rw [vb_lo_se]
                  show _ = _
                  show (vm_sx x 32 <<< ((vm_sx y 32).toNat % 32)).setWidth 32 = _
                  rw [vm_r32n y, BitVec.setWidth_shiftLeft_of_le (by decide), vm_r32 x, vb_lo_se]
                · refine jv_Wp.bys (q := ((vl_I f.n) = Int32.ofInt 7)) (fun h22 => ?_) (fun h22 => ?_)
                  · refine jv_Wp.lift (fun _ Kz => jv_Ev.br jv_i382 (pc' := 159) (st' := []) rfl (by rw [h22]; rfl) Kz) ?_
                    refine jv_Wp.lift (fun _ Kz => jv_Ev.steps jv_i382 2 (pc' := 162) (l' := [(11, .int ((Int64.ofBitVec (vm_sx y 32)) &&& ((32 : Int32) - (1 : Int32)).toInt64).toInt32), (9, .long (Int64.ofBitVec (vm_sx y 32))), (7, .long (Int64.ofBitVec (vm_sx x 32))), (6, .int (1 : Int32)), (0, .ref 178), (1, .long (Int64.ofBitVec (vm_sx x 32))), (3, .long (Int64.ofBitVec (vm_sx y 32))), (5, .int (32 : Int32))]) (st' := [.int (32 : Int32), .long (Int64.ofBitVec (vm_sx x 32))]) rfl Kz) ?_
                    refine jv_Wp.lift (fun _ Kz => jv_Ev.c jv_i382 (pc' := 165) (S' := [.long (Int64.ofBitVec (((Int64.ofBitVec (vm_sx x 32))).toBitVec &&& vb_lowest 32))]) jv_i381 [.long (Int64.ofBitVec (vm_sx x 32)), .int (32 : Int32)] rfl rfl rfl rfl rfl rfl (vr_low32 (v := (Int64.ofBitVec (vm_sx x 32)))) rfl rfl Kz) ?_
                    refine jv_Wp.lift (fun _ Kz => jv_Ev.steps jv_i382 2 (pc' := 168) (l' := [(11, .int ((Int64.ofBitVec (vm_sx y 32)) &&& ((32 : Int32) - (1 : Int32)).toInt64).toInt32), (9, .long (Int64.ofBitVec (vm_sx y 32))), (7, .long (Int64.ofBitVec (vm_sx x 32))), (6, .int (1 : Int32)), (0, .ref 178), (1, .long (Int64.ofBitVec (vm_sx x 32))), (3, .long (Int64.ofBitVec (vm_sx y 32))), (5, .int (32 : Int32))]) (st' := [.long (((Int64.ofBitVec (((Int64.ofBitVec (vm_sx x 32))).toBitVec &&& vb_lowest 32)).toUInt64 >>> (((Int64.ofBitVec (vm_sx y 32)) &&& ((32 : Int32) - (1 : Int32)).toInt64).toInt32.toInt64.toUInt64 &&& Int64.toUInt64 63)).toInt64)]) rfl Kz) ?_
                    refine jv_Wp.of (jv_Ev.ret jv_i382 rfl rfl) ?_
                    have hnk : f.n = 7 := (vl_I_inj (a := f.n) (b := 7) (by omega) (by decide)).mp h22
                    have hs : true = decide (f.o = 1) := (decide_eq_true ((vm_o1 (vr_dO D)).mp (Classical.not_not.mp h1))).symm
                    have hd := vm_do4 hk (a := x) (b := y) har (by omega) (by omega) hs
                    rw [hnk] at hd
                    refine hQ _ ?_
                    rw [hd]
                    unfold vm_ci
                    rw [if_neg (by decide), if_pos rfl, vl_ushr _ ((vi_u63 _).trans (vm_pl31 _))]
                    refine vb_lo_eq ?_
                    rw [vb_lo_se]
                    show _ = _
                    show ((vm_sx x 32 &&& vb_lowest 32) >>> ((vm_sx y 32).toNat % 32)).setWidth 32 = _
                    rw [vm_r32n y, vm_r32 x, vb_se_lo]
                    exact vm_sh7 x _
                  · refine jv_Wp.bys (q := ((vl_I f.n) = Int32.ofInt 8)) (fun h23 => ?_) (fun h23 => ?_)
                    · refine jv_Wp.lift (fun _ Kz => jv_Ev.br jv_i382 (pc' := 169) (st' := []) rfl (by rw [h23]; rfl) Kz) ?_
                      refine jv_Wp.lift (fun _ Kz => jv_Ev.steps jv_i382 2 (pc' := 171) (l' := [(11, .int ((Int64.ofBitVec (vm_sx y 32)) &&& ((32 : Int32) - (1 : Int32)).toInt64).toInt32), (9, .long (Int64.ofBitVec (vm_sx y 32))), (7, .long (Int64.ofBitVec (vm_sx x 32))), (6, .int (1 : Int32)), (0, .ref 178), (1, .long (Int64.ofBitVec (vm_sx x 32))), (3, .long (Int64.ofBitVec (vm_sx y 32))), (5, .int (32 : Int32))]) (st' := [.long (-(Int64.ofBitVec (vm_sx x 32)))]) rfl Kz) ?_
                      refine jv_Wp.of (jv_Ev.ret jv_i382 rfl rfl) ?_
                      have hnk : f.n = 8 := (vl_I_inj (a := f.n) (b := 8) (by omega) (by decide)).mp h23
                      have hs : true = decide (f.o = 1) := (decide_eq_true ((vm_o1 (vr_dO D)).mp (Classical.not_not.mp h1))).symm
                      have hd := vm_do4 hk (a := x) (b := y) har (by omega) (by omega) hs
                      rw [hnk] at hd
                      refine hQ _ ?_
                      rw [hd]
                      rw [vm_ci_n (by decide) (by decide) (by decide) (by decide), ← vm_r32, ← vm_r32, Int64.toBitVec_neg]
                      rfl
                    · refine jv_Wp.bys (q := ((vl_I f.n) = Int32.ofInt 9)) (fun h24 => ?_) (fun h24 => ?_)
                      · refine jv_Wp.lift (fun _ Kz => jv_Ev.br jv_i382 (pc' := 172) (st' := []) rfl (by rw [h24]; rfl) Kz) ?_
                        refine jv_Wp.lift (fun _ Kz => jv_Ev.steps jv_i382 4 (pc' := 180) (l' := [(11, .int ((Int64.ofBitVec (vm_sx y 32)) &&& ((32 : Int32) - (1 : Int32)).toInt64).toInt32), (9, .long (Int64.ofBitVec (vm_sx y 32))), (7, .long (Int64.ofBitVec (vm_sx x 32))), (6, .int (1 : Int32)), (0, .ref 178), (1, .long (Int64.ofBitVec (vm_sx x 32))), (3, .long (Int64.ofBitVec (vm_sx y 32))), (5, .int (32 : Int32))]) (st' := [.int (1 : Int32), .long (Int64.ofBitVec (vm_sx y 32)), .long (Int64.ofBitVec (vm_sx x 32)), .long (Int64.ofBitVec (vm_sx x 32))]) rfl Kz) ?_
                        refine jv_Wp.lift (fun _ Kz => jv_Ev.c jv_i382 (pc' := 183) (S' := [.long (Int64.ofBitVec (((Int64.ofBitVec (vm_sx x 32))).toBitVec.sdiv ((Int64.ofBitVec (vm_sx y 32))).toBitVec)), .long (Int64.ofBitVec (vm_sx x 32))]) jv_i378 [.long (Int64.ofBitVec (vm_sx x 32)), .long (Int64.ofBitVec (vm_sx y 32)), .int (1 : Int32)] rfl rfl rfl rfl rfl rfl (vr_quot1 (a := (Int64.ofBitVec (vm_sx x 32))) (b := (Int64.ofBitVec (vm_sx y 32)))) rfl rfl Kz) ?_
                        refine jv_Wp.lift (fun _ Kz => jv_Ev.steps jv_i382 3 (pc' := 187) (l' := [(11, .int ((Int64.ofBitVec (vm_sx y 32)) &&& ((32 : Int32) - (1 : Int32)).toInt64).toInt32), (9, .long (Int64.ofBitVec (vm_sx y 32))), (7, .long (Int64.ofBitVec (vm_sx x 32))), (6, .int (1 : Int32)), (0, .ref 178), (1, .long (Int64.ofBitVec (vm_sx x 32))), (3, .long (Int64.ofBitVec (vm_sx y 32))), (5, .int (32 : Int32))]) (st' := [.long ((Int64.ofBitVec (vm_sx x 32)) - ((Int64.ofBitVec (((Int64.ofBitVec (vm_sx x 32))).toBitVec.sdiv ((Int64.ofBitVec (vm_sx y 32))).toBitVec)) * (Int64.ofBitVec (vm_sx y 32))))]) rfl Kz) ?_
                        refine jv_Wp.of (jv_Ev.ret jv_i382 rfl rfl) ?_
                        have hnk : f.n = 9 := (vl_I_inj (a := f.n) (b := 9) (by omega) (by decide)).mp h24
                        have hs : true = decide (f.o = 1) := (decide_eq_true ((vm_o1 (vr_dO D)).mp (Classical.not_not.mp h1))).symm
                        have hd := vm_do4 hk (a := x) (b := y) har (by omega) (by omega) hs
                        rw [hnk] at hd
                        refine hQ _ ?_
                        rw [hd]
                        rw [vm_ci_n (by decide) (by decide) (by decide) (by decide), ← vm_r32, ← vm_r32]
                        rw [Int64.toBitVec_sub, Int64.toBitVec_mul]
                        rfl
                      · refine jv_Wp.bys (q := ((vl_I f.n) = Int32.ofInt 10)) (fun h25 => ?_) (fun h25 => ?_)
                        · refine jv_Wp.lift (fun _ Kz => jv_Ev.br jv_i382 (pc' := 188) (st' := []) rfl (by rw [h25]; rfl) Kz) ?_
                          refine jv_Wp.lift (fun _ Kz => jv_Ev.steps jv_i382 3 (pc' := 191) (l' := [(11, .int ((Int64.ofBitVec (vm_sx y 32)) &&& ((32 : Int32) - (1 : Int32)).toInt64).toInt32), (9, .long (Int64.ofBitVec (vm_sx y 32))), (7, .long (Int64.ofBitVec (vm_sx x 32))), (6, .int (1 : Int32)), (0, .ref 178), (1, .long (Int64.ofBitVec (vm_sx x 32))), (3, .long (Int64.ofBitVec (vm_sx y 32))), (5, .int (32 : Int32))]) (st' := [.long ((Int64.ofBitVec (vm_sx x 32)) ^^^ (Int64.ofBitVec (vm_sx y 32)))]) rfl Kz) ?_
                          refine jv_Wp.of (jv_Ev.ret jv_i382 rfl rfl) ?_
                          have hnk : f.n = 10 := (vl_I_inj (a := f.n) (b := 10) (by omega) (by decide)).mp h25
                          have hs : true = decide (f.o = 1) := (decide_eq_true ((vm_o1 (vr_dO D)).mp (Classical.not_not.mp h1))).symm
                          have hd := vm_do4 hk (a := x) (b := y) har (by omega) (by omega) hs
                          rw [hnk] at hd
                          refine hQ _ ?_
                          rw [hd]
                          rw [vm_ci_n (by decide) (by decide) (by decide) (by decide), ← vm_r32, ← vm_r32, Int64.toBitVec_xor]
                          rfl
                        · refine jv_Wp.bys (q := ((vl_I f.n) = Int32.ofInt 11)) (fun h26 => ?_) (fun h26 => ?_)
                          · refine jv_Wp.lift (fun _ Kz => jv_Ev.br jv_i382 (pc' := 192) (st' := []) rfl (by rw [h26]; rfl) Kz) ?_
                            refine jv_Wp.lift (fun _ Kz => jv_Ev.steps jv_i382 1 (pc' := 193) (l' := [(11, .int ((Int64.ofBitVec (vm_sx y 32)) &&& ((32 : Int32) - (1 : Int32)).toInt64).toInt32), (9, .long (Int64.ofBitVec (vm_sx y 32))), (7, .long (Int64.ofBitVec (vm_sx x 32))), (6, .int (1 : Int32)), (0, .ref 178), (1, .long (Int64.ofBitVec (vm_sx x 32))), (3, .long (Int64.ofBitVec (vm_sx y 32))), (5, .int (32 : Int32))]) (st' := [.ref 178]) rfl Kz) ?_
                            refine jv_Wp.lift (fun _ Kz => jv_Ev.m jv_i382 (pc' := 196) (st' := [.int (Int32.ofInt f.o)]) (G' := (jv_H K I L R)) rfl rfl (jv_m_getI (jv_rwK hW 178 14 31 (by decide)) rfl rfl (vm_d_o D)) Kz) ?_
                            refine jv_Wp.cnd jv_i382 (pt := 203) (pe := 199) (p := (¬ (Int32.ofInt f.o) = 0)) (q := (¬ (Int32.ofInt f.o) = 0)) rfl jv_bi_ne rfl rfl Iff.rfl (fun h27 => ?_) (fun h27 => ?_)
                            · refine jv_Wp.lift (fun _ Kz => jv_Ev.steps jv_i382 2 (pc' := 205) (l' := [(11, .int ((Int64.ofBitVec (vm_sx y 32)) &&& ((32 : Int32) - (1 : Int32)).toInt64).toInt32), (9, .long (Int64.ofBitVec (vm_sx y 32))), (7, .long (Int64.ofBitVec (vm_sx x 32))), (6, .int (1 : Int32)), (0, .ref 178), (1, .long (Int64.ofBitVec (vm_sx x 32))), (3, .long (Int64.ofBitVec (vm_sx y 32))), (5, .int (32 : Int32))]) (st' := [.ref 178, .long (Int64.ofBitVec (vm_sx y 32))]) rfl Kz) ?_
                              refine jv_Wp.lift (fun _ Kz => jv_Ev.m jv_i382 (pc' := 208) (st' := [.int (Int32.ofInt f.o), .long (Int64.ofBitVec (vm_sx y 32))]) (G' := (jv_H K I L R)) rfl rfl (jv_m_getI (jv_rwK hW 178 14 31 (by decide)) rfl rfl (vm_d_o D)) Kz) ?_
                              refine jv_Wp.lift (fun _ Kz => jv_Ev.c jv_i382 (pc' := 211) (S' := [.long (Int64.ofBitVec (vm_sx ((Int64.ofBitVec (vm_sx y 32))).toBitVec f.o.toNat))]) jv_i380 [.long (Int64.ofBitVec (vm_sx y 32)), .int (Int32.ofInt f.o)] rfl rfl rfl rfl rfl rfl (hS ((vl_I_inj (a := f.n) (b := 11) (by omega) (by decide)).mp (by assumption)) (by assumption)) rfl rfl Kz) ?_
                              refine jv_Wp.of (jv_Ev.ret jv_i382 rfl rfl) ?_
                              have hnk : f.n = 11 := (vl_I_inj (a := f.n) (b := 11) (by omega) (by decide)).mp h26
                              have hs : true = decide (f.o = 1) := (decide_eq_true ((vm_o1 (vr_dO D)).mp (Classical.not_not.mp h1))).symm
                              exact absurd (of_decide_eq_true hs.symm) (fun z => by have := har.2.2.2.1 hnk; omega)
                            · refine jv_Wp.lift (fun _ Kz => jv_Ev.steps jv_i382 2 (pc' := 211) (l' := [(11, .int ((Int64.ofBitVec (vm_sx y 32)) &&& ((32 : Int32) - (1 : Int32)).toInt64).toInt32), (9, .long (Int64.ofBitVec (vm_sx y 32))), (7, .long (Int64.ofBitVec (vm_sx x 32))), (6, .int (1 : Int32)), (0, .ref 178), (1, .long (Int64.ofBitVec (vm_sx x 32))), (3, .long (Int64.ofBitVec (vm_sx y 32))), (5, .int (32 : Int32))]) (st' := [.long (Int64.ofBitVec (vm_sx y 32))]) rfl Kz) ?_
                              refine jv_Wp.of (jv_Ev.ret jv_i382 rfl rfl) ?_
                              have hnk : f.n = 11 := (vl_I_inj (a := f.n) (b := 11) (by omega) (by decide)).mp h26
                              have hs : true = decide (f.o = 1) := (decide_eq_true ((vm_o1 (vr_dO D)).mp (Classical.not_not.mp h1))).symm
                              exact absurd (of_decide_eq_true hs.symm) (fun z => by have := har.2.2.2.1 hnk; omega)
                          · refine jv_Wp.lift (fun _ Kz => jv_Ev.br jv_i382 (pc' := 212) (st' := []) rfl (jv_tsw_def (fun i hi h => by match i, hi, h with 
                                  | 0, _, h => exact absurd h (jv_ne_toInt (k := 0) h15) 
                                  | 1, _, h => exact absurd h (jv_ne_toInt (k := 1) h16) 
                                  | 2, _, h => exact absurd h (jv_ne_toInt (k := 2) h17) 
                                  | 3, _, h => exact absurd h (jv_ne_toInt (k := 3) h18) 
                                  | 4, _, h => exact absurd h (jv_ne_toInt (k := 4) h19) 
                                  | 5, _, h => exact absurd h (jv_ne_toInt (k := 5) h20) 
                                  | 6, _, h => exact absurd h (jv_ne_toInt (k := 6) h21) 
                                  | 7, _, h => exact absurd h (jv_ne_toInt (k := 7) h22) 
                                  | 8, _, h => exact absurd h (jv_ne_toInt (k := 8) h23) 
                                  | 9, _, h => exact absurd h (jv_ne_toInt (k := 9) h24) 
                                  | 10, _, h => exact absurd h (jv_ne_toInt (k := 10) h25) 
                                  | 11, _, h => exact absurd h (jv_ne_toInt (k := 11) h26) 
                                  | i + 12, hi, _ => exact absurd hi (by simp)) rfl) Kz) ?_
                            refine jv_Wp.lift (fun _ Kz => jv_Ev.steps jv_i382 3 (pc' := 216) (l' := [(11, .int ((Int64.ofBitVec (vm_sx y 32)) &&& ((32 : Int32) - (1 : Int32)).toInt64).toInt32), (9, .long (Int64.ofBitVec (vm_sx y 32))), (7, .long (Int64.ofBitVec (vm_sx x 32))), (6, .int (1 : Int32)), (0, .ref 178), (1, .long (Int64.ofBitVec (vm_sx x 32))), (3, .long (Int64.ofBitVec (vm_sx y 32))), (5, .int (32 : Int32))]) (st' := [.long ((Int64.ofBitVec (vm_sx x 32)) >>> (((Int64.ofBitVec (vm_sx y 32)) &&& ((32 : Int32) - (1 : Int32)).toInt64).toInt32.toInt64 &&& 63))]) rfl Kz) ?_
                            refine jv_Wp.of (jv_Ev.ret jv_i382 rfl rfl) ?_
                            have e0 : ¬ f.n = 0 := (fun z => h15 ((vl_I_inj (a := f.n) (b := 0) (by omega) (by decide)).mpr z))
                            have e1 : ¬ f.n = 1 := (fun z => h16 ((vl_I_inj (a := f.n) (b := 1) (by omega) (by decide)).mpr z))
                            have e2 : ¬ f.n = 2 := (fun z => h17 ((vl_I_inj (a := f.n) (b := 2) (by omega) (by decide)).mpr z))
                            have e3 : ¬ f.n = 3 := (fun z => h18 ((vl_I_inj (a := f.n) (b := 3) (by omega) (by decide)).mpr z))
                            have e4 : ¬ f.n = 4 := (fun z => h19 ((vl_I_inj (a := f.n) (b := 4) (by omega) (by decide)).mpr z))
                            have e5 : ¬ f.n = 5 := (fun z => h20 ((vl_I_inj (a := f.n) (b := 5) (by omega) (by decide)).mpr z))
                            have e6 : ¬ f.n = 6 := (fun z => h21 ((vl_I_inj (a := f.n) (b := 6) (by omega) (by decide)).mpr z))
                            have e7 : ¬ f.n = 7 := (fun z => h22 ((vl_I_inj (a := f.n) (b := 7) (by omega) (by decide)).mpr z))
                            have e8 : ¬ f.n = 8 := (fun z => h23 ((vl_I_inj (a := f.n) (b := 8) (by omega) (by decide)).mpr z))
                            have e9 : ¬ f.n = 9 := (fun z => h24 ((vl_I_inj (a := f.n) (b := 9) (by omega) (by decide)).mpr z))
                            have e10 : ¬ f.n = 10 := (fun z => h25 ((vl_I_inj (a := f.n) (b := 10) (by omega) (by decide)).mpr z))
                            have e11 : ¬ f.n = 11 := (fun z => h26 ((vl_I_inj (a := f.n) (b := 11) (by omega) (by decide)).mpr z))
                            have hnk : f.n = 12 := by have := har.1; omega
                            have hs : true = decide (f.o = 1) := (decide_eq_true ((vm_o1 (vr_dO D)).mp (Classical.not_not.mp h1))).symm
                            have hd := vm_do4 hk (a := x) (b := y) har (by omega) (by omega) hs
                            rw [hnk] at hd
                            refine hQ _ ?_
                            rw [hd]
                            unfold vm_ci
                            rw [if_neg (by decide), if_neg (by decide), if_pos rfl, vl_sshr _ ((vi_s63 _).trans (vm_pl31 _))]
                            refine vb_lo_eq ?_
                            rw [vb_lo_se]
                            show _ = _
                            show ((vm_sx x 32).sshiftRight ((vm_sx y 32).toNat % 32)).setWidth 32 = _
                            rw [vm_r32n y, vm_r32 x]
                            exact vm_sh12 _ (Nat.mod_lt _ (by decide))
theorem vr_reck32 {K : Nat → Option (Nat × Nat)} {I : Nat → Nat → Int32} {L : Nat → Nat → Int64} {R : Nat → Nat → Value} (hW : jv_rW K R) {f : vf_F} (D : vm_D I f) (har : vf_ar f) (h13 : f.n ≠ 13) (hk : ¬ f.kind = 7) {x y : BitVec 64} {n sl : Nat} : ∃ v : Int64, jv_Ms 382 [.ref 178, .long (Int64.ofBitVec (vm_sx x 32)), .long (Int64.ofBitVec (vm_sx y 32)), .int (32 : Int32)] (jv_H K I L R) n sl (some (.long v), jv_H K I L R, n, sl) ∧ v.toBitVec &&& vb_lowest 32 = vx_do f x y (vm_sg f x y) := by
  obtain ⟨X, k, v, e, hv⟩ := vr_reck32_0 (n := n) (sl := sl) (L := L) (x := x) (y := y) (Q := fun X => ∃ v : Int64, X = (some (.long v), jv_H K I L R, n, sl) ∧ v.toBitVec &&& vb_lowest 32 = vx_do f x y (vm_sg f x y)) hW D har h13 hk (fun v hv => ⟨v, rfl, hv⟩)
  subst e
  exact ⟨v, k, hv⟩
theorem jv_i391 : jv_I 391 6 none 4 111 jv_c391 := ⟨rfl, rfl, rfl, rfl, rfl⟩
theorem vr_arith7tr {K : Nat → Option (Nat × Nat)} {I : Nat → Nat → Int32} {L : Nat → Nat → Int64} {R : Nat → Nat → Value} (hW : jv_rW K R) {S T : vm_S} (hsh : vm_sh S) (h : vm_r I L S) {f : vf_F} (D : vm_D I f) (hd : f.d < 11) (hs : f.s < 11) (har : vf_ar f) (hk : f.kind = 7) (hn : f.n = 13) (hb3 : f.bit3 = true) (hl : vm_arith f S = some T) {n sl : Nat} : ∃ I1 L1, jv_Ms 391 [.ref 178] (jv_H K I L R) n sl (none, jv_H K I1 L1 R, n, sl) ∧ vm_r I1 L1 T ∧ vc_ff vr_Er I L I1 L1 := by
  obtain ⟨Q, hQ⟩ : ∃ Q : jv_R → Prop, Q = fun X => ∃ I1 L1, X = (none, jv_H K I1 L1 R, n, sl) ∧ vm_r I1 L1 T ∧ vc_ff vr_Er I L I1 L1 := ⟨_, rfl⟩
  suffices hE : jv_Wp 391 0 [(0, .ref 178)] [] (jv_H K I L R) n sl Q by
    rw [hQ] at hE
    obtain ⟨X, hE, I1, L1, e, h'⟩ := hE
    subst e
    exact ⟨I1, L1, hE, h'⟩
  obtain ⟨x, y, hx, hy, hT⟩ := vm_arith_dec hl
  subst hT
  have hn256 : f.n < 256 := by have : f.n = f.code / 16 := rfl; have := vr_dc D; omega
  rw [if_neg (show ¬ f.n = 11 by omega)] at hx
  obtain ⟨xd, exd⟩ : ∃ xd, xd = x := ⟨x, rfl⟩
  have hgd : vm_rd S f.d = some xd := exd ▸ hx
  have hi3 : f.i.toNat = 16 ∨ f.i.toNat = 32 ∨ f.i.toNat = 64 := by have := har.2.2.2.2 hn; omega
  have hI : Int32.ofInt f.i = vl_I f.i.toNat := vm_oi (vr_dQ D) (by have := har.2.2.2.2 hn; omega) (by omega)
  have hL : jv_Ms 381 [.long xd, .int (Int32.ofInt f.i)] (jv_H K I L R) n sl (some (.long (Int64.ofBitVec (xd.toBitVec &&& vb_lowest f.i.toNat))), jv_H K I L R, n, sl) := by
    rw [hI]
    rcases hi3 with e | e | e <;> rw [e]
    · exact vr_low16
    · exact vr_low32
    · exact vr_low64
  refine jv_Wp.lift (fun _ Kz => jv_Ev.steps jv_i391 1 (pc' := 1) (l' := [(0, .ref 178)]) (st' := [.ref 178]) rfl Kz) ?_
  refine jv_Wp.lift (fun _ Kz => jv_Ev.c jv_i391 (pc' := 4) (S' := [.int (7 : Int32)]) jv_i385 [.ref 178] rfl rfl rfl rfl (jv_cal rfl (jv_H_at (jv_rwK hW 178 14 31 (by decide))) rfl rfl) rfl (by have z := vr_mkind (L := L) (n := n) (sl := sl) hW D; rw [hk] at z; exact z) rfl rfl Kz) ?_
  refine jv_Wp.lift (fun _ Kz => jv_Ev.steps jv_i391 1 (pc' := 6) (l' := [(0, .ref 178)]) (st' := [.int (7 : Int32), .int (7 : Int32)]) rfl Kz) ?_
  refine jv_Wp.lift (fun _ Kz => jv_Ev.br jv_i391 (pc' := 9) (st' := []) rfl (by rfl) Kz) ?_
  refine jv_Wp.lift (fun _ Kz => jv_Ev.steps jv_i391 4 (pc' := 16) (l' := [(1, .int (1 : Int32)), (0, .ref 178)]) (st' := [.ref 178]) rfl Kz) ?_
  refine jv_Wp.lift (fun _ Kz => jv_Ev.c jv_i391 (pc' := 19) (S' := [.int (13 : Int32)]) jv_i386 [.ref 178] rfl rfl rfl rfl (jv_cal rfl (jv_H_at (jv_rwK hW 178 14 31 (by decide))) rfl rfl) rfl (by have z := vr_mn (L := L) (n := n) (sl := sl) hW D; rw [hn] at z; exact z) rfl rfl Kz) ?_
  refine jv_Wp.lift (fun _ Kz => jv_Ev.steps jv_i391 1 (pc' := 21) (l' := [(1, .int (1 : Int32)), (0, .ref 178)]) (st' := [.int (11 : Int32), .int (13 : Int32)]) rfl Kz) ?_
  refine jv_Wp.lift (fun _ Kz => jv_Ev.br jv_i391 (pc' := 28) (st' := []) rfl (by rfl) Kz) ?_
  refine jv_Wp.lift (fun _ Kz => jv_Ev.steps jv_i391 2 (pc' := 30) (l' := [(1, .int (1 : Int32)), (0, .ref 178)]) (st' := [.ref 178, .ref 178]) rfl Kz) ?_
  refine jv_Wp.lift (fun _ Kz => jv_Ev.m jv_i391 (pc' := 33) (st' := [.int (vl_I f.d), .ref 178]) (G' := (jv_H K I L R)) rfl rfl (jv_m_getI (jv_rwK hW 178 14 31 (by decide)) rfl rfl (vm_d_d D)) Kz) ?_
  refine jv_Wp.lift (fun _ Kz => jv_Ev.c jv_i391 (pc' := 36) (S' := [.long xd]) jv_i374 [.ref 178, .int (vl_I f.d)] rfl rfl rfl rfl (jv_cal rfl (jv_H_at (jv_rwK hW 178 14 31 (by decide))) rfl rfl) rfl (vr_readR hW h hd hgd) rfl rfl Kz) ?_
  refine jv_Wp.lift (fun _ Kz => jv_Ev.steps jv_i391 2 (pc' := 38) (l' := [(2, .long xd), (1, .int (1 : Int32)), (0, .ref 178)]) (st' := [.ref 178]) rfl Kz) ?_
  refine jv_Wp.lift (fun _ Kz => jv_Ev.c jv_i391 (pc' := 41) (S' := [.int (13 : Int32)]) jv_i386 [.ref 178] rfl rfl rfl rfl (jv_cal rfl (jv_H_at (jv_rwK hW 178 14 31 (by decide))) rfl rfl) rfl (by have z := vr_mn (L := L) (n := n) (sl := sl) hW D; rw [hn] at z; exact z) rfl rfl Kz) ?_
  refine jv_Wp.lift (fun _ Kz => jv_Ev.steps jv_i391 1 (pc' := 43) (l' := [(2, .long xd), (1, .int (1 : Int32)), (0, .ref 178)]) (st' := [.int (13 : Int32), .int (13 : Int32)]) rfl Kz) ?_
  refine jv_Wp.lift (fun _ Kz => jv_Ev.br jv_i391 (pc' := 46) (st' := []) rfl (by rfl) Kz) ?_
  refine jv_Wp.lift (fun _ Kz => jv_Ev.steps jv_i391 2 (pc' := 48) (l' := [(2, .long xd), (1, .int (1 : Int32)), (0, .ref 178)]) (st' := [.ref 178, .ref 178]) rfl Kz) ?_
  refine jv_Wp.lift (fun _ Kz => jv_Ev.m jv_i391 (pc' := 51) (st' := [.int (vl_I f.d), .ref 178]) (G' := (jv_H K I L R)) rfl rfl (jv_m_getI (jv_rwK hW 178 14 31 (by decide)) rfl rfl (vm_d_d D)) Kz) ?_
  refine jv_Wp.lift (fun _ Kz => jv_Ev.steps jv_i391 1 (pc' := 52) (l' := [(2, .long xd), (1, .int (1 : Int32)), (0, .ref 178)]) (st' := [.int (1 : Int32), .int (vl_I f.d), .ref 178]) rfl Kz) ?_
  refine jv_Wp.lift (fun _ Kz => jv_Ev.br jv_i391 (pc' := 62) (st' := [.int (vl_I f.d), .ref 178]) rfl (by rfl) Kz) ?_
  refine jv_Wp.lift (fun _ Kz => jv_Ev.steps jv_i391 2 (pc' := 64) (l' := [(2, .long xd), (1, .int (1 : Int32)), (0, .ref 178)]) (st' := [.ref 178, .long xd, .int (vl_I f.d), .ref 178]) rfl Kz) ?_
  refine jv_Wp.lift (fun _ Kz => jv_Ev.m jv_i391 (pc' := 67) (st' := [.int (Int32.ofInt f.i), .long xd, .int (vl_I f.d), .ref 178]) (G' := (jv_H K I L R)) rfl rfl (jv_m_getI (jv_rwK hW 178 14 31 (by decide)) rfl rfl (vm_d_i D)) Kz) ?_
  refine jv_Wp.lift (fun _ Kz => jv_Ev.c jv_i391 (pc' := 70) (S' := [.long (Int64.ofBitVec (vb_turned xd.toBitVec f.i.toNat)), .int (vl_I f.d), .ref 178]) jv_i379 [.long xd, .int (Int32.ofInt f.i)] rfl rfl rfl rfl rfl rfl (show jv_Ms 379 [.long xd, .int (Int32.ofInt f.i)] _ _ _ _ from by rw [hI]; exact vr_turned hi3) rfl rfl Kz) ?_
  refine jv_Wp.lift (fun _ Kz => jv_Ev.steps jv_i391 1 (pc' := 81) (l' := [(2, .long xd), (1, .int (1 : Int32)), (0, .ref 178)]) (st' := [.long (Int64.ofBitVec (vb_turned xd.toBitVec f.i.toNat)), .int (vl_I f.d), .ref 178]) rfl Kz) ?_
  refine jv_Wp.lift (fun _ Kz => jv_Ev.c jv_i391 (pc' := 84) (S' := []) (G1 := (jv_H K (jv_u I 221 f.d 1) (jv_u L 220 f.d (Int64.ofBitVec (vb_turned xd.toBitVec f.i.toNat))) R)) jv_i375 [.ref 178, .int (vl_I f.d), .long (Int64.ofBitVec (vb_turned xd.toBitVec f.i.toNat))] rfl rfl rfl rfl (jv_cal rfl (jv_H_at (jv_rwK hW 178 14 31 (by decide))) rfl rfl) rfl (vr_give (I := I) (L := L) (n := n) (sl := sl) (r := f.d) hW (by omega)) rfl rfl Kz) ?_
  refine jv_Wp.of (jv_Ev.ret jv_i391 rfl rfl) ?_
  have ev : (Int64.ofBitVec (vb_turned xd.toBitVec f.i.toNat)) = Int64.ofBitVec (vx_do f x.toBitVec y.toBitVec (vm_sg f x.toBitVec y.toBitVec)) := congrArg Int64.ofBitVec (by unfold vx_do; rw [if_pos hn, if_pos (by first | exact Or.inl hk | exact Or.inr hb3), vb_turned_low hi3, exd])
  rw [hQ, ev]
  exact ⟨_, _, rfl, vm_r_gv h, vr_gv_ff (vc_ff_refl _ I L)⟩
theorem vr_arith7ti {K : Nat → Option (Nat × Nat)} {I : Nat → Nat → Int32} {L : Nat → Nat → Int64} {R : Nat → Nat → Value} (hW : jv_rW K R) {S T : vm_S} (hsh : vm_sh S) (h : vm_r I L S) {f : vf_F} (D : vm_D I f) (hd : f.d < 11) (hs : f.s < 11) (har : vf_ar f) (hk : f.kind = 7) (hn : f.n = 13) (hb3 : f.bit3 = false) (hl : vm_arith f S = some T) {n sl : Nat} : ∃ I1 L1, jv_Ms 391 [.ref 178] (jv_H K I L R) n sl (none, jv_H K I1 L1 R, n, sl) ∧ vm_r I1 L1 T ∧ vc_ff vr_Er I L I1 L1 := by
  obtain ⟨Q, hQ⟩ : ∃ Q : jv_R → Prop, Q = fun X => ∃ I1 L1, X = (none, jv_H K I1 L1 R, n, sl) ∧ vm_r I1 L1 T ∧ vc_ff vr_Er I L I1 L1 := ⟨_, rfl⟩
  suffices hE : jv_Wp 391 0 [(0, .ref 178)] [] (jv_H K I L R) n sl Q by
    rw [hQ] at hE
    obtain ⟨X, hE, I1, L1, e, h'⟩ := hE
    subst e
    exact ⟨I1, L1, hE, h'⟩
  obtain ⟨x, y, hx, hy, hT⟩ := vm_arith_dec hl
  subst hT
  have hn256 : f.n < 256 := by have : f.n = f.code / 16 := rfl; have := vr_dc D; omega
  rw [if_neg (show ¬ f.n = 11 by omega)] at hx
  obtain ⟨xd, exd⟩ : ∃ xd, xd = x := ⟨x, rfl⟩
  have hgd : vm_rd S f.d = some xd := exd ▸ hx
  have hi3 : f.i.toNat = 16 ∨ f.i.toNat = 32 ∨ f.i.toNat = 64 := by have := har.2.2.2.2 hn; omega
  have hI : Int32.ofInt f.i = vl_I f.i.toNat := vm_oi (vr_dQ D) (by have := har.2.2.2.2 hn; omega) (by omega)
  have hL : jv_Ms 381 [.long xd, .int (Int32.ofInt f.i)] (jv_H K I L R) n sl (some (.long (Int64.ofBitVec (xd.toBitVec &&& vb_lowest f.i.toNat))), jv_H K I L R, n, sl) := by
    rw [hI]
    rcases hi3 with e | e | e <;> rw [e]
    · exact vr_low16
    · exact vr_low32
    · exact vr_low64
  refine jv_Wp.lift (fun _ Kz => jv_Ev.steps jv_i391 1 (pc' := 1) (l' := [(0, .ref 178)]) (st' := [.ref 178]) rfl Kz) ?_
  refine jv_Wp.lift (fun _ Kz => jv_Ev.c jv_i391 (pc' := 4) (S' := [.int (7 : Int32)]) jv_i385 [.ref 178] rfl rfl rfl rfl (jv_cal rfl (jv_H_at (jv_rwK hW 178 14 31 (by decide))) rfl rfl) rfl (by have z := vr_mkind (L := L) (n := n) (sl := sl) hW D; rw [hk] at z; exact z) rfl rfl Kz) ?_
  refine jv_Wp.lift (fun _ Kz => jv_Ev.steps jv_i391 1 (pc' := 6) (l' := [(0, .ref 178)]) (st' := [.int (7 : Int32), .int (7 : Int32)]) rfl Kz) ?_
  refine jv_Wp.lift (fun _ Kz => jv_Ev.br jv_i391 (pc' := 9) (st' := []) rfl (by rfl) Kz) ?_
  refine jv_Wp.lift (fun _ Kz => jv_Ev.steps jv_i391 4 (pc' := 16) (l' := [(1, .int (1 : Int32)), (0, .ref 178)]) (st' := [.ref 178]) rfl Kz) ?_
  refine jv_Wp.lift (fun _ Kz => jv_Ev.c jv_i391 (pc' := 19) (S' := [.int (13 : Int32)]) jv_i386 [.ref 178] rfl rfl rfl rfl (jv_cal rfl (jv_H_at (jv_rwK hW 178 14 31 (by decide))) rfl rfl) rfl (by have z := vr_mn (L := L) (n := n) (sl := sl) hW D; rw [hn] at z; exact z) rfl rfl Kz) ?_
  refine jv_Wp.lift (fun _ Kz => jv_Ev.steps jv_i391 1 (pc' := 21) (l' := [(1, .int (1 : Int32)), (0, .ref 178)]) (st' := [.int (11 : Int32), .int (13 : Int32)]) rfl Kz) ?_
  refine jv_Wp.lift (fun _ Kz => jv_Ev.br jv_i391 (pc' := 28) (st' := []) rfl (by rfl) Kz) ?_
  refine jv_Wp.lift (fun _ Kz => jv_Ev.steps jv_i391 2 (pc' := 30) (l' := [(1, .int (1 : Int32)), (0, .ref 178)]) (st' := [.ref 178, .ref 178]) rfl Kz) ?_
  refine jv_Wp.lift (fun _ Kz => jv_Ev.m jv_i391 (pc' := 33) (st' := [.int (vl_I f.d), .ref 178]) (G' := (jv_H K I L R)) rfl rfl (jv_m_getI (jv_rwK hW 178 14 31 (by decide)) rfl rfl (vm_d_d D)) Kz) ?_
  refine jv_Wp.lift (fun _ Kz => jv_Ev.c jv_i391 (pc' := 36) (S' := [.long xd]) jv_i374 [.ref 178, .int (vl_I f.d)] rfl rfl rfl rfl (jv_cal rfl (jv_H_at (jv_rwK hW 178 14 31 (by decide))) rfl rfl) rfl (vr_readR hW h hd hgd) rfl rfl Kz) ?_
  refine jv_Wp.lift (fun _ Kz => jv_Ev.steps jv_i391 2 (pc' := 38) (l' := [(2, .long xd), (1, .int (1 : Int32)), (0, .ref 178)]) (st' := [.ref 178]) rfl Kz) ?_
  refine jv_Wp.lift (fun _ Kz => jv_Ev.c jv_i391 (pc' := 41) (S' := [.int (13 : Int32)]) jv_i386 [.ref 178] rfl rfl rfl rfl (jv_cal rfl (jv_H_at (jv_rwK hW 178 14 31 (by decide))) rfl rfl) rfl (by have z := vr_mn (L := L) (n := n) (sl := sl) hW D; rw [hn] at z; exact z) rfl rfl Kz) ?_
  refine jv_Wp.lift (fun _ Kz => jv_Ev.steps jv_i391 1 (pc' := 43) (l' := [(2, .long xd), (1, .int (1 : Int32)), (0, .ref 178)]) (st' := [.int (13 : Int32), .int (13 : Int32)]) rfl Kz) ?_
  refine jv_Wp.lift (fun _ Kz => jv_Ev.br jv_i391 (pc' := 46) (st' := []) rfl (by rfl) Kz) ?_
  refine jv_Wp.lift (fun _ Kz => jv_Ev.steps jv_i391 2 (pc' := 48) (l' := [(2, .long xd), (1, .int (1 : Int32)), (0, .ref 178)]) (st' := [.ref 178, .ref 178]) rfl Kz) ?_
  refine jv_Wp.lift (fun _ Kz => jv_Ev.m jv_i391 (pc' := 51) (st' := [.int (vl_I f.d), .ref 178]) (G' := (jv_H K I L R)) rfl rfl (jv_m_getI (jv_rwK hW 178 14 31 (by decide)) rfl rfl (vm_d_d D)) Kz) ?_
  refine jv_Wp.lift (fun _ Kz => jv_Ev.steps jv_i391 1 (pc' := 52) (l' := [(2, .long xd), (1, .int (1 : Int32)), (0, .ref 178)]) (st' := [.int (1 : Int32), .int (vl_I f.d), .ref 178]) rfl Kz) ?_
  refine jv_Wp.lift (fun _ Kz => jv_Ev.br jv_i391 (pc' := 62) (st' := [.int (vl_I f.d), .ref 178]) rfl (by rfl) Kz) ?_
  refine jv_Wp.lift (fun _ Kz => jv_Ev.steps jv_i391 2 (pc' := 64) (l' := [(2, .long xd), (1, .int (1 : Int32)), (0, .ref 178)]) (st' := [.ref 178, .long xd, .int (vl_I f.d), .ref 178]) rfl Kz) ?_
  refine jv_Wp.lift (fun _ Kz => jv_Ev.m jv_i391 (pc' := 67) (st' := [.int (Int32.ofInt f.i), .long xd, .int (vl_I f.d), .ref 178]) (G' := (jv_H K I L R)) rfl rfl (jv_m_getI (jv_rwK hW 178 14 31 (by decide)) rfl rfl (vm_d_i D)) Kz) ?_
  refine jv_Wp.lift (fun _ Kz => jv_Ev.c jv_i391 (pc' := 70) (S' := [.long (Int64.ofBitVec (vb_turned xd.toBitVec f.i.toNat)), .int (vl_I f.d), .ref 178]) jv_i379 [.long xd, .int (Int32.ofInt f.i)] rfl rfl rfl rfl rfl rfl (show jv_Ms 379 [.long xd, .int (Int32.ofInt f.i)] _ _ _ _ from by rw [hI]; exact vr_turned hi3) rfl rfl Kz) ?_
  refine jv_Wp.lift (fun _ Kz => jv_Ev.steps jv_i391 1 (pc' := 81) (l' := [(2, .long xd), (1, .int (1 : Int32)), (0, .ref 178)]) (st' := [.long (Int64.ofBitVec (vb_turned xd.toBitVec f.i.toNat)), .int (vl_I f.d), .ref 178]) rfl Kz) ?_
  refine jv_Wp.lift (fun _ Kz => jv_Ev.c jv_i391 (pc' := 84) (S' := []) (G1 := (jv_H K (jv_u I 221 f.d 1) (jv_u L 220 f.d (Int64.ofBitVec (vb_turned xd.toBitVec f.i.toNat))) R)) jv_i375 [.ref 178, .int (vl_I f.d), .long (Int64.ofBitVec (vb_turned xd.toBitVec f.i.toNat))] rfl rfl rfl rfl (jv_cal rfl (jv_H_at (jv_rwK hW 178 14 31 (by decide))) rfl rfl) rfl (vr_give (I := I) (L := L) (n := n) (sl := sl) (r := f.d) hW (by omega)) rfl rfl Kz) ?_
  refine jv_Wp.of (jv_Ev.ret jv_i391 rfl rfl) ?_
  have ev : (Int64.ofBitVec (vb_turned xd.toBitVec f.i.toNat)) = Int64.ofBitVec (vx_do f x.toBitVec y.toBitVec (vm_sg f x.toBitVec y.toBitVec)) := congrArg Int64.ofBitVec (by unfold vx_do; rw [if_pos hn, if_pos (by first | exact Or.inl hk | exact Or.inr hb3), vb_turned_low hi3, exd])
  rw [hQ, ev]
  exact ⟨_, _, rfl, vm_r_gv h, vr_gv_ff (vc_ff_refl _ I L)⟩
theorem vr_arith7mr {K : Nat → Option (Nat × Nat)} {I : Nat → Nat → Int32} {L : Nat → Nat → Int64} {R : Nat → Nat → Value} (hW : jv_rW K R) {S T : vm_S} (hsh : vm_sh S) (h : vm_r I L S) {f : vf_F} (D : vm_D I f) (hd : f.d < 11) (hs : f.s < 11) (har : vf_ar f) (hk : f.kind = 7) (hn : f.n = 11) (hb3 : f.bit3 = true) (hl : vm_arith f S = some T) {n sl : Nat} : ∃ I1 L1, jv_Ms 391 [.ref 178] (jv_H K I L R) n sl (none, jv_H K I1 L1 R, n, sl) ∧ vm_r I1 L1 T ∧ vc_ff vr_Er I L I1 L1 := by
  obtain ⟨Q, hQ⟩ : ∃ Q : jv_R → Prop, Q = fun X => ∃ I1 L1, X = (none, jv_H K I1 L1 R, n, sl) ∧ vm_r I1 L1 T ∧ vc_ff vr_Er I L I1 L1 := ⟨_, rfl⟩
  suffices hE : jv_Wp 391 0 [(0, .ref 178)] [] (jv_H K I L R) n sl Q by
    rw [hQ] at hE
    obtain ⟨X, hE, I1, L1, e, h'⟩ := hE
    subst e
    exact ⟨I1, L1, hE, h'⟩
  obtain ⟨x, y, hx, hy, hT⟩ := vm_arith_dec hl
  subst hT
  have hn256 : f.n < 256 := by have : f.n = f.code / 16 := rfl; have := vr_dc D; omega
  rw [if_pos hn] at hx
  have exd : (0 : Int64) = x := Option.some.inj hx
  rw [if_neg (show ¬ f.n = 13 by omega)] at hy
  rw [if_pos hb3] at hy
  obtain ⟨xs, exs⟩ : ∃ xs, xs = y := ⟨y, rfl⟩
  have hgs : vm_rd S f.s = some xs := exs ▸ hy
  refine jv_Wp.lift (fun _ Kz => jv_Ev.steps jv_i391 1 (pc' := 1) (l' := [(0, .ref 178)]) (st' := [.ref 178]) rfl Kz) ?_
  refine jv_Wp.lift (fun _ Kz => jv_Ev.c jv_i391 (pc' := 4) (S' := [.int (7 : Int32)]) jv_i385 [.ref 178] rfl rfl rfl rfl (jv_cal rfl (jv_H_at (jv_rwK hW 178 14 31 (by decide))) rfl rfl) rfl (by have z := vr_mkind (L := L) (n := n) (sl := sl) hW D; rw [hk] at z; exact z) rfl rfl Kz) ?_
  refine jv_Wp.lift (fun _ Kz => jv_Ev.steps jv_i391 1 (pc' := 6) (l' := [(0, .ref 178)]) (st' := [.int (7 : Int32), .int (7 : Int32)]) rfl Kz) ?_
  refine jv_Wp.lift (fun _ Kz => jv_Ev.br jv_i391 (pc' := 9) (st' := []) rfl (by rfl) Kz) ?_
  refine jv_Wp.lift (fun _ Kz => jv_Ev.steps jv_i391 4 (pc' := 16) (l' := [(1, .int (1 : Int32)), (0, .ref 178)]) (st' := [.ref 178]) rfl Kz) ?_
  refine jv_Wp.lift (fun _ Kz => jv_Ev.c jv_i391 (pc' := 19) (S' := [.int (11 : Int32)]) jv_i386 [.ref 178] rfl rfl rfl rfl (jv_cal rfl (jv_H_at (jv_rwK hW 178 14 31 (by decide))) rfl rfl) rfl (by have z := vr_mn (L := L) (n := n) (sl := sl) hW D; rw [hn] at z; exact z) rfl rfl Kz) ?_
  refine jv_Wp.lift (fun _ Kz => jv_Ev.steps jv_i391 1 (pc' := 21) (l' := [(1, .int (1 : Int32)), (0, .ref 178)]) (st' := [.int (11 : Int32), .int (11 : Int32)]) rfl Kz) ?_
  refine jv_Wp.lift (fun _ Kz => jv_Ev.br jv_i391 (pc' := 24) (st' := []) rfl (by rfl) Kz) ?_
  refine jv_Wp.lift (fun _ Kz => jv_Ev.steps jv_i391 4 (pc' := 38) (l' := [(2, .long (0 : Int64)), (1, .int (1 : Int32)), (0, .ref 178)]) (st' := [.ref 178]) rfl Kz) ?_
  refine jv_Wp.lift (fun _ Kz => jv_Ev.c jv_i391 (pc' := 41) (S' := [.int (11 : Int32)]) jv_i386 [.ref 178] rfl rfl rfl rfl (jv_cal rfl (jv_H_at (jv_rwK hW 178 14 31 (by decide))) rfl rfl) rfl (by have z := vr_mn (L := L) (n := n) (sl := sl) hW D; rw [hn] at z; exact z) rfl rfl Kz) ?_
  refine jv_Wp.lift (fun _ Kz => jv_Ev.steps jv_i391 1 (pc' := 43) (l' := [(2, .long (0 : Int64)), (1, .int (1 : Int32)), (0, .ref 178)]) (st' := [.int (13 : Int32), .int (11 : Int32)]) rfl Kz) ?_
  refine jv_Wp.lift (fun _ Kz => jv_Ev.br jv_i391 (pc' := 85) (st' := []) rfl (by rfl) Kz) ?_
  refine jv_Wp.lift (fun _ Kz => jv_Ev.steps jv_i391 1 (pc' := 86) (l' := [(2, .long (0 : Int64)), (1, .int (1 : Int32)), (0, .ref 178)]) (st' := [.ref 178]) rfl Kz) ?_
  refine jv_Wp.lift (fun _ Kz => jv_Ev.c jv_i391 (pc' := 89) (S' := [.int (1 : Int32)]) jv_i387 [.ref 178] rfl rfl rfl rfl (jv_cal rfl (jv_H_at (jv_rwK hW 178 14 31 (by decide))) rfl rfl) rfl (by have z := vr_mbit3 (L := L) (n := n) (sl := sl) hW D; rw [hb3] at z; exact z) rfl rfl Kz) ?_
  refine jv_Wp.lift (fun _ Kz => jv_Ev.br jv_i391 (pc' := 92) (st' := []) rfl (by rfl) Kz) ?_
  refine jv_Wp.lift (fun _ Kz => jv_Ev.steps jv_i391 2 (pc' := 94) (l' := [(2, .long (0 : Int64)), (1, .int (1 : Int32)), (0, .ref 178)]) (st' := [.ref 178, .ref 178]) rfl Kz) ?_
  refine jv_Wp.lift (fun _ Kz => jv_Ev.m jv_i391 (pc' := 97) (st' := [.int (vl_I f.s), .ref 178]) (G' := (jv_H K I L R)) rfl rfl (jv_m_getI (jv_rwK hW 178 14 31 (by decide)) rfl rfl (vm_d_s D)) Kz) ?_
  refine jv_Wp.lift (fun _ Kz => jv_Ev.c jv_i391 (pc' := 100) (S' := [.long xs]) jv_i374 [.ref 178, .int (vl_I f.s)] rfl rfl rfl rfl (jv_cal rfl (jv_H_at (jv_rwK hW 178 14 31 (by decide))) rfl rfl) rfl (vr_readR hW h hs hgs) rfl rfl Kz) ?_
  refine jv_Wp.lift (fun _ Kz => jv_Ev.steps jv_i391 4 (pc' := 112) (l' := [(4, .long xs), (2, .long (0 : Int64)), (1, .int (1 : Int32)), (0, .ref 178)]) (st' := [.ref 178, .ref 178]) rfl Kz) ?_
  refine jv_Wp.lift (fun _ Kz => jv_Ev.m jv_i391 (pc' := 115) (st' := [.int (vl_I f.d), .ref 178]) (G' := (jv_H K I L R)) rfl rfl (jv_m_getI (jv_rwK hW 178 14 31 (by decide)) rfl rfl (vm_d_d D)) Kz) ?_
  refine jv_Wp.lift (fun _ Kz => jv_Ev.steps jv_i391 1 (pc' := 116) (l' := [(4, .long xs), (2, .long (0 : Int64)), (1, .int (1 : Int32)), (0, .ref 178)]) (st' := [.int (1 : Int32), .int (vl_I f.d), .ref 178]) rfl Kz) ?_
  refine jv_Wp.lift (fun _ Kz => jv_Ev.br jv_i391 (pc' := 119) (st' := [.int (vl_I f.d), .ref 178]) rfl (by rfl) Kz) ?_
  refine jv_Wp.lift (fun _ Kz => jv_Ev.steps jv_i391 4 (pc' := 125) (l' := [(4, .long xs), (2, .long (0 : Int64)), (1, .int (1 : Int32)), (0, .ref 178)]) (st' := [.int (64 : Int32), .long xs, .long (0 : Int64), .ref 178, .int (vl_I f.d), .ref 178]) rfl Kz) ?_
  refine jv_Wp.lift (fun _ Kz => jv_Ev.c jv_i391 (pc' := 128) (S' := [.long (Int64.ofBitVec (vx_do f ((0 : Int64)).toBitVec (xs).toBitVec (vm_sg f ((0 : Int64)).toBitVec (xs).toBitVec))), .int (vl_I f.d), .ref 178]) jv_i382 [.ref 178, .long (0 : Int64), .long xs, .int (64 : Int32)] rfl rfl rfl rfl (jv_cal rfl (jv_H_at (jv_rwK hW 178 14 31 (by decide))) rfl rfl) rfl (vr_reck64 hW D har (by omega) hk) rfl rfl Kz) ?_
  refine jv_Wp.lift (fun _ Kz => jv_Ev.steps jv_i391 1 (pc' := 155) (l' := [(4, .long xs), (2, .long (0 : Int64)), (1, .int (1 : Int32)), (0, .ref 178)]) (st' := [.long (Int64.ofBitVec (vx_do f ((0 : Int64)).toBitVec (xs).toBitVec (vm_sg f ((0 : Int64)).toBitVec (xs).toBitVec))), .int (vl_I f.d), .ref 178]) rfl Kz) ?_
  refine jv_Wp.lift (fun _ Kz => jv_Ev.c jv_i391 (pc' := 158) (S' := []) (G1 := (jv_H K (jv_u I 221 f.d 1) (jv_u L 220 f.d (Int64.ofBitVec (vx_do f ((0 : Int64)).toBitVec (xs).toBitVec (vm_sg f ((0 : Int64)).toBitVec (xs).toBitVec)))) R)) jv_i375 [.ref 178, .int (vl_I f.d), .long (Int64.ofBitVec (vx_do f ((0 : Int64)).toBitVec (xs).toBitVec (vm_sg f ((0 : Int64)).toBitVec (xs).toBitVec)))] rfl rfl rfl rfl (jv_cal rfl (jv_H_at (jv_rwK hW 178 14 31 (by decide))) rfl rfl) rfl (vr_give (I := I) (L := L) (n := n) (sl := sl) (r := f.d) hW (by omega)) rfl rfl Kz) ?_
  refine jv_Wp.of (jv_Ev.ret jv_i391 rfl rfl) ?_
  have ev : (Int64.ofBitVec (vx_do f ((0 : Int64)).toBitVec (xs).toBitVec (vm_sg f ((0 : Int64)).toBitVec (xs).toBitVec))) = Int64.ofBitVec (vx_do f x.toBitVec y.toBitVec (vm_sg f x.toBitVec y.toBitVec)) := congrArg Int64.ofBitVec (by rw [exd, exs])
  rw [hQ, ev]
  exact ⟨_, _, rfl, vm_r_gv h, vr_gv_ff (vc_ff_refl _ I L)⟩
theorem vr_arith7mi {K : Nat → Option (Nat × Nat)} {I : Nat → Nat → Int32} {L : Nat → Nat → Int64} {R : Nat → Nat → Value} (hW : jv_rW K R) {S T : vm_S} (hsh : vm_sh S) (h : vm_r I L S) {f : vf_F} (D : vm_D I f) (hd : f.d < 11) (hs : f.s < 11) (har : vf_ar f) (hk : f.kind = 7) (hn : f.n = 11) (hb3 : f.bit3 = false) (hl : vm_arith f S = some T) {n sl : Nat} : ∃ I1 L1, jv_Ms 391 [.ref 178] (jv_H K I L R) n sl (none, jv_H K I1 L1 R, n, sl) ∧ vm_r I1 L1 T ∧ vc_ff vr_Er I L I1 L1 := by
  obtain ⟨Q, hQ⟩ : ∃ Q : jv_R → Prop, Q = fun X => ∃ I1 L1, X = (none, jv_H K I1 L1 R, n, sl) ∧ vm_r I1 L1 T ∧ vc_ff vr_Er I L I1 L1 := ⟨_, rfl⟩
  suffices hE : jv_Wp 391 0 [(0, .ref 178)] [] (jv_H K I L R) n sl Q by
    rw [hQ] at hE
    obtain ⟨X, hE, I1, L1, e, h'⟩ := hE
    subst e
    exact ⟨I1, L1, hE, h'⟩
  obtain ⟨x, y, hx, hy, hT⟩ := vm_arith_dec hl
  subst hT
  have hn256 : f.n < 256 := by have : f.n = f.code / 16 := rfl; have := vr_dc D; omega
  rw [if_pos hn] at hx
  have exd : (0 : Int64) = x := Option.some.inj hx
  rw [if_neg (show ¬ f.n = 13 by omega)] at hy
  rw [if_neg (by rw [hb3]; decide)] at hy
  have exs : (Int32.ofInt f.i).toInt64 = y := (vm_io (vr_dQ D)).trans (Option.some.inj hy)
  refine jv_Wp.lift (fun _ Kz => jv_Ev.steps jv_i391 1 (pc' := 1) (l' := [(0, .ref 178)]) (st' := [.ref 178]) rfl Kz) ?_
  refine jv_Wp.lift (fun _ Kz => jv_Ev.c jv_i391 (pc' := 4) (S' := [.int (7 : Int32)]) jv_i385 [.ref 178] rfl rfl rfl rfl (jv_cal rfl (jv_H_at (jv_rwK hW 178 14 31 (by decide))) rfl rfl) rfl (by have z := vr_mkind (L := L) (n := n) (sl := sl) hW D; rw [hk] at z; exact z) rfl rfl Kz) ?_
  refine jv_Wp.lift (fun _ Kz => jv_Ev.steps jv_i391 1 (pc' := 6) (l' := [(0, .ref 178)]) (st' := [.int (7 : Int32), .int (7 : Int32)]) rfl Kz) ?_
  refine jv_Wp.lift (fun _ Kz => jv_Ev.br jv_i391 (pc' := 9) (st' := []) rfl (by rfl) Kz) ?_
  refine jv_Wp.lift (fun _ Kz => jv_Ev.steps jv_i391 4 (pc' := 16) (l' := [(1, .int (1 : Int32)), (0, .ref 178)]) (st' := [.ref 178]) rfl Kz) ?_
  refine jv_Wp.lift (fun _ Kz => jv_Ev.c jv_i391 (pc' := 19) (S' := [.int (11 : Int32)]) jv_i386 [.ref 178] rfl rfl rfl rfl (jv_cal rfl (jv_H_at (jv_rwK hW 178 14 31 (by decide))) rfl rfl) rfl (by have z := vr_mn (L := L) (n := n) (sl := sl) hW D; rw [hn] at z; exact z) rfl rfl Kz) ?_
  refine jv_Wp.lift (fun _ Kz => jv_Ev.steps jv_i391 1 (pc' := 21) (l' := [(1, .int (1 : Int32)), (0, .ref 178)]) (st' := [.int (11 : Int32), .int (11 : Int32)]) rfl Kz) ?_
  refine jv_Wp.lift (fun _ Kz => jv_Ev.br jv_i391 (pc' := 24) (st' := []) rfl (by rfl) Kz) ?_
  refine jv_Wp.lift (fun _ Kz => jv_Ev.steps jv_i391 4 (pc' := 38) (l' := [(2, .long (0 : Int64)), (1, .int (1 : Int32)), (0, .ref 178)]) (st' := [.ref 178]) rfl Kz) ?_
  refine jv_Wp.lift (fun _ Kz => jv_Ev.c jv_i391 (pc' := 41) (S' := [.int (11 : Int32)]) jv_i386 [.ref 178] rfl rfl rfl rfl (jv_cal rfl (jv_H_at (jv_rwK hW 178 14 31 (by decide))) rfl rfl) rfl (by have z := vr_mn (L := L) (n := n) (sl := sl) hW D; rw [hn] at z; exact z) rfl rfl Kz) ?_
  refine jv_Wp.lift (fun _ Kz => jv_Ev.steps jv_i391 1 (pc' := 43) (l' := [(2, .long (0 : Int64)), (1, .int (1 : Int32)), (0, .ref 178)]) (st' := [.int (13 : Int32), .int (11 : Int32)]) rfl Kz) ?_
  refine jv_Wp.lift (fun _ Kz => jv_Ev.br jv_i391 (pc' := 85) (st' := []) rfl (by rfl) Kz) ?_
  refine jv_Wp.lift (fun _ Kz => jv_Ev.steps jv_i391 1 (pc' := 86) (l' := [(2, .long (0 : Int64)), (1, .int (1 : Int32)), (0, .ref 178)]) (st' := [.ref 178]) rfl Kz) ?_
  refine jv_Wp.lift (fun _ Kz => jv_Ev.c jv_i391 (pc' := 89) (S' := [.int (0 : Int32)]) jv_i387 [.ref 178] rfl rfl rfl rfl (jv_cal rfl (jv_H_at (jv_rwK hW 178 14 31 (by decide))) rfl rfl) rfl (by have z := vr_mbit3 (L := L) (n := n) (sl := sl) hW D; rw [hb3] at z; exact z) rfl rfl Kz) ?_
  refine jv_Wp.lift (fun _ Kz => jv_Ev.br jv_i391 (pc' := 103) (st' := []) rfl (by rfl) Kz) ?_
  refine jv_Wp.lift (fun _ Kz => jv_Ev.steps jv_i391 1 (pc' := 104) (l' := [(2, .long (0 : Int64)), (1, .int (1 : Int32)), (0, .ref 178)]) (st' := [.ref 178]) rfl Kz) ?_
  refine jv_Wp.lift (fun _ Kz => jv_Ev.m jv_i391 (pc' := 107) (st' := [.int (Int32.ofInt f.i)]) (G' := (jv_H K I L R)) rfl rfl (jv_m_getI (jv_rwK hW 178 14 31 (by decide)) rfl rfl (vm_d_i D)) Kz) ?_
  refine jv_Wp.lift (fun _ Kz => jv_Ev.steps jv_i391 4 (pc' := 112) (l' := [(4, .long (Int32.ofInt f.i).toInt64), (2, .long (0 : Int64)), (1, .int (1 : Int32)), (0, .ref 178)]) (st' := [.ref 178, .ref 178]) rfl Kz) ?_
  refine jv_Wp.lift (fun _ Kz => jv_Ev.m jv_i391 (pc' := 115) (st' := [.int (vl_I f.d), .ref 178]) (G' := (jv_H K I L R)) rfl rfl (jv_m_getI (jv_rwK hW 178 14 31 (by decide)) rfl rfl (vm_d_d D)) Kz) ?_
  refine jv_Wp.lift (fun _ Kz => jv_Ev.steps jv_i391 1 (pc' := 116) (l' := [(4, .long (Int32.ofInt f.i).toInt64), (2, .long (0 : Int64)), (1, .int (1 : Int32)), (0, .ref 178)]) (st' := [.int (1 : Int32), .int (vl_I f.d), .ref 178]) rfl Kz) ?_
  refine jv_Wp.lift (fun _ Kz => jv_Ev.br jv_i391 (pc' := 119) (st' := [.int (vl_I f.d), .ref 178]) rfl (by rfl) Kz) ?_
  refine jv_Wp.lift (fun _ Kz => jv_Ev.steps jv_i391 4 (pc' := 125) (l' := [(4, .long (Int32.ofInt f.i).toInt64), (2, .long (0 : Int64)), (1, .int (1 : Int32)), (0, .ref 178)]) (st' := [.int (64 : Int32), .long (Int32.ofInt f.i).toInt64, .long (0 : Int64), .ref 178, .int (vl_I f.d), .ref 178]) rfl Kz) ?_
  refine jv_Wp.lift (fun _ Kz => jv_Ev.c jv_i391 (pc' := 128) (S' := [.long (Int64.ofBitVec (vx_do f ((0 : Int64)).toBitVec ((Int32.ofInt f.i).toInt64).toBitVec (vm_sg f ((0 : Int64)).toBitVec ((Int32.ofInt f.i).toInt64).toBitVec))), .int (vl_I f.d), .ref 178]) jv_i382 [.ref 178, .long (0 : Int64), .long (Int32.ofInt f.i).toInt64, .int (64 : Int32)] rfl rfl rfl rfl (jv_cal rfl (jv_H_at (jv_rwK hW 178 14 31 (by decide))) rfl rfl) rfl (vr_reck64 hW D har (by omega) hk) rfl rfl Kz) ?_
  refine jv_Wp.lift (fun _ Kz => jv_Ev.steps jv_i391 1 (pc' := 155) (l' := [(4, .long (Int32.ofInt f.i).toInt64), (2, .long (0 : Int64)), (1, .int (1 : Int32)), (0, .ref 178)]) (st' := [.long (Int64.ofBitVec (vx_do f ((0 : Int64)).toBitVec ((Int32.ofInt f.i).toInt64).toBitVec (vm_sg f ((0 : Int64)).toBitVec ((Int32.ofInt f.i).toInt64).toBitVec))), .int (vl_I f.d), .ref 178]) rfl Kz) ?_
  refine jv_Wp.lift (fun _ Kz => jv_Ev.c jv_i391 (pc' := 158) (S' := []) (G1 := (jv_H K (jv_u I 221 f.d 1) (jv_u L 220 f.d (Int64.ofBitVec (vx_do f ((0 : Int64)).toBitVec ((Int32.ofInt f.i).toInt64).toBitVec (vm_sg f ((0 : Int64)).toBitVec ((Int32.ofInt f.i).toInt64).toBitVec)))) R)) jv_i375 [.ref 178, .int (vl_I f.d), .long (Int64.ofBitVec (vx_do f ((0 : Int64)).toBitVec ((Int32.ofInt f.i).toInt64).toBitVec (vm_sg f ((0 : Int64)).toBitVec ((Int32.ofInt f.i).toInt64).toBitVec)))] rfl rfl rfl rfl (jv_cal rfl (jv_H_at (jv_rwK hW 178 14 31 (by decide))) rfl rfl) rfl (vr_give (I := I) (L := L) (n := n) (sl := sl) (r := f.d) hW (by omega)) rfl rfl Kz) ?_
  refine jv_Wp.of (jv_Ev.ret jv_i391 rfl rfl) ?_
  have ev : (Int64.ofBitVec (vx_do f ((0 : Int64)).toBitVec ((Int32.ofInt f.i).toInt64).toBitVec (vm_sg f ((0 : Int64)).toBitVec ((Int32.ofInt f.i).toInt64).toBitVec))) = Int64.ofBitVec (vx_do f x.toBitVec y.toBitVec (vm_sg f x.toBitVec y.toBitVec)) := congrArg Int64.ofBitVec (by rw [exd, exs])
  rw [hQ, ev]
  exact ⟨_, _, rfl, vm_r_gv h, vr_gv_ff (vc_ff_refl _ I L)⟩
theorem vr_arith7or {K : Nat → Option (Nat × Nat)} {I : Nat → Nat → Int32} {L : Nat → Nat → Int64} {R : Nat → Nat → Value} (hW : jv_rW K R) {S T : vm_S} (hsh : vm_sh S) (h : vm_r I L S) {f : vf_F} (D : vm_D I f) (hd : f.d < 11) (hs : f.s < 11) (har : vf_ar f) (hk : f.kind = 7) (hn11 : f.n ≠ 11) (hn13 : f.n ≠ 13) (hb3 : f.bit3 = true) (hl : vm_arith f S = some T) {n sl : Nat} : ∃ I1 L1, jv_Ms 391 [.ref 178] (jv_H K I L R) n sl (none, jv_H K I1 L1 R, n, sl) ∧ vm_r I1 L1 T ∧ vc_ff vr_Er I L I1 L1 := by
  obtain ⟨Q, hQ⟩ : ∃ Q : jv_R → Prop, Q = fun X => ∃ I1 L1, X = (none, jv_H K I1 L1 R, n, sl) ∧ vm_r I1 L1 T ∧ vc_ff vr_Er I L I1 L1 := ⟨_, rfl⟩
  suffices hE : jv_Wp 391 0 [(0, .ref 178)] [] (jv_H K I L R) n sl Q by
    rw [hQ] at hE
    obtain ⟨X, hE, I1, L1, e, h'⟩ := hE
    subst e
    exact ⟨I1, L1, hE, h'⟩
  obtain ⟨x, y, hx, hy, hT⟩ := vm_arith_dec hl
  subst hT
  have hn256 : f.n < 256 := by have : f.n = f.code / 16 := rfl; have := vr_dc D; omega
  rw [if_neg (show ¬ f.n = 11 by omega)] at hx
  obtain ⟨xd, exd⟩ : ∃ xd, xd = x := ⟨x, rfl⟩
  have hgd : vm_rd S f.d = some xd := exd ▸ hx
  rw [if_neg (show ¬ f.n = 13 by omega)] at hy
  rw [if_pos hb3] at hy
  obtain ⟨xs, exs⟩ : ∃ xs, xs = y := ⟨y, rfl⟩
  have hgs : vm_rd S f.s = some xs := exs ▸ hy
  refine jv_Wp.lift (fun _ Kz => jv_Ev.steps jv_i391 1 (pc' := 1) (l' := [(0, .ref 178)]) (st' := [.ref 178]) rfl Kz) ?_
  refine jv_Wp.lift (fun _ Kz => jv_Ev.c jv_i391 (pc' := 4) (S' := [.int (7 : Int32)]) jv_i385 [.ref 178] rfl rfl rfl rfl (jv_cal rfl (jv_H_at (jv_rwK hW 178 14 31 (by decide))) rfl rfl) rfl (by have z := vr_mkind (L := L) (n := n) (sl := sl) hW D; rw [hk] at z; exact z) rfl rfl Kz) ?_
  refine jv_Wp.lift (fun _ Kz => jv_Ev.steps jv_i391 1 (pc' := 6) (l' := [(0, .ref 178)]) (st' := [.int (7 : Int32), .int (7 : Int32)]) rfl Kz) ?_
  refine jv_Wp.lift (fun _ Kz => jv_Ev.br jv_i391 (pc' := 9) (st' := []) rfl (by rfl) Kz) ?_
  refine jv_Wp.lift (fun _ Kz => jv_Ev.steps jv_i391 4 (pc' := 16) (l' := [(1, .int (1 : Int32)), (0, .ref 178)]) (st' := [.ref 178]) rfl Kz) ?_
  refine jv_Wp.lift (fun _ Kz => jv_Ev.c jv_i391 (pc' := 19) (S' := [.int (vl_I f.n)]) jv_i386 [.ref 178] rfl rfl rfl rfl (jv_cal rfl (jv_H_at (jv_rwK hW 178 14 31 (by decide))) rfl rfl) rfl (vr_mn hW D) rfl rfl Kz) ?_
  refine jv_Wp.lift (fun _ Kz => jv_Ev.steps jv_i391 1 (pc' := 21) (l' := [(1, .int (1 : Int32)), (0, .ref 178)]) (st' := [.int (11 : Int32), .int (vl_I f.n)]) rfl Kz) ?_
  refine jv_Wp.cnd jv_i391 (pt := 28) (pe := 24) (p := (¬ (vl_I f.n) = (11 : Int32))) (q := (¬ (vl_I f.n) = (11 : Int32))) rfl jv_bc_ne rfl rfl Iff.rfl (fun _ => ?_) (fun hz => absurd (fun z => hn11 ((vl_I_inj (a := f.n) (b := 11) (by omega) (by decide)).mp z)) hz)
  refine jv_Wp.lift (fun _ Kz => jv_Ev.steps jv_i391 2 (pc' := 30) (l' := [(1, .int (1 : Int32)), (0, .ref 178)]) (st' := [.ref 178, .ref 178]) rfl Kz) ?_
  refine jv_Wp.lift (fun _ Kz => jv_Ev.m jv_i391 (pc' := 33) (st' := [.int (vl_I f.d), .ref 178]) (G' := (jv_H K I L R)) rfl rfl (jv_m_getI (jv_rwK hW 178 14 31 (by decide)) rfl rfl (vm_d_d D)) Kz) ?_
  refine jv_Wp.lift (fun _ Kz => jv_Ev.c jv_i391 (pc' := 36) (S' := [.long xd]) jv_i374 [.ref 178, .int (vl_I f.d)] rfl rfl rfl rfl (jv_cal rfl (jv_H_at (jv_rwK hW 178 14 31 (by decide))) rfl rfl) rfl (vr_readR hW h hd hgd) rfl rfl Kz) ?_
  refine jv_Wp.lift (fun _ Kz => jv_Ev.steps jv_i391 2 (pc' := 38) (l' := [(2, .long xd), (1, .int (1 : Int32)), (0, .ref 178)]) (st' := [.ref 178]) rfl Kz) ?_
  refine jv_Wp.lift (fun _ Kz => jv_Ev.c jv_i391 (pc' := 41) (S' := [.int (vl_I f.n)]) jv_i386 [.ref 178] rfl rfl rfl rfl (jv_cal rfl (jv_H_at (jv_rwK hW 178 14 31 (by decide))) rfl rfl) rfl (vr_mn hW D) rfl rfl Kz) ?_
  refine jv_Wp.lift (fun _ Kz => jv_Ev.steps jv_i391 1 (pc' := 43) (l' := [(2, .long xd), (1, .int (1 : Int32)), (0, .ref 178)]) (st' := [.int (13 : Int32), .int (vl_I f.n)]) rfl Kz) ?_
  refine jv_Wp.cnd jv_i391 (pt := 85) (pe := 46) (p := (¬ (vl_I f.n) = (13 : Int32))) (q := (¬ (vl_I f.n) = (13 : Int32))) rfl jv_bc_ne rfl rfl Iff.rfl (fun _ => ?_) (fun hz => absurd (fun z => hn13 ((vl_I_inj (a := f.n) (b := 13) (by omega) (by decide)).mp z)) hz)
  refine jv_Wp.lift (fun _ Kz => jv_Ev.steps jv_i391 1 (pc' := 86) (l' := [(2, .long xd), (1, .int (1 : Int32)), (0, .ref 178)]) (st' := [.ref 178]) rfl Kz) ?_
  refine jv_Wp.lift (fun _ Kz => jv_Ev.c jv_i391 (pc' := 89) (S' := [.int (1 : Int32)]) jv_i387 [.ref 178] rfl rfl rfl rfl (jv_cal rfl (jv_H_at (jv_rwK hW 178 14 31 (by decide))) rfl rfl) rfl (by have z := vr_mbit3 (L := L) (n := n) (sl := sl) hW D; rw [hb3] at z; exact z) rfl rfl Kz) ?_
  refine jv_Wp.lift (fun _ Kz => jv_Ev.br jv_i391 (pc' := 92) (st' := []) rfl (by rfl) Kz) ?_
  refine jv_Wp.lift (fun _ Kz => jv_Ev.steps jv_i391 2 (pc' := 94) (l' := [(2, .long xd), (1, .int (1 : Int32)), (0, .ref 178)]) (st' := [.ref 178, .ref 178]) rfl Kz) ?_
  refine jv_Wp.lift (fun _ Kz => jv_Ev.m jv_i391 (pc' := 97) (st' := [.int (vl_I f.s), .ref 178]) (G' := (jv_H K I L R)) rfl rfl (jv_m_getI (jv_rwK hW 178 14 31 (by decide)) rfl rfl (vm_d_s D)) Kz) ?_
  refine jv_Wp.lift (fun _ Kz => jv_Ev.c jv_i391 (pc' := 100) (S' := [.long xs]) jv_i374 [.ref 178, .int (vl_I f.s)] rfl rfl rfl rfl (jv_cal rfl (jv_H_at (jv_rwK hW 178 14 31 (by decide))) rfl rfl) rfl (vr_readR hW h hs hgs) rfl rfl Kz) ?_
  refine jv_Wp.lift (fun _ Kz => jv_Ev.steps jv_i391 4 (pc' := 112) (l' := [(4, .long xs), (2, .long xd), (1, .int (1 : Int32)), (0, .ref 178)]) (st' := [.ref 178, .ref 178]) rfl Kz) ?_
  refine jv_Wp.lift (fun _ Kz => jv_Ev.m jv_i391 (pc' := 115) (st' := [.int (vl_I f.d), .ref 178]) (G' := (jv_H K I L R)) rfl rfl (jv_m_getI (jv_rwK hW 178 14 31 (by decide)) rfl rfl (vm_d_d D)) Kz) ?_
  refine jv_Wp.lift (fun _ Kz => jv_Ev.steps jv_i391 1 (pc' := 116) (l' := [(4, .long xs), (2, .long xd), (1, .int (1 : Int32)), (0, .ref 178)]) (st' := [.int (1 : Int32), .int (vl_I f.d), .ref 178]) rfl Kz) ?_
  refine jv_Wp.lift (fun _ Kz => jv_Ev.br jv_i391 (pc' := 119) (st' := [.int (vl_I f.d), .ref 178]) rfl (by rfl) Kz) ?_
  refine jv_Wp.lift (fun _ Kz => jv_Ev.steps jv_i391 4 (pc' := 125) (l' := [(4, .long xs), (2, .long xd), (1, .int (1 : Int32)), (0, .ref 178)]) (st' := [.int (64 : Int32), .long xs, .long xd, .ref 178, .int (vl_I f.d), .ref 178]) rfl Kz) ?_
  refine jv_Wp.lift (fun _ Kz => jv_Ev.c jv_i391 (pc' := 128) (S' := [.long (Int64.ofBitVec (vx_do f (xd).toBitVec (xs).toBitVec (vm_sg f (xd).toBitVec (xs).toBitVec))), .int (vl_I f.d), .ref 178]) jv_i382 [.ref 178, .long xd, .long xs, .int (64 : Int32)] rfl rfl rfl rfl (jv_cal rfl (jv_H_at (jv_rwK hW 178 14 31 (by decide))) rfl rfl) rfl (vr_reck64 hW D har (by omega) hk) rfl rfl Kz) ?_
  refine jv_Wp.lift (fun _ Kz => jv_Ev.steps jv_i391 1 (pc' := 155) (l' := [(4, .long xs), (2, .long xd), (1, .int (1 : Int32)), (0, .ref 178)]) (st' := [.long (Int64.ofBitVec (vx_do f (xd).toBitVec (xs).toBitVec (vm_sg f (xd).toBitVec (xs).toBitVec))), .int (vl_I f.d), .ref 178]) rfl Kz) ?_
  refine jv_Wp.lift (fun _ Kz => jv_Ev.c jv_i391 (pc' := 158) (S' := []) (G1 := (jv_H K (jv_u I 221 f.d 1) (jv_u L 220 f.d (Int64.ofBitVec (vx_do f (xd).toBitVec (xs).toBitVec (vm_sg f (xd).toBitVec (xs).toBitVec)))) R)) jv_i375 [.ref 178, .int (vl_I f.d), .long (Int64.ofBitVec (vx_do f (xd).toBitVec (xs).toBitVec (vm_sg f (xd).toBitVec (xs).toBitVec)))] rfl rfl rfl rfl (jv_cal rfl (jv_H_at (jv_rwK hW 178 14 31 (by decide))) rfl rfl) rfl (vr_give (I := I) (L := L) (n := n) (sl := sl) (r := f.d) hW (by omega)) rfl rfl Kz) ?_
  refine jv_Wp.of (jv_Ev.ret jv_i391 rfl rfl) ?_
  have ev : (Int64.ofBitVec (vx_do f (xd).toBitVec (xs).toBitVec (vm_sg f (xd).toBitVec (xs).toBitVec))) = Int64.ofBitVec (vx_do f x.toBitVec y.toBitVec (vm_sg f x.toBitVec y.toBitVec)) := congrArg Int64.ofBitVec (by rw [exd, exs])
  rw [hQ, ev]
  exact ⟨_, _, rfl, vm_r_gv h, vr_gv_ff (vc_ff_refl _ I L)⟩
theorem vr_arith7oi {K : Nat → Option (Nat × Nat)} {I : Nat → Nat → Int32} {L : Nat → Nat → Int64} {R : Nat → Nat → Value} (hW : jv_rW K R) {S T : vm_S} (hsh : vm_sh S) (h : vm_r I L S) {f : vf_F} (D : vm_D I f) (hd : f.d < 11) (hs : f.s < 11) (har : vf_ar f) (hk : f.kind = 7) (hn11 : f.n ≠ 11) (hn13 : f.n ≠ 13) (hb3 : f.bit3 = false) (hl : vm_arith f S = some T) {n sl : Nat} : ∃ I1 L1, jv_Ms 391 [.ref 178] (jv_H K I L R) n sl (none, jv_H K I1 L1 R, n, sl) ∧ vm_r I1 L1 T ∧ vc_ff vr_Er I L I1 L1 := by
  obtain ⟨Q, hQ⟩ : ∃ Q : jv_R → Prop, Q = fun X => ∃ I1 L1, X = (none, jv_H K I1 L1 R, n, sl) ∧ vm_r I1 L1 T ∧ vc_ff vr_Er I L I1 L1 := ⟨_, rfl⟩
  suffices hE : jv_Wp 391 0 [(0, .ref 178)] [] (jv_H K I L R) n sl Q by
    rw [hQ] at hE
    obtain ⟨X, hE, I1, L1, e, h'⟩ := hE
    subst e
    exact ⟨I1, L1, hE, h'⟩
  obtain ⟨x, y, hx, hy, hT⟩ := vm_arith_dec hl
  subst hT
  have hn256 : f.n < 256 := by have : f.n = f.code / 16 := rfl; have := vr_dc D; omega
  rw [if_neg (show ¬ f.n = 11 by omega)] at hx
  obtain ⟨xd, exd⟩ : ∃ xd, xd = x := ⟨x, rfl⟩
  have hgd : vm_rd S f.d = some xd := exd ▸ hx
  rw [if_neg (show ¬ f.n = 13 by omega)] at hy
  rw [if_neg (by rw [hb3]; decide)] at hy
  have exs : (Int32.ofInt f.i).toInt64 = y := (vm_io (vr_dQ D)).trans (Option.some.inj hy)
  refine jv_Wp.lift (fun _ Kz => jv_Ev.steps jv_i391 1 (pc' := 1) (l' := [(0, .ref 178)]) (st' := [.ref 178]) rfl Kz) ?_
  refine jv_Wp.lift (fun _ Kz => jv_Ev.c jv_i391 (pc' := 4) (S' := [.int (7 : Int32)]) jv_i385 [.ref 178] rfl rfl rfl rfl (jv_cal rfl (jv_H_at (jv_rwK hW 178 14 31 (by decide))) rfl rfl) rfl (by have z := vr_mkind (L := L) (n := n) (sl := sl) hW D; rw [hk] at z; exact z) rfl rfl Kz) ?_
  refine jv_Wp.lift (fun _ Kz => jv_Ev.steps jv_i391 1 (pc' := 6) (l' := [(0, .ref 178)]) (st' := [.int (7 : Int32), .int (7 : Int32)]) rfl Kz) ?_
  refine jv_Wp.lift (fun _ Kz => jv_Ev.br jv_i391 (pc' := 9) (st' := []) rfl (by rfl) Kz) ?_
  refine jv_Wp.lift (fun _ Kz => jv_Ev.steps jv_i391 4 (pc' := 16) (l' := [(1, .int (1 : Int32)), (0, .ref 178)]) (st' := [.ref 178]) rfl Kz) ?_
  refine jv_Wp.lift (fun _ Kz => jv_Ev.c jv_i391 (pc' := 19) (S' := [.int (vl_I f.n)]) jv_i386 [.ref 178] rfl rfl rfl rfl (jv_cal rfl (jv_H_at (jv_rwK hW 178 14 31 (by decide))) rfl rfl) rfl (vr_mn hW D) rfl rfl Kz) ?_
  refine jv_Wp.lift (fun _ Kz => jv_Ev.steps jv_i391 1 (pc' := 21) (l' := [(1, .int (1 : Int32)), (0, .ref 178)]) (st' := [.int (11 : Int32), .int (vl_I f.n)]) rfl Kz) ?_
  refine jv_Wp.cnd jv_i391 (pt := 28) (pe := 24) (p := (¬ (vl_I f.n) = (11 : Int32))) (q := (¬ (vl_I f.n) = (11 : Int32))) rfl jv_bc_ne rfl rfl Iff.rfl (fun _ => ?_) (fun hz => absurd (fun z => hn11 ((vl_I_inj (a := f.n) (b := 11) (by omega) (by decide)).mp z)) hz)
  refine jv_Wp.lift (fun _ Kz => jv_Ev.steps jv_i391 2 (pc' := 30) (l' := [(1, .int (1 : Int32)), (0, .ref 178)]) (st' := [.ref 178, .ref 178]) rfl Kz) ?_
  refine jv_Wp.lift (fun _ Kz => jv_Ev.m jv_i391 (pc' := 33) (st' := [.int (vl_I f.d), .ref 178]) (G' := (jv_H K I L R)) rfl rfl (jv_m_getI (jv_rwK hW 178 14 31 (by decide)) rfl rfl (vm_d_d D)) Kz) ?_
  refine jv_Wp.lift (fun _ Kz => jv_Ev.c jv_i391 (pc' := 36) (S' := [.long xd]) jv_i374 [.ref 178, .int (vl_I f.d)] rfl rfl rfl rfl (jv_cal rfl (jv_H_at (jv_rwK hW 178 14 31 (by decide))) rfl rfl) rfl (vr_readR hW h hd hgd) rfl rfl Kz) ?_
  refine jv_Wp.lift (fun _ Kz => jv_Ev.steps jv_i391 2 (pc' := 38) (l' := [(2, .long xd), (1, .int (1 : Int32)), (0, .ref 178)]) (st' := [.ref 178]) rfl Kz) ?_
  refine jv_Wp.lift (fun _ Kz => jv_Ev.c jv_i391 (pc' := 41) (S' := [.int (vl_I f.n)]) jv_i386 [.ref 178] rfl rfl rfl rfl (jv_cal rfl (jv_H_at (jv_rwK hW 178 14 31 (by decide))) rfl rfl) rfl (vr_mn hW D) rfl rfl Kz) ?_
  refine jv_Wp.lift (fun _ Kz => jv_Ev.steps jv_i391 1 (pc' := 43) (l' := [(2, .long xd), (1, .int (1 : Int32)), (0, .ref 178)]) (st' := [.int (13 : Int32), .int (vl_I f.n)]) rfl Kz) ?_
  refine jv_Wp.cnd jv_i391 (pt := 85) (pe := 46) (p := (¬ (vl_I f.n) = (13 : Int32))) (q := (¬ (vl_I f.n) = (13 : Int32))) rfl jv_bc_ne rfl rfl Iff.rfl (fun _ => ?_) (fun hz => absurd (fun z => hn13 ((vl_I_inj (a := f.n) (b := 13) (by omega) (by decide)).mp z)) hz)
  refine jv_Wp.lift (fun _ Kz => jv_Ev.steps jv_i391 1 (pc' := 86) (l' := [(2, .long xd), (1, .int (1 : Int32)), (0, .ref 178)]) (st' := [.ref 178]) rfl Kz) ?_
  refine jv_Wp.lift (fun _ Kz => jv_Ev.c jv_i391 (pc' := 89) (S' := [.int (0 : Int32)]) jv_i387 [.ref 178] rfl rfl rfl rfl (jv_cal rfl (jv_H_at (jv_rwK hW 178 14 31 (by decide))) rfl rfl) rfl (by have z := vr_mbit3 (L := L) (n := n) (sl := sl) hW D; rw [hb3] at z; exact z) rfl rfl Kz) ?_
  refine jv_Wp.lift (fun _ Kz => jv_Ev.br jv_i391 (pc' := 103) (st' := []) rfl (by rfl) Kz) ?_
  refine jv_Wp.lift (fun _ Kz => jv_Ev.steps jv_i391 1 (pc' := 104) (l' := [(2, .long xd), (1, .int (1 : Int32)), (0, .ref 178)]) (st' := [.ref 178]) rfl Kz) ?_
  refine jv_Wp.lift (fun _ Kz => jv_Ev.m jv_i391 (pc' := 107) (st' := [.int (Int32.ofInt f.i)]) (G' := (jv_H K I L R)) rfl rfl (jv_m_getI (jv_rwK hW 178 14 31 (by decide)) rfl rfl (vm_d_i D)) Kz) ?_
  refine jv_Wp.lift (fun _ Kz => jv_Ev.steps jv_i391 4 (pc' := 112) (l' := [(4, .long (Int32.ofInt f.i).toInt64), (2, .long xd), (1, .int (1 : Int32)), (0, .ref 178)]) (st' := [.ref 178, .ref 178]) rfl Kz) ?_
  refine jv_Wp.lift (fun _ Kz => jv_Ev.m jv_i391 (pc' := 115) (st' := [.int (vl_I f.d), .ref 178]) (G' := (jv_H K I L R)) rfl rfl (jv_m_getI (jv_rwK hW 178 14 31 (by decide)) rfl rfl (vm_d_d D)) Kz) ?_
  refine jv_Wp.lift (fun _ Kz => jv_Ev.steps jv_i391 1 (pc' := 116) (l' := [(4, .long (Int32.ofInt f.i).toInt64), (2, .long xd), (1, .int (1 : Int32)), (0, .ref 178)]) (st' := [.int (1 : Int32), .int (vl_I f.d), .ref 178]) rfl Kz) ?_
  refine jv_Wp.lift (fun _ Kz => jv_Ev.br jv_i391 (pc' := 119) (st' := [.int (vl_I f.d), .ref 178]) rfl (by rfl) Kz) ?_
  refine jv_Wp.lift (fun _ Kz => jv_Ev.steps jv_i391 4 (pc' := 125) (l' := [(4, .long (Int32.ofInt f.i).toInt64), (2, .long xd), (1, .int (1 : Int32)), (0, .ref 178)]) (st' := [.int (64 : Int32), .long (Int32.ofInt f.i).toInt64, .long xd, .ref 178, .int (vl_I f.d), .ref 178]) rfl Kz) ?_
  refine jv_Wp.lift (fun _ Kz => jv_Ev.c jv_i391 (pc' := 128) (S' := [.long (Int64.ofBitVec (vx_do f (xd).toBitVec ((Int32.ofInt f.i).toInt64).toBitVec (vm_sg f (xd).toBitVec ((Int32.ofInt f.i).toInt64).toBitVec))), .int (vl_I f.d), .ref 178]) jv_i382 [.ref 178, .long xd, .long (Int32.ofInt f.i).toInt64, .int (64 : Int32)] rfl rfl rfl rfl (jv_cal rfl (jv_H_at (jv_rwK hW 178 14 31 (by decide))) rfl rfl) rfl (vr_reck64 hW D har (by omega) hk) rfl rfl Kz) ?_
  refine jv_Wp.lift (fun _ Kz => jv_Ev.steps jv_i391 1 (pc' := 155) (l' := [(4, .long (Int32.ofInt f.i).toInt64), (2, .long xd), (1, .int (1 : Int32)), (0, .ref 178)]) (st' := [.long (Int64.ofBitVec (vx_do f (xd).toBitVec ((Int32.ofInt f.i).toInt64).toBitVec (vm_sg f (xd).toBitVec ((Int32.ofInt f.i).toInt64).toBitVec))), .int (vl_I f.d), .ref 178]) rfl Kz) ?_
  refine jv_Wp.lift (fun _ Kz => jv_Ev.c jv_i391 (pc' := 158) (S' := []) (G1 := (jv_H K (jv_u I 221 f.d 1) (jv_u L 220 f.d (Int64.ofBitVec (vx_do f (xd).toBitVec ((Int32.ofInt f.i).toInt64).toBitVec (vm_sg f (xd).toBitVec ((Int32.ofInt f.i).toInt64).toBitVec)))) R)) jv_i375 [.ref 178, .int (vl_I f.d), .long (Int64.ofBitVec (vx_do f (xd).toBitVec ((Int32.ofInt f.i).toInt64).toBitVec (vm_sg f (xd).toBitVec ((Int32.ofInt f.i).toInt64).toBitVec)))] rfl rfl rfl rfl (jv_cal rfl (jv_H_at (jv_rwK hW 178 14 31 (by decide))) rfl rfl) rfl (vr_give (I := I) (L := L) (n := n) (sl := sl) (r := f.d) hW (by omega)) rfl rfl Kz) ?_
  refine jv_Wp.of (jv_Ev.ret jv_i391 rfl rfl) ?_
  have ev : (Int64.ofBitVec (vx_do f (xd).toBitVec ((Int32.ofInt f.i).toInt64).toBitVec (vm_sg f (xd).toBitVec ((Int32.ofInt f.i).toInt64).toBitVec))) = Int64.ofBitVec (vx_do f x.toBitVec y.toBitVec (vm_sg f x.toBitVec y.toBitVec)) := congrArg Int64.ofBitVec (by rw [exd, exs])
  rw [hQ, ev]
  exact ⟨_, _, rfl, vm_r_gv h, vr_gv_ff (vc_ff_refl _ I L)⟩
theorem vr_arith4tr {K : Nat → Option (Nat × Nat)} {I : Nat → Nat → Int32} {L : Nat → Nat → Int64} {R : Nat → Nat → Value} (hW : jv_rW K R) {S T : vm_S} (hsh : vm_sh S) (h : vm_r I L S) {f : vf_F} (D : vm_D I f) (hd : f.d < 11) (hs : f.s < 11) (har : vf_ar f) (hk : f.kind = 4) (hn : f.n = 13) (hb3 : f.bit3 = true) (hl : vm_arith f S = some T) {n sl : Nat} : ∃ I1 L1, jv_Ms 391 [.ref 178] (jv_H K I L R) n sl (none, jv_H K I1 L1 R, n, sl) ∧ vm_r I1 L1 T ∧ vc_ff vr_Er I L I1 L1 := by
  obtain ⟨Q, hQ⟩ : ∃ Q : jv_R → Prop, Q = fun X => ∃ I1 L1, X = (none, jv_H K I1 L1 R, n, sl) ∧ vm_r I1 L1 T ∧ vc_ff vr_Er I L I1 L1 := ⟨_, rfl⟩
  suffices hE : jv_Wp 391 0 [(0, .ref 178)] [] (jv_H K I L R) n sl Q by
    rw [hQ] at hE
    obtain ⟨X, hE, I1, L1, e, h'⟩ := hE
    subst e
    exact ⟨I1, L1, hE, h'⟩
  obtain ⟨x, y, hx, hy, hT⟩ := vm_arith_dec hl
  subst hT
  have hn256 : f.n < 256 := by have : f.n = f.code / 16 := rfl; have := vr_dc D; omega
  rw [if_neg (show ¬ f.n = 11 by omega)] at hx
  obtain ⟨xd, exd⟩ : ∃ xd, xd = x := ⟨x, rfl⟩
  have hgd : vm_rd S f.d = some xd := exd ▸ hx
  have hi3 : f.i.toNat = 16 ∨ f.i.toNat = 32 ∨ f.i.toNat = 64 := by have := har.2.2.2.2 hn; omega
  have hI : Int32.ofInt f.i = vl_I f.i.toNat := vm_oi (vr_dQ D) (by have := har.2.2.2.2 hn; omega) (by omega)
  have hL : jv_Ms 381 [.long xd, .int (Int32.ofInt f.i)] (jv_H K I L R) n sl (some (.long (Int64.ofBitVec (xd.toBitVec &&& vb_lowest f.i.toNat))), jv_H K I L R, n, sl) := by
    rw [hI]
    rcases hi3 with e | e | e <;> rw [e]
    · exact vr_low16
    · exact vr_low32
    · exact vr_low64
  refine jv_Wp.lift (fun _ Kz => jv_Ev.steps jv_i391 1 (pc' := 1) (l' := [(0, .ref 178)]) (st' := [.ref 178]) rfl Kz) ?_
  refine jv_Wp.lift (fun _ Kz => jv_Ev.c jv_i391 (pc' := 4) (S' := [.int (4 : Int32)]) jv_i385 [.ref 178] rfl rfl rfl rfl (jv_cal rfl (jv_H_at (jv_rwK hW 178 14 31 (by decide))) rfl rfl) rfl (by have z := vr_mkind (L := L) (n := n) (sl := sl) hW D; rw [hk] at z; exact z) rfl rfl Kz) ?_
  refine jv_Wp.lift (fun _ Kz => jv_Ev.steps jv_i391 1 (pc' := 6) (l' := [(0, .ref 178)]) (st' := [.int (7 : Int32), .int (4 : Int32)]) rfl Kz) ?_
  refine jv_Wp.lift (fun _ Kz => jv_Ev.br jv_i391 (pc' := 13) (st' := []) rfl (by rfl) Kz) ?_
  refine jv_Wp.lift (fun _ Kz => jv_Ev.steps jv_i391 3 (pc' := 16) (l' := [(1, .int (0 : Int32)), (0, .ref 178)]) (st' := [.ref 178]) rfl Kz) ?_
  refine jv_Wp.lift (fun _ Kz => jv_Ev.c jv_i391 (pc' := 19) (S' := [.int (13 : Int32)]) jv_i386 [.ref 178] rfl rfl rfl rfl (jv_cal rfl (jv_H_at (jv_rwK hW 178 14 31 (by decide))) rfl rfl) rfl (by have z := vr_mn (L := L) (n := n) (sl := sl) hW D; rw [hn] at z; exact z) rfl rfl Kz) ?_
  refine jv_Wp.lift (fun _ Kz => jv_Ev.steps jv_i391 1 (pc' := 21) (l' := [(1, .int (0 : Int32)), (0, .ref 178)]) (st' := [.int (11 : Int32), .int (13 : Int32)]) rfl Kz) ?_
  refine jv_Wp.lift (fun _ Kz => jv_Ev.br jv_i391 (pc' := 28) (st' := []) rfl (by rfl) Kz) ?_
  refine jv_Wp.lift (fun _ Kz => jv_Ev.steps jv_i391 2 (pc' := 30) (l' := [(1, .int (0 : Int32)), (0, .ref 178)]) (st' := [.ref 178, .ref 178]) rfl Kz) ?_
  refine jv_Wp.lift (fun _ Kz => jv_Ev.m jv_i391 (pc' := 33) (st' := [.int (vl_I f.d), .ref 178]) (G' := (jv_H K I L R)) rfl rfl (jv_m_getI (jv_rwK hW 178 14 31 (by decide)) rfl rfl (vm_d_d D)) Kz) ?_
  refine jv_Wp.lift (fun _ Kz => jv_Ev.c jv_i391 (pc' := 36) (S' := [.long xd]) jv_i374 [.ref 178, .int (vl_I f.d)] rfl rfl rfl rfl (jv_cal rfl (jv_H_at (jv_rwK hW 178 14 31 (by decide))) rfl rfl) rfl (vr_readR hW h hd hgd) rfl rfl Kz) ?_
  refine jv_Wp.lift (fun _ Kz => jv_Ev.steps jv_i391 2 (pc' := 38) (l' := [(2, .long xd), (1, .int (0 : Int32)), (0, .ref 178)]) (st' := [.ref 178]) rfl Kz) ?_
  refine jv_Wp.lift (fun _ Kz => jv_Ev.c jv_i391 (pc' := 41) (S' := [.int (13 : Int32)]) jv_i386 [.ref 178] rfl rfl rfl rfl (jv_cal rfl (jv_H_at (jv_rwK hW 178 14 31 (by decide))) rfl rfl) rfl (by have z := vr_mn (L := L) (n := n) (sl := sl) hW D; rw [hn] at z; exact z) rfl rfl Kz) ?_
  refine jv_Wp.lift (fun _ Kz => jv_Ev.steps jv_i391 1 (pc' := 43) (l' := [(2, .long xd), (1, .int (0 : Int32)), (0, .ref 178)]) (st' := [.int (13 : Int32), .int (13 : Int32)]) rfl Kz) ?_
  refine jv_Wp.lift (fun _ Kz => jv_Ev.br jv_i391 (pc' := 46) (st' := []) rfl (by rfl) Kz) ?_
  refine jv_Wp.lift (fun _ Kz => jv_Ev.steps jv_i391 2 (pc' := 48) (l' := [(2, .long xd), (1, .int (0 : Int32)), (0, .ref 178)]) (st' := [.ref 178, .ref 178]) rfl Kz) ?_
  refine jv_Wp.lift (fun _ Kz => jv_Ev.m jv_i391 (pc' := 51) (st' := [.int (vl_I f.d), .ref 178]) (G' := (jv_H K I L R)) rfl rfl (jv_m_getI (jv_rwK hW 178 14 31 (by decide)) rfl rfl (vm_d_d D)) Kz) ?_
  refine jv_Wp.lift (fun _ Kz => jv_Ev.steps jv_i391 1 (pc' := 52) (l' := [(2, .long xd), (1, .int (0 : Int32)), (0, .ref 178)]) (st' := [.int (0 : Int32), .int (vl_I f.d), .ref 178]) rfl Kz) ?_
  refine jv_Wp.lift (fun _ Kz => jv_Ev.br jv_i391 (pc' := 55) (st' := [.int (vl_I f.d), .ref 178]) rfl (by rfl) Kz) ?_
  refine jv_Wp.lift (fun _ Kz => jv_Ev.steps jv_i391 1 (pc' := 56) (l' := [(2, .long xd), (1, .int (0 : Int32)), (0, .ref 178)]) (st' := [.ref 178, .int (vl_I f.d), .ref 178]) rfl Kz) ?_
  refine jv_Wp.lift (fun _ Kz => jv_Ev.c jv_i391 (pc' := 59) (S' := [.int (1 : Int32), .int (vl_I f.d), .ref 178]) jv_i387 [.ref 178] rfl rfl rfl rfl (jv_cal rfl (jv_H_at (jv_rwK hW 178 14 31 (by decide))) rfl rfl) rfl (by have z := vr_mbit3 (L := L) (n := n) (sl := sl) hW D; rw [hb3] at z; exact z) rfl rfl Kz) ?_
  refine jv_Wp.lift (fun _ Kz => jv_Ev.br jv_i391 (pc' := 62) (st' := [.int (vl_I f.d), .ref 178]) rfl (by rfl) Kz) ?_
  refine jv_Wp.lift (fun _ Kz => jv_Ev.steps jv_i391 2 (pc' := 64) (l' := [(2, .long xd), (1, .int (0 : Int32)), (0, .ref 178)]) (st' := [.ref 178, .long xd, .int (vl_I f.d), .ref 178]) rfl Kz) ?_
  refine jv_Wp.lift (fun _ Kz => jv_Ev.m jv_i391 (pc' := 67) (st' := [.int (Int32.ofInt f.i), .long xd, .int (vl_I f.d), .ref 178]) (G' := (jv_H K I L R)) rfl rfl (jv_m_getI (jv_rwK hW 178 14 31 (by decide)) rfl rfl (vm_d_i D)) Kz) ?_
  refine jv_Wp.lift (fun _ Kz => jv_Ev.c jv_i391 (pc' := 70) (S' := [.long (Int64.ofBitVec (vb_turned xd.toBitVec f.i.toNat)), .int (vl_I f.d), .ref 178]) jv_i379 [.long xd, .int (Int32.ofInt f.i)] rfl rfl rfl rfl rfl rfl (show jv_Ms 379 [.long xd, .int (Int32.ofInt f.i)] _ _ _ _ from by rw [hI]; exact vr_turned hi3) rfl rfl Kz) ?_
  refine jv_Wp.lift (fun _ Kz => jv_Ev.steps jv_i391 1 (pc' := 81) (l' := [(2, .long xd), (1, .int (0 : Int32)), (0, .ref 178)]) (st' := [.long (Int64.ofBitVec (vb_turned xd.toBitVec f.i.toNat)), .int (vl_I f.d), .ref 178]) rfl Kz) ?_
  refine jv_Wp.lift (fun _ Kz => jv_Ev.c jv_i391 (pc' := 84) (S' := []) (G1 := (jv_H K (jv_u I 221 f.d 1) (jv_u L 220 f.d (Int64.ofBitVec (vb_turned xd.toBitVec f.i.toNat))) R)) jv_i375 [.ref 178, .int (vl_I f.d), .long (Int64.ofBitVec (vb_turned xd.toBitVec f.i.toNat))] rfl rfl rfl rfl (jv_cal rfl (jv_H_at (jv_rwK hW 178 14 31 (by decide))) rfl rfl) rfl (vr_give (I := I) (L := L) (n := n) (sl := sl) (r := f.d) hW (by omega)) rfl rfl Kz) ?_
  refine jv_Wp.of (jv_Ev.ret jv_i391 rfl rfl) ?_
  have ev : (Int64.ofBitVec (vb_turned xd.toBitVec f.i.toNat)) = Int64.ofBitVec (vx_do f x.toBitVec y.toBitVec (vm_sg f x.toBitVec y.toBitVec)) := congrArg Int64.ofBitVec (by unfold vx_do; rw [if_pos hn, if_pos (by first | exact Or.inl hk | exact Or.inr hb3), vb_turned_low hi3, exd])
  rw [hQ, ev]
  exact ⟨_, _, rfl, vm_r_gv h, vr_gv_ff (vc_ff_refl _ I L)⟩
theorem vr_arith4ti {K : Nat → Option (Nat × Nat)} {I : Nat → Nat → Int32} {L : Nat → Nat → Int64} {R : Nat → Nat → Value} (hW : jv_rW K R) {S T : vm_S} (hsh : vm_sh S) (h : vm_r I L S) {f : vf_F} (D : vm_D I f) (hd : f.d < 11) (hs : f.s < 11) (har : vf_ar f) (hk : f.kind = 4) (hn : f.n = 13) (hb3 : f.bit3 = false) (hl : vm_arith f S = some T) {n sl : Nat} : ∃ I1 L1, jv_Ms 391 [.ref 178] (jv_H K I L R) n sl (none, jv_H K I1 L1 R, n, sl) ∧ vm_r I1 L1 T ∧ vc_ff vr_Er I L I1 L1 := by
  obtain ⟨Q, hQ⟩ : ∃ Q : jv_R → Prop, Q = fun X => ∃ I1 L1, X = (none, jv_H K I1 L1 R, n, sl) ∧ vm_r I1 L1 T ∧ vc_ff vr_Er I L I1 L1 := ⟨_, rfl⟩
  suffices hE : jv_Wp 391 0 [(0, .ref 178)] [] (jv_H K I L R) n sl Q by
    rw [hQ] at hE
    obtain ⟨X, hE, I1, L1, e, h'⟩ := hE
    subst e
    exact ⟨I1, L1, hE, h'⟩
  obtain ⟨x, y, hx, hy, hT⟩ := vm_arith_dec hl
  subst hT
  have hn256 : f.n < 256 := by have : f.n = f.code / 16 := rfl; have := vr_dc D; omega
  rw [if_neg (show ¬ f.n = 11 by omega)] at hx
  obtain ⟨xd, exd⟩ : ∃ xd, xd = x := ⟨x, rfl⟩
  have hgd : vm_rd S f.d = some xd := exd ▸ hx
  have hi3 : f.i.toNat = 16 ∨ f.i.toNat = 32 ∨ f.i.toNat = 64 := by have := har.2.2.2.2 hn; omega
  have hI : Int32.ofInt f.i = vl_I f.i.toNat := vm_oi (vr_dQ D) (by have := har.2.2.2.2 hn; omega) (by omega)
  have hL : jv_Ms 381 [.long xd, .int (Int32.ofInt f.i)] (jv_H K I L R) n sl (some (.long (Int64.ofBitVec (xd.toBitVec &&& vb_lowest f.i.toNat))), jv_H K I L R, n, sl) := by
    rw [hI]
    rcases hi3 with e | e | e <;> rw [e]
    · exact vr_low16
    · exact vr_low32
    · exact vr_low64
  refine jv_Wp.lift (fun _ Kz => jv_Ev.steps jv_i391 1 (pc' := 1) (l' := [(0, .ref 178)]) (st' := [.ref 178]) rfl Kz) ?_
  refine jv_Wp.lift (fun _ Kz => jv_Ev.c jv_i391 (pc' := 4) (S' := [.int (4 : Int32)]) jv_i385 [.ref 178] rfl rfl rfl rfl (jv_cal rfl (jv_H_at (jv_rwK hW 178 14 31 (by decide))) rfl rfl) rfl (by have z := vr_mkind (L := L) (n := n) (sl := sl) hW D; rw [hk] at z; exact z) rfl rfl Kz) ?_
  refine jv_Wp.lift (fun _ Kz => jv_Ev.steps jv_i391 1 (pc' := 6) (l' := [(0, .ref 178)]) (st' := [.int (7 : Int32), .int (4 : Int32)]) rfl Kz) ?_
  refine jv_Wp.lift (fun _ Kz => jv_Ev.br jv_i391 (pc' := 13) (st' := []) rfl (by rfl) Kz) ?_
  refine jv_Wp.lift (fun _ Kz => jv_Ev.steps jv_i391 3 (pc' := 16) (l' := [(1, .int (0 : Int32)), (0, .ref 178)]) (st' := [.ref 178]) rfl Kz) ?_
  refine jv_Wp.lift (fun _ Kz => jv_Ev.c jv_i391 (pc' := 19) (S' := [.int (13 : Int32)]) jv_i386 [.ref 178] rfl rfl rfl rfl (jv_cal rfl (jv_H_at (jv_rwK hW 178 14 31 (by decide))) rfl rfl) rfl (by have z := vr_mn (L := L) (n := n) (sl := sl) hW D; rw [hn] at z; exact z) rfl rfl Kz) ?_
  refine jv_Wp.lift (fun _ Kz => jv_Ev.steps jv_i391 1 (pc' := 21) (l' := [(1, .int (0 : Int32)), (0, .ref 178)]) (st' := [.int (11 : Int32), .int (13 : Int32)]) rfl Kz) ?_
  refine jv_Wp.lift (fun _ Kz => jv_Ev.br jv_i391 (pc' := 28) (st' := []) rfl (by rfl) Kz) ?_
  refine jv_Wp.lift (fun _ Kz => jv_Ev.steps jv_i391 2 (pc' := 30) (l' := [(1, .int (0 : Int32)), (0, .ref 178)]) (st' := [.ref 178, .ref 178]) rfl Kz) ?_
  refine jv_Wp.lift (fun _ Kz => jv_Ev.m jv_i391 (pc' := 33) (st' := [.int (vl_I f.d), .ref 178]) (G' := (jv_H K I L R)) rfl rfl (jv_m_getI (jv_rwK hW 178 14 31 (by decide)) rfl rfl (vm_d_d D)) Kz) ?_
  refine jv_Wp.lift (fun _ Kz => jv_Ev.c jv_i391 (pc' := 36) (S' := [.long xd]) jv_i374 [.ref 178, .int (vl_I f.d)] rfl rfl rfl rfl (jv_cal rfl (jv_H_at (jv_rwK hW 178 14 31 (by decide))) rfl rfl) rfl (vr_readR hW h hd hgd) rfl rfl Kz) ?_
  refine jv_Wp.lift (fun _ Kz => jv_Ev.steps jv_i391 2 (pc' := 38) (l' := [(2, .long xd), (1, .int (0 : Int32)), (0, .ref 178)]) (st' := [.ref 178]) rfl Kz) ?_
  refine jv_Wp.lift (fun _ Kz => jv_Ev.c jv_i391 (pc' := 41) (S' := [.int (13 : Int32)]) jv_i386 [.ref 178] rfl rfl rfl rfl (jv_cal rfl (jv_H_at (jv_rwK hW 178 14 31 (by decide))) rfl rfl) rfl (by have z := vr_mn (L := L) (n := n) (sl := sl) hW D; rw [hn] at z; exact z) rfl rfl Kz) ?_
  refine jv_Wp.lift (fun _ Kz => jv_Ev.steps jv_i391 1 (pc' := 43) (l' := [(2, .long xd), (1, .int (0 : Int32)), (0, .ref 178)]) (st' := [.int (13 : Int32), .int (13 : Int32)]) rfl Kz) ?_
  refine jv_Wp.lift (fun _ Kz => jv_Ev.br jv_i391 (pc' := 46) (st' := []) rfl (by rfl) Kz) ?_
  refine jv_Wp.lift (fun _ Kz => jv_Ev.steps jv_i391 2 (pc' := 48) (l' := [(2, .long xd), (1, .int (0 : Int32)), (0, .ref 178)]) (st' := [.ref 178, .ref 178]) rfl Kz) ?_
  refine jv_Wp.lift (fun _ Kz => jv_Ev.m jv_i391 (pc' := 51) (st' := [.int (vl_I f.d), .ref 178]) (G' := (jv_H K I L R)) rfl rfl (jv_m_getI (jv_rwK hW 178 14 31 (by decide)) rfl rfl (vm_d_d D)) Kz) ?_
  refine jv_Wp.lift (fun _ Kz => jv_Ev.steps jv_i391 1 (pc' := 52) (l' := [(2, .long xd), (1, .int (0 : Int32)), (0, .ref 178)]) (st' := [.int (0 : Int32), .int (vl_I f.d), .ref 178]) rfl Kz) ?_
  refine jv_Wp.lift (fun _ Kz => jv_Ev.br jv_i391 (pc' := 55) (st' := [.int (vl_I f.d), .ref 178]) rfl (by rfl) Kz) ?_
  refine jv_Wp.lift (fun _ Kz => jv_Ev.steps jv_i391 1 (pc' := 56) (l' := [(2, .long xd), (1, .int (0 : Int32)), (0, .ref 178)]) (st' := [.ref 178, .int (vl_I f.d), .ref 178]) rfl Kz) ?_
  refine jv_Wp.lift (fun _ Kz => jv_Ev.c jv_i391 (pc' := 59) (S' := [.int (0 : Int32), .int (vl_I f.d), .ref 178]) jv_i387 [.ref 178] rfl rfl rfl rfl (jv_cal rfl (jv_H_at (jv_rwK hW 178 14 31 (by decide))) rfl rfl) rfl (by have z := vr_mbit3 (L := L) (n := n) (sl := sl) hW D; rw [hb3] at z; exact z) rfl rfl Kz) ?_
  refine jv_Wp.lift (fun _ Kz => jv_Ev.br jv_i391 (pc' := 73) (st' := [.int (vl_I f.d), .ref 178]) rfl (by rfl) Kz) ?_
  refine jv_Wp.lift (fun _ Kz => jv_Ev.steps jv_i391 2 (pc' := 75) (l' := [(2, .long xd), (1, .int (0 : Int32)), (0, .ref 178)]) (st' := [.ref 178, .long xd, .int (vl_I f.d), .ref 178]) rfl Kz) ?_
  refine jv_Wp.lift (fun _ Kz => jv_Ev.m jv_i391 (pc' := 78) (st' := [.int (Int32.ofInt f.i), .long xd, .int (vl_I f.d), .ref 178]) (G' := (jv_H K I L R)) rfl rfl (jv_m_getI (jv_rwK hW 178 14 31 (by decide)) rfl rfl (vm_d_i D)) Kz) ?_
  refine jv_Wp.lift (fun _ Kz => jv_Ev.c jv_i391 (pc' := 81) (S' := [.long (Int64.ofBitVec (xd.toBitVec &&& vb_lowest f.i.toNat)), .int (vl_I f.d), .ref 178]) jv_i381 [.long xd, .int (Int32.ofInt f.i)] rfl rfl rfl rfl rfl rfl (show jv_Ms 381 [.long xd, .int (Int32.ofInt f.i)] _ _ _ _ from hL) rfl rfl Kz) ?_
  refine jv_Wp.lift (fun _ Kz => jv_Ev.c jv_i391 (pc' := 84) (S' := []) (G1 := (jv_H K (jv_u I 221 f.d 1) (jv_u L 220 f.d (Int64.ofBitVec (xd.toBitVec &&& vb_lowest f.i.toNat))) R)) jv_i375 [.ref 178, .int (vl_I f.d), .long (Int64.ofBitVec (xd.toBitVec &&& vb_lowest f.i.toNat))] rfl rfl rfl rfl (jv_cal rfl (jv_H_at (jv_rwK hW 178 14 31 (by decide))) rfl rfl) rfl (vr_give (I := I) (L := L) (n := n) (sl := sl) (r := f.d) hW (by omega)) rfl rfl Kz) ?_
  refine jv_Wp.of (jv_Ev.ret jv_i391 rfl rfl) ?_
  have ev : (Int64.ofBitVec (xd.toBitVec &&& vb_lowest f.i.toNat)) = Int64.ofBitVec (vx_do f x.toBitVec y.toBitVec (vm_sg f x.toBitVec y.toBitVec)) := congrArg Int64.ofBitVec (by unfold vx_do; rw [if_pos hn, if_neg (by rw [hk, hb3]; decide), exd])
  rw [hQ, ev]
  exact ⟨_, _, rfl, vm_r_gv h, vr_gv_ff (vc_ff_refl _ I L)⟩
theorem vr_arith4mr {K : Nat → Option (Nat × Nat)} {I : Nat → Nat → Int32} {L : Nat → Nat → Int64} {R : Nat → Nat → Value} (hW : jv_rW K R) {S T : vm_S} (hsh : vm_sh S) (h : vm_r I L S) {f : vf_F} (D : vm_D I f) (hd : f.d < 11) (hs : f.s < 11) (har : vf_ar f) (hk : f.kind = 4) (hn : f.n = 11) (hb3 : f.bit3 = true) (hl : vm_arith f S = some T) {n sl : Nat} : ∃ I1 L1, jv_Ms 391 [.ref 178] (jv_H K I L R) n sl (none, jv_H K I1 L1 R, n, sl) ∧ vm_r I1 L1 T ∧ vc_ff vr_Er I L I1 L1 := by
  obtain ⟨Q, hQ⟩ : ∃ Q : jv_R → Prop, Q = fun X => ∃ I1 L1, X = (none, jv_H K I1 L1 R, n, sl) ∧ vm_r I1 L1 T ∧ vc_ff vr_Er I L I1 L1 := ⟨_, rfl⟩
  suffices hE : jv_Wp 391 0 [(0, .ref 178)] [] (jv_H K I L R) n sl Q by
    rw [hQ] at hE
    obtain ⟨X, hE, I1, L1, e, h'⟩ := hE
    subst e
    exact ⟨I1, L1, hE, h'⟩
  obtain ⟨x, y, hx, hy, hT⟩ := vm_arith_dec hl
  subst hT
  have hn256 : f.n < 256 := by have : f.n = f.code / 16 := rfl; have := vr_dc D; omega
  rw [if_pos hn] at hx
  have exd : (0 : Int64) = x := Option.some.inj hx
  rw [if_neg (show ¬ f.n = 13 by omega)] at hy
  rw [if_pos hb3] at hy
  obtain ⟨xs, exs⟩ : ∃ xs, xs = y := ⟨y, rfl⟩
  have hgs : vm_rd S f.s = some xs := exs ▸ hy
  obtain ⟨v, hV, hv0⟩ := vr_reck32 (L := L) (n := n) (sl := sl) (x := ((0 : Int64)).toBitVec) (y := (xs).toBitVec) hW D har (by omega) (by omega)
  refine jv_Wp.lift (fun _ Kz => jv_Ev.steps jv_i391 1 (pc' := 1) (l' := [(0, .ref 178)]) (st' := [.ref 178]) rfl Kz) ?_
  refine jv_Wp.lift (fun _ Kz => jv_Ev.c jv_i391 (pc' := 4) (S' := [.int (4 : Int32)]) jv_i385 [.ref 178] rfl rfl rfl rfl (jv_cal rfl (jv_H_at (jv_rwK hW 178 14 31 (by decide))) rfl rfl) rfl (by have z := vr_mkind (L := L) (n := n) (sl := sl) hW D; rw [hk] at z; exact z) rfl rfl Kz) ?_
  refine jv_Wp.lift (fun _ Kz => jv_Ev.steps jv_i391 1 (pc' := 6) (l' := [(0, .ref 178)]) (st' := [.int (7 : Int32), .int (4 : Int32)]) rfl Kz) ?_
  refine jv_Wp.lift (fun _ Kz => jv_Ev.br jv_i391 (pc' := 13) (st' := []) rfl (by rfl) Kz) ?_
  refine jv_Wp.lift (fun _ Kz => jv_Ev.steps jv_i391 3 (pc' := 16) (l' := [(1, .int (0 : Int32)), (0, .ref 178)]) (st' := [.ref 178]) rfl Kz) ?_
  refine jv_Wp.lift (fun _ Kz => jv_Ev.c jv_i391 (pc' := 19) (S' := [.int (11 : Int32)]) jv_i386 [.ref 178] rfl rfl rfl rfl (jv_cal rfl (jv_H_at (jv_rwK hW 178 14 31 (by decide))) rfl rfl) rfl (by have z := vr_mn (L := L) (n := n) (sl := sl) hW D; rw [hn] at z; exact z) rfl rfl Kz) ?_
  refine jv_Wp.lift (fun _ Kz => jv_Ev.steps jv_i391 1 (pc' := 21) (l' := [(1, .int (0 : Int32)), (0, .ref 178)]) (st' := [.int (11 : Int32), .int (11 : Int32)]) rfl Kz) ?_
  refine jv_Wp.lift (fun _ Kz => jv_Ev.br jv_i391 (pc' := 24) (st' := []) rfl (by rfl) Kz) ?_
  refine jv_Wp.lift (fun _ Kz => jv_Ev.steps jv_i391 4 (pc' := 38) (l' := [(2, .long (0 : Int64)), (1, .int (0 : Int32)), (0, .ref 178)]) (st' := [.ref 178]) rfl Kz) ?_
  refine jv_Wp.lift (fun _ Kz => jv_Ev.c jv_i391 (pc' := 41) (S' := [.int (11 : Int32)]) jv_i386 [.ref 178] rfl rfl rfl rfl (jv_cal rfl (jv_H_at (jv_rwK hW 178 14 31 (by decide))) rfl rfl) rfl (by have z := vr_mn (L := L) (n := n) (sl := sl) hW D; rw [hn] at z; exact z) rfl rfl Kz) ?_
  refine jv_Wp.lift (fun _ Kz => jv_Ev.steps jv_i391 1 (pc' := 43) (l' := [(2, .long (0 : Int64)), (1, .int (0 : Int32)), (0, .ref 178)]) (st' := [.int (13 : Int32), .int (11 : Int32)]) rfl Kz) ?_
  refine jv_Wp.lift (fun _ Kz => jv_Ev.br jv_i391 (pc' := 85) (st' := []) rfl (by rfl) Kz) ?_
  refine jv_Wp.lift (fun _ Kz => jv_Ev.steps jv_i391 1 (pc' := 86) (l' := [(2, .long (0 : Int64)), (1, .int (0 : Int32)), (0, .ref 178)]) (st' := [.ref 178]) rfl Kz) ?_
  refine jv_Wp.lift (fun _ Kz => jv_Ev.c jv_i391 (pc' := 89) (S' := [.int (1 : Int32)]) jv_i387 [.ref 178] rfl rfl rfl rfl (jv_cal rfl (jv_H_at (jv_rwK hW 178 14 31 (by decide))) rfl rfl) rfl (by have z := vr_mbit3 (L := L) (n := n) (sl := sl) hW D; rw [hb3] at z; exact z) rfl rfl Kz) ?_
  refine jv_Wp.lift (fun _ Kz => jv_Ev.br jv_i391 (pc' := 92) (st' := []) rfl (by rfl) Kz) ?_
  refine jv_Wp.lift (fun _ Kz => jv_Ev.steps jv_i391 2 (pc' := 94) (l' := [(2, .long (0 : Int64)), (1, .int (0 : Int32)), (0, .ref 178)]) (st' := [.ref 178, .ref 178]) rfl Kz) ?_
  refine jv_Wp.lift (fun _ Kz => jv_Ev.m jv_i391 (pc' := 97) (st' := [.int (vl_I f.s), .ref 178]) (G' := (jv_H K I L R)) rfl rfl (jv_m_getI (jv_rwK hW 178 14 31 (by decide)) rfl rfl (vm_d_s D)) Kz) ?_
  refine jv_Wp.lift (fun _ Kz => jv_Ev.c jv_i391 (pc' := 100) (S' := [.long xs]) jv_i374 [.ref 178, .int (vl_I f.s)] rfl rfl rfl rfl (jv_cal rfl (jv_H_at (jv_rwK hW 178 14 31 (by decide))) rfl rfl) rfl (vr_readR hW h hs hgs) rfl rfl Kz) ?_
  refine jv_Wp.lift (fun _ Kz => jv_Ev.steps jv_i391 4 (pc' := 112) (l' := [(4, .long xs), (2, .long (0 : Int64)), (1, .int (0 : Int32)), (0, .ref 178)]) (st' := [.ref 178, .ref 178]) rfl Kz) ?_
  refine jv_Wp.lift (fun _ Kz => jv_Ev.m jv_i391 (pc' := 115) (st' := [.int (vl_I f.d), .ref 178]) (G' := (jv_H K I L R)) rfl rfl (jv_m_getI (jv_rwK hW 178 14 31 (by decide)) rfl rfl (vm_d_d D)) Kz) ?_
  refine jv_Wp.lift (fun _ Kz => jv_Ev.steps jv_i391 1 (pc' := 116) (l' := [(4, .long xs), (2, .long (0 : Int64)), (1, .int (0 : Int32)), (0, .ref 178)]) (st' := [.int (0 : Int32), .int (vl_I f.d), .ref 178]) rfl Kz) ?_
  refine jv_Wp.lift (fun _ Kz => jv_Ev.br jv_i391 (pc' := 131) (st' := [.int (vl_I f.d), .ref 178]) rfl (by rfl) Kz) ?_
  refine jv_Wp.lift (fun _ Kz => jv_Ev.steps jv_i391 3 (pc' := 135) (l' := [(4, .long xs), (2, .long (0 : Int64)), (1, .int (0 : Int32)), (0, .ref 178)]) (st' := [.int (32 : Int32), .long (0 : Int64), .ref 178, .int (vl_I f.d), .ref 178]) rfl Kz) ?_
  refine jv_Wp.lift (fun _ Kz => jv_Ev.c jv_i391 (pc' := 138) (S' := [.long (Int64.ofBitVec (vm_sx ((0 : Int64)).toBitVec 32)), .ref 178, .int (vl_I f.d), .ref 178]) jv_i380 [.long (0 : Int64), .int (32 : Int32)] rfl rfl rfl rfl rfl rfl (vr_signed32 (v := (0 : Int64))) rfl rfl Kz) ?_
  refine jv_Wp.lift (fun _ Kz => jv_Ev.steps jv_i391 2 (pc' := 142) (l' := [(4, .long xs), (2, .long (0 : Int64)), (1, .int (0 : Int32)), (0, .ref 178)]) (st' := [.int (32 : Int32), .long xs, .long (Int64.ofBitVec (vm_sx ((0 : Int64)).toBitVec 32)), .ref 178, .int (vl_I f.d), .ref 178]) rfl Kz) ?_
  refine jv_Wp.lift (fun _ Kz => jv_Ev.c jv_i391 (pc' := 145) (S' := [.long (Int64.ofBitVec (vm_sx (xs).toBitVec 32)), .long (Int64.ofBitVec (vm_sx ((0 : Int64)).toBitVec 32)), .ref 178, .int (vl_I f.d), .ref 178]) jv_i380 [.long xs, .int (32 : Int32)] rfl rfl rfl rfl rfl rfl (vr_signed32 (v := xs)) rfl rfl Kz) ?_
  refine jv_Wp.lift (fun _ Kz => jv_Ev.steps jv_i391 1 (pc' := 147) (l' := [(4, .long xs), (2, .long (0 : Int64)), (1, .int (0 : Int32)), (0, .ref 178)]) (st' := [.int (32 : Int32), .long (Int64.ofBitVec (vm_sx (xs).toBitVec 32)), .long (Int64.ofBitVec (vm_sx ((0 : Int64)).toBitVec 32)), .ref 178, .int (vl_I f.d), .ref 178]) rfl Kz) ?_
  refine jv_Wp.lift (fun _ Kz => jv_Ev.c jv_i391 (pc' := 150) (S' := [.long v, .int (vl_I f.d), .ref 178]) jv_i382 [.ref 178, .long (Int64.ofBitVec (vm_sx ((0 : Int64)).toBitVec 32)), .long (Int64.ofBitVec (vm_sx (xs).toBitVec 32)), .int (32 : Int32)] rfl rfl rfl rfl (jv_cal rfl (jv_H_at (jv_rwK hW 178 14 31 (by decide))) rfl rfl) rfl hV rfl rfl Kz) ?_
  refine jv_Wp.lift (fun _ Kz => jv_Ev.steps jv_i391 1 (pc' := 152) (l' := [(4, .long xs), (2, .long (0 : Int64)), (1, .int (0 : Int32)), (0, .ref 178)]) (st' := [.int (32 : Int32), .long v, .int (vl_I f.d), .ref 178]) rfl Kz) ?_
  refine jv_Wp.lift (fun _ Kz => jv_Ev.c jv_i391 (pc' := 155) (S' := [.long (Int64.ofBitVec ((v).toBitVec &&& vb_lowest 32)), .int (vl_I f.d), .ref 178]) jv_i381 [.long v, .int (32 : Int32)] rfl rfl rfl rfl rfl rfl (vr_low32 (v := v)) rfl rfl Kz) ?_
  refine jv_Wp.lift (fun _ Kz => jv_Ev.c jv_i391 (pc' := 158) (S' := []) (G1 := (jv_H K (jv_u I 221 f.d 1) (jv_u L 220 f.d (Int64.ofBitVec ((v).toBitVec &&& vb_lowest 32))) R)) jv_i375 [.ref 178, .int (vl_I f.d), .long (Int64.ofBitVec ((v).toBitVec &&& vb_lowest 32))] rfl rfl rfl rfl (jv_cal rfl (jv_H_at (jv_rwK hW 178 14 31 (by decide))) rfl rfl) rfl (vr_give (I := I) (L := L) (n := n) (sl := sl) (r := f.d) hW (by omega)) rfl rfl Kz) ?_
  refine jv_Wp.of (jv_Ev.ret jv_i391 rfl rfl) ?_
  have ev : (Int64.ofBitVec ((v).toBitVec &&& vb_lowest 32)) = Int64.ofBitVec (vx_do f x.toBitVec y.toBitVec (vm_sg f x.toBitVec y.toBitVec)) := congrArg Int64.ofBitVec (by rw [hv0, exd, exs])
  rw [hQ, ev]
  exact ⟨_, _, rfl, vm_r_gv h, vr_gv_ff (vc_ff_refl _ I L)⟩
theorem vr_arith4mi {K : Nat → Option (Nat × Nat)} {I : Nat → Nat → Int32} {L : Nat → Nat → Int64} {R : Nat → Nat → Value} (hW : jv_rW K R) {S T : vm_S} (hsh : vm_sh S) (h : vm_r I L S) {f : vf_F} (D : vm_D I f) (hd : f.d < 11) (hs : f.s < 11) (har : vf_ar f) (hk : f.kind = 4) (hn : f.n = 11) (hb3 : f.bit3 = false) (hl : vm_arith f S = some T) {n sl : Nat} : ∃ I1 L1, jv_Ms 391 [.ref 178] (jv_H K I L R) n sl (none, jv_H K I1 L1 R, n, sl) ∧ vm_r I1 L1 T ∧ vc_ff vr_Er I L I1 L1 := by
  obtain ⟨Q, hQ⟩ : ∃ Q : jv_R → Prop, Q = fun X => ∃ I1 L1, X = (none, jv_H K I1 L1 R, n, sl) ∧ vm_r I1 L1 T ∧ vc_ff vr_Er I L I1 L1 := ⟨_, rfl⟩
  suffices hE : jv_Wp 391 0 [(0, .ref 178)] [] (jv_H K I L R) n sl Q by
    rw [hQ] at hE
    obtain ⟨X, hE, I1, L1, e, h'⟩ := hE
    subst e
    exact ⟨I1, L1, hE, h'⟩
  obtain ⟨x, y, hx, hy, hT⟩ := vm_arith_dec hl
  subst hT
  have hn256 : f.n < 256 := by have : f.n = f.code / 16 := rfl; have := vr_dc D; omega
  rw [if_pos hn] at hx
  have exd : (0 : Int64) = x := Option.some.inj hx
  rw [if_neg (show ¬ f.n = 13 by omega)] at hy
  rw [if_neg (by rw [hb3]; decide)] at hy
  have exs : (Int32.ofInt f.i).toInt64 = y := (vm_io (vr_dQ D)).trans (Option.some.inj hy)
  obtain ⟨v, hV, hv0⟩ := vr_reck32 (L := L) (n := n) (sl := sl) (x := ((0 : Int64)).toBitVec) (y := ((Int32.ofInt f.i).toInt64).toBitVec) hW D har (by omega) (by omega)
  refine jv_Wp.lift (fun _ Kz => jv_Ev.steps jv_i391 1 (pc' := 1) (l' := [(0, .ref 178)]) (st' := [.ref 178]) rfl Kz) ?_
  refine jv_Wp.lift (fun _ Kz => jv_Ev.c jv_i391 (pc' := 4) (S' := [.int (4 : Int32)]) jv_i385 [.ref 178] rfl rfl rfl rfl (jv_cal rfl (jv_H_at (jv_rwK hW 178 14 31 (by decide))) rfl rfl) rfl (by have z := vr_mkind (L := L) (n := n) (sl := sl) hW D; rw [hk] at z; exact z) rfl rfl Kz) ?_
  refine jv_Wp.lift (fun _ Kz => jv_Ev.steps jv_i391 1 (pc' := 6) (l' := [(0, .ref 178)]) (st' := [.int (7 : Int32), .int (4 : Int32)]) rfl Kz) ?_
  refine jv_Wp.lift (fun _ Kz => jv_Ev.br jv_i391 (pc' := 13) (st' := []) rfl (by rfl) Kz) ?_
  refine jv_Wp.lift (fun _ Kz => jv_Ev.steps jv_i391 3 (pc' := 16) (l' := [(1, .int (0 : Int32)), (0, .ref 178)]) (st' := [.ref 178]) rfl Kz) ?_
  refine jv_Wp.lift (fun _ Kz => jv_Ev.c jv_i391 (pc' := 19) (S' := [.int (11 : Int32)]) jv_i386 [.ref 178] rfl rfl rfl rfl (jv_cal rfl (jv_H_at (jv_rwK hW 178 14 31 (by decide))) rfl rfl) rfl (by have z := vr_mn (L := L) (n := n) (sl := sl) hW D; rw [hn] at z; exact z) rfl rfl Kz) ?_
  refine jv_Wp.lift (fun _ Kz => jv_Ev.steps jv_i391 1 (pc' := 21) (l' := [(1, .int (0 : Int32)), (0, .ref 178)]) (st' := [.int (11 : Int32), .int (11 : Int32)]) rfl Kz) ?_
  refine jv_Wp.lift (fun _ Kz => jv_Ev.br jv_i391 (pc' := 24) (st' := []) rfl (by rfl) Kz) ?_
  refine jv_Wp.lift (fun _ Kz => jv_Ev.steps jv_i391 4 (pc' := 38) (l' := [(2, .long (0 : Int64)), (1, .int (0 : Int32)), (0, .ref 178)]) (st' := [.ref 178]) rfl Kz) ?_
  refine jv_Wp.lift (fun _ Kz => jv_Ev.c jv_i391 (pc' := 41) (S' := [.int (11 : Int32)]) jv_i386 [.ref 178] rfl rfl rfl rfl (jv_cal rfl (jv_H_at (jv_rwK hW 178 14 31 (by decide))) rfl rfl) rfl (by have z := vr_mn (L := L) (n := n) (sl := sl) hW D; rw [hn] at z; exact z) rfl rfl Kz) ?_
  refine jv_Wp.lift (fun _ Kz => jv_Ev.steps jv_i391 1 (pc' := 43) (l' := [(2, .long (0 : Int64)), (1, .int (0 : Int32)), (0, .ref 178)]) (st' := [.int (13 : Int32), .int (11 : Int32)]) rfl Kz) ?_
  refine jv_Wp.lift (fun _ Kz => jv_Ev.br jv_i391 (pc' := 85) (st' := []) rfl (by rfl) Kz) ?_
  refine jv_Wp.lift (fun _ Kz => jv_Ev.steps jv_i391 1 (pc' := 86) (l' := [(2, .long (0 : Int64)), (1, .int (0 : Int32)), (0, .ref 178)]) (st' := [.ref 178]) rfl Kz) ?_
  refine jv_Wp.lift (fun _ Kz => jv_Ev.c jv_i391 (pc' := 89) (S' := [.int (0 : Int32)]) jv_i387 [.ref 178] rfl rfl rfl rfl (jv_cal rfl (jv_H_at (jv_rwK hW 178 14 31 (by decide))) rfl rfl) rfl (by have z := vr_mbit3 (L := L) (n := n) (sl := sl) hW D; rw [hb3] at z; exact z) rfl rfl Kz) ?_
  refine jv_Wp.lift (fun _ Kz => jv_Ev.br jv_i391 (pc' := 103) (st' := []) rfl (by rfl) Kz) ?_
  refine jv_Wp.lift (fun _ Kz => jv_Ev.steps jv_i391 1 (pc' := 104) (l' := [(2, .long (0 : Int64)), (1, .int (0 : Int32)), (0, .ref 178)]) (st' := [.ref 178]) rfl Kz) ?_
  refine jv_Wp.lift (fun _ Kz => jv_Ev.m jv_i391 (pc' := 107) (st' := [.int (Int32.ofInt f.i)]) (G' := (jv_H K I L R)) rfl rfl (jv_m_getI (jv_rwK hW 178 14 31 (by decide)) rfl rfl (vm_d_i D)) Kz) ?_
  refine jv_Wp.lift (fun _ Kz => jv_Ev.steps jv_i391 4 (pc' := 112) (l' := [(4, .long (Int32.ofInt f.i).toInt64), (2, .long (0 : Int64)), (1, .int (0 : Int32)), (0, .ref 178)]) (st' := [.ref 178, .ref 178]) rfl Kz) ?_
  refine jv_Wp.lift (fun _ Kz => jv_Ev.m jv_i391 (pc' := 115) (st' := [.int (vl_I f.d), .ref 178]) (G' := (jv_H K I L R)) rfl rfl (jv_m_getI (jv_rwK hW 178 14 31 (by decide)) rfl rfl (vm_d_d D)) Kz) ?_
  refine jv_Wp.lift (fun _ Kz => jv_Ev.steps jv_i391 1 (pc' := 116) (l' := [(4, .long (Int32.ofInt f.i).toInt64), (2, .long (0 : Int64)), (1, .int (0 : Int32)), (0, .ref 178)]) (st' := [.int (0 : Int32), .int (vl_I f.d), .ref 178]) rfl Kz) ?_
  refine jv_Wp.lift (fun _ Kz => jv_Ev.br jv_i391 (pc' := 131) (st' := [.int (vl_I f.d), .ref 178]) rfl (by rfl) Kz) ?_
  refine jv_Wp.lift (fun _ Kz => jv_Ev.steps jv_i391 3 (pc' := 135) (l' := [(4, .long (Int32.ofInt f.i).toInt64), (2, .long (0 : Int64)), (1, .int (0 : Int32)), (0, .ref 178)]) (st' := [.int (32 : Int32), .long (0 : Int64), .ref 178, .int (vl_I f.d), .ref 178]) rfl Kz) ?_
  refine jv_Wp.lift (fun _ Kz => jv_Ev.c jv_i391 (pc' := 138) (S' := [.long (Int64.ofBitVec (vm_sx ((0 : Int64)).toBitVec 32)), .ref 178, .int (vl_I f.d), .ref 178]) jv_i380 [.long (0 : Int64), .int (32 : Int32)] rfl rfl rfl rfl rfl rfl (vr_signed32 (v := (0 : Int64))) rfl rfl Kz) ?_
  refine jv_Wp.lift (fun _ Kz => jv_Ev.steps jv_i391 2 (pc' := 142) (l' := [(4, .long (Int32.ofInt f.i).toInt64), (2, .long (0 : Int64)), (1, .int (0 : Int32)), (0, .ref 178)]) (st' := [.int (32 : Int32), .long (Int32.ofInt f.i).toInt64, .long (Int64.ofBitVec (vm_sx ((0 : Int64)).toBitVec 32)), .ref 178, .int (vl_I f.d), .ref 178]) rfl Kz) ?_
  refine jv_Wp.lift (fun _ Kz => jv_Ev.c jv_i391 (pc' := 145) (S' := [.long (Int64.ofBitVec (vm_sx ((Int32.ofInt f.i).toInt64).toBitVec 32)), .long (Int64.ofBitVec (vm_sx ((0 : Int64)).toBitVec 32)), .ref 178, .int (vl_I f.d), .ref 178]) jv_i380 [.long (Int32.ofInt f.i).toInt64, .int (32 : Int32)] rfl rfl rfl rfl rfl rfl (vr_signed32 (v := (Int32.ofInt f.i).toInt64)) rfl rfl Kz) ?_
  refine jv_Wp.lift (fun _ Kz => jv_Ev.steps jv_i391 1 (pc' := 147) (l' := [(4, .long (Int32.ofInt f.i).toInt64), (2, .long (0 : Int64)), (1, .int (0 : Int32)), (0, .ref 178)]) (st' := [.int (32 : Int32), .long (Int64.ofBitVec (vm_sx ((Int32.ofInt f.i).toInt64).toBitVec 32)), .long (Int64.ofBitVec (vm_sx ((0 : Int64)).toBitVec 32)), .ref 178, .int (vl_I f.d), .ref 178]) rfl Kz) ?_
  refine jv_Wp.lift (fun _ Kz => jv_Ev.c jv_i391 (pc' := 150) (S' := [.long v, .int (vl_I f.d), .ref 178]) jv_i382 [.ref 178, .long (Int64.ofBitVec (vm_sx ((0 : Int64)).toBitVec 32)), .long (Int64.ofBitVec (vm_sx ((Int32.ofInt f.i).toInt64).toBitVec 32)), .int (32 : Int32)] rfl rfl rfl rfl (jv_cal rfl (jv_H_at (jv_rwK hW 178 14 31 (by decide))) rfl rfl) rfl hV rfl rfl Kz) ?_
  refine jv_Wp.lift (fun _ Kz => jv_Ev.steps jv_i391 1 (pc' := 152) (l' := [(4, .long (Int32.ofInt f.i).toInt64), (2, .long (0 : Int64)), (1, .int (0 : Int32)), (0, .ref 178)]) (st' := [.int (32 : Int32), .long v, .int (vl_I f.d), .ref 178]) rfl Kz) ?_
  refine jv_Wp.lift (fun _ Kz => jv_Ev.c jv_i391 (pc' := 155) (S' := [.long (Int64.ofBitVec ((v).toBitVec &&& vb_lowest 32)), .int (vl_I f.d), .ref 178]) jv_i381 [.long v, .int (32 : Int32)] rfl rfl rfl rfl rfl rfl (vr_low32 (v := v)) rfl rfl Kz) ?_
  refine jv_Wp.lift (fun _ Kz => jv_Ev.c jv_i391 (pc' := 158) (S' := []) (G1 := (jv_H K (jv_u I 221 f.d 1) (jv_u L 220 f.d (Int64.ofBitVec ((v).toBitVec &&& vb_lowest 32))) R)) jv_i375 [.ref 178, .int (vl_I f.d), .long (Int64.ofBitVec ((v).toBitVec &&& vb_lowest 32))] rfl rfl rfl rfl (jv_cal rfl (jv_H_at (jv_rwK hW 178 14 31 (by decide))) rfl rfl) rfl (vr_give (I := I) (L := L) (n := n) (sl := sl) (r := f.d) hW (by omega)) rfl rfl Kz) ?_
  refine jv_Wp.of (jv_Ev.ret jv_i391 rfl rfl) ?_
  have ev : (Int64.ofBitVec ((v).toBitVec &&& vb_lowest 32)) = Int64.ofBitVec (vx_do f x.toBitVec y.toBitVec (vm_sg f x.toBitVec y.toBitVec)) := congrArg Int64.ofBitVec (by rw [hv0, exd, exs])
  rw [hQ, ev]
  exact ⟨_, _, rfl, vm_r_gv h, vr_gv_ff (vc_ff_refl _ I L)⟩
theorem vr_arith4or {K : Nat → Option (Nat × Nat)} {I : Nat → Nat → Int32} {L : Nat → Nat → Int64} {R : Nat → Nat → Value} (hW : jv_rW K R) {S T : vm_S} (hsh : vm_sh S) (h : vm_r I L S) {f : vf_F} (D : vm_D I f) (hd : f.d < 11) (hs : f.s < 11) (har : vf_ar f) (hk : f.kind = 4) (hn11 : f.n ≠ 11) (hn13 : f.n ≠ 13) (hb3 : f.bit3 = true) (hl : vm_arith f S = some T) {n sl : Nat} : ∃ I1 L1, jv_Ms 391 [.ref 178] (jv_H K I L R) n sl (none, jv_H K I1 L1 R, n, sl) ∧ vm_r I1 L1 T ∧ vc_ff vr_Er I L I1 L1 := by
  obtain ⟨Q, hQ⟩ : ∃ Q : jv_R → Prop, Q = fun X => ∃ I1 L1, X = (none, jv_H K I1 L1 R, n, sl) ∧ vm_r I1 L1 T ∧ vc_ff vr_Er I L I1 L1 := ⟨_, rfl⟩
  suffices hE : jv_Wp 391 0 [(0, .ref 178)] [] (jv_H K I L R) n sl Q by
    rw [hQ] at hE
    obtain ⟨X, hE, I1, L1, e, h'⟩ := hE
    subst e
    exact ⟨I1, L1, hE, h'⟩
  obtain ⟨x, y, hx, hy, hT⟩ := vm_arith_dec hl
  subst hT
  have hn256 : f.n < 256 := by have : f.n = f.code / 16 := rfl; have := vr_dc D; omega
  rw [if_neg (show ¬ f.n = 11 by omega)] at hx
  obtain ⟨xd, exd⟩ : ∃ xd, xd = x := ⟨x, rfl⟩
  have hgd : vm_rd S f.d = some xd := exd ▸ hx
  rw [if_neg (show ¬ f.n = 13 by omega)] at hy
  rw [if_pos hb3] at hy
  obtain ⟨xs, exs⟩ : ∃ xs, xs = y := ⟨y, rfl⟩
  have hgs : vm_rd S f.s = some xs := exs ▸ hy
  obtain ⟨v, hV, hv0⟩ := vr_reck32 (L := L) (n := n) (sl := sl) (x := (xd).toBitVec) (y := (xs).toBitVec) hW D har (by omega) (by omega)
  refine jv_Wp.lift (fun _ Kz => jv_Ev.steps jv_i391 1 (pc' := 1) (l' := [(0, .ref 178)]) (st' := [.ref 178]) rfl Kz) ?_
  refine jv_Wp.lift (fun _ Kz => jv_Ev.c jv_i391 (pc' := 4) (S' := [.int (4 : Int32)]) jv_i385 [.ref 178] rfl rfl rfl rfl (jv_cal rfl (jv_H_at (jv_rwK hW 178 14 31 (by decide))) rfl rfl) rfl (by have z := vr_mkind (L := L) (n := n) (sl := sl) hW D; rw [hk] at z; exact z) rfl rfl Kz) ?_
  refine jv_Wp.lift (fun _ Kz => jv_Ev.steps jv_i391 1 (pc' := 6) (l' := [(0, .ref 178)]) (st' := [.int (7 : Int32), .int (4 : Int32)]) rfl Kz) ?_
  refine jv_Wp.lift (fun _ Kz => jv_Ev.br jv_i391 (pc' := 13) (st' := []) rfl (by rfl) Kz) ?_
  refine jv_Wp.lift (fun _ Kz => jv_Ev.steps jv_i391 3 (pc' := 16) (l' := [(1, .int (0 : Int32)), (0, .ref 178)]) (st' := [.ref 178]) rfl Kz) ?_
  refine jv_Wp.lift (fun _ Kz => jv_Ev.c jv_i391 (pc' := 19) (S' := [.int (vl_I f.n)]) jv_i386 [.ref 178] rfl rfl rfl rfl (jv_cal rfl (jv_H_at (jv_rwK hW 178 14 31 (by decide))) rfl rfl) rfl (vr_mn hW D) rfl rfl Kz) ?_
  refine jv_Wp.lift (fun _ Kz => jv_Ev.steps jv_i391 1 (pc' := 21) (l' := [(1, .int (0 : Int32)), (0, .ref 178)]) (st' := [.int (11 : Int32), .int (vl_I f.n)]) rfl Kz) ?_
  refine jv_Wp.cnd jv_i391 (pt := 28) (pe := 24) (p := (¬ (vl_I f.n) = (11 : Int32))) (q := (¬ (vl_I f.n) = (11 : Int32))) rfl jv_bc_ne rfl rfl Iff.rfl (fun _ => ?_) (fun hz => absurd (fun z => hn11 ((vl_I_inj (a := f.n) (b := 11) (by omega) (by decide)).mp z)) hz)
  refine jv_Wp.lift (fun _ Kz => jv_Ev.steps jv_i391 2 (pc' := 30) (l' := [(1, .int (0 : Int32)), (0, .ref 178)]) (st' := [.ref 178, .ref 178]) rfl Kz) ?_
  refine jv_Wp.lift (fun _ Kz => jv_Ev.m jv_i391 (pc' := 33) (st' := [.int (vl_I f.d), .ref 178]) (G' := (jv_H K I L R)) rfl rfl (jv_m_getI (jv_rwK hW 178 14 31 (by decide)) rfl rfl (vm_d_d D)) Kz) ?_
  refine jv_Wp.lift (fun _ Kz => jv_Ev.c jv_i391 (pc' := 36) (S' := [.long xd]) jv_i374 [.ref 178, .int (vl_I f.d)] rfl rfl rfl rfl (jv_cal rfl (jv_H_at (jv_rwK hW 178 14 31 (by decide))) rfl rfl) rfl (vr_readR hW h hd hgd) rfl rfl Kz) ?_
  refine jv_Wp.lift (fun _ Kz => jv_Ev.steps jv_i391 2 (pc' := 38) (l' := [(2, .long xd), (1, .int (0 : Int32)), (0, .ref 178)]) (st' := [.ref 178]) rfl Kz) ?_
  refine jv_Wp.lift (fun _ Kz => jv_Ev.c jv_i391 (pc' := 41) (S' := [.int (vl_I f.n)]) jv_i386 [.ref 178] rfl rfl rfl rfl (jv_cal rfl (jv_H_at (jv_rwK hW 178 14 31 (by decide))) rfl rfl) rfl (vr_mn hW D) rfl rfl Kz) ?_
  refine jv_Wp.lift (fun _ Kz => jv_Ev.steps jv_i391 1 (pc' := 43) (l' := [(2, .long xd), (1, .int (0 : Int32)), (0, .ref 178)]) (st' := [.int (13 : Int32), .int (vl_I f.n)]) rfl Kz) ?_
  refine jv_Wp.cnd jv_i391 (pt := 85) (pe := 46) (p := (¬ (vl_I f.n) = (13 : Int32))) (q := (¬ (vl_I f.n) = (13 : Int32))) rfl jv_bc_ne rfl rfl Iff.rfl (fun _ => ?_) (fun hz => absurd (fun z => hn13 ((vl_I_inj (a := f.n) (b := 13) (by omega) (by decide)).mp z)) hz)
  refine jv_Wp.lift (fun _ Kz => jv_Ev.steps jv_i391 1 (pc' := 86) (l' := [(2, .long xd), (1, .int (0 : Int32)), (0, .ref 178)]) (st' := [.ref 178]) rfl Kz) ?_
  refine jv_Wp.lift (fun _ Kz => jv_Ev.c jv_i391 (pc' := 89) (S' := [.int (1 : Int32)]) jv_i387 [.ref 178] rfl rfl rfl rfl (jv_cal rfl (jv_H_at (jv_rwK hW 178 14 31 (by decide))) rfl rfl) rfl (by have z := vr_mbit3 (L := L) (n := n) (sl := sl) hW D; rw [hb3] at z; exact z) rfl rfl Kz) ?_
  refine jv_Wp.lift (fun _ Kz => jv_Ev.br jv_i391 (pc' := 92) (st' := []) rfl (by rfl) Kz) ?_
  refine jv_Wp.lift (fun _ Kz => jv_Ev.steps jv_i391 2 (pc' := 94) (l' := [(2, .long xd), (1, .int (0 : Int32)), (0, .ref 178)]) (st' := [.ref 178, .ref 178]) rfl Kz) ?_
  refine jv_Wp.lift (fun _ Kz => jv_Ev.m jv_i391 (pc' := 97) (st' := [.int (vl_I f.s), .ref 178]) (G' := (jv_H K I L R)) rfl rfl (jv_m_getI (jv_rwK hW 178 14 31 (by decide)) rfl rfl (vm_d_s D)) Kz) ?_
  refine jv_Wp.lift (fun _ Kz => jv_Ev.c jv_i391 (pc' := 100) (S' := [.long xs]) jv_i374 [.ref 178, .int (vl_I f.s)] rfl rfl rfl rfl (jv_cal rfl (jv_H_at (jv_rwK hW 178 14 31 (by decide))) rfl rfl) rfl (vr_readR hW h hs hgs) rfl rfl Kz) ?_
  refine jv_Wp.lift (fun _ Kz => jv_Ev.steps jv_i391 4 (pc' := 112) (l' := [(4, .long xs), (2, .long xd), (1, .int (0 : Int32)), (0, .ref 178)]) (st' := [.ref 178, .ref 178]) rfl Kz) ?_
  refine jv_Wp.lift (fun _ Kz => jv_Ev.m jv_i391 (pc' := 115) (st' := [.int (vl_I f.d), .ref 178]) (G' := (jv_H K I L R)) rfl rfl (jv_m_getI (jv_rwK hW 178 14 31 (by decide)) rfl rfl (vm_d_d D)) Kz) ?_
  refine jv_Wp.lift (fun _ Kz => jv_Ev.steps jv_i391 1 (pc' := 116) (l' := [(4, .long xs), (2, .long xd), (1, .int (0 : Int32)), (0, .ref 178)]) (st' := [.int (0 : Int32), .int (vl_I f.d), .ref 178]) rfl Kz) ?_
  refine jv_Wp.lift (fun _ Kz => jv_Ev.br jv_i391 (pc' := 131) (st' := [.int (vl_I f.d), .ref 178]) rfl (by rfl) Kz) ?_
  refine jv_Wp.lift (fun _ Kz => jv_Ev.steps jv_i391 3 (pc' := 135) (l' := [(4, .long xs), (2, .long xd), (1, .int (0 : Int32)), (0, .ref 178)]) (st' := [.int (32 : Int32), .long xd, .ref 178, .int (vl_I f.d), .ref 178]) rfl Kz) ?_
  refine jv_Wp.lift (fun _ Kz => jv_Ev.c jv_i391 (pc' := 138) (S' := [.long (Int64.ofBitVec (vm_sx (xd).toBitVec 32)), .ref 178, .int (vl_I f.d), .ref 178]) jv_i380 [.long xd, .int (32 : Int32)] rfl rfl rfl rfl rfl rfl (vr_signed32 (v := xd)) rfl rfl Kz) ?_
  refine jv_Wp.lift (fun _ Kz => jv_Ev.steps jv_i391 2 (pc' := 142) (l' := [(4, .long xs), (2, .long xd), (1, .int (0 : Int32)), (0, .ref 178)]) (st' := [.int (32 : Int32), .long xs, .long (Int64.ofBitVec (vm_sx (xd).toBitVec 32)), .ref 178, .int (vl_I f.d), .ref 178]) rfl Kz) ?_
  refine jv_Wp.lift (fun _ Kz => jv_Ev.c jv_i391 (pc' := 145) (S' := [.long (Int64.ofBitVec (vm_sx (xs).toBitVec 32)), .long (Int64.ofBitVec (vm_sx (xd).toBitVec 32)), .ref 178, .int (vl_I f.d), .ref 178]) jv_i380 [.long xs, .int (32 : Int32)] rfl rfl rfl rfl rfl rfl (vr_signed32 (v := xs)) rfl rfl Kz) ?_
  refine jv_Wp.lift (fun _ Kz => jv_Ev.steps jv_i391 1 (pc' := 147) (l' := [(4, .long xs), (2, .long xd), (1, .int (0 : Int32)), (0, .ref 178)]) (st' := [.int (32 : Int32), .long (Int64.ofBitVec (vm_sx (xs).toBitVec 32)), .long (Int64.ofBitVec (vm_sx (xd).toBitVec 32)), .ref 178, .int (vl_I f.d), .ref 178]) rfl Kz) ?_
  refine jv_Wp.lift (fun _ Kz => jv_Ev.c jv_i391 (pc' := 150) (S' := [.long v, .int (vl_I f.d), .ref 178]) jv_i382 [.ref 178, .long (Int64.ofBitVec (vm_sx (xd).toBitVec 32)), .long (Int64.ofBitVec (vm_sx (xs).toBitVec 32)), .int (32 : Int32)] rfl rfl rfl rfl (jv_cal rfl (jv_H_at (jv_rwK hW 178 14 31 (by decide))) rfl rfl) rfl hV rfl rfl Kz) ?_
  refine jv_Wp.lift (fun _ Kz => jv_Ev.steps jv_i391 1 (pc' := 152) (l' := [(4, .long xs), (2, .long xd), (1, .int (0 : Int32)), (0, .ref 178)]) (st' := [.int (32 : Int32), .long v, .int (vl_I f.d), .ref 178]) rfl Kz) ?_
  refine jv_Wp.lift (fun _ Kz => jv_Ev.c jv_i391 (pc' := 155) (S' := [.long (Int64.ofBitVec ((v).toBitVec &&& vb_lowest 32)), .int (vl_I f.d), .ref 178]) jv_i381 [.long v, .int (32 : Int32)] rfl rfl rfl rfl rfl rfl (vr_low32 (v := v)) rfl rfl Kz) ?_
  refine jv_Wp.lift (fun _ Kz => jv_Ev.c jv_i391 (pc' := 158) (S' := []) (G1 := (jv_H K (jv_u I 221 f.d 1) (jv_u L 220 f.d (Int64.ofBitVec ((v).toBitVec &&& vb_lowest 32))) R)) jv_i375 [.ref 178, .int (vl_I f.d), .long (Int64.ofBitVec ((v).toBitVec &&& vb_lowest 32))] rfl rfl rfl rfl (jv_cal rfl (jv_H_at (jv_rwK hW 178 14 31 (by decide))) rfl rfl) rfl (vr_give (I := I) (L := L) (n := n) (sl := sl) (r := f.d) hW (by omega)) rfl rfl Kz) ?_
  refine jv_Wp.of (jv_Ev.ret jv_i391 rfl rfl) ?_
  have ev : (Int64.ofBitVec ((v).toBitVec &&& vb_lowest 32)) = Int64.ofBitVec (vx_do f x.toBitVec y.toBitVec (vm_sg f x.toBitVec y.toBitVec)) := congrArg Int64.ofBitVec (by rw [hv0, exd, exs])
  rw [hQ, ev]
  exact ⟨_, _, rfl, vm_r_gv h, vr_gv_ff (vc_ff_refl _ I L)⟩
theorem vr_arith4oi {K : Nat → Option (Nat × Nat)} {I : Nat → Nat → Int32} {L : Nat → Nat → Int64} {R : Nat → Nat → Value} (hW : jv_rW K R) {S T : vm_S} (hsh : vm_sh S) (h : vm_r I L S) {f : vf_F} (D : vm_D I f) (hd : f.d < 11) (hs : f.s < 11) (har : vf_ar f) (hk : f.kind = 4) (hn11 : f.n ≠ 11) (hn13 : f.n ≠ 13) (hb3 : f.bit3 = false) (hl : vm_arith f S = some T) {n sl : Nat} : ∃ I1 L1, jv_Ms 391 [.ref 178] (jv_H K I L R) n sl (none, jv_H K I1 L1 R, n, sl) ∧ vm_r I1 L1 T ∧ vc_ff vr_Er I L I1 L1 := by
  obtain ⟨Q, hQ⟩ : ∃ Q : jv_R → Prop, Q = fun X => ∃ I1 L1, X = (none, jv_H K I1 L1 R, n, sl) ∧ vm_r I1 L1 T ∧ vc_ff vr_Er I L I1 L1 := ⟨_, rfl⟩
  suffices hE : jv_Wp 391 0 [(0, .ref 178)] [] (jv_H K I L R) n sl Q by
    rw [hQ] at hE
    obtain ⟨X, hE, I1, L1, e, h'⟩ := hE
    subst e
    exact ⟨I1, L1, hE, h'⟩
  obtain ⟨x, y, hx, hy, hT⟩ := vm_arith_dec hl
  subst hT
  have hn256 : f.n < 256 := by have : f.n = f.code / 16 := rfl; have := vr_dc D; omega
  rw [if_neg (show ¬ f.n = 11 by omega)] at hx
  obtain ⟨xd, exd⟩ : ∃ xd, xd = x := ⟨x, rfl⟩
  have hgd : vm_rd S f.d = some xd := exd ▸ hx
  rw [if_neg (show ¬ f.n = 13 by omega)] at hy
  rw [if_neg (by rw [hb3]; decide)] at hy
  have exs : (Int32.ofInt f.i).toInt64 = y := (vm_io (vr_dQ D)).trans (Option.some.inj hy)
  obtain ⟨v, hV, hv0⟩ := vr_reck32 (L := L) (n := n) (sl := sl) (x := (xd).toBitVec) (y := ((Int32.ofInt f.i).toInt64).toBitVec) hW D har (by omega) (by omega)
  refine jv_Wp.lift (fun _ Kz => jv_Ev.steps jv_i391 1 (pc' := 1) (l' := [(0, .ref 178)]) (st' := [.ref 178]) rfl Kz) ?_
  refine jv_Wp.lift (fun _ Kz => jv_Ev.c jv_i391 (pc' := 4) (S' := [.int (4 : Int32)]) jv_i385 [.ref 178] rfl rfl rfl rfl (jv_cal rfl (jv_H_at (jv_rwK hW 178 14 31 (by decide))) rfl rfl) rfl (by have z := vr_mkind (L := L) (n := n) (sl := sl) hW D; rw [hk] at z; exact z) rfl rfl Kz) ?_
  refine jv_Wp.lift (fun _ Kz => jv_Ev.steps jv_i391 1 (pc' := 6) (l' := [(0, .ref 178)]) (st' := [.int (7 : Int32), .int (4 : Int32)]) rfl Kz) ?_
  refine jv_Wp.lift (fun _ Kz => jv_Ev.br jv_i391 (pc' := 13) (st' := []) rfl (by rfl) Kz) ?_
  refine jv_Wp.lift (fun _ Kz => jv_Ev.steps jv_i391 3 (pc' := 16) (l' := [(1, .int (0 : Int32)), (0, .ref 178)]) (st' := [.ref 178]) rfl Kz) ?_
  refine jv_Wp.lift (fun _ Kz => jv_Ev.c jv_i391 (pc' := 19) (S' := [.int (vl_I f.n)]) jv_i386 [.ref 178] rfl rfl rfl rfl (jv_cal rfl (jv_H_at (jv_rwK hW 178 14 31 (by decide))) rfl rfl) rfl (vr_mn hW D) rfl rfl Kz) ?_
  refine jv_Wp.lift (fun _ Kz => jv_Ev.steps jv_i391 1 (pc' := 21) (l' := [(1, .int (0 : Int32)), (0, .ref 178)]) (st' := [.int (11 : Int32), .int (vl_I f.n)]) rfl Kz) ?_
  refine jv_Wp.cnd jv_i391 (pt := 28) (pe := 24) (p := (¬ (vl_I f.n) = (11 : Int32))) (q := (¬ (vl_I f.n) = (11 : Int32))) rfl jv_bc_ne rfl rfl Iff.rfl (fun _ => ?_) (fun hz => absurd (fun z => hn11 ((vl_I_inj (a := f.n) (b := 11) (by omega) (by decide)).mp z)) hz)
  refine jv_Wp.lift (fun _ Kz => jv_Ev.steps jv_i391 2 (pc' := 30) (l' := [(1, .int (0 : Int32)), (0, .ref 178)]) (st' := [.ref 178, .ref 178]) rfl Kz) ?_
  refine jv_Wp.lift (fun _ Kz => jv_Ev.m jv_i391 (pc' := 33) (st' := [.int (vl_I f.d), .ref 178]) (G' := (jv_H K I L R)) rfl rfl (jv_m_getI (jv_rwK hW 178 14 31 (by decide)) rfl rfl (vm_d_d D)) Kz) ?_
  refine jv_Wp.lift (fun _ Kz => jv_Ev.c jv_i391 (pc' := 36) (S' := [.long xd]) jv_i374 [.ref 178, .int (vl_I f.d)] rfl rfl rfl rfl (jv_cal rfl (jv_H_at (jv_rwK hW 178 14 31 (by decide))) rfl rfl) rfl (vr_readR hW h hd hgd) rfl rfl Kz) ?_
  refine jv_Wp.lift (fun _ Kz => jv_Ev.steps jv_i391 2 (pc' := 38) (l' := [(2, .long xd), (1, .int (0 : Int32)), (0, .ref 178)]) (st' := [.ref 178]) rfl Kz) ?_
  refine jv_Wp.lift (fun _ Kz => jv_Ev.c jv_i391 (pc' := 41) (S' := [.int (vl_I f.n)]) jv_i386 [.ref 178] rfl rfl rfl rfl (jv_cal rfl (jv_H_at (jv_rwK hW 178 14 31 (by decide))) rfl rfl) rfl (vr_mn hW D) rfl rfl Kz) ?_
  refine jv_Wp.lift (fun _ Kz => jv_Ev.steps jv_i391 1 (pc' := 43) (l' := [(2, .long xd), (1, .int (0 : Int32)), (0, .ref 178)]) (st' := [.int (13 : Int32), .int (vl_I f.n)]) rfl Kz) ?_
  refine jv_Wp.cnd jv_i391 (pt := 85) (pe := 46) (p := (¬ (vl_I f.n) = (13 : Int32))) (q := (¬ (vl_I f.n) = (13 : Int32))) rfl jv_bc_ne rfl rfl Iff.rfl (fun _ => ?_) (fun hz => absurd (fun z => hn13 ((vl_I_inj (a := f.n) (b := 13) (by omega) (by decide)).mp z)) hz)
  refine jv_Wp.lift (fun _ Kz => jv_Ev.steps jv_i391 1 (pc' := 86) (l' := [(2, .long xd), (1, .int (0 : Int32)), (0, .ref 178)]) (st' := [.ref 178]) rfl Kz) ?_
  refine jv_Wp.lift (fun _ Kz => jv_Ev.c jv_i391 (pc' := 89) (S' := [.int (0 : Int32)]) jv_i387 [.ref 178] rfl rfl rfl rfl (jv_cal rfl (jv_H_at (jv_rwK hW 178 14 31 (by decide))) rfl rfl) rfl (by have z := vr_mbit3 (L := L) (n := n) (sl := sl) hW D; rw [hb3] at z; exact z) rfl rfl Kz) ?_
  refine jv_Wp.lift (fun _ Kz => jv_Ev.br jv_i391 (pc' := 103) (st' := []) rfl (by rfl) Kz) ?_
  refine jv_Wp.lift (fun _ Kz => jv_Ev.steps jv_i391 1 (pc' := 104) (l' := [(2, .long xd), (1, .int (0 : Int32)), (0, .ref 178)]) (st' := [.ref 178]) rfl Kz) ?_
  refine jv_Wp.lift (fun _ Kz => jv_Ev.m jv_i391 (pc' := 107) (st' := [.int (Int32.ofInt f.i)]) (G' := (jv_H K I L R)) rfl rfl (jv_m_getI (jv_rwK hW 178 14 31 (by decide)) rfl rfl (vm_d_i D)) Kz) ?_
  refine jv_Wp.lift (fun _ Kz => jv_Ev.steps jv_i391 4 (pc' := 112) (l' := [(4, .long (Int32.ofInt f.i).toInt64), (2, .long xd), (1, .int (0 : Int32)), (0, .ref 178)]) (st' := [.ref 178, .ref 178]) rfl Kz) ?_
  refine jv_Wp.lift (fun _ Kz => jv_Ev.m jv_i391 (pc' := 115) (st' := [.int (vl_I f.d), .ref 178]) (G' := (jv_H K I L R)) rfl rfl (jv_m_getI (jv_rwK hW 178 14 31 (by decide)) rfl rfl (vm_d_d D)) Kz) ?_
  refine jv_Wp.lift (fun _ Kz => jv_Ev.steps jv_i391 1 (pc' := 116) (l' := [(4, .long (Int32.ofInt f.i).toInt64), (2, .long xd), (1, .int (0 : Int32)), (0, .ref 178)]) (st' := [.int (0 : Int32), .int (vl_I f.d), .ref 178]) rfl Kz) ?_
  refine jv_Wp.lift (fun _ Kz => jv_Ev.br jv_i391 (pc' := 131) (st' := [.int (vl_I f.d), .ref 178]) rfl (by rfl) Kz) ?_
  refine jv_Wp.lift (fun _ Kz => jv_Ev.steps jv_i391 3 (pc' := 135) (l' := [(4, .long (Int32.ofInt f.i).toInt64), (2, .long xd), (1, .int (0 : Int32)), (0, .ref 178)]) (st' := [.int (32 : Int32), .long xd, .ref 178, .int (vl_I f.d), .ref 178]) rfl Kz) ?_
  refine jv_Wp.lift (fun _ Kz => jv_Ev.c jv_i391 (pc' := 138) (S' := [.long (Int64.ofBitVec (vm_sx (xd).toBitVec 32)), .ref 178, .int (vl_I f.d), .ref 178]) jv_i380 [.long xd, .int (32 : Int32)] rfl rfl rfl rfl rfl rfl (vr_signed32 (v := xd)) rfl rfl Kz) ?_
  refine jv_Wp.lift (fun _ Kz => jv_Ev.steps jv_i391 2 (pc' := 142) (l' := [(4, .long (Int32.ofInt f.i).toInt64), (2, .long xd), (1, .int (0 : Int32)), (0, .ref 178)]) (st' := [.int (32 : Int32), .long (Int32.ofInt f.i).toInt64, .long (Int64.ofBitVec (vm_sx (xd).toBitVec 32)), .ref 178, .int (vl_I f.d), .ref 178]) rfl Kz) ?_
  refine jv_Wp.lift (fun _ Kz => jv_Ev.c jv_i391 (pc' := 145) (S' := [.long (Int64.ofBitVec (vm_sx ((Int32.ofInt f.i).toInt64).toBitVec 32)), .long (Int64.ofBitVec (vm_sx (xd).toBitVec 32)), .ref 178, .int (vl_I f.d), .ref 178]) jv_i380 [.long (Int32.ofInt f.i).toInt64, .int (32 : Int32)] rfl rfl rfl rfl rfl rfl (vr_signed32 (v := (Int32.ofInt f.i).toInt64)) rfl rfl Kz) ?_
  refine jv_Wp.lift (fun _ Kz => jv_Ev.steps jv_i391 1 (pc' := 147) (l' := [(4, .long (Int32.ofInt f.i).toInt64), (2, .long xd), (1, .int (0 : Int32)), (0, .ref 178)]) (st' := [.int (32 : Int32), .long (Int64.ofBitVec (vm_sx ((Int32.ofInt f.i).toInt64).toBitVec 32)), .long (Int64.ofBitVec (vm_sx (xd).toBitVec 32)), .ref 178, .int (vl_I f.d), .ref 178]) rfl Kz) ?_
  refine jv_Wp.lift (fun _ Kz => jv_Ev.c jv_i391 (pc' := 150) (S' := [.long v, .int (vl_I f.d), .ref 178]) jv_i382 [.ref 178, .long (Int64.ofBitVec (vm_sx (xd).toBitVec 32)), .long (Int64.ofBitVec (vm_sx ((Int32.ofInt f.i).toInt64).toBitVec 32)), .int (32 : Int32)] rfl rfl rfl rfl (jv_cal rfl (jv_H_at (jv_rwK hW 178 14 31 (by decide))) rfl rfl) rfl hV rfl rfl Kz) ?_
  refine jv_Wp.lift (fun _ Kz => jv_Ev.steps jv_i391 1 (pc' := 152) (l' := [(4, .long (Int32.ofInt f.i).toInt64), (2, .long xd), (1, .int (0 : Int32)), (0, .ref 178)]) (st' := [.int (32 : Int32), .long v, .int (vl_I f.d), .ref 178]) rfl Kz) ?_
  refine jv_Wp.lift (fun _ Kz => jv_Ev.c jv_i391 (pc' := 155) (S' := [.long (Int64.ofBitVec ((v).toBitVec &&& vb_lowest 32)), .int (vl_I f.d), .ref 178]) jv_i381 [.long v, .int (32 : Int32)] rfl rfl rfl rfl rfl rfl (vr_low32 (v := v)) rfl rfl Kz) ?_
  refine jv_Wp.lift (fun _ Kz => jv_Ev.c jv_i391 (pc' := 158) (S' := []) (G1 := (jv_H K (jv_u I 221 f.d 1) (jv_u L 220 f.d (Int64.ofBitVec ((v).toBitVec &&& vb_lowest 32))) R)) jv_i375 [.ref 178, .int (vl_I f.d), .long (Int64.ofBitVec ((v).toBitVec &&& vb_lowest 32))] rfl rfl rfl rfl (jv_cal rfl (jv_H_at (jv_rwK hW 178 14 31 (by decide))) rfl rfl) rfl (vr_give (I := I) (L := L) (n := n) (sl := sl) (r := f.d) hW (by omega)) rfl rfl Kz) ?_
  refine jv_Wp.of (jv_Ev.ret jv_i391 rfl rfl) ?_
  have ev : (Int64.ofBitVec ((v).toBitVec &&& vb_lowest 32)) = Int64.ofBitVec (vx_do f x.toBitVec y.toBitVec (vm_sg f x.toBitVec y.toBitVec)) := congrArg Int64.ofBitVec (by rw [hv0, exd, exs])
  rw [hQ, ev]
  exact ⟨_, _, rfl, vm_r_gv h, vr_gv_ff (vc_ff_refl _ I L)⟩
theorem vr_arithM {K : Nat → Option (Nat × Nat)} {I : Nat → Nat → Int32} {L : Nat → Nat → Int64} {R : Nat → Nat → Value} (hW : jv_rW K R) {S T : vm_S} (hsh : vm_sh S) (h : vm_r I L S) {f : vf_F} (D : vm_D I f) (hd : f.d < 11) (hs : f.s < 11) (har : vf_ar f) (hk : f.kind = 4 ∨ f.kind = 7) (hl : vm_arith f S = some T) {n sl : Nat} : ∃ I1 L1, jv_Ms 391 [.ref 178] (jv_H K I L R) n sl (none, jv_H K I1 L1 R, n, sl) ∧ vm_r I1 L1 T ∧ vc_ff vr_Er I L I1 L1 := by
  have hk : f.kind = 7 ∨ f.kind = 4 := hk.symm
  rcases hk with hk | hk
  · cases hb3 : f.bit3 with
    | false =>
      by_cases h13 : f.n = 13
      · exact vr_arith7ti hW hsh h D hd hs har hk h13 hb3 hl
      · by_cases h11 : f.n = 11
        · exact vr_arith7mi hW hsh h D hd hs har hk h11 hb3 hl
        · exact vr_arith7oi hW hsh h D hd hs har hk h11 h13 hb3 hl
    | true =>
      by_cases h13 : f.n = 13
      · exact vr_arith7tr hW hsh h D hd hs har hk h13 hb3 hl
      · by_cases h11 : f.n = 11
        · exact vr_arith7mr hW hsh h D hd hs har hk h11 hb3 hl
        · exact vr_arith7or hW hsh h D hd hs har hk h11 h13 hb3 hl
  · cases hb3 : f.bit3 with
    | false =>
      by_cases h13 : f.n = 13
      · exact vr_arith4ti hW hsh h D hd hs har hk h13 hb3 hl
      · by_cases h11 : f.n = 11
        · exact vr_arith4mi hW hsh h D hd hs har hk h11 hb3 hl
        · exact vr_arith4oi hW hsh h D hd hs har hk h11 h13 hb3 hl
    | true =>
      by_cases h13 : f.n = 13
      · exact vr_arith4tr hW hsh h D hd hs har hk h13 hb3 hl
      · by_cases h11 : f.n = 11
        · exact vr_arith4mr hW hsh h D hd hs har hk h11 hb3 hl
        · exact vr_arith4or hW hsh h D hd hs har hk h11 h13 hb3 hl