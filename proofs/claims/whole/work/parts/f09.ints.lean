/-! part f09: reckoning of the class (gen/tf09.py) -/
/-- what operation n makes of two ints -/
def vm_ci (n : Nat) (X Y : BitVec 32) (sg : Bool) : BitVec 64 :=
  if n = 6 then (X <<< (Y.toNat % 32)).signExtend 64 else if n = 7 then (X >>> (Y.toNat % 32)).signExtend 64 else if n = 12 then (X.sshiftRight (Y.toNat % 32)).signExtend 64
  else if (n = 3 ∨ n = 9) ∧ sg = false then vm_ck n (X.signExtend 64 &&& vb_lowest 32) (Y.signExtend 64 &&& vb_lowest 32) sg else vm_ck n (X.signExtend 64) (Y.signExtend 64) sg
theorem vi_31 (s : BitVec 32) : s &&& 31#32 = BitVec.ofNat 32 (s.toNat % 32) := by
  have e31 : ∀ i, i < 32 → (31#32 : BitVec 32).getLsbD i = decide (i < 5) := by
    have : ∀ i : Fin 32, (31#32 : BitVec 32).getLsbD i.val = decide (i.val < 5) := by decide
    exact fun i hi => this ⟨i, hi⟩
  refine BitVec.eq_of_getLsbD_eq (fun i hi => ?_)
  rw [BitVec.getLsbD_and, e31 i hi, BitVec.getLsbD_ofNat, decide_eq_true hi, Bool.true_and]
  show _ = (s.toNat % 2 ^ 5).testBit i
  rw [Nat.testBit_mod_two_pow, BitVec.testBit_toNat]
  exact Bool.and_comm _ _
theorem vi_s31 (s : Int32) : (((s &&& 31) : Int32).toBitVec.smod 32).toNat = s.toBitVec.toNat % 32 := by
  have e : ((s &&& 31) : Int32).toBitVec = BitVec.ofNat 32 (s.toBitVec.toNat % 32) := by rw [Int32.toBitVec_and]; exact vi_31 _
  rw [e]
  have key : ∀ c : Fin 32, ((BitVec.ofNat 32 c.val).smod 32).toNat = c.val := by decide +kernel
  exact key ⟨_, Nat.mod_lt _ (by decide)⟩
theorem vi_ishl (x y : Int32) : (x <<< (y &&& 31)).toBitVec = x.toBitVec <<< (y.toBitVec.toNat % 32) := by
  rw [Int32.toBitVec_shiftLeft, BitVec.shiftLeft_eq', vi_s31]
theorem vi_ishr (x y : Int32) : (x >>> (y &&& 31)).toBitVec = x.toBitVec.sshiftRight (y.toBitVec.toNat % 32) := by
  rw [Int32.toBitVec_shiftRight, BitVec.sshiftRight_eq', vi_s31]
theorem vi_iushr (x y : Int32) : ((x.toUInt32 >>> (y.toUInt32 &&& Int32.toUInt32 31)).toInt32).toBitVec = x.toBitVec >>> (y.toBitVec.toNat % 32) := by
  show (x.toUInt32 >>> (y.toUInt32 &&& Int32.toUInt32 31)).toBitVec = _
  rw [UInt32.toBitVec_shiftRight, BitVec.ushiftRight_eq', BitVec.toNat_umod]
  congr 1
  have e : (y.toUInt32 &&& Int32.toUInt32 31).toBitVec = BitVec.ofNat 32 (y.toBitVec.toNat % 32) := by rw [UInt32.toBitVec_and]; exact vi_31 _
  rw [e, BitVec.toNat_ofNat]
  show y.toBitVec.toNat % 32 % 4294967296 % 32 = _
  omega
/-! the lowest 32 bits -/
theorem vb_lo32 (x : BitVec 64) : x &&& vb_lowest 32 = (x.setWidth 32).setWidth 64 := by
  refine BitVec.eq_of_getLsbD_eq (fun i hi => ?_)
  rw [BitVec.getLsbD_and, vb_lowest_bit 32 hi, BitVec.getLsbD_setWidth, BitVec.getLsbD_setWidth, decide_eq_true hi, Bool.true_and]
  exact Bool.and_comm _ _
theorem vb_lo_eq {x y : BitVec 64} (h : x.setWidth 32 = y.setWidth 32) : x &&& vb_lowest 32 = y &&& vb_lowest 32 := by rw [vb_lo32, vb_lo32, h]
theorem vb_lo_lo (x : BitVec 64) : (x &&& vb_lowest 32).setWidth 32 = x.setWidth 32 := by
  refine BitVec.eq_of_getLsbD_eq (fun i hi => ?_)
  rw [BitVec.getLsbD_setWidth, BitVec.getLsbD_setWidth, BitVec.getLsbD_and, vb_lowest_bit 32 (by omega), decide_eq_true hi, Bool.and_true]
theorem vb_lo_se (X : BitVec 32) : (X.signExtend 64).setWidth 32 = X := by
  refine BitVec.eq_of_getLsbD_eq (fun i hi => ?_)
  rw [BitVec.getLsbD_setWidth, BitVec.getLsbD_signExtend, decide_eq_true hi, decide_eq_true (show i < 64 by omega), if_pos hi]; rfl
theorem vb_lo_sub (x y : BitVec 64) : (x - y).setWidth 32 = x.setWidth 32 - y.setWidth 32 := by
  refine BitVec.eq_of_toNat_eq ?_
  rw [BitVec.toNat_setWidth, BitVec.toNat_sub, BitVec.toNat_sub, BitVec.toNat_setWidth, BitVec.toNat_setWidth]
  have := x.isLt; have := y.isLt
  omega
theorem vb_lo_neg (x : BitVec 64) : (-x).setWidth 32 = -(x.setWidth 32) := by
  refine BitVec.eq_of_toNat_eq ?_
  rw [BitVec.toNat_setWidth, BitVec.toNat_neg, BitVec.toNat_neg, BitVec.toNat_setWidth]
  have := x.isLt
  omega
theorem vb_se_lo (a : BitVec 64) : (a.setWidth 32).signExtend 64 &&& vb_lowest 32 = a &&& vb_lowest 32 := vb_lo_eq (vb_lo_se _)
theorem vb_lo_n (b : BitVec 64) : (b &&& vb_lowest 32).toNat % 32 = (b.setWidth 32).toNat % 32 := by
  rw [vb_lo32, BitVec.toNat_setWidth, BitVec.toNat_setWidth]; omega
theorem vb_lo_bit {a : BitVec 64} {i : Nat} (hi : i < 64) : (a &&& vb_lowest 32).getLsbD i = (decide (i < 32) && a.getLsbD i) := by
  rw [BitVec.getLsbD_and, vb_lowest_bit 32 hi]; exact Bool.and_comm _ _
theorem vm_ci_0 (a b : BitVec 64) (n : Nat) (hn : n ≤ 12) : vm_ci n (a.setWidth 32) (b.setWidth 32) false &&& vb_lowest 32 = if n = 8 then vb_op (vl_I 1) (0 &&& vb_lowest 32) (a &&& vb_lowest 32) 31 &&& vb_lowest 32 else vb_op (vl_I n) (if n = 12 then vb_sext (a &&& vb_lowest 32) 32 else a &&& vb_lowest 32) (b &&& vb_lowest 32) 31 &&& vb_lowest 32 := by
  have o0 : ∀ x y t, vb_op (vl_I 0) x y t = x + y := fun x y t => if_pos (by decide)
  have o1 : ∀ x y t, vb_op (vl_I 1) x y t = x - y := fun x y t => by unfold vb_op; rw [if_neg (by decide), if_pos (by decide)]
  have o2 : ∀ x y t, vb_op (vl_I 2) x y t = x * y := fun x y t => by unfold vb_op; rw [if_neg (by decide), if_neg (by decide), if_pos (by decide)]
  have o3 : ∀ x y t, vb_op (vl_I 3) x y t = x / y := fun x y t => by unfold vb_op; rw [if_neg (by decide), if_neg (by decide), if_neg (by decide), if_pos (by decide)]
  have o4 : ∀ x y t, vb_op (vl_I 4) x y t = x ||| y := fun x y t => by unfold vb_op; rw [if_neg (by decide), if_neg (by decide), if_neg (by decide), if_neg (by decide), if_pos (by decide)]
  have o5 : ∀ x y t, vb_op (vl_I 5) x y t = x &&& y := fun x y t => by unfold vb_op; rw [if_neg (by decide), if_neg (by decide), if_neg (by decide), if_neg (by decide), if_neg (by decide), if_pos (by decide)]
  have o6 : ∀ x y t, vb_op (vl_I 6) x y t = x <<< (y.toNat % (t + 1)) := fun x y t => by unfold vb_op; rw [if_neg (by decide), if_neg (by decide), if_neg (by decide), if_neg (by decide), if_neg (by decide), if_neg (by decide), if_pos (by decide)]
  have o7 : ∀ x y t, vb_op (vl_I 7) x y t = x >>> (y.toNat % (t + 1)) := fun x y t => by unfold vb_op; rw [if_neg (by decide), if_neg (by decide), if_neg (by decide), if_neg (by decide), if_neg (by decide), if_neg (by decide), if_neg (by decide), if_pos (by decide)]
  have o9 : ∀ x y t, vb_op (vl_I 9) x y t = (if y = 0 then x else x % y) := fun x y t => by unfold vb_op; rw [if_neg (by decide), if_neg (by decide), if_neg (by decide), if_neg (by decide), if_neg (by decide), if_neg (by decide), if_neg (by decide), if_neg (by decide), if_pos (by decide)]
  have o10 : ∀ x y t, vb_op (vl_I 10) x y t = x ^^^ y := fun x y t => by unfold vb_op; rw [if_neg (by decide), if_neg (by decide), if_neg (by decide), if_neg (by decide), if_neg (by decide), if_neg (by decide), if_neg (by decide), if_neg (by decide), if_neg (by decide), if_pos (by decide)]
  have o11 : ∀ x y t, vb_op (vl_I 11) x y t = y := fun x y t => by unfold vb_op; rw [if_neg (by decide), if_neg (by decide), if_neg (by decide), if_neg (by decide), if_neg (by decide), if_neg (by decide), if_neg (by decide), if_neg (by decide), if_neg (by decide), if_neg (by decide), if_pos (by decide)]
  have o12 : ∀ x y t, vb_op (vl_I 12) x y t = x.sshiftRight (y.toNat % (t + 1)) := fun x y t => by unfold vb_op; rw [if_neg (by decide), if_neg (by decide), if_neg (by decide), if_neg (by decide), if_neg (by decide), if_neg (by decide), if_neg (by decide), if_neg (by decide), if_neg (by decide), if_neg (by decide), if_neg (by decide)]
  have ci : ∀ k X Y, k ≠ 6 → k ≠ 7 → k ≠ 12 → k ≠ 3 → k ≠ 9 → vm_ci k X Y false = vm_ck k (X.signExtend 64) (Y.signExtend 64) false := fun k X Y a b c d e => by unfold vm_ci; rw [if_neg a, if_neg b, if_neg c, if_neg (by omega)]
  match n, hn with
  | 0, _ => rw [ci 0 _ _ (by decide) (by decide) (by decide) (by decide) (by decide), if_neg (by decide), if_neg (by decide), o0]
            refine vb_lo_eq ?_
            show (_ + _ : BitVec 64).setWidth 32 = _
            rw [BitVec.setWidth_add _ _ (by decide), BitVec.setWidth_add _ _ (by decide), vb_lo_se, vb_lo_se, vb_lo_lo, vb_lo_lo]
  | 1, _ => rw [ci 1 _ _ (by decide) (by decide) (by decide) (by decide) (by decide), if_neg (by decide), if_neg (by decide), o1]
            refine vb_lo_eq ?_
            show (_ - _ : BitVec 64).setWidth 32 = _
            rw [vb_lo_sub, vb_lo_sub, vb_lo_se, vb_lo_se, vb_lo_lo, vb_lo_lo]
  | 2, _ => rw [ci 2 _ _ (by decide) (by decide) (by decide) (by decide) (by decide), if_neg (by decide), if_neg (by decide), o2]
            refine vb_lo_eq ?_
            show (_ * _ : BitVec 64).setWidth 32 = _
            rw [BitVec.setWidth_mul _ _ (by decide), BitVec.setWidth_mul _ _ (by decide), vb_lo_se, vb_lo_se, vb_lo_lo, vb_lo_lo]
  | 3, _ => rw [if_neg (by decide), if_neg (by decide), o3]
            unfold vm_ci
            rw [if_neg (by decide), if_neg (by decide), if_neg (by decide), if_pos ⟨Or.inl rfl, rfl⟩, vb_se_lo, vb_se_lo]; rfl
  | 4, _ => rw [ci 4 _ _ (by decide) (by decide) (by decide) (by decide) (by decide), if_neg (by decide), if_neg (by decide), o4]
            refine vb_lo_eq ?_
            show (_ ||| _ : BitVec 64).setWidth 32 = _
            rw [BitVec.setWidth_or, BitVec.setWidth_or, vb_lo_se, vb_lo_se, vb_lo_lo, vb_lo_lo]
  | 5, _ => rw [ci 5 _ _ (by decide) (by decide) (by decide) (by decide) (by decide), if_neg (by decide), if_neg (by decide), o5]
            refine vb_lo_eq ?_
            show (_ &&& _ : BitVec 64).setWidth 32 = _
            rw [BitVec.setWidth_and, BitVec.setWidth_and, vb_lo_se, vb_lo_se, vb_lo_lo, vb_lo_lo]
  | 6, _ => rw [if_neg (by decide), if_neg (by decide), o6, vb_lo_n]
            unfold vm_ci
            rw [if_pos rfl]
            refine vb_lo_eq ?_
            rw [vb_lo_se]
            generalize (b.setWidth 32).toNat % (31 + 1) = s
            refine BitVec.eq_of_getLsbD_eq (fun i hi => ?_)
            rw [BitVec.getLsbD_shiftLeft, BitVec.getLsbD_setWidth, BitVec.getLsbD_setWidth, BitVec.getLsbD_shiftLeft, decide_eq_true hi, decide_eq_true (show i < 64 by omega)]
            by_cases c : i < s
            · rw [decide_eq_true c]; simp
            · rw [decide_eq_false c, vb_lo_bit (by omega), decide_eq_true (show i - s < 32 by omega)]; simp
  | 7, _ => rw [if_neg (by decide), if_neg (by decide), o7, vb_lo_n]
            unfold vm_ci
            rw [if_neg (by decide), if_pos rfl]
            refine vb_lo_eq ?_
            rw [vb_lo_se]
            generalize hs : (b.setWidth 32).toNat % (31 + 1) = s
            have hs : s < 32 := by omega
            refine BitVec.eq_of_getLsbD_eq (fun i hi => ?_)
            rw [BitVec.getLsbD_ushiftRight, BitVec.getLsbD_setWidth, BitVec.getLsbD_setWidth, BitVec.getLsbD_ushiftRight, decide_eq_true hi, vb_lo_bit (by omega)]; rfl
  | 8, _ => rw [ci 8 _ _ (by decide) (by decide) (by decide) (by decide) (by decide), if_pos rfl, o1]
            refine vb_lo_eq ?_
            show (-_ : BitVec 64).setWidth 32 = _
            rw [vb_lo_neg, vb_lo_sub, vb_lo_se, vb_lo_lo, vb_lo_lo]
            show _ = (0 : BitVec 64).setWidth 32 - _
            rw [show (0 : BitVec 64).setWidth 32 = 0#32 from by decide]
            exact (BitVec.zero_sub _).symm
  | 9, _ => rw [if_neg (by decide), if_neg (by decide), o9]
            unfold vm_ci
            rw [if_neg (by decide), if_neg (by decide), if_neg (by decide), if_pos ⟨Or.inr rfl, rfl⟩, vb_se_lo, vb_se_lo]; rfl
  | 10, _ => rw [ci 10 _ _ (by decide) (by decide) (by decide) (by decide) (by decide), if_neg (by decide), if_neg (by decide), o10]
             refine vb_lo_eq ?_
             show (_ ^^^ _ : BitVec 64).setWidth 32 = _
             rw [BitVec.setWidth_xor, BitVec.setWidth_xor, vb_lo_se, vb_lo_se, vb_lo_lo, vb_lo_lo]
  | 11, _ => rw [ci 11 _ _ (by decide) (by decide) (by decide) (by decide) (by decide), if_neg (by decide), if_neg (by decide), o11]
             refine vb_lo_eq ?_
             show ((b.setWidth 32).signExtend 64).setWidth 32 = _
             rw [vb_lo_se, vb_lo_lo]
  | 12, _ => rw [if_neg (by decide), if_pos rfl, o12, vb_lo_n]
             unfold vm_ci
             rw [if_neg (by decide), if_neg (by decide), if_pos rfl]
             refine vb_lo_eq ?_
             rw [vb_lo_se]
             generalize hs : (b.setWidth 32).toNat % (31 + 1) = s
             have hs : s < 32 := by omega
             rw [← vb_sx32]
             refine BitVec.eq_of_getLsbD_eq (fun i hi => ?_)
             rw [BitVec.getLsbD_setWidth, BitVec.getLsbD_sshiftRight, BitVec.getLsbD_sshiftRight, decide_eq_true hi, decide_eq_false (show ¬ 32 ≤ i by omega), decide_eq_false (show ¬ 64 ≤ i by omega), if_pos (show s + i < 64 by omega), BitVec.getLsbD_signExtend, decide_eq_true (show s + i < 64 by omega)]
             simp
  | k + 13, h => omega
theorem vm_ck_0 (a b : BitVec 64) (n : Nat) (hn : n ≤ 12) : vm_ck n a b false = if n = 8 then vb_op (vl_I 1) 0 a 63 else vb_op (vl_I n) a b 63 := by
  have z : ∀ k, k ≠ 8 → k ≤ 12 → vm_ck k a b false = vb_op (vl_I k) a b 63 := fun k h8 h => by
    unfold vb_op
    match k, h8, h with
    | 0, _, _ => rw [if_pos (by decide)]; rfl
    | 1, _, _ => rw [if_neg (by decide), if_pos (by decide)]; rfl
    | 2, _, _ => rw [if_neg (by decide), if_neg (by decide), if_pos (by decide)]; rfl
    | 3, _, _ => rw [if_neg (by decide), if_neg (by decide), if_neg (by decide), if_pos (by decide)]; rfl
    | 4, _, _ => rw [if_neg (by decide), if_neg (by decide), if_neg (by decide), if_neg (by decide), if_pos (by decide)]; rfl
    | 5, _, _ => rw [if_neg (by decide), if_neg (by decide), if_neg (by decide), if_neg (by decide), if_neg (by decide), if_pos (by decide)]; rfl
    | 6, _, _ => rw [if_neg (by decide), if_neg (by decide), if_neg (by decide), if_neg (by decide), if_neg (by decide), if_neg (by decide), if_pos (by decide)]; rfl
    | 7, _, _ => rw [if_neg (by decide), if_neg (by decide), if_neg (by decide), if_neg (by decide), if_neg (by decide), if_neg (by decide), if_neg (by decide), if_pos (by decide)]; rfl
    | 8, h, _ => exact absurd rfl h
    | 9, _, _ => rw [if_neg (by decide), if_neg (by decide), if_neg (by decide), if_neg (by decide), if_neg (by decide), if_neg (by decide), if_neg (by decide), if_neg (by decide), if_pos (by decide)]; rfl
    | 10, _, _ => rw [if_neg (by decide), if_neg (by decide), if_neg (by decide), if_neg (by decide), if_neg (by decide), if_neg (by decide), if_neg (by decide), if_neg (by decide), if_neg (by decide), if_pos (by decide)]; rfl
    | 11, _, _ => rw [if_neg (by decide), if_neg (by decide), if_neg (by decide), if_neg (by decide), if_neg (by decide), if_neg (by decide), if_neg (by decide), if_neg (by decide), if_neg (by decide), if_neg (by decide), if_pos (by decide)]; rfl
    | 12, _, _ => rw [if_neg (by decide), if_neg (by decide), if_neg (by decide), if_neg (by decide), if_neg (by decide), if_neg (by decide), if_neg (by decide), if_neg (by decide), if_neg (by decide), if_neg (by decide), if_neg (by decide)]; rfl
    | k + 13, _, h => omega
  by_cases c : n = 8
  · rw [if_pos c]; subst c
    unfold vb_op
    rw [if_neg (by decide), if_pos (by decide)]
    exact (BitVec.zero_sub a).symm
  · rw [if_neg c]; exact z n c hn
theorem vb_low64 (x : BitVec 64) : x &&& vb_lowest 64 = x := by
  refine BitVec.eq_of_getLsbD_eq (fun i hi => ?_)
  rw [BitVec.getLsbD_and, vb_lowest_bit 64 hi, decide_eq_true hi, Bool.and_true]
theorem vm_do7 {f : vf_F} {a b : BitVec 64} (hk : f.kind = 7) (har : vf_ar f) (h13 : f.n ≠ 13) (h11 : f.n ≠ 11) {sg : Bool} (hsg : sg = decide (f.o = 1)) : vx_do f a b (vm_sg f a b) = vm_ck f.n a b sg := by
  obtain ⟨a1, a2, a3, a4, a5⟩ := har
  unfold vx_do
  rw [if_neg h13]
  by_cases ho : f.o ≠ 0
  · have z := a3 h13 h11 ho
    rw [if_pos ho, if_neg h11, if_pos hk, vb_low64, hsg, decide_eq_true z.2]
    unfold vm_sg
    rcases z.1 with e | e
    · rw [e]; simp only [if_pos hk, if_true]; rfl
    · rw [e]; simp only [if_pos hk]; rfl
  · rw [if_neg ho, if_pos hk, if_pos hk, hsg, decide_eq_false (by omega), vm_ck_0 a b f.n (by omega)]
theorem vm_do4 {f : vf_F} {a b : BitVec 64} (hk : ¬ f.kind = 7) (har : vf_ar f) (h13 : f.n ≠ 13) (h11 : f.n ≠ 11) {sg : Bool} (hsg : sg = decide (f.o = 1)) : vx_do f a b (vm_sg f a b) = vm_ci f.n (a.setWidth 32) (b.setWidth 32) sg &&& vb_lowest 32 := by
  obtain ⟨a1, a2, a3, a4, a5⟩ := har
  unfold vx_do
  rw [if_neg h13]
  by_cases ho : f.o ≠ 0
  · have z := a3 h13 h11 ho
    rw [if_pos ho, if_neg h11, if_neg hk, hsg, decide_eq_true z.2]
    have z1 := z.1
    have sx : ∀ v : BitVec 64, vm_sx v 32 = (v.setWidth 32).signExtend 64 := fun v => by unfold vm_sx; rw [if_neg (by decide)]; exact (vb_sx32 v).symm
    have e2 : vm_ci f.n (a.setWidth 32) (b.setWidth 32) true = vm_ck f.n ((a.setWidth 32).signExtend 64) ((b.setWidth 32).signExtend 64) true := by
      unfold vm_ci
      rw [if_neg (show ¬ f.n = 6 by omega), if_neg (show ¬ f.n = 7 by omega), if_neg (show ¬ f.n = 12 by omega), if_neg (fun y => nomatch y.2)]
    rw [e2]
    congr 1
    show (if f.n = 3 then (if f.kind = 7 then a else vm_sx a 32).sdiv (if f.kind = 7 then b else vm_sx b 32) else (if f.kind = 7 then a else vm_sx a 32) - (if f.kind = 7 then a else vm_sx a 32).sdiv (if f.kind = 7 then b else vm_sx b 32) * (if f.kind = 7 then b else vm_sx b 32)) = _
    rw [if_neg hk, if_neg hk, sx, sx]
    rcases z1 with e | e
    · rw [e]; rfl
    · rw [e]; rfl
  · rw [if_neg ho, if_neg hk, if_neg hk, hsg, decide_eq_false (by omega), vm_ci_0 a b f.n (by omega)]
theorem vm_do7m {f : vf_F} {a b g : BitVec 64} (hk : f.kind = 7) (h11 : f.n = 11) : vx_do f a b g = if f.o = 0 then b else vb_sext (b &&& vb_lowest f.o.toNat) f.o.toNat := by
  unfold vx_do
  rw [if_neg (by omega)]
  by_cases ho : f.o ≠ 0
  · rw [if_pos ho, if_pos h11, if_pos hk, vb_low64, if_neg ho]
  · rw [if_neg ho, if_neg (show ¬ f.n = 8 by omega), if_pos hk, if_pos (show f.o = 0 by omega), h11]
    have y := vm_ck_0 a b 11 (by decide)
    rw [if_neg (by decide)] at y; exact y.symm
theorem vm_do4m {f : vf_F} {a b g : BitVec 64} (hk : ¬ f.kind = 7) (h11 : f.n = 11) : vx_do f a b g = (if f.o = 0 then b else vb_sext (b &&& vb_lowest f.o.toNat) f.o.toNat) &&& vb_lowest 32 := by
  unfold vx_do
  rw [if_neg (by omega)]
  by_cases ho : f.o ≠ 0
  · rw [if_pos ho, if_pos h11, if_neg hk, if_neg ho]
  · rw [if_neg ho, if_neg (show ¬ f.n = 8 by omega), if_neg hk, if_neg (show ¬ f.n = 12 by omega), if_pos (show f.o = 0 by omega), h11]
    have y := vm_ci_0 a b 11 (by decide)
    rw [if_neg (by decide), if_neg (by decide)] at y
    refine y.symm.trans ?_
    unfold vm_ci
    rw [if_neg (by decide), if_neg (by decide), if_neg (by decide), if_neg (by decide)]
    exact vb_lo_eq (vb_lo_se _)
theorem vm_shoE {v : Int64} {n : Nat} {o : Int32} (hn : n = 8 ∨ n = 16 ∨ n = 32) (ho : o = vl_I n) : ((v <<< (((64 : Int32) - o).toInt64 &&& 63)) >>> (((64 : Int32) - o).toInt64 &&& 63)) = Int64.ofBitVec (vb_sext (v.toBitVec &&& vb_lowest n) n) := by
  subst ho
  have key : ∀ n : Nat, 0 < n → n < 64 → ∀ s : Int64, s.toBitVec.smod 64 = BitVec.ofNat 64 (64 - n) → (v <<< s) >>> s = Int64.ofBitVec (vb_sext (v.toBitVec &&& vb_lowest n) n) := fun n a b s hs => by
    refine Int64.toBitVec_inj.mp ?_
    rw [Int64.toBitVec_shiftRight, Int64.toBitVec_shiftLeft, hs, BitVec.sshiftRight_eq', BitVec.shiftLeft_eq', show (BitVec.ofNat 64 (64 - n)).toNat = 64 - n from (BitVec.toNat_ofNat _ _).trans (Nat.mod_eq_of_lt (by omega)), vb_shsx a b]; rfl
  rcases hn with z | z | z <;> subst z
  · exact key 8 (by decide) (by decide) _ (by decide)
  · exact key 16 (by decide) (by decide) _ (by decide)
  · exact key 32 (by decide) (by decide) _ (by decide)
theorem jv_i66 : jv_I 66 7 (some .long) 3 73 jv_c66 := ⟨rfl, rfl, rfl, rfl, rfl⟩
theorem vc_rints_0 {G : jv_G} {n : Nat} (hn : n ≤ 12) {x y : Int32} {sg : Bool} {m sl : Nat} {Q : jv_R → Prop} (hQ : Q (some (.long (Int64.ofBitVec (vm_ci n x.toBitVec y.toBitVec sg))), G, m, sl)) : jv_Wp 66 0 [(0, .int (vl_I n)), (1, .int x), (2, .int y), (3, .int (vr_b sg))] [] G m sl Q := by
  refine jv_Wp.lift (fun _ Kz => jv_Ev.steps jv_i66 1 (pc' := 1) (l' := [(0, .int (vl_I n)), (1, .int x), (2, .int y), (3, .int (vr_b sg))]) (st' := [.int (vl_I n)]) rfl Kz) ?_
  refine jv_Wp.bys (q := ((vl_I n) = Int32.ofInt 6)) (fun h1 => ?_) (fun h1 => ?_)
  · refine jv_Wp.lift (fun _ Kz => jv_Ev.br jv_i66 (pc' := 36) (st' := []) rfl (by rw [h1]; rfl) Kz) ?_
    refine jv_Wp.lift (fun _ Kz => jv_Ev.steps jv_i66 4 (pc' := 40) (l' := [(0, .int (vl_I n)), (1, .int x), (2, .int y), (3, .int (vr_b sg))]) (st' := [.long (x <<< (y &&& 31)).toInt64]) rfl Kz) ?_
    refine jv_Wp.of (jv_Ev.ret jv_i66 rfl rfl) ?_
    have hnk : n = 6 := (vl_I_inj (a := n) (b := 6) (by omega) (by decide)).mp h1
    subst hnk
    rw [show Int64.ofBitVec (vm_ci 6 x.toBitVec y.toBitVec sg) = (x <<< (y &&& 31)).toInt64 from Int64.toBitVec_inj.mp (by rw [Int32.toBitVec_toInt64, vi_ishl]; unfold vm_ci; rw [if_pos rfl]; rfl)] at hQ
    exact hQ
  · refine jv_Wp.bys (q := ((vl_I n) = Int32.ofInt 7)) (fun h2 => ?_) (fun h2 => ?_)
    · refine jv_Wp.lift (fun _ Kz => jv_Ev.br jv_i66 (pc' := 41) (st' := []) rfl (by rw [h2]; rfl) Kz) ?_
      refine jv_Wp.lift (fun _ Kz => jv_Ev.steps jv_i66 4 (pc' := 45) (l' := [(0, .int (vl_I n)), (1, .int x), (2, .int y), (3, .int (vr_b sg))]) (st' := [.long ((x.toUInt32 >>> (y.toUInt32 &&& Int32.toUInt32 31)).toInt32).toInt64]) rfl Kz) ?_
      refine jv_Wp.of (jv_Ev.ret jv_i66 rfl rfl) ?_
      have hnk : n = 7 := (vl_I_inj (a := n) (b := 7) (by omega) (by decide)).mp h2
      subst hnk
      rw [show Int64.ofBitVec (vm_ci 7 x.toBitVec y.toBitVec sg) = ((x.toUInt32 >>> (y.toUInt32 &&& Int32.toUInt32 31)).toInt32).toInt64 from Int64.toBitVec_inj.mp (by rw [Int32.toBitVec_toInt64, vi_iushr]; unfold vm_ci; rw [if_neg (by decide), if_pos rfl]; rfl)] at hQ
      exact hQ
    · refine jv_Wp.bys (q := ((vl_I n) = Int32.ofInt 12)) (fun h3 => ?_) (fun h3 => ?_)
      · refine jv_Wp.lift (fun _ Kz => jv_Ev.br jv_i66 (pc' := 46) (st' := []) rfl (by rw [h3]; rfl) Kz) ?_
        refine jv_Wp.lift (fun _ Kz => jv_Ev.steps jv_i66 4 (pc' := 50) (l' := [(0, .int (vl_I n)), (1, .int x), (2, .int y), (3, .int (vr_b sg))]) (st' := [.long (x >>> (y &&& 31)).toInt64]) rfl Kz) ?_
        refine jv_Wp.of (jv_Ev.ret jv_i66 rfl rfl) ?_
        have hnk : n = 12 := (vl_I_inj (a := n) (b := 12) (by omega) (by decide)).mp h3
        subst hnk
        rw [show Int64.ofBitVec (vm_ci 12 x.toBitVec y.toBitVec sg) = (x >>> (y &&& 31)).toInt64 from Int64.toBitVec_inj.mp (by rw [Int32.toBitVec_toInt64, vi_ishr]; unfold vm_ci; rw [if_neg (by decide), if_neg (by decide), if_pos rfl]; rfl)] at hQ
        exact hQ
      · refine jv_Wp.lift (fun _ Kz => jv_Ev.br jv_i66 (pc' := 51) (st' := []) rfl (jv_lsw_def (List.forall_mem_cons.mpr ⟨(jv_ne_toInt (k := 6) h1), List.forall_mem_cons.mpr ⟨(jv_ne_toInt (k := 7) h2), List.forall_mem_cons.mpr ⟨(jv_ne_toInt (k := 12) h3), fun _ h => absurd h List.not_mem_nil⟩⟩⟩)) Kz) ?_
        refine jv_Wp.lift (fun _ Kz => jv_Ev.steps jv_i66 2 (pc' := 53) (l' := [(0, .int (vl_I n)), (1, .int x), (2, .int y), (3, .int (vr_b sg))]) (st' := [.int (3 : Int32), .int (vl_I n)]) rfl Kz) ?_
        refine jv_Wp.cnd jv_i66 (pt := 62) (pe := 56) (p := ((vl_I n) = (3 : Int32))) (q := ((vl_I n) = (3 : Int32))) rfl jv_bc_eq rfl rfl Iff.rfl (fun h4 => ?_) (fun h4 => ?_)
        · refine jv_Wp.lift (fun _ Kz => jv_Ev.steps jv_i66 1 (pc' := 63) (l' := [(0, .int (vl_I n)), (1, .int x), (2, .int y), (3, .int (vr_b sg))]) (st' := [.int (vr_b sg)]) rfl Kz) ?_
          refine jv_Wp.cnd jv_i66 (pt := 70) (pe := 66) (p := (¬ (vr_b sg) = 0)) (q := (¬ (vr_b sg) = 0)) rfl jv_bi_ne rfl rfl Iff.rfl (fun h5 => ?_) (fun h5 => ?_)
          · refine jv_Wp.lift (fun _ Kz => jv_Ev.steps jv_i66 3 (pc' := 75) (l' := [(4, .int (0 : Int32)), (0, .int (vl_I n)), (1, .int x), (2, .int y), (3, .int (vr_b sg))]) (st' := [.int (0 : Int32)]) rfl Kz) ?_
            refine jv_Wp.lift (fun _ Kz => jv_Ev.br jv_i66 (pc' := 86) (st' := []) rfl (by rfl) Kz) ?_
            refine jv_Wp.lift (fun _ Kz => jv_Ev.steps jv_i66 12 (pc' := 103) (l' := [(5, .long (-1 : Int64)), (4, .int (0 : Int32)), (0, .int (vl_I n)), (1, .int x), (2, .int y), (3, .int (vr_b sg))]) (st' := [.int (vr_b sg), .long (y.toInt64 &&& (-1 : Int64)), .long (x.toInt64 &&& (-1 : Int64)), .int (vl_I n)]) rfl Kz) ?_
            refine jv_Wp.lift (fun _ Kz => jv_Ev.c jv_i66 (pc' := 106) (S' := [.long (Int64.ofBitVec (vm_ck n ((x.toInt64 &&& (-1 : Int64))).toBitVec ((y.toInt64 &&& (-1 : Int64))).toBitVec sg))]) jv_i64 [.int (vl_I n), .long (x.toInt64 &&& (-1 : Int64)), .long (y.toInt64 &&& (-1 : Int64)), .int (vr_b sg)] rfl rfl rfl rfl rfl rfl (vc_reckoned (n := n) (x := (x.toInt64 &&& (-1 : Int64))) (y := (y.toInt64 &&& (-1 : Int64))) (sg := sg) hn) rfl rfl Kz) ?_
            refine jv_Wp.of (jv_Ev.ret jv_i66 rfl rfl) ?_
            have e6 : ¬ n = 6 := fun z => h1 ((vl_I_inj (a := n) (b := 6) (by omega) (by decide)).mpr z)
            have e7 : ¬ n = 7 := fun z => h2 ((vl_I_inj (a := n) (b := 7) (by omega) (by decide)).mpr z)
            have e12 : ¬ n = 12 := fun z => h3 ((vl_I_inj (a := n) (b := 12) (by omega) (by decide)).mpr z)
            have hs : sg = true := vr_b_t h5
            have d : ¬ ((n = 3 ∨ n = 9) ∧ sg = false) := fun z => by rw [hs] at z; cases z.2
            have am : ∀ v : Int64, (v &&& (-1 : Int64)).toBitVec = v.toBitVec := fun v => by rw [Int64.toBitVec_and]; exact vr_andm1 _
            rw [show Int64.ofBitVec (vm_ci n x.toBitVec y.toBitVec sg) = (Int64.ofBitVec (vm_ck n ((x.toInt64 &&& (-1 : Int64))).toBitVec ((y.toInt64 &&& (-1 : Int64))).toBitVec sg)) from congrArg Int64.ofBitVec (by unfold vm_ci; rw [if_neg e6, if_neg e7, if_neg e12, if_neg d, am, am, Int32.toBitVec_toInt64, Int32.toBitVec_toInt64])] at hQ
            exact hQ
          · refine jv_Wp.lift (fun _ Kz => jv_Ev.steps jv_i66 4 (pc' := 75) (l' := [(4, .int (1 : Int32)), (0, .int (vl_I n)), (1, .int x), (2, .int y), (3, .int (vr_b sg))]) (st' := [.int (1 : Int32)]) rfl Kz) ?_
            refine jv_Wp.lift (fun _ Kz => jv_Ev.br jv_i66 (pc' := 78) (st' := []) rfl (by rfl) Kz) ?_
            refine jv_Wp.lift (fun _ Kz => jv_Ev.steps jv_i66 1 (pc' := 80) (l' := [(4, .int (1 : Int32)), (0, .int (vl_I n)), (1, .int x), (2, .int y), (3, .int (vr_b sg))]) (st' := [.int (32 : Int32)]) rfl Kz) ?_
            refine jv_Wp.lift (fun _ Kz => jv_Ev.c jv_i66 (pc' := 83) (S' := [.long (jv_clowest (32 : Int32))]) jv_i5 [.int (32 : Int32)] rfl rfl rfl rfl rfl rfl (jv_s5 (32 : Int32)) rfl rfl Kz) ?_
            refine jv_Wp.lift (fun _ Kz => jv_Ev.steps jv_i66 12 (pc' := 103) (l' := [(5, .long (jv_clowest (32 : Int32))), (4, .int (1 : Int32)), (0, .int (vl_I n)), (1, .int x), (2, .int y), (3, .int (vr_b sg))]) (st' := [.int (vr_b sg), .long (y.toInt64 &&& (jv_clowest (32 : Int32))), .long (x.toInt64 &&& (jv_clowest (32 : Int32))), .int (vl_I n)]) rfl Kz) ?_
            refine jv_Wp.lift (fun _ Kz => jv_Ev.c jv_i66 (pc' := 106) (S' := [.long (Int64.ofBitVec (vm_ck n ((x.toInt64 &&& (jv_clowest (32 : Int32)))).toBitVec ((y.toInt64 &&& (jv_clowest (32 : Int32)))).toBitVec sg))]) jv_i64 [.int (vl_I n), .long (x.toInt64 &&& (jv_clowest (32 : Int32))), .long (y.toInt64 &&& (jv_clowest (32 : Int32))), .int (vr_b sg)] rfl rfl rfl rfl rfl rfl (vc_reckoned (n := n) (x := (x.toInt64 &&& (jv_clowest (32 : Int32)))) (y := (y.toInt64 &&& (jv_clowest (32 : Int32)))) (sg := sg) hn) rfl rfl Kz) ?_
            refine jv_Wp.of (jv_Ev.ret jv_i66 rfl rfl) ?_
            have e6 : ¬ n = 6 := fun z => h1 ((vl_I_inj (a := n) (b := 6) (by omega) (by decide)).mpr z)
            have e7 : ¬ n = 7 := fun z => h2 ((vl_I_inj (a := n) (b := 7) (by omega) (by decide)).mpr z)
            have e12 : ¬ n = 12 := fun z => h3 ((vl_I_inj (a := n) (b := 12) (by omega) (by decide)).mpr z)
            have d : n = 3 := (vl_I_inj (a := n) (b := 3) (by omega) (by decide)).mp h4
            have hs : sg = false := vr_b_f (Classical.not_not.mp h5)
            rw [show Int64.ofBitVec (vm_ci n x.toBitVec y.toBitVec sg) = (Int64.ofBitVec (vm_ck n ((x.toInt64 &&& (jv_clowest (32 : Int32)))).toBitVec ((y.toInt64 &&& (jv_clowest (32 : Int32)))).toBitVec sg)) from congrArg Int64.ofBitVec (by unfold vm_ci; rw [if_neg e6, if_neg e7, if_neg e12, if_pos ⟨by omega, hs⟩, Int64.toBitVec_and, Int64.toBitVec_and, Int32.toBitVec_toInt64, Int32.toBitVec_toInt64, show (jv_clowest (32 : Int32)).toBitVec = vb_lowest 32 from vl_lowk (n := 32) (by decide)])] at hQ
            exact hQ
        · refine jv_Wp.lift (fun _ Kz => jv_Ev.steps jv_i66 2 (pc' := 59) (l' := [(0, .int (vl_I n)), (1, .int x), (2, .int y), (3, .int (vr_b sg))]) (st' := [.int (9 : Int32), .int (vl_I n)]) rfl Kz) ?_
          refine jv_Wp.cnd jv_i66 (pt := 70) (pe := 62) (p := (¬ (vl_I n) = (9 : Int32))) (q := (¬ (vl_I n) = (9 : Int32))) rfl jv_bc_ne rfl rfl Iff.rfl (fun h6 => ?_) (fun h6 => ?_)
          · refine jv_Wp.lift (fun _ Kz => jv_Ev.steps jv_i66 3 (pc' := 75) (l' := [(4, .int (0 : Int32)), (0, .int (vl_I n)), (1, .int x), (2, .int y), (3, .int (vr_b sg))]) (st' := [.int (0 : Int32)]) rfl Kz) ?_
            refine jv_Wp.lift (fun _ Kz => jv_Ev.br jv_i66 (pc' := 86) (st' := []) rfl (by rfl) Kz) ?_
            refine jv_Wp.lift (fun _ Kz => jv_Ev.steps jv_i66 12 (pc' := 103) (l' := [(5, .long (-1 : Int64)), (4, .int (0 : Int32)), (0, .int (vl_I n)), (1, .int x), (2, .int y), (3, .int (vr_b sg))]) (st' := [.int (vr_b sg), .long (y.toInt64 &&& (-1 : Int64)), .long (x.toInt64 &&& (-1 : Int64)), .int (vl_I n)]) rfl Kz) ?_
            refine jv_Wp.lift (fun _ Kz => jv_Ev.c jv_i66 (pc' := 106) (S' := [.long (Int64.ofBitVec (vm_ck n ((x.toInt64 &&& (-1 : Int64))).toBitVec ((y.toInt64 &&& (-1 : Int64))).toBitVec sg))]) jv_i64 [.int (vl_I n), .long (x.toInt64 &&& (-1 : Int64)), .long (y.toInt64 &&& (-1 : Int64)), .int (vr_b sg)] rfl rfl rfl rfl rfl rfl (vc_reckoned (n := n) (x := (x.toInt64 &&& (-1 : Int64))) (y := (y.toInt64 &&& (-1 : Int64))) (sg := sg) hn) rfl rfl Kz) ?_
            refine jv_Wp.of (jv_Ev.ret jv_i66 rfl rfl) ?_
            have e6 : ¬ n = 6 := fun z => h1 ((vl_I_inj (a := n) (b := 6) (by omega) (by decide)).mpr z)
            have e7 : ¬ n = 7 := fun z => h2 ((vl_I_inj (a := n) (b := 7) (by omega) (by decide)).mpr z)
            have e12 : ¬ n = 12 := fun z => h3 ((vl_I_inj (a := n) (b := 12) (by omega) (by decide)).mpr z)
            have d3 : ¬ n = 3 := fun z => h4 ((vl_I_inj (a := n) (b := 3) (by omega) (by decide)).mpr z)
            have d9 : ¬ n = 9 := fun z => h6 ((vl_I_inj (a := n) (b := 9) (by omega) (by decide)).mpr z)
            have d : ¬ ((n = 3 ∨ n = 9) ∧ sg = false) := fun z => by omega
            have am : ∀ v : Int64, (v &&& (-1 : Int64)).toBitVec = v.toBitVec := fun v => by rw [Int64.toBitVec_and]; exact vr_andm1 _
            rw [show Int64.ofBitVec (vm_ci n x.toBitVec y.toBitVec sg) = (Int64.ofBitVec (vm_ck n ((x.toInt64 &&& (-1 : Int64))).toBitVec ((y.toInt64 &&& (-1 : Int64))).toBitVec sg)) from congrArg Int64.ofBitVec (by unfold vm_ci; rw [if_neg e6, if_neg e7, if_neg e12, if_neg d, am, am, Int32.toBitVec_toInt64, Int32.toBitVec_toInt64])] at hQ
            exact hQ
          · refine jv_Wp.lift (fun _ Kz => jv_Ev.steps jv_i66 1 (pc' := 63) (l' := [(0, .int (vl_I n)), (1, .int x), (2, .int y), (3, .int (vr_b sg))]) (st' := [.int (vr_b sg)]) rfl Kz) ?_
            refine jv_Wp.cnd jv_i66 (pt := 70) (pe := 66) (p := (¬ (vr_b sg) = 0)) (q := (¬ (vr_b sg) = 0)) rfl jv_bi_ne rfl rfl Iff.rfl (fun h7 => ?_) (fun h7 => ?_)
            · refine jv_Wp.lift (fun _ Kz => jv_Ev.steps jv_i66 3 (pc' := 75) (l' := [(4, .int (0 : Int32)), (0, .int (vl_I n)), (1, .int x), (2, .int y), (3, .int (vr_b sg))]) (st' := [.int (0 : Int32)]) rfl Kz) ?_
              refine jv_Wp.lift (fun _ Kz => jv_Ev.br jv_i66 (pc' := 86) (st' := []) rfl (by rfl) Kz) ?_
              refine jv_Wp.lift (fun _ Kz => jv_Ev.steps jv_i66 12 (pc' := 103) (l' := [(5, .long (-1 : Int64)), (4, .int (0 : Int32)), (0, .int (vl_I n)), (1, .int x), (2, .int y), (3, .int (vr_b sg))]) (st' := [.int (vr_b sg), .long (y.toInt64 &&& (-1 : Int64)), .long (x.toInt64 &&& (-1 : Int64)), .int (vl_I n)]) rfl Kz) ?_
              refine jv_Wp.lift (fun _ Kz => jv_Ev.c jv_i66 (pc' := 106) (S' := [.long (Int64.ofBitVec (vm_ck n ((x.toInt64 &&& (-1 : Int64))).toBitVec ((y.toInt64 &&& (-1 : Int64))).toBitVec sg))]) jv_i64 [.int (vl_I n), .long (x.toInt64 &&& (-1 : Int64)), .long (y.toInt64 &&& (-1 : Int64)), .int (vr_b sg)] rfl rfl rfl rfl rfl rfl (vc_reckoned (n := n) (x := (x.toInt64 &&& (-1 : Int64))) (y := (y.toInt64 &&& (-1 : Int64))) (sg := sg) hn) rfl rfl Kz) ?_
              refine jv_Wp.of (jv_Ev.ret jv_i66 rfl rfl) ?_
              have e6 : ¬ n = 6 := fun z => h1 ((vl_I_inj (a := n) (b := 6) (by omega) (by decide)).mpr z)
              have e7 : ¬ n = 7 := fun z => h2 ((vl_I_inj (a := n) (b := 7) (by omega) (by decide)).mpr z)
              have e12 : ¬ n = 12 := fun z => h3 ((vl_I_inj (a := n) (b := 12) (by omega) (by decide)).mpr z)
              have hs : sg = true := vr_b_t h7
              have d : ¬ ((n = 3 ∨ n = 9) ∧ sg = false) := fun z => by rw [hs] at z; cases z.2
              have am : ∀ v : Int64, (v &&& (-1 : Int64)).toBitVec = v.toBitVec := fun v => by rw [Int64.toBitVec_and]; exact vr_andm1 _
              rw [show Int64.ofBitVec (vm_ci n x.toBitVec y.toBitVec sg) = (Int64.ofBitVec (vm_ck n ((x.toInt64 &&& (-1 : Int64))).toBitVec ((y.toInt64 &&& (-1 : Int64))).toBitVec sg)) from congrArg Int64.ofBitVec (by unfold vm_ci; rw [if_neg e6, if_neg e7, if_neg e12, if_neg d, am, am, Int32.toBitVec_toInt64, Int32.toBitVec_toInt64])] at hQ
              exact hQ
            · refine jv_Wp.lift (fun _ Kz => jv_Ev.steps jv_i66 4 (pc' := 75) (l' := [(4, .int (1 : Int32)), (0, .int (vl_I n)), (1, .int x), (2, .int y), (3, .int (vr_b sg))]) (st' := [.int (1 : Int32)]) rfl Kz) ?_
              refine jv_Wp.lift (fun _ Kz => jv_Ev.br jv_i66 (pc' := 78) (st' := []) rfl (by rfl) Kz) ?_
              refine jv_Wp.lift (fun _ Kz => jv_Ev.steps jv_i66 1 (pc' := 80) (l' := [(4, .int (1 : Int32)), (0, .int (vl_I n)), (1, .int x), (2, .int y), (3, .int (vr_b sg))]) (st' := [.int (32 : Int32)]) rfl Kz) ?_
              refine jv_Wp.lift (fun _ Kz => jv_Ev.c jv_i66 (pc' := 83) (S' := [.long (jv_clowest (32 : Int32))]) jv_i5 [.int (32 : Int32)] rfl rfl rfl rfl rfl rfl (jv_s5 (32 : Int32)) rfl rfl Kz) ?_
              refine jv_Wp.lift (fun _ Kz => jv_Ev.steps jv_i66 12 (pc' := 103) (l' := [(5, .long (jv_clowest (32 : Int32))), (4, .int (1 : Int32)), (0, .int (vl_I n)), (1, .int x), (2, .int y), (3, .int (vr_b sg))]) (st' := [.int (vr_b sg), .long (y.toInt64 &&& (jv_clowest (32 : Int32))), .long (x.toInt64 &&& (jv_clowest (32 : Int32))), .int (vl_I n)]) rfl Kz) ?_
              refine jv_Wp.lift (fun _ Kz => jv_Ev.c jv_i66 (pc' := 106) (S' := [.long (Int64.ofBitVec (vm_ck n ((x.toInt64 &&& (jv_clowest (32 : Int32)))).toBitVec ((y.toInt64 &&& (jv_clowest (32 : Int32)))).toBitVec sg))]) jv_i64 [.int (vl_I n), .long (x.toInt64 &&& (jv_clowest (32 : Int32))), .long (y.toInt64 &&& (jv_clowest (32 : Int32))), .int (vr_b sg)] rfl rfl rfl rfl rfl rfl (vc_reckoned (n := n) (x := (x.toInt64 &&& (jv_clowest (32 : Int32)))) (y := (y.toInt64 &&& (jv_clowest (32 : Int32)))) (sg := sg) hn) rfl rfl Kz) ?_
              refine jv_Wp.of (jv_Ev.ret jv_i66 rfl rfl) ?_
              have e6 : ¬ n = 6 := fun z => h1 ((vl_I_inj (a := n) (b := 6) (by omega) (by decide)).mpr z)
              have e7 : ¬ n = 7 := fun z => h2 ((vl_I_inj (a := n) (b := 7) (by omega) (by decide)).mpr z)
              have e12 : ¬ n = 12 := fun z => h3 ((vl_I_inj (a := n) (b := 12) (by omega) (by decide)).mpr z)
              have d : n = 9 := (vl_I_inj (a := n) (b := 9) (by omega) (by decide)).mp (Classical.not_not.mp h6)
              have hs : sg = false := vr_b_f (Classical.not_not.mp h7)
              rw [show Int64.ofBitVec (vm_ci n x.toBitVec y.toBitVec sg) = (Int64.ofBitVec (vm_ck n ((x.toInt64 &&& (jv_clowest (32 : Int32)))).toBitVec ((y.toInt64 &&& (jv_clowest (32 : Int32)))).toBitVec sg)) from congrArg Int64.ofBitVec (by unfold vm_ci; rw [if_neg e6, if_neg e7, if_neg e12, if_pos ⟨by omega, hs⟩, Int64.toBitVec_and, Int64.toBitVec_and, Int32.toBitVec_toInt64, Int32.toBitVec_toInt64, show (jv_clowest (32 : Int32)).toBitVec = vb_lowest 32 from vl_lowk (n := 32) (by decide)])] at hQ
              exact hQ
theorem vc_rints {G : jv_G} {n : Nat} (hn : n ≤ 12) {x y : Int32} {sg : Bool} {m sl : Nat} : jv_Ms 66 [.int (vl_I n), .int x, .int y, .int (vr_b sg)] G m sl (some (.long (Int64.ofBitVec (vm_ci n x.toBitVec y.toBitVec sg))), G, m, sl) := by
  obtain ⟨X, k, e⟩ := vc_rints_0 (G := G) (m := m) (sl := sl) (Q := fun X => X = (some (.long (Int64.ofBitVec (vm_ci n x.toBitVec y.toBitVec sg))), G, m, sl)) hn rfl
  subst e
  exact k