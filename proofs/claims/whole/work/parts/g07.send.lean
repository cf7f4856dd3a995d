/-! part g07: rings of the class: records are put and drawn (gen/tg07.py) -/
theorem vk_ib (v : Int32) {k : Nat} (hk : k < 4) : (v >>> (((8 : Int32) * (vl_I k)) &&& 31)).toInt8.toInt32 = vl_sb (v.toBitVec.toNat / 256 ^ k % 256) := by
  refine Int32.toBitVec_inj.mp ?_
  have hs : ∀ c : Fin 4, (((8 : Int32) * vl_I c.val) &&& 31).toBitVec.smod 32 = BitVec.ofNat 32 (8 * c.val) := by decide +kernel
  rw [Int8.toBitVec_toInt32, Int32.toBitVec_toInt8, BitVec.signExtend_eq_setWidth_of_le _ (show 8 ≤ 32 by decide)]
  show ((v >>> (((8 : Int32) * vl_I k) &&& 31)).toBitVec.setWidth 8).signExtend 32 = (BitVec.ofNat 8 _).signExtend 32
  congr 1
  rw [Int32.toBitVec_shiftRight, show (((8 : Int32) * vl_I k) &&& 31).toBitVec.smod 32 = BitVec.ofNat 32 (8 * k) from hs ⟨k, hk⟩, BitVec.sshiftRight_eq', show (BitVec.ofNat 32 (8 * k)).toNat = 8 * k from (BitVec.toNat_ofNat _ _).trans (Nat.mod_eq_of_lt (by omega))]
  refine BitVec.eq_of_getLsbD_eq (fun i hi => ?_)
  rw [BitVec.getLsbD_setWidth, BitVec.getLsbD_sshiftRight, BitVec.getLsbD_ofNat, decide_eq_true hi, decide_eq_false (show ¬ 32 ≤ i by omega), if_pos (show 8 * k + i < 32 by omega), Bool.true_and, Bool.true_and, Bool.not_false, Bool.true_and]
  rw [show (256 : Nat) ^ k = 2 ^ (8 * k) from (Nat.pow_mul 2 8 k).symm]
  show v.toBitVec.getLsbD (8 * k + i) = (v.toBitVec.toNat / 2 ^ (8 * k) % 2 ^ 8).testBit i
  rw [Nat.testBit_mod_two_pow, Nat.testBit_div_two_pow, decide_eq_true hi, Bool.true_and, BitVec.testBit_toNat, Nat.add_comm]
theorem vk_ib0 {k : Nat} (hk : k < 8) : ((0 : Int32) >>> (((8 : Int32) * (vl_I k)) &&& 31)).toInt8.toInt32 = vl_sb 0 := by
  have : ∀ c : Fin 8, ((0 : Int32) >>> (((8 : Int32) * (vl_I c.val)) &&& 31)).toInt8.toInt32 = vl_sb 0 := by decide +kernel
  exact this ⟨k, hk⟩
theorem vl_I_n {x : Nat} (h : x < 4294967296) : (vl_I x).toBitVec.toNat = x := (BitVec.toNat_ofNat _ _).trans (Nat.mod_eq_of_lt h)
theorem vk_fill {x : Nat} (h : x < 2147483640) : ((vl_I x + (7 : Int32)) &&& (-8 : Int32)) = vl_I (vm_fill x) := by
  rw [show vl_I x + (7 : Int32) = vl_I (x + 7) from vl_I_add x 7]
  refine Int32.toBitVec_inj.mp (BitVec.eq_of_getLsbD_eq (fun i hi => ?_))
  rw [Int32.toBitVec_and, BitVec.getLsbD_and]
  have e8 : (-8 : Int32).toBitVec.getLsbD i = decide (3 ≤ i) := by
    have : ∀ c : Fin 32, (-8 : Int32).toBitVec.getLsbD c.val = decide (3 ≤ c.val) := by decide
    exact this ⟨i, hi⟩
  rw [e8]
  show ((BitVec.ofNat 32 (x + 7)).getLsbD i && decide (3 ≤ i)) = (BitVec.ofNat 32 (vm_fill x)).getLsbD i
  rw [BitVec.getLsbD_ofNat, BitVec.getLsbD_ofNat, decide_eq_true hi, Bool.true_and, Bool.true_and]
  unfold vm_fill
  rw [show (x + 7) / 8 * 8 = ((x + 7) / 2 ^ 3) * 2 ^ 3 from rfl, Nat.testBit_mul_two_pow, Nat.testBit_div_two_pow]
  by_cases c : 3 ≤ i
  · rw [decide_eq_true c, Bool.and_true, Bool.true_and, show i - 3 + 3 = i by omega]
  · rw [decide_eq_false c, Bool.and_false, Bool.false_and]
theorem vk_fill8 (w : Nat) : vm_fill (8 + w) = 8 + vm_fill w := by unfold vm_fill; omega
theorem jv_i120 : jv_I 120 1 (some .int) 0 0 jv_c120 := ⟨rfl, rfl, rfl, rfl, rfl⟩
theorem vk_filledUp_0 {K : Nat → Option (Nat × Nat)} {I : Nat → Nat → Int32} {L : Nat → Nat → Int64} {R : Nat → Nat → Value} {x : Nat} (hx : x < 2147483640) {n sl : Nat} {Q : jv_R → Prop} (hQ : Q (some (.int (vl_I (vm_fill x))), jv_H K I L R, n, sl)) : jv_Wp 120 0 [(0, .int (vl_I x))] [] (jv_H K I L R) n sl Q := by
  refine jv_Wp.lift (fun _ Kz => jv_Ev.steps jv_i120 5 (pc' := 7) (l' := [(0, .int (vl_I x))]) (st' := [.int (((vl_I x) + (7 : Int32)) &&& (-8 : Int32))]) rfl Kz) ?_
  refine jv_Wp.of (jv_Ev.ret jv_i120 rfl rfl) ?_
  rw [vk_fill hx]
  exact hQ
theorem vk_filledUp {K : Nat → Option (Nat × Nat)} {I : Nat → Nat → Int32} {L : Nat → Nat → Int64} {R : Nat → Nat → Value} {x : Nat} (hx : x < 2147483640) {n sl : Nat} : jv_Ms 120 [.int (vl_I x)] (jv_H K I L R) n sl (some (.int (vl_I (vm_fill x))), jv_H K I L R, n, sl) := by
  obtain ⟨X, k, e⟩ := vk_filledUp_0 (n := n) (sl := sl) (I := I) (L := L) (R := R) (Q := fun X => X = (some (.int (vl_I (vm_fill x))), jv_H K I L R, n, sl)) hx rfl
  subst e
  exact k
theorem jv_i107 : jv_I 107 5 (some .int) 2 47 jv_c107 := ⟨rfl, rfl, rfl, rfl, rfl⟩
theorem vk_send_b {K : Nat → Option (Nat × Nat)} {I : Nat → Nat → Int32} {L : Nat → Nat → Int64} {R : Nat → Nat → Value} {o st m : Nat} (hT : vk_RW K I R o st m) {hd tl : Int64} {rc bk : Nat} (e7 : L o 7 = hd) (e8 : L o 8 = tl) (e9 : I o 9 = vl_I rc) (e10 : I o 10 = vl_I bk) {n sl : Nat} {r w : Nat} (hb : bk = 1) {Q : jv_R → Prop} (hQ : Q (some (.int (-22 : Int32)), jv_H K I L R, n, sl)) : jv_Wp 107 0 [(0, .ref o), (1, .ref r), (2, .int (vl_I w))] [] (jv_H K I L R) n sl Q := by
  obtain ⟨hK0, hK6, hR4, e3, e5, hst, t, ht⟩ := id hT
  refine jv_Wp.lift (fun _ Kz => jv_Ev.steps jv_i107 1 (pc' := 1) (l' := [(0, .ref o), (1, .ref r), (2, .int (vl_I w))]) (st' := [.ref o]) rfl Kz) ?_
  refine jv_Wp.lift (fun _ Kz => jv_Ev.m jv_i107 (pc' := 4) (st' := [.int (vl_I bk)]) (G' := (jv_H K I L R)) rfl rfl (jv_m_getI hK0 rfl rfl e10) Kz) ?_
  refine jv_Wp.cnd jv_i107 (pt := 25) (pe := 7) (p := (¬ (vl_I bk) = 0)) (q := (¬ (vl_I bk) = 0)) rfl jv_bi_ne rfl rfl Iff.rfl (fun _ => ?_) (fun hz => absurd (by rw [hb]; decide) hz)
  refine jv_Wp.lift (fun _ Kz => jv_Ev.steps jv_i107 1 (pc' := 27) (l' := [(0, .ref o), (1, .ref r), (2, .int (vl_I w))]) (st' := [.int (-22 : Int32)]) rfl Kz) ?_
  refine jv_Wp.of (jv_Ev.ret jv_i107 rfl rfl) ?_
  exact hQ
theorem vk_send_n {K : Nat → Option (Nat × Nat)} {I : Nat → Nat → Int32} {L : Nat → Nat → Int64} {R : Nat → Nat → Value} {o st m : Nat} (hT : vk_RW K I R o st m) {hd tl : Int64} {rc bk : Nat} (e7 : L o 7 = hd) (e8 : L o 8 = tl) (e9 : I o 9 = vl_I rc) (e10 : I o 10 = vl_I bk) {n sl : Nat} {r w len : Nat} (hKr : K r = some (101, len)) (hw : 1 ≤ w ∧ w ≤ 256 ∧ w ≤ len) (hlen : len < 2147483648) (hb : bk = 0) (hcl : ¬ ((hd - tl) + (vl_I (8 + vm_fill w)).toInt64) ≤ (vl_I m).toInt64) {Q : jv_R → Prop} (hQ : Q (some (.int (-11 : Int32)), jv_H K I L R, n, sl)) : jv_Wp 107 0 [(0, .ref o), (1, .ref r), (2, .int (vl_I w))] [] (jv_H K I L R) n sl Q := by
  obtain ⟨hK0, hK6, hR4, e3, e5, hst, t, ht⟩ := id hT
  have hFU := vk_filledUp (K := K) (I := I) (L := L) (R := R) (n := n) (sl := sl) (x := 8 + w) (by omega)
  rw [← vl_I_add, vk_fill8] at hFU
  refine jv_Wp.lift (fun _ Kz => jv_Ev.steps jv_i107 1 (pc' := 1) (l' := [(0, .ref o), (1, .ref r), (2, .int (vl_I w))]) (st' := [.ref o]) rfl Kz) ?_
  refine jv_Wp.lift (fun _ Kz => jv_Ev.m jv_i107 (pc' := 4) (st' := [.int (vl_I bk)]) (G' := (jv_H K I L R)) rfl rfl (jv_m_getI hK0 rfl rfl e10) Kz) ?_
  refine jv_Wp.cnd jv_i107 (pt := 25) (pe := 7) (p := (¬ (vl_I bk) = 0)) (q := (¬ (vl_I bk) = 0)) rfl jv_bi_ne rfl rfl Iff.rfl (fun hz => absurd hz (fun z => absurd (by rw [hb]; decide) z)) (fun _ => ?_)
  refine jv_Wp.lift (fun _ Kz => jv_Ev.steps jv_i107 2 (pc' := 9) (l' := [(0, .ref o), (1, .ref r), (2, .int (vl_I w))]) (st' := [.int (1 : Int32), .int (vl_I w)]) rfl Kz) ?_
  refine jv_Wp.cnd jv_i107 (pt := 25) (pe := 12) (p := ((vl_I w) < (1 : Int32))) (q := ((vl_I w) < (1 : Int32))) rfl jv_bc_lt rfl rfl Iff.rfl (fun hz => absurd hz (fun z => absurd ((vl_I_lt (b := 1) (by omega) (by decide)).mp z) (by omega))) (fun _ => ?_)
  refine jv_Wp.lift (fun _ Kz => jv_Ev.steps jv_i107 2 (pc' := 16) (l' := [(0, .ref o), (1, .ref r), (2, .int (vl_I w))]) (st' := [.int (256 : Int32), .int (vl_I w)]) rfl Kz) ?_
  refine jv_Wp.cnd jv_i107 (pt := 25) (pe := 19) (p := ((256 : Int32) < (vl_I w))) (q := ((256 : Int32) < (vl_I w))) rfl jv_bc_gt rfl rfl Iff.rfl (fun hz => absurd hz (fun z => absurd ((vl_I_lt (a := 256) (by decide) (by omega)).mp z) (by omega))) (fun _ => ?_)
  refine jv_Wp.lift (fun _ Kz => jv_Ev.steps jv_i107 2 (pc' := 21) (l' := [(0, .ref o), (1, .ref r), (2, .int (vl_I w))]) (st' := [.ref r, .int (vl_I w)]) rfl Kz) ?_
  refine jv_Wp.lift (fun _ Kz => jv_Ev.m jv_i107 (pc' := 22) (st' := [.int (Int32.ofNat len), .int (vl_I w)]) (G' := (jv_H K I L R)) rfl rfl (jv_m_len hKr rfl) Kz) ?_
  refine jv_Wp.cnd jv_i107 (pt := 28) (pe := 25) (p := ((vl_I w) ≤ (Int32.ofNat len))) (q := ((vl_I w) ≤ (Int32.ofNat len))) rfl jv_bc_le rfl rfl Iff.rfl (fun _ => ?_) (fun hz => absurd ((vl_I_le (b := len) (by omega) (by omega)).mpr (by omega)) hz)
  refine jv_Wp.lift (fun _ Kz => jv_Ev.steps jv_i107 3 (pc' := 32) (l' := [(0, .ref o), (1, .ref r), (2, .int (vl_I w))]) (st' := [.int ((8 : Int32) + (vl_I w))]) rfl Kz) ?_
  refine jv_Wp.lift (fun _ Kz => jv_Ev.c jv_i107 (pc' := 35) (S' := [.int (vl_I (8 + vm_fill w))]) jv_i120 [.int ((8 : Int32) + (vl_I w))] rfl rfl rfl rfl rfl rfl hFU rfl rfl Kz) ?_
  refine jv_Wp.lift (fun _ Kz => jv_Ev.steps jv_i107 2 (pc' := 37) (l' := [(3, .int (vl_I (8 + vm_fill w))), (0, .ref o), (1, .ref r), (2, .int (vl_I w))]) (st' := [.ref o]) rfl Kz) ?_
  refine jv_Wp.lift (fun _ Kz => jv_Ev.m jv_i107 (pc' := 40) (st' := [.long hd]) (G' := (jv_H K I L R)) rfl rfl (jv_m_getL hK0 rfl rfl e7) Kz) ?_
  refine jv_Wp.lift (fun _ Kz => jv_Ev.steps jv_i107 1 (pc' := 41) (l' := [(3, .int (vl_I (8 + vm_fill w))), (0, .ref o), (1, .ref r), (2, .int (vl_I w))]) (st' := [.ref o, .long hd]) rfl Kz) ?_
  refine jv_Wp.lift (fun _ Kz => jv_Ev.m jv_i107 (pc' := 44) (st' := [.long tl, .long hd]) (G' := (jv_H K I L R)) rfl rfl (jv_m_getL hK0 rfl rfl e8) Kz) ?_
  refine jv_Wp.lift (fun _ Kz => jv_Ev.steps jv_i107 5 (pc' := 49) (l' := [(3, .int (vl_I (8 + vm_fill w))), (0, .ref o), (1, .ref r), (2, .int (vl_I w))]) (st' := [.ref o, .long ((hd - tl) + (vl_I (8 + vm_fill w)).toInt64)]) rfl Kz) ?_
  refine jv_Wp.lift (fun _ Kz => jv_Ev.m jv_i107 (pc' := 52) (st' := [.int (vl_I m), .long ((hd - tl) + (vl_I (8 + vm_fill w)).toInt64)]) (G' := (jv_H K I L R)) rfl rfl (jv_m_getI hK0 rfl rfl e3) Kz) ?_
  refine jv_Wp.lift (fun _ Kz => jv_Ev.steps jv_i107 2 (pc' := 54) (l' := [(3, .int (vl_I (8 + vm_fill w))), (0, .ref o), (1, .ref r), (2, .int (vl_I w))]) (st' := [.int (lg_cmp ((hd - tl) + (vl_I (8 + vm_fill w)).toInt64) (vl_I m).toInt64)]) rfl Kz) ?_
  refine jv_Wp.cnd jv_i107 (pt := 60) (pe := 57) (p := ((lg_cmp ((hd - tl) + (vl_I (8 + vm_fill w)).toInt64) (vl_I m).toInt64) ≤ 0)) (q := (((hd - tl) + (vl_I (8 + vm_fill w)).toInt64) ≤ (vl_I m).toInt64)) rfl jv_bi_le rfl rfl (lg_cmp_le ((hd - tl) + (vl_I (8 + vm_fill w)).toInt64) (vl_I m).toInt64) (fun hz => absurd hz hcl) (fun _ => ?_)
  refine jv_Wp.lift (fun _ Kz => jv_Ev.steps jv_i107 1 (pc' := 59) (l' := [(3, .int (vl_I (8 + vm_fill w))), (0, .ref o), (1, .ref r), (2, .int (vl_I w))]) (st' := [.int (-11 : Int32)]) rfl Kz) ?_
  refine jv_Wp.of (jv_Ev.ret jv_i107 rfl rfl) ?_
  exact hQ
theorem vk_send_1 {K : Nat → Option (Nat × Nat)} {I : Nat → Nat → Int32} {L : Nat → Nat → Int64} {R : Nat → Nat → Value} {o st m : Nat} (hT : vk_RW K I R o st m) {hd tl : Int64} {rc bk : Nat} (e7 : L o 7 = hd) (e8 : L o 8 = tl) (e9 : I o 9 = vl_I rc) (e10 : I o 10 = vl_I bk) {n sl : Nat} {r w len : Nat} (hKr : K r = some (101, len)) (hw : 1 ≤ w ∧ w ≤ 256 ∧ w ≤ len) (hlen : len < 2147483648) (hb : bk = 0) (hcl : ((hd - tl) + (vl_I (8 + vm_fill w)).toInt64) ≤ (vl_I m).toInt64) {I1 I2 : Nat → Nat → Int32} (g9 : I1 o 9 = vl_I rc) (hW1 : jv_Ms 102 [.ref o, .long hd, .int (4 : Int32), .int (vl_I w)] (jv_H K I L R) n sl (none, jv_H K I1 L R, n, sl)) (hW2 : jv_Ms 102 [.ref o, .long (hd + (4 : Int64)), .int (4 : Int32), .int (vl_I rc)] (jv_H K I1 L R) n sl (none, jv_H K I2 L R, n, sl)) {Q : jv_R → Prop} (cont : jv_Wp 107 90 [(0, .ref o), (1, .ref r), (2, .int (vl_I w)), (3, .int (vl_I (8 + vm_fill w))), (4, .int (0 : Int32))] [] (jv_H K I2 L R) n sl Q) : jv_Wp 107 0 [(0, .ref o), (1, .ref r), (2, .int (vl_I w))] [] (jv_H K I L R) n sl Q := by
  obtain ⟨hK0, hK6, hR4, e3, e5, hst, t, ht⟩ := id hT
  have hFU := vk_filledUp (K := K) (I := I) (L := L) (R := R) (n := n) (sl := sl) (x := 8 + w) (by omega)
  rw [← vl_I_add, vk_fill8] at hFU
  refine jv_Wp.lift (fun _ Kz => jv_Ev.steps jv_i107 1 (pc' := 1) (l' := [(0, .ref o), (1, .ref r), (2, .int (vl_I w))]) (st' := [.ref o]) rfl Kz) ?_
  refine jv_Wp.lift (fun _ Kz => jv_Ev.m jv_i107 (pc' := 4) (st' := [.int (vl_I bk)]) (G' := (jv_H K I L R)) rfl rfl (jv_m_getI hK0 rfl rfl e10) Kz) ?_
  refine jv_Wp.cnd jv_i107 (pt := 25) (pe := 7) (p := (¬ (vl_I bk) = 0)) (q := (¬ (vl_I bk) = 0)) rfl jv_bi_ne rfl rfl Iff.rfl (fun hz => absurd hz (fun z => absurd (by rw [hb]; decide) z)) (fun _ => ?_)
  refine jv_Wp.lift (fun _ Kz => jv_Ev.steps jv_i107 2 (pc' := 9) (l' := [(0, .ref o), (1, .ref r), (2, .int (vl_I w))]) (st' := [.int (1 : Int32), .int (vl_I w)]) rfl Kz) ?_
  refine jv_Wp.cnd jv_i107 (pt := 25) (pe := 12) (p := ((vl_I w) < (1 : Int32))) (q := ((vl_I w) < (1 : Int32))) rfl jv_bc_lt rfl rfl Iff.rfl (fun hz => absurd hz (fun z => absurd ((vl_I_lt (b := 1) (by omega) (by decide)).mp z) (by omega))) (fun _ => ?_)
  refine jv_Wp.lift (fun _ Kz => jv_Ev.steps jv_i107 2 (pc' := 16) (l' := [(0, .ref o), (1, .ref r), (2, .int (vl_I w))]) (st' := [.int (256 : Int32), .int (vl_I w)]) rfl Kz) ?_
  refine jv_Wp.cnd jv_i107 (pt := 25) (pe := 19) (p := ((256 : Int32) < (vl_I w))) (q := ((256 : Int32) < (vl_I w))) rfl jv_bc_gt rfl rfl Iff.rfl (fun hz => absurd hz (fun z => absurd ((vl_I_lt (a := 256) (by decide) (by omega)).mp z) (by omega))) (fun _ => ?_)
  refine jv_Wp.lift (fun _ Kz => jv_Ev.steps jv_i107 2 (pc' := 21) (l' := [(0, .ref o), (1, .ref r), (2, .int (vl_I w))]) (st' := [.ref r, .int (vl_I w)]) rfl Kz) ?_
  refine jv_Wp.lift (fun _ Kz => jv_Ev.m jv_i107 (pc' := 22) (st' := [.int (Int32.ofNat len), .int (vl_I w)]) (G' := (jv_H K I L R)) rfl rfl (jv_m_len hKr rfl) Kz) ?_
  refine jv_Wp.cnd jv_i107 (pt := 28) (pe := 25) (p := ((vl_I w) ≤ (Int32.ofNat len))) (q := ((vl_I w) ≤ (Int32.ofNat len))) rfl jv_bc_le rfl rfl Iff.rfl (fun _ => ?_) (fun hz => absurd ((vl_I_le (b := len) (by omega) (by omega)).mpr (by omega)) hz)
  refine jv_Wp.lift (fun _ Kz => jv_Ev.steps jv_i107 3 (pc' := 32) (l' := [(0, .ref o), (1, .ref r), (2, .int (vl_I w))]) (st' := [.int ((8 : Int32) + (vl_I w))]) rfl Kz) ?_
  refine jv_Wp.lift (fun _ Kz => jv_Ev.c jv_i107 (pc' := 35) (S' := [.int (vl_I (8 + vm_fill w))]) jv_i120 [.int ((8 : Int32) + (vl_I w))] rfl rfl rfl rfl rfl rfl hFU rfl rfl Kz) ?_
  refine jv_Wp.lift (fun _ Kz => jv_Ev.steps jv_i107 2 (pc' := 37) (l' := [(3, .int (vl_I (8 + vm_fill w))), (0, .ref o), (1, .ref r), (2, .int (vl_I w))]) (st' := [.ref o]) rfl Kz) ?_
  refine jv_Wp.lift (fun _ Kz => jv_Ev.m jv_i107 (pc' := 40) (st' := [.long hd]) (G' := (jv_H K I L R)) rfl rfl (jv_m_getL hK0 rfl rfl e7) Kz) ?_
  refine jv_Wp.lift (fun _ Kz => jv_Ev.steps jv_i107 1 (pc' := 41) (l' := [(3, .int (vl_I (8 + vm_fill w))), (0, .ref o), (1, .ref r), (2, .int (vl_I w))]) (st' := [.ref o, .long hd]) rfl Kz) ?_
  refine jv_Wp.lift (fun _ Kz => jv_Ev.m jv_i107 (pc' := 44) (st' := [.long tl, .long hd]) (G' := (jv_H K I L R)) rfl rfl (jv_m_getL hK0 rfl rfl e8) Kz) ?_
  refine jv_Wp.lift (fun _ Kz => jv_Ev.steps jv_i107 5 (pc' := 49) (l' := [(3, .int (vl_I (8 + vm_fill w))), (0, .ref o), (1, .ref r), (2, .int (vl_I w))]) (st' := [.ref o, .long ((hd - tl) + (vl_I (8 + vm_fill w)).toInt64)]) rfl Kz) ?_
  refine jv_Wp.lift (fun _ Kz => jv_Ev.m jv_i107 (pc' := 52) (st' := [.int (vl_I m), .long ((hd - tl) + (vl_I (8 + vm_fill w)).toInt64)]) (G' := (jv_H K I L R)) rfl rfl (jv_m_getI hK0 rfl rfl e3) Kz) ?_
  refine jv_Wp.lift (fun _ Kz => jv_Ev.steps jv_i107 2 (pc' := 54) (l' := [(3, .int (vl_I (8 + vm_fill w))), (0, .ref o), (1, .ref r), (2, .int (vl_I w))]) (st' := [.int (lg_cmp ((hd - tl) + (vl_I (8 + vm_fill w)).toInt64) (vl_I m).toInt64)]) rfl Kz) ?_
  refine jv_Wp.cnd jv_i107 (pt := 60) (pe := 57) (p := ((lg_cmp ((hd - tl) + (vl_I (8 + vm_fill w)).toInt64) (vl_I m).toInt64) ≤ 0)) (q := (((hd - tl) + (vl_I (8 + vm_fill w)).toInt64) ≤ (vl_I m).toInt64)) rfl jv_bi_le rfl rfl (lg_cmp_le ((hd - tl) + (vl_I (8 + vm_fill w)).toInt64) (vl_I m).toInt64) (fun _ => ?_) (fun hz => absurd hcl hz)
  refine jv_Wp.lift (fun _ Kz => jv_Ev.steps jv_i107 2 (pc' := 62) (l' := [(3, .int (vl_I (8 + vm_fill w))), (0, .ref o), (1, .ref r), (2, .int (vl_I w))]) (st' := [.ref o, .ref o]) rfl Kz) ?_
  refine jv_Wp.lift (fun _ Kz => jv_Ev.m jv_i107 (pc' := 65) (st' := [.long hd, .ref o]) (G' := (jv_H K I L R)) rfl rfl (jv_m_getL hK0 rfl rfl e7) Kz) ?_
  refine jv_Wp.lift (fun _ Kz => jv_Ev.steps jv_i107 2 (pc' := 67) (l' := [(3, .int (vl_I (8 + vm_fill w))), (0, .ref o), (1, .ref r), (2, .int (vl_I w))]) (st' := [.int (vl_I w), .int (4 : Int32), .long hd, .ref o]) rfl Kz) ?_
  refine jv_Wp.lift (fun _ Kz => jv_Ev.c jv_i107 (pc' := 70) (S' := []) (G1 := (jv_H K I1 L R)) jv_i102 [.ref o, .long hd, .int (4 : Int32), .int (vl_I w)] rfl rfl rfl rfl (jv_cal rfl (jv_H_at hK0) rfl rfl) rfl hW1 rfl rfl Kz) ?_
  refine jv_Wp.lift (fun _ Kz => jv_Ev.steps jv_i107 2 (pc' := 72) (l' := [(3, .int (vl_I (8 + vm_fill w))), (0, .ref o), (1, .ref r), (2, .int (vl_I w))]) (st' := [.ref o, .ref o]) rfl Kz) ?_
  refine jv_Wp.lift (fun _ Kz => jv_Ev.m jv_i107 (pc' := 75) (st' := [.long hd, .ref o]) (G' := (jv_H K I1 L R)) rfl rfl (jv_m_getL hK0 rfl rfl e7) Kz) ?_
  refine jv_Wp.lift (fun _ Kz => jv_Ev.steps jv_i107 4 (pc' := 81) (l' := [(3, .int (vl_I (8 + vm_fill w))), (0, .ref o), (1, .ref r), (2, .int (vl_I w))]) (st' := [.ref o, .int (4 : Int32), .long (hd + (4 : Int64)), .ref o]) rfl Kz) ?_
  refine jv_Wp.lift (fun _ Kz => jv_Ev.m jv_i107 (pc' := 84) (st' := [.int (vl_I rc), .int (4 : Int32), .long (hd + (4 : Int64)), .ref o]) (G' := (jv_H K I1 L R)) rfl rfl (jv_m_getI hK0 rfl rfl g9) Kz) ?_
  refine jv_Wp.lift (fun _ Kz => jv_Ev.c jv_i107 (pc' := 87) (S' := []) (G1 := (jv_H K I2 L R)) jv_i102 [.ref o, .long (hd + (4 : Int64)), .int (4 : Int32), .int (vl_I rc)] rfl rfl rfl rfl (jv_cal rfl (jv_H_at hK0) rfl rfl) rfl hW2 rfl rfl Kz) ?_
  refine jv_Wp.lift (fun _ Kz => jv_Ev.steps jv_i107 2 (pc' := 90) (l' := [(4, .int (0 : Int32)), (3, .int (vl_I (8 + vm_fill w))), (0, .ref o), (1, .ref r), (2, .int (vl_I w))]) (st' := []) rfl Kz) ?_
  refine jv_Wp.loc (l := [(0, .ref o), (1, .ref r), (2, .int (vl_I w)), (3, .int (vl_I (8 + vm_fill w))), (4, .int (0 : Int32))]) ⟨List.forall_mem_cons.mpr ⟨.tail _ (.tail _ (.head _)), List.forall_mem_cons.mpr ⟨.tail _ (.tail _ (.tail _ (.head _))), List.forall_mem_cons.mpr ⟨.tail _ (.tail _ (.tail _ (.tail _ (.head _)))), List.forall_mem_cons.mpr ⟨.tail _ (.head _), List.forall_mem_cons.mpr ⟨.head _, fun _ h => absurd h List.not_mem_nil⟩⟩⟩⟩⟩, by show List.Nodup [4, 3, 0, 1, 2]; decide⟩ ?_
  exact cont
theorem vk_send_t {Hd : Nat} {K : Nat → Option (Nat × Nat)} {I : Nat → Nat → Int32} {L : Nat → Nat → Int64} {R : Nat → Nat → Value} {o st m : Nat} (hT : vk_RW K I R o st m) {r w len al C : Nat} {B : Nat → Nat} (hKr : K r = some (101, len)) (hr6 : r ≠ 6) (hlen : len < 2147483648) (hwl : w ≤ len) (e7 : L o 7 = vm_J Hd) (hC : C = Hd + 8) (hH : Hd < 1099511627776) (hB : ∀ j, j < w → I r j = vl_sb (B j) ∧ B j < 256) {n sl : Nat} {Q : jv_R → Prop} {k : Nat} (hk : k < w) (cont : jv_Wp 107 90 [(0, .ref o), (1, .ref r), (2, .int (vl_I w)), (3, .int (vl_I al)), (4, .int (vl_I (k + 1)))] [] (jv_H K (jv_u I 6 (st + (C + k) % m) (vl_sb (B k))) L R) n sl Q) : jv_Wp 107 90 [(0, .ref o), (1, .ref r), (2, .int (vl_I w)), (3, .int (vl_I al)), (4, .int (vl_I k))] [] (jv_H K I L R) n sl Q := by
  obtain ⟨hK0, hK6, hR4, e3, e5, hst, t, ht⟩ := id hT
  have hmd := Nat.mod_lt (C + k) (show 0 < m by omega)
  obtain ⟨hd, ehd⟩ : ∃ hd, hd = vm_J Hd := ⟨_, rfl⟩
  rw [← ehd] at e7
  have hSP := vk_spotM (n := n) (sl := sl) (L := L) hT (c := (hd + (8 : Int64)) + (vl_I k).toInt64) (C := C + k) (by rw [ehd, hC, show (8 : Int64) = vm_J 8 from rfl, vm_J_add]; exact vm_J_nx (by omega)) (by omega)
  refine jv_Wp.lift (fun _ Kz => jv_Ev.steps jv_i107 2 (pc' := 93) (l' := [(0, .ref o), (1, .ref r), (2, .int (vl_I w)), (3, .int (vl_I al)), (4, .int (vl_I k))]) (st' := [.int (vl_I w), .int (vl_I k)]) rfl Kz) ?_
  refine jv_Wp.cnd jv_i107 (pt := 127) (pe := 96) (p := ((vl_I w) ≤ (vl_I k))) (q := ((vl_I w) ≤ (vl_I k))) rfl jv_bc_ge rfl rfl Iff.rfl (fun hz => absurd hz (fun z => absurd ((vl_I_le (by omega) (by omega)).mp z) (by omega))) (fun _ => ?_)
  refine jv_Wp.lift (fun _ Kz => jv_Ev.steps jv_i107 1 (pc' := 97) (l' := [(0, .ref o), (1, .ref r), (2, .int (vl_I w)), (3, .int (vl_I al)), (4, .int (vl_I k))]) (st' := [.ref o]) rfl Kz) ?_
  refine jv_Wp.lift (fun _ Kz => jv_Ev.m jv_i107 (pc' := 100) (st' := [.ref 6]) (G' := (jv_H K I L R)) rfl rfl (jv_m_getR hK0 rfl rfl hR4) Kz) ?_
  refine jv_Wp.lift (fun _ Kz => jv_Ev.steps jv_i107 2 (pc' := 102) (l' := [(0, .ref o), (1, .ref r), (2, .int (vl_I w)), (3, .int (vl_I al)), (4, .int (vl_I k))]) (st' := [.ref o, .ref o, .ref 6]) rfl Kz) ?_
  refine jv_Wp.lift (fun _ Kz => jv_Ev.m jv_i107 (pc' := 105) (st' := [.long hd, .ref o, .ref 6]) (G' := (jv_H K I L R)) rfl rfl (jv_m_getL hK0 rfl rfl e7) Kz) ?_
  refine jv_Wp.lift (fun _ Kz => jv_Ev.steps jv_i107 5 (pc' := 113) (l' := [(0, .ref o), (1, .ref r), (2, .int (vl_I w)), (3, .int (vl_I al)), (4, .int (vl_I k))]) (st' := [.long ((hd + (8 : Int64)) + (vl_I k).toInt64), .ref o, .ref 6]) rfl Kz) ?_
  refine jv_Wp.lift (fun _ Kz => jv_Ev.c jv_i107 (pc' := 116) (S' := [.int (vl_I (st + (C + k) % m)), .ref 6]) jv_i101 [.ref o, .long ((hd + (8 : Int64)) + (vl_I k).toInt64)] rfl rfl rfl rfl (jv_cal rfl (jv_H_at hK0) rfl rfl) rfl hSP rfl rfl Kz) ?_
  refine jv_Wp.lift (fun _ Kz => jv_Ev.steps jv_i107 2 (pc' := 119) (l' := [(0, .ref o), (1, .ref r), (2, .int (vl_I w)), (3, .int (vl_I al)), (4, .int (vl_I k))]) (st' := [.int (vl_I k), .ref r, .int (vl_I (st + (C + k) % m)), .ref 6]) rfl Kz) ?_
  refine jv_Wp.lift (fun _ Kz => jv_Ev.m jv_i107 (pc' := 120) (st' := [.int (I r k), .int (vl_I (st + (C + k) % m)), .ref 6]) (G' := (jv_H K I L R)) rfl rfl (jv_m_baldv hKr rfl (vl_I_ix (by omega) (by omega)) rfl ((congrArg (I r) (vl_I_nat (by omega))).trans rfl)) Kz) ?_
  refine jv_Wp.lift (fun _ Kz => jv_Ev.m jv_i107 (pc' := 121) (st' := []) (G' := (jv_H K (jv_u I 6 (st + (C + k) % m) (I r k).toInt8.toInt32) L R)) rfl rfl (by rw [jv_m_bast hK6 (vl_I_ix (by omega) (by decide)), (vl_I_nat (by omega))]) Kz) ?_
  refine jv_Wp.lift (fun _ Kz => jv_Ev.steps jv_i107 2 (pc' := 90) (l' := [(4, .int ((vl_I k) + Int32.ofInt 1)), (0, .ref o), (1, .ref r), (2, .int (vl_I w)), (3, .int (vl_I al))]) (st' := []) rfl Kz) ?_
  refine jv_Wp.loc (l := [(0, .ref o), (1, .ref r), (2, .int (vl_I w)), (3, .int (vl_I al)), (4, .int ((vl_I k) + Int32.ofInt 1))]) ⟨List.forall_mem_cons.mpr ⟨.tail _ (.head _), List.forall_mem_cons.mpr ⟨.tail _ (.tail _ (.head _)), List.forall_mem_cons.mpr ⟨.tail _ (.tail _ (.tail _ (.head _))), List.forall_mem_cons.mpr ⟨.tail _ (.tail _ (.tail _ (.tail _ (.head _)))), List.forall_mem_cons.mpr ⟨.head _, fun _ h => absurd h List.not_mem_nil⟩⟩⟩⟩⟩, by show List.Nodup [4, 0, 1, 2, 3]; decide⟩ ?_
  rw [(hB k hk).1, vl_sb_sb (hB k hk).2, vk_p1 k]
  exact cont
theorem vk_send_l {Hd : Nat} {K : Nat → Option (Nat × Nat)} {I : Nat → Nat → Int32} {L : Nat → Nat → Int64} {R : Nat → Nat → Value} {o st m : Nat} (hT : vk_RW K I R o st m) {r w len al C : Nat} {B : Nat → Nat} (hKr : K r = some (101, len)) (hr6 : r ≠ 6) (hlen : len < 2147483648) (hwl : w ≤ len) (e7 : L o 7 = vm_J Hd) (hC : C = Hd + 8) (hH : Hd < 1099511627776) (hB : ∀ j, j < w → I r j = vl_sb (B j) ∧ B j < 256) {n sl : Nat} {Q : jv_R → Prop} (cont : jv_Wp 107 90 [(0, .ref o), (1, .ref r), (2, .int (vl_I w)), (3, .int (vl_I al)), (4, .int (vl_I w))] [] (jv_H K (vm_ring I 6 st m C (fun j => vl_sb (B j)) w) L R) n sl Q) : ∀ d k, k + d = w → jv_Wp 107 90 [(0, .ref o), (1, .ref r), (2, .int (vl_I w)), (3, .int (vl_I al)), (4, .int (vl_I k))] [] (jv_H K (vm_ring I 6 st m C (fun j => vl_sb (B j)) k) L R) n sl Q
  | 0, k, g => by
    have g : k = w := g
    subst g
    exact cont
  | d + 1, k, g => vk_send_t (vk_RW_eq hT (vk_ring_o _ (vk_o6 hT)) (vk_ring_o _ (vk_o6 hT))) hKr hr6 hlen hwl e7 hC hH (fun j hj => by rw [vk_ring_o _ hr6]; exact hB j hj) (by omega) (vk_send_l hT hKr hr6 hlen hwl e7 hC hH hB cont d (k + 1) (by omega))
theorem vk_send_e {K : Nat → Option (Nat × Nat)} {I : Nat → Nat → Int32} {L : Nat → Nat → Int64} {R : Nat → Nat → Value} {o st m : Nat} (hT : vk_RW K I R o st m) {hd : Int64} {rc al w : Nat} (e7 : L o 7 = hd) {n sl : Nat} {r : Nat} (hw : w < 2147483648) {I3 : Nat → Nat → Int32} (g9 : I3 o 9 = vl_I rc) (hW3 : jv_Ms 102 [.ref o, .long ((hd + (8 : Int64)) + (vl_I w).toInt64), .int (((vl_I al) - (8 : Int32)) - (vl_I w)), .int (0 : Int32)] (jv_H K I L R) n sl (none, jv_H K I3 L R, n, sl)) {Q : jv_R → Prop} (hQ : Q (some (.int (0 : Int32)), jv_H K (jv_u I3 o 9 ((vl_I rc) + (1 : Int32))) (jv_u L o 7 (hd + (vl_I al).toInt64)) R, n, sl)) : jv_Wp 107 90 [(0, .ref o), (1, .ref r), (2, .int (vl_I w)), (3, .int (vl_I al)), (4, .int (vl_I w))] [] (jv_H K I L R) n sl Q := by
  obtain ⟨hK0, hK6, hR4, e3, e5, hst, t, ht⟩ := id hT
  refine jv_Wp.lift (fun _ Kz => jv_Ev.steps jv_i107 2 (pc' := 93) (l' := [(0, .ref o), (1, .ref r), (2, .int (vl_I w)), (3, .int (vl_I al)), (4, .int (vl_I w))]) (st' := [.int (vl_I w), .int (vl_I w)]) rfl Kz) ?_
  refine jv_Wp.cnd jv_i107 (pt := 127) (pe := 96) (p := ((vl_I w) ≤ (vl_I w))) (q := ((vl_I w) ≤ (vl_I w))) rfl jv_bc_ge rfl rfl Iff.rfl (fun _ => ?_) (fun hz => absurd ((vl_I_le (by omega) (by omega)).mpr (by omega)) hz)
  refine jv_Wp.lift (fun _ Kz => jv_Ev.steps jv_i107 2 (pc' := 129) (l' := [(0, .ref o), (1, .ref r), (2, .int (vl_I w)), (3, .int (vl_I al)), (4, .int (vl_I w))]) (st' := [.ref o, .ref o]) rfl Kz) ?_
  refine jv_Wp.lift (fun _ Kz => jv_Ev.m jv_i107 (pc' := 132) (st' := [.long hd, .ref o]) (G' := (jv_H K I L R)) rfl rfl (jv_m_getL hK0 rfl rfl e7) Kz) ?_
  refine jv_Wp.lift (fun _ Kz => jv_Ev.steps jv_i107 11 (pc' := 146) (l' := [(0, .ref o), (1, .ref r), (2, .int (vl_I w)), (3, .int (vl_I al)), (4, .int (vl_I w))]) (st' := [.int (0 : Int32), .int (((vl_I al) - (8 : Int32)) - (vl_I w)), .long ((hd + (8 : Int64)) + (vl_I w).toInt64), .ref o]) rfl Kz) ?_
  refine jv_Wp.lift (fun _ Kz => jv_Ev.c jv_i107 (pc' := 149) (S' := []) (G1 := (jv_H K I3 L R)) jv_i102 [.ref o, .long ((hd + (8 : Int64)) + (vl_I w).toInt64), .int (((vl_I al) - (8 : Int32)) - (vl_I w)), .int (0 : Int32)] rfl rfl rfl rfl (jv_cal rfl (jv_H_at hK0) rfl rfl) rfl hW3 rfl rfl Kz) ?_
  refine jv_Wp.lift (fun _ Kz => jv_Ev.steps jv_i107 2 (pc' := 151) (l' := [(0, .ref o), (1, .ref r), (2, .int (vl_I w)), (3, .int (vl_I al)), (4, .int (vl_I w))]) (st' := [.ref o, .ref o]) rfl Kz) ?_
  refine jv_Wp.lift (fun _ Kz => jv_Ev.m jv_i107 (pc' := 154) (st' := [.long hd, .ref o]) (G' := (jv_H K I3 L R)) rfl rfl (jv_m_getL hK0 rfl rfl e7) Kz) ?_
  refine jv_Wp.lift (fun _ Kz => jv_Ev.steps jv_i107 3 (pc' := 157) (l' := [(0, .ref o), (1, .ref r), (2, .int (vl_I w)), (3, .int (vl_I al)), (4, .int (vl_I w))]) (st' := [.long (hd + (vl_I al).toInt64), .ref o]) rfl Kz) ?_
  refine jv_Wp.lift (fun _ Kz => jv_Ev.m jv_i107 (pc' := 160) (st' := []) (G' := (jv_H K I3 (jv_u L o 7 (hd + (vl_I al).toInt64)) R)) rfl rfl (jv_m_putL hK0 rfl rfl rfl rfl) Kz) ?_
  refine jv_Wp.lift (fun _ Kz => jv_Ev.steps jv_i107 2 (pc' := 162) (l' := [(0, .ref o), (1, .ref r), (2, .int (vl_I w)), (3, .int (vl_I al)), (4, .int (vl_I w))]) (st' := [.ref o, .ref o]) rfl Kz) ?_
  refine jv_Wp.lift (fun _ Kz => jv_Ev.m jv_i107 (pc' := 165) (st' := [.int (vl_I rc), .ref o]) (G' := (jv_H K I3 (jv_u L o 7 (hd + (vl_I al).toInt64)) R)) rfl rfl (jv_m_getI hK0 rfl rfl g9) Kz) ?_
  refine jv_Wp.lift (fun _ Kz => jv_Ev.steps jv_i107 2 (pc' := 167) (l' := [(0, .ref o), (1, .ref r), (2, .int (vl_I w)), (3, .int (vl_I al)), (4, .int (vl_I w))]) (st' := [.int ((vl_I rc) + (1 : Int32)), .ref o]) rfl Kz) ?_
  refine jv_Wp.lift (fun _ Kz => jv_Ev.m jv_i107 (pc' := 170) (st' := []) (G' := (jv_H K (jv_u I3 o 9 ((vl_I rc) + (1 : Int32))) (jv_u L o 7 (hd + (vl_I al).toInt64)) R)) rfl rfl (jv_m_putI hK0 rfl rfl rfl rfl) Kz) ?_
  refine jv_Wp.lift (fun _ Kz => jv_Ev.steps jv_i107 1 (pc' := 171) (l' := [(0, .ref o), (1, .ref r), (2, .int (vl_I w)), (3, .int (vl_I al)), (4, .int (vl_I w))]) (st' := [.int (0 : Int32)]) rfl Kz) ?_
  refine jv_Wp.of (jv_Ev.ret jv_i107 rfl rfl) ?_
  exact hQ
/-- a record of w bytes is put (Hd, Tl: the counts; rc: how many were put) -/
theorem vk_sendM {K : Nat → Option (Nat × Nat)} {I : Nat → Nat → Int32} {L : Nat → Nat → Int64} {R : Nat → Nat → Value} {o st m : Nat} (hT : vk_RW K I R o st m) {Hd Tl rc : Nat} (e7 : L o 7 = vm_J Hd) (e8 : L o 8 = vm_J Tl) (e9 : I o 9 = vl_I rc) (e10 : I o 10 = vl_I 0) (hH : Hd < 1099511627776) (hTl : Tl ≤ Hd) (hrc : rc < 2147483648) {n sl : Nat} {r w len : Nat} (hKr : K r = some (101, len)) (hw : 1 ≤ w ∧ w ≤ 256 ∧ w ≤ len) (hlen : len < 2147483648) {B : Nat → Nat} (hr6 : r ≠ 6) (hB : ∀ j, j < w → I r j = vl_sb (B j) ∧ B j < 256) : (m < Hd - Tl + (8 + vm_fill w) → jv_Ms 107 [.ref o, .ref r, .int (vl_I w)] (jv_H K I L R) n sl (some (.int (-11 : Int32)), jv_H K I L R, n, sl)) ∧ (Hd - Tl + (8 + vm_fill w) ≤ m → jv_Ms 107 [.ref o, .ref r, .int (vl_I w)] (jv_H K I L R) n sl (some (.int (0 : Int32)), jv_H K (jv_u (vm_ring I 6 st m Hd (fun j => vl_sb (vm_rec w rc B j)) (8 + vm_fill w)) o 9 (vl_I (rc + 1))) (jv_u L o 7 (vm_J (Hd + (8 + vm_fill w)))) R, n, sl)) := by
  obtain ⟨hK0, hK6, hR4, e3, e5, hst, t, ht⟩ := id hT
  have ho6 := vk_o6 hT
  have hf := vm_fill_ge w
  have hcl : (((vm_J Hd - vm_J Tl) + (vl_I (8 + vm_fill w)).toInt64) ≤ (vl_I m).toInt64) ↔ Hd - Tl + (8 + vm_fill w) ≤ m := by
    rw [vm_J_sub hTl, vm_J_nx (by omega), vm_J_I (by omega), vm_J_le (by omega) (by omega)]
  constructor
  · intro h
    obtain ⟨X, k, e⟩ := vk_send_n (n := n) (sl := sl) (Q := fun X => X = (some (.int (-11 : Int32)), jv_H K I L R, n, sl)) hT e7 e8 e9 e10 hKr hw hlen rfl (fun z => by have := hcl.mp z; omega) rfl
    subst e
    exact k
  · intro h
    obtain ⟨I1, q1⟩ : ∃ I1, I1 = vm_ring I 6 st m Hd (fun j => vl_sb (w / 256 ^ j % 256)) 4 := ⟨_, rfl⟩
    obtain ⟨I2, q2⟩ : ∃ I2, I2 = vm_ring I1 6 st m (Hd + 4) (fun j => vl_sb (rc / 256 ^ j % 256)) 4 := ⟨_, rfl⟩
    have o1 : ∀ q i, q ≠ 6 → I1 q i = I q i := fun q i z => by rw [q1]; exact vk_ring_o _ z
    have o2 : ∀ q i, q ≠ 6 → I2 q i = I q i := fun q i z => by rw [q2]; exact (vk_ring_o _ z).trans (o1 q i z)
    have T1 : vk_RW K I1 R o st m := vk_RW_eq hT (o1 _ _ ho6) (o1 _ _ ho6)
    have T2 : vk_RW K I2 R o st m := vk_RW_eq hT (o2 _ _ ho6) (o2 _ _ ho6)
    have hW1 := vk_rwrite (n := n) (sl := sl) (L := L) hT (c := vm_J Hd) (C := Hd) rfl (by omega) (w := 4) (v := vl_I w) (f := fun j => w / 256 ^ j % 256) (by decide) (fun k hk => by rw [vk_ib _ hk, vl_I_n (by omega)]) (fun k hk => Nat.mod_lt _ (by decide))
    rw [← q1] at hW1
    have hW2 := vk_rwrite (n := n) (sl := sl) (L := L) T1 (c := vm_J Hd + (4 : Int64)) (C := Hd + 4) (vm_J_add Hd 4) (by omega) (w := 4) (v := vl_I rc) (f := fun j => rc / 256 ^ j % 256) (by decide) (fun k hk => by rw [vk_ib _ hk, vl_I_n (by omega)]) (fun k hk => Nat.mod_lt _ (by decide))
    rw [← q2] at hW2
    obtain ⟨I3, q3⟩ : ∃ I3, I3 = vm_ring I2 6 st m (Hd + 8) (fun j => vl_sb (B j)) w := ⟨_, rfl⟩
    have o3 : ∀ q i, q ≠ 6 → I3 q i = I q i := fun q i z => by rw [q3]; exact (vk_ring_o _ z).trans (o2 q i z)
    have T3 : vk_RW K I3 R o st m := vk_RW_eq hT (o3 _ _ ho6) (o3 _ _ ho6)
    obtain ⟨I4, q4⟩ : ∃ I4, I4 = vm_ring I3 6 st m (Hd + 8 + w) (fun _ => vl_sb 0) (vm_fill w - w) := ⟨_, rfl⟩
    have o4 : ∀ q i, q ≠ 6 → I4 q i = I q i := fun q i z => by rw [q4]; exact (vk_ring_o _ z).trans (o3 q i z)
    have hW3 := vk_rwrite (n := n) (sl := sl) (L := L) T3 (c := (vm_J Hd + (8 : Int64)) + (vl_I w).toInt64) (C := Hd + 8 + w) (by rw [show (8 : Int64) = vm_J 8 from rfl, vm_J_add]; exact vm_J_nx (by omega)) (by omega) (w := vm_fill w - w) (v := 0) (f := fun _ => 0) (by omega) (fun k hk => vk_ib0 (by omega)) (fun k hk => by decide)
    rw [← q4] at hW3
    have e8' : vl_I (vm_fill w - w) = ((vl_I (8 + vm_fill w)) - (8 : Int32)) - (vl_I w) := by
      rw [show (vl_I (8 + vm_fill w)) - (8 : Int32) = vl_I (vm_fill w) from vi_s2 (x := 8 + vm_fill w) (z := 8) rfl rfl (by omega) (by omega)]
      exact (vi_s2 (x := vm_fill w) (z := w) rfl rfl (by omega) rfl).symm
    rw [e8'] at hW3
    have key := vk_send_1 (n := n) (sl := sl) (Q := fun X => X = (some (.int (0 : Int32)), jv_H K (jv_u I4 o 9 ((vl_I rc) + (1 : Int32))) (jv_u L o 7 (vm_J Hd + (vl_I (8 + vm_fill w)).toInt64)) R, n, sl)) hT e7 e8 e9 e10 hKr hw hlen rfl (hcl.mpr h) ((o1 o 9 ho6).trans e9) hW1 hW2 (by
      have a := vk_send_l (n := n) (sl := sl) (Q := fun X => X = (some (.int (0 : Int32)), jv_H K (jv_u I4 o 9 ((vl_I rc) + (1 : Int32))) (jv_u L o 7 (vm_J Hd + (vl_I (8 + vm_fill w)).toInt64)) R, n, sl)) (al := 8 + vm_fill w) T2 hKr hr6 hlen hw.2.2 e7 rfl hH (fun j hj => by rw [o2 _ _ hr6]; exact hB j hj) (by
        rw [← q3]
        exact vk_send_e T3 e7 (by omega) ((o4 o 9 ho6).trans e9) hW3 rfl) w 0 (Nat.zero_add w)
      exact a)
    obtain ⟨X, k, e⟩ := key
    subst e
    have r1 : I4 = vm_ring I 6 st m Hd (fun j => vl_sb (vm_rec w rc B j)) (8 + vm_fill w) := by
      have s1 : I2 = vm_ring I 6 st m Hd (fun j => vl_sb (vm_rec w rc B j)) 8 := by
        rw [q2, q1]
        exact vk_ring_2 (fun j hj => by unfold vm_rec; rw [if_pos hj]) 4 (fun j hj => by unfold vm_rec; rw [if_neg (by omega), if_pos (by omega), show 4 + j - 4 = j by omega])
      have s2 : I3 = vm_ring I 6 st m Hd (fun j => vl_sb (vm_rec w rc B j)) (8 + w) := by
        rw [q3, s1]
        exact vk_ring_2 (fun j hj => rfl) w (fun j hj => by unfold vm_rec; rw [if_neg (by omega), if_neg (by omega), if_pos (by omega), show 8 + j - 8 = j by omega])
      rw [q4, s2, show Hd + 8 + w = Hd + (8 + w) by omega, vk_ring_2 (fun j hj => rfl) (vm_fill w - w) (fun j hj => by unfold vm_rec; rw [if_neg (by omega), if_neg (by omega), if_neg (by omega)]), show 8 + w + (vm_fill w - w) = 8 + vm_fill w by omega]
    rw [r1, vl_I_p1, vm_J_nx (by omega)] at k
    exact k