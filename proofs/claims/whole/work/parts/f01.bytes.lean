/-! part f01: rows of bytes, of the class (gen/tf01.py) -/
/-- a byte, as a row of bytes has it -/
def vl_sb (b : Nat) : Int32 := Int32.ofBitVec ((BitVec.ofNat 8 b).signExtend 32)
theorem vl_sb_255 : ∀ c : Fin 256, vl_sb c.val &&& (255 : Int32) = vl_I c.val := by decide +kernel
theorem vl_sb_and {b : Nat} (h : b < 256) : vl_sb b &&& (255 : Int32) = vl_I b := vl_sb_255 ⟨b, h⟩
theorem vl_sb_of (x : Int32) : x.toInt8.toInt32 = vl_sb (x.toBitVec.toNat % 256) := by
  refine Int32.toBitVec_inj.mp ?_
  rw [Int8.toBitVec_toInt32, Int32.toBitVec_toInt8, BitVec.signExtend_eq_setWidth_of_le _ (show 8 ≤ 32 by decide)]
  show (x.toBitVec.setWidth 8).signExtend 32 = (BitVec.ofNat 8 (x.toBitVec.toNat % 256)).signExtend 32
  congr 1
  refine BitVec.eq_of_toNat_eq ?_
  rw [BitVec.toNat_setWidth, BitVec.toNat_ofNat]
  show x.toBitVec.toNat % 256 = x.toBitVec.toNat % 256 % 256
  omega
theorem vl_sb_b : ∀ c : Fin 256, (vl_sb c.val).toInt8.toInt32 = vl_sb c.val := by decide +kernel
theorem vl_sb_sb {b : Nat} (h : b < 256) : (vl_sb b).toInt8.toInt32 = vl_sb b := vl_sb_b ⟨b, h⟩
theorem vl_sb_inj {a b : Nat} (ha : a < 256) (hb : b < 256) (h : vl_sb a = vl_sb b) : a = b := by
  have y := congrArg (fun z => z &&& (255 : Int32)) h
  have y : vl_sb a &&& (255 : Int32) = vl_sb b &&& (255 : Int32) := y
  rw [vl_sb_and ha, vl_sb_and hb] at y
  exact (vl_I_inj (by omega) (by omega)).mp y
/-- the row of bytes r has the bytes B -/
def vm_by (I : Nat → Nat → Int32) (r m : Nat) (B : Nat → Nat) : Prop := ∀ j, j < m → I r j = vl_sb (B j) ∧ B j < 256
/-- the number of n bytes, the lowest first -/
def vm_le (B : Nat → Nat) (a : Nat) : Nat → Nat
  | 0 => 0
  | n + 1 => B a + 256 * vm_le B (a + 1) n
theorem vm_le_lt {B : Nat → Nat} : ∀ (n a : Nat), (∀ i, i < n → B (a + i) < 256) → vm_le B a n < 256 ^ n
  | 0, _, _ => Nat.one_pos
  | n + 1, a, h => by
    have y := vm_le_lt n (a + 1) (fun i hi => by have := h (i + 1) (by omega); rwa [show a + (i + 1) = a + 1 + i by omega] at this)
    have z := h 0 (by omega)
    show B a + 256 * vm_le B (a + 1) n < 256 ^ (n + 1)
    rw [Nat.pow_succ]
    have z : B a < 256 := z
    omega
theorem vm_le_eq {B B' : Nat → Nat} : ∀ (n a : Nat), (∀ i, i < n → B (a + i) = B' (a + i)) → vm_le B a n = vm_le B' a n
  | 0, _, _ => rfl
  | n + 1, a, h => by
    show B a + 256 * vm_le B (a + 1) n = B' a + 256 * vm_le B' (a + 1) n
    have z : B a = B' a := h 0 (by omega)
    rw [z, vm_le_eq n (a + 1) (fun i hi => (show a + (i + 1) = a + 1 + i by omega) ▸ h (i + 1) (by omega))]
def vm_J (x : Nat) : Int64 := Int64.ofBitVec (BitVec.ofNat 64 x)
theorem vi_a2 {a b : Int32} {x z k : Nat} (ha : a = vl_I x) (hb : b = vl_I z) (h : x + z = k) : a + b = vl_I k := by rw [ha, hb, vl_I_add, h]
theorem vi_m2 {a b : Int32} {x z k : Nat} (ha : a = vl_I x) (hb : b = vl_I z) (h : x * z = k) : a * b = vl_I k := by
  rw [ha, hb, ← h]
  exact Int32.toBitVec_inj.mp (BitVec.ofNat_mul x z).symm
theorem vi_s2 {a b : Int32} {x z k : Nat} (ha : a = vl_I x) (hb : b = vl_I z) (hz : z ≤ x) (h : x - z = k) : a - b = vl_I k := by
  have e : vl_I k + vl_I z = vl_I x := by rw [vl_I_add]; congr 1; omega
  rw [ha, hb, ← e]
  refine Int32.toBitVec_inj.mp ?_
  rw [Int32.toBitVec_sub, Int32.toBitVec_add]
  exact BitVec.add_sub_cancel _ _
theorem vm_sh8 {x b : Nat} (hb : b < 256) : (vm_J x <<< ((8 : Int32).toInt64 &&& 63)) ||| (vl_I b).toInt64 = vm_J (256 * x + b) := by
  refine Int64.toBitVec_inj.mp ?_
  rw [Int64.toBitVec_or, Int64.toBitVec_shiftLeft]
  show (BitVec.ofNat 64 x <<< (((8 : Int32).toInt64 &&& 63).toBitVec.smod 64)) ||| ((vl_I b).toBitVec.signExtend 64) = BitVec.ofNat 64 (256 * x + b)
  rw [show (((8 : Int32).toInt64 &&& 63).toBitVec.smod 64) = 8#64 from by decide]
  have e3 : (vl_I b).toBitVec.signExtend 64 = BitVec.ofNat 64 b := by
    have : ∀ c : Fin 256, (vl_I c.val).toBitVec.signExtend 64 = BitVec.ofNat 64 c.val := by decide +kernel
    exact this ⟨b, hb⟩
  rw [e3]
  refine BitVec.eq_of_toNat_eq ?_
  have e : 256 * x + b = x <<< 8 ||| b := by rw [← Nat.shiftLeft_add_eq_or_of_lt (show b < 2 ^ 8 from hb) x, Nat.shiftLeft_eq]; omega
  rw [BitVec.toNat_or, BitVec.shiftLeft_eq', BitVec.toNat_shiftLeft]
  show ((x % 2 ^ 64) <<< 8) % 2 ^ 64 ||| (b % 2 ^ 64) = (256 * x + b) % 2 ^ 64
  rw [e, Nat.or_mod_two_pow]
  congr 1
  rw [Nat.shiftLeft_eq, Nat.shiftLeft_eq]
  omega
/-- byte k of a long -/
def vm_bt (v : Int64) (k : Nat) : Nat := v.toBitVec.toNat / 256 ^ k % 256
theorem vm_bt_lt (v : Int64) (k : Nat) : vm_bt v k < 256 := Nat.mod_lt _ (by decide)
theorem vm_bt_s (v : Int64) (s : Nat) (hs : s ≤ 56) : ((v.toBitVec.sshiftRight s).setWidth 32).setWidth 8 = BitVec.ofNat 8 (v.toBitVec.toNat / 2 ^ s % 256) := by
  refine BitVec.eq_of_getLsbD_eq (fun i hi => ?_)
  rw [BitVec.getLsbD_setWidth, BitVec.getLsbD_setWidth, BitVec.getLsbD_sshiftRight]
  have h1 : decide (i < 8) = true := decide_eq_true hi
  have h2 : decide (i < 32) = true := decide_eq_true (by omega)
  have h3 : decide (64 ≤ i) = false := decide_eq_false (by omega)
  have h4 : s + i < 64 := by omega
  rw [h1, h2, h3, if_pos h4, BitVec.getLsbD_ofNat, h1, Bool.true_and, Bool.true_and, Bool.not_false, Bool.true_and, Bool.true_and]
  show v.toBitVec.getLsbD (s + i) = (v.toBitVec.toNat / 2 ^ s % 2 ^ 8).testBit i
  rw [Nat.testBit_mod_two_pow, Nat.testBit_div_two_pow, h1, Bool.true_and, BitVec.testBit_toNat, Nat.add_comm]
theorem vm_bt_ok (v : Int64) {k : Nat} (hk : k < 8) : (v >>> ((8 * vl_I k : Int32).toInt64 &&& 63)).toInt32.toInt8.toInt32 = vl_sb (vm_bt v k) := by
  refine Int32.toBitVec_inj.mp ?_
  have hs : ∀ c : Fin 8, ((8 * vl_I c.val : Int32).toInt64 &&& 63).toBitVec.smod 64 = BitVec.ofNat 64 (8 * c.val) := by decide +kernel
  rw [Int8.toBitVec_toInt32, Int32.toBitVec_toInt8, Int64.toBitVec_toInt32, BitVec.signExtend_eq_setWidth_of_le _ (show 8 ≤ 32 by decide), BitVec.signExtend_eq_setWidth_of_le _ (show 32 ≤ 64 by decide)]
  show (((v >>> ((8 * vl_I k : Int32).toInt64 &&& 63)).toBitVec.setWidth 32).setWidth 8).signExtend 32 = (BitVec.ofNat 8 (vm_bt v k)).signExtend 32
  congr 1
  rw [Int64.toBitVec_shiftRight]
  rw [show ((8 * vl_I k : Int32).toInt64 &&& 63).toBitVec.smod 64 = BitVec.ofNat 64 (8 * k) from hs ⟨k, hk⟩]
  rw [BitVec.sshiftRight_eq']
  rw [show (BitVec.ofNat 64 (8 * k)).toNat = 8 * k from (BitVec.toNat_ofNat _ _).trans (Nat.mod_eq_of_lt (by omega))]
  rw [vm_bt_s v (8 * k) (by omega)]
  unfold vm_bt
  rw [Nat.pow_mul]
/-- a row with n cells put in anew -/
def vm_wr {α : Type} (I : Nat → Nat → α) (r a n : Nat) (f : Nat → α) : Nat → Nat → α := fun q i => if q = r ∧ a ≤ i ∧ i < a + n then f (i - a) else I q i
theorem vm_wr_0 {α : Type} (I : Nat → Nat → α) (r a : Nat) (f : Nat → α) : vm_wr I r a 0 f = I := by
  funext q i; unfold vm_wr; exact if_neg (by omega)
theorem vm_wr_s {α : Type} (I : Nat → Nat → α) (r a n : Nat) (f : Nat → α) : jv_u (vm_wr I r a n f) r (a + n) (f n) = vm_wr I r a (n + 1) f := by
  funext q i
  by_cases hq : q = r
  · subst hq
    by_cases hi : i = a + n
    · subst hi
      rw [jv_u_self]; unfold vm_wr
      rw [if_pos ⟨rfl, by omega, by omega⟩, Nat.add_sub_cancel_left]
    · rw [jv_u_j _ _ _ _ hi]; unfold vm_wr
      by_cases c : a ≤ i ∧ i < a + n
      · rw [if_pos ⟨rfl, c⟩, if_pos ⟨rfl, c.1, by omega⟩]
      · rw [if_neg (fun z => c z.2), if_neg (fun z => c ⟨z.2.1, by omega⟩)]
  · rw [jv_u_o _ _ _ _ hq]; unfold vm_wr
    rw [if_neg (fun z => hq z.1), if_neg (fun z => hq z.1)]
theorem vm_wr_o {α : Type} {I : Nat → Nat → α} {r a n q i : Nat} {f : Nat → α} (h : ¬ (q = r ∧ a ≤ i ∧ i < a + n)) : vm_wr I r a n f q i = I q i := if_neg h
theorem vm_wr_i {α : Type} {I : Nat → Nat → α} {r a n k : Nat} {f : Nat → α} (h : k < n) : vm_wr I r a n f r (a + k) = f k := (if_pos ⟨rfl, by omega, by omega⟩).trans (congrArg f (by omega))
theorem jv_i121 : jv_I 121 6 (some .long) 0 0 jv_c121 := ⟨rfl, rfl, rfl, rfl, rfl⟩
def vm_K (j : Nat) : Int32 := vl_I j - 1
theorem vm_K_s (j : Nat) : vm_K (j + 1) = vl_I j := vi_s2 (x := j + 1) (z := 1) rfl rfl (by omega) rfl
theorem vm_K_p (j : Nat) : vl_I j + Int32.ofInt (-1) = vm_K j := by
  refine Int32.toBitVec_inj.mp ?_
  unfold vm_K
  rw [Int32.toBitVec_add, Int32.toBitVec_sub, BitVec.sub_eq_add_neg]
  rfl
theorem vc_read_t {K : Nat → Option (Nat × Nat)} {I : Nat → Nat → Int32} {L : Nat → Nat → Int64} {R : Nat → Nat → Value} {r len a m : Nat} {B : Nat → Nat} (hK : K r = some (101, len)) (hlen : len < 2147483648) (h : vm_by I r len B) (ha : a + m ≤ len) {n sl : Nat} {Q : jv_R → Prop} {i : Nat} (hi : i < m) {v : Int64} {x : Nat} (hv : v = vm_J x) (cont : jv_Wp 121 7 [(0, .ref r), (1, .int (vl_I a)), (2, .int (vl_I m)), (3, .long (vm_J (256 * x + B (a + i)))), (5, .int (vl_I i + Int32.ofInt (-1)))] [] (jv_H K I L R) n sl Q) : jv_Wp 121 7 [(0, .ref r), (1, .int (vl_I a)), (2, .int (vl_I m)), (3, .long v), (5, .int (vl_I i))] [] (jv_H K I L R) n sl Q := by
  refine jv_Wp.lift (fun _ Kz => jv_Ev.steps jv_i121 1 (pc' := 9) (l' := [(0, .ref r), (1, .int (vl_I a)), (2, .int (vl_I m)), (3, .long v), (5, .int (vl_I i))]) (st' := [.int (vl_I i)]) rfl Kz) ?_
  refine jv_Wp.cnd jv_i121 (pt := 35) (pe := 12) (p := ((vl_I i) < 0)) (q := ((vl_I i) < 0)) rfl jv_bi_lt rfl rfl Iff.rfl (fun hz => absurd hz (vl_I_n0 (by omega))) (fun _ => ?_)
  refine jv_Wp.lift (fun _ Kz => jv_Ev.steps jv_i121 7 (pc' := 21) (l' := [(0, .ref r), (1, .int (vl_I a)), (2, .int (vl_I m)), (3, .long v), (5, .int (vl_I i))]) (st' := [.int ((vl_I a) + (vl_I i)), .ref r, .long (v <<< ((8 : Int32).toInt64 &&& 63))]) rfl Kz) ?_
  refine jv_Wp.lift (fun _ Kz => jv_Ev.m jv_i121 (pc' := 22) (st' := [.int (I r (a + i)), .long (v <<< ((8 : Int32).toInt64 &&& 63))]) (G' := (jv_H K I L R)) rfl rfl (jv_m_baldv hK rfl (by rw [show ((vl_I a) + (vl_I i)) = vl_I (a + i) from (vi_a2 rfl rfl rfl)]; exact vl_I_ix (by omega) (by first | omega | decide)) rfl ((congrArg (I r) (show ((vl_I a) + (vl_I i)).toNatClampNeg = a + i from by rw [show ((vl_I a) + (vl_I i)) = vl_I (a + i) from (vi_a2 rfl rfl rfl)]; exact vl_I_nat (by omega))).trans rfl)) Kz) ?_
  refine jv_Wp.lift (fun _ Kz => jv_Ev.steps jv_i121 7 (pc' := 7) (l' := [(5, .int ((vl_I i) + Int32.ofInt (-1))), (3, .long ((v <<< ((8 : Int32).toInt64 &&& 63)) ||| ((I r (a + i)) &&& (255 : Int32)).toInt64)), (0, .ref r), (1, .int (vl_I a)), (2, .int (vl_I m))]) (st' := []) rfl Kz) ?_
  refine jv_Wp.loc (l := [(0, .ref r), (1, .int (vl_I a)), (2, .int (vl_I m)), (3, .long ((v <<< ((8 : Int32).toInt64 &&& 63)) ||| ((I r (a + i)) &&& (255 : Int32)).toInt64)), (5, .int ((vl_I i) + Int32.ofInt (-1)))]) ⟨List.forall_mem_cons.mpr ⟨.tail _ (.tail _ (.head _)), List.forall_mem_cons.mpr ⟨.tail _ (.tail _ (.tail _ (.head _))), List.forall_mem_cons.mpr ⟨.tail _ (.tail _ (.tail _ (.tail _ (.head _)))), List.forall_mem_cons.mpr ⟨.tail _ (.head _), List.forall_mem_cons.mpr ⟨.head _, fun _ h => absurd h List.not_mem_nil⟩⟩⟩⟩⟩, by show List.Nodup [5, 3, 0, 1, 2]; decide⟩ ?_
  have b := h (a + i) (by omega)
  rw [b.1, vl_sb_and b.2, hv, vm_sh8 b.2]
  exact cont
theorem vc_read_e {K : Nat → Option (Nat × Nat)} {I : Nat → Nat → Int32} {L : Nat → Nat → Int64} {R : Nat → Nat → Value} {r len a m : Nat} {B : Nat → Nat} (hK : K r = some (101, len)) (hlen : len < 2147483648) (h : vm_by I r len B) (ha : a + m ≤ len) {n sl : Nat} {Q : jv_R → Prop} {v : Int64} (hQ : Q (some (.long v), jv_H K I L R, n, sl)) : jv_Wp 121 7 [(0, .ref r), (1, .int (vl_I a)), (2, .int (vl_I m)), (3, .long v), (5, .int (-1 : Int32))] [] (jv_H K I L R) n sl Q := by
  refine jv_Wp.lift (fun _ Kz => jv_Ev.steps jv_i121 1 (pc' := 9) (l' := [(0, .ref r), (1, .int (vl_I a)), (2, .int (vl_I m)), (3, .long v), (5, .int (-1 : Int32))]) (st' := [.int (-1 : Int32)]) rfl Kz) ?_
  refine jv_Wp.lift (fun _ Kz => jv_Ev.br jv_i121 (pc' := 35) (st' := []) rfl (by rfl) Kz) ?_
  refine jv_Wp.lift (fun _ Kz => jv_Ev.steps jv_i121 1 (pc' := 36) (l' := [(0, .ref r), (1, .int (vl_I a)), (2, .int (vl_I m)), (3, .long v), (5, .int (-1 : Int32))]) (st' := [.long v]) rfl Kz) ?_
  refine jv_Wp.of (jv_Ev.ret jv_i121 rfl rfl) ?_
  exact hQ
theorem vc_read_l {K : Nat → Option (Nat × Nat)} {I : Nat → Nat → Int32} {L : Nat → Nat → Int64} {R : Nat → Nat → Value} {r len a m : Nat} {B : Nat → Nat} (hK : K r = some (101, len)) (hlen : len < 2147483648) (h : vm_by I r len B) (ha : a + m ≤ len) {n sl : Nat} {Q : jv_R → Prop} (hQ : Q (some (.long (vm_J (vm_le B a m))), jv_H K I L R, n, sl)) : ∀ j, j ≤ m → jv_Wp 121 7 [(0, .ref r), (1, .int (vl_I a)), (2, .int (vl_I m)), (3, .long (vm_J (vm_le B (a + j) (m - j)))), (5, .int (vm_K j))] [] (jv_H K I L R) n sl Q
  | 0, _ => vc_read_e hK hlen h ha hQ
  | j + 1, hj => by
    rw [vm_K_s]
    refine vc_read_t hK hlen h ha (by omega) rfl ?_
    rw [vm_K_p, show 256 * vm_le B (a + (j + 1)) (m - (j + 1)) + B (a + j) = vm_le B (a + j) (m - j) from by rw [show m - j = (m - (j + 1)) + 1 by omega]; exact Nat.add_comm _ _]
    exact vc_read_l hK hlen h ha hQ j (by omega)
theorem vc_read_0 {K : Nat → Option (Nat × Nat)} {I : Nat → Nat → Int32} {L : Nat → Nat → Int64} {R : Nat → Nat → Value} {r len a m : Nat} {B : Nat → Nat} (hK : K r = some (101, len)) (hlen : len < 2147483648) (h : vm_by I r len B) (ha : a + m ≤ len) {n sl : Nat} {Q : jv_R → Prop} (cont : jv_Wp 121 7 [(0, .ref r), (1, .int (vl_I a)), (2, .int (vl_I m)), (3, .long (0 : Int64)), (5, .int (vm_K m))] [] (jv_H K I L R) n sl Q) : jv_Wp 121 0 [(0, .ref r), (1, .int (vl_I a)), (2, .int (vl_I m))] [] (jv_H K I L R) n sl Q := by
  refine jv_Wp.lift (fun _ Kz => jv_Ev.steps jv_i121 6 (pc' := 7) (l' := [(5, .int ((vl_I m) - (1 : Int32))), (3, .long (0 : Int64)), (0, .ref r), (1, .int (vl_I a)), (2, .int (vl_I m))]) (st' := []) rfl Kz) ?_
  refine jv_Wp.loc (l := [(0, .ref r), (1, .int (vl_I a)), (2, .int (vl_I m)), (3, .long (0 : Int64)), (5, .int ((vl_I m) - (1 : Int32)))]) ⟨List.forall_mem_cons.mpr ⟨.tail _ (.tail _ (.head _)), List.forall_mem_cons.mpr ⟨.tail _ (.tail _ (.tail _ (.head _))), List.forall_mem_cons.mpr ⟨.tail _ (.tail _ (.tail _ (.tail _ (.head _)))), List.forall_mem_cons.mpr ⟨.tail _ (.head _), List.forall_mem_cons.mpr ⟨.head _, fun _ h => absurd h List.not_mem_nil⟩⟩⟩⟩⟩, by show List.Nodup [5, 3, 0, 1, 2]; decide⟩ ?_
  rw [show (vl_I m - (1 : Int32)) = vm_K m from rfl]
  exact cont
theorem vc_read {K : Nat → Option (Nat × Nat)} {I : Nat → Nat → Int32} {L : Nat → Nat → Int64} {R : Nat → Nat → Value} {r len a m : Nat} {B : Nat → Nat} (hK : K r = some (101, len)) (hlen : len < 2147483648) (h : vm_by I r len B) (ha : a + m ≤ len) {n sl : Nat} : jv_Ms 121 [.ref r, .int (vl_I a), .int (vl_I m)] (jv_H K I L R) n sl (some (.long (vm_J (vm_le B a m))), jv_H K I L R, n, sl) := by
  have k := vc_read_l (n := n) (sl := sl) (L := L) (R := R) (Q := fun X => X = (some (.long (vm_J (vm_le B a m))), jv_H K I L R, n, sl)) hK hlen h ha rfl m (Nat.le_refl m)
  rw [Nat.sub_self] at k
  obtain ⟨X, k, e⟩ := vc_read_0 hK hlen h ha k
  subst e
  exact k
theorem jv_i122 : jv_I 122 6 none 0 0 jv_c122 := ⟨rfl, rfl, rfl, rfl, rfl⟩
theorem vc_write_t {K : Nat → Option (Nat × Nat)} {I : Nat → Nat → Int32} {L : Nat → Nat → Int64} {R : Nat → Nat → Value} {r len a m : Nat} {v : Int64} (hK : K r = some (101, len)) (hlen : len < 2147483648) (ha : a + m ≤ len) (h8 : m ≤ 8) {n sl : Nat} {Q : jv_R → Prop} {i : Nat} (hi : i < m) (cont : jv_Wp 122 3 [(0, .ref r), (1, .int (vl_I a)), (2, .int (vl_I m)), (3, .long v), (5, .int (vl_I (i + 1)))] [] (jv_H K (jv_u I r (a + i) (vl_sb (vm_bt v i))) L R) n sl Q) : jv_Wp 122 3 [(0, .ref r), (1, .int (vl_I a)), (2, .int (vl_I m)), (3, .long v), (5, .int (vl_I i))] [] (jv_H K I L R) n sl Q := by
  refine jv_Wp.lift (fun _ Kz => jv_Ev.steps jv_i122 2 (pc' := 6) (l' := [(0, .ref r), (1, .int (vl_I a)), (2, .int (vl_I m)), (3, .long v), (5, .int (vl_I i))]) (st' := [.int (vl_I m), .int (vl_I i)]) rfl Kz) ?_
  refine jv_Wp.cnd jv_i122 (pt := 30) (pe := 9) (p := ((vl_I m) ≤ (vl_I i))) (q := ((vl_I m) ≤ (vl_I i))) rfl jv_bc_ge rfl rfl Iff.rfl (fun hz => absurd hz (fun z => absurd ((vl_I_le (by omega) (by omega)).mp z) (by omega))) (fun _ => ?_)
  refine jv_Wp.lift (fun _ Kz => jv_Ev.steps jv_i122 11 (pc' := 23) (l' := [(0, .ref r), (1, .int (vl_I a)), (2, .int (vl_I m)), (3, .long v), (5, .int (vl_I i))]) (st' := [.int (v >>> (((8 : Int32) * (vl_I i)).toInt64 &&& 63)).toInt32.toInt8.toInt32, .int ((vl_I a) + (vl_I i)), .ref r]) rfl Kz) ?_
  refine jv_Wp.lift (fun _ Kz => jv_Ev.m jv_i122 (pc' := 24) (st' := []) (G' := (jv_H K (jv_u I r (a + i) (v >>> (((8 : Int32) * (vl_I i)).toInt64 &&& 63)).toInt32.toInt8.toInt32.toInt8.toInt32) L R)) rfl rfl (by rw [jv_m_bast hK (by rw [show ((vl_I a) + (vl_I i)) = vl_I (a + i) from (vi_a2 rfl rfl rfl)]; exact vl_I_ix (by omega) (by first | omega | decide)), (show ((vl_I a) + (vl_I i)).toNatClampNeg = a + i from by rw [show ((vl_I a) + (vl_I i)) = vl_I (a + i) from (vi_a2 rfl rfl rfl)]; exact vl_I_nat (by omega))]) Kz) ?_
  refine jv_Wp.lift (fun _ Kz => jv_Ev.steps jv_i122 2 (pc' := 3) (l' := [(5, .int ((vl_I i) + Int32.ofInt 1)), (0, .ref r), (1, .int (vl_I a)), (2, .int (vl_I m)), (3, .long v)]) (st' := []) rfl Kz) ?_
  refine jv_Wp.loc (l := [(0, .ref r), (1, .int (vl_I a)), (2, .int (vl_I m)), (3, .long v), (5, .int ((vl_I i) + Int32.ofInt 1))]) ⟨List.forall_mem_cons.mpr ⟨.tail _ (.head _), List.forall_mem_cons.mpr ⟨.tail _ (.tail _ (.head _)), List.forall_mem_cons.mpr ⟨.tail _ (.tail _ (.tail _ (.head _))), List.forall_mem_cons.mpr ⟨.tail _ (.tail _ (.tail _ (.tail _ (.head _)))), List.forall_mem_cons.mpr ⟨.head _, fun _ h => absurd h List.not_mem_nil⟩⟩⟩⟩⟩, by show List.Nodup [5, 0, 1, 2, 3]; decide⟩ ?_
  rw [show (v >>> ((8 * vl_I i : Int32).toInt64 &&& 63)).toInt32.toInt8.toInt32 = vl_sb (vm_bt v i) from vm_bt_ok v (by omega), vl_sb_sb (vm_bt_lt v i), show vl_I i + Int32.ofInt 1 = vl_I (i + 1) from vl_I_add i 1]
  exact cont
theorem vc_write_e {K : Nat → Option (Nat × Nat)} {I : Nat → Nat → Int32} {L : Nat → Nat → Int64} {R : Nat → Nat → Value} {r len a m : Nat} {v : Int64} (hK : K r = some (101, len)) (hlen : len < 2147483648) (ha : a + m ≤ len) (h8 : m ≤ 8) {n sl : Nat} {Q : jv_R → Prop} (hQ : Q (none, jv_H K I L R, n, sl)) : jv_Wp 122 3 [(0, .ref r), (1, .int (vl_I a)), (2, .int (vl_I m)), (3, .long v), (5, .int (vl_I m))] [] (jv_H K I L R) n sl Q := by
  refine jv_Wp.lift (fun _ Kz => jv_Ev.steps jv_i122 2 (pc' := 6) (l' := [(0, .ref r), (1, .int (vl_I a)), (2, .int (vl_I m)), (3, .long v), (5, .int (vl_I m))]) (st' := [.int (vl_I m), .int (vl_I m)]) rfl Kz) ?_
  refine jv_Wp.cnd jv_i122 (pt := 30) (pe := 9) (p := ((vl_I m) ≤ (vl_I m))) (q := ((vl_I m) ≤ (vl_I m))) rfl jv_bc_ge rfl rfl Iff.rfl (fun _ => ?_) (fun hz => absurd ((vl_I_le (by omega) (by omega)).mpr (Nat.le_refl m)) hz)
  refine jv_Wp.of (jv_Ev.ret jv_i122 rfl rfl) ?_
  exact hQ
theorem vc_write_l {K : Nat → Option (Nat × Nat)} {I : Nat → Nat → Int32} {L : Nat → Nat → Int64} {R : Nat → Nat → Value} {r len a m : Nat} {v : Int64} (hK : K r = some (101, len)) (hlen : len < 2147483648) (ha : a + m ≤ len) (h8 : m ≤ 8) {n sl : Nat} {Q : jv_R → Prop} (hQ : Q (none, jv_H K (vm_wr I r a m (fun k => vl_sb (vm_bt v k))) L R, n, sl)) : ∀ k i, i + k = m → jv_Wp 122 3 [(0, .ref r), (1, .int (vl_I a)), (2, .int (vl_I m)), (3, .long v), (5, .int (vl_I i))] [] (jv_H K (vm_wr I r a i (fun k => vl_sb (vm_bt v k))) L R) n sl Q
  | 0, i, e => by
    have e : i = m := e
    rw [e]; exact vc_write_e hK hlen ha h8 hQ
  | k + 1, i, e => by
    refine vc_write_t hK hlen ha h8 (by omega) ?_
    rw [vm_wr_s I r a i (fun k => vl_sb (vm_bt v k))]
    exact vc_write_l hK hlen ha h8 hQ k (i + 1) (by omega)
theorem vc_write_0 {K : Nat → Option (Nat × Nat)} {I : Nat → Nat → Int32} {L : Nat → Nat → Int64} {R : Nat → Nat → Value} {r len a m : Nat} {v : Int64} (hK : K r = some (101, len)) (hlen : len < 2147483648) (ha : a + m ≤ len) (h8 : m ≤ 8) {n sl : Nat} {Q : jv_R → Prop} (cont : jv_Wp 122 3 [(0, .ref r), (1, .int (vl_I a)), (2, .int (vl_I m)), (3, .long v), (5, .int (0 : Int32))] [] (jv_H K I L R) n sl Q) : jv_Wp 122 0 [(0, .ref r), (1, .int (vl_I a)), (2, .int (vl_I m)), (3, .long v)] [] (jv_H K I L R) n sl Q := by
  refine jv_Wp.lift (fun _ Kz => jv_Ev.steps jv_i122 2 (pc' := 3) (l' := [(5, .int (0 : Int32)), (0, .ref r), (1, .int (vl_I a)), (2, .int (vl_I m)), (3, .long v)]) (st' := []) rfl Kz) ?_
  refine jv_Wp.loc (l := [(0, .ref r), (1, .int (vl_I a)), (2, .int (vl_I m)), (3, .long v), (5, .int (0 : Int32))]) ⟨List.forall_mem_cons.mpr ⟨.tail _ (.head _), List.forall_mem_cons.mpr ⟨.tail _ (.tail _ (.head _)), List.forall_mem_cons.mpr ⟨.tail _ (.tail _ (.tail _ (.head _))), List.forall_mem_cons.mpr ⟨.tail _ (.tail _ (.tail _ (.tail _ (.head _)))), List.forall_mem_cons.mpr ⟨.head _, fun _ h => absurd h List.not_mem_nil⟩⟩⟩⟩⟩, by show List.Nodup [5, 0, 1, 2, 3]; decide⟩ ?_
  exact cont
theorem vc_write {K : Nat → Option (Nat × Nat)} {I : Nat → Nat → Int32} {L : Nat → Nat → Int64} {R : Nat → Nat → Value} {r len a m : Nat} {v : Int64} (hK : K r = some (101, len)) (hlen : len < 2147483648) (ha : a + m ≤ len) (h8 : m ≤ 8) {n sl : Nat} : jv_Ms 122 [.ref r, .int (vl_I a), .int (vl_I m), .long v] (jv_H K I L R) n sl (none, jv_H K (vm_wr I r a m (fun k => vl_sb (vm_bt v k))) L R, n, sl) := by
  have k := vc_write_l (I := I) (n := n) (sl := sl) (L := L) (R := R) (Q := fun X => X = (none, jv_H K (vm_wr I r a m (fun k => vl_sb (vm_bt v k))) L R, n, sl)) hK hlen ha h8 rfl m 0 (Nat.zero_add m)
  rw [vm_wr_0] at k
  obtain ⟨X, k, e⟩ := vc_write_0 hK hlen ha h8 k
  subst e
  exact k