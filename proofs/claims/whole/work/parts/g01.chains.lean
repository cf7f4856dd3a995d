/-! part g01: tables of the class: chains, keys (gen/tg01.py) -/
theorem vm_cp {K : Nat → Option (Nat × Nat)} {I : Nat → Nat → Int32} {L : Nat → Nat → Int64} {R : Nat → Nat → Value} {mL fr lo pc b d l0 l1 ln b0 : Nat} {i : Instr} {c : Int} {l : jv_L} {r : List Value} (hb : K b = some (101, l0)) (hd : K d = some (101, l1)) (hr : (Nat.ble 1 fr && Nat.ble (jv_wd r + 18) lo) = true) {xs xd xm : Int32} {sp dp m : Nat} (es : xs = vl_I sp) (ed : xd = vl_I dp) (em : xm = vl_I m) (h0 : sp + m ≤ l0) (h1 : dp + m ≤ l1) (g0 : l0 < 2147483648) (g1 : l1 < 2147483648) : jv_op mL fr lo (10, i, ln, 0, b0, c) pc l (.int xm :: .int xd :: .ref d :: .int xs :: .ref b :: r) (jv_H K I L R) = some (pc + 3, l, r, jv_H K (vm_wr I d dp m (fun j => I b (sp + j))) L R) := by
  have q0 : sp < 2147483648 := by omega
  have q1 : dp < 2147483648 := by omega
  have q2 : m < 2147483648 := by omega
  have v0 : ∀ j, jv_vk 101 j = 0 := fun j => rfl
  have e : jv_set (jv_H K I L R) d (101, l1, va_cpy (jv_cv I L R b 101) (jv_cv I L R d 101) xs.toNatClampNeg xd.toNatClampNeg xm.toNatClampNeg) = jv_H K (vm_wr I d dp m (fun j => I b (sp + j))) L R := by
    rw [es, ed, em, vl_I_nat q0, vl_I_nat q1, vl_I_nat q2]
    funext q
    by_cases hq : q = d
    · subst hq
      rw [jv_set_self, jv_H_at hd]
      refine congrArg some (congrArg (Prod.mk 101) (congrArg (Prod.mk l1) (funext fun j => ?_)))
      show va_cpy _ _ sp dp m j = Value.int (vm_wr I q dp m (fun j => I b (sp + j)) q j)
      unfold va_cpy vm_wr
      by_cases hj : dp ≤ j ∧ j < dp + m
      · rw [if_pos hj, if_pos ⟨rfl, hj⟩]; rfl
      · rw [if_neg hj, if_neg (fun z => hj z.2)]; rfl
    · rw [jv_set_ne _ _ hq]
      unfold jv_H
      cases hk : K q with
      | none => rfl
      | some kk =>
        obtain ⟨k1, k2⟩ := kk
        refine congrArg some (congrArg (Prod.mk k1) (congrArg (Prod.mk k2) (funext fun j => ?_)))
        unfold jv_cv
        rw [vm_wr_o (fun z => hq z.1)]
  show (match jv_cp fr lo (.int xm :: .int xd :: .ref d :: .int xs :: .ref b :: r) (jv_H K I L R) with | some (st', G') => some (pc + 3, l, st', G') | none => none) = _
  have h9 : jv_cp fr lo (.int xm :: .int xd :: .ref d :: .int xs :: .ref b :: r) (jv_H K I L R) = some (r, jv_H K (vm_wr I d dp m (fun j => I b (sp + j))) L R) := by
    simp only [jv_cp, jv_H_at hb, jv_H_at hd, show Nat.beq 101 101 = true from rfl, Bool.true_and, hr, cond_true]
    have i0 : xs.toInt = (sp : Int) := by rw [es]; exact vl_I_int q0
    have i1 : xd.toInt = (dp : Int) := by rw [ed]; exact vl_I_int q1
    have i2 : xm.toInt = (m : Int) := by rw [em]; exact vl_I_int q2
    rw [if_pos ⟨by omega, by omega, by omega, by omega, by omega⟩, e]
  rw [h9]
/-! tables: keys of ks bytes, en entries, ch chains -/
/-- the cells of a table -/
def vk_TW (K : Nat → Option (Nat × Nat)) (R : Nat → Nat → Value) (o ks en ch : Nat) : Prop := K o = some (7, 13) ∧ K (o + 1) = some (101, ks * en) ∧ K (o + 2) = some (100, en) ∧ K (o + 3) = some (102, ch) ∧ K (o + 4) = some (102, en) ∧ R o 7 = .ref (o + 1) ∧ R o 8 = .ref (o + 2) ∧ R o 9 = .ref (o + 3) ∧ R o 10 = .ref (o + 4) ∧ (1 ≤ ks ∧ ks ≤ 32) ∧ (1 ≤ en ∧ en ≤ 4096) ∧ (1 ≤ ch ∧ ch ≤ 4096)
theorem vk_p1 (p : Nat) : vl_I p + Int32.ofInt 1 = vl_I (p + 1) := vl_I_add p 1
def vk_h (B : Nat → Nat) : Nat → Int32
  | 0 => 0
  | n + 1 => (31 : Int32) * vk_h B n + vl_sb (B n)
def vk_x (ch : Nat) (h : Int32) : Int32 := (h ^^^ (h.toUInt32 >>> (Int32.toUInt32 15 &&& Int32.toUInt32 31)).toInt32) &&& (Int32.ofNat ch - 1)
/-- the chain of a key -/
def vk_c (ch : Nat) (B : Nat → Nat) (ks : Nat) : Nat := (vk_x ch (vk_h B ks)).toNatClampNeg
theorem vk_x_lt {ch : Nat} (h1 : 1 ≤ ch) (h2 : ch ≤ 4096) (h : Int32) : vk_x ch h = vl_I (vk_x ch h).toNatClampNeg ∧ (vk_x ch h).toNatClampNeg < ch := by
  have e : Int32.ofNat ch - 1 = vl_I (ch - 1) := vi_s2 (x := ch) (z := 1) rfl rfl (by omega) rfl
  have b : (vk_x ch h).toBitVec.toNat < ch := by
    unfold vk_x
    rw [e, Int32.toBitVec_and, BitVec.toNat_and]
    have : (vl_I (ch - 1)).toBitVec.toNat = ch - 1 := (BitVec.toNat_ofNat _ _).trans (Nat.mod_eq_of_lt (by omega))
    rw [this]
    exact Nat.lt_of_le_of_lt Nat.and_le_right (by omega)
  have i : (vk_x ch h).toInt = ((vk_x ch h).toBitVec.toNat : Int) := by
    show (vk_x ch h).toBitVec.toInt = _
    rw [BitVec.toInt_eq_toNat_cond, if_pos (by omega)]
  have c : (vk_x ch h).toNatClampNeg = (vk_x ch h).toBitVec.toNat := by
    show (vk_x ch h).toInt.toNat = _
    rw [i]; rfl
  refine ⟨Int32.toInt_inj.mp ?_, by omega⟩
  rw [i, vl_I_i (by omega)]; omega
theorem vk_c_lt {ch : Nat} (h1 : 1 ≤ ch) (h2 : ch ≤ 4096) (B : Nat → Nat) (ks : Nat) : vk_c ch B ks < ch := (vk_x_lt h1 h2 _).2
theorem vk_h_eq {B C : Nat → Nat} : ∀ n, (∀ j, j < n → B j = C j) → vk_h B n = vk_h C n
  | 0, _ => rfl
  | n + 1, h => by
    show (31 : Int32) * vk_h B n + vl_sb (B n) = (31 : Int32) * vk_h C n + vl_sb (C n)
    rw [vk_h_eq n (fun j hj => h j (by omega)), h n (by omega)]
theorem vk_c_eq {B C : Nat → Nat} {ch n : Nat} (h : ∀ j, j < n → B j = C j) : vk_c ch B n = vk_c ch C n := by unfold vk_c; rw [vk_h_eq n h]
/-- whether two keys are the same -/
def vk_eq (B C : Nat → Nat) (n : Nat) : Bool := (List.range n).all fun j => decide (B j = C j)
theorem vk_eq_t {B C : Nat → Nat} {n : Nat} : vk_eq B C n = true ↔ ∀ j, j < n → B j = C j := by
  unfold vk_eq
  rw [List.all_eq_true]
  exact ⟨fun h j hj => of_decide_eq_true (h j (List.mem_range.mpr hj)), fun h j hj => decide_eq_true (h j (List.mem_range.mp hj))⟩
/-- the entries of a chain, one behind another -/
def vk_ch (N : Nat → Int32) (en : Nat) : Int32 → List Nat → Prop
  | h, [] => h = 0
  | h, e :: r => h = vl_I (e + 1) ∧ e < en ∧ vk_ch N en (N e) r
def vk_n (tk : Nat → Nat) : Nat → Nat
  | 0 => 0
  | e + 1 => vk_n tk e + tk e
/-- which entries are taken, and what keys stand in the entries -/
def vk_T (I : Nat → Nat → Int32) (o ks en ch : Nat) (tk : Nat → Nat) (ky : Nat → Nat → Nat) : Prop :=
  I o 1 = vl_I ks ∧ I o 3 = vl_I en ∧ (∀ e, e < en → I (o + 2) e = vl_I (tk e) ∧ tk e ≤ 1) ∧ (∀ e j, e < en → j < ks → I (o + 1) (e * ks + j) = vl_sb (ky e j) ∧ ky e j < 256) ∧
  (∀ c, c < ch → ∃ l, vk_ch (I (o + 4)) en (I (o + 3) c) l ∧ l.Nodup ∧ ∀ e, e ∈ l ↔ (e < en ∧ tk e = 1 ∧ vk_c ch (ky e) ks = c)) ∧
  I o 11 = vl_I (vk_n tk en) ∧ ∃ ff, I o 12 = vl_I ff ∧ ff ≤ en ∧ ∀ e, e < ff → tk e = 1
theorem vk_ix {e ks en j : Nat} (he : e < en) (hj : j < ks) : e * ks + j < ks * en := by
  have h1 : (e + 1) * ks ≤ en * ks := Nat.mul_le_mul_right _ he
  rw [Nat.add_mul, Nat.one_mul] at h1
  rw [Nat.mul_comm ks en]; omega
theorem vk_sz {ks en : Nat} (h1 : ks ≤ 32) (h2 : en ≤ 4096) : ks * en ≤ 131072 := Nat.mul_le_mul h1 h2
/-- the bytes of a key at a place of a row -/
abbrev vk_by (I : Nat → Nat → Int32) (r a n : Nat) (B : Nat → Nat) : Prop := ∀ j, j < n → I r (a + j) = vl_sb (B j) ∧ B j < 256
theorem jv_i131 : jv_I 131 5 (some .int) 0 0 jv_c131 := ⟨rfl, rfl, rfl, rfl, rfl⟩
theorem vk_chain_t {K : Nat → Option (Nat × Nat)} {I : Nat → Nat → Int32} {L : Nat → Nat → Int64} {R : Nat → Nat → Value} {o ks en ch r len a : Nat} {B : Nat → Nat} (hT : vk_TW K R o ks en ch) (e1 : I o 1 = vl_I ks) (hKr : K r = some (101, len)) (hlen : len < 2147483648) (ha : a + ks ≤ len) (hB : vk_by I r a ks B) {n sl : Nat} {Q : jv_R → Prop} {h : Int32} {j : Nat} (hj : j < ks) (cont : jv_Wp 131 5 [(0, .ref o), (1, .ref r), (2, .int (vl_I a)), (3, .int ((31 : Int32) * h + vl_sb (B j))), (4, .int (vl_I (j + 1)))] [] (jv_H K I L R) n sl Q) : jv_Wp 131 5 [(0, .ref o), (1, .ref r), (2, .int (vl_I a)), (3, .int h), (4, .int (vl_I j))] [] (jv_H K I L R) n sl Q := by
  obtain ⟨hK0, hK1, hK2, hK3, hK4, hR7, hR8, hR9, hR10, hks, hen, hch⟩ := id hT
  refine jv_Wp.lift (fun _ Kz => jv_Ev.steps jv_i131 2 (pc' := 8) (l' := [(0, .ref o), (1, .ref r), (2, .int (vl_I a)), (3, .int h), (4, .int (vl_I j))]) (st' := [.ref o, .int (vl_I j)]) rfl Kz) ?_
  refine jv_Wp.lift (fun _ Kz => jv_Ev.m jv_i131 (pc' := 11) (st' := [.int (vl_I ks), .int (vl_I j)]) (G' := (jv_H K I L R)) rfl rfl (jv_m_getI hK0 rfl rfl e1) Kz) ?_
  refine jv_Wp.cnd jv_i131 (pt := 32) (pe := 14) (p := ((vl_I ks) ≤ (vl_I j))) (q := ((vl_I ks) ≤ (vl_I j))) rfl jv_bc_ge rfl rfl Iff.rfl (fun hz => absurd hz (fun z => absurd ((vl_I_le (by omega) (by omega)).mp z) (by omega))) (fun _ => ?_)
  refine jv_Wp.lift (fun _ Kz => jv_Ev.steps jv_i131 7 (pc' := 23) (l' := [(0, .ref o), (1, .ref r), (2, .int (vl_I a)), (3, .int h), (4, .int (vl_I j))]) (st' := [.int ((vl_I a) + (vl_I j)), .ref r, .int ((31 : Int32) * h)]) rfl Kz) ?_
  refine jv_Wp.lift (fun _ Kz => jv_Ev.m jv_i131 (pc' := 24) (st' := [.int (I r (a + j)), .int ((31 : Int32) * h)]) (G' := (jv_H K I L R)) rfl rfl (jv_m_baldv hKr rfl (by rw [vl_I_add]; exact vl_I_ix (by omega) (by omega)) rfl ((congrArg (I r) (show ((vl_I a) + (vl_I j)).toNatClampNeg = a + j from by rw [show ((vl_I a) + (vl_I j)) = vl_I (a + j) from (vi_a2 rfl rfl rfl)]; exact vl_I_nat (by omega))).trans rfl)) Kz) ?_
  refine jv_Wp.lift (fun _ Kz => jv_Ev.steps jv_i131 4 (pc' := 5) (l' := [(4, .int ((vl_I j) + Int32.ofInt 1)), (3, .int (((31 : Int32) * h) + (I r (a + j)))), (0, .ref o), (1, .ref r), (2, .int (vl_I a))]) (st' := []) rfl Kz) ?_
  refine jv_Wp.loc (l := [(0, .ref o), (1, .ref r), (2, .int (vl_I a)), (3, .int (((31 : Int32) * h) + (I r (a + j)))), (4, .int ((vl_I j) + Int32.ofInt 1))]) ⟨List.forall_mem_cons.mpr ⟨.tail _ (.tail _ (.head _)), List.forall_mem_cons.mpr ⟨.tail _ (.tail _ (.tail _ (.head _))), List.forall_mem_cons.mpr ⟨.tail _ (.tail _ (.tail _ (.tail _ (.head _)))), List.forall_mem_cons.mpr ⟨.tail _ (.head _), List.forall_mem_cons.mpr ⟨.head _, fun _ h => absurd h List.not_mem_nil⟩⟩⟩⟩⟩, by show List.Nodup [4, 3, 0, 1, 2]; decide⟩ ?_
  rw [(hB j hj).1, vk_p1 j]
  exact cont
theorem vk_chain_e {K : Nat → Option (Nat × Nat)} {I : Nat → Nat → Int32} {L : Nat → Nat → Int64} {R : Nat → Nat → Value} {o ks en ch r len a : Nat} {B : Nat → Nat} (hT : vk_TW K R o ks en ch) (e1 : I o 1 = vl_I ks) (hKr : K r = some (101, len)) (hlen : len < 2147483648) (ha : a + ks ≤ len) (hB : vk_by I r a ks B) {n sl : Nat} {Q : jv_R → Prop} {h : Int32} (hQ : Q (some (.int (vk_x ch h)), jv_H K I L R, n, sl)) : jv_Wp 131 5 [(0, .ref o), (1, .ref r), (2, .int (vl_I a)), (3, .int h), (4, .int (vl_I ks))] [] (jv_H K I L R) n sl Q := by
  obtain ⟨hK0, hK1, hK2, hK3, hK4, hR7, hR8, hR9, hR10, hks, hen, hch⟩ := id hT
  refine jv_Wp.lift (fun _ Kz => jv_Ev.steps jv_i131 2 (pc' := 8) (l' := [(0, .ref o), (1, .ref r), (2, .int (vl_I a)), (3, .int h), (4, .int (vl_I ks))]) (st' := [.ref o, .int (vl_I ks)]) rfl Kz) ?_
  refine jv_Wp.lift (fun _ Kz => jv_Ev.m jv_i131 (pc' := 11) (st' := [.int (vl_I ks), .int (vl_I ks)]) (G' := (jv_H K I L R)) rfl rfl (jv_m_getI hK0 rfl rfl e1) Kz) ?_
  refine jv_Wp.cnd jv_i131 (pt := 32) (pe := 14) (p := ((vl_I ks) ≤ (vl_I ks))) (q := ((vl_I ks) ≤ (vl_I ks))) rfl jv_bc_ge rfl rfl Iff.rfl (fun _ => ?_) (fun hz => absurd ((vl_I_le (by omega) (by omega)).mpr (Nat.le_refl ks)) hz)
  refine jv_Wp.lift (fun _ Kz => jv_Ev.steps jv_i131 6 (pc' := 39) (l' := [(0, .ref o), (1, .ref r), (2, .int (vl_I a)), (3, .int h), (4, .int (vl_I ks))]) (st' := [.ref o, .int (h ^^^ ((h.toUInt32 >>> ((15 : Int32).toUInt32 &&& Int32.toUInt32 31)).toInt32))]) rfl Kz) ?_
  refine jv_Wp.lift (fun _ Kz => jv_Ev.m jv_i131 (pc' := 42) (st' := [.ref (o + 3), .int (h ^^^ ((h.toUInt32 >>> ((15 : Int32).toUInt32 &&& Int32.toUInt32 31)).toInt32))]) (G' := (jv_H K I L R)) rfl rfl (jv_m_getR hK0 rfl rfl hR9) Kz) ?_
  refine jv_Wp.lift (fun _ Kz => jv_Ev.m jv_i131 (pc' := 43) (st' := [.int (Int32.ofNat ch), .int (h ^^^ ((h.toUInt32 >>> ((15 : Int32).toUInt32 &&& Int32.toUInt32 31)).toInt32))]) (G' := (jv_H K I L R)) rfl rfl (jv_m_len hK3 rfl) Kz) ?_
  refine jv_Wp.lift (fun _ Kz => jv_Ev.steps jv_i131 3 (pc' := 46) (l' := [(0, .ref o), (1, .ref r), (2, .int (vl_I a)), (3, .int h), (4, .int (vl_I ks))]) (st' := [.int ((h ^^^ ((h.toUInt32 >>> ((15 : Int32).toUInt32 &&& Int32.toUInt32 31)).toInt32)) &&& ((Int32.ofNat ch) - (1 : Int32)))]) rfl Kz) ?_
  refine jv_Wp.of (jv_Ev.ret jv_i131 rfl rfl) ?_
  rw [show ((h ^^^ ((h.toUInt32 >>> ((15 : Int32).toUInt32 &&& Int32.toUInt32 31)).toInt32)) &&& ((Int32.ofNat ch) - (1 : Int32))) = vk_x ch h from rfl]
  exact hQ
theorem vk_chain_l {K : Nat → Option (Nat × Nat)} {I : Nat → Nat → Int32} {L : Nat → Nat → Int64} {R : Nat → Nat → Value} {o ks en ch r len a : Nat} {B : Nat → Nat} (hT : vk_TW K R o ks en ch) (e1 : I o 1 = vl_I ks) (hKr : K r = some (101, len)) (hlen : len < 2147483648) (ha : a + ks ≤ len) (hB : vk_by I r a ks B) {n sl : Nat} {Q : jv_R → Prop} (hQ : Q (some (.int (vk_x ch (vk_h B ks))), jv_H K I L R, n, sl)) : ∀ d j, j + d = ks → jv_Wp 131 5 [(0, .ref o), (1, .ref r), (2, .int (vl_I a)), (3, .int (vk_h B j)), (4, .int (vl_I j))] [] (jv_H K I L R) n sl Q
  | 0, j, e => by
    have e : j = ks := e
    subst e
    exact vk_chain_e hT e1 hKr hlen ha hB hQ
  | d + 1, j, e => vk_chain_t hT e1 hKr hlen ha hB (by omega) (vk_chain_l hT e1 hKr hlen ha hB hQ d (j + 1) (by omega))
theorem vk_chain_0 {K : Nat → Option (Nat × Nat)} {I : Nat → Nat → Int32} {L : Nat → Nat → Int64} {R : Nat → Nat → Value} {o ks en ch r len a : Nat} {B : Nat → Nat} (hT : vk_TW K R o ks en ch) (e1 : I o 1 = vl_I ks) (hKr : K r = some (101, len)) (hlen : len < 2147483648) (ha : a + ks ≤ len) (hB : vk_by I r a ks B) {n sl : Nat} {Q : jv_R → Prop} (cont : jv_Wp 131 5 [(0, .ref o), (1, .ref r), (2, .int (vl_I a)), (3, .int (0 : Int32)), (4, .int (0 : Int32))] [] (jv_H K I L R) n sl Q) : jv_Wp 131 0 [(0, .ref o), (1, .ref r), (2, .int (vl_I a))] [] (jv_H K I L R) n sl Q := by
  obtain ⟨hK0, hK1, hK2, hK3, hK4, hR7, hR8, hR9, hR10, hks, hen, hch⟩ := id hT
  refine jv_Wp.lift (fun _ Kz => jv_Ev.steps jv_i131 4 (pc' := 5) (l' := [(4, .int (0 : Int32)), (3, .int (0 : Int32)), (0, .ref o), (1, .ref r), (2, .int (vl_I a))]) (st' := []) rfl Kz) ?_
  refine jv_Wp.loc (l := [(0, .ref o), (1, .ref r), (2, .int (vl_I a)), (3, .int (0 : Int32)), (4, .int (0 : Int32))]) ⟨List.forall_mem_cons.mpr ⟨.tail _ (.tail _ (.head _)), List.forall_mem_cons.mpr ⟨.tail _ (.tail _ (.tail _ (.head _))), List.forall_mem_cons.mpr ⟨.tail _ (.tail _ (.tail _ (.tail _ (.head _)))), List.forall_mem_cons.mpr ⟨.tail _ (.head _), List.forall_mem_cons.mpr ⟨.head _, fun _ h => absurd h List.not_mem_nil⟩⟩⟩⟩⟩, by show List.Nodup [4, 3, 0, 1, 2]; decide⟩ ?_
  exact cont
theorem vk_chainOf {K : Nat → Option (Nat × Nat)} {I : Nat → Nat → Int32} {L : Nat → Nat → Int64} {R : Nat → Nat → Value} {o ks en ch r len a : Nat} {B : Nat → Nat} (hT : vk_TW K R o ks en ch) (e1 : I o 1 = vl_I ks) (hKr : K r = some (101, len)) (hlen : len < 2147483648) (ha : a + ks ≤ len) (hB : vk_by I r a ks B) {n sl : Nat} : jv_Ms 131 [.ref o, .ref r, .int (vl_I a)] (jv_H K I L R) n sl (some (.int (vl_I (vk_c ch B ks))), jv_H K I L R, n, sl) := by
  have hch := hT.2.2.2.2.2.2.2.2.2.2.2
  have k := vk_chain_l (n := n) (sl := sl) (L := L) (Q := fun X => X = (some (.int (vl_I (vk_c ch B ks))), jv_H K I L R, n, sl)) hT e1 hKr hlen ha hB (by rw [(vk_x_lt hch.1 hch.2 _).1]; rfl) ks 0 (Nat.zero_add ks)
  obtain ⟨X, k, e⟩ := vk_chain_0 hT e1 hKr hlen ha hB k
  subst e
  exact k
theorem jv_i132 : jv_I 132 5 (some .boolean) 0 0 jv_c132 := ⟨rfl, rfl, rfl, rfl, rfl⟩
theorem vk_haskey_t {K : Nat → Option (Nat × Nat)} {I : Nat → Nat → Int32} {L : Nat → Nat → Int64} {R : Nat → Nat → Value} {o ks en ch r len a e : Nat} {B : Nat → Nat} {ky : Nat → Nat → Nat} (hT : vk_TW K R o ks en ch) (e1 : I o 1 = vl_I ks) (hky : ∀ e j, e < en → j < ks → I (o + 1) (e * ks + j) = vl_sb (ky e j) ∧ ky e j < 256) (he : e < en) (hKr : K r = some (101, len)) (hlen : len < 2147483648) (ha : a + ks ≤ len) (hB : vk_by I r a ks B) {n sl : Nat} {Q : jv_R → Prop} {j : Nat} (hj : j < ks) (cont : ky e j = B j → jv_Wp 132 3 [(0, .ref o), (1, .int (vl_I e)), (2, .ref r), (3, .int (vl_I a)), (4, .int (vl_I (j + 1)))] [] (jv_H K I L R) n sl Q) (hno : ky e j ≠ B j → Q (some (.int (0 : Int32)), jv_H K I L R, n, sl)) : jv_Wp 132 3 [(0, .ref o), (1, .int (vl_I e)), (2, .ref r), (3, .int (vl_I a)), (4, .int (vl_I j))] [] (jv_H K I L R) n sl Q := by
  obtain ⟨hK0, hK1, hK2, hK3, hK4, hR7, hR8, hR9, hR10, hks, hen, hch⟩ := id hT
  have hix := vk_ix he hj
  have hsz := vk_sz hks.2 hen.2
  refine jv_Wp.lift (fun _ Kz => jv_Ev.steps jv_i132 2 (pc' := 6) (l' := [(0, .ref o), (1, .int (vl_I e)), (2, .ref r), (3, .int (vl_I a)), (4, .int (vl_I j))]) (st' := [.ref o, .int (vl_I j)]) rfl Kz) ?_
  refine jv_Wp.lift (fun _ Kz => jv_Ev.m jv_i132 (pc' := 9) (st' := [.int (vl_I ks), .int (vl_I j)]) (G' := (jv_H K I L R)) rfl rfl (jv_m_getI hK0 rfl rfl e1) Kz) ?_
  refine jv_Wp.cnd jv_i132 (pt := 43) (pe := 12) (p := ((vl_I ks) ≤ (vl_I j))) (q := ((vl_I ks) ≤ (vl_I j))) rfl jv_bc_ge rfl rfl Iff.rfl (fun hz => absurd hz (fun z => absurd ((vl_I_le (by omega) (by omega)).mp z) (by omega))) (fun _ => ?_)
  refine jv_Wp.lift (fun _ Kz => jv_Ev.steps jv_i132 1 (pc' := 13) (l' := [(0, .ref o), (1, .int (vl_I e)), (2, .ref r), (3, .int (vl_I a)), (4, .int (vl_I j))]) (st' := [.ref o]) rfl Kz) ?_
  refine jv_Wp.lift (fun _ Kz => jv_Ev.m jv_i132 (pc' := 16) (st' := [.ref (o + 1)]) (G' := (jv_H K I L R)) rfl rfl (jv_m_getR hK0 rfl rfl hR7) Kz) ?_
  refine jv_Wp.lift (fun _ Kz => jv_Ev.steps jv_i132 2 (pc' := 18) (l' := [(0, .ref o), (1, .int (vl_I e)), (2, .ref r), (3, .int (vl_I a)), (4, .int (vl_I j))]) (st' := [.ref o, .int (vl_I e), .ref (o + 1)]) rfl Kz) ?_
  refine jv_Wp.lift (fun _ Kz => jv_Ev.m jv_i132 (pc' := 21) (st' := [.int (vl_I ks), .int (vl_I e), .ref (o + 1)]) (G' := (jv_H K I L R)) rfl rfl (jv_m_getI hK0 rfl rfl e1) Kz) ?_
  refine jv_Wp.lift (fun _ Kz => jv_Ev.steps jv_i132 3 (pc' := 25) (l' := [(0, .ref o), (1, .int (vl_I e)), (2, .ref r), (3, .int (vl_I a)), (4, .int (vl_I j))]) (st' := [.int (((vl_I e) * (vl_I ks)) + (vl_I j)), .ref (o + 1)]) rfl Kz) ?_
  refine jv_Wp.lift (fun _ Kz => jv_Ev.m jv_i132 (pc' := 26) (st' := [.int (I (o + 1) (e * ks + j))]) (G' := (jv_H K I L R)) rfl rfl (jv_m_baldv hK1 rfl (by rw [show ((vl_I e) * (vl_I ks)) + (vl_I j) = vl_I (e * ks + j) from vi_a2 (vi_m2 rfl rfl rfl) rfl rfl]; exact vl_I_ix hix (by omega)) rfl ((congrArg (I (o + 1)) (show (((vl_I e) * (vl_I ks)) + (vl_I j)).toNatClampNeg = e * ks + j from by rw [show (((vl_I e) * (vl_I ks)) + (vl_I j)) = vl_I (e * ks + j) from (vi_a2 (vi_m2 rfl rfl rfl) rfl rfl)]; exact vl_I_nat (by omega))).trans rfl)) Kz) ?_
  refine jv_Wp.lift (fun _ Kz => jv_Ev.steps jv_i132 4 (pc' := 31) (l' := [(0, .ref o), (1, .int (vl_I e)), (2, .ref r), (3, .int (vl_I a)), (4, .int (vl_I j))]) (st' := [.int ((vl_I a) + (vl_I j)), .ref r, .int (I (o + 1) (e * ks + j))]) rfl Kz) ?_
  refine jv_Wp.lift (fun _ Kz => jv_Ev.m jv_i132 (pc' := 32) (st' := [.int (I r (a + j)), .int (I (o + 1) (e * ks + j))]) (G' := (jv_H K I L R)) rfl rfl (jv_m_baldv hKr rfl (by rw [vl_I_add]; exact vl_I_ix (by omega) (by omega)) rfl ((congrArg (I r) (show ((vl_I a) + (vl_I j)).toNatClampNeg = a + j from by rw [show ((vl_I a) + (vl_I j)) = vl_I (a + j) from (vi_a2 rfl rfl rfl)]; exact vl_I_nat (by omega))).trans rfl)) Kz) ?_
  refine jv_Wp.cnd jv_i132 (pt := 37) (pe := 35) (p := ((I (o + 1) (e * ks + j)) = (I r (a + j)))) (q := ((I (o + 1) (e * ks + j)) = (I r (a + j)))) rfl jv_bc_eq rfl rfl Iff.rfl (fun h1 => ?_) (fun h1 => ?_)
  · refine jv_Wp.lift (fun _ Kz => jv_Ev.steps jv_i132 2 (pc' := 3) (l' := [(4, .int ((vl_I j) + Int32.ofInt 1)), (0, .ref o), (1, .int (vl_I e)), (2, .ref r), (3, .int (vl_I a))]) (st' := []) rfl Kz) ?_
    refine jv_Wp.loc (l := [(0, .ref o), (1, .int (vl_I e)), (2, .ref r), (3, .int (vl_I a)), (4, .int ((vl_I j) + Int32.ofInt 1))]) ⟨List.forall_mem_cons.mpr ⟨.tail _ (.head _), List.forall_mem_cons.mpr ⟨.tail _ (.tail _ (.head _)), List.forall_mem_cons.mpr ⟨.tail _ (.tail _ (.tail _ (.head _))), List.forall_mem_cons.mpr ⟨.tail _ (.tail _ (.tail _ (.tail _ (.head _)))), List.forall_mem_cons.mpr ⟨.head _, fun _ h => absurd h List.not_mem_nil⟩⟩⟩⟩⟩, by show List.Nodup [4, 0, 1, 2, 3]; decide⟩ ?_
    rw [vk_p1 j]
    refine cont ?_
    have h := h1
    rw [(hky e j he hj).1, (hB j hj).1] at h
    exact vl_sb_inj (hky e j he hj).2 (hB j hj).2 h
  · refine jv_Wp.lift (fun _ Kz => jv_Ev.steps jv_i132 1 (pc' := 36) (l' := [(0, .ref o), (1, .int (vl_I e)), (2, .ref r), (3, .int (vl_I a)), (4, .int (vl_I j))]) (st' := [.int (0 : Int32)]) rfl Kz) ?_
    refine jv_Wp.of (jv_Ev.ret jv_i132 rfl (jv_ret_b (Or.inl rfl))) ?_
    refine hno (fun z => ?_)
    exact h1 (by rw [(hky e j he hj).1, (hB j hj).1, z])
theorem vk_haskey_e {K : Nat → Option (Nat × Nat)} {I : Nat → Nat → Int32} {L : Nat → Nat → Int64} {R : Nat → Nat → Value} {o ks en ch r len a e : Nat} {B : Nat → Nat} {ky : Nat → Nat → Nat} (hT : vk_TW K R o ks en ch) (e1 : I o 1 = vl_I ks) (hky : ∀ e j, e < en → j < ks → I (o + 1) (e * ks + j) = vl_sb (ky e j) ∧ ky e j < 256) (he : e < en) (hKr : K r = some (101, len)) (hlen : len < 2147483648) (ha : a + ks ≤ len) (hB : vk_by I r a ks B) {n sl : Nat} {Q : jv_R → Prop} (hQ : Q (some (.int (1 : Int32)), jv_H K I L R, n, sl)) : jv_Wp 132 3 [(0, .ref o), (1, .int (vl_I e)), (2, .ref r), (3, .int (vl_I a)), (4, .int (vl_I ks))] [] (jv_H K I L R) n sl Q := by
  obtain ⟨hK0, hK1, hK2, hK3, hK4, hR7, hR8, hR9, hR10, hks, hen, hch⟩ := id hT
  refine jv_Wp.lift (fun _ Kz => jv_Ev.steps jv_i132 2 (pc' := 6) (l' := [(0, .ref o), (1, .int (vl_I e)), (2, .ref r), (3, .int (vl_I a)), (4, .int (vl_I ks))]) (st' := [.ref o, .int (vl_I ks)]) rfl Kz) ?_
  refine jv_Wp.lift (fun _ Kz => jv_Ev.m jv_i132 (pc' := 9) (st' := [.int (vl_I ks), .int (vl_I ks)]) (G' := (jv_H K I L R)) rfl rfl (jv_m_getI hK0 rfl rfl e1) Kz) ?_
  refine jv_Wp.cnd jv_i132 (pt := 43) (pe := 12) (p := ((vl_I ks) ≤ (vl_I ks))) (q := ((vl_I ks) ≤ (vl_I ks))) rfl jv_bc_ge rfl rfl Iff.rfl (fun _ => ?_) (fun hz => absurd ((vl_I_le (by omega) (by omega)).mpr (Nat.le_refl ks)) hz)
  refine jv_Wp.lift (fun _ Kz => jv_Ev.steps jv_i132 1 (pc' := 44) (l' := [(0, .ref o), (1, .int (vl_I e)), (2, .ref r), (3, .int (vl_I a)), (4, .int (vl_I ks))]) (st' := [.int (1 : Int32)]) rfl Kz) ?_
  refine jv_Wp.of (jv_Ev.ret jv_i132 rfl (jv_ret_b (Or.inr rfl))) ?_
  exact hQ
theorem vk_haskey_l {K : Nat → Option (Nat × Nat)} {I : Nat → Nat → Int32} {L : Nat → Nat → Int64} {R : Nat → Nat → Value} {o ks en ch r len a e : Nat} {B : Nat → Nat} {ky : Nat → Nat → Nat} (hT : vk_TW K R o ks en ch) (e1 : I o 1 = vl_I ks) (hky : ∀ e j, e < en → j < ks → I (o + 1) (e * ks + j) = vl_sb (ky e j) ∧ ky e j < 256) (he : e < en) (hKr : K r = some (101, len)) (hlen : len < 2147483648) (ha : a + ks ≤ len) (hB : vk_by I r a ks B) {n sl : Nat} {Q : jv_R → Prop} (hQ : Q (some (.int (vr_b (vk_eq (ky e) B ks))), jv_H K I L R, n, sl)) : ∀ d j, j + d = ks → (∀ i, i < j → ky e i = B i) → jv_Wp 132 3 [(0, .ref o), (1, .int (vl_I e)), (2, .ref r), (3, .int (vl_I a)), (4, .int (vl_I j))] [] (jv_H K I L R) n sl Q
  | 0, j, g, p => by
    have g : j = ks := g
    subst g
    rw [vk_eq_t.mpr p] at hQ
    exact vk_haskey_e hT e1 hky he hKr hlen ha hB hQ
  | d + 1, j, g, p => vk_haskey_t hT e1 hky he hKr hlen ha hB (by omega) (fun z => vk_haskey_l hT e1 hky he hKr hlen ha hB hQ d (j + 1) (by omega) (fun i hi => by
      by_cases c : i = j
      · rw [c]; exact z
      · exact p i (by omega))) (fun z => by
      have f : vk_eq (ky e) B ks = false := by
        cases q : vk_eq (ky e) B ks with
        | false => rfl
        | true => exact absurd (vk_eq_t.mp q j (by omega)) z
      rw [f] at hQ; exact hQ)
theorem vk_haskey_0 {K : Nat → Option (Nat × Nat)} {I : Nat → Nat → Int32} {L : Nat → Nat → Int64} {R : Nat → Nat → Value} {o ks en ch r len a e : Nat} {B : Nat → Nat} {ky : Nat → Nat → Nat} (hT : vk_TW K R o ks en ch) (e1 : I o 1 = vl_I ks) (hky : ∀ e j, e < en → j < ks → I (o + 1) (e * ks + j) = vl_sb (ky e j) ∧ ky e j < 256) (he : e < en) (hKr : K r = some (101, len)) (hlen : len < 2147483648) (ha : a + ks ≤ len) (hB : vk_by I r a ks B) {n sl : Nat} {Q : jv_R → Prop} (cont : jv_Wp 132 3 [(0, .ref o), (1, .int (vl_I e)), (2, .ref r), (3, .int (vl_I a)), (4, .int (0 : Int32))] [] (jv_H K I L R) n sl Q) : jv_Wp 132 0 [(0, .ref o), (1, .int (vl_I e)), (2, .ref r), (3, .int (vl_I a))] [] (jv_H K I L R) n sl Q := by
  obtain ⟨hK0, hK1, hK2, hK3, hK4, hR7, hR8, hR9, hR10, hks, hen, hch⟩ := id hT
  refine jv_Wp.lift (fun _ Kz => jv_Ev.steps jv_i132 2 (pc' := 3) (l' := [(4, .int (0 : Int32)), (0, .ref o), (1, .int (vl_I e)), (2, .ref r), (3, .int (vl_I a))]) (st' := []) rfl Kz) ?_
  refine jv_Wp.loc (l := [(0, .ref o), (1, .int (vl_I e)), (2, .ref r), (3, .int (vl_I a)), (4, .int (0 : Int32))]) ⟨List.forall_mem_cons.mpr ⟨.tail _ (.head _), List.forall_mem_cons.mpr ⟨.tail _ (.tail _ (.head _)), List.forall_mem_cons.mpr ⟨.tail _ (.tail _ (.tail _ (.head _))), List.forall_mem_cons.mpr ⟨.tail _ (.tail _ (.tail _ (.tail _ (.head _)))), List.forall_mem_cons.mpr ⟨.head _, fun _ h => absurd h List.not_mem_nil⟩⟩⟩⟩⟩, by show List.Nodup [4, 0, 1, 2, 3]; decide⟩ ?_
  exact cont
theorem vk_hasKey {K : Nat → Option (Nat × Nat)} {I : Nat → Nat → Int32} {L : Nat → Nat → Int64} {R : Nat → Nat → Value} {o ks en ch r len a e : Nat} {B : Nat → Nat} {ky : Nat → Nat → Nat} (hT : vk_TW K R o ks en ch) (e1 : I o 1 = vl_I ks) (hky : ∀ e j, e < en → j < ks → I (o + 1) (e * ks + j) = vl_sb (ky e j) ∧ ky e j < 256) (he : e < en) (hKr : K r = some (101, len)) (hlen : len < 2147483648) (ha : a + ks ≤ len) (hB : vk_by I r a ks B) {n sl : Nat} : jv_Ms 132 [.ref o, .int (vl_I e), .ref r, .int (vl_I a)] (jv_H K I L R) n sl (some (.int (vr_b (vk_eq (ky e) B ks))), jv_H K I L R, n, sl) := by
  have k := vk_haskey_l (n := n) (sl := sl) (L := L) (Q := fun X => X = (some (.int (vr_b (vk_eq (ky e) B ks))), jv_H K I L R, n, sl)) hT e1 hky he hKr hlen ha hB rfl ks 0 (Nat.zero_add ks) (fun i hi => absurd hi (Nat.not_lt_zero i))
  obtain ⟨X, k, e⟩ := vk_haskey_0 hT e1 hky he hKr hlen ha hB k
  subst e
  exact k