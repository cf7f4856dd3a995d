/-! part g06: rings of the class: places, writing, reading (gen/tg06.py) -/
theorem vm_J_add (a b : Nat) : vm_J a + vm_J b = vm_J (a + b) := Int64.toBitVec_inj.mp (BitVec.ofNat_add a b).symm
theorem vm_J_sub {a b : Nat} (h : b ≤ a) : vm_J a - vm_J b = vm_J (a - b) := by
  have e : vm_J (a - b) + vm_J b = vm_J a := by rw [vm_J_add]; congr 1; omega
  rw [← e]
  refine Int64.toBitVec_inj.mp ?_
  rw [Int64.toBitVec_sub, Int64.toBitVec_add]
  exact BitVec.add_sub_cancel _ _
theorem vm_J_i {a : Nat} (h : a < 9223372036854775808) : (vm_J a).toInt = (a : Int) := by
  show (BitVec.ofNat 64 a).toInt = _
  rw [BitVec.toInt_eq_toNat_cond, BitVec.toNat_ofNat, Nat.mod_eq_of_lt (by omega), if_pos (by omega)]
theorem vm_J_le {a b : Nat} (ha : a < 9223372036854775808) (hb : b < 9223372036854775808) : (vm_J a ≤ vm_J b) ↔ a ≤ b := by rw [Int64.le_iff_toInt_le, vm_J_i ha, vm_J_i hb]; omega
theorem vm_J_lt {a b : Nat} (ha : a < 9223372036854775808) (hb : b < 9223372036854775808) : (vm_J a < vm_J b) ↔ a < b := by rw [Int64.lt_iff_toInt_lt, vm_J_i ha, vm_J_i hb]; omega
theorem vm_J_inj {a b : Nat} (ha : a < 9223372036854775808) (hb : b < 9223372036854775808) : (vm_J a = vm_J b) ↔ a = b := by rw [← Int64.toInt_inj, vm_J_i ha, vm_J_i hb]; omega
theorem vm_J_I {x : Nat} (h : x < 2147483648) : (vl_I x).toInt64 = vm_J x := Int64.toInt_inj.mp (by rw [Int32.toInt_toInt64, vl_I_i h, vm_J_i (by omega)])
theorem vm_J_nx {c k : Nat} (h : k < 2147483648) : vm_J c + (vl_I k).toInt64 = vm_J (c + k) := by rw [vm_J_I h, vm_J_add]
theorem vm_J_32 {x : Nat} (h : x < 2147483648) : (vm_J x).toInt32 = vl_I x := Int32.toInt_inj.mp (by rw [Int64.toInt_toInt32, vm_J_i (by omega), vl_I_i h, Int.bmod_def]; split <;> omega)
/-- a count's place in a ring of 2 ^ t bytes -/
theorem vk_spot {C t m : Nat} (hm : m = 2 ^ t) (h1 : m ≤ 16384) (h2 : C < 9223372036854775808) : (vm_J C &&& ((vl_I m) - (1 : Int32)).toInt64).toInt32 = vl_I (C % m) := by
  have hp : 0 < m := by rw [hm]; exact Nat.two_pow_pos t
  have e : (vl_I m) - (1 : Int32) = vl_I (m - 1) := vi_s2 (x := m) (z := 1) rfl rfl (by omega) rfl
  rw [e, vm_J_I (by omega)]
  have f : vm_J C &&& vm_J (m - 1) = vm_J (C % m) := by
    refine Int64.toBitVec_inj.mp (BitVec.eq_of_toNat_eq ?_)
    have hl : C % m < m := Nat.mod_lt _ hp
    rw [Int64.toBitVec_and, BitVec.toNat_and, vm_J_nat (by omega), vm_J_nat (by omega), vm_J_nat (by omega), hm, Nat.and_two_pow_sub_one_eq_mod]
  rw [f]
  exact vm_J_32 (by have := Nat.mod_lt C hp; omega)
/-- a ring's cell: it begins at st and has m bytes -/
def vk_RW (K : Nat → Option (Nat × Nat)) (I : Nat → Nat → Int32) (R : Nat → Nat → Value) (o st m : Nat) : Prop := K o = some (4, 11) ∧ K 6 = some (101, 65536) ∧ R o 4 = .ref 6 ∧ I o 3 = vl_I m ∧ I o 5 = vl_I st ∧ (64 ≤ m ∧ m ≤ 16384 ∧ st + m ≤ 65536) ∧ ∃ t, m = 2 ^ t
theorem vk_RW_eq {K : Nat → Option (Nat × Nat)} {I I1 : Nat → Nat → Int32} {R : Nat → Nat → Value} {o st m : Nat} (h : vk_RW K I R o st m) (a : I1 o 3 = I o 3) (b : I1 o 5 = I o 5) : vk_RW K I1 R o st m := ⟨h.1, h.2.1, h.2.2.1, a.trans h.2.2.2.1, b.trans h.2.2.2.2.1, h.2.2.2.2.2⟩
theorem vk_ring_o {α : Type} {A : Nat → Nat → α} {r b m c : Nat} {f : Nat → α} : ∀ (n : Nat) {q i : Nat}, q ≠ r → vm_ring A r b m c f n q i = A q i
  | 0, _, _, _ => rfl
  | n + 1, q, i, h => (jv_u_o _ _ _ _ h).trans (vk_ring_o n h)
theorem vk_ring_r {α : Type} {A : Nat → Nat → α} {r b m c : Nat} {f : Nat → α} (hm : 0 < m) : ∀ (n : Nat) {i : Nat}, ¬ (b ≤ i ∧ i < b + m) → vm_ring A r b m c f n r i = A r i
  | 0, _, _ => rfl
  | n + 1, i, h => by
    have := Nat.mod_lt (c + n) hm
    exact (jv_u_j _ _ _ _ (by omega)).trans (vk_ring_r hm n h)
theorem vk_ring_e {α : Type} {A : Nat → Nat → α} {r b m c : Nat} {f h : Nat → α} : ∀ n, (∀ j, j < n → h j = f j) → vm_ring A r b m c f n = vm_ring A r b m c h n
  | 0, _ => rfl
  | n + 1, y => by
    show jv_u (vm_ring A r b m c f n) r (b + (c + n) % m) (f n) = jv_u (vm_ring A r b m c h n) r (b + (c + n) % m) (h n)
    rw [vk_ring_e n (fun j hj => y j (by omega)), y n (by omega)]
/-- two runs of cells, one behind the other -/
theorem vk_ring_2 {α : Type} {A : Nat → Nat → α} {r b m c n : Nat} {f g h : Nat → α} (h1 : ∀ j, j < n → h j = f j) : ∀ k, (∀ j, j < k → h (n + j) = g j) → vm_ring (vm_ring A r b m c f n) r b m (c + n) g k = vm_ring A r b m c h (n + k)
  | 0, _ => vk_ring_e n h1
  | k + 1, h2 => by
    show jv_u _ r (b + (c + n + k) % m) (g k) = jv_u (vm_ring A r b m c h (n + k)) r (b + (c + (n + k)) % m) (h (n + k))
    rw [vk_ring_2 h1 k (fun j hj => h2 j (by omega)), h2 k (by omega), Nat.add_assoc c n k]
theorem vk_o6 {K : Nat → Option (Nat × Nat)} {I : Nat → Nat → Int32} {R : Nat → Nat → Value} {o st m : Nat} (h : vk_RW K I R o st m) : o ≠ 6 := fun z => by
  have a := h.1
  rw [z, h.2.1] at a
  exact absurd (congrArg Prod.fst (Option.some.inj a)) (by decide)
theorem jv_i101 : jv_I 101 3 (some .int) 0 0 jv_c101 := ⟨rfl, rfl, rfl, rfl, rfl⟩
theorem vk_spot_0 {K : Nat → Option (Nat × Nat)} {I : Nat → Nat → Int32} {L : Nat → Nat → Int64} {R : Nat → Nat → Value} {o st m : Nat} (hT : vk_RW K I R o st m) {c : Int64} {C : Nat} (hc : c = vm_J C) (hC : C < 4611686018427387904) {n sl : Nat} {Q : jv_R → Prop} (hQ : Q (some (.int (vl_I (st + C % m))), jv_H K I L R, n, sl)) : jv_Wp 101 0 [(0, .ref o), (1, .long c)] [] (jv_H K I L R) n sl Q := by
  obtain ⟨hK0, hK6, hR4, e3, e5, hst, t, ht⟩ := id hT
  refine jv_Wp.lift (fun _ Kz => jv_Ev.steps jv_i101 1 (pc' := 1) (l' := [(0, .ref o), (1, .long c)]) (st' := [.ref o]) rfl Kz) ?_
  refine jv_Wp.lift (fun _ Kz => jv_Ev.m jv_i101 (pc' := 4) (st' := [.int (vl_I st)]) (G' := (jv_H K I L R)) rfl rfl (jv_m_getI hK0 rfl rfl e5) Kz) ?_
  refine jv_Wp.lift (fun _ Kz => jv_Ev.steps jv_i101 2 (pc' := 6) (l' := [(0, .ref o), (1, .long c)]) (st' := [.ref o, .long c, .int (vl_I st)]) rfl Kz) ?_
  refine jv_Wp.lift (fun _ Kz => jv_Ev.m jv_i101 (pc' := 9) (st' := [.int (vl_I m), .long c, .int (vl_I st)]) (G' := (jv_H K I L R)) rfl rfl (jv_m_getI hK0 rfl rfl e3) Kz) ?_
  refine jv_Wp.lift (fun _ Kz => jv_Ev.steps jv_i101 6 (pc' := 15) (l' := [(0, .ref o), (1, .long c)]) (st' := [.int ((vl_I st) + (c &&& ((vl_I m) - (1 : Int32)).toInt64).toInt32)]) rfl Kz) ?_
  refine jv_Wp.of (jv_Ev.ret jv_i101 rfl rfl) ?_
  rw [hc, vk_spot ht (by omega) (by omega), vl_I_add]
  exact hQ
theorem vk_spotM {K : Nat → Option (Nat × Nat)} {I : Nat → Nat → Int32} {L : Nat → Nat → Int64} {R : Nat → Nat → Value} {o st m : Nat} (hT : vk_RW K I R o st m) {c : Int64} {C : Nat} (hc : c = vm_J C) (hC : C < 4611686018427387904) {n sl : Nat} : jv_Ms 101 [.ref o, .long c] (jv_H K I L R) n sl (some (.int (vl_I (st + C % m))), jv_H K I L R, n, sl) := by
  obtain ⟨X, k, e⟩ := vk_spot_0 (n := n) (sl := sl) (L := L) (Q := fun X => X = (some (.int (vl_I (st + C % m))), jv_H K I L R, n, sl)) hT hc hC rfl
  subst e
  exact k
theorem jv_i102 : jv_I 102 6 none 1 22 jv_c102 := ⟨rfl, rfl, rfl, rfl, rfl⟩
theorem vk_rwr_t {K : Nat → Option (Nat × Nat)} {I : Nat → Nat → Int32} {L : Nat → Nat → Int64} {R : Nat → Nat → Value} {o st m : Nat} (hT : vk_RW K I R o st m) {c : Int64} {C : Nat} (hc : c = vm_J C) (hC : C < 2305843009213693952) {w : Nat} {v : Int32} {f : Nat → Nat} (h8 : w ≤ 8) (hv : ∀ k, k < w → (v >>> (((8 : Int32) * (vl_I k)) &&& 31)).toInt8.toInt32 = vl_sb (f k)) (hf : ∀ k, k < w → f k < 256) {n sl : Nat} {Q : jv_R → Prop} {k : Nat} (hk : k < w) (cont : jv_Wp 102 3 [(0, .ref o), (1, .long c), (3, .int (vl_I w)), (4, .int v), (5, .int (vl_I (k + 1)))] [] (jv_H K (jv_u I 6 (st + (C + k) % m) (vl_sb (f k))) L R) n sl Q) : jv_Wp 102 3 [(0, .ref o), (1, .long c), (3, .int (vl_I w)), (4, .int v), (5, .int (vl_I k))] [] (jv_H K I L R) n sl Q := by
  obtain ⟨hK0, hK6, hR4, e3, e5, hst, t, ht⟩ := id hT
  have hmd := Nat.mod_lt (C + k) (show 0 < m by omega)
  have hSP := vk_spotM (n := n) (sl := sl) (L := L) hT (c := c + (vl_I k).toInt64) (C := C + k) (by rw [hc]; exact vm_J_nx (by omega)) (by omega)
  refine jv_Wp.lift (fun _ Kz => jv_Ev.steps jv_i102 2 (pc' := 6) (l' := [(0, .ref o), (1, .long c), (3, .int (vl_I w)), (4, .int v), (5, .int (vl_I k))]) (st' := [.int (vl_I w), .int (vl_I k)]) rfl Kz) ?_
  refine jv_Wp.cnd jv_i102 (pt := 38) (pe := 9) (p := ((vl_I w) ≤ (vl_I k))) (q := ((vl_I w) ≤ (vl_I k))) rfl jv_bc_ge rfl rfl Iff.rfl (fun hz => absurd hz (fun z => absurd ((vl_I_le (by omega) (by omega)).mp z) (by omega))) (fun _ => ?_)
  refine jv_Wp.lift (fun _ Kz => jv_Ev.steps jv_i102 1 (pc' := 10) (l' := [(0, .ref o), (1, .long c), (3, .int (vl_I w)), (4, .int v), (5, .int (vl_I k))]) (st' := [.ref o]) rfl Kz) ?_
  refine jv_Wp.lift (fun _ Kz => jv_Ev.m jv_i102 (pc' := 13) (st' := [.ref 6]) (G' := (jv_H K I L R)) rfl rfl (jv_m_getR hK0 rfl rfl hR4) Kz) ?_
  refine jv_Wp.lift (fun _ Kz => jv_Ev.steps jv_i102 5 (pc' := 19) (l' := [(0, .ref o), (1, .long c), (3, .int (vl_I w)), (4, .int v), (5, .int (vl_I k))]) (st' := [.long (c + (vl_I k).toInt64), .ref o, .ref 6]) rfl Kz) ?_
  refine jv_Wp.lift (fun _ Kz => jv_Ev.c jv_i102 (pc' := 22) (S' := [.int (vl_I (st + (C + k) % m)), .ref 6]) jv_i101 [.ref o, .long (c + (vl_I k).toInt64)] rfl rfl rfl rfl (jv_cal rfl (jv_H_at hK0) rfl rfl) rfl hSP rfl rfl Kz) ?_
  refine jv_Wp.lift (fun _ Kz => jv_Ev.steps jv_i102 6 (pc' := 31) (l' := [(0, .ref o), (1, .long c), (3, .int (vl_I w)), (4, .int v), (5, .int (vl_I k))]) (st' := [.int (v >>> (((8 : Int32) * (vl_I k)) &&& 31)).toInt8.toInt32, .int (vl_I (st + (C + k) % m)), .ref 6]) rfl Kz) ?_
  refine jv_Wp.lift (fun _ Kz => jv_Ev.m jv_i102 (pc' := 32) (st' := []) (G' := (jv_H K (jv_u I 6 (st + (C + k) % m) (v >>> (((8 : Int32) * (vl_I k)) &&& 31)).toInt8.toInt32.toInt8.toInt32) L R)) rfl rfl (by rw [jv_m_bast hK6 (vl_I_ix (by omega) (by decide)), (vl_I_nat (by omega))]) Kz) ?_
  refine jv_Wp.lift (fun _ Kz => jv_Ev.steps jv_i102 2 (pc' := 3) (l' := [(5, .int ((vl_I k) + Int32.ofInt 1)), (0, .ref o), (1, .long c), (3, .int (vl_I w)), (4, .int v)]) (st' := []) rfl Kz) ?_
  refine jv_Wp.loc (l := [(0, .ref o), (1, .long c), (3, .int (vl_I w)), (4, .int v), (5, .int ((vl_I k) + Int32.ofInt 1))]) ⟨List.forall_mem_cons.mpr ⟨.tail _ (.head _), List.forall_mem_cons.mpr ⟨.tail _ (.tail _ (.head _)), List.forall_mem_cons.mpr ⟨.tail _ (.tail _ (.tail _ (.head _))), List.forall_mem_cons.mpr ⟨.tail _ (.tail _ (.tail _ (.tail _ (.head _)))), List.forall_mem_cons.mpr ⟨.head _, fun _ h => absurd h List.not_mem_nil⟩⟩⟩⟩⟩, by show List.Nodup [5, 0, 1, 3, 4]; decide⟩ ?_
  rw [show (v >>> (((8 : Int32) * (vl_I k)) &&& 31)).toInt8.toInt32.toInt8.toInt32 = vl_sb (f k) from by rw [hv k hk, vl_sb_sb (hf k hk)], vk_p1 k]
  exact cont
theorem vk_rwr_e {K : Nat → Option (Nat × Nat)} {I : Nat → Nat → Int32} {L : Nat → Nat → Int64} {R : Nat → Nat → Value} {o st m : Nat} (hT : vk_RW K I R o st m) {c : Int64} {C : Nat} (hc : c = vm_J C) (hC : C < 2305843009213693952) {w : Nat} {v : Int32} {f : Nat → Nat} (h8 : w ≤ 8) (hv : ∀ k, k < w → (v >>> (((8 : Int32) * (vl_I k)) &&& 31)).toInt8.toInt32 = vl_sb (f k)) (hf : ∀ k, k < w → f k < 256) {n sl : Nat} {Q : jv_R → Prop} (hQ : Q (none, jv_H K I L R, n, sl)) : jv_Wp 102 3 [(0, .ref o), (1, .long c), (3, .int (vl_I w)), (4, .int v), (5, .int (vl_I w))] [] (jv_H K I L R) n sl Q := by
  obtain ⟨hK0, hK6, hR4, e3, e5, hst, t, ht⟩ := id hT
  refine jv_Wp.lift (fun _ Kz => jv_Ev.steps jv_i102 2 (pc' := 6) (l' := [(0, .ref o), (1, .long c), (3, .int (vl_I w)), (4, .int v), (5, .int (vl_I w))]) (st' := [.int (vl_I w), .int (vl_I w)]) rfl Kz) ?_
  refine jv_Wp.cnd jv_i102 (pt := 38) (pe := 9) (p := ((vl_I w) ≤ (vl_I w))) (q := ((vl_I w) ≤ (vl_I w))) rfl jv_bc_ge rfl rfl Iff.rfl (fun _ => ?_) (fun hz => absurd ((vl_I_le (by omega) (by omega)).mpr (by omega)) hz)
  refine jv_Wp.of (jv_Ev.ret jv_i102 rfl rfl) ?_
  exact hQ
theorem vk_rwr_l {K : Nat → Option (Nat × Nat)} {I : Nat → Nat → Int32} {L : Nat → Nat → Int64} {R : Nat → Nat → Value} {o st m : Nat} (hT : vk_RW K I R o st m) {c : Int64} {C : Nat} (hc : c = vm_J C) (hC : C < 2305843009213693952) {w : Nat} {v : Int32} {f : Nat → Nat} (h8 : w ≤ 8) (hv : ∀ k, k < w → (v >>> (((8 : Int32) * (vl_I k)) &&& 31)).toInt8.toInt32 = vl_sb (f k)) (hf : ∀ k, k < w → f k < 256) {n sl : Nat} {Q : jv_R → Prop} (hQ : Q (none, jv_H K (vm_ring I 6 st m C (fun j => vl_sb (f j)) w) L R, n, sl)) : ∀ d k, k + d = w → jv_Wp 102 3 [(0, .ref o), (1, .long c), (3, .int (vl_I w)), (4, .int v), (5, .int (vl_I k))] [] (jv_H K (vm_ring I 6 st m C (fun j => vl_sb (f j)) k) L R) n sl Q
  | 0, k, g => by
    have g : k = w := g
    subst g
    exact vk_rwr_e (vk_RW_eq hT (vk_ring_o _ (vk_o6 hT)) (vk_ring_o _ (vk_o6 hT))) hc hC h8 hv hf hQ
  | d + 1, k, g => vk_rwr_t (vk_RW_eq hT (vk_ring_o _ (vk_o6 hT)) (vk_ring_o _ (vk_o6 hT))) hc hC h8 hv hf (by omega) (vk_rwr_l hT hc hC h8 hv hf hQ d (k + 1) (by omega))
theorem vk_rwr_0 {K : Nat → Option (Nat × Nat)} {I : Nat → Nat → Int32} {L : Nat → Nat → Int64} {R : Nat → Nat → Value} {o st m : Nat} (hT : vk_RW K I R o st m) {c : Int64} {C : Nat} (hc : c = vm_J C) (hC : C < 2305843009213693952) {w : Nat} {v : Int32} {f : Nat → Nat} (h8 : w ≤ 8) (hv : ∀ k, k < w → (v >>> (((8 : Int32) * (vl_I k)) &&& 31)).toInt8.toInt32 = vl_sb (f k)) (hf : ∀ k, k < w → f k < 256) {n sl : Nat} {Q : jv_R → Prop} (cont : jv_Wp 102 3 [(0, .ref o), (1, .long c), (3, .int (vl_I w)), (4, .int v), (5, .int (0 : Int32))] [] (jv_H K I L R) n sl Q) : jv_Wp 102 0 [(0, .ref o), (1, .long c), (3, .int (vl_I w)), (4, .int v)] [] (jv_H K I L R) n sl Q := by
  obtain ⟨hK0, hK6, hR4, e3, e5, hst, t, ht⟩ := id hT
  refine jv_Wp.lift (fun _ Kz => jv_Ev.steps jv_i102 2 (pc' := 3) (l' := [(5, .int (0 : Int32)), (0, .ref o), (1, .long c), (3, .int (vl_I w)), (4, .int v)]) (st' := []) rfl Kz) ?_
  refine jv_Wp.loc (l := [(0, .ref o), (1, .long c), (3, .int (vl_I w)), (4, .int v), (5, .int (0 : Int32))]) ⟨List.forall_mem_cons.mpr ⟨.tail _ (.head _), List.forall_mem_cons.mpr ⟨.tail _ (.tail _ (.head _)), List.forall_mem_cons.mpr ⟨.tail _ (.tail _ (.tail _ (.head _))), List.forall_mem_cons.mpr ⟨.tail _ (.tail _ (.tail _ (.tail _ (.head _)))), List.forall_mem_cons.mpr ⟨.head _, fun _ h => absurd h List.not_mem_nil⟩⟩⟩⟩⟩, by show List.Nodup [5, 0, 1, 3, 4]; decide⟩ ?_
  exact cont
theorem vk_rwrite {K : Nat → Option (Nat × Nat)} {I : Nat → Nat → Int32} {L : Nat → Nat → Int64} {R : Nat → Nat → Value} {o st m : Nat} (hT : vk_RW K I R o st m) {c : Int64} {C : Nat} (hc : c = vm_J C) (hC : C < 2305843009213693952) {w : Nat} {v : Int32} {f : Nat → Nat} (h8 : w ≤ 8) (hv : ∀ k, k < w → (v >>> (((8 : Int32) * (vl_I k)) &&& 31)).toInt8.toInt32 = vl_sb (f k)) (hf : ∀ k, k < w → f k < 256) {n sl : Nat} : jv_Ms 102 [.ref o, .long c, .int (vl_I w), .int v] (jv_H K I L R) n sl (none, jv_H K (vm_ring I 6 st m C (fun j => vl_sb (f j)) w) L R, n, sl) := by
  have k := vk_rwr_l (n := n) (sl := sl) (L := L) (Q := fun X => X = (none, jv_H K (vm_ring I 6 st m C (fun j => vl_sb (f j)) w) L R, n, sl)) hT hc hC h8 hv hf rfl w 0 (Nat.zero_add w)
  obtain ⟨X, k, e⟩ := vk_rwr_0 hT hc hC h8 hv hf k
  subst e
  exact k
theorem jv_i103 : jv_I 103 5 (some .int) 1 22 jv_c103 := ⟨rfl, rfl, rfl, rfl, rfl⟩
theorem vk_siz_t {K : Nat → Option (Nat × Nat)} {I : Nat → Nat → Int32} {L : Nat → Nat → Int64} {R : Nat → Nat → Value} {o st m : Nat} (hT : vk_RW K I R o st m) {c : Int64} {C : Nat} (hc : c = vm_J C) (hC : C < 2305843009213693952) {B : Nat → Nat} (hB : ∀ j, j < 4 → I 6 (st + (C + j) % m) = vl_sb (B j) ∧ B j < 256) {n sl : Nat} {Q : jv_R → Prop} {k : Nat} (hk : k < 4) {v : Int32} {x : Nat} (hv : v = vl_I x) (hx : x * 256 + 256 ≤ 4294967296) (cont : jv_Wp 103 5 [(0, .ref o), (1, .long c), (3, .int (vl_I (x * 256 + B k))), (4, .int (vl_I k + Int32.ofInt (-1)))] [] (jv_H K I L R) n sl Q) : jv_Wp 103 5 [(0, .ref o), (1, .long c), (3, .int v), (4, .int (vl_I k))] [] (jv_H K I L R) n sl Q := by
  obtain ⟨hK0, hK6, hR4, e3, e5, hst, t, ht⟩ := id hT
  have hmd := Nat.mod_lt (C + k) (show 0 < m by omega)
  have hb := hB k hk
  have hSP := vk_spotM (n := n) (sl := sl) (L := L) hT (c := c + (vl_I k).toInt64) (C := C + k) (by rw [hc]; exact vm_J_nx (by omega)) (by omega)
  refine jv_Wp.lift (fun _ Kz => jv_Ev.steps jv_i103 1 (pc' := 7) (l' := [(0, .ref o), (1, .long c), (3, .int v), (4, .int (vl_I k))]) (st' := [.int (vl_I k)]) rfl Kz) ?_
  refine jv_Wp.cnd jv_i103 (pt := 40) (pe := 10) (p := ((vl_I k) < 0)) (q := ((vl_I k) < 0)) rfl jv_bi_lt rfl rfl Iff.rfl (fun hz => absurd hz (vl_I_n0 (by omega))) (fun _ => ?_)
  refine jv_Wp.lift (fun _ Kz => jv_Ev.steps jv_i103 4 (pc' := 15) (l' := [(0, .ref o), (1, .long c), (3, .int v), (4, .int (vl_I k))]) (st' := [.ref o, .int (v <<< ((8 : Int32) &&& 31))]) rfl Kz) ?_
  refine jv_Wp.lift (fun _ Kz => jv_Ev.m jv_i103 (pc' := 18) (st' := [.ref 6, .int (v <<< ((8 : Int32) &&& 31))]) (G' := (jv_H K I L R)) rfl rfl (jv_m_getR hK0 rfl rfl hR4) Kz) ?_
  refine jv_Wp.lift (fun _ Kz => jv_Ev.steps jv_i103 5 (pc' := 24) (l' := [(0, .ref o), (1, .long c), (3, .int v), (4, .int (vl_I k))]) (st' := [.long (c + (vl_I k).toInt64), .ref o, .ref 6, .int (v <<< ((8 : Int32) &&& 31))]) rfl Kz) ?_
  refine jv_Wp.lift (fun _ Kz => jv_Ev.c jv_i103 (pc' := 27) (S' := [.int (vl_I (st + (C + k) % m)), .ref 6, .int (v <<< ((8 : Int32) &&& 31))]) jv_i101 [.ref o, .long (c + (vl_I k).toInt64)] rfl rfl rfl rfl (jv_cal rfl (jv_H_at hK0) rfl rfl) rfl hSP rfl rfl Kz) ?_
  refine jv_Wp.lift (fun _ Kz => jv_Ev.m jv_i103 (pc' := 28) (st' := [.int (I 6 (st + (C + k) % m)), .int (v <<< ((8 : Int32) &&& 31))]) (G' := (jv_H K I L R)) rfl rfl (jv_m_baldv hK6 rfl (vl_I_ix (by omega) (by decide)) rfl ((congrArg (I 6) (vl_I_nat (by omega))).trans rfl)) Kz) ?_
  refine jv_Wp.lift (fun _ Kz => jv_Ev.steps jv_i103 6 (pc' := 5) (l' := [(4, .int ((vl_I k) + Int32.ofInt (-1))), (3, .int ((v <<< ((8 : Int32) &&& 31)) ||| ((I 6 (st + (C + k) % m)) &&& (255 : Int32)))), (0, .ref o), (1, .long c)]) (st' := []) rfl Kz) ?_
  refine jv_Wp.loc (l := [(0, .ref o), (1, .long c), (3, .int ((v <<< ((8 : Int32) &&& 31)) ||| ((I 6 (st + (C + k) % m)) &&& (255 : Int32)))), (4, .int ((vl_I k) + Int32.ofInt (-1)))]) ⟨List.forall_mem_cons.mpr ⟨.tail _ (.tail _ (.head _)), List.forall_mem_cons.mpr ⟨.tail _ (.tail _ (.tail _ (.head _))), List.forall_mem_cons.mpr ⟨.tail _ (.head _), List.forall_mem_cons.mpr ⟨.head _, fun _ h => absurd h List.not_mem_nil⟩⟩⟩⟩, by show List.Nodup [4, 3, 0, 1]; decide⟩ ?_
  rw [hb.1, vl_sb_and hb.2, hv, vi_sh8 hb.2 (by omega)]
  exact cont
theorem vk_siz_e {K : Nat → Option (Nat × Nat)} {I : Nat → Nat → Int32} {L : Nat → Nat → Int64} {R : Nat → Nat → Value} {o st m : Nat} (hT : vk_RW K I R o st m) {c : Int64} {C : Nat} (hc : c = vm_J C) (hC : C < 2305843009213693952) {B : Nat → Nat} (hB : ∀ j, j < 4 → I 6 (st + (C + j) % m) = vl_sb (B j) ∧ B j < 256) {n sl : Nat} {Q : jv_R → Prop} {v : Int32} (hQ : Q (some (.int v), jv_H K I L R, n, sl)) : jv_Wp 103 5 [(0, .ref o), (1, .long c), (3, .int v), (4, .int (-1 : Int32))] [] (jv_H K I L R) n sl Q := by
  obtain ⟨hK0, hK6, hR4, e3, e5, hst, t, ht⟩ := id hT
  refine jv_Wp.lift (fun _ Kz => jv_Ev.steps jv_i103 1 (pc' := 7) (l' := [(0, .ref o), (1, .long c), (3, .int v), (4, .int (-1 : Int32))]) (st' := [.int (-1 : Int32)]) rfl Kz) ?_
  refine jv_Wp.lift (fun _ Kz => jv_Ev.br jv_i103 (pc' := 40) (st' := []) rfl (by rfl) Kz) ?_
  refine jv_Wp.lift (fun _ Kz => jv_Ev.steps jv_i103 1 (pc' := 41) (l' := [(0, .ref o), (1, .long c), (3, .int v), (4, .int (-1 : Int32))]) (st' := [.int v]) rfl Kz) ?_
  refine jv_Wp.of (jv_Ev.ret jv_i103 rfl rfl) ?_
  exact hQ
theorem vk_siz_0 {K : Nat → Option (Nat × Nat)} {I : Nat → Nat → Int32} {L : Nat → Nat → Int64} {R : Nat → Nat → Value} {o st m : Nat} (hT : vk_RW K I R o st m) {c : Int64} {C : Nat} (hc : c = vm_J C) (hC : C < 2305843009213693952) {B : Nat → Nat} (hB : ∀ j, j < 4 → I 6 (st + (C + j) % m) = vl_sb (B j) ∧ B j < 256) {n sl : Nat} {Q : jv_R → Prop} (cont : jv_Wp 103 5 [(0, .ref o), (1, .long c), (3, .int (0 : Int32)), (4, .int (3 : Int32))] [] (jv_H K I L R) n sl Q) : jv_Wp 103 0 [(0, .ref o), (1, .long c)] [] (jv_H K I L R) n sl Q := by
  obtain ⟨hK0, hK6, hR4, e3, e5, hst, t, ht⟩ := id hT
  refine jv_Wp.lift (fun _ Kz => jv_Ev.steps jv_i103 4 (pc' := 5) (l' := [(4, .int (3 : Int32)), (3, .int (0 : Int32)), (0, .ref o), (1, .long c)]) (st' := []) rfl Kz) ?_
  refine jv_Wp.loc (l := [(0, .ref o), (1, .long c), (3, .int (0 : Int32)), (4, .int (3 : Int32))]) ⟨List.forall_mem_cons.mpr ⟨.tail _ (.tail _ (.head _)), List.forall_mem_cons.mpr ⟨.tail _ (.tail _ (.tail _ (.head _))), List.forall_mem_cons.mpr ⟨.tail _ (.head _), List.forall_mem_cons.mpr ⟨.head _, fun _ h => absurd h List.not_mem_nil⟩⟩⟩⟩, by show List.Nodup [4, 3, 0, 1]; decide⟩ ?_
  exact cont
theorem vk_sizeAt {K : Nat → Option (Nat × Nat)} {I : Nat → Nat → Int32} {L : Nat → Nat → Int64} {R : Nat → Nat → Value} {o st m : Nat} (hT : vk_RW K I R o st m) {c : Int64} {C : Nat} (hc : c = vm_J C) (hC : C < 2305843009213693952) {B : Nat → Nat} (hB : ∀ j, j < 4 → I 6 (st + (C + j) % m) = vl_sb (B j) ∧ B j < 256) {n sl : Nat} : jv_Ms 103 [.ref o, .long c] (jv_H K I L R) n sl (some (.int (vl_I (vm_le B 0 4))), jv_H K I L R, n, sl) := by
  have b0 := (hB 0 (by decide)).2
  have b1 := (hB 1 (by decide)).2
  have b2 := (hB 2 (by decide)).2
  have b3 := (hB 3 (by decide)).2
  have k : jv_Wp 103 0 [(0, .ref o), (1, .long c)] [] (jv_H K I L R) n sl (fun X => X = (some (.int (vl_I (vm_le B 0 4))), jv_H K I L R, n, sl)) := by
    refine vk_siz_0 hT hc hC hB ?_
    refine vk_siz_t hT hc hC hB (k := 3) (by decide) (v := 0) (x := 0) rfl (by decide) ?_
    refine vk_siz_t hT hc hC hB (k := 2) (by decide) rfl (by omega) ?_
    refine vk_siz_t hT hc hC hB (k := 1) (by decide) rfl (by omega) ?_
    refine vk_siz_t hT hc hC hB (k := 0) (by decide) rfl (by omega) ?_
    refine vk_siz_e hT hc hC hB ?_
    have e : (((0 * 256 + B 3) * 256 + B 2) * 256 + B 1) * 256 + B 0 = vm_le B 0 4 := by
      show _ = B 0 + 256 * (B 1 + 256 * (B 2 + 256 * (B 3 + 256 * 0))); omega
    rw [e]
  obtain ⟨X, k, e⟩ := k
  subst e
  exact k