/-! part g42: the host's calls on the reference's store, walked (gen/tg42.py) -/
theorem jv_i328 : jv_I 328 6 none 0 0 jv_c328 := ⟨rfl, rfl, rfl, rfl, rfl⟩
theorem vr_put_t {K : Nat → Option (Nat × Nat)} {I : Nat → Nat → Int32} {L : Nat → Nat → Int64} {R : Nat → Nat → Value} {r len a m : Nat} {v : Int64} (hK : K r = some (101, len)) (hlen : len < 2147483648) (h8 : m ≤ 8) (ha : a + m ≤ len) {n sl : Nat} {Q : jv_R → Prop} {k : Nat} (hk : k < m) (cont : jv_Wp 328 3 [(0, .ref r), (1, .int (vl_I a)), (2, .int (vl_I m)), (3, .long v), (5, .int (vl_I (k + 1)))] [] (jv_H K (jv_u I r (a + k) (vl_sb (vm_bt v k))) L R) n sl Q) : jv_Wp 328 3 [(0, .ref r), (1, .int (vl_I a)), (2, .int (vl_I m)), (3, .long v), (5, .int (vl_I k))] [] (jv_H K I L R) n sl Q := by
  refine jv_Wp.lift (fun _ Kz => jv_Ev.steps jv_i328 2 (pc' := 6) (l' := [(0, .ref r), (1, .int (vl_I a)), (2, .int (vl_I m)), (3, .long v), (5, .int (vl_I k))]) (st' := [.int (vl_I m), .int (vl_I k)]) rfl Kz) ?_
  refine jv_Wp.cnd jv_i328 (pt := 30) (pe := 9) (p := ((vl_I m) ≤ (vl_I k))) (q := ((vl_I m) ≤ (vl_I k))) rfl jv_bc_ge rfl rfl Iff.rfl (fun hz => absurd hz (fun z => absurd ((vl_I_le (by omega) (by omega)).mp z) (by omega))) (fun _ => ?_)
  refine jv_Wp.lift (fun _ Kz => jv_Ev.steps jv_i328 11 (pc' := 23) (l' := [(0, .ref r), (1, .int (vl_I a)), (2, .int (vl_I m)), (3, .long v), (5, .int (vl_I k))]) (st' := [.int (v >>> (((8 : Int32) * (vl_I k)).toInt64 &&& 63)).toInt32.toInt8.toInt32, .int ((vl_I a) + (vl_I k)), .ref r]) rfl Kz) ?_
  refine jv_Wp.lift (fun _ Kz => jv_Ev.m jv_i328 (pc' := 24) (st' := []) (G' := (jv_H K (jv_u I r (a + k) (v >>> (((8 : Int32) * (vl_I k)).toInt64 &&& 63)).toInt32.toInt8.toInt32.toInt8.toInt32) L R)) rfl rfl (by rw [jv_m_bast hK (by rw [vl_I_add]; exact vl_I_ix (by omega) (by omega)), (show ((vl_I a) + (vl_I k)).toNatClampNeg = a + k from by rw [show ((vl_I a) + (vl_I k)) = vl_I (a + k) from (vi_a2 rfl rfl rfl)]; exact vl_I_nat (by omega))]) Kz) ?_
  refine jv_Wp.lift (fun _ Kz => jv_Ev.steps jv_i328 2 (pc' := 3) (l' := [(5, .int ((vl_I k) + Int32.ofInt 1)), (0, .ref r), (1, .int (vl_I a)), (2, .int (vl_I m)), (3, .long v)]) (st' := []) rfl Kz) ?_
  refine jv_Wp.loc (l := [(0, .ref r), (1, .int (vl_I a)), (2, .int (vl_I m)), (3, .long v), (5, .int ((vl_I k) + Int32.ofInt 1))]) ⟨List.forall_mem_cons.mpr ⟨.tail _ (.head _), List.forall_mem_cons.mpr ⟨.tail _ (.tail _ (.head _)), List.forall_mem_cons.mpr ⟨.tail _ (.tail _ (.tail _ (.head _))), List.forall_mem_cons.mpr ⟨.tail _ (.tail _ (.tail _ (.tail _ (.head _)))), List.forall_mem_cons.mpr ⟨.head _, fun _ h => absurd h List.not_mem_nil⟩⟩⟩⟩⟩, by show List.Nodup [5, 0, 1, 2, 3]; decide⟩ ?_
  rw [show (v >>> ((8 * vl_I k : Int32).toInt64 &&& 63)).toInt32.toInt8.toInt32 = vl_sb (vm_bt v k) from vm_bt_ok v (by omega), vl_sb_sb (vm_bt_lt v k), vk_p1 k]
  exact cont
theorem vr_put_e {K : Nat → Option (Nat × Nat)} {I : Nat → Nat → Int32} {L : Nat → Nat → Int64} {R : Nat → Nat → Value} {r len a m : Nat} {v : Int64} (hK : K r = some (101, len)) (hlen : len < 2147483648) (h8 : m ≤ 8) (ha : a + m ≤ len) {n sl : Nat} {Q : jv_R → Prop} (hQ : Q (none, jv_H K I L R, n, sl)) : jv_Wp 328 3 [(0, .ref r), (1, .int (vl_I a)), (2, .int (vl_I m)), (3, .long v), (5, .int (vl_I m))] [] (jv_H K I L R) n sl Q := by
  refine jv_Wp.lift (fun _ Kz => jv_Ev.steps jv_i328 2 (pc' := 6) (l' := [(0, .ref r), (1, .int (vl_I a)), (2, .int (vl_I m)), (3, .long v), (5, .int (vl_I m))]) (st' := [.int (vl_I m), .int (vl_I m)]) rfl Kz) ?_
  refine jv_Wp.cnd jv_i328 (pt := 30) (pe := 9) (p := ((vl_I m) ≤ (vl_I m))) (q := ((vl_I m) ≤ (vl_I m))) rfl jv_bc_ge rfl rfl Iff.rfl (fun _ => ?_) (fun hz => absurd ((vl_I_le (by omega) (by omega)).mpr (by omega)) hz)
  refine jv_Wp.of (jv_Ev.ret jv_i328 rfl rfl) ?_
  exact hQ
theorem vr_put_l {K : Nat → Option (Nat × Nat)} {I : Nat → Nat → Int32} {L : Nat → Nat → Int64} {R : Nat → Nat → Value} {r len a m : Nat} {v : Int64} (hK : K r = some (101, len)) (hlen : len < 2147483648) (h8 : m ≤ 8) (ha : a + m ≤ len) {n sl : Nat} {Q : jv_R → Prop} (hQ : Q (none, jv_H K (vm_wr I r a m (fun j => vl_sb (vm_bt v j))) L R, n, sl)) : ∀ d k, k + d = m → jv_Wp 328 3 [(0, .ref r), (1, .int (vl_I a)), (2, .int (vl_I m)), (3, .long v), (5, .int (vl_I k))] [] (jv_H K (vm_wr I r a k (fun j => vl_sb (vm_bt v j))) L R) n sl Q
  | 0, k, g => by
    have g : k = m := g
    subst g
    exact vr_put_e hK hlen h8 ha hQ
  | d + 1, k, g => by
    refine vr_put_t hK hlen h8 ha (by omega) ?_
    rw [vm_wr_s I r a k (fun j => vl_sb (vm_bt v j))]
    exact vr_put_l hK hlen h8 ha hQ d (k + 1) (by omega)
theorem vr_put_0 {K : Nat → Option (Nat × Nat)} {I : Nat → Nat → Int32} {L : Nat → Nat → Int64} {R : Nat → Nat → Value} {r len a m : Nat} {v : Int64} (hK : K r = some (101, len)) (hlen : len < 2147483648) (h8 : m ≤ 8) (ha : a + m ≤ len) {n sl : Nat} {Q : jv_R → Prop} (cont : jv_Wp 328 3 [(0, .ref r), (1, .int (vl_I a)), (2, .int (vl_I m)), (3, .long v), (5, .int (0 : Int32))] [] (jv_H K I L R) n sl Q) : jv_Wp 328 0 [(0, .ref r), (1, .int (vl_I a)), (2, .int (vl_I m)), (3, .long v)] [] (jv_H K I L R) n sl Q := by
  refine jv_Wp.lift (fun _ Kz => jv_Ev.steps jv_i328 2 (pc' := 3) (l' := [(5, .int (0 : Int32)), (0, .ref r), (1, .int (vl_I a)), (2, .int (vl_I m)), (3, .long v)]) (st' := []) rfl Kz) ?_
  refine jv_Wp.loc (l := [(0, .ref r), (1, .int (vl_I a)), (2, .int (vl_I m)), (3, .long v), (5, .int (0 : Int32))]) ⟨List.forall_mem_cons.mpr ⟨.tail _ (.head _), List.forall_mem_cons.mpr ⟨.tail _ (.tail _ (.head _)), List.forall_mem_cons.mpr ⟨.tail _ (.tail _ (.tail _ (.head _))), List.forall_mem_cons.mpr ⟨.tail _ (.tail _ (.tail _ (.tail _ (.head _)))), List.forall_mem_cons.mpr ⟨.head _, fun _ h => absurd h List.not_mem_nil⟩⟩⟩⟩⟩, by show List.Nodup [5, 0, 1, 2, 3]; decide⟩ ?_
  exact cont
/-- m bytes of a number stand in the row r then -/
theorem vr_putW {K : Nat → Option (Nat × Nat)} {I : Nat → Nat → Int32} {L : Nat → Nat → Int64} {R : Nat → Nat → Value} {r len a m : Nat} {v : Int64} (hK : K r = some (101, len)) (hlen : len < 2147483648) (h8 : m ≤ 8) (ha : a + m ≤ len) {n sl : Nat} : jv_Ms 328 [.ref r, .int (vl_I a), .int (vl_I m), .long v] (jv_H K I L R) n sl (none, jv_H K (vm_wr I r a m (fun j => vl_sb (vm_bt v j))) L R, n, sl) := by
  have k := vr_put_l (n := n) (sl := sl) (I := I) (L := L) (R := R) (v := v) (Q := fun X => X = (none, jv_H K (vm_wr I r a m (fun j => vl_sb (vm_bt v j))) L R, n, sl)) hK hlen h8 ha rfl m 0 (Nat.zero_add m)
  rw [vm_wr_0] at k
  obtain ⟨X, k, e⟩ := vr_put_0 hK hlen h8 ha k
  subst e
  exact k
theorem jv_i329 : jv_I 329 2 (some .long) 1 25 jv_c329 := ⟨rfl, rfl, rfl, rfl, rfl⟩
theorem vr_desk_n_0 {K : Nat → Option (Nat × Nat)} {I : Nat → Nat → Int32} {L : Nat → Nat → Int64} {R : Nat → Nat → Value} (hW : jv_rW K R) {x : Int32} (hd : ¬ (0 ≤ x.toInt ∧ x.toInt + ((8 : Nat) : Int) ≤ 512)) {n sl : Nat} {Q : jv_R → Prop} (hQ : Q (some (.long (0 : Int64)), jv_H K (jv_u I 180 0 (1 : Int32)) L R, n, sl)) : jv_Wp 329 0 [(0, .ref 180), (1, .int x)] [] (jv_H K I L R) n sl Q := by
  refine jv_Wp.lift (fun _ Kz => jv_Ev.steps jv_i329 3 (pc' := 4) (l' := [(0, .ref 180), (1, .int x)]) (st' := [.int (8 : Int32), .int x, .ref 180]) rfl Kz) ?_
  refine jv_Wp.lift (fun _ Kz => jv_Ev.c jv_i329 (pc' := 7) (S' := [.int (vr_b (decide (0 ≤ x.toInt ∧ x.toInt + ((8 : Nat) : Int) ≤ 512))), .ref 180]) jv_i326 [.int x, .int (8 : Int32)] rfl rfl rfl rfl rfl rfl (vr_isDesk x (z := 8) (by decide)) rfl rfl Kz) ?_
  refine jv_Wp.cnd jv_i329 (pt := 14) (pe := 10) (p := ((vr_b (decide (0 ≤ x.toInt ∧ x.toInt + ((8 : Nat) : Int) ≤ 512))) = 0)) (q := ((vr_b (decide (0 ≤ x.toInt ∧ x.toInt + ((8 : Nat) : Int) ≤ 512))) = 0)) rfl jv_bi_eq rfl rfl Iff.rfl (fun _ => ?_) (fun hz => absurd (by rw [decide_eq_false hd]; rfl) hz)
  refine jv_Wp.lift (fun _ Kz => jv_Ev.steps jv_i329 1 (pc' := 15) (l' := [(0, .ref 180), (1, .int x)]) (st' := [.int (1 : Int32), .ref 180]) rfl Kz) ?_
  refine jv_Wp.lift (fun _ Kz => jv_Ev.m jv_i329 (pc' := 18) (st' := []) (G' := (jv_H K (jv_u I 180 0 (1 : Int32)) L R)) rfl rfl (jv_m_putI (jv_rwK hW 180 13 22 (by decide)) rfl rfl rfl rfl) Kz) ?_
  refine jv_Wp.lift (fun _ Kz => jv_Ev.steps jv_i329 1 (pc' := 19) (l' := [(0, .ref 180), (1, .int x)]) (st' := [.ref 180]) rfl Kz) ?_
  refine jv_Wp.lift (fun _ Kz => jv_Ev.m jv_i329 (pc' := 22) (st' := [.int (1 : Int32)]) (G' := (jv_H K (jv_u I 180 0 (1 : Int32)) L R)) rfl rfl (jv_m_getI (jv_rwK hW 180 13 22 (by decide)) rfl rfl (jv_u_self _ _ _ _)) Kz) ?_
  refine jv_Wp.lift (fun _ Kz => jv_Ev.br jv_i329 (pc' := 25) (st' := []) rfl (by rfl) Kz) ?_
  refine jv_Wp.lift (fun _ Kz => jv_Ev.steps jv_i329 2 (pc' := 39) (l' := [(0, .ref 180), (1, .int x)]) (st' := [.long (0 : Int64)]) rfl Kz) ?_
  refine jv_Wp.of (jv_Ev.ret jv_i329 rfl rfl) ?_
  exact hQ
theorem vr_desk_n {K : Nat → Option (Nat × Nat)} {I : Nat → Nat → Int32} {L : Nat → Nat → Int64} {R : Nat → Nat → Value} (hW : jv_rW K R) {x : Int32} (hd : ¬ (0 ≤ x.toInt ∧ x.toInt + ((8 : Nat) : Int) ≤ 512)) {n sl : Nat} : jv_Ms 329 [.ref 180, .int x] (jv_H K I L R) n sl (some (.long (0 : Int64)), jv_H K (jv_u I 180 0 (1 : Int32)) L R, n, sl) := by
  obtain ⟨X, k, e⟩ := vr_desk_n_0 (n := n) (sl := sl) (I := I) (L := L) (R := R) (Q := fun X => X = (some (.long (0 : Int64)), jv_H K (jv_u I 180 0 (1 : Int32)) L R, n, sl)) hW hd rfl
  subst e
  exact k
theorem vr_desk_y_0 {K : Nat → Option (Nat × Nat)} {I : Nat → Nat → Int32} {L : Nat → Nat → Int64} {R : Nat → Nat → Value} (hW : jv_rW K R) {dk : Nat} (hD : R 180 2 = .ref dk) (hKd : K dk = some (101, 512)) {a : Nat} {v : Int64} (hd : 0 ≤ (vl_I a).toInt ∧ (vl_I a).toInt + ((8 : Nat) : Int) ≤ 512) (hN : ∀ n sl, jv_Ms 327 [.ref dk, .int (vl_I a), .int (8 : Int32)] (jv_H K (jv_u I 180 0 (0 : Int32)) L R) n sl (some (.long v), jv_H K (jv_u I 180 0 (0 : Int32)) L R, n, sl)) {n sl : Nat} {Q : jv_R → Prop} (hQ : Q (some (.long v), jv_H K (jv_u I 180 0 (0 : Int32)) L R, n, sl)) : jv_Wp 329 0 [(0, .ref 180), (1, .int (vl_I a))] [] (jv_H K I L R) n sl Q := by
  refine jv_Wp.lift (fun _ Kz => jv_Ev.steps jv_i329 3 (pc' := 4) (l' := [(0, .ref 180), (1, .int (vl_I a))]) (st' := [.int (8 : Int32), .int (vl_I a), .ref 180]) rfl Kz) ?_
  refine jv_Wp.lift (fun _ Kz => jv_Ev.c jv_i329 (pc' := 7) (S' := [.int (vr_b (decide (0 ≤ (vl_I a).toInt ∧ (vl_I a).toInt + ((8 : Nat) : Int) ≤ 512))), .ref 180]) jv_i326 [.int (vl_I a), .int (8 : Int32)] rfl rfl rfl rfl rfl rfl (vr_isDesk (vl_I a) (z := 8) (by decide)) rfl rfl Kz) ?_
  refine jv_Wp.cnd jv_i329 (pt := 14) (pe := 10) (p := ((vr_b (decide (0 ≤ (vl_I a).toInt ∧ (vl_I a).toInt + ((8 : Nat) : Int) ≤ 512))) = 0)) (q := ((vr_b (decide (0 ≤ (vl_I a).toInt ∧ (vl_I a).toInt + ((8 : Nat) : Int) ≤ 512))) = 0)) rfl jv_bi_eq rfl rfl Iff.rfl (fun hz => absurd hz (by rw [decide_eq_true hd]; decide)) (fun _ => ?_)
  refine jv_Wp.lift (fun _ Kz => jv_Ev.steps jv_i329 2 (pc' := 15) (l' := [(0, .ref 180), (1, .int (vl_I a))]) (st' := [.int (0 : Int32), .ref 180]) rfl Kz) ?_
  refine jv_Wp.lift (fun _ Kz => jv_Ev.m jv_i329 (pc' := 18) (st' := []) (G' := (jv_H K (jv_u I 180 0 (0 : Int32)) L R)) rfl rfl (jv_m_putI (jv_rwK hW 180 13 22 (by decide)) rfl rfl rfl rfl) Kz) ?_
  refine jv_Wp.lift (fun _ Kz => jv_Ev.steps jv_i329 1 (pc' := 19) (l' := [(0, .ref 180), (1, .int (vl_I a))]) (st' := [.ref 180]) rfl Kz) ?_
  refine jv_Wp.lift (fun _ Kz => jv_Ev.m jv_i329 (pc' := 22) (st' := [.int (0 : Int32)]) (G' := (jv_H K (jv_u I 180 0 (0 : Int32)) L R)) rfl rfl (jv_m_getI (jv_rwK hW 180 13 22 (by decide)) rfl rfl (jv_u_self _ _ _ _)) Kz) ?_
  refine jv_Wp.lift (fun _ Kz => jv_Ev.br jv_i329 (pc' := 29) (st' := []) rfl (by rfl) Kz) ?_
  refine jv_Wp.lift (fun _ Kz => jv_Ev.steps jv_i329 1 (pc' := 30) (l' := [(0, .ref 180), (1, .int (vl_I a))]) (st' := [.ref 180]) rfl Kz) ?_
  refine jv_Wp.lift (fun _ Kz => jv_Ev.m jv_i329 (pc' := 33) (st' := [.ref dk]) (G' := (jv_H K (jv_u I 180 0 (0 : Int32)) L R)) rfl rfl (jv_m_getR (jv_rwK hW 180 13 22 (by decide)) rfl rfl hD) Kz) ?_
  refine jv_Wp.lift (fun _ Kz => jv_Ev.steps jv_i329 2 (pc' := 36) (l' := [(0, .ref 180), (1, .int (vl_I a))]) (st' := [.int (8 : Int32), .int (vl_I a), .ref dk]) rfl Kz) ?_
  refine jv_Wp.lift (fun _ Kz => jv_Ev.c jv_i329 (pc' := 39) (S' := [.long v]) jv_i327 [.ref dk, .int (vl_I a), .int (8 : Int32)] rfl rfl rfl rfl rfl rfl (hN n sl) rfl rfl Kz) ?_
  refine jv_Wp.of (jv_Ev.ret jv_i329 rfl rfl) ?_
  exact hQ
theorem vr_desk_y {K : Nat → Option (Nat × Nat)} {I : Nat → Nat → Int32} {L : Nat → Nat → Int64} {R : Nat → Nat → Value} (hW : jv_rW K R) {dk : Nat} (hD : R 180 2 = .ref dk) (hKd : K dk = some (101, 512)) {a : Nat} {v : Int64} (hd : 0 ≤ (vl_I a).toInt ∧ (vl_I a).toInt + ((8 : Nat) : Int) ≤ 512) (hN : ∀ n sl, jv_Ms 327 [.ref dk, .int (vl_I a), .int (8 : Int32)] (jv_H K (jv_u I 180 0 (0 : Int32)) L R) n sl (some (.long v), jv_H K (jv_u I 180 0 (0 : Int32)) L R, n, sl)) {n sl : Nat} : jv_Ms 329 [.ref 180, .int (vl_I a)] (jv_H K I L R) n sl (some (.long v), jv_H K (jv_u I 180 0 (0 : Int32)) L R, n, sl) := by
  obtain ⟨X, k, e⟩ := vr_desk_y_0 (n := n) (sl := sl) (I := I) (L := L) (R := R) (Q := fun X => X = (some (.long v), jv_H K (jv_u I 180 0 (0 : Int32)) L R, n, sl)) hW hD hKd hd hN rfl
  subst e
  exact k
theorem jv_i330 : jv_I 330 4 none 1 25 jv_c330 := ⟨rfl, rfl, rfl, rfl, rfl⟩
theorem vr_lay_n_0 {K : Nat → Option (Nat × Nat)} {I : Nat → Nat → Int32} {L : Nat → Nat → Int64} {R : Nat → Nat → Value} (hW : jv_rW K R) {x : Int32} {v : Int64} (hd : ¬ (0 ≤ x.toInt ∧ x.toInt + ((8 : Nat) : Int) ≤ 512)) {n sl : Nat} {Q : jv_R → Prop} (hQ : Q (none, jv_H K (jv_u I 180 0 (1 : Int32)) L R, n, sl)) : jv_Wp 330 0 [(0, .ref 180), (1, .int x), (2, .long v)] [] (jv_H K I L R) n sl Q := by
  refine jv_Wp.lift (fun _ Kz => jv_Ev.steps jv_i330 3 (pc' := 4) (l' := [(0, .ref 180), (1, .int x), (2, .long v)]) (st' := [.int (8 : Int32), .int x, .ref 180]) rfl Kz) ?_
  refine jv_Wp.lift (fun _ Kz => jv_Ev.c jv_i330 (pc' := 7) (S' := [.int (vr_b (decide (0 ≤ x.toInt ∧ x.toInt + ((8 : Nat) : Int) ≤ 512))), .ref 180]) jv_i326 [.int x, .int (8 : Int32)] rfl rfl rfl rfl rfl rfl (vr_isDesk x (z := 8) (by decide)) rfl rfl Kz) ?_
  refine jv_Wp.cnd jv_i330 (pt := 14) (pe := 10) (p := ((vr_b (decide (0 ≤ x.toInt ∧ x.toInt + ((8 : Nat) : Int) ≤ 512))) = 0)) (q := ((vr_b (decide (0 ≤ x.toInt ∧ x.toInt + ((8 : Nat) : Int) ≤ 512))) = 0)) rfl jv_bi_eq rfl rfl Iff.rfl (fun _ => ?_) (fun hz => absurd (by rw [decide_eq_false hd]; rfl) hz)
  refine jv_Wp.lift (fun _ Kz => jv_Ev.steps jv_i330 1 (pc' := 15) (l' := [(0, .ref 180), (1, .int x), (2, .long v)]) (st' := [.int (1 : Int32), .ref 180]) rfl Kz) ?_
  refine jv_Wp.lift (fun _ Kz => jv_Ev.m jv_i330 (pc' := 18) (st' := []) (G' := (jv_H K (jv_u I 180 0 (1 : Int32)) L R)) rfl rfl (jv_m_putI (jv_rwK hW 180 13 22 (by decide)) rfl rfl rfl rfl) Kz) ?_
  refine jv_Wp.lift (fun _ Kz => jv_Ev.steps jv_i330 1 (pc' := 19) (l' := [(0, .ref 180), (1, .int x), (2, .long v)]) (st' := [.ref 180]) rfl Kz) ?_
  refine jv_Wp.lift (fun _ Kz => jv_Ev.m jv_i330 (pc' := 22) (st' := [.int (1 : Int32)]) (G' := (jv_H K (jv_u I 180 0 (1 : Int32)) L R)) rfl rfl (jv_m_getI (jv_rwK hW 180 13 22 (by decide)) rfl rfl (jv_u_self _ _ _ _)) Kz) ?_
  refine jv_Wp.lift (fun _ Kz => jv_Ev.br jv_i330 (pc' := 36) (st' := []) rfl (by rfl) Kz) ?_
  refine jv_Wp.of (jv_Ev.ret jv_i330 rfl rfl) ?_
  exact hQ
theorem vr_lay_n {K : Nat → Option (Nat × Nat)} {I : Nat → Nat → Int32} {L : Nat → Nat → Int64} {R : Nat → Nat → Value} (hW : jv_rW K R) {x : Int32} {v : Int64} (hd : ¬ (0 ≤ x.toInt ∧ x.toInt + ((8 : Nat) : Int) ≤ 512)) {n sl : Nat} : jv_Ms 330 [.ref 180, .int x, .long v] (jv_H K I L R) n sl (none, jv_H K (jv_u I 180 0 (1 : Int32)) L R, n, sl) := by
  obtain ⟨X, k, e⟩ := vr_lay_n_0 (n := n) (sl := sl) (I := I) (L := L) (R := R) (Q := fun X => X = (none, jv_H K (jv_u I 180 0 (1 : Int32)) L R, n, sl)) hW hd rfl
  subst e
  exact k
theorem vr_lay_y_0 {K : Nat → Option (Nat × Nat)} {I : Nat → Nat → Int32} {L : Nat → Nat → Int64} {R : Nat → Nat → Value} (hW : jv_rW K R) {dk : Nat} (hD : R 180 2 = .ref dk) (hKd : K dk = some (101, 512)) {a : Nat} {v : Int64} {I1 : Nat → Nat → Int32} (hd : 0 ≤ (vl_I a).toInt ∧ (vl_I a).toInt + ((8 : Nat) : Int) ≤ 512) (hP : ∀ n sl, jv_Ms 328 [.ref dk, .int (vl_I a), .int (8 : Int32), .long v] (jv_H K (jv_u I 180 0 (0 : Int32)) L R) n sl (none, jv_H K I1 L R, n, sl)) {n sl : Nat} {Q : jv_R → Prop} (hQ : Q (none, jv_H K I1 L R, n, sl)) : jv_Wp 330 0 [(0, .ref 180), (1, .int (vl_I a)), (2, .long v)] [] (jv_H K I L R) n sl Q := by
  refine jv_Wp.lift (fun _ Kz => jv_Ev.steps jv_i330 3 (pc' := 4) (l' := [(0, .ref 180), (1, .int (vl_I a)), (2, .long v)]) (st' := [.int (8 : Int32), .int (vl_I a), .ref 180]) rfl Kz) ?_
  refine jv_Wp.lift (fun _ Kz => jv_Ev.c jv_i330 (pc' := 7) (S' := [.int (vr_b (decide (0 ≤ (vl_I a).toInt ∧ (vl_I a).toInt + ((8 : Nat) : Int) ≤ 512))), .ref 180]) jv_i326 [.int (vl_I a), .int (8 : Int32)] rfl rfl rfl rfl rfl rfl (vr_isDesk (vl_I a) (z := 8) (by decide)) rfl rfl Kz) ?_
  refine jv_Wp.cnd jv_i330 (pt := 14) (pe := 10) (p := ((vr_b (decide (0 ≤ (vl_I a).toInt ∧ (vl_I a).toInt + ((8 : Nat) : Int) ≤ 512))) = 0)) (q := ((vr_b (decide (0 ≤ (vl_I a).toInt ∧ (vl_I a).toInt + ((8 : Nat) : Int) ≤ 512))) = 0)) rfl jv_bi_eq rfl rfl Iff.rfl (fun hz => absurd hz (by rw [decide_eq_true hd]; decide)) (fun _ => ?_)
  refine jv_Wp.lift (fun _ Kz => jv_Ev.steps jv_i330 2 (pc' := 15) (l' := [(0, .ref 180), (1, .int (vl_I a)), (2, .long v)]) (st' := [.int (0 : Int32), .ref 180]) rfl Kz) ?_
  refine jv_Wp.lift (fun _ Kz => jv_Ev.m jv_i330 (pc' := 18) (st' := []) (G' := (jv_H K (jv_u I 180 0 (0 : Int32)) L R)) rfl rfl (jv_m_putI (jv_rwK hW 180 13 22 (by decide)) rfl rfl rfl rfl) Kz) ?_
  refine jv_Wp.lift (fun _ Kz => jv_Ev.steps jv_i330 1 (pc' := 19) (l' := [(0, .ref 180), (1, .int (vl_I a)), (2, .long v)]) (st' := [.ref 180]) rfl Kz) ?_
  refine jv_Wp.lift (fun _ Kz => jv_Ev.m jv_i330 (pc' := 22) (st' := [.int (0 : Int32)]) (G' := (jv_H K (jv_u I 180 0 (0 : Int32)) L R)) rfl rfl (jv_m_getI (jv_rwK hW 180 13 22 (by decide)) rfl rfl (jv_u_self _ _ _ _)) Kz) ?_
  refine jv_Wp.lift (fun _ Kz => jv_Ev.br jv_i330 (pc' := 25) (st' := []) rfl (by rfl) Kz) ?_
  refine jv_Wp.lift (fun _ Kz => jv_Ev.steps jv_i330 1 (pc' := 26) (l' := [(0, .ref 180), (1, .int (vl_I a)), (2, .long v)]) (st' := [.ref 180]) rfl Kz) ?_
  refine jv_Wp.lift (fun _ Kz => jv_Ev.m jv_i330 (pc' := 29) (st' := [.ref dk]) (G' := (jv_H K (jv_u I 180 0 (0 : Int32)) L R)) rfl rfl (jv_m_getR (jv_rwK hW 180 13 22 (by decide)) rfl rfl hD) Kz) ?_
  refine jv_Wp.lift (fun _ Kz => jv_Ev.steps jv_i330 3 (pc' := 33) (l' := [(0, .ref 180), (1, .int (vl_I a)), (2, .long v)]) (st' := [.long v, .int (8 : Int32), .int (vl_I a), .ref dk]) rfl Kz) ?_
  refine jv_Wp.lift (fun _ Kz => jv_Ev.c jv_i330 (pc' := 36) (S' := []) (G1 := (jv_H K I1 L R)) jv_i328 [.ref dk, .int (vl_I a), .int (8 : Int32), .long v] rfl rfl rfl rfl rfl rfl (hP n sl) rfl rfl Kz) ?_
  refine jv_Wp.of (jv_Ev.ret jv_i330 rfl rfl) ?_
  exact hQ
theorem vr_lay_y {K : Nat → Option (Nat × Nat)} {I : Nat → Nat → Int32} {L : Nat → Nat → Int64} {R : Nat → Nat → Value} (hW : jv_rW K R) {dk : Nat} (hD : R 180 2 = .ref dk) (hKd : K dk = some (101, 512)) {a : Nat} {v : Int64} {I1 : Nat → Nat → Int32} (hd : 0 ≤ (vl_I a).toInt ∧ (vl_I a).toInt + ((8 : Nat) : Int) ≤ 512) (hP : ∀ n sl, jv_Ms 328 [.ref dk, .int (vl_I a), .int (8 : Int32), .long v] (jv_H K (jv_u I 180 0 (0 : Int32)) L R) n sl (none, jv_H K I1 L R, n, sl)) {n sl : Nat} : jv_Ms 330 [.ref 180, .int (vl_I a), .long v] (jv_H K I L R) n sl (none, jv_H K I1 L R, n, sl) := by
  obtain ⟨X, k, e⟩ := vr_lay_y_0 (n := n) (sl := sl) (I := I) (L := L) (R := R) (Q := fun X => X = (none, jv_H K I1 L R, n, sl)) hW hD hKd hd hP rfl
  subst e
  exact k
theorem jv_i331 : jv_I 331 4 (some .boolean) 0 0 jv_c331 := ⟨rfl, rfl, rfl, rfl, rfl⟩
theorem vr_ar8 {x : Int32} (h1 : ¬ x < 0) (h2 : x ≤ (65536 : Int32) - (8 : Int32)) : 0 ≤ x.toInt ∧ x.toInt ≤ 65528 := by
  have a := mt Int32.lt_iff_toInt_lt.mpr h1
  have b := Int32.le_iff_toInt_le.mp h2
  rw [show (0 : Int32).toInt = 0 from by decide] at a
  rw [show ((65536 : Int32) - (8 : Int32)).toInt = 65528 from by decide] at b
  omega
theorem vr_ar8l {x : Int32} (h : 0 ≤ x.toInt ∧ x.toInt ≤ 65528) : ¬ x < 0 := fun z => by
  have a := Int32.lt_iff_toInt_lt.mp z
  rw [show (0 : Int32).toInt = 0 from by decide] at a
  omega
theorem vr_ar8r {x : Int32} (h : 0 ≤ x.toInt ∧ x.toInt ≤ 65528) : x ≤ (65536 : Int32) - (8 : Int32) := by
  refine Int32.le_iff_toInt_le.mpr ?_
  rw [show ((65536 : Int32) - (8 : Int32)).toInt = 65528 from by decide]
  exact h.2
theorem vr_noArea_y_0 {K : Nat → Option (Nat × Nat)} {I : Nat → Nat → Int32} {L : Nat → Nat → Int64} {R : Nat → Nat → Value} (hW : jv_rW K R) {x : Int32} (hd : 0 ≤ x.toInt ∧ x.toInt ≤ 65528) {n sl : Nat} {Q : jv_R → Prop} (hQ : Q (some (.int (0 : Int32)), jv_H K (jv_u I 180 0 (0 : Int32)) L R, n, sl)) : jv_Wp 331 0 [(0, .ref 180), (1, .int x), (2, .int (8 : Int32))] [] (jv_H K I L R) n sl Q := by
  refine jv_Wp.lift (fun _ Kz => jv_Ev.steps jv_i331 2 (pc' := 2) (l' := [(0, .ref 180), (1, .int x), (2, .int (8 : Int32))]) (st' := [.int (1 : Int32), .int (8 : Int32)]) rfl Kz) ?_
  refine jv_Wp.lift (fun _ Kz => jv_Ev.br jv_i331 (pc' := 5) (st' := []) rfl (by rfl) Kz) ?_
  refine jv_Wp.lift (fun _ Kz => jv_Ev.steps jv_i331 2 (pc' := 7) (l' := [(0, .ref 180), (1, .int x), (2, .int (8 : Int32))]) (st' := [.int (2 : Int32), .int (8 : Int32)]) rfl Kz) ?_
  refine jv_Wp.lift (fun _ Kz => jv_Ev.br jv_i331 (pc' := 10) (st' := []) rfl (by rfl) Kz) ?_
  refine jv_Wp.lift (fun _ Kz => jv_Ev.steps jv_i331 2 (pc' := 12) (l' := [(0, .ref 180), (1, .int x), (2, .int (8 : Int32))]) (st' := [.int (4 : Int32), .int (8 : Int32)]) rfl Kz) ?_
  refine jv_Wp.lift (fun _ Kz => jv_Ev.br jv_i331 (pc' := 15) (st' := []) rfl (by rfl) Kz) ?_
  refine jv_Wp.lift (fun _ Kz => jv_Ev.steps jv_i331 2 (pc' := 18) (l' := [(0, .ref 180), (1, .int x), (2, .int (8 : Int32))]) (st' := [.int (8 : Int32), .int (8 : Int32)]) rfl Kz) ?_
  refine jv_Wp.lift (fun _ Kz => jv_Ev.br jv_i331 (pc' := 21) (st' := []) rfl (by rfl) Kz) ?_
  refine jv_Wp.lift (fun _ Kz => jv_Ev.steps jv_i331 5 (pc' := 29) (l' := [(3, .int (1 : Int32)), (0, .ref 180), (1, .int x), (2, .int (8 : Int32))]) (st' := [.int (1 : Int32), .ref 180]) rfl Kz) ?_
  refine jv_Wp.lift (fun _ Kz => jv_Ev.br jv_i331 (pc' := 36) (st' := [.ref 180]) rfl (by rfl) Kz) ?_
  refine jv_Wp.lift (fun _ Kz => jv_Ev.steps jv_i331 1 (pc' := 37) (l' := [(3, .int (1 : Int32)), (0, .ref 180), (1, .int x), (2, .int (8 : Int32))]) (st' := [.int x, .ref 180]) rfl Kz) ?_
  refine jv_Wp.cnd jv_i331 (pt := 48) (pe := 40) (p := (x < 0)) (q := (x < 0)) rfl jv_bi_lt rfl rfl Iff.rfl (fun hz => absurd hz (vr_ar8l hd)) (fun _ => ?_)
  refine jv_Wp.lift (fun _ Kz => jv_Ev.steps jv_i331 4 (pc' := 45) (l' := [(3, .int (1 : Int32)), (0, .ref 180), (1, .int x), (2, .int (8 : Int32))]) (st' := [.int ((65536 : Int32) - (8 : Int32)), .int x, .ref 180]) rfl Kz) ?_
  refine jv_Wp.cnd jv_i331 (pt := 52) (pe := 48) (p := (x ≤ ((65536 : Int32) - (8 : Int32)))) (q := (x ≤ ((65536 : Int32) - (8 : Int32)))) rfl jv_bc_le rfl rfl Iff.rfl (fun _ => ?_) (fun hz => absurd (vr_ar8r hd) hz)
  refine jv_Wp.lift (fun _ Kz => jv_Ev.steps jv_i331 1 (pc' := 53) (l' := [(3, .int (1 : Int32)), (0, .ref 180), (1, .int x), (2, .int (8 : Int32))]) (st' := [.int (0 : Int32), .ref 180]) rfl Kz) ?_
  refine jv_Wp.lift (fun _ Kz => jv_Ev.m jv_i331 (pc' := 56) (st' := []) (G' := (jv_H K (jv_u I 180 0 (0 : Int32)) L R)) rfl rfl (jv_m_putI (jv_rwK hW 180 13 22 (by decide)) rfl rfl rfl rfl) Kz) ?_
  refine jv_Wp.lift (fun _ Kz => jv_Ev.steps jv_i331 1 (pc' := 57) (l' := [(3, .int (1 : Int32)), (0, .ref 180), (1, .int x), (2, .int (8 : Int32))]) (st' := [.ref 180]) rfl Kz) ?_
  refine jv_Wp.lift (fun _ Kz => jv_Ev.m jv_i331 (pc' := 60) (st' := [.int (0 : Int32)]) (G' := (jv_H K (jv_u I 180 0 (0 : Int32)) L R)) rfl rfl (jv_m_getI (jv_rwK hW 180 13 22 (by decide)) rfl rfl (jv_u_self _ _ _ _)) Kz) ?_
  refine jv_Wp.lift (fun _ Kz => jv_Ev.br jv_i331 (pc' := 67) (st' := []) rfl (by rfl) Kz) ?_
  refine jv_Wp.lift (fun _ Kz => jv_Ev.steps jv_i331 1 (pc' := 68) (l' := [(3, .int (1 : Int32)), (0, .ref 180), (1, .int x), (2, .int (8 : Int32))]) (st' := [.int (0 : Int32)]) rfl Kz) ?_
  refine jv_Wp.of (jv_Ev.ret jv_i331 rfl (jv_ret_b (Or.inl rfl))) ?_
  exact hQ
theorem vr_noArea_y {K : Nat → Option (Nat × Nat)} {I : Nat → Nat → Int32} {L : Nat → Nat → Int64} {R : Nat → Nat → Value} (hW : jv_rW K R) {x : Int32} (hd : 0 ≤ x.toInt ∧ x.toInt ≤ 65528) {n sl : Nat} : jv_Ms 331 [.ref 180, .int x, .int (8 : Int32)] (jv_H K I L R) n sl (some (.int (0 : Int32)), jv_H K (jv_u I 180 0 (0 : Int32)) L R, n, sl) := by
  obtain ⟨X, k, e⟩ := vr_noArea_y_0 (n := n) (sl := sl) (I := I) (L := L) (R := R) (Q := fun X => X = (some (.int (0 : Int32)), jv_H K (jv_u I 180 0 (0 : Int32)) L R, n, sl)) hW hd rfl
  subst e
  exact k
theorem vr_noArea_n_0 {K : Nat → Option (Nat × Nat)} {I : Nat → Nat → Int32} {L : Nat → Nat → Int64} {R : Nat → Nat → Value} (hW : jv_rW K R) {x : Int32} (hd : ¬ (0 ≤ x.toInt ∧ x.toInt ≤ 65528)) {n sl : Nat} {Q : jv_R → Prop} (hQ : Q (some (.int (1 : Int32)), jv_H K (jv_u I 180 0 (1 : Int32)) L R, n, sl)) : jv_Wp 331 0 [(0, .ref 180), (1, .int x), (2, .int (8 : Int32))] [] (jv_H K I L R) n sl Q := by
  refine jv_Wp.lift (fun _ Kz => jv_Ev.steps jv_i331 2 (pc' := 2) (l' := [(0, .ref 180), (1, .int x), (2, .int (8 : Int32))]) (st' := [.int (1 : Int32), .int (8 : Int32)]) rfl Kz) ?_
  refine jv_Wp.lift (fun _ Kz => jv_Ev.br jv_i331 (pc' := 5) (st' := []) rfl (by rfl) Kz) ?_
  refine jv_Wp.lift (fun _ Kz => jv_Ev.steps jv_i331 2 (pc' := 7) (l' := [(0, .ref 180), (1, .int x), (2, .int (8 : Int32))]) (st' := [.int (2 : Int32), .int (8 : Int32)]) rfl Kz) ?_
  refine jv_Wp.lift (fun _ Kz => jv_Ev.br jv_i331 (pc' := 10) (st' := []) rfl (by rfl) Kz) ?_
  refine jv_Wp.lift (fun _ Kz => jv_Ev.steps jv_i331 2 (pc' := 12) (l' := [(0, .ref 180), (1, .int x), (2, .int (8 : Int32))]) (st' := [.int (4 : Int32), .int (8 : Int32)]) rfl Kz) ?_
  refine jv_Wp.lift (fun _ Kz => jv_Ev.br jv_i331 (pc' := 15) (st' := []) rfl (by rfl) Kz) ?_
  refine jv_Wp.lift (fun _ Kz => jv_Ev.steps jv_i331 2 (pc' := 18) (l' := [(0, .ref 180), (1, .int x), (2, .int (8 : Int32))]) (st' := [.int (8 : Int32), .int (8 : Int32)]) rfl Kz) ?_
  refine jv_Wp.lift (fun _ Kz => jv_Ev.br jv_i331 (pc' := 21) (st' := []) rfl (by rfl) Kz) ?_
  refine jv_Wp.lift (fun _ Kz => jv_Ev.steps jv_i331 5 (pc' := 29) (l' := [(3, .int (1 : Int32)), (0, .ref 180), (1, .int x), (2, .int (8 : Int32))]) (st' := [.int (1 : Int32), .ref 180]) rfl Kz) ?_
  refine jv_Wp.lift (fun _ Kz => jv_Ev.br jv_i331 (pc' := 36) (st' := [.ref 180]) rfl (by rfl) Kz) ?_
  refine jv_Wp.lift (fun _ Kz => jv_Ev.steps jv_i331 1 (pc' := 37) (l' := [(3, .int (1 : Int32)), (0, .ref 180), (1, .int x), (2, .int (8 : Int32))]) (st' := [.int x, .ref 180]) rfl Kz) ?_
  refine jv_Wp.cnd jv_i331 (pt := 48) (pe := 40) (p := (x < 0)) (q := (x < 0)) rfl jv_bi_lt rfl rfl Iff.rfl (fun h1 => ?_) (fun h1 => ?_)
  · refine jv_Wp.lift (fun _ Kz => jv_Ev.steps jv_i331 2 (pc' := 53) (l' := [(3, .int (1 : Int32)), (0, .ref 180), (1, .int x), (2, .int (8 : Int32))]) (st' := [.int (1 : Int32), .ref 180]) rfl Kz) ?_
    refine jv_Wp.lift (fun _ Kz => jv_Ev.m jv_i331 (pc' := 56) (st' := []) (G' := (jv_H K (jv_u I 180 0 (1 : Int32)) L R)) rfl rfl (jv_m_putI (jv_rwK hW 180 13 22 (by decide)) rfl rfl rfl rfl) Kz) ?_
    refine jv_Wp.lift (fun _ Kz => jv_Ev.steps jv_i331 1 (pc' := 57) (l' := [(3, .int (1 : Int32)), (0, .ref 180), (1, .int x), (2, .int (8 : Int32))]) (st' := [.ref 180]) rfl Kz) ?_
    refine jv_Wp.lift (fun _ Kz => jv_Ev.m jv_i331 (pc' := 60) (st' := [.int (1 : Int32)]) (G' := (jv_H K (jv_u I 180 0 (1 : Int32)) L R)) rfl rfl (jv_m_getI (jv_rwK hW 180 13 22 (by decide)) rfl rfl (jv_u_self _ _ _ _)) Kz) ?_
    refine jv_Wp.lift (fun _ Kz => jv_Ev.br jv_i331 (pc' := 63) (st' := []) rfl (by rfl) Kz) ?_
    refine jv_Wp.lift (fun _ Kz => jv_Ev.steps jv_i331 2 (pc' := 68) (l' := [(3, .int (1 : Int32)), (0, .ref 180), (1, .int x), (2, .int (8 : Int32))]) (st' := [.int (1 : Int32)]) rfl Kz) ?_
    refine jv_Wp.of (jv_Ev.ret jv_i331 rfl (jv_ret_b (Or.inr rfl))) ?_
    exact hQ
  · refine jv_Wp.lift (fun _ Kz => jv_Ev.steps jv_i331 4 (pc' := 45) (l' := [(3, .int (1 : Int32)), (0, .ref 180), (1, .int x), (2, .int (8 : Int32))]) (st' := [.int ((65536 : Int32) - (8 : Int32)), .int x, .ref 180]) rfl Kz) ?_
    refine jv_Wp.cnd jv_i331 (pt := 52) (pe := 48) (p := (x ≤ ((65536 : Int32) - (8 : Int32)))) (q := (x ≤ ((65536 : Int32) - (8 : Int32)))) rfl jv_bc_le rfl rfl Iff.rfl (fun h2 => ?_) (fun h2 => ?_)
    · refine jv_Wp.lift (fun _ Kz => jv_Ev.steps jv_i331 1 (pc' := 53) (l' := [(3, .int (1 : Int32)), (0, .ref 180), (1, .int x), (2, .int (8 : Int32))]) (st' := [.int (0 : Int32), .ref 180]) rfl Kz) ?_
      refine jv_Wp.lift (fun _ Kz => jv_Ev.m jv_i331 (pc' := 56) (st' := []) (G' := (jv_H K (jv_u I 180 0 (0 : Int32)) L R)) rfl rfl (jv_m_putI (jv_rwK hW 180 13 22 (by decide)) rfl rfl rfl rfl) Kz) ?_
      refine jv_Wp.lift (fun _ Kz => jv_Ev.steps jv_i331 1 (pc' := 57) (l' := [(3, .int (1 : Int32)), (0, .ref 180), (1, .int x), (2, .int (8 : Int32))]) (st' := [.ref 180]) rfl Kz) ?_
      refine jv_Wp.lift (fun _ Kz => jv_Ev.m jv_i331 (pc' := 60) (st' := [.int (0 : Int32)]) (G' := (jv_H K (jv_u I 180 0 (0 : Int32)) L R)) rfl rfl (jv_m_getI (jv_rwK hW 180 13 22 (by decide)) rfl rfl (jv_u_self _ _ _ _)) Kz) ?_
      refine jv_Wp.lift (fun _ Kz => jv_Ev.br jv_i331 (pc' := 67) (st' := []) rfl (by rfl) Kz) ?_
      refine jv_Wp.lift (fun _ Kz => jv_Ev.steps jv_i331 1 (pc' := 68) (l' := [(3, .int (1 : Int32)), (0, .ref 180), (1, .int x), (2, .int (8 : Int32))]) (st' := [.int (0 : Int32)]) rfl Kz) ?_
      refine jv_Wp.of (jv_Ev.ret jv_i331 rfl (jv_ret_b (Or.inl rfl))) ?_
      exact absurd (vr_ar8 h1 h2) hd
    · refine jv_Wp.lift (fun _ Kz => jv_Ev.steps jv_i331 2 (pc' := 53) (l' := [(3, .int (1 : Int32)), (0, .ref 180), (1, .int x), (2, .int (8 : Int32))]) (st' := [.int (1 : Int32), .ref 180]) rfl Kz) ?_
      refine jv_Wp.lift (fun _ Kz => jv_Ev.m jv_i331 (pc' := 56) (st' := []) (G' := (jv_H K (jv_u I 180 0 (1 : Int32)) L R)) rfl rfl (jv_m_putI (jv_rwK hW 180 13 22 (by decide)) rfl rfl rfl rfl) Kz) ?_
      refine jv_Wp.lift (fun _ Kz => jv_Ev.steps jv_i331 1 (pc' := 57) (l' := [(3, .int (1 : Int32)), (0, .ref 180), (1, .int x), (2, .int (8 : Int32))]) (st' := [.ref 180]) rfl Kz) ?_
      refine jv_Wp.lift (fun _ Kz => jv_Ev.m jv_i331 (pc' := 60) (st' := [.int (1 : Int32)]) (G' := (jv_H K (jv_u I 180 0 (1 : Int32)) L R)) rfl rfl (jv_m_getI (jv_rwK hW 180 13 22 (by decide)) rfl rfl (jv_u_self _ _ _ _)) Kz) ?_
      refine jv_Wp.lift (fun _ Kz => jv_Ev.br jv_i331 (pc' := 63) (st' := []) rfl (by rfl) Kz) ?_
      refine jv_Wp.lift (fun _ Kz => jv_Ev.steps jv_i331 2 (pc' := 68) (l' := [(3, .int (1 : Int32)), (0, .ref 180), (1, .int x), (2, .int (8 : Int32))]) (st' := [.int (1 : Int32)]) rfl Kz) ?_
      refine jv_Wp.of (jv_Ev.ret jv_i331 rfl (jv_ret_b (Or.inr rfl))) ?_
      exact hQ
theorem vr_noArea_n {K : Nat → Option (Nat × Nat)} {I : Nat → Nat → Int32} {L : Nat → Nat → Int64} {R : Nat → Nat → Value} (hW : jv_rW K R) {x : Int32} (hd : ¬ (0 ≤ x.toInt ∧ x.toInt ≤ 65528)) {n sl : Nat} : jv_Ms 331 [.ref 180, .int x, .int (8 : Int32)] (jv_H K I L R) n sl (some (.int (1 : Int32)), jv_H K (jv_u I 180 0 (1 : Int32)) L R, n, sl) := by
  obtain ⟨X, k, e⟩ := vr_noArea_n_0 (n := n) (sl := sl) (I := I) (L := L) (R := R) (Q := fun X => X = (some (.int (1 : Int32)), jv_H K (jv_u I 180 0 (1 : Int32)) L R, n, sl)) hW hd rfl
  subst e
  exact k
theorem jv_i332 : jv_I 332 3 (some .long) 1 25 jv_c332 := ⟨rfl, rfl, rfl, rfl, rfl⟩
theorem vr_load_n_0 {K : Nat → Option (Nat × Nat)} {I : Nat → Nat → Int32} {L : Nat → Nat → Int64} {R : Nat → Nat → Value} (hW : jv_rW K R) {x : Int32} (hd : ¬ (0 ≤ x.toInt ∧ x.toInt ≤ 65528)) {n sl : Nat} {Q : jv_R → Prop} (hQ : Q (some (.long (0 : Int64)), jv_H K (jv_u I 180 0 (1 : Int32)) L R, n, sl)) : jv_Wp 332 0 [(0, .ref 180), (1, .int x), (2, .int (8 : Int32))] [] (jv_H K I L R) n sl Q := by
  refine jv_Wp.lift (fun _ Kz => jv_Ev.steps jv_i332 3 (pc' := 3) (l' := [(0, .ref 180), (1, .int x), (2, .int (8 : Int32))]) (st' := [.int (8 : Int32), .int x, .ref 180]) rfl Kz) ?_
  refine jv_Wp.lift (fun _ Kz => jv_Ev.c jv_i332 (pc' := 6) (S' := [.int (1 : Int32)]) (G1 := (jv_H K (jv_u I 180 0 (1 : Int32)) L R)) jv_i331 [.ref 180, .int x, .int (8 : Int32)] rfl rfl rfl rfl (jv_cal rfl (jv_H_at (jv_rwK hW 180 13 22 (by decide))) rfl rfl) rfl (vr_noArea_n hW hd) rfl rfl Kz) ?_
  refine jv_Wp.lift (fun _ Kz => jv_Ev.br jv_i332 (pc' := 9) (st' := []) rfl (by rfl) Kz) ?_
  refine jv_Wp.lift (fun _ Kz => jv_Ev.steps jv_i332 2 (pc' := 22) (l' := [(0, .ref 180), (1, .int x), (2, .int (8 : Int32))]) (st' := [.long (0 : Int64)]) rfl Kz) ?_
  refine jv_Wp.of (jv_Ev.ret jv_i332 rfl rfl) ?_
  exact hQ
theorem vr_load_n {K : Nat → Option (Nat × Nat)} {I : Nat → Nat → Int32} {L : Nat → Nat → Int64} {R : Nat → Nat → Value} (hW : jv_rW K R) {x : Int32} (hd : ¬ (0 ≤ x.toInt ∧ x.toInt ≤ 65528)) {n sl : Nat} : jv_Ms 332 [.ref 180, .int x, .int (8 : Int32)] (jv_H K I L R) n sl (some (.long (0 : Int64)), jv_H K (jv_u I 180 0 (1 : Int32)) L R, n, sl) := by
  obtain ⟨X, k, e⟩ := vr_load_n_0 (n := n) (sl := sl) (I := I) (L := L) (R := R) (Q := fun X => X = (some (.long (0 : Int64)), jv_H K (jv_u I 180 0 (1 : Int32)) L R, n, sl)) hW hd rfl
  subst e
  exact k
theorem vr_load_y_0 {K : Nat → Option (Nat × Nat)} {I : Nat → Nat → Int32} {L : Nat → Nat → Int64} {R : Nat → Nat → Value} (hW : jv_rW K R) {x : Int32} {v : Int64} (hd : 0 ≤ x.toInt ∧ x.toInt ≤ 65528) (hN : ∀ n sl, jv_Ms 327 [.ref 182, .int x, .int (8 : Int32)] (jv_H K (jv_u I 180 0 (0 : Int32)) L R) n sl (some (.long v), jv_H K (jv_u I 180 0 (0 : Int32)) L R, n, sl)) {n sl : Nat} {Q : jv_R → Prop} (hQ : Q (some (.long v), jv_H K (jv_u I 180 0 (0 : Int32)) L R, n, sl)) : jv_Wp 332 0 [(0, .ref 180), (1, .int x), (2, .int (8 : Int32))] [] (jv_H K I L R) n sl Q := by
  refine jv_Wp.lift (fun _ Kz => jv_Ev.steps jv_i332 3 (pc' := 3) (l' := [(0, .ref 180), (1, .int x), (2, .int (8 : Int32))]) (st' := [.int (8 : Int32), .int x, .ref 180]) rfl Kz) ?_
  refine jv_Wp.lift (fun _ Kz => jv_Ev.c jv_i332 (pc' := 6) (S' := [.int (0 : Int32)]) (G1 := (jv_H K (jv_u I 180 0 (0 : Int32)) L R)) jv_i331 [.ref 180, .int x, .int (8 : Int32)] rfl rfl rfl rfl (jv_cal rfl (jv_H_at (jv_rwK hW 180 13 22 (by decide))) rfl rfl) rfl (vr_noArea_y hW hd) rfl rfl Kz) ?_
  refine jv_Wp.lift (fun _ Kz => jv_Ev.br jv_i332 (pc' := 13) (st' := []) rfl (by rfl) Kz) ?_
  refine jv_Wp.lift (fun _ Kz => jv_Ev.steps jv_i332 1 (pc' := 14) (l' := [(0, .ref 180), (1, .int x), (2, .int (8 : Int32))]) (st' := [.ref 180]) rfl Kz) ?_
  refine jv_Wp.lift (fun _ Kz => jv_Ev.m jv_i332 (pc' := 17) (st' := [.ref 182]) (G' := (jv_H K (jv_u I 180 0 (0 : Int32)) L R)) rfl rfl (jv_m_getR (jv_rwK hW 180 13 22 (by decide)) rfl rfl (jv_rwR hW 180 3 182 (by decide))) Kz) ?_
  refine jv_Wp.lift (fun _ Kz => jv_Ev.steps jv_i332 2 (pc' := 19) (l' := [(0, .ref 180), (1, .int x), (2, .int (8 : Int32))]) (st' := [.int (8 : Int32), .int x, .ref 182]) rfl Kz) ?_
  refine jv_Wp.lift (fun _ Kz => jv_Ev.c jv_i332 (pc' := 22) (S' := [.long v]) jv_i327 [.ref 182, .int x, .int (8 : Int32)] rfl rfl rfl rfl rfl rfl (hN n sl) rfl rfl Kz) ?_
  refine jv_Wp.of (jv_Ev.ret jv_i332 rfl rfl) ?_
  exact hQ
theorem vr_load_y {K : Nat → Option (Nat × Nat)} {I : Nat → Nat → Int32} {L : Nat → Nat → Int64} {R : Nat → Nat → Value} (hW : jv_rW K R) {x : Int32} {v : Int64} (hd : 0 ≤ x.toInt ∧ x.toInt ≤ 65528) (hN : ∀ n sl, jv_Ms 327 [.ref 182, .int x, .int (8 : Int32)] (jv_H K (jv_u I 180 0 (0 : Int32)) L R) n sl (some (.long v), jv_H K (jv_u I 180 0 (0 : Int32)) L R, n, sl)) {n sl : Nat} : jv_Ms 332 [.ref 180, .int x, .int (8 : Int32)] (jv_H K I L R) n sl (some (.long v), jv_H K (jv_u I 180 0 (0 : Int32)) L R, n, sl) := by
  obtain ⟨X, k, e⟩ := vr_load_y_0 (n := n) (sl := sl) (I := I) (L := L) (R := R) (Q := fun X => X = (some (.long v), jv_H K (jv_u I 180 0 (0 : Int32)) L R, n, sl)) hW hd hN rfl
  subst e
  exact k
theorem jv_i318 : jv_I 318 1 (some .int) 0 0 jv_c318 := ⟨rfl, rfl, rfl, rfl, rfl⟩
theorem jv_i325 : jv_I 325 4 (some .int) 1 21 jv_c325 := ⟨rfl, rfl, rfl, rfl, rfl⟩
theorem jv_i347 : jv_I 347 7 (some .int) 2 49 jv_c347 := ⟨rfl, rfl, rfl, rfl, rfl⟩
theorem jv_i348 : jv_I 348 6 (some .int) 2 49 jv_c348 := ⟨rfl, rfl, rfl, rfl, rfl⟩
theorem vr_thrown_0 {K : Nat → Option (Nat × Nat)} {I : Nat → Nat → Int32} {L : Nat → Nat → Int64} {R : Nat → Nat → Value} (hW : jv_rW K R) {c : Int32} (hc : I 180 0 = c) {n sl : Nat} {Q : jv_R → Prop} (hQ : Q (some (.int c), jv_H K I L R, n, sl)) : jv_Wp 318 0 [(0, .ref 180)] [] (jv_H K I L R) n sl Q := by
  refine jv_Wp.lift (fun _ Kz => jv_Ev.steps jv_i318 1 (pc' := 1) (l' := [(0, .ref 180)]) (st' := [.ref 180]) rfl Kz) ?_
  refine jv_Wp.lift (fun _ Kz => jv_Ev.m jv_i318 (pc' := 4) (st' := [.int c]) (G' := (jv_H K I L R)) rfl rfl (jv_m_getI (jv_rwK hW 180 13 22 (by decide)) rfl rfl hc) Kz) ?_
  refine jv_Wp.of (jv_Ev.ret jv_i318 rfl rfl) ?_
  exact hQ
theorem vr_thrown {K : Nat → Option (Nat × Nat)} {I : Nat → Nat → Int32} {L : Nat → Nat → Int64} {R : Nat → Nat → Value} (hW : jv_rW K R) {c : Int32} (hc : I 180 0 = c) {n sl : Nat} : jv_Ms 318 [.ref 180] (jv_H K I L R) n sl (some (.int c), jv_H K I L R, n, sl) := by
  obtain ⟨X, k, e⟩ := vr_thrown_0 (n := n) (sl := sl) (I := I) (L := L) (R := R) (Q := fun X => X = (some (.int c), jv_H K I L R, n, sl)) hW hc rfl
  subst e
  exact k
theorem jv_i408 : jv_I 408 3 (some .int) 2 44 jv_c408 := ⟨rfl, rfl, rfl, rfl, rfl⟩
theorem vr_f_used_0 {K : Nat → Option (Nat × Nat)} {I : Nat → Nat → Int32} {L : Nat → Nat → Int64} {R : Nat → Nat → Value} (hW : jv_rW K R) {x : Int32} {r0 : Int32} {c : Int32} {I1 : Nat → Nat → Int32} {L1 : Nat → Nat → Int64} (hS : ∀ n sl, jv_Ms 325 [.ref 180, .int x] (jv_H K I L R) n sl (some (.int r0), jv_H K I1 L1 R, n, sl)) (hc : I1 180 0 = c) {n sl : Nat} {Q : jv_R → Prop} (hQ : Q (some (.int r0), jv_H K (jv_u I1 178 0 c) L1 R, n, sl)) : jv_Wp 408 0 [(0, .ref 178), (1, .int x)] [] (jv_H K I L R) n sl Q := by
  refine jv_Wp.lift (fun _ Kz => jv_Ev.steps jv_i408 1 (pc' := 1) (l' := [(0, .ref 178), (1, .int x)]) (st' := [.ref 178]) rfl Kz) ?_
  refine jv_Wp.lift (fun _ Kz => jv_Ev.m jv_i408 (pc' := 4) (st' := [.ref 180]) (G' := (jv_H K I L R)) rfl rfl (jv_m_getR (jv_rwK hW 178 14 31 (by decide)) rfl rfl (jv_rwR hW 178 3 180 (by decide))) Kz) ?_
  refine jv_Wp.lift (fun _ Kz => jv_Ev.steps jv_i408 1 (pc' := 5) (l' := [(0, .ref 178), (1, .int x)]) (st' := [.int x, .ref 180]) rfl Kz) ?_
  refine jv_Wp.lift (fun _ Kz => jv_Ev.c jv_i408 (pc' := 8) (S' := [.int r0]) (G1 := (jv_H K I1 L1 R)) jv_i325 [.ref 180, .int x] rfl rfl rfl rfl (jv_cal rfl (jv_H_at (jv_rwK hW 180 13 22 (by decide))) rfl rfl) rfl (hS n sl) rfl rfl Kz) ?_
  refine jv_Wp.lift (fun _ Kz => jv_Ev.steps jv_i408 3 (pc' := 11) (l' := [(2, .int r0), (0, .ref 178), (1, .int x)]) (st' := [.ref 178, .ref 178]) rfl Kz) ?_
  refine jv_Wp.lift (fun _ Kz => jv_Ev.m jv_i408 (pc' := 14) (st' := [.ref 180, .ref 178]) (G' := (jv_H K I1 L1 R)) rfl rfl (jv_m_getR (jv_rwK hW 178 14 31 (by decide)) rfl rfl (jv_rwR hW 178 3 180 (by decide))) Kz) ?_
  refine jv_Wp.lift (fun _ Kz => jv_Ev.c jv_i408 (pc' := 17) (S' := [.int c, .ref 178]) jv_i318 [.ref 180] rfl rfl rfl rfl (jv_cal rfl (jv_H_at (jv_rwK hW 180 13 22 (by decide))) rfl rfl) rfl (vr_thrown hW hc) rfl rfl Kz) ?_
  refine jv_Wp.lift (fun _ Kz => jv_Ev.m jv_i408 (pc' := 20) (st' := []) (G' := (jv_H K (jv_u I1 178 0 c) L1 R)) rfl rfl (jv_m_putI (jv_rwK hW 178 14 31 (by decide)) rfl rfl rfl rfl) Kz) ?_
  refine jv_Wp.lift (fun _ Kz => jv_Ev.steps jv_i408 1 (pc' := 21) (l' := [(2, .int r0), (0, .ref 178), (1, .int x)]) (st' := [.int r0]) rfl Kz) ?_
  refine jv_Wp.of (jv_Ev.ret jv_i408 rfl rfl) ?_
  exact hQ
theorem vr_f_used {K : Nat → Option (Nat × Nat)} {I : Nat → Nat → Int32} {L : Nat → Nat → Int64} {R : Nat → Nat → Value} (hW : jv_rW K R) {x : Int32} {r0 : Int32} {c : Int32} {I1 : Nat → Nat → Int32} {L1 : Nat → Nat → Int64} (hS : ∀ n sl, jv_Ms 325 [.ref 180, .int x] (jv_H K I L R) n sl (some (.int r0), jv_H K I1 L1 R, n, sl)) (hc : I1 180 0 = c) {n sl : Nat} : jv_Ms 408 [.ref 178, .int x] (jv_H K I L R) n sl (some (.int r0), jv_H K (jv_u I1 178 0 c) L1 R, n, sl) := by
  obtain ⟨X, k, e⟩ := vr_f_used_0 (n := n) (sl := sl) (I := I) (L := L) (R := R) (Q := fun X => X = (some (.int r0), jv_H K (jv_u I1 178 0 c) L1 R, n, sl)) hW hS hc rfl
  subst e
  exact k
theorem jv_i409 : jv_I 409 4 none 2 48 jv_c409 := ⟨rfl, rfl, rfl, rfl, rfl⟩
theorem vr_f_lay_0 {K : Nat → Option (Nat × Nat)} {I : Nat → Nat → Int32} {L : Nat → Nat → Int64} {R : Nat → Nat → Value} (hW : jv_rW K R) {x : Int32} {v : Int64} {c : Int32} {I1 : Nat → Nat → Int32} {L1 : Nat → Nat → Int64} (hS : ∀ n sl, jv_Ms 330 [.ref 180, .int x, .long v] (jv_H K I L R) n sl (none, jv_H K I1 L1 R, n, sl)) (hc : I1 180 0 = c) {n sl : Nat} {Q : jv_R → Prop} (hQ : Q (none, jv_H K (jv_u I1 178 0 c) L1 R, n, sl)) : jv_Wp 409 0 [(0, .ref 178), (1, .int x), (2, .long v)] [] (jv_H K I L R) n sl Q := by
  refine jv_Wp.lift (fun _ Kz => jv_Ev.steps jv_i409 1 (pc' := 1) (l' := [(0, .ref 178), (1, .int x), (2, .long v)]) (st' := [.ref 178]) rfl Kz) ?_
  refine jv_Wp.lift (fun _ Kz => jv_Ev.m jv_i409 (pc' := 4) (st' := [.ref 180]) (G' := (jv_H K I L R)) rfl rfl (jv_m_getR (jv_rwK hW 178 14 31 (by decide)) rfl rfl (jv_rwR hW 178 3 180 (by decide))) Kz) ?_
  refine jv_Wp.lift (fun _ Kz => jv_Ev.steps jv_i409 2 (pc' := 6) (l' := [(0, .ref 178), (1, .int x), (2, .long v)]) (st' := [.long v, .int x, .ref 180]) rfl Kz) ?_
  refine jv_Wp.lift (fun _ Kz => jv_Ev.c jv_i409 (pc' := 9) (S' := []) (G1 := (jv_H K I1 L1 R)) jv_i330 [.ref 180, .int x, .long v] rfl rfl rfl rfl (jv_cal rfl (jv_H_at (jv_rwK hW 180 13 22 (by decide))) rfl rfl) rfl (hS n sl) rfl rfl Kz) ?_
  refine jv_Wp.lift (fun _ Kz => jv_Ev.steps jv_i409 2 (pc' := 11) (l' := [(0, .ref 178), (1, .int x), (2, .long v)]) (st' := [.ref 178, .ref 178]) rfl Kz) ?_
  refine jv_Wp.lift (fun _ Kz => jv_Ev.m jv_i409 (pc' := 14) (st' := [.ref 180, .ref 178]) (G' := (jv_H K I1 L1 R)) rfl rfl (jv_m_getR (jv_rwK hW 178 14 31 (by decide)) rfl rfl (jv_rwR hW 178 3 180 (by decide))) Kz) ?_
  refine jv_Wp.lift (fun _ Kz => jv_Ev.c jv_i409 (pc' := 17) (S' := [.int c, .ref 178]) jv_i318 [.ref 180] rfl rfl rfl rfl (jv_cal rfl (jv_H_at (jv_rwK hW 180 13 22 (by decide))) rfl rfl) rfl (vr_thrown hW hc) rfl rfl Kz) ?_
  refine jv_Wp.lift (fun _ Kz => jv_Ev.m jv_i409 (pc' := 20) (st' := []) (G' := (jv_H K (jv_u I1 178 0 c) L1 R)) rfl rfl (jv_m_putI (jv_rwK hW 178 14 31 (by decide)) rfl rfl rfl rfl) Kz) ?_
  refine jv_Wp.of (jv_Ev.ret jv_i409 rfl rfl) ?_
  exact hQ
theorem vr_f_lay {K : Nat → Option (Nat × Nat)} {I : Nat → Nat → Int32} {L : Nat → Nat → Int64} {R : Nat → Nat → Value} (hW : jv_rW K R) {x : Int32} {v : Int64} {c : Int32} {I1 : Nat → Nat → Int32} {L1 : Nat → Nat → Int64} (hS : ∀ n sl, jv_Ms 330 [.ref 180, .int x, .long v] (jv_H K I L R) n sl (none, jv_H K I1 L1 R, n, sl)) (hc : I1 180 0 = c) {n sl : Nat} : jv_Ms 409 [.ref 178, .int x, .long v] (jv_H K I L R) n sl (none, jv_H K (jv_u I1 178 0 c) L1 R, n, sl) := by
  obtain ⟨X, k, e⟩ := vr_f_lay_0 (n := n) (sl := sl) (I := I) (L := L) (R := R) (Q := fun X => X = (none, jv_H K (jv_u I1 178 0 c) L1 R, n, sl)) hW hS hc rfl
  subst e
  exact k
theorem jv_i410 : jv_I 410 4 (some .long) 2 46 jv_c410 := ⟨rfl, rfl, rfl, rfl, rfl⟩
theorem vr_f_desk_0 {K : Nat → Option (Nat × Nat)} {I : Nat → Nat → Int32} {L : Nat → Nat → Int64} {R : Nat → Nat → Value} (hW : jv_rW K R) {x : Int32} {r0 : Int64} {c : Int32} {I1 : Nat → Nat → Int32} {L1 : Nat → Nat → Int64} (hS : ∀ n sl, jv_Ms 329 [.ref 180, .int x] (jv_H K I L R) n sl (some (.long r0), jv_H K I1 L1 R, n, sl)) (hc : I1 180 0 = c) {n sl : Nat} {Q : jv_R → Prop} (hQ : Q (some (.long r0), jv_H K (jv_u I1 178 0 c) L1 R, n, sl)) : jv_Wp 410 0 [(0, .ref 178), (1, .int x)] [] (jv_H K I L R) n sl Q := by
  refine jv_Wp.lift (fun _ Kz => jv_Ev.steps jv_i410 1 (pc' := 1) (l' := [(0, .ref 178), (1, .int x)]) (st' := [.ref 178]) rfl Kz) ?_
  refine jv_Wp.lift (fun _ Kz => jv_Ev.m jv_i410 (pc' := 4) (st' := [.ref 180]) (G' := (jv_H K I L R)) rfl rfl (jv_m_getR (jv_rwK hW 178 14 31 (by decide)) rfl rfl (jv_rwR hW 178 3 180 (by decide))) Kz) ?_
  refine jv_Wp.lift (fun _ Kz => jv_Ev.steps jv_i410 1 (pc' := 5) (l' := [(0, .ref 178), (1, .int x)]) (st' := [.int x, .ref 180]) rfl Kz) ?_
  refine jv_Wp.lift (fun _ Kz => jv_Ev.c jv_i410 (pc' := 8) (S' := [.long r0]) (G1 := (jv_H K I1 L1 R)) jv_i329 [.ref 180, .int x] rfl rfl rfl rfl (jv_cal rfl (jv_H_at (jv_rwK hW 180 13 22 (by decide))) rfl rfl) rfl (hS n sl) rfl rfl Kz) ?_
  refine jv_Wp.lift (fun _ Kz => jv_Ev.steps jv_i410 3 (pc' := 11) (l' := [(2, .long r0), (0, .ref 178), (1, .int x)]) (st' := [.ref 178, .ref 178]) rfl Kz) ?_
  refine jv_Wp.lift (fun _ Kz => jv_Ev.m jv_i410 (pc' := 14) (st' := [.ref 180, .ref 178]) (G' := (jv_H K I1 L1 R)) rfl rfl (jv_m_getR (jv_rwK hW 178 14 31 (by decide)) rfl rfl (jv_rwR hW 178 3 180 (by decide))) Kz) ?_
  refine jv_Wp.lift (fun _ Kz => jv_Ev.c jv_i410 (pc' := 17) (S' := [.int c, .ref 178]) jv_i318 [.ref 180] rfl rfl rfl rfl (jv_cal rfl (jv_H_at (jv_rwK hW 180 13 22 (by decide))) rfl rfl) rfl (vr_thrown hW hc) rfl rfl Kz) ?_
  refine jv_Wp.lift (fun _ Kz => jv_Ev.m jv_i410 (pc' := 20) (st' := []) (G' := (jv_H K (jv_u I1 178 0 c) L1 R)) rfl rfl (jv_m_putI (jv_rwK hW 178 14 31 (by decide)) rfl rfl rfl rfl) Kz) ?_
  refine jv_Wp.lift (fun _ Kz => jv_Ev.steps jv_i410 1 (pc' := 21) (l' := [(2, .long r0), (0, .ref 178), (1, .int x)]) (st' := [.long r0]) rfl Kz) ?_
  refine jv_Wp.of (jv_Ev.ret jv_i410 rfl rfl) ?_
  exact hQ
theorem vr_f_desk {K : Nat → Option (Nat × Nat)} {I : Nat → Nat → Int32} {L : Nat → Nat → Int64} {R : Nat → Nat → Value} (hW : jv_rW K R) {x : Int32} {r0 : Int64} {c : Int32} {I1 : Nat → Nat → Int32} {L1 : Nat → Nat → Int64} (hS : ∀ n sl, jv_Ms 329 [.ref 180, .int x] (jv_H K I L R) n sl (some (.long r0), jv_H K I1 L1 R, n, sl)) (hc : I1 180 0 = c) {n sl : Nat} : jv_Ms 410 [.ref 178, .int x] (jv_H K I L R) n sl (some (.long r0), jv_H K (jv_u I1 178 0 c) L1 R, n, sl) := by
  obtain ⟨X, k, e⟩ := vr_f_desk_0 (n := n) (sl := sl) (I := I) (L := L) (R := R) (Q := fun X => X = (some (.long r0), jv_H K (jv_u I1 178 0 c) L1 R, n, sl)) hW hS hc rfl
  subst e
  exact k
theorem jv_i411 : jv_I 411 4 (some .long) 2 47 jv_c411 := ⟨rfl, rfl, rfl, rfl, rfl⟩
theorem vr_f_area_0 {K : Nat → Option (Nat × Nat)} {I : Nat → Nat → Int32} {L : Nat → Nat → Int64} {R : Nat → Nat → Value} (hW : jv_rW K R) {x : Int32} {r0 : Int64} {c : Int32} {I1 : Nat → Nat → Int32} {L1 : Nat → Nat → Int64} (hS : ∀ n sl, jv_Ms 332 [.ref 180, .int x, .int (8 : Int32)] (jv_H K I L R) n sl (some (.long r0), jv_H K I1 L1 R, n, sl)) (hc : I1 180 0 = c) {n sl : Nat} {Q : jv_R → Prop} (hQ : Q (some (.long r0), jv_H K (jv_u I1 178 0 c) L1 R, n, sl)) : jv_Wp 411 0 [(0, .ref 178), (1, .int x)] [] (jv_H K I L R) n sl Q := by
  refine jv_Wp.lift (fun _ Kz => jv_Ev.steps jv_i411 1 (pc' := 1) (l' := [(0, .ref 178), (1, .int x)]) (st' := [.ref 178]) rfl Kz) ?_
  refine jv_Wp.lift (fun _ Kz => jv_Ev.m jv_i411 (pc' := 4) (st' := [.ref 180]) (G' := (jv_H K I L R)) rfl rfl (jv_m_getR (jv_rwK hW 178 14 31 (by decide)) rfl rfl (jv_rwR hW 178 3 180 (by decide))) Kz) ?_
  refine jv_Wp.lift (fun _ Kz => jv_Ev.steps jv_i411 2 (pc' := 7) (l' := [(0, .ref 178), (1, .int x)]) (st' := [.int (8 : Int32), .int x, .ref 180]) rfl Kz) ?_
  refine jv_Wp.lift (fun _ Kz => jv_Ev.c jv_i411 (pc' := 10) (S' := [.long r0]) (G1 := (jv_H K I1 L1 R)) jv_i332 [.ref 180, .int x, .int (8 : Int32)] rfl rfl rfl rfl (jv_cal rfl (jv_H_at (jv_rwK hW 180 13 22 (by decide))) rfl rfl) rfl (hS n sl) rfl rfl Kz) ?_
  refine jv_Wp.lift (fun _ Kz => jv_Ev.steps jv_i411 3 (pc' := 13) (l' := [(2, .long r0), (0, .ref 178), (1, .int x)]) (st' := [.ref 178, .ref 178]) rfl Kz) ?_
  refine jv_Wp.lift (fun _ Kz => jv_Ev.m jv_i411 (pc' := 16) (st' := [.ref 180, .ref 178]) (G' := (jv_H K I1 L1 R)) rfl rfl (jv_m_getR (jv_rwK hW 178 14 31 (by decide)) rfl rfl (jv_rwR hW 178 3 180 (by decide))) Kz) ?_
  refine jv_Wp.lift (fun _ Kz => jv_Ev.c jv_i411 (pc' := 19) (S' := [.int c, .ref 178]) jv_i318 [.ref 180] rfl rfl rfl rfl (jv_cal rfl (jv_H_at (jv_rwK hW 180 13 22 (by decide))) rfl rfl) rfl (vr_thrown hW hc) rfl rfl Kz) ?_
  refine jv_Wp.lift (fun _ Kz => jv_Ev.m jv_i411 (pc' := 22) (st' := []) (G' := (jv_H K (jv_u I1 178 0 c) L1 R)) rfl rfl (jv_m_putI (jv_rwK hW 178 14 31 (by decide)) rfl rfl rfl rfl) Kz) ?_
  refine jv_Wp.lift (fun _ Kz => jv_Ev.steps jv_i411 1 (pc' := 23) (l' := [(2, .long r0), (0, .ref 178), (1, .int x)]) (st' := [.long r0]) rfl Kz) ?_
  refine jv_Wp.of (jv_Ev.ret jv_i411 rfl rfl) ?_
  exact hQ
theorem vr_f_area {K : Nat → Option (Nat × Nat)} {I : Nat → Nat → Int32} {L : Nat → Nat → Int64} {R : Nat → Nat → Value} (hW : jv_rW K R) {x : Int32} {r0 : Int64} {c : Int32} {I1 : Nat → Nat → Int32} {L1 : Nat → Nat → Int64} (hS : ∀ n sl, jv_Ms 332 [.ref 180, .int x, .int (8 : Int32)] (jv_H K I L R) n sl (some (.long r0), jv_H K I1 L1 R, n, sl)) (hc : I1 180 0 = c) {n sl : Nat} : jv_Ms 411 [.ref 178, .int x] (jv_H K I L R) n sl (some (.long r0), jv_H K (jv_u I1 178 0 c) L1 R, n, sl) := by
  obtain ⟨X, k, e⟩ := vr_f_area_0 (n := n) (sl := sl) (I := I) (L := L) (R := R) (Q := fun X => X = (some (.long r0), jv_H K (jv_u I1 178 0 c) L1 R, n, sl)) hW hS hc rfl
  subst e
  exact k
theorem jv_i412 : jv_I 412 4 (some .int) 3 72 jv_c412 := ⟨rfl, rfl, rfl, rfl, rfl⟩
theorem vr_f_find_0 {K : Nat → Option (Nat × Nat)} {I : Nat → Nat → Int32} {L : Nat → Nat → Int64} {R : Nat → Nat → Value} (hW : jv_rW K R) {x : Int32} {y : Int32} {r0 : Int32} {c : Int32} {I1 : Nat → Nat → Int32} {L1 : Nat → Nat → Int64} (hS : ∀ n sl, jv_Ms 337 [.ref 180, .int x, .int y] (jv_H K I L R) n sl (some (.int r0), jv_H K I1 L1 R, n, sl)) (hc : I1 180 0 = c) {n sl : Nat} {Q : jv_R → Prop} (hQ : Q (some (.int r0), jv_H K (jv_u I1 178 0 c) L1 R, n, sl)) : jv_Wp 412 0 [(0, .ref 178), (1, .int x), (2, .int y)] [] (jv_H K I L R) n sl Q := by
  refine jv_Wp.lift (fun _ Kz => jv_Ev.steps jv_i412 1 (pc' := 1) (l' := [(0, .ref 178), (1, .int x), (2, .int y)]) (st' := [.ref 178]) rfl Kz) ?_
  refine jv_Wp.lift (fun _ Kz => jv_Ev.m jv_i412 (pc' := 4) (st' := [.ref 180]) (G' := (jv_H K I L R)) rfl rfl (jv_m_getR (jv_rwK hW 178 14 31 (by decide)) rfl rfl (jv_rwR hW 178 3 180 (by decide))) Kz) ?_
  refine jv_Wp.lift (fun _ Kz => jv_Ev.steps jv_i412 2 (pc' := 6) (l' := [(0, .ref 178), (1, .int x), (2, .int y)]) (st' := [.int y, .int x, .ref 180]) rfl Kz) ?_
  refine jv_Wp.lift (fun _ Kz => jv_Ev.c jv_i412 (pc' := 9) (S' := [.int r0]) (G1 := (jv_H K I1 L1 R)) jv_i337 [.ref 180, .int x, .int y] rfl rfl rfl rfl (jv_cal rfl (jv_H_at (jv_rwK hW 180 13 22 (by decide))) rfl rfl) rfl (hS n sl) rfl rfl Kz) ?_
  refine jv_Wp.lift (fun _ Kz => jv_Ev.steps jv_i412 3 (pc' := 12) (l' := [(3, .int r0), (0, .ref 178), (1, .int x), (2, .int y)]) (st' := [.ref 178, .ref 178]) rfl Kz) ?_
  refine jv_Wp.lift (fun _ Kz => jv_Ev.m jv_i412 (pc' := 15) (st' := [.ref 180, .ref 178]) (G' := (jv_H K I1 L1 R)) rfl rfl (jv_m_getR (jv_rwK hW 178 14 31 (by decide)) rfl rfl (jv_rwR hW 178 3 180 (by decide))) Kz) ?_
  refine jv_Wp.lift (fun _ Kz => jv_Ev.c jv_i412 (pc' := 18) (S' := [.int c, .ref 178]) jv_i318 [.ref 180] rfl rfl rfl rfl (jv_cal rfl (jv_H_at (jv_rwK hW 180 13 22 (by decide))) rfl rfl) rfl (vr_thrown hW hc) rfl rfl Kz) ?_
  refine jv_Wp.lift (fun _ Kz => jv_Ev.m jv_i412 (pc' := 21) (st' := []) (G' := (jv_H K (jv_u I1 178 0 c) L1 R)) rfl rfl (jv_m_putI (jv_rwK hW 178 14 31 (by decide)) rfl rfl rfl rfl) Kz) ?_
  refine jv_Wp.lift (fun _ Kz => jv_Ev.steps jv_i412 1 (pc' := 22) (l' := [(3, .int r0), (0, .ref 178), (1, .int x), (2, .int y)]) (st' := [.int r0]) rfl Kz) ?_
  refine jv_Wp.of (jv_Ev.ret jv_i412 rfl rfl) ?_
  exact hQ
theorem vr_f_find {K : Nat → Option (Nat × Nat)} {I : Nat → Nat → Int32} {L : Nat → Nat → Int64} {R : Nat → Nat → Value} (hW : jv_rW K R) {x : Int32} {y : Int32} {r0 : Int32} {c : Int32} {I1 : Nat → Nat → Int32} {L1 : Nat → Nat → Int64} (hS : ∀ n sl, jv_Ms 337 [.ref 180, .int x, .int y] (jv_H K I L R) n sl (some (.int r0), jv_H K I1 L1 R, n, sl)) (hc : I1 180 0 = c) {n sl : Nat} : jv_Ms 412 [.ref 178, .int x, .int y] (jv_H K I L R) n sl (some (.int r0), jv_H K (jv_u I1 178 0 c) L1 R, n, sl) := by
  obtain ⟨X, k, e⟩ := vr_f_find_0 (n := n) (sl := sl) (I := I) (L := L) (R := R) (Q := fun X => X = (some (.int r0), jv_H K (jv_u I1 178 0 c) L1 R, n, sl)) hW hS hc rfl
  subst e
  exact k
theorem jv_i413 : jv_I 413 6 (some .int) 5 116 jv_c413 := ⟨rfl, rfl, rfl, rfl, rfl⟩
theorem vr_f_update_0 {K : Nat → Option (Nat × Nat)} {I : Nat → Nat → Int32} {L : Nat → Nat → Int64} {R : Nat → Nat → Value} (hW : jv_rW K R) {x : Int32} {y : Int32} {z : Int32} {w : Int32} {r0 : Int32} {c : Int32} {I1 : Nat → Nat → Int32} {L1 : Nat → Nat → Int64} (hS : ∀ n sl, jv_Ms 341 [.ref 180, .int x, .int y, .int z, .int w] (jv_H K I L R) n sl (some (.int r0), jv_H K I1 L1 R, n, sl)) (hc : I1 180 0 = c) {n sl : Nat} {Q : jv_R → Prop} (hQ : Q (some (.int r0), jv_H K (jv_u I1 178 0 c) L1 R, n, sl)) : jv_Wp 413 0 [(0, .ref 178), (1, .int x), (2, .int y), (3, .int z), (4, .int w)] [] (jv_H K I L R) n sl Q := by
  refine jv_Wp.lift (fun _ Kz => jv_Ev.steps jv_i413 1 (pc' := 1) (l' := [(0, .ref 178), (1, .int x), (2, .int y), (3, .int z), (4, .int w)]) (st' := [.ref 178]) rfl Kz) ?_
  refine jv_Wp.lift (fun _ Kz => jv_Ev.m jv_i413 (pc' := 4) (st' := [.ref 180]) (G' := (jv_H K I L R)) rfl rfl (jv_m_getR (jv_rwK hW 178 14 31 (by decide)) rfl rfl (jv_rwR hW 178 3 180 (by decide))) Kz) ?_
  refine jv_Wp.lift (fun _ Kz => jv_Ev.steps jv_i413 4 (pc' := 9) (l' := [(0, .ref 178), (1, .int x), (2, .int y), (3, .int z), (4, .int w)]) (st' := [.int w, .int z, .int y, .int x, .ref 180]) rfl Kz) ?_
  refine jv_Wp.lift (fun _ Kz => jv_Ev.c jv_i413 (pc' := 12) (S' := [.int r0]) (G1 := (jv_H K I1 L1 R)) jv_i341 [.ref 180, .int x, .int y, .int z, .int w] rfl rfl rfl rfl (jv_cal rfl (jv_H_at (jv_rwK hW 180 13 22 (by decide))) rfl rfl) rfl (hS n sl) rfl rfl Kz) ?_
  refine jv_Wp.lift (fun _ Kz => jv_Ev.steps jv_i413 3 (pc' := 16) (l' := [(5, .int r0), (0, .ref 178), (1, .int x), (2, .int y), (3, .int z), (4, .int w)]) (st' := [.ref 178, .ref 178]) rfl Kz) ?_
  refine jv_Wp.lift (fun _ Kz => jv_Ev.m jv_i413 (pc' := 19) (st' := [.ref 180, .ref 178]) (G' := (jv_H K I1 L1 R)) rfl rfl (jv_m_getR (jv_rwK hW 178 14 31 (by decide)) rfl rfl (jv_rwR hW 178 3 180 (by decide))) Kz) ?_
  refine jv_Wp.lift (fun _ Kz => jv_Ev.c jv_i413 (pc' := 22) (S' := [.int c, .ref 178]) jv_i318 [.ref 180] rfl rfl rfl rfl (jv_cal rfl (jv_H_at (jv_rwK hW 180 13 22 (by decide))) rfl rfl) rfl (vr_thrown hW hc) rfl rfl Kz) ?_
  refine jv_Wp.lift (fun _ Kz => jv_Ev.m jv_i413 (pc' := 25) (st' := []) (G' := (jv_H K (jv_u I1 178 0 c) L1 R)) rfl rfl (jv_m_putI (jv_rwK hW 178 14 31 (by decide)) rfl rfl rfl rfl) Kz) ?_
  refine jv_Wp.lift (fun _ Kz => jv_Ev.steps jv_i413 1 (pc' := 27) (l' := [(5, .int r0), (0, .ref 178), (1, .int x), (2, .int y), (3, .int z), (4, .int w)]) (st' := [.int r0]) rfl Kz) ?_
  refine jv_Wp.of (jv_Ev.ret jv_i413 rfl rfl) ?_
  exact hQ
theorem vr_f_update {K : Nat → Option (Nat × Nat)} {I : Nat → Nat → Int32} {L : Nat → Nat → Int64} {R : Nat → Nat → Value} (hW : jv_rW K R) {x : Int32} {y : Int32} {z : Int32} {w : Int32} {r0 : Int32} {c : Int32} {I1 : Nat → Nat → Int32} {L1 : Nat → Nat → Int64} (hS : ∀ n sl, jv_Ms 341 [.ref 180, .int x, .int y, .int z, .int w] (jv_H K I L R) n sl (some (.int r0), jv_H K I1 L1 R, n, sl)) (hc : I1 180 0 = c) {n sl : Nat} : jv_Ms 413 [.ref 178, .int x, .int y, .int z, .int w] (jv_H K I L R) n sl (some (.int r0), jv_H K (jv_u I1 178 0 c) L1 R, n, sl) := by
  obtain ⟨X, k, e⟩ := vr_f_update_0 (n := n) (sl := sl) (I := I) (L := L) (R := R) (Q := fun X => X = (some (.int r0), jv_H K (jv_u I1 178 0 c) L1 R, n, sl)) hW hS hc rfl
  subst e
  exact k
theorem jv_i414 : jv_I 414 4 (some .int) 3 72 jv_c414 := ⟨rfl, rfl, rfl, rfl, rfl⟩
theorem vr_f_remove_0 {K : Nat → Option (Nat × Nat)} {I : Nat → Nat → Int32} {L : Nat → Nat → Int64} {R : Nat → Nat → Value} (hW : jv_rW K R) {x : Int32} {y : Int32} {r0 : Int32} {c : Int32} {I1 : Nat → Nat → Int32} {L1 : Nat → Nat → Int64} (hS : ∀ n sl, jv_Ms 342 [.ref 180, .int x, .int y] (jv_H K I L R) n sl (some (.int r0), jv_H K I1 L1 R, n, sl)) (hc : I1 180 0 = c) {n sl : Nat} {Q : jv_R → Prop} (hQ : Q (some (.int r0), jv_H K (jv_u I1 178 0 c) L1 R, n, sl)) : jv_Wp 414 0 [(0, .ref 178), (1, .int x), (2, .int y)] [] (jv_H K I L R) n sl Q := by
  refine jv_Wp.lift (fun _ Kz => jv_Ev.steps jv_i414 1 (pc' := 1) (l' := [(0, .ref 178), (1, .int x), (2, .int y)]) (st' := [.ref 178]) rfl Kz) ?_
  refine jv_Wp.lift (fun _ Kz => jv_Ev.m jv_i414 (pc' := 4) (st' := [.ref 180]) (G' := (jv_H K I L R)) rfl rfl (jv_m_getR (jv_rwK hW 178 14 31 (by decide)) rfl rfl (jv_rwR hW 178 3 180 (by decide))) Kz) ?_
  refine jv_Wp.lift (fun _ Kz => jv_Ev.steps jv_i414 2 (pc' := 6) (l' := [(0, .ref 178), (1, .int x), (2, .int y)]) (st' := [.int y, .int x, .ref 180]) rfl Kz) ?_
  refine jv_Wp.lift (fun _ Kz => jv_Ev.c jv_i414 (pc' := 9) (S' := [.int r0]) (G1 := (jv_H K I1 L1 R)) jv_i342 [.ref 180, .int x, .int y] rfl rfl rfl rfl (jv_cal rfl (jv_H_at (jv_rwK hW 180 13 22 (by decide))) rfl rfl) rfl (hS n sl) rfl rfl Kz) ?_
  refine jv_Wp.lift (fun _ Kz => jv_Ev.steps jv_i414 3 (pc' := 12) (l' := [(3, .int r0), (0, .ref 178), (1, .int x), (2, .int y)]) (st' := [.ref 178, .ref 178]) rfl Kz) ?_
  refine jv_Wp.lift (fun _ Kz => jv_Ev.m jv_i414 (pc' := 15) (st' := [.ref 180, .ref 178]) (G' := (jv_H K I1 L1 R)) rfl rfl (jv_m_getR (jv_rwK hW 178 14 31 (by decide)) rfl rfl (jv_rwR hW 178 3 180 (by decide))) Kz) ?_
  refine jv_Wp.lift (fun _ Kz => jv_Ev.c jv_i414 (pc' := 18) (S' := [.int c, .ref 178]) jv_i318 [.ref 180] rfl rfl rfl rfl (jv_cal rfl (jv_H_at (jv_rwK hW 180 13 22 (by decide))) rfl rfl) rfl (vr_thrown hW hc) rfl rfl Kz) ?_
  refine jv_Wp.lift (fun _ Kz => jv_Ev.m jv_i414 (pc' := 21) (st' := []) (G' := (jv_H K (jv_u I1 178 0 c) L1 R)) rfl rfl (jv_m_putI (jv_rwK hW 178 14 31 (by decide)) rfl rfl rfl rfl) Kz) ?_
  refine jv_Wp.lift (fun _ Kz => jv_Ev.steps jv_i414 1 (pc' := 22) (l' := [(3, .int r0), (0, .ref 178), (1, .int x), (2, .int y)]) (st' := [.int r0]) rfl Kz) ?_
  refine jv_Wp.of (jv_Ev.ret jv_i414 rfl rfl) ?_
  exact hQ
theorem vr_f_remove {K : Nat → Option (Nat × Nat)} {I : Nat → Nat → Int32} {L : Nat → Nat → Int64} {R : Nat → Nat → Value} (hW : jv_rW K R) {x : Int32} {y : Int32} {r0 : Int32} {c : Int32} {I1 : Nat → Nat → Int32} {L1 : Nat → Nat → Int64} (hS : ∀ n sl, jv_Ms 342 [.ref 180, .int x, .int y] (jv_H K I L R) n sl (some (.int r0), jv_H K I1 L1 R, n, sl)) (hc : I1 180 0 = c) {n sl : Nat} : jv_Ms 414 [.ref 178, .int x, .int y] (jv_H K I L R) n sl (some (.int r0), jv_H K (jv_u I1 178 0 c) L1 R, n, sl) := by
  obtain ⟨X, k, e⟩ := vr_f_remove_0 (n := n) (sl := sl) (I := I) (L := L) (R := R) (Q := fun X => X = (some (.int r0), jv_H K (jv_u I1 178 0 c) L1 R, n, sl)) hW hS hc rfl
  subst e
  exact k
theorem jv_i415 : jv_I 415 4 (some .int) 3 75 jv_c415 := ⟨rfl, rfl, rfl, rfl, rfl⟩
theorem vr_f_take_0 {K : Nat → Option (Nat × Nat)} {I : Nat → Nat → Int32} {L : Nat → Nat → Int64} {R : Nat → Nat → Value} (hW : jv_rW K R) {x : Int32} {y : Int32} {r0 : Int32} {c : Int32} {I1 : Nat → Nat → Int32} {L1 : Nat → Nat → Int64} (hS : ∀ n sl, jv_Ms 347 [.ref 180, .int x, .int y] (jv_H K I L R) n sl (some (.int r0), jv_H K I1 L1 R, n, sl)) (hc : I1 180 0 = c) {n sl : Nat} {Q : jv_R → Prop} (hQ : Q (some (.int r0), jv_H K (jv_u I1 178 0 c) L1 R, n, sl)) : jv_Wp 415 0 [(0, .ref 178), (1, .int x), (2, .int y)] [] (jv_H K I L R) n sl Q := by
  refine jv_Wp.lift (fun _ Kz => jv_Ev.steps jv_i415 1 (pc' := 1) (l' := [(0, .ref 178), (1, .int x), (2, .int y)]) (st' := [.ref 178]) rfl Kz) ?_
  refine jv_Wp.lift (fun _ Kz => jv_Ev.m jv_i415 (pc' := 4) (st' := [.ref 180]) (G' := (jv_H K I L R)) rfl rfl (jv_m_getR (jv_rwK hW 178 14 31 (by decide)) rfl rfl (jv_rwR hW 178 3 180 (by decide))) Kz) ?_
  refine jv_Wp.lift (fun _ Kz => jv_Ev.steps jv_i415 2 (pc' := 6) (l' := [(0, .ref 178), (1, .int x), (2, .int y)]) (st' := [.int y, .int x, .ref 180]) rfl Kz) ?_
  refine jv_Wp.lift (fun _ Kz => jv_Ev.c jv_i415 (pc' := 9) (S' := [.int r0]) (G1 := (jv_H K I1 L1 R)) jv_i347 [.ref 180, .int x, .int y] rfl rfl rfl rfl (jv_cal rfl (jv_H_at (jv_rwK hW 180 13 22 (by decide))) rfl rfl) rfl (hS n sl) rfl rfl Kz) ?_
  refine jv_Wp.lift (fun _ Kz => jv_Ev.steps jv_i415 3 (pc' := 12) (l' := [(3, .int r0), (0, .ref 178), (1, .int x), (2, .int y)]) (st' := [.ref 178, .ref 178]) rfl Kz) ?_
  refine jv_Wp.lift (fun _ Kz => jv_Ev.m jv_i415 (pc' := 15) (st' := [.ref 180, .ref 178]) (G' := (jv_H K I1 L1 R)) rfl rfl (jv_m_getR (jv_rwK hW 178 14 31 (by decide)) rfl rfl (jv_rwR hW 178 3 180 (by decide))) Kz) ?_
  refine jv_Wp.lift (fun _ Kz => jv_Ev.c jv_i415 (pc' := 18) (S' := [.int c, .ref 178]) jv_i318 [.ref 180] rfl rfl rfl rfl (jv_cal rfl (jv_H_at (jv_rwK hW 180 13 22 (by decide))) rfl rfl) rfl (vr_thrown hW hc) rfl rfl Kz) ?_
  refine jv_Wp.lift (fun _ Kz => jv_Ev.m jv_i415 (pc' := 21) (st' := []) (G' := (jv_H K (jv_u I1 178 0 c) L1 R)) rfl rfl (jv_m_putI (jv_rwK hW 178 14 31 (by decide)) rfl rfl rfl rfl) Kz) ?_
  refine jv_Wp.lift (fun _ Kz => jv_Ev.steps jv_i415 1 (pc' := 22) (l' := [(3, .int r0), (0, .ref 178), (1, .int x), (2, .int y)]) (st' := [.int r0]) rfl Kz) ?_
  refine jv_Wp.of (jv_Ev.ret jv_i415 rfl rfl) ?_
  exact hQ
theorem vr_f_take {K : Nat → Option (Nat × Nat)} {I : Nat → Nat → Int32} {L : Nat → Nat → Int64} {R : Nat → Nat → Value} (hW : jv_rW K R) {x : Int32} {y : Int32} {r0 : Int32} {c : Int32} {I1 : Nat → Nat → Int32} {L1 : Nat → Nat → Int64} (hS : ∀ n sl, jv_Ms 347 [.ref 180, .int x, .int y] (jv_H K I L R) n sl (some (.int r0), jv_H K I1 L1 R, n, sl)) (hc : I1 180 0 = c) {n sl : Nat} : jv_Ms 415 [.ref 178, .int x, .int y] (jv_H K I L R) n sl (some (.int r0), jv_H K (jv_u I1 178 0 c) L1 R, n, sl) := by
  obtain ⟨X, k, e⟩ := vr_f_take_0 (n := n) (sl := sl) (I := I) (L := L) (R := R) (Q := fun X => X = (some (.int r0), jv_H K (jv_u I1 178 0 c) L1 R, n, sl)) hW hS hc rfl
  subst e
  exact k
theorem jv_i416 : jv_I 416 5 (some .int) 3 74 jv_c416 := ⟨rfl, rfl, rfl, rfl, rfl⟩
theorem vr_f_next_0 {K : Nat → Option (Nat × Nat)} {I : Nat → Nat → Int32} {L : Nat → Nat → Int64} {R : Nat → Nat → Value} (hW : jv_rW K R) {x : Int32} {y : Int32} {z : Int32} {r0 : Int32} {c : Int32} {I1 : Nat → Nat → Int32} {L1 : Nat → Nat → Int64} (hS : ∀ n sl, jv_Ms 348 [.ref 180, .int x, .int y, .int z] (jv_H K I L R) n sl (some (.int r0), jv_H K I1 L1 R, n, sl)) (hc : I1 180 0 = c) {n sl : Nat} {Q : jv_R → Prop} (hQ : Q (some (.int r0), jv_H K (jv_u I1 178 0 c) L1 R, n, sl)) : jv_Wp 416 0 [(0, .ref 178), (1, .int x), (2, .int y), (3, .int z)] [] (jv_H K I L R) n sl Q := by
  refine jv_Wp.lift (fun _ Kz => jv_Ev.steps jv_i416 1 (pc' := 1) (l' := [(0, .ref 178), (1, .int x), (2, .int y), (3, .int z)]) (st' := [.ref 178]) rfl Kz) ?_
  refine jv_Wp.lift (fun _ Kz => jv_Ev.m jv_i416 (pc' := 4) (st' := [.ref 180]) (G' := (jv_H K I L R)) rfl rfl (jv_m_getR (jv_rwK hW 178 14 31 (by decide)) rfl rfl (jv_rwR hW 178 3 180 (by decide))) Kz) ?_
  refine jv_Wp.lift (fun _ Kz => jv_Ev.steps jv_i416 3 (pc' := 7) (l' := [(0, .ref 178), (1, .int x), (2, .int y), (3, .int z)]) (st' := [.int z, .int y, .int x, .ref 180]) rfl Kz) ?_
  refine jv_Wp.lift (fun _ Kz => jv_Ev.c jv_i416 (pc' := 10) (S' := [.int r0]) (G1 := (jv_H K I1 L1 R)) jv_i348 [.ref 180, .int x, .int y, .int z] rfl rfl rfl rfl (jv_cal rfl (jv_H_at (jv_rwK hW 180 13 22 (by decide))) rfl rfl) rfl (hS n sl) rfl rfl Kz) ?_
  refine jv_Wp.lift (fun _ Kz => jv_Ev.steps jv_i416 3 (pc' := 14) (l' := [(4, .int r0), (0, .ref 178), (1, .int x), (2, .int y), (3, .int z)]) (st' := [.ref 178, .ref 178]) rfl Kz) ?_
  refine jv_Wp.lift (fun _ Kz => jv_Ev.m jv_i416 (pc' := 17) (st' := [.ref 180, .ref 178]) (G' := (jv_H K I1 L1 R)) rfl rfl (jv_m_getR (jv_rwK hW 178 14 31 (by decide)) rfl rfl (jv_rwR hW 178 3 180 (by decide))) Kz) ?_
  refine jv_Wp.lift (fun _ Kz => jv_Ev.c jv_i416 (pc' := 20) (S' := [.int c, .ref 178]) jv_i318 [.ref 180] rfl rfl rfl rfl (jv_cal rfl (jv_H_at (jv_rwK hW 180 13 22 (by decide))) rfl rfl) rfl (vr_thrown hW hc) rfl rfl Kz) ?_
  refine jv_Wp.lift (fun _ Kz => jv_Ev.m jv_i416 (pc' := 23) (st' := []) (G' := (jv_H K (jv_u I1 178 0 c) L1 R)) rfl rfl (jv_m_putI (jv_rwK hW 178 14 31 (by decide)) rfl rfl rfl rfl) Kz) ?_
  refine jv_Wp.lift (fun _ Kz => jv_Ev.steps jv_i416 1 (pc' := 25) (l' := [(4, .int r0), (0, .ref 178), (1, .int x), (2, .int y), (3, .int z)]) (st' := [.int r0]) rfl Kz) ?_
  refine jv_Wp.of (jv_Ev.ret jv_i416 rfl rfl) ?_
  exact hQ
theorem vr_f_next {K : Nat → Option (Nat × Nat)} {I : Nat → Nat → Int32} {L : Nat → Nat → Int64} {R : Nat → Nat → Value} (hW : jv_rW K R) {x : Int32} {y : Int32} {z : Int32} {r0 : Int32} {c : Int32} {I1 : Nat → Nat → Int32} {L1 : Nat → Nat → Int64} (hS : ∀ n sl, jv_Ms 348 [.ref 180, .int x, .int y, .int z] (jv_H K I L R) n sl (some (.int r0), jv_H K I1 L1 R, n, sl)) (hc : I1 180 0 = c) {n sl : Nat} : jv_Ms 416 [.ref 178, .int x, .int y, .int z] (jv_H K I L R) n sl (some (.int r0), jv_H K (jv_u I1 178 0 c) L1 R, n, sl) := by
  obtain ⟨X, k, e⟩ := vr_f_next_0 (n := n) (sl := sl) (I := I) (L := L) (R := R) (Q := fun X => X = (some (.int r0), jv_H K (jv_u I1 178 0 c) L1 R, n, sl)) hW hS hc rfl
  subst e
  exact k