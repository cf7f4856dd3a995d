/-! part g50: the packet of the reference (gen/tg50.py) -/
theorem jv_i358 : jv_I 358 2 (some .int) 0 0 jv_c358 := ⟨rfl, rfl, rfl, rfl, rfl⟩
theorem vr_g_packet_n_0 {K : Nat → Option (Nat × Nat)} {I : Nat → Nat → Int32} {L : Nat → Nat → Int64} {R : Nat → Nat → Value} (hW : jv_rW K R) {t : Nat} (e : I 178 2 = vl_I t) (h1 : ¬ vl_I t ≤ (2048 : Int32)) {n sl : Nat} {Q : jv_R → Prop} (hQ : Q (some (.int (0 : Int32)), jv_H K (jv_u I 178 0 (1 : Int32)) L R, n, sl)) : jv_Wp 358 0 [(0, .ref 178)] [] (jv_H K I L R) n sl Q := by
  refine jv_Wp.lift (fun _ Kz => jv_Ev.steps jv_i358 2 (pc' := 2) (l' := [(0, .ref 178)]) (st' := [.ref 178, .ref 178]) rfl Kz) ?_
  refine jv_Wp.lift (fun _ Kz => jv_Ev.m jv_i358 (pc' := 5) (st' := [.int (vl_I t), .ref 178]) (G' := (jv_H K I L R)) rfl rfl (jv_m_getI (jv_rwK hW 178 14 31 (by decide)) rfl rfl e) Kz) ?_
  refine jv_Wp.lift (fun _ Kz => jv_Ev.steps jv_i358 1 (pc' := 8) (l' := [(0, .ref 178)]) (st' := [.int (2048 : Int32), .int (vl_I t), .ref 178]) rfl Kz) ?_
  refine jv_Wp.cnd jv_i358 (pt := 15) (pe := 11) (p := ((vl_I t) ≤ (2048 : Int32))) (q := ((vl_I t) ≤ (2048 : Int32))) rfl jv_bc_le rfl rfl Iff.rfl (fun hz => absurd hz h1) (fun _ => ?_)
  refine jv_Wp.lift (fun _ Kz => jv_Ev.steps jv_i358 2 (pc' := 16) (l' := [(0, .ref 178)]) (st' := [.int (1 : Int32), .ref 178]) rfl Kz) ?_
  refine jv_Wp.lift (fun _ Kz => jv_Ev.m jv_i358 (pc' := 19) (st' := []) (G' := (jv_H K (jv_u I 178 0 (1 : Int32)) L R)) rfl rfl (jv_m_putI (jv_rwK hW 178 14 31 (by decide)) rfl rfl rfl rfl) Kz) ?_
  refine jv_Wp.lift (fun _ Kz => jv_Ev.steps jv_i358 1 (pc' := 20) (l' := [(0, .ref 178)]) (st' := [.ref 178]) rfl Kz) ?_
  refine jv_Wp.lift (fun _ Kz => jv_Ev.m jv_i358 (pc' := 23) (st' := [.int (1 : Int32)]) (G' := (jv_H K (jv_u I 178 0 (1 : Int32)) L R)) rfl rfl (jv_m_getI (jv_rwK hW 178 14 31 (by decide)) rfl rfl (jv_u_self _ _ _ _)) Kz) ?_
  refine jv_Wp.lift (fun _ Kz => jv_Ev.br jv_i358 (pc' := 26) (st' := []) rfl (by rfl) Kz) ?_
  refine jv_Wp.lift (fun _ Kz => jv_Ev.steps jv_i358 1 (pc' := 27) (l' := [(0, .ref 178)]) (st' := [.int (0 : Int32)]) rfl Kz) ?_
  refine jv_Wp.of (jv_Ev.ret jv_i358 rfl rfl) ?_
  exact hQ
theorem vr_g_packet_n {K : Nat → Option (Nat × Nat)} {I : Nat → Nat → Int32} {L : Nat → Nat → Int64} {R : Nat → Nat → Value} (hW : jv_rW K R) {t : Nat} (e : I 178 2 = vl_I t) (h1 : ¬ vl_I t ≤ (2048 : Int32)) {n sl : Nat} : jv_Ms 358 [.ref 178] (jv_H K I L R) n sl (some (.int (0 : Int32)), jv_H K (jv_u I 178 0 (1 : Int32)) L R, n, sl) := by
  obtain ⟨X, k, e⟩ := vr_g_packet_n_0 (n := n) (sl := sl) (I := I) (L := L) (R := R) (Q := fun X => X = (some (.int (0 : Int32)), jv_H K (jv_u I 178 0 (1 : Int32)) L R, n, sl)) hW e h1 rfl
  subst e
  exact k
theorem vr_pk_0 {K : Nat → Option (Nat × Nat)} {I : Nat → Nat → Int32} {L : Nat → Nat → Int64} {R : Nat → Nat → Value} (hW : jv_rW K R) {t : Nat} (ht : t ≤ 2048) (e : I 178 2 = vl_I t) {n sl : Nat} {Q : jv_R → Prop} (cont : jv_Wp 358 30 [(0, .ref 178), (1, .int (0 : Int32))] [] (jv_H K (jv_u I 178 0 (0 : Int32)) L R) n sl Q) : jv_Wp 358 0 [(0, .ref 178)] [] (jv_H K I L R) n sl Q := by
  refine jv_Wp.lift (fun _ Kz => jv_Ev.steps jv_i358 2 (pc' := 2) (l' := [(0, .ref 178)]) (st' := [.ref 178, .ref 178]) rfl Kz) ?_
  refine jv_Wp.lift (fun _ Kz => jv_Ev.m jv_i358 (pc' := 5) (st' := [.int (vl_I t), .ref 178]) (G' := (jv_H K I L R)) rfl rfl (jv_m_getI (jv_rwK hW 178 14 31 (by decide)) rfl rfl e) Kz) ?_
  refine jv_Wp.lift (fun _ Kz => jv_Ev.steps jv_i358 1 (pc' := 8) (l' := [(0, .ref 178)]) (st' := [.int (2048 : Int32), .int (vl_I t), .ref 178]) rfl Kz) ?_
  refine jv_Wp.cnd jv_i358 (pt := 15) (pe := 11) (p := ((vl_I t) ≤ (2048 : Int32))) (q := ((vl_I t) ≤ (2048 : Int32))) rfl jv_bc_le rfl rfl Iff.rfl (fun _ => ?_) (fun hz => absurd ((vl_I_le (b := 2048) (by omega) (by decide)).mpr ht) hz)
  refine jv_Wp.lift (fun _ Kz => jv_Ev.steps jv_i358 1 (pc' := 16) (l' := [(0, .ref 178)]) (st' := [.int (0 : Int32), .ref 178]) rfl Kz) ?_
  refine jv_Wp.lift (fun _ Kz => jv_Ev.m jv_i358 (pc' := 19) (st' := []) (G' := (jv_H K (jv_u I 178 0 (0 : Int32)) L R)) rfl rfl (jv_m_putI (jv_rwK hW 178 14 31 (by decide)) rfl rfl rfl rfl) Kz) ?_
  refine jv_Wp.lift (fun _ Kz => jv_Ev.steps jv_i358 1 (pc' := 20) (l' := [(0, .ref 178)]) (st' := [.ref 178]) rfl Kz) ?_
  refine jv_Wp.lift (fun _ Kz => jv_Ev.m jv_i358 (pc' := 23) (st' := [.int (0 : Int32)]) (G' := (jv_H K (jv_u I 178 0 (0 : Int32)) L R)) rfl rfl (jv_m_getI (jv_rwK hW 178 14 31 (by decide)) rfl rfl (jv_u_self _ _ _ _)) Kz) ?_
  refine jv_Wp.lift (fun _ Kz => jv_Ev.br jv_i358 (pc' := 28) (st' := []) rfl (by rfl) Kz) ?_
  refine jv_Wp.lift (fun _ Kz => jv_Ev.steps jv_i358 2 (pc' := 30) (l' := [(1, .int (0 : Int32)), (0, .ref 178)]) (st' := []) rfl Kz) ?_
  refine jv_Wp.loc (l := [(0, .ref 178), (1, .int (0 : Int32))]) ⟨List.forall_mem_cons.mpr ⟨.tail _ (.head _), List.forall_mem_cons.mpr ⟨.head _, fun _ h => absurd h List.not_mem_nil⟩⟩, by show List.Nodup [1, 0]; decide⟩ ?_
  exact cont
theorem vr_pk_t {K : Nat → Option (Nat × Nat)} {I : Nat → Nat → Int32} {L : Nat → Nat → Int64} {R : Nat → Nat → Value} (hW : jv_rW K R) {t : Nat} (ht : t ≤ 2048) (e : I 178 2 = vl_I t) {n sl : Nat} {Q : jv_R → Prop} {k : Nat} (hk : k < t) (cont : jv_Wp 358 30 [(0, .ref 178), (1, .int (vl_I (k + 1)))] [] (jv_H K (jv_u I 218 k (I 179 k)) L R) n sl Q) : jv_Wp 358 30 [(0, .ref 178), (1, .int (vl_I k))] [] (jv_H K I L R) n sl Q := by
  refine jv_Wp.lift (fun _ Kz => jv_Ev.steps jv_i358 2 (pc' := 32) (l' := [(0, .ref 178), (1, .int (vl_I k))]) (st' := [.ref 178, .int (vl_I k)]) rfl Kz) ?_
  refine jv_Wp.lift (fun _ Kz => jv_Ev.m jv_i358 (pc' := 35) (st' := [.int (vl_I t), .int (vl_I k)]) (G' := (jv_H K I L R)) rfl rfl (jv_m_getI (jv_rwK hW 178 14 31 (by decide)) rfl rfl e) Kz) ?_
  refine jv_Wp.cnd jv_i358 (pt := 56) (pe := 38) (p := ((vl_I t) ≤ (vl_I k))) (q := ((vl_I t) ≤ (vl_I k))) rfl jv_bc_ge rfl rfl Iff.rfl (fun hz => absurd hz (fun z => absurd ((vl_I_le (by omega) (by omega)).mp z) (by omega))) (fun _ => ?_)
  refine jv_Wp.lift (fun _ Kz => jv_Ev.steps jv_i358 1 (pc' := 39) (l' := [(0, .ref 178), (1, .int (vl_I k))]) (st' := [.ref 178]) rfl Kz) ?_
  refine jv_Wp.lift (fun _ Kz => jv_Ev.m jv_i358 (pc' := 42) (st' := [.ref 218]) (G' := (jv_H K I L R)) rfl rfl (jv_m_getR (jv_rwK hW 178 14 31 (by decide)) rfl rfl (jv_rwR hW 178 10 218 (by decide))) Kz) ?_
  refine jv_Wp.lift (fun _ Kz => jv_Ev.steps jv_i358 2 (pc' := 44) (l' := [(0, .ref 178), (1, .int (vl_I k))]) (st' := [.ref 178, .int (vl_I k), .ref 218]) rfl Kz) ?_
  refine jv_Wp.lift (fun _ Kz => jv_Ev.m jv_i358 (pc' := 47) (st' := [.ref 179, .int (vl_I k), .ref 218]) (G' := (jv_H K I L R)) rfl rfl (jv_m_getR (jv_rwK hW 178 14 31 (by decide)) rfl rfl (jv_rwR hW 178 1 179 (by decide))) Kz) ?_
  refine jv_Wp.lift (fun _ Kz => jv_Ev.steps jv_i358 1 (pc' := 48) (l' := [(0, .ref 178), (1, .int (vl_I k))]) (st' := [.int (vl_I k), .ref 179, .int (vl_I k), .ref 218]) rfl Kz) ?_
  refine jv_Wp.lift (fun _ Kz => jv_Ev.m jv_i358 (pc' := 49) (st' := [.int (I 179 k), .int (vl_I k), .ref 218]) (G' := (jv_H K I L R)) rfl rfl (jv_m_ialdv (jv_rwK hW 179 102 8192 (by decide)) rfl (vl_I_ix (by omega) (by decide)) rfl ((congrArg (I 179) (vl_I_nat (by omega))).trans rfl)) Kz) ?_
  refine jv_Wp.lift (fun _ Kz => jv_Ev.m jv_i358 (pc' := 50) (st' := []) (G' := (jv_H K (jv_u I 218 k (I 179 k)) L R)) rfl rfl (by rw [jv_m_iast (jv_rwK hW 218 102 2048 (by decide)) (vl_I_ix (by omega) (by decide)), (vl_I_nat (by omega))]) Kz) ?_
  refine jv_Wp.lift (fun _ Kz => jv_Ev.steps jv_i358 2 (pc' := 30) (l' := [(1, .int ((vl_I k) + Int32.ofInt 1)), (0, .ref 178)]) (st' := []) rfl Kz) ?_
  refine jv_Wp.loc (l := [(0, .ref 178), (1, .int ((vl_I k) + Int32.ofInt 1))]) ⟨List.forall_mem_cons.mpr ⟨.tail _ (.head _), List.forall_mem_cons.mpr ⟨.head _, fun _ h => absurd h List.not_mem_nil⟩⟩, by show List.Nodup [1, 0]; decide⟩ ?_
  rw [vk_p1 k]
  exact cont
theorem vr_pk_e {K : Nat → Option (Nat × Nat)} {I : Nat → Nat → Int32} {L : Nat → Nat → Int64} {R : Nat → Nat → Value} (hW : jv_rW K R) {t : Nat} (ht : t ≤ 2048) (e : I 178 2 = vl_I t) {n sl : Nat} {Q : jv_R → Prop} (hQ : Q (some (.int (vl_I t)), jv_H K (jv_u (jv_u I 178 11 (vl_I t)) 178 2 (0 : Int32)) L R, n, sl)) : jv_Wp 358 30 [(0, .ref 178), (1, .int (vl_I t))] [] (jv_H K I L R) n sl Q := by
  refine jv_Wp.lift (fun _ Kz => jv_Ev.steps jv_i358 2 (pc' := 32) (l' := [(0, .ref 178), (1, .int (vl_I t))]) (st' := [.ref 178, .int (vl_I t)]) rfl Kz) ?_
  refine jv_Wp.lift (fun _ Kz => jv_Ev.m jv_i358 (pc' := 35) (st' := [.int (vl_I t), .int (vl_I t)]) (G' := (jv_H K I L R)) rfl rfl (jv_m_getI (jv_rwK hW 178 14 31 (by decide)) rfl rfl e) Kz) ?_
  refine jv_Wp.cnd jv_i358 (pt := 56) (pe := 38) (p := ((vl_I t) ≤ (vl_I t))) (q := ((vl_I t) ≤ (vl_I t))) rfl jv_bc_ge rfl rfl Iff.rfl (fun _ => ?_) (fun hz => absurd ((vl_I_le (by omega) (by omega)).mpr (by omega)) hz)
  refine jv_Wp.lift (fun _ Kz => jv_Ev.steps jv_i358 2 (pc' := 58) (l' := [(0, .ref 178), (1, .int (vl_I t))]) (st' := [.ref 178, .ref 178]) rfl Kz) ?_
  refine jv_Wp.lift (fun _ Kz => jv_Ev.m jv_i358 (pc' := 61) (st' := [.int (vl_I t), .ref 178]) (G' := (jv_H K I L R)) rfl rfl (jv_m_getI (jv_rwK hW 178 14 31 (by decide)) rfl rfl e) Kz) ?_
  refine jv_Wp.lift (fun _ Kz => jv_Ev.m jv_i358 (pc' := 64) (st' := []) (G' := (jv_H K (jv_u I 178 11 (vl_I t)) L R)) rfl rfl (jv_m_putI (jv_rwK hW 178 14 31 (by decide)) rfl rfl rfl rfl) Kz) ?_
  refine jv_Wp.lift (fun _ Kz => jv_Ev.steps jv_i358 2 (pc' := 66) (l' := [(0, .ref 178), (1, .int (vl_I t))]) (st' := [.int (0 : Int32), .ref 178]) rfl Kz) ?_
  refine jv_Wp.lift (fun _ Kz => jv_Ev.m jv_i358 (pc' := 69) (st' := []) (G' := (jv_H K (jv_u (jv_u I 178 11 (vl_I t)) 178 2 (0 : Int32)) L R)) rfl rfl (jv_m_putI (jv_rwK hW 178 14 31 (by decide)) rfl rfl rfl rfl) Kz) ?_
  refine jv_Wp.lift (fun _ Kz => jv_Ev.steps jv_i358 1 (pc' := 70) (l' := [(0, .ref 178), (1, .int (vl_I t))]) (st' := [.ref 178]) rfl Kz) ?_
  refine jv_Wp.lift (fun _ Kz => jv_Ev.m jv_i358 (pc' := 73) (st' := [.int (vl_I t)]) (G' := (jv_H K (jv_u (jv_u I 178 11 (vl_I t)) 178 2 (0 : Int32)) L R)) rfl rfl (jv_m_getI (jv_rwK hW 178 14 31 (by decide)) rfl rfl ((jv_u_j _ _ _ _ (by decide)).trans (jv_u_self _ _ _ _))) Kz) ?_
  refine jv_Wp.of (jv_Ev.ret jv_i358 rfl rfl) ?_
  exact hQ
theorem vr_pk_l {K : Nat → Option (Nat × Nat)} {I : Nat → Nat → Int32} {L : Nat → Nat → Int64} {R : Nat → Nat → Value} (hW : jv_rW K R) {t : Nat} (ht : t ≤ 2048) (e : I 178 2 = vl_I t) {n sl : Nat} {Q : jv_R → Prop} (hQ : Q (some (.int (vl_I t)), jv_H K (jv_u (jv_u (vm_wr I 218 0 t (fun j => I 179 j)) 178 11 (vl_I t)) 178 2 (0 : Int32)) L R, n, sl)) : ∀ d k, k + d = t → jv_Wp 358 30 [(0, .ref 178), (1, .int (vl_I k))] [] (jv_H K (vm_wr I 218 0 k (fun j => I 179 j)) L R) n sl Q
  | 0, k, g => by
    have g : k = t := g
    subst g
    exact vr_pk_e hW ht ((vm_wr_o (fun z => absurd z.1 (by decide))).trans e) hQ
  | d + 1, k, g => by
    refine vr_pk_t hW ht ((vm_wr_o (fun z => absurd z.1 (by decide))).trans e) (by omega) ?_
    have o : (vm_wr I 218 0 k (fun j => I 179 j)) 179 k = I 179 k := vm_wr_o (fun z => absurd z.1 (by decide))
    have y := vm_wr_s I 218 0 k (fun j => I 179 j)
    rw [Nat.zero_add] at y
    rw [o, y]
    exact vr_pk_l hW ht e hQ d (k + 1) (by omega)
/-- the tape becomes the packet -/
theorem vr_g_packet_y {K : Nat → Option (Nat × Nat)} {I : Nat → Nat → Int32} {L : Nat → Nat → Int64} {R : Nat → Nat → Value} (hW : jv_rW K R) {t : Nat} (ht : t ≤ 2048) (e : I 178 2 = vl_I t) {n sl : Nat} : jv_Ms 358 [.ref 178] (jv_H K I L R) n sl (some (.int (vl_I t)), jv_H K (jv_u (jv_u (vm_wr (jv_u I 178 0 (0 : Int32)) 218 0 t (fun j => (jv_u I 178 0 (0 : Int32)) 179 j)) 178 11 (vl_I t)) 178 2 (0 : Int32)) L R, n, sl) := by
  have k := vr_pk_l (I := jv_u I 178 0 (0 : Int32)) (n := n) (sl := sl) (L := L) (R := R) (Q := fun X => X = (some (.int (vl_I t)), jv_H K (jv_u (jv_u (vm_wr (jv_u I 178 0 (0 : Int32)) 218 0 t (fun j => (jv_u I 178 0 (0 : Int32)) 179 j)) 178 11 (vl_I t)) 178 2 (0 : Int32)) L R, n, sl)) hW ht ((vk_ux (by omega)).trans e) rfl t 0 (Nat.zero_add t)
  rw [vm_wr_0] at k
  obtain ⟨X, k, e⟩ := vr_pk_0 hW ht e k
  subst e
  exact k