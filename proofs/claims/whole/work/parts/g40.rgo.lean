/-! part g40: a run of the reference's machine, walked (gen/tg40.py) -/
theorem jv_i403 : jv_I 403 2 none 1 23 jv_c403 := ⟨rfl, rfl, rfl, rfl, rfl⟩
theorem vr_beg_t2 {K : Nat → Option (Nat × Nat)} {I : Nat → Nat → Int32} {L : Nat → Nat → Int64} {R : Nat → Nat → Value} (hW : jv_rW K R) {k : Nat} (hk : k < 11) {n sl : Nat} {Q : jv_R → Prop} (cont : jv_Wp 403 2 [(0, .ref 178), (1, .int (vl_I (k + 1)))] [] (jv_H K (jv_u I 221 k ((0 : Int32) &&& 1)) L R) n sl Q) : jv_Wp 403 2 [(0, .ref 178), (1, .int (vl_I k))] [] (jv_H K I L R) n sl Q := by
  refine jv_Wp.lift (fun _ Kz => jv_Ev.steps jv_i403 2 (pc' := 5) (l' := [(0, .ref 178), (1, .int (vl_I k))]) (st' := [.int (11 : Int32), .int (vl_I k)]) rfl Kz) ?_
  refine jv_Wp.cnd jv_i403 (pt := 21) (pe := 8) (p := ((11 : Int32) ≤ (vl_I k))) (q := ((11 : Int32) ≤ (vl_I k))) rfl jv_bc_ge rfl rfl Iff.rfl (fun hz => absurd hz (fun z => absurd ((vl_I_le (a := 11) (by decide) (by omega)).mp z) (by omega))) (fun _ => ?_)
  refine jv_Wp.lift (fun _ Kz => jv_Ev.steps jv_i403 1 (pc' := 9) (l' := [(0, .ref 178), (1, .int (vl_I k))]) (st' := [.ref 178]) rfl Kz) ?_
  refine jv_Wp.lift (fun _ Kz => jv_Ev.m jv_i403 (pc' := 12) (st' := [.ref 221]) (G' := (jv_H K I L R)) rfl rfl (jv_m_getR (jv_rwK hW 178 14 31 (by decide)) rfl rfl (jv_rwR hW 178 15 221 (by decide))) Kz) ?_
  refine jv_Wp.lift (fun _ Kz => jv_Ev.steps jv_i403 2 (pc' := 14) (l' := [(0, .ref 178), (1, .int (vl_I k))]) (st' := [.int (0 : Int32), .int (vl_I k), .ref 221]) rfl Kz) ?_
  refine jv_Wp.lift (fun _ Kz => jv_Ev.m jv_i403 (pc' := 15) (st' := []) (G' := (jv_H K (jv_u I 221 k ((0 : Int32) &&& 1)) L R)) rfl rfl (by rw [jv_m_zast (jv_rwK hW 221 100 11 (by decide)) (vl_I_ix (by omega) (by decide)), (vl_I_nat (by omega))]) Kz) ?_
  refine jv_Wp.lift (fun _ Kz => jv_Ev.steps jv_i403 2 (pc' := 2) (l' := [(1, .int ((vl_I k) + Int32.ofInt 1)), (0, .ref 178)]) (st' := []) rfl Kz) ?_
  refine jv_Wp.loc (l := [(0, .ref 178), (1, .int ((vl_I k) + Int32.ofInt 1))]) ⟨List.forall_mem_cons.mpr ⟨.tail _ (.head _), List.forall_mem_cons.mpr ⟨.head _, fun _ h => absurd h List.not_mem_nil⟩⟩, by show List.Nodup [1, 0]; decide⟩ ?_
  rw [vk_p1 k]
  exact cont
theorem vr_beg_e2 {K : Nat → Option (Nat × Nat)} {I : Nat → Nat → Int32} {L : Nat → Nat → Int64} {R : Nat → Nat → Value} (hW : jv_rW K R) {n sl : Nat} {Q : jv_R → Prop} (cont : jv_Wp 403 23 [(0, .ref 178), (1, .int (0 : Int32))] [] (jv_H K I L R) n sl Q) : jv_Wp 403 2 [(0, .ref 178), (1, .int (11 : Int32))] [] (jv_H K I L R) n sl Q := by
  refine jv_Wp.lift (fun _ Kz => jv_Ev.steps jv_i403 2 (pc' := 5) (l' := [(0, .ref 178), (1, .int (11 : Int32))]) (st' := [.int (11 : Int32), .int (11 : Int32)]) rfl Kz) ?_
  refine jv_Wp.lift (fun _ Kz => jv_Ev.br jv_i403 (pc' := 21) (st' := []) rfl (by rfl) Kz) ?_
  refine jv_Wp.lift (fun _ Kz => jv_Ev.steps jv_i403 2 (pc' := 23) (l' := [(1, .int (0 : Int32)), (0, .ref 178)]) (st' := []) rfl Kz) ?_
  refine jv_Wp.loc (l := [(0, .ref 178), (1, .int (0 : Int32))]) ⟨List.forall_mem_cons.mpr ⟨.tail _ (.head _), List.forall_mem_cons.mpr ⟨.head _, fun _ h => absurd h List.not_mem_nil⟩⟩, by show List.Nodup [1, 0]; decide⟩ ?_
  exact cont
theorem vr_beg_l2 {K : Nat → Option (Nat × Nat)} {I : Nat → Nat → Int32} {L : Nat → Nat → Int64} {R : Nat → Nat → Value} (hW : jv_rW K R) {n sl : Nat} {Q : jv_R → Prop} (cont : jv_Wp 403 2 [(0, .ref 178), (1, .int (11 : Int32))] [] (jv_H K (vm_wr I 221 0 11 (fun _ => ((0 : Int32) &&& 1))) L R) n sl Q) : ∀ d k, k + d = 11 → jv_Wp 403 2 [(0, .ref 178), (1, .int (vl_I k))] [] (jv_H K (vm_wr I 221 0 k (fun _ => ((0 : Int32) &&& 1))) L R) n sl Q
  | 0, k, g => by
    have g : k = 11 := g
    subst g
    exact cont
  | d + 1, k, g => by
    refine vr_beg_t2 hW (by omega) ?_
    have y := vm_wr_s I 221 0 k (fun _ => ((0 : Int32) &&& 1))
    rw [Nat.zero_add] at y
    rw [y]
    exact vr_beg_l2 hW cont d (k + 1) (by omega)
theorem vr_beg_t23 {K : Nat → Option (Nat × Nat)} {I : Nat → Nat → Int32} {L : Nat → Nat → Int64} {R : Nat → Nat → Value} (hW : jv_rW K R) {k : Nat} (hk : k < 512) {n sl : Nat} {Q : jv_R → Prop} (cont : jv_Wp 403 23 [(0, .ref 178), (1, .int (vl_I (k + 1)))] [] (jv_H K (jv_u I 223 k ((0 : Int32) &&& 1)) L R) n sl Q) : jv_Wp 403 23 [(0, .ref 178), (1, .int (vl_I k))] [] (jv_H K I L R) n sl Q := by
  refine jv_Wp.lift (fun _ Kz => jv_Ev.steps jv_i403 2 (pc' := 27) (l' := [(0, .ref 178), (1, .int (vl_I k))]) (st' := [.int (512 : Int32), .int (vl_I k)]) rfl Kz) ?_
  refine jv_Wp.cnd jv_i403 (pt := 43) (pe := 30) (p := ((512 : Int32) ≤ (vl_I k))) (q := ((512 : Int32) ≤ (vl_I k))) rfl jv_bc_ge rfl rfl Iff.rfl (fun hz => absurd hz (fun z => absurd ((vl_I_le (a := 512) (by decide) (by omega)).mp z) (by omega))) (fun _ => ?_)
  refine jv_Wp.lift (fun _ Kz => jv_Ev.steps jv_i403 1 (pc' := 31) (l' := [(0, .ref 178), (1, .int (vl_I k))]) (st' := [.ref 178]) rfl Kz) ?_
  refine jv_Wp.lift (fun _ Kz => jv_Ev.m jv_i403 (pc' := 34) (st' := [.ref 223]) (G' := (jv_H K I L R)) rfl rfl (jv_m_getR (jv_rwK hW 178 14 31 (by decide)) rfl rfl (jv_rwR hW 178 17 223 (by decide))) Kz) ?_
  refine jv_Wp.lift (fun _ Kz => jv_Ev.steps jv_i403 2 (pc' := 36) (l' := [(0, .ref 178), (1, .int (vl_I k))]) (st' := [.int (0 : Int32), .int (vl_I k), .ref 223]) rfl Kz) ?_
  refine jv_Wp.lift (fun _ Kz => jv_Ev.m jv_i403 (pc' := 37) (st' := []) (G' := (jv_H K (jv_u I 223 k ((0 : Int32) &&& 1)) L R)) rfl rfl (by rw [jv_m_zast (jv_rwK hW 223 100 512 (by decide)) (vl_I_ix (by omega) (by decide)), (vl_I_nat (by omega))]) Kz) ?_
  refine jv_Wp.lift (fun _ Kz => jv_Ev.steps jv_i403 2 (pc' := 23) (l' := [(1, .int ((vl_I k) + Int32.ofInt 1)), (0, .ref 178)]) (st' := []) rfl Kz) ?_
  refine jv_Wp.loc (l := [(0, .ref 178), (1, .int ((vl_I k) + Int32.ofInt 1))]) ⟨List.forall_mem_cons.mpr ⟨.tail _ (.head _), List.forall_mem_cons.mpr ⟨.head _, fun _ h => absurd h List.not_mem_nil⟩⟩, by show List.Nodup [1, 0]; decide⟩ ?_
  rw [vk_p1 k]
  exact cont
theorem vr_beg_e23 {K : Nat → Option (Nat × Nat)} {I : Nat → Nat → Int32} {L : Nat → Nat → Int64} {R : Nat → Nat → Value} (hW : jv_rW K R) {n sl : Nat} {Q : jv_R → Prop} (cont : jv_Wp 403 45 [(0, .ref 178), (1, .int (0 : Int32))] [] (jv_H K I L R) n sl Q) : jv_Wp 403 23 [(0, .ref 178), (1, .int (512 : Int32))] [] (jv_H K I L R) n sl Q := by
  refine jv_Wp.lift (fun _ Kz => jv_Ev.steps jv_i403 2 (pc' := 27) (l' := [(0, .ref 178), (1, .int (512 : Int32))]) (st' := [.int (512 : Int32), .int (512 : Int32)]) rfl Kz) ?_
  refine jv_Wp.lift (fun _ Kz => jv_Ev.br jv_i403 (pc' := 43) (st' := []) rfl (by rfl) Kz) ?_
  refine jv_Wp.lift (fun _ Kz => jv_Ev.steps jv_i403 2 (pc' := 45) (l' := [(1, .int (0 : Int32)), (0, .ref 178)]) (st' := []) rfl Kz) ?_
  refine jv_Wp.loc (l := [(0, .ref 178), (1, .int (0 : Int32))]) ⟨List.forall_mem_cons.mpr ⟨.tail _ (.head _), List.forall_mem_cons.mpr ⟨.head _, fun _ h => absurd h List.not_mem_nil⟩⟩, by show List.Nodup [1, 0]; decide⟩ ?_
  exact cont
theorem vr_beg_l23 {K : Nat → Option (Nat × Nat)} {I : Nat → Nat → Int32} {L : Nat → Nat → Int64} {R : Nat → Nat → Value} (hW : jv_rW K R) {n sl : Nat} {Q : jv_R → Prop} (cont : jv_Wp 403 23 [(0, .ref 178), (1, .int (512 : Int32))] [] (jv_H K (vm_wr I 223 0 512 (fun _ => ((0 : Int32) &&& 1))) L R) n sl Q) : ∀ d k, k + d = 512 → jv_Wp 403 23 [(0, .ref 178), (1, .int (vl_I k))] [] (jv_H K (vm_wr I 223 0 k (fun _ => ((0 : Int32) &&& 1))) L R) n sl Q
  | 0, k, g => by
    have g : k = 512 := g
    subst g
    exact cont
  | d + 1, k, g => by
    refine vr_beg_t23 hW (by omega) ?_
    have y := vm_wr_s I 223 0 k (fun _ => ((0 : Int32) &&& 1))
    rw [Nat.zero_add] at y
    rw [y]
    exact vr_beg_l23 hW cont d (k + 1) (by omega)
theorem vr_beg_t45 {K : Nat → Option (Nat × Nat)} {I : Nat → Nat → Int32} {L : Nat → Nat → Int64} {R : Nat → Nat → Value} (hW : jv_rW K R) {k : Nat} (hk : k < 8192) {n sl : Nat} {Q : jv_R → Prop} (cont : jv_Wp 403 45 [(0, .ref 178), (1, .int (vl_I (k + 1)))] [] (jv_H K (jv_u I 224 k ((0 : Int32) &&& 1)) L R) n sl Q) : jv_Wp 403 45 [(0, .ref 178), (1, .int (vl_I k))] [] (jv_H K I L R) n sl Q := by
  refine jv_Wp.lift (fun _ Kz => jv_Ev.steps jv_i403 2 (pc' := 49) (l' := [(0, .ref 178), (1, .int (vl_I k))]) (st' := [.int (8192 : Int32), .int (vl_I k)]) rfl Kz) ?_
  refine jv_Wp.cnd jv_i403 (pt := 65) (pe := 52) (p := ((8192 : Int32) ≤ (vl_I k))) (q := ((8192 : Int32) ≤ (vl_I k))) rfl jv_bc_ge rfl rfl Iff.rfl (fun hz => absurd hz (fun z => absurd ((vl_I_le (a := 8192) (by decide) (by omega)).mp z) (by omega))) (fun _ => ?_)
  refine jv_Wp.lift (fun _ Kz => jv_Ev.steps jv_i403 1 (pc' := 53) (l' := [(0, .ref 178), (1, .int (vl_I k))]) (st' := [.ref 178]) rfl Kz) ?_
  refine jv_Wp.lift (fun _ Kz => jv_Ev.m jv_i403 (pc' := 56) (st' := [.ref 224]) (G' := (jv_H K I L R)) rfl rfl (jv_m_getR (jv_rwK hW 178 14 31 (by decide)) rfl rfl (jv_rwR hW 178 18 224 (by decide))) Kz) ?_
  refine jv_Wp.lift (fun _ Kz => jv_Ev.steps jv_i403 2 (pc' := 58) (l' := [(0, .ref 178), (1, .int (vl_I k))]) (st' := [.int (0 : Int32), .int (vl_I k), .ref 224]) rfl Kz) ?_
  refine jv_Wp.lift (fun _ Kz => jv_Ev.m jv_i403 (pc' := 59) (st' := []) (G' := (jv_H K (jv_u I 224 k ((0 : Int32) &&& 1)) L R)) rfl rfl (by rw [jv_m_zast (jv_rwK hW 224 100 8192 (by decide)) (vl_I_ix (by omega) (by decide)), (vl_I_nat (by omega))]) Kz) ?_
  refine jv_Wp.lift (fun _ Kz => jv_Ev.steps jv_i403 2 (pc' := 45) (l' := [(1, .int ((vl_I k) + Int32.ofInt 1)), (0, .ref 178)]) (st' := []) rfl Kz) ?_
  refine jv_Wp.loc (l := [(0, .ref 178), (1, .int ((vl_I k) + Int32.ofInt 1))]) ⟨List.forall_mem_cons.mpr ⟨.tail _ (.head _), List.forall_mem_cons.mpr ⟨.head _, fun _ h => absurd h List.not_mem_nil⟩⟩, by show List.Nodup [1, 0]; decide⟩ ?_
  rw [vk_p1 k]
  exact cont
theorem vr_beg_e45 {K : Nat → Option (Nat × Nat)} {I : Nat → Nat → Int32} {L : Nat → Nat → Int64} {R : Nat → Nat → Value} (hW : jv_rW K R) {n sl : Nat} {Q : jv_R → Prop} {I1 I2 : Nat → Nat → Int32} {L1 L2 : Nat → Nat → Int64} (hGV1 : ∀ n sl, jv_Ms 375 [.ref 178, .int (1 : Int32), .long (1073745920 : Int64)] (jv_H K I L R) n sl (none, jv_H K I1 L1 R, n, sl)) (hGV2 : ∀ n sl, jv_Ms 375 [.ref 178, .int (10 : Int32), .long (1073750016 : Int64)] (jv_H K I1 L1 R) n sl (none, jv_H K I2 L2 R, n, sl)) (hQ : Q (none, jv_H K (jv_u I2 178 23 (0 : Int32)) L2 R, n, sl)) : jv_Wp 403 45 [(0, .ref 178), (1, .int (8192 : Int32))] [] (jv_H K I L R) n sl Q := by
  refine jv_Wp.lift (fun _ Kz => jv_Ev.steps jv_i403 2 (pc' := 49) (l' := [(0, .ref 178), (1, .int (8192 : Int32))]) (st' := [.int (8192 : Int32), .int (8192 : Int32)]) rfl Kz) ?_
  refine jv_Wp.lift (fun _ Kz => jv_Ev.br jv_i403 (pc' := 65) (st' := []) rfl (by rfl) Kz) ?_
  refine jv_Wp.lift (fun _ Kz => jv_Ev.steps jv_i403 3 (pc' := 70) (l' := [(0, .ref 178), (1, .int (8192 : Int32))]) (st' := [.long (1073745920 : Int64), .int (1 : Int32), .ref 178]) rfl Kz) ?_
  refine jv_Wp.lift (fun _ Kz => jv_Ev.c jv_i403 (pc' := 73) (S' := []) (G1 := (jv_H K I1 L1 R)) jv_i375 [.ref 178, .int (1 : Int32), .long (1073745920 : Int64)] rfl rfl rfl rfl (jv_cal rfl (jv_H_at (jv_rwK hW 178 14 31 (by decide))) rfl rfl) rfl (hGV1 n sl) rfl rfl Kz) ?_
  refine jv_Wp.lift (fun _ Kz => jv_Ev.steps jv_i403 3 (pc' := 79) (l' := [(0, .ref 178), (1, .int (8192 : Int32))]) (st' := [.long (1073750016 : Int64), .int (10 : Int32), .ref 178]) rfl Kz) ?_
  refine jv_Wp.lift (fun _ Kz => jv_Ev.c jv_i403 (pc' := 82) (S' := []) (G1 := (jv_H K I2 L2 R)) jv_i375 [.ref 178, .int (10 : Int32), .long (1073750016 : Int64)] rfl rfl rfl rfl (jv_cal rfl (jv_H_at (jv_rwK hW 178 14 31 (by decide))) rfl rfl) rfl (hGV2 n sl) rfl rfl Kz) ?_
  refine jv_Wp.lift (fun _ Kz => jv_Ev.steps jv_i403 2 (pc' := 84) (l' := [(0, .ref 178), (1, .int (8192 : Int32))]) (st' := [.int (0 : Int32), .ref 178]) rfl Kz) ?_
  refine jv_Wp.lift (fun _ Kz => jv_Ev.m jv_i403 (pc' := 87) (st' := []) (G' := (jv_H K (jv_u I2 178 23 (0 : Int32)) L2 R)) rfl rfl (jv_m_putI (jv_rwK hW 178 14 31 (by decide)) rfl rfl rfl rfl) Kz) ?_
  refine jv_Wp.of (jv_Ev.ret jv_i403 rfl rfl) ?_
  exact hQ
theorem vr_beg_l45 {K : Nat → Option (Nat × Nat)} {I : Nat → Nat → Int32} {L : Nat → Nat → Int64} {R : Nat → Nat → Value} (hW : jv_rW K R) {n sl : Nat} {Q : jv_R → Prop} (cont : jv_Wp 403 45 [(0, .ref 178), (1, .int (8192 : Int32))] [] (jv_H K (vm_wr I 224 0 8192 (fun _ => ((0 : Int32) &&& 1))) L R) n sl Q) : ∀ d k, k + d = 8192 → jv_Wp 403 45 [(0, .ref 178), (1, .int (vl_I k))] [] (jv_H K (vm_wr I 224 0 k (fun _ => ((0 : Int32) &&& 1))) L R) n sl Q
  | 0, k, g => by
    have g : k = 8192 := g
    subst g
    exact cont
  | d + 1, k, g => by
    refine vr_beg_t45 hW (by omega) ?_
    have y := vm_wr_s I 224 0 k (fun _ => ((0 : Int32) &&& 1))
    rw [Nat.zero_add] at y
    rw [y]
    exact vr_beg_l45 hW cont d (k + 1) (by omega)
theorem vr_beg_0 {K : Nat → Option (Nat × Nat)} {I : Nat → Nat → Int32} {L : Nat → Nat → Int64} {R : Nat → Nat → Value} (hW : jv_rW K R) {n sl : Nat} {Q : jv_R → Prop} (cont : jv_Wp 403 2 [(0, .ref 178), (1, .int (0 : Int32))] [] (jv_H K I L R) n sl Q) : jv_Wp 403 0 [(0, .ref 178)] [] (jv_H K I L R) n sl Q := by
  refine jv_Wp.lift (fun _ Kz => jv_Ev.steps jv_i403 2 (pc' := 2) (l' := [(1, .int (0 : Int32)), (0, .ref 178)]) (st' := []) rfl Kz) ?_
  refine jv_Wp.loc (l := [(0, .ref 178), (1, .int (0 : Int32))]) ⟨List.forall_mem_cons.mpr ⟨.tail _ (.head _), List.forall_mem_cons.mpr ⟨.head _, fun _ h => absurd h List.not_mem_nil⟩⟩, by show List.Nodup [1, 0]; decide⟩ ?_
  exact cont
theorem vr_beginW {K : Nat → Option (Nat × Nat)} {I : Nat → Nat → Int32} {L : Nat → Nat → Int64} {R : Nat → Nat → Value} (hW : jv_rW K R) {I1 I2 : Nat → Nat → Int32} {L1 L2 : Nat → Nat → Int64} (hGV1 : ∀ n sl, jv_Ms 375 [.ref 178, .int (1 : Int32), .long (1073745920 : Int64)] (jv_H K (vm_wr (vm_wr (vm_wr I 221 0 11 (fun _ => ((0 : Int32) &&& 1))) 223 0 512 (fun _ => ((0 : Int32) &&& 1))) 224 0 8192 (fun _ => ((0 : Int32) &&& 1))) L R) n sl (none, jv_H K I1 L1 R, n, sl)) (hGV2 : ∀ n sl, jv_Ms 375 [.ref 178, .int (10 : Int32), .long (1073750016 : Int64)] (jv_H K I1 L1 R) n sl (none, jv_H K I2 L2 R, n, sl)) {n sl : Nat} : jv_Ms 403 [.ref 178] (jv_H K I L R) n sl (none, jv_H K (jv_u I2 178 23 (0 : Int32)) L2 R, n, sl) := by
  have k : jv_Wp 403 0 [(0, .ref 178)] [] (jv_H K I L R) n sl (fun X => X = (none, jv_H K (jv_u I2 178 23 (0 : Int32)) L2 R, n, sl)) := by
    refine vr_beg_0 hW ?_
    have y3 := vr_beg_l45 (I := (vm_wr (vm_wr I 221 0 11 (fun _ => ((0 : Int32) &&& 1))) 223 0 512 (fun _ => ((0 : Int32) &&& 1)))) (n := n) (sl := sl) (Q := fun X => X = (none, jv_H K (jv_u I2 178 23 (0 : Int32)) L2 R, n, sl)) hW (vr_beg_e45 hW hGV1 hGV2 rfl) 8192 0 rfl
    rw [vm_wr_0] at y3
    have y2 := vr_beg_l23 (I := (vm_wr I 221 0 11 (fun _ => ((0 : Int32) &&& 1)))) (n := n) (sl := sl) (Q := fun X => X = (none, jv_H K (jv_u I2 178 23 (0 : Int32)) L2 R, n, sl)) hW (vr_beg_e23 hW y3) 512 0 rfl
    rw [vm_wr_0] at y2
    have y1 := vr_beg_l2 (I := I) (n := n) (sl := sl) (Q := fun X => X = (none, jv_H K (jv_u I2 178 23 (0 : Int32)) L2 R, n, sl)) hW (vr_beg_e2 hW y2) 11 0 rfl
    rw [vm_wr_0] at y1
    exact y1
  obtain ⟨X, k, e⟩ := k
  subst e
  exact k
theorem jv_i404 : jv_I 404 4 (some .int) 9 208 jv_c404 := ⟨rfl, rfl, rfl, rfl, rfl⟩
theorem vr_run_0 {K : Nat → Option (Nat × Nat)} {I : Nat → Nat → Int32} {L : Nat → Nat → Int64} {R : Nat → Nat → Value} (hW : jv_rW K R) {g N0 many : Nat} (e7 : I 178 7 = vl_I many) (hg : g < many) (hm : many ≤ 8) (hN0 : N0 ≤ 100000) {I1 : Nat → Nat → Int32} {L1 : Nat → Nat → Int64} (hB : ∀ n sl, jv_Ms 403 [.ref 178] (jv_H K (jv_u I 178 0 (0 : Int32)) L R) n sl (none, jv_H K I1 L1 R, n, sl)) {n sl : Nat} {Q : jv_R → Prop} (cont : jv_Wp 404 60 [(0, .ref 178), (1, .int (vl_I g)), (2, .int (vl_I N0)), (3, .int (0 : Int32))] [] (jv_H K (jv_u I1 178 24 (vl_I (8192 * g))) L1 R) n sl Q) : jv_Wp 404 0 [(0, .ref 178), (1, .int (vl_I g)), (2, .int (vl_I N0))] [] (jv_H K I L R) n sl Q := by
  refine jv_Wp.lift (fun _ Kz => jv_Ev.steps jv_i404 2 (pc' := 2) (l' := [(0, .ref 178), (1, .int (vl_I g)), (2, .int (vl_I N0))]) (st' := [.int (vl_I N0), .ref 178]) rfl Kz) ?_
  refine jv_Wp.cnd jv_i404 (pt := 12) (pe := 5) (p := ((vl_I N0) < 0)) (q := ((vl_I N0) < 0)) rfl jv_bi_lt rfl rfl Iff.rfl (fun hz => absurd hz (vl_I_n0 (by omega))) (fun _ => ?_)
  refine jv_Wp.lift (fun _ Kz => jv_Ev.steps jv_i404 2 (pc' := 9) (l' := [(0, .ref 178), (1, .int (vl_I g)), (2, .int (vl_I N0))]) (st' := [.int (100000 : Int32), .int (vl_I N0), .ref 178]) rfl Kz) ?_
  refine jv_Wp.cnd jv_i404 (pt := 16) (pe := 12) (p := ((vl_I N0) ≤ (100000 : Int32))) (q := ((vl_I N0) ≤ (100000 : Int32))) rfl jv_bc_le rfl rfl Iff.rfl (fun _ => ?_) (fun hz => absurd ((vl_I_le (b := 100000) (by omega) (by decide)).mpr hN0) hz)
  refine jv_Wp.lift (fun _ Kz => jv_Ev.steps jv_i404 1 (pc' := 17) (l' := [(0, .ref 178), (1, .int (vl_I g)), (2, .int (vl_I N0))]) (st' := [.int (vl_I g), .ref 178]) rfl Kz) ?_
  refine jv_Wp.cnd jv_i404 (pt := 28) (pe := 20) (p := ((vl_I g) < 0)) (q := ((vl_I g) < 0)) rfl jv_bi_lt rfl rfl Iff.rfl (fun hz => absurd hz (vl_I_n0 (by omega))) (fun _ => ?_)
  refine jv_Wp.lift (fun _ Kz => jv_Ev.steps jv_i404 2 (pc' := 22) (l' := [(0, .ref 178), (1, .int (vl_I g)), (2, .int (vl_I N0))]) (st' := [.ref 178, .int (vl_I g), .ref 178]) rfl Kz) ?_
  refine jv_Wp.lift (fun _ Kz => jv_Ev.m jv_i404 (pc' := 25) (st' := [.int (vl_I many), .int (vl_I g), .ref 178]) (G' := (jv_H K I L R)) rfl rfl (jv_m_getI (jv_rwK hW 178 14 31 (by decide)) rfl rfl e7) Kz) ?_
  refine jv_Wp.cnd jv_i404 (pt := 32) (pe := 28) (p := ((vl_I g) < (vl_I many))) (q := ((vl_I g) < (vl_I many))) rfl jv_bc_lt rfl rfl Iff.rfl (fun _ => ?_) (fun hz => absurd ((vl_I_lt (by omega) (by omega)).mpr hg) hz)
  refine jv_Wp.lift (fun _ Kz => jv_Ev.steps jv_i404 1 (pc' := 33) (l' := [(0, .ref 178), (1, .int (vl_I g)), (2, .int (vl_I N0))]) (st' := [.int (0 : Int32), .ref 178]) rfl Kz) ?_
  refine jv_Wp.lift (fun _ Kz => jv_Ev.m jv_i404 (pc' := 36) (st' := []) (G' := (jv_H K (jv_u I 178 0 (0 : Int32)) L R)) rfl rfl (jv_m_putI (jv_rwK hW 178 14 31 (by decide)) rfl rfl rfl rfl) Kz) ?_
  refine jv_Wp.lift (fun _ Kz => jv_Ev.steps jv_i404 1 (pc' := 37) (l' := [(0, .ref 178), (1, .int (vl_I g)), (2, .int (vl_I N0))]) (st' := [.ref 178]) rfl Kz) ?_
  refine jv_Wp.lift (fun _ Kz => jv_Ev.m jv_i404 (pc' := 40) (st' := [.int (0 : Int32)]) (G' := (jv_H K (jv_u I 178 0 (0 : Int32)) L R)) rfl rfl (jv_m_getI (jv_rwK hW 178 14 31 (by decide)) rfl rfl (jv_u_self _ _ _ _)) Kz) ?_
  refine jv_Wp.lift (fun _ Kz => jv_Ev.br jv_i404 (pc' := 45) (st' := []) rfl (by rfl) Kz) ?_
  refine jv_Wp.lift (fun _ Kz => jv_Ev.steps jv_i404 1 (pc' := 46) (l' := [(0, .ref 178), (1, .int (vl_I g)), (2, .int (vl_I N0))]) (st' := [.ref 178]) rfl Kz) ?_
  refine jv_Wp.lift (fun _ Kz => jv_Ev.c jv_i404 (pc' := 49) (S' := []) (G1 := (jv_H K I1 L1 R)) jv_i403 [.ref 178] rfl rfl rfl rfl (jv_cal rfl (jv_H_at (jv_rwK hW 178 14 31 (by decide))) rfl rfl) rfl (hB n sl) rfl rfl Kz) ?_
  refine jv_Wp.lift (fun _ Kz => jv_Ev.steps jv_i404 4 (pc' := 55) (l' := [(0, .ref 178), (1, .int (vl_I g)), (2, .int (vl_I N0))]) (st' := [.int ((8192 : Int32) * (vl_I g)), .ref 178]) rfl Kz) ?_
  refine jv_Wp.lift (fun _ Kz => jv_Ev.m jv_i404 (pc' := 58) (st' := []) (G' := (jv_H K (jv_u I1 178 24 ((8192 : Int32) * (vl_I g))) L1 R)) rfl rfl (jv_m_putI (jv_rwK hW 178 14 31 (by decide)) rfl rfl rfl rfl) Kz) ?_
  refine jv_Wp.lift (fun _ Kz => jv_Ev.steps jv_i404 2 (pc' := 60) (l' := [(3, .int (0 : Int32)), (0, .ref 178), (1, .int (vl_I g)), (2, .int (vl_I N0))]) (st' := []) rfl Kz) ?_
  refine jv_Wp.loc (l := [(0, .ref 178), (1, .int (vl_I g)), (2, .int (vl_I N0)), (3, .int (0 : Int32))]) ⟨List.forall_mem_cons.mpr ⟨.tail _ (.head _), List.forall_mem_cons.mpr ⟨.tail _ (.tail _ (.head _)), List.forall_mem_cons.mpr ⟨.tail _ (.tail _ (.tail _ (.head _))), List.forall_mem_cons.mpr ⟨.head _, fun _ h => absurd h List.not_mem_nil⟩⟩⟩⟩, by show List.Nodup [3, 0, 1, 2]; decide⟩ ?_
  rw [show (8192 : Int32) * vl_I g = vl_I (8192 * g) from vi_m2 (x := 8192) (z := g) rfl rfl rfl]
  exact cont
theorem vr_run_e {K : Nat → Option (Nat × Nat)} {I : Nat → Nat → Int32} {L : Nat → Nat → Int64} {R : Nat → Nat → Value} (hW : jv_rW K R) {g N0 p st : Nat} (e23 : I 178 23 = vl_I st) (hst : st = N0) (hN0 : N0 ≤ 100000) {n sl : Nat} {Q : jv_R → Prop} (hQ : Q (some (.int (1 : Int32)), jv_H K (jv_u I 178 22 (vl_I p)) L R, n, sl)) : jv_Wp 404 60 [(0, .ref 178), (1, .int (vl_I g)), (2, .int (vl_I N0)), (3, .int (vl_I p))] [] (jv_H K I L R) n sl Q := by
  refine jv_Wp.lift (fun _ Kz => jv_Ev.steps jv_i404 1 (pc' := 61) (l' := [(0, .ref 178), (1, .int (vl_I g)), (2, .int (vl_I N0)), (3, .int (vl_I p))]) (st' := [.ref 178]) rfl Kz) ?_
  refine jv_Wp.lift (fun _ Kz => jv_Ev.m jv_i404 (pc' := 64) (st' := [.int (vl_I st)]) (G' := (jv_H K I L R)) rfl rfl (jv_m_getI (jv_rwK hW 178 14 31 (by decide)) rfl rfl e23) Kz) ?_
  refine jv_Wp.lift (fun _ Kz => jv_Ev.steps jv_i404 1 (pc' := 65) (l' := [(0, .ref 178), (1, .int (vl_I g)), (2, .int (vl_I N0)), (3, .int (vl_I p))]) (st' := [.int (vl_I N0), .int (vl_I st)]) rfl Kz) ?_
  refine jv_Wp.cnd jv_i404 (pt := 151) (pe := 68) (p := ((vl_I N0) ≤ (vl_I st))) (q := ((vl_I N0) ≤ (vl_I st))) rfl jv_bc_ge rfl rfl Iff.rfl (fun _ => ?_) (fun hz => absurd ((vl_I_le (by omega) (by omega)).mpr (by omega)) hz)
  refine jv_Wp.lift (fun _ Kz => jv_Ev.steps jv_i404 2 (pc' := 153) (l' := [(0, .ref 178), (1, .int (vl_I g)), (2, .int (vl_I N0)), (3, .int (vl_I p))]) (st' := [.int (vl_I p), .ref 178]) rfl Kz) ?_
  refine jv_Wp.lift (fun _ Kz => jv_Ev.m jv_i404 (pc' := 156) (st' := []) (G' := (jv_H K (jv_u I 178 22 (vl_I p)) L R)) rfl rfl (jv_m_putI (jv_rwK hW 178 14 31 (by decide)) rfl rfl rfl rfl) Kz) ?_
  refine jv_Wp.lift (fun _ Kz => jv_Ev.steps jv_i404 1 (pc' := 157) (l' := [(0, .ref 178), (1, .int (vl_I g)), (2, .int (vl_I N0)), (3, .int (vl_I p))]) (st' := [.int (1 : Int32)]) rfl Kz) ?_
  refine jv_Wp.of (jv_Ev.ret jv_i404 rfl rfl) ?_
  exact hQ
theorem vr_run_x {K : Nat → Option (Nat × Nat)} {I : Nat → Nat → Int32} {L : Nat → Nat → Int64} {R : Nat → Nat → Value} (hW : jv_rW K R) {n sl : Nat} {g N0 p st c : Nat} {I1 : Nat → Nat → Int32} (e23 : I 178 23 = vl_I st) (hst : st < N0) (hN0 : N0 ≤ 100000) (hT : jv_Ms 383 [.ref 178, .int (vl_I p)] (jv_H K (jv_u I 178 22 (vl_I p)) L R) n sl (none, jv_H K I1 L R, n, sl)) (f23 : I1 178 23 = vl_I st) (f25 : I1 178 25 = vl_I c) (hc8 : c < 256) (hc : c = 149) {v : Int64} (hG0 : jv_Ms 374 [.ref 178, .int (0 : Int32)] (jv_H K (jv_u I1 178 23 ((vl_I st) + (1 : Int32))) L R) n sl (some (.long v), jv_H K (jv_u I1 178 23 ((vl_I st) + (1 : Int32))) L R, n, sl)) {Q : jv_R → Prop} (hQ : Q (some (.int (0 : Int32)), jv_H K (jv_u I1 178 23 ((vl_I st) + (1 : Int32))) (jv_u L 178 21 v) R, n, sl)) : jv_Wp 404 60 [(0, .ref 178), (1, .int (vl_I g)), (2, .int (vl_I N0)), (3, .int (vl_I p))] [] (jv_H K I L R) n sl Q := by
  refine jv_Wp.lift (fun _ Kz => jv_Ev.steps jv_i404 1 (pc' := 61) (l' := [(0, .ref 178), (1, .int (vl_I g)), (2, .int (vl_I N0)), (3, .int (vl_I p))]) (st' := [.ref 178]) rfl Kz) ?_
  refine jv_Wp.lift (fun _ Kz => jv_Ev.m jv_i404 (pc' := 64) (st' := [.int (vl_I st)]) (G' := (jv_H K I L R)) rfl rfl (jv_m_getI (jv_rwK hW 178 14 31 (by decide)) rfl rfl e23) Kz) ?_
  refine jv_Wp.lift (fun _ Kz => jv_Ev.steps jv_i404 1 (pc' := 65) (l' := [(0, .ref 178), (1, .int (vl_I g)), (2, .int (vl_I N0)), (3, .int (vl_I p))]) (st' := [.int (vl_I N0), .int (vl_I st)]) rfl Kz) ?_
  refine jv_Wp.cnd jv_i404 (pt := 151) (pe := 68) (p := ((vl_I N0) ≤ (vl_I st))) (q := ((vl_I N0) ≤ (vl_I st))) rfl jv_bc_ge rfl rfl Iff.rfl (fun hz => absurd hz (fun z => absurd ((vl_I_le (by omega) (by omega)).mp z) (by omega))) (fun _ => ?_)
  refine jv_Wp.lift (fun _ Kz => jv_Ev.steps jv_i404 2 (pc' := 70) (l' := [(0, .ref 178), (1, .int (vl_I g)), (2, .int (vl_I N0)), (3, .int (vl_I p))]) (st' := [.int (vl_I p), .ref 178]) rfl Kz) ?_
  refine jv_Wp.lift (fun _ Kz => jv_Ev.m jv_i404 (pc' := 73) (st' := []) (G' := (jv_H K (jv_u I 178 22 (vl_I p)) L R)) rfl rfl (jv_m_putI (jv_rwK hW 178 14 31 (by decide)) rfl rfl rfl rfl) Kz) ?_
  refine jv_Wp.lift (fun _ Kz => jv_Ev.steps jv_i404 2 (pc' := 75) (l' := [(0, .ref 178), (1, .int (vl_I g)), (2, .int (vl_I N0)), (3, .int (vl_I p))]) (st' := [.int (vl_I p), .ref 178]) rfl Kz) ?_
  refine jv_Wp.lift (fun _ Kz => jv_Ev.c jv_i404 (pc' := 78) (S' := []) (G1 := (jv_H K I1 L R)) jv_i383 [.ref 178, .int (vl_I p)] rfl rfl rfl rfl (jv_cal rfl (jv_H_at (jv_rwK hW 178 14 31 (by decide))) rfl rfl) rfl hT rfl rfl Kz) ?_
  refine jv_Wp.lift (fun _ Kz => jv_Ev.steps jv_i404 2 (pc' := 80) (l' := [(0, .ref 178), (1, .int (vl_I g)), (2, .int (vl_I N0)), (3, .int (vl_I p))]) (st' := [.ref 178, .ref 178]) rfl Kz) ?_
  refine jv_Wp.lift (fun _ Kz => jv_Ev.m jv_i404 (pc' := 83) (st' := [.int (vl_I st), .ref 178]) (G' := (jv_H K I1 L R)) rfl rfl (jv_m_getI (jv_rwK hW 178 14 31 (by decide)) rfl rfl f23) Kz) ?_
  refine jv_Wp.lift (fun _ Kz => jv_Ev.steps jv_i404 2 (pc' := 85) (l' := [(0, .ref 178), (1, .int (vl_I g)), (2, .int (vl_I N0)), (3, .int (vl_I p))]) (st' := [.int ((vl_I st) + (1 : Int32)), .ref 178]) rfl Kz) ?_
  refine jv_Wp.lift (fun _ Kz => jv_Ev.m jv_i404 (pc' := 88) (st' := []) (G' := (jv_H K (jv_u I1 178 23 ((vl_I st) + (1 : Int32))) L R)) rfl rfl (jv_m_putI (jv_rwK hW 178 14 31 (by decide)) rfl rfl rfl rfl) Kz) ?_
  refine jv_Wp.lift (fun _ Kz => jv_Ev.steps jv_i404 1 (pc' := 89) (l' := [(0, .ref 178), (1, .int (vl_I g)), (2, .int (vl_I N0)), (3, .int (vl_I p))]) (st' := [.ref 178]) rfl Kz) ?_
  refine jv_Wp.lift (fun _ Kz => jv_Ev.m jv_i404 (pc' := 92) (st' := [.int (vl_I c)]) (G' := (jv_H K (jv_u I1 178 23 ((vl_I st) + (1 : Int32))) L R)) rfl rfl (jv_m_getI (jv_rwK hW 178 14 31 (by decide)) rfl rfl ((jv_u_j _ _ _ _ (by decide)).trans f25)) Kz) ?_
  refine jv_Wp.lift (fun _ Kz => jv_Ev.steps jv_i404 1 (pc' := 95) (l' := [(0, .ref 178), (1, .int (vl_I g)), (2, .int (vl_I N0)), (3, .int (vl_I p))]) (st' := [.int (149 : Int32), .int (vl_I c)]) rfl Kz) ?_
  refine jv_Wp.cnd jv_i404 (pt := 109) (pe := 98) (p := (¬ (vl_I c) = (149 : Int32))) (q := (¬ (vl_I c) = (149 : Int32))) rfl jv_bc_ne rfl rfl Iff.rfl (fun hz => absurd hz (fun z => z (by rw [hc]; rfl))) (fun _ => ?_)
  refine jv_Wp.lift (fun _ Kz => jv_Ev.steps jv_i404 3 (pc' := 101) (l' := [(0, .ref 178), (1, .int (vl_I g)), (2, .int (vl_I N0)), (3, .int (vl_I p))]) (st' := [.int (0 : Int32), .ref 178, .ref 178]) rfl Kz) ?_
  refine jv_Wp.lift (fun _ Kz => jv_Ev.c jv_i404 (pc' := 104) (S' := [.long v, .ref 178]) jv_i374 [.ref 178, .int (0 : Int32)] rfl rfl rfl rfl (jv_cal rfl (jv_H_at (jv_rwK hW 178 14 31 (by decide))) rfl rfl) rfl hG0 rfl rfl Kz) ?_
  refine jv_Wp.lift (fun _ Kz => jv_Ev.m jv_i404 (pc' := 107) (st' := []) (G' := (jv_H K (jv_u I1 178 23 ((vl_I st) + (1 : Int32))) (jv_u L 178 21 v) R)) rfl rfl (jv_m_putL (jv_rwK hW 178 14 31 (by decide)) rfl rfl rfl rfl) Kz) ?_
  refine jv_Wp.lift (fun _ Kz => jv_Ev.steps jv_i404 1 (pc' := 108) (l' := [(0, .ref 178), (1, .int (vl_I g)), (2, .int (vl_I N0)), (3, .int (vl_I p))]) (st' := [.int (0 : Int32)]) rfl Kz) ?_
  refine jv_Wp.of (jv_Ev.ret jv_i404 rfl rfl) ?_
  exact hQ
theorem vr_run_i {K : Nat → Option (Nat × Nat)} {I : Nat → Nat → Int32} {L : Nat → Nat → Int64} {R : Nat → Nat → Value} (hW : jv_rW K R) {n sl : Nat} {g N0 p st c : Nat} {I1 : Nat → Nat → Int32} (e23 : I 178 23 = vl_I st) (hst : st < N0) (hN0 : N0 ≤ 100000) (hT : jv_Ms 383 [.ref 178, .int (vl_I p)] (jv_H K (jv_u I 178 22 (vl_I p)) L R) n sl (none, jv_H K I1 L R, n, sl)) (f23 : I1 178 23 = vl_I st) (f25 : I1 178 25 = vl_I c) (hc8 : c < 256) (hc : ¬ c = 149) {q N : Nat} {I2 : Nat → Nat → Int32} {L2 : Nat → Nat → Int64} (hg : g < 8) (hN : N ≤ 1024) (hDo : jv_Ms 402 [.ref 178, .int (vl_I p)] (jv_H K (jv_u I1 178 23 ((vl_I st) + (1 : Int32))) L R) n sl (none, jv_H K I2 L2 R, n, sl)) (g30 : I2 178 30 = vl_I q) (gN : I2 217 g = vl_I N) (hq : q < N) {Q : jv_R → Prop} (cont : jv_Wp 404 60 [(0, .ref 178), (1, .int (vl_I g)), (2, .int (vl_I N0)), (3, .int (vl_I q))] [] (jv_H K I2 L2 R) n sl Q) : jv_Wp 404 60 [(0, .ref 178), (1, .int (vl_I g)), (2, .int (vl_I N0)), (3, .int (vl_I p))] [] (jv_H K I L R) n sl Q := by
  refine jv_Wp.lift (fun _ Kz => jv_Ev.steps jv_i404 1 (pc' := 61) (l' := [(0, .ref 178), (1, .int (vl_I g)), (2, .int (vl_I N0)), (3, .int (vl_I p))]) (st' := [.ref 178]) rfl Kz) ?_
  refine jv_Wp.lift (fun _ Kz => jv_Ev.m jv_i404 (pc' := 64) (st' := [.int (vl_I st)]) (G' := (jv_H K I L R)) rfl rfl (jv_m_getI (jv_rwK hW 178 14 31 (by decide)) rfl rfl e23) Kz) ?_
  refine jv_Wp.lift (fun _ Kz => jv_Ev.steps jv_i404 1 (pc' := 65) (l' := [(0, .ref 178), (1, .int (vl_I g)), (2, .int (vl_I N0)), (3, .int (vl_I p))]) (st' := [.int (vl_I N0), .int (vl_I st)]) rfl Kz) ?_
  refine jv_Wp.cnd jv_i404 (pt := 151) (pe := 68) (p := ((vl_I N0) ≤ (vl_I st))) (q := ((vl_I N0) ≤ (vl_I st))) rfl jv_bc_ge rfl rfl Iff.rfl (fun hz => absurd hz (fun z => absurd ((vl_I_le (by omega) (by omega)).mp z) (by omega))) (fun _ => ?_)
  refine jv_Wp.lift (fun _ Kz => jv_Ev.steps jv_i404 2 (pc' := 70) (l' := [(0, .ref 178), (1, .int (vl_I g)), (2, .int (vl_I N0)), (3, .int (vl_I p))]) (st' := [.int (vl_I p), .ref 178]) rfl Kz) ?_
  refine jv_Wp.lift (fun _ Kz => jv_Ev.m jv_i404 (pc' := 73) (st' := []) (G' := (jv_H K (jv_u I 178 22 (vl_I p)) L R)) rfl rfl (jv_m_putI (jv_rwK hW 178 14 31 (by decide)) rfl rfl rfl rfl) Kz) ?_
  refine jv_Wp.lift (fun _ Kz => jv_Ev.steps jv_i404 2 (pc' := 75) (l' := [(0, .ref 178), (1, .int (vl_I g)), (2, .int (vl_I N0)), (3, .int (vl_I p))]) (st' := [.int (vl_I p), .ref 178]) rfl Kz) ?_
  refine jv_Wp.lift (fun _ Kz => jv_Ev.c jv_i404 (pc' := 78) (S' := []) (G1 := (jv_H K I1 L R)) jv_i383 [.ref 178, .int (vl_I p)] rfl rfl rfl rfl (jv_cal rfl (jv_H_at (jv_rwK hW 178 14 31 (by decide))) rfl rfl) rfl hT rfl rfl Kz) ?_
  refine jv_Wp.lift (fun _ Kz => jv_Ev.steps jv_i404 2 (pc' := 80) (l' := [(0, .ref 178), (1, .int (vl_I g)), (2, .int (vl_I N0)), (3, .int (vl_I p))]) (st' := [.ref 178, .ref 178]) rfl Kz) ?_
  refine jv_Wp.lift (fun _ Kz => jv_Ev.m jv_i404 (pc' := 83) (st' := [.int (vl_I st), .ref 178]) (G' := (jv_H K I1 L R)) rfl rfl (jv_m_getI (jv_rwK hW 178 14 31 (by decide)) rfl rfl f23) Kz) ?_
  refine jv_Wp.lift (fun _ Kz => jv_Ev.steps jv_i404 2 (pc' := 85) (l' := [(0, .ref 178), (1, .int (vl_I g)), (2, .int (vl_I N0)), (3, .int (vl_I p))]) (st' := [.int ((vl_I st) + (1 : Int32)), .ref 178]) rfl Kz) ?_
  refine jv_Wp.lift (fun _ Kz => jv_Ev.m jv_i404 (pc' := 88) (st' := []) (G' := (jv_H K (jv_u I1 178 23 ((vl_I st) + (1 : Int32))) L R)) rfl rfl (jv_m_putI (jv_rwK hW 178 14 31 (by decide)) rfl rfl rfl rfl) Kz) ?_
  refine jv_Wp.lift (fun _ Kz => jv_Ev.steps jv_i404 1 (pc' := 89) (l' := [(0, .ref 178), (1, .int (vl_I g)), (2, .int (vl_I N0)), (3, .int (vl_I p))]) (st' := [.ref 178]) rfl Kz) ?_
  refine jv_Wp.lift (fun _ Kz => jv_Ev.m jv_i404 (pc' := 92) (st' := [.int (vl_I c)]) (G' := (jv_H K (jv_u I1 178 23 ((vl_I st) + (1 : Int32))) L R)) rfl rfl (jv_m_getI (jv_rwK hW 178 14 31 (by decide)) rfl rfl ((jv_u_j _ _ _ _ (by decide)).trans f25)) Kz) ?_
  refine jv_Wp.lift (fun _ Kz => jv_Ev.steps jv_i404 1 (pc' := 95) (l' := [(0, .ref 178), (1, .int (vl_I g)), (2, .int (vl_I N0)), (3, .int (vl_I p))]) (st' := [.int (149 : Int32), .int (vl_I c)]) rfl Kz) ?_
  refine jv_Wp.cnd jv_i404 (pt := 109) (pe := 98) (p := (¬ (vl_I c) = (149 : Int32))) (q := (¬ (vl_I c) = (149 : Int32))) rfl jv_bc_ne rfl rfl Iff.rfl (fun _ => ?_) (fun hz => absurd (fun z => hc ((vl_I_inj (a := c) (b := 149) (by omega) (by decide)).mp z)) hz)
  refine jv_Wp.lift (fun _ Kz => jv_Ev.steps jv_i404 2 (pc' := 111) (l' := [(0, .ref 178), (1, .int (vl_I g)), (2, .int (vl_I N0)), (3, .int (vl_I p))]) (st' := [.int (vl_I p), .ref 178]) rfl Kz) ?_
  refine jv_Wp.lift (fun _ Kz => jv_Ev.c jv_i404 (pc' := 114) (S' := []) (G1 := (jv_H K I2 L2 R)) jv_i402 [.ref 178, .int (vl_I p)] rfl rfl rfl rfl (jv_cal rfl (jv_H_at (jv_rwK hW 178 14 31 (by decide))) rfl rfl) rfl hDo rfl rfl Kz) ?_
  refine jv_Wp.lift (fun _ Kz => jv_Ev.steps jv_i404 2 (pc' := 116) (l' := [(0, .ref 178), (1, .int (vl_I g)), (2, .int (vl_I N0)), (3, .int (vl_I p))]) (st' := [.ref 178, .ref 178]) rfl Kz) ?_
  refine jv_Wp.lift (fun _ Kz => jv_Ev.m jv_i404 (pc' := 119) (st' := [.int (vl_I q), .ref 178]) (G' := (jv_H K I2 L2 R)) rfl rfl (jv_m_getI (jv_rwK hW 178 14 31 (by decide)) rfl rfl g30) Kz) ?_
  refine jv_Wp.cnd jv_i404 (pt := 135) (pe := 122) (p := ((vl_I q) < 0)) (q := ((vl_I q) < 0)) rfl jv_bi_lt rfl rfl Iff.rfl (fun hz => absurd hz (vl_I_n0 (by omega))) (fun _ => ?_)
  refine jv_Wp.lift (fun _ Kz => jv_Ev.steps jv_i404 1 (pc' := 123) (l' := [(0, .ref 178), (1, .int (vl_I g)), (2, .int (vl_I N0)), (3, .int (vl_I p))]) (st' := [.ref 178, .ref 178]) rfl Kz) ?_
  refine jv_Wp.lift (fun _ Kz => jv_Ev.m jv_i404 (pc' := 126) (st' := [.int (vl_I q), .ref 178]) (G' := (jv_H K I2 L2 R)) rfl rfl (jv_m_getI (jv_rwK hW 178 14 31 (by decide)) rfl rfl g30) Kz) ?_
  refine jv_Wp.lift (fun _ Kz => jv_Ev.steps jv_i404 1 (pc' := 127) (l' := [(0, .ref 178), (1, .int (vl_I g)), (2, .int (vl_I N0)), (3, .int (vl_I p))]) (st' := [.ref 178, .int (vl_I q), .ref 178]) rfl Kz) ?_
  refine jv_Wp.lift (fun _ Kz => jv_Ev.m jv_i404 (pc' := 130) (st' := [.ref 217, .int (vl_I q), .ref 178]) (G' := (jv_H K I2 L2 R)) rfl rfl (jv_m_getR (jv_rwK hW 178 14 31 (by decide)) rfl rfl (jv_rwR hW 178 6 217 (by decide))) Kz) ?_
  refine jv_Wp.lift (fun _ Kz => jv_Ev.steps jv_i404 1 (pc' := 131) (l' := [(0, .ref 178), (1, .int (vl_I g)), (2, .int (vl_I N0)), (3, .int (vl_I p))]) (st' := [.int (vl_I g), .ref 217, .int (vl_I q), .ref 178]) rfl Kz) ?_
  refine jv_Wp.lift (fun _ Kz => jv_Ev.m jv_i404 (pc' := 132) (st' := [.int (vl_I N), .int (vl_I q), .ref 178]) (G' := (jv_H K I2 L2 R)) rfl rfl (jv_m_ialdv (jv_rwK hW 217 102 8 (by decide)) rfl (vl_I_ix (by omega) (by decide)) rfl ((congrArg (I2 217) (vl_I_nat (by omega))).trans gN)) Kz) ?_
  refine jv_Wp.cnd jv_i404 (pt := 139) (pe := 135) (p := ((vl_I q) < (vl_I N))) (q := ((vl_I q) < (vl_I N))) rfl jv_bc_lt rfl rfl Iff.rfl (fun _ => ?_) (fun hz => absurd ((vl_I_lt (by omega) (by omega)).mpr hq) hz)
  refine jv_Wp.lift (fun _ Kz => jv_Ev.steps jv_i404 1 (pc' := 140) (l' := [(0, .ref 178), (1, .int (vl_I g)), (2, .int (vl_I N0)), (3, .int (vl_I p))]) (st' := [.int (0 : Int32), .ref 178]) rfl Kz) ?_
  refine jv_Wp.lift (fun _ Kz => jv_Ev.c jv_i404 (pc' := 143) (S' := []) jv_i365 [.ref 178, .int (0 : Int32)] rfl rfl rfl rfl (jv_cal rfl (jv_H_at (jv_rwK hW 178 14 31 (by decide))) rfl rfl) rfl (vr_count0 hW) rfl rfl Kz) ?_
  refine jv_Wp.lift (fun _ Kz => jv_Ev.steps jv_i404 1 (pc' := 144) (l' := [(0, .ref 178), (1, .int (vl_I g)), (2, .int (vl_I N0)), (3, .int (vl_I p))]) (st' := [.ref 178]) rfl Kz) ?_
  refine jv_Wp.lift (fun _ Kz => jv_Ev.m jv_i404 (pc' := 147) (st' := [.int (vl_I q)]) (G' := (jv_H K I2 L2 R)) rfl rfl (jv_m_getI (jv_rwK hW 178 14 31 (by decide)) rfl rfl g30) Kz) ?_
  refine jv_Wp.lift (fun _ Kz => jv_Ev.steps jv_i404 2 (pc' := 60) (l' := [(3, .int (vl_I q)), (0, .ref 178), (1, .int (vl_I g)), (2, .int (vl_I N0))]) (st' := []) rfl Kz) ?_
  refine jv_Wp.loc (l := [(0, .ref 178), (1, .int (vl_I g)), (2, .int (vl_I N0)), (3, .int (vl_I q))]) ⟨List.forall_mem_cons.mpr ⟨.tail _ (.head _), List.forall_mem_cons.mpr ⟨.tail _ (.tail _ (.head _)), List.forall_mem_cons.mpr ⟨.tail _ (.tail _ (.tail _ (.head _))), List.forall_mem_cons.mpr ⟨.head _, fun _ h => absurd h List.not_mem_nil⟩⟩⟩⟩, by show List.Nodup [3, 0, 1, 2]; decide⟩ ?_
  exact cont
theorem vr_doesP {K : Nat → Option (Nat × Nat)} {I : Nat → Nat → Int32} {L : Nat → Nat → Int64} {R : Nat → Nat → Value} (hW : jv_rW K R) {S : vm_S} (hsh : vm_sh S) (h : vm_r I L S) {f : vf_F} (D : vm_D I f) (hd : f.d < 11) (hs : f.s < 11) {g : Int} {p : Nat} (hp : p < 1024) (h0 : 0 ≤ g ∧ g ≤ 1024) (hk : f.kind = 5) (hcc : f.code = 133) (hg : g = (p : Int) + 1) {n sl : Nat} {E : Nat → Nat → Prop} {P : (Nat → Nat → Int32) → (Nat → Nat → Int64) → Prop} (hE : ∀ q f, vr_Ep q f → E q f) (hC0 : ∀ IN, vm_r IN L S → vm_D IN f → IN 178 30 = vl_I (p + 1) → (∀ q f, ¬ (q = 178 ∧ f = 30) → IN q f = I q f) → ∃ I1 L1, jv_Ms 401 [.ref 178] (jv_H K IN L R) n sl (none, jv_H K I1 L1 R, n, sl) ∧ P I1 L1 ∧ I1 178 30 = vl_I (p + 1) ∧ vc_ff E IN L I1 L1) : ∃ I1 L1, jv_Ms 402 [.ref 178, .int (vl_I p)] (jv_H K I L R) n sl (none, jv_H K I1 L1 R, n, sl) ∧ P I1 L1 ∧ I1 178 30 = vl_I g.toNat ∧ vc_ff E I L I1 L1 := by
  obtain ⟨Q, hQ⟩ : ∃ Q : jv_R → Prop, Q = fun X => ∃ I1 L1, X = (none, jv_H K I1 L1 R, n, sl) ∧ P I1 L1 ∧ I1 178 30 = vl_I g.toNat ∧ vc_ff E I L I1 L1 := ⟨_, rfl⟩
  suffices hE : jv_Wp 402 0 [(0, .ref 178), (1, .int (vl_I p))] [] (jv_H K I L R) n sl Q by
    rw [hQ] at hE
    obtain ⟨X, hE, I1, L1, e, h'⟩ := hE
    subst e
    exact ⟨I1, L1, hE, h'⟩
  have hw : ¬ f.code = 24 := by have : f.kind = f.code % 8 := rfl; omega
  obtain ⟨IN, eN⟩ : ∃ IN, IN = jv_u I 178 30 ((vl_I p) + (1 : Int32)) := ⟨_, rfl⟩
  have nN : IN 178 30 = vl_I (p + 1) := by rw [eN, jv_u_self]; exact vl_I_add p 1
  have dN : ∀ j, j ≠ 30 → IN 178 j = I 178 j := fun j hj => by rw [eN]; exact jv_u_j _ _ _ _ hj
  have DN : vm_D IN f := vm_D_30 D dN
  have hN : vm_r IN L S := by rw [eN]; exact vm_r_nx h
  have fN : vc_ff vr_Ep I L IN L := by rw [eN]; exact vc_ff_u (Or.inr ⟨rfl, rfl⟩)
  obtain ⟨I2, L2, hF, hm, hn3, hf0⟩ := hC0 IN hN DN nN (fun q f z => by rw [eN, jv_u_at, if_neg z])
  have hn2 : I2 178 30 = vl_I g.toNat := by rw [hn3]; congr 1; omega
  have hf := vc_ff_trans (vc_ff_le hE fN) hf0
  subst eN
  refine jv_Wp.lift (fun _ Kz => jv_Ev.steps jv_i402 2 (pc' := 2) (l' := [(0, .ref 178), (1, .int (vl_I p))]) (st' := [.ref 178, .ref 178]) rfl Kz) ?_
  refine jv_Wp.lift (fun _ Kz => jv_Ev.c jv_i402 (pc' := 5) (S' := [.int (0 : Int32), .ref 178]) jv_i390 [.ref 178] rfl rfl rfl rfl (jv_cal rfl (jv_H_at (jv_rwK hW 178 14 31 (by decide))) rfl rfl) rfl (by have z := vr_misWide (L := L) (n := n) (sl := sl) hW D; rw [show decide (f.code = 24) = false from decide_eq_false hw] at z; exact z) rfl rfl Kz) ?_
  refine jv_Wp.lift (fun _ Kz => jv_Ev.br jv_i402 (pc' := 14) (st' := [.ref 178]) rfl (by rfl) Kz) ?_
  refine jv_Wp.lift (fun _ Kz => jv_Ev.steps jv_i402 3 (pc' := 17) (l' := [(0, .ref 178), (1, .int (vl_I p))]) (st' := [.int ((vl_I p) + (1 : Int32)), .ref 178]) rfl Kz) ?_
  refine jv_Wp.lift (fun _ Kz => jv_Ev.m jv_i402 (pc' := 20) (st' := []) (G' := (jv_H K (jv_u I 178 30 ((vl_I p) + (1 : Int32))) L R)) rfl rfl (jv_m_putI (jv_rwK hW 178 14 31 (by decide)) rfl rfl rfl rfl) Kz) ?_
  refine jv_Wp.lift (fun _ Kz => jv_Ev.steps jv_i402 1 (pc' := 21) (l' := [(0, .ref 178), (1, .int (vl_I p))]) (st' := [.ref 178]) rfl Kz) ?_
  refine jv_Wp.lift (fun _ Kz => jv_Ev.c jv_i402 (pc' := 24) (S' := [.int (5 : Int32)]) jv_i385 [.ref 178] rfl rfl rfl rfl (jv_cal rfl (jv_H_at (jv_rwK hW 178 14 31 (by decide))) rfl rfl) rfl (by have z := vr_mkind (L := L) (n := n) (sl := sl) hW DN; rw [hk] at z; exact z) rfl rfl Kz) ?_
  refine jv_Wp.lift (fun _ Kz => jv_Ev.br jv_i402 (pc' := 79) (st' := []) rfl (by rfl) Kz) ?_
  refine jv_Wp.lift (fun _ Kz => jv_Ev.steps jv_i402 1 (pc' := 80) (l' := [(0, .ref 178), (1, .int (vl_I p))]) (st' := [.ref 178]) rfl Kz) ?_
  refine jv_Wp.lift (fun _ Kz => jv_Ev.m jv_i402 (pc' := 83) (st' := [.int (vl_I f.code)]) (G' := (jv_H K (jv_u I 178 30 ((vl_I p) + (1 : Int32))) L R)) rfl rfl (jv_m_getI (jv_rwK hW 178 14 31 (by decide)) rfl rfl ((jv_u_j _ _ _ _ (by decide)).trans (vm_d_c D))) Kz) ?_
  refine jv_Wp.lift (fun _ Kz => jv_Ev.steps jv_i402 1 (pc' := 86) (l' := [(0, .ref 178), (1, .int (vl_I p))]) (st' := [.int (133 : Int32), .int (vl_I f.code)]) rfl Kz) ?_
  refine jv_Wp.cnd jv_i402 (pt := 96) (pe := 89) (p := (¬ (vl_I f.code) = (133 : Int32))) (q := (¬ (vl_I f.code) = (133 : Int32))) rfl jv_bc_ne rfl rfl Iff.rfl (fun hz => absurd hz (fun z => z ((vl_I_inj (a := f.code) (b := 133) (by have := vr_dc D; omega) (by decide)).mpr hcc))) (fun _ => ?_)
  refine jv_Wp.lift (fun _ Kz => jv_Ev.steps jv_i402 1 (pc' := 90) (l' := [(0, .ref 178), (1, .int (vl_I p))]) (st' := [.ref 178]) rfl Kz) ?_
  refine jv_Wp.lift (fun _ Kz => jv_Ev.c jv_i402 (pc' := 93) (S' := []) (G1 := (jv_H K I2 L2 R)) jv_i401 [.ref 178] rfl rfl rfl rfl (jv_cal rfl (jv_H_at (jv_rwK hW 178 14 31 (by decide))) rfl rfl) rfl hF rfl rfl Kz) ?_
  refine jv_Wp.lift (fun _ Kz => jv_Ev.steps jv_i402 1 (pc' := 156) (l' := [(0, .ref 178), (1, .int (vl_I p))]) (st' := []) rfl Kz) ?_
  refine jv_Wp.of (jv_Ev.ret jv_i402 rfl rfl) ?_
  rw [hQ]
  exact ⟨_, _, rfl, hm, hn2, hf⟩