/-! part g52: fields of the context, of the reference (gen/tg52.py) -/
theorem jv_i361 : jv_I 361 2 (some .boolean) 0 0 jv_c361 := ⟨rfl, rfl, rfl, rfl, rfl⟩
theorem vr_noField_y_0 {K : Nat → Option (Nat × Nat)} {I : Nat → Nat → Int32} {L : Nat → Nat → Int64} {R : Nat → Nat → Value} (hW : jv_rW K R) {x : Int32} (h8 : (x - x / (8 : Int32) * (8 : Int32)) = 0) (h1 : ¬ x < (16 : Int32)) (h2 : x ≤ (56 : Int32)) {n sl : Nat} {Q : jv_R → Prop} (hQ : Q (some (.int (0 : Int32)), jv_H K (jv_u I 178 0 (0 : Int32)) L R, n, sl)) : jv_Wp 361 0 [(0, .ref 178), (1, .int x)] [] (jv_H K I L R) n sl Q := by
  refine jv_Wp.lift (fun _ Kz => jv_Ev.steps jv_i361 3 (pc' := 4) (l' := [(0, .ref 178), (1, .int x)]) (st' := [.int (8 : Int32), .int x, .ref 178]) rfl Kz) ?_
  refine jv_Wp.lift (fun _ Kz => jv_Ev.op jv_i361 (pc' := 5) (l' := [(0, .ref 178), (1, .int x)]) (st' := [.int (x - x / (8 : Int32) * (8 : Int32)), .ref 178]) rfl (jv_op_irem (by decide)) Kz) ?_
  refine jv_Wp.cnd jv_i361 (pt := 12) (pe := 8) (p := ((x - x / (8 : Int32) * (8 : Int32)) = 0)) (q := ((x - x / (8 : Int32) * (8 : Int32)) = 0)) rfl jv_bi_eq rfl rfl Iff.rfl (fun _ => ?_) (fun hz => absurd h8 hz)
  refine jv_Wp.lift (fun _ Kz => jv_Ev.steps jv_i361 2 (pc' := 15) (l' := [(0, .ref 178), (1, .int x)]) (st' := [.int (16 : Int32), .int x, .ref 178]) rfl Kz) ?_
  refine jv_Wp.cnd jv_i361 (pt := 24) (pe := 18) (p := (x < (16 : Int32))) (q := (x < (16 : Int32))) rfl jv_bc_lt rfl rfl Iff.rfl (fun hz => absurd hz h1) (fun _ => ?_)
  refine jv_Wp.lift (fun _ Kz => jv_Ev.steps jv_i361 2 (pc' := 21) (l' := [(0, .ref 178), (1, .int x)]) (st' := [.int (56 : Int32), .int x, .ref 178]) rfl Kz) ?_
  refine jv_Wp.cnd jv_i361 (pt := 28) (pe := 24) (p := (x ≤ (56 : Int32))) (q := (x ≤ (56 : Int32))) rfl jv_bc_le rfl rfl Iff.rfl (fun _ => ?_) (fun hz => absurd h2 hz)
  refine jv_Wp.lift (fun _ Kz => jv_Ev.steps jv_i361 1 (pc' := 29) (l' := [(0, .ref 178), (1, .int x)]) (st' := [.int (0 : Int32), .ref 178]) rfl Kz) ?_
  refine jv_Wp.lift (fun _ Kz => jv_Ev.m jv_i361 (pc' := 32) (st' := []) (G' := (jv_H K (jv_u I 178 0 (0 : Int32)) L R)) rfl rfl (jv_m_putI (jv_rwK hW 178 14 31 (by decide)) rfl rfl rfl rfl) Kz) ?_
  refine jv_Wp.lift (fun _ Kz => jv_Ev.steps jv_i361 1 (pc' := 33) (l' := [(0, .ref 178), (1, .int x)]) (st' := [.ref 178]) rfl Kz) ?_
  refine jv_Wp.lift (fun _ Kz => jv_Ev.m jv_i361 (pc' := 36) (st' := [.int (0 : Int32)]) (G' := (jv_H K (jv_u I 178 0 (0 : Int32)) L R)) rfl rfl (jv_m_getI (jv_rwK hW 178 14 31 (by decide)) rfl rfl (jv_u_self _ _ _ _)) Kz) ?_
  refine jv_Wp.lift (fun _ Kz => jv_Ev.br jv_i361 (pc' := 43) (st' := []) rfl (by rfl) Kz) ?_
  refine jv_Wp.lift (fun _ Kz => jv_Ev.steps jv_i361 1 (pc' := 44) (l' := [(0, .ref 178), (1, .int x)]) (st' := [.int (0 : Int32)]) rfl Kz) ?_
  refine jv_Wp.of (jv_Ev.ret jv_i361 rfl (jv_ret_b (Or.inl rfl))) ?_
  exact hQ
theorem vr_noField_y {K : Nat → Option (Nat × Nat)} {I : Nat → Nat → Int32} {L : Nat → Nat → Int64} {R : Nat → Nat → Value} (hW : jv_rW K R) {x : Int32} (h8 : (x - x / (8 : Int32) * (8 : Int32)) = 0) (h1 : ¬ x < (16 : Int32)) (h2 : x ≤ (56 : Int32)) {n sl : Nat} : jv_Ms 361 [.ref 178, .int x] (jv_H K I L R) n sl (some (.int (0 : Int32)), jv_H K (jv_u I 178 0 (0 : Int32)) L R, n, sl) := by
  obtain ⟨X, k, e⟩ := vr_noField_y_0 (n := n) (sl := sl) (I := I) (L := L) (R := R) (Q := fun X => X = (some (.int (0 : Int32)), jv_H K (jv_u I 178 0 (0 : Int32)) L R, n, sl)) hW h8 h1 h2 rfl
  subst e
  exact k
theorem vr_noField_e_0 {K : Nat → Option (Nat × Nat)} {I : Nat → Nat → Int32} {L : Nat → Nat → Int64} {R : Nat → Nat → Value} (hW : jv_rW K R) {x : Int32} (h8 : ¬ (x - x / (8 : Int32) * (8 : Int32)) = 0) {n sl : Nat} {Q : jv_R → Prop} (hQ : Q (some (.int (1 : Int32)), jv_H K (jv_u I 178 0 (2 : Int32)) L R, n, sl)) : jv_Wp 361 0 [(0, .ref 178), (1, .int x)] [] (jv_H K I L R) n sl Q := by
  refine jv_Wp.lift (fun _ Kz => jv_Ev.steps jv_i361 3 (pc' := 4) (l' := [(0, .ref 178), (1, .int x)]) (st' := [.int (8 : Int32), .int x, .ref 178]) rfl Kz) ?_
  refine jv_Wp.lift (fun _ Kz => jv_Ev.op jv_i361 (pc' := 5) (l' := [(0, .ref 178), (1, .int x)]) (st' := [.int (x - x / (8 : Int32) * (8 : Int32)), .ref 178]) rfl (jv_op_irem (by decide)) Kz) ?_
  refine jv_Wp.cnd jv_i361 (pt := 12) (pe := 8) (p := ((x - x / (8 : Int32) * (8 : Int32)) = 0)) (q := ((x - x / (8 : Int32) * (8 : Int32)) = 0)) rfl jv_bi_eq rfl rfl Iff.rfl (fun hz => absurd hz h8) (fun _ => ?_)
  refine jv_Wp.lift (fun _ Kz => jv_Ev.steps jv_i361 2 (pc' := 29) (l' := [(0, .ref 178), (1, .int x)]) (st' := [.int (2 : Int32), .ref 178]) rfl Kz) ?_
  refine jv_Wp.lift (fun _ Kz => jv_Ev.m jv_i361 (pc' := 32) (st' := []) (G' := (jv_H K (jv_u I 178 0 (2 : Int32)) L R)) rfl rfl (jv_m_putI (jv_rwK hW 178 14 31 (by decide)) rfl rfl rfl rfl) Kz) ?_
  refine jv_Wp.lift (fun _ Kz => jv_Ev.steps jv_i361 1 (pc' := 33) (l' := [(0, .ref 178), (1, .int x)]) (st' := [.ref 178]) rfl Kz) ?_
  refine jv_Wp.lift (fun _ Kz => jv_Ev.m jv_i361 (pc' := 36) (st' := [.int (2 : Int32)]) (G' := (jv_H K (jv_u I 178 0 (2 : Int32)) L R)) rfl rfl (jv_m_getI (jv_rwK hW 178 14 31 (by decide)) rfl rfl (jv_u_self _ _ _ _)) Kz) ?_
  refine jv_Wp.lift (fun _ Kz => jv_Ev.br jv_i361 (pc' := 39) (st' := []) rfl (by rfl) Kz) ?_
  refine jv_Wp.lift (fun _ Kz => jv_Ev.steps jv_i361 2 (pc' := 44) (l' := [(0, .ref 178), (1, .int x)]) (st' := [.int (1 : Int32)]) rfl Kz) ?_
  refine jv_Wp.of (jv_Ev.ret jv_i361 rfl (jv_ret_b (Or.inr rfl))) ?_
  exact hQ
theorem vr_noField_e {K : Nat → Option (Nat × Nat)} {I : Nat → Nat → Int32} {L : Nat → Nat → Int64} {R : Nat → Nat → Value} (hW : jv_rW K R) {x : Int32} (h8 : ¬ (x - x / (8 : Int32) * (8 : Int32)) = 0) {n sl : Nat} : jv_Ms 361 [.ref 178, .int x] (jv_H K I L R) n sl (some (.int (1 : Int32)), jv_H K (jv_u I 178 0 (2 : Int32)) L R, n, sl) := by
  obtain ⟨X, k, e⟩ := vr_noField_e_0 (n := n) (sl := sl) (I := I) (L := L) (R := R) (Q := fun X => X = (some (.int (1 : Int32)), jv_H K (jv_u I 178 0 (2 : Int32)) L R, n, sl)) hW h8 rfl
  subst e
  exact k
theorem vr_noField_a_0 {K : Nat → Option (Nat × Nat)} {I : Nat → Nat → Int32} {L : Nat → Nat → Int64} {R : Nat → Nat → Value} (hW : jv_rW K R) {x : Int32} (h8 : (x - x / (8 : Int32) * (8 : Int32)) = 0) (h1 : x < (16 : Int32)) {n sl : Nat} {Q : jv_R → Prop} (hQ : Q (some (.int (1 : Int32)), jv_H K (jv_u I 178 0 (1 : Int32)) L R, n, sl)) : jv_Wp 361 0 [(0, .ref 178), (1, .int x)] [] (jv_H K I L R) n sl Q := by
  refine jv_Wp.lift (fun _ Kz => jv_Ev.steps jv_i361 3 (pc' := 4) (l' := [(0, .ref 178), (1, .int x)]) (st' := [.int (8 : Int32), .int x, .ref 178]) rfl Kz) ?_
  refine jv_Wp.lift (fun _ Kz => jv_Ev.op jv_i361 (pc' := 5) (l' := [(0, .ref 178), (1, .int x)]) (st' := [.int (x - x / (8 : Int32) * (8 : Int32)), .ref 178]) rfl (jv_op_irem (by decide)) Kz) ?_
  refine jv_Wp.cnd jv_i361 (pt := 12) (pe := 8) (p := ((x - x / (8 : Int32) * (8 : Int32)) = 0)) (q := ((x - x / (8 : Int32) * (8 : Int32)) = 0)) rfl jv_bi_eq rfl rfl Iff.rfl (fun _ => ?_) (fun hz => absurd h8 hz)
  refine jv_Wp.lift (fun _ Kz => jv_Ev.steps jv_i361 2 (pc' := 15) (l' := [(0, .ref 178), (1, .int x)]) (st' := [.int (16 : Int32), .int x, .ref 178]) rfl Kz) ?_
  refine jv_Wp.cnd jv_i361 (pt := 24) (pe := 18) (p := (x < (16 : Int32))) (q := (x < (16 : Int32))) rfl jv_bc_lt rfl rfl Iff.rfl (fun _ => ?_) (fun hz => absurd h1 hz)
  refine jv_Wp.lift (fun _ Kz => jv_Ev.steps jv_i361 2 (pc' := 29) (l' := [(0, .ref 178), (1, .int x)]) (st' := [.int (1 : Int32), .ref 178]) rfl Kz) ?_
  refine jv_Wp.lift (fun _ Kz => jv_Ev.m jv_i361 (pc' := 32) (st' := []) (G' := (jv_H K (jv_u I 178 0 (1 : Int32)) L R)) rfl rfl (jv_m_putI (jv_rwK hW 178 14 31 (by decide)) rfl rfl rfl rfl) Kz) ?_
  refine jv_Wp.lift (fun _ Kz => jv_Ev.steps jv_i361 1 (pc' := 33) (l' := [(0, .ref 178), (1, .int x)]) (st' := [.ref 178]) rfl Kz) ?_
  refine jv_Wp.lift (fun _ Kz => jv_Ev.m jv_i361 (pc' := 36) (st' := [.int (1 : Int32)]) (G' := (jv_H K (jv_u I 178 0 (1 : Int32)) L R)) rfl rfl (jv_m_getI (jv_rwK hW 178 14 31 (by decide)) rfl rfl (jv_u_self _ _ _ _)) Kz) ?_
  refine jv_Wp.lift (fun _ Kz => jv_Ev.br jv_i361 (pc' := 39) (st' := []) rfl (by rfl) Kz) ?_
  refine jv_Wp.lift (fun _ Kz => jv_Ev.steps jv_i361 2 (pc' := 44) (l' := [(0, .ref 178), (1, .int x)]) (st' := [.int (1 : Int32)]) rfl Kz) ?_
  refine jv_Wp.of (jv_Ev.ret jv_i361 rfl (jv_ret_b (Or.inr rfl))) ?_
  exact hQ
theorem vr_noField_a {K : Nat → Option (Nat × Nat)} {I : Nat → Nat → Int32} {L : Nat → Nat → Int64} {R : Nat → Nat → Value} (hW : jv_rW K R) {x : Int32} (h8 : (x - x / (8 : Int32) * (8 : Int32)) = 0) (h1 : x < (16 : Int32)) {n sl : Nat} : jv_Ms 361 [.ref 178, .int x] (jv_H K I L R) n sl (some (.int (1 : Int32)), jv_H K (jv_u I 178 0 (1 : Int32)) L R, n, sl) := by
  obtain ⟨X, k, e⟩ := vr_noField_a_0 (n := n) (sl := sl) (I := I) (L := L) (R := R) (Q := fun X => X = (some (.int (1 : Int32)), jv_H K (jv_u I 178 0 (1 : Int32)) L R, n, sl)) hW h8 h1 rfl
  subst e
  exact k
theorem vr_noField_b_0 {K : Nat → Option (Nat × Nat)} {I : Nat → Nat → Int32} {L : Nat → Nat → Int64} {R : Nat → Nat → Value} (hW : jv_rW K R) {x : Int32} (h8 : (x - x / (8 : Int32) * (8 : Int32)) = 0) (h1 : ¬ x < (16 : Int32)) (h2 : ¬ x ≤ (56 : Int32)) {n sl : Nat} {Q : jv_R → Prop} (hQ : Q (some (.int (1 : Int32)), jv_H K (jv_u I 178 0 (1 : Int32)) L R, n, sl)) : jv_Wp 361 0 [(0, .ref 178), (1, .int x)] [] (jv_H K I L R) n sl Q := by
  refine jv_Wp.lift (fun _ Kz => jv_Ev.steps jv_i361 3 (pc' := 4) (l' := [(0, .ref 178), (1, .int x)]) (st' := [.int (8 : Int32), .int x, .ref 178]) rfl Kz) ?_
  refine jv_Wp.lift (fun _ Kz => jv_Ev.op jv_i361 (pc' := 5) (l' := [(0, .ref 178), (1, .int x)]) (st' := [.int (x - x / (8 : Int32) * (8 : Int32)), .ref 178]) rfl (jv_op_irem (by decide)) Kz) ?_
  refine jv_Wp.cnd jv_i361 (pt := 12) (pe := 8) (p := ((x - x / (8 : Int32) * (8 : Int32)) = 0)) (q := ((x - x / (8 : Int32) * (8 : Int32)) = 0)) rfl jv_bi_eq rfl rfl Iff.rfl (fun _ => ?_) (fun hz => absurd h8 hz)
  refine jv_Wp.lift (fun _ Kz => jv_Ev.steps jv_i361 2 (pc' := 15) (l' := [(0, .ref 178), (1, .int x)]) (st' := [.int (16 : Int32), .int x, .ref 178]) rfl Kz) ?_
  refine jv_Wp.cnd jv_i361 (pt := 24) (pe := 18) (p := (x < (16 : Int32))) (q := (x < (16 : Int32))) rfl jv_bc_lt rfl rfl Iff.rfl (fun hz => absurd hz h1) (fun _ => ?_)
  refine jv_Wp.lift (fun _ Kz => jv_Ev.steps jv_i361 2 (pc' := 21) (l' := [(0, .ref 178), (1, .int x)]) (st' := [.int (56 : Int32), .int x, .ref 178]) rfl Kz) ?_
  refine jv_Wp.cnd jv_i361 (pt := 28) (pe := 24) (p := (x ≤ (56 : Int32))) (q := (x ≤ (56 : Int32))) rfl jv_bc_le rfl rfl Iff.rfl (fun hz => absurd hz h2) (fun _ => ?_)
  refine jv_Wp.lift (fun _ Kz => jv_Ev.steps jv_i361 2 (pc' := 29) (l' := [(0, .ref 178), (1, .int x)]) (st' := [.int (1 : Int32), .ref 178]) rfl Kz) ?_
  refine jv_Wp.lift (fun _ Kz => jv_Ev.m jv_i361 (pc' := 32) (st' := []) (G' := (jv_H K (jv_u I 178 0 (1 : Int32)) L R)) rfl rfl (jv_m_putI (jv_rwK hW 178 14 31 (by decide)) rfl rfl rfl rfl) Kz) ?_
  refine jv_Wp.lift (fun _ Kz => jv_Ev.steps jv_i361 1 (pc' := 33) (l' := [(0, .ref 178), (1, .int x)]) (st' := [.ref 178]) rfl Kz) ?_
  refine jv_Wp.lift (fun _ Kz => jv_Ev.m jv_i361 (pc' := 36) (st' := [.int (1 : Int32)]) (G' := (jv_H K (jv_u I 178 0 (1 : Int32)) L R)) rfl rfl (jv_m_getI (jv_rwK hW 178 14 31 (by decide)) rfl rfl (jv_u_self _ _ _ _)) Kz) ?_
  refine jv_Wp.lift (fun _ Kz => jv_Ev.br jv_i361 (pc' := 39) (st' := []) rfl (by rfl) Kz) ?_
  refine jv_Wp.lift (fun _ Kz => jv_Ev.steps jv_i361 2 (pc' := 44) (l' := [(0, .ref 178), (1, .int x)]) (st' := [.int (1 : Int32)]) rfl Kz) ?_
  refine jv_Wp.of (jv_Ev.ret jv_i361 rfl (jv_ret_b (Or.inr rfl))) ?_
  exact hQ
theorem vr_noField_b {K : Nat → Option (Nat × Nat)} {I : Nat → Nat → Int32} {L : Nat → Nat → Int64} {R : Nat → Nat → Value} (hW : jv_rW K R) {x : Int32} (h8 : (x - x / (8 : Int32) * (8 : Int32)) = 0) (h1 : ¬ x < (16 : Int32)) (h2 : ¬ x ≤ (56 : Int32)) {n sl : Nat} : jv_Ms 361 [.ref 178, .int x] (jv_H K I L R) n sl (some (.int (1 : Int32)), jv_H K (jv_u I 178 0 (1 : Int32)) L R, n, sl) := by
  obtain ⟨X, k, e⟩ := vr_noField_b_0 (n := n) (sl := sl) (I := I) (L := L) (R := R) (Q := fun X => X = (some (.int (1 : Int32)), jv_H K (jv_u I 178 0 (1 : Int32)) L R, n, sl)) hW h8 h1 h2 rfl
  subst e
  exact k
theorem jv_i362 : jv_I 362 5 none 1 21 jv_c362 := ⟨rfl, rfl, rfl, rfl, rfl⟩
theorem vr_g_context_n_0 {K : Nat → Option (Nat × Nat)} {I : Nat → Nat → Int32} {L : Nat → Nat → Int64} {R : Nat → Nat → Value} (hW : jv_rW K R) {x : Int32} {v : Int64} {I1 : Nat → Nat → Int32} (hNF : ∀ n sl, jv_Ms 361 [.ref 178, .int x] (jv_H K I L R) n sl (some (.int (1 : Int32)), jv_H K I1 L R, n, sl)) {n sl : Nat} {Q : jv_R → Prop} (hQ : Q (none, jv_H K I1 L R, n, sl)) : jv_Wp 362 0 [(0, .ref 178), (1, .int x), (2, .long v)] [] (jv_H K I L R) n sl Q := by
  refine jv_Wp.lift (fun _ Kz => jv_Ev.steps jv_i362 2 (pc' := 2) (l' := [(0, .ref 178), (1, .int x), (2, .long v)]) (st' := [.int x, .ref 178]) rfl Kz) ?_
  refine jv_Wp.lift (fun _ Kz => jv_Ev.c jv_i362 (pc' := 5) (S' := [.int (1 : Int32)]) (G1 := (jv_H K I1 L R)) jv_i361 [.ref 178, .int x] rfl rfl rfl rfl (jv_cal rfl (jv_H_at (jv_rwK hW 178 14 31 (by decide))) rfl rfl) rfl (hNF n sl) rfl rfl Kz) ?_
  refine jv_Wp.lift (fun _ Kz => jv_Ev.br jv_i362 (pc' := 45) (st' := []) rfl (by rfl) Kz) ?_
  refine jv_Wp.of (jv_Ev.ret jv_i362 rfl rfl) ?_
  exact hQ
theorem vr_g_context_n {K : Nat → Option (Nat × Nat)} {I : Nat → Nat → Int32} {L : Nat → Nat → Int64} {R : Nat → Nat → Value} (hW : jv_rW K R) {x : Int32} {v : Int64} {I1 : Nat → Nat → Int32} (hNF : ∀ n sl, jv_Ms 361 [.ref 178, .int x] (jv_H K I L R) n sl (some (.int (1 : Int32)), jv_H K I1 L R, n, sl)) {n sl : Nat} : jv_Ms 362 [.ref 178, .int x, .long v] (jv_H K I L R) n sl (none, jv_H K I1 L R, n, sl) := by
  obtain ⟨X, k, e⟩ := vr_g_context_n_0 (n := n) (sl := sl) (I := I) (L := L) (R := R) (Q := fun X => X = (none, jv_H K I1 L R, n, sl)) hW hNF rfl
  subst e
  exact k
theorem vr_cx_0 {K : Nat → Option (Nat × Nat)} {I : Nat → Nat → Int32} {L : Nat → Nat → Int64} {R : Nat → Nat → Value} (hW : jv_rW K R) {a : Nat} {v : Int64} {I1 : Nat → Nat → Int32} (hNF : ∀ n sl, jv_Ms 361 [.ref 178, .int (vl_I a)] (jv_H K I L R) n sl (some (.int (0 : Int32)), jv_H K I1 L R, n, sl)) {n sl : Nat} {Q : jv_R → Prop} (cont : jv_Wp 362 11 [(0, .ref 178), (1, .int (vl_I a)), (2, .long v), (4, .int (0 : Int32))] [] (jv_H K I1 L R) n sl Q) : jv_Wp 362 0 [(0, .ref 178), (1, .int (vl_I a)), (2, .long v)] [] (jv_H K I L R) n sl Q := by
  refine jv_Wp.lift (fun _ Kz => jv_Ev.steps jv_i362 2 (pc' := 2) (l' := [(0, .ref 178), (1, .int (vl_I a)), (2, .long v)]) (st' := [.int (vl_I a), .ref 178]) rfl Kz) ?_
  refine jv_Wp.lift (fun _ Kz => jv_Ev.c jv_i362 (pc' := 5) (S' := [.int (0 : Int32)]) (G1 := (jv_H K I1 L R)) jv_i361 [.ref 178, .int (vl_I a)] rfl rfl rfl rfl (jv_cal rfl (jv_H_at (jv_rwK hW 178 14 31 (by decide))) rfl rfl) rfl (hNF n sl) rfl rfl Kz) ?_
  refine jv_Wp.lift (fun _ Kz => jv_Ev.br jv_i362 (pc' := 8) (st' := []) rfl (by rfl) Kz) ?_
  refine jv_Wp.lift (fun _ Kz => jv_Ev.steps jv_i362 2 (pc' := 11) (l' := [(4, .int (0 : Int32)), (0, .ref 178), (1, .int (vl_I a)), (2, .long v)]) (st' := []) rfl Kz) ?_
  refine jv_Wp.loc (l := [(0, .ref 178), (1, .int (vl_I a)), (2, .long v), (4, .int (0 : Int32))]) ⟨List.forall_mem_cons.mpr ⟨.tail _ (.head _), List.forall_mem_cons.mpr ⟨.tail _ (.tail _ (.head _)), List.forall_mem_cons.mpr ⟨.tail _ (.tail _ (.tail _ (.head _))), List.forall_mem_cons.mpr ⟨.head _, fun _ h => absurd h List.not_mem_nil⟩⟩⟩⟩, by show List.Nodup [4, 0, 1, 2]; decide⟩ ?_
  exact cont
theorem vr_cx_t {K : Nat → Option (Nat × Nat)} {I : Nat → Nat → Int32} {L : Nat → Nat → Int64} {R : Nat → Nat → Value} (hW : jv_rW K R) {a : Nat} {v : Int64} (ha : a + 8 ≤ 64) {n sl : Nat} {Q : jv_R → Prop} {k : Nat} (hk : k < 8) (cont : jv_Wp 362 11 [(0, .ref 178), (1, .int (vl_I a)), (2, .long v), (4, .int (vl_I (k + 1)))] [] (jv_H K (jv_u I 219 (a + k) (vl_I (vm_bt v k))) L R) n sl Q) : jv_Wp 362 11 [(0, .ref 178), (1, .int (vl_I a)), (2, .long v), (4, .int (vl_I k))] [] (jv_H K I L R) n sl Q := by
  refine jv_Wp.lift (fun _ Kz => jv_Ev.steps jv_i362 2 (pc' := 15) (l' := [(0, .ref 178), (1, .int (vl_I a)), (2, .long v), (4, .int (vl_I k))]) (st' := [.int (8 : Int32), .int (vl_I k)]) rfl Kz) ?_
  refine jv_Wp.cnd jv_i362 (pt := 45) (pe := 18) (p := ((8 : Int32) ≤ (vl_I k))) (q := ((8 : Int32) ≤ (vl_I k))) rfl jv_bc_ge rfl rfl Iff.rfl (fun hz => absurd hz (fun z => absurd ((vl_I_le (a := 8) (by decide) (by omega)).mp z) (by omega))) (fun _ => ?_)
  refine jv_Wp.lift (fun _ Kz => jv_Ev.steps jv_i362 1 (pc' := 19) (l' := [(0, .ref 178), (1, .int (vl_I a)), (2, .long v), (4, .int (vl_I k))]) (st' := [.ref 178]) rfl Kz) ?_
  refine jv_Wp.lift (fun _ Kz => jv_Ev.m jv_i362 (pc' := 22) (st' := [.ref 219]) (G' := (jv_H K I L R)) rfl rfl (jv_m_getR (jv_rwK hW 178 14 31 (by decide)) rfl rfl (jv_rwR hW 178 12 219 (by decide))) Kz) ?_
  refine jv_Wp.lift (fun _ Kz => jv_Ev.steps jv_i362 11 (pc' := 38) (l' := [(0, .ref 178), (1, .int (vl_I a)), (2, .long v), (4, .int (vl_I k))]) (st' := [.int (((v.toUInt64 >>> (((8 : Int32) * (vl_I k)).toInt64.toUInt64 &&& Int64.toUInt64 63)).toInt64).toInt32 &&& (255 : Int32)), .int ((vl_I a) + (vl_I k)), .ref 219]) rfl Kz) ?_
  refine jv_Wp.lift (fun _ Kz => jv_Ev.m jv_i362 (pc' := 39) (st' := []) (G' := (jv_H K (jv_u I 219 (a + k) (((v.toUInt64 >>> (((8 : Int32) * (vl_I k)).toInt64.toUInt64 &&& Int64.toUInt64 63)).toInt64).toInt32 &&& (255 : Int32))) L R)) rfl rfl (by rw [jv_m_iast (jv_rwK hW 219 102 64 (by decide)) (by rw [vl_I_add]; exact vl_I_ix (by omega) (by decide)), (show ((vl_I a) + (vl_I k)).toNatClampNeg = a + k from by rw [show ((vl_I a) + (vl_I k)) = vl_I (a + k) from (vi_a2 rfl rfl rfl)]; exact vl_I_nat (by omega))]) Kz) ?_
  refine jv_Wp.lift (fun _ Kz => jv_Ev.steps jv_i362 2 (pc' := 11) (l' := [(4, .int ((vl_I k) + Int32.ofInt 1)), (0, .ref 178), (1, .int (vl_I a)), (2, .long v)]) (st' := []) rfl Kz) ?_
  refine jv_Wp.loc (l := [(0, .ref 178), (1, .int (vl_I a)), (2, .long v), (4, .int ((vl_I k) + Int32.ofInt 1))]) ⟨List.forall_mem_cons.mpr ⟨.tail _ (.head _), List.forall_mem_cons.mpr ⟨.tail _ (.tail _ (.head _)), List.forall_mem_cons.mpr ⟨.tail _ (.tail _ (.tail _ (.head _))), List.forall_mem_cons.mpr ⟨.head _, fun _ h => absurd h List.not_mem_nil⟩⟩⟩⟩, by show List.Nodup [4, 0, 1, 2]; decide⟩ ?_
  rw [vm_ubt v (by omega), vk_p1 k]
  exact cont
theorem vr_cx_e {K : Nat → Option (Nat × Nat)} {I : Nat → Nat → Int32} {L : Nat → Nat → Int64} {R : Nat → Nat → Value} (hW : jv_rW K R) {a : Nat} {v : Int64} (ha : a + 8 ≤ 64) {n sl : Nat} {Q : jv_R → Prop} (hQ : Q (none, jv_H K I L R, n, sl)) : jv_Wp 362 11 [(0, .ref 178), (1, .int (vl_I a)), (2, .long v), (4, .int (8 : Int32))] [] (jv_H K I L R) n sl Q := by
  refine jv_Wp.lift (fun _ Kz => jv_Ev.steps jv_i362 2 (pc' := 15) (l' := [(0, .ref 178), (1, .int (vl_I a)), (2, .long v), (4, .int (8 : Int32))]) (st' := [.int (8 : Int32), .int (8 : Int32)]) rfl Kz) ?_
  refine jv_Wp.lift (fun _ Kz => jv_Ev.br jv_i362 (pc' := 45) (st' := []) rfl (by rfl) Kz) ?_
  refine jv_Wp.of (jv_Ev.ret jv_i362 rfl rfl) ?_
  exact hQ
theorem vr_cx_l {K : Nat → Option (Nat × Nat)} {I : Nat → Nat → Int32} {L : Nat → Nat → Int64} {R : Nat → Nat → Value} (hW : jv_rW K R) {a : Nat} {v : Int64} (ha : a + 8 ≤ 64) {n sl : Nat} {Q : jv_R → Prop} (hQ : Q (none, jv_H K (vm_wr I 219 a 8 (fun j => vl_I (vm_bt v j))) L R, n, sl)) : ∀ d k, k + d = 8 → jv_Wp 362 11 [(0, .ref 178), (1, .int (vl_I a)), (2, .long v), (4, .int (vl_I k))] [] (jv_H K (vm_wr I 219 a k (fun j => vl_I (vm_bt v j))) L R) n sl Q
  | 0, k, g => by
    have g : k = 8 := g
    subst g
    exact vr_cx_e hW ha hQ
  | d + 1, k, g => by
    refine vr_cx_t hW ha (by omega) ?_
    rw [vm_wr_s I 219 a k (fun j => vl_I (vm_bt v j))]
    exact vr_cx_l hW ha hQ d (k + 1) (by omega)
/-- a field of the context is laid -/
theorem vr_g_context_y {K : Nat → Option (Nat × Nat)} {I : Nat → Nat → Int32} {L : Nat → Nat → Int64} {R : Nat → Nat → Value} (hW : jv_rW K R) {a : Nat} {v : Int64} (ha : a + 8 ≤ 64) {I1 : Nat → Nat → Int32} (hNF : ∀ n sl, jv_Ms 361 [.ref 178, .int (vl_I a)] (jv_H K I L R) n sl (some (.int (0 : Int32)), jv_H K I1 L R, n, sl)) {n sl : Nat} : jv_Ms 362 [.ref 178, .int (vl_I a), .long v] (jv_H K I L R) n sl (none, jv_H K (vm_wr I1 219 a 8 (fun j => vl_I (vm_bt v j))) L R, n, sl) := by
  have k := vr_cx_l (I := I1) (n := n) (sl := sl) (L := L) (R := R) (v := v) (Q := fun X => X = (none, jv_H K (vm_wr I1 219 a 8 (fun j => vl_I (vm_bt v j))) L R, n, sl)) hW ha rfl 8 0 rfl
  rw [vm_wr_0] at k
  obtain ⟨X, k, e⟩ := vr_cx_0 hW hNF k
  subst e
  exact k