/-! part g49: the face of the reference: what has no loop (gen/tg49.py) -/
theorem jv_i355 : jv_I 355 1 (some .int) 0 0 jv_c355 := ⟨rfl, rfl, rfl, rfl, rfl⟩
theorem vr_g_refused_0 {K : Nat → Option (Nat × Nat)} {I : Nat → Nat → Int32} {L : Nat → Nat → Int64} {R : Nat → Nat → Value} (hW : jv_rW K R) {v : Int32} (e : I 178 8 = v) {n sl : Nat} {Q : jv_R → Prop} (hQ : Q (some (.int v), jv_H K (jv_u I 178 0 (0 : Int32)) L R, n, sl)) : jv_Wp 355 0 [(0, .ref 178)] [] (jv_H K I L R) n sl Q := by
  refine jv_Wp.lift (fun _ Kz => jv_Ev.steps jv_i355 2 (pc' := 2) (l' := [(0, .ref 178)]) (st' := [.int (0 : Int32), .ref 178]) rfl Kz) ?_
  refine jv_Wp.lift (fun _ Kz => jv_Ev.m jv_i355 (pc' := 5) (st' := []) (G' := (jv_H K (jv_u I 178 0 (0 : Int32)) L R)) rfl rfl (jv_m_putI (jv_rwK hW 178 14 31 (by decide)) rfl rfl rfl rfl) Kz) ?_
  refine jv_Wp.lift (fun _ Kz => jv_Ev.steps jv_i355 1 (pc' := 6) (l' := [(0, .ref 178)]) (st' := [.ref 178]) rfl Kz) ?_
  refine jv_Wp.lift (fun _ Kz => jv_Ev.m jv_i355 (pc' := 9) (st' := [.int v]) (G' := (jv_H K (jv_u I 178 0 (0 : Int32)) L R)) rfl rfl (jv_m_getI (jv_rwK hW 178 14 31 (by decide)) rfl rfl ((jv_u_j _ _ _ _ (by decide)).trans e)) Kz) ?_
  refine jv_Wp.of (jv_Ev.ret jv_i355 rfl rfl) ?_
  exact hQ
theorem vr_g_refused {K : Nat → Option (Nat × Nat)} {I : Nat → Nat → Int32} {L : Nat → Nat → Int64} {R : Nat → Nat → Value} (hW : jv_rW K R) {v : Int32} (e : I 178 8 = v) {n sl : Nat} : jv_Ms 355 [.ref 178] (jv_H K I L R) n sl (some (.int v), jv_H K (jv_u I 178 0 (0 : Int32)) L R, n, sl) := by
  obtain ⟨X, k, e⟩ := vr_g_refused_0 (n := n) (sl := sl) (I := I) (L := L) (R := R) (Q := fun X => X = (some (.int v), jv_H K (jv_u I 178 0 (0 : Int32)) L R, n, sl)) hW e rfl
  subst e
  exact k
theorem jv_i356 : jv_I 356 1 (some .int) 0 0 jv_c356 := ⟨rfl, rfl, rfl, rfl, rfl⟩
theorem vr_g_reason_0 {K : Nat → Option (Nat × Nat)} {I : Nat → Nat → Int32} {L : Nat → Nat → Int64} {R : Nat → Nat → Value} (hW : jv_rW K R) {v : Int32} (e : I 178 9 = v) {n sl : Nat} {Q : jv_R → Prop} (hQ : Q (some (.int v), jv_H K (jv_u I 178 0 (0 : Int32)) L R, n, sl)) : jv_Wp 356 0 [(0, .ref 178)] [] (jv_H K I L R) n sl Q := by
  refine jv_Wp.lift (fun _ Kz => jv_Ev.steps jv_i356 2 (pc' := 2) (l' := [(0, .ref 178)]) (st' := [.int (0 : Int32), .ref 178]) rfl Kz) ?_
  refine jv_Wp.lift (fun _ Kz => jv_Ev.m jv_i356 (pc' := 5) (st' := []) (G' := (jv_H K (jv_u I 178 0 (0 : Int32)) L R)) rfl rfl (jv_m_putI (jv_rwK hW 178 14 31 (by decide)) rfl rfl rfl rfl) Kz) ?_
  refine jv_Wp.lift (fun _ Kz => jv_Ev.steps jv_i356 1 (pc' := 6) (l' := [(0, .ref 178)]) (st' := [.ref 178]) rfl Kz) ?_
  refine jv_Wp.lift (fun _ Kz => jv_Ev.m jv_i356 (pc' := 9) (st' := [.int v]) (G' := (jv_H K (jv_u I 178 0 (0 : Int32)) L R)) rfl rfl (jv_m_getI (jv_rwK hW 178 14 31 (by decide)) rfl rfl ((jv_u_j _ _ _ _ (by decide)).trans e)) Kz) ?_
  refine jv_Wp.of (jv_Ev.ret jv_i356 rfl rfl) ?_
  exact hQ
theorem vr_g_reason {K : Nat → Option (Nat × Nat)} {I : Nat → Nat → Int32} {L : Nat → Nat → Int64} {R : Nat → Nat → Value} (hW : jv_rW K R) {v : Int32} (e : I 178 9 = v) {n sl : Nat} : jv_Ms 356 [.ref 178] (jv_H K I L R) n sl (some (.int v), jv_H K (jv_u I 178 0 (0 : Int32)) L R, n, sl) := by
  obtain ⟨X, k, e⟩ := vr_g_reason_0 (n := n) (sl := sl) (I := I) (L := L) (R := R) (Q := fun X => X = (some (.int v), jv_H K (jv_u I 178 0 (0 : Int32)) L R, n, sl)) hW e rfl
  subst e
  exact k
theorem jv_i357 : jv_I 357 1 (some .int) 0 0 jv_c357 := ⟨rfl, rfl, rfl, rfl, rfl⟩
theorem vr_g_programs_0 {K : Nat → Option (Nat × Nat)} {I : Nat → Nat → Int32} {L : Nat → Nat → Int64} {R : Nat → Nat → Value} (hW : jv_rW K R) {v : Int32} (e : I 178 7 = v) {n sl : Nat} {Q : jv_R → Prop} (hQ : Q (some (.int v), jv_H K (jv_u I 178 0 (0 : Int32)) L R, n, sl)) : jv_Wp 357 0 [(0, .ref 178)] [] (jv_H K I L R) n sl Q := by
  refine jv_Wp.lift (fun _ Kz => jv_Ev.steps jv_i357 2 (pc' := 2) (l' := [(0, .ref 178)]) (st' := [.int (0 : Int32), .ref 178]) rfl Kz) ?_
  refine jv_Wp.lift (fun _ Kz => jv_Ev.m jv_i357 (pc' := 5) (st' := []) (G' := (jv_H K (jv_u I 178 0 (0 : Int32)) L R)) rfl rfl (jv_m_putI (jv_rwK hW 178 14 31 (by decide)) rfl rfl rfl rfl) Kz) ?_
  refine jv_Wp.lift (fun _ Kz => jv_Ev.steps jv_i357 1 (pc' := 6) (l' := [(0, .ref 178)]) (st' := [.ref 178]) rfl Kz) ?_
  refine jv_Wp.lift (fun _ Kz => jv_Ev.m jv_i357 (pc' := 9) (st' := [.int v]) (G' := (jv_H K (jv_u I 178 0 (0 : Int32)) L R)) rfl rfl (jv_m_getI (jv_rwK hW 178 14 31 (by decide)) rfl rfl ((jv_u_j _ _ _ _ (by decide)).trans e)) Kz) ?_
  refine jv_Wp.of (jv_Ev.ret jv_i357 rfl rfl) ?_
  exact hQ
theorem vr_g_programs {K : Nat → Option (Nat × Nat)} {I : Nat → Nat → Int32} {L : Nat → Nat → Int64} {R : Nat → Nat → Value} (hW : jv_rW K R) {v : Int32} (e : I 178 7 = v) {n sl : Nat} : jv_Ms 357 [.ref 178] (jv_H K I L R) n sl (some (.int v), jv_H K (jv_u I 178 0 (0 : Int32)) L R, n, sl) := by
  obtain ⟨X, k, e⟩ := vr_g_programs_0 (n := n) (sl := sl) (I := I) (L := L) (R := R) (Q := fun X => X = (some (.int v), jv_H K (jv_u I 178 0 (0 : Int32)) L R, n, sl)) hW e rfl
  subst e
  exact k
theorem jv_i359 : jv_I 359 1 (some .int) 0 0 jv_c359 := ⟨rfl, rfl, rfl, rfl, rfl⟩
theorem vr_g_size_0 {K : Nat → Option (Nat × Nat)} {I : Nat → Nat → Int32} {L : Nat → Nat → Int64} {R : Nat → Nat → Value} (hW : jv_rW K R) {v : Int32} (e : I 178 11 = v) {n sl : Nat} {Q : jv_R → Prop} (hQ : Q (some (.int v), jv_H K (jv_u I 178 0 (0 : Int32)) L R, n, sl)) : jv_Wp 359 0 [(0, .ref 178)] [] (jv_H K I L R) n sl Q := by
  refine jv_Wp.lift (fun _ Kz => jv_Ev.steps jv_i359 2 (pc' := 2) (l' := [(0, .ref 178)]) (st' := [.int (0 : Int32), .ref 178]) rfl Kz) ?_
  refine jv_Wp.lift (fun _ Kz => jv_Ev.m jv_i359 (pc' := 5) (st' := []) (G' := (jv_H K (jv_u I 178 0 (0 : Int32)) L R)) rfl rfl (jv_m_putI (jv_rwK hW 178 14 31 (by decide)) rfl rfl rfl rfl) Kz) ?_
  refine jv_Wp.lift (fun _ Kz => jv_Ev.steps jv_i359 1 (pc' := 6) (l' := [(0, .ref 178)]) (st' := [.ref 178]) rfl Kz) ?_
  refine jv_Wp.lift (fun _ Kz => jv_Ev.m jv_i359 (pc' := 9) (st' := [.int v]) (G' := (jv_H K (jv_u I 178 0 (0 : Int32)) L R)) rfl rfl (jv_m_getI (jv_rwK hW 178 14 31 (by decide)) rfl rfl ((jv_u_j _ _ _ _ (by decide)).trans e)) Kz) ?_
  refine jv_Wp.of (jv_Ev.ret jv_i359 rfl rfl) ?_
  exact hQ
theorem vr_g_size {K : Nat → Option (Nat × Nat)} {I : Nat → Nat → Int32} {L : Nat → Nat → Int64} {R : Nat → Nat → Value} (hW : jv_rW K R) {v : Int32} (e : I 178 11 = v) {n sl : Nat} : jv_Ms 359 [.ref 178] (jv_H K I L R) n sl (some (.int v), jv_H K (jv_u I 178 0 (0 : Int32)) L R, n, sl) := by
  obtain ⟨X, k, e⟩ := vr_g_size_0 (n := n) (sl := sl) (I := I) (L := L) (R := R) (Q := fun X => X = (some (.int v), jv_H K (jv_u I 178 0 (0 : Int32)) L R, n, sl)) hW e rfl
  subst e
  exact k
theorem jv_i405 : jv_I 405 1 (some .long) 0 0 jv_c405 := ⟨rfl, rfl, rfl, rfl, rfl⟩
theorem vr_g_result_0 {K : Nat → Option (Nat × Nat)} {I : Nat → Nat → Int32} {L : Nat → Nat → Int64} {R : Nat → Nat → Value} (hW : jv_rW K R) {v : Int64} (e : L 178 21 = v) {n sl : Nat} {Q : jv_R → Prop} (hQ : Q (some (.long v), jv_H K (jv_u I 178 0 (0 : Int32)) L R, n, sl)) : jv_Wp 405 0 [(0, .ref 178)] [] (jv_H K I L R) n sl Q := by
  refine jv_Wp.lift (fun _ Kz => jv_Ev.steps jv_i405 2 (pc' := 2) (l' := [(0, .ref 178)]) (st' := [.int (0 : Int32), .ref 178]) rfl Kz) ?_
  refine jv_Wp.lift (fun _ Kz => jv_Ev.m jv_i405 (pc' := 5) (st' := []) (G' := (jv_H K (jv_u I 178 0 (0 : Int32)) L R)) rfl rfl (jv_m_putI (jv_rwK hW 178 14 31 (by decide)) rfl rfl rfl rfl) Kz) ?_
  refine jv_Wp.lift (fun _ Kz => jv_Ev.steps jv_i405 1 (pc' := 6) (l' := [(0, .ref 178)]) (st' := [.ref 178]) rfl Kz) ?_
  refine jv_Wp.lift (fun _ Kz => jv_Ev.m jv_i405 (pc' := 9) (st' := [.long v]) (G' := (jv_H K (jv_u I 178 0 (0 : Int32)) L R)) rfl rfl (jv_m_getL (jv_rwK hW 178 14 31 (by decide)) rfl rfl e) Kz) ?_
  refine jv_Wp.of (jv_Ev.ret jv_i405 rfl rfl) ?_
  exact hQ
theorem vr_g_result {K : Nat → Option (Nat × Nat)} {I : Nat → Nat → Int32} {L : Nat → Nat → Int64} {R : Nat → Nat → Value} (hW : jv_rW K R) {v : Int64} (e : L 178 21 = v) {n sl : Nat} : jv_Ms 405 [.ref 178] (jv_H K I L R) n sl (some (.long v), jv_H K (jv_u I 178 0 (0 : Int32)) L R, n, sl) := by
  obtain ⟨X, k, e⟩ := vr_g_result_0 (n := n) (sl := sl) (I := I) (L := L) (R := R) (Q := fun X => X = (some (.long v), jv_H K (jv_u I 178 0 (0 : Int32)) L R, n, sl)) hW e rfl
  subst e
  exact k
theorem jv_i406 : jv_I 406 1 (some .int) 0 0 jv_c406 := ⟨rfl, rfl, rfl, rfl, rfl⟩
theorem vr_g_place_0 {K : Nat → Option (Nat × Nat)} {I : Nat → Nat → Int32} {L : Nat → Nat → Int64} {R : Nat → Nat → Value} (hW : jv_rW K R) {v : Int32} (e : I 178 22 = v) {n sl : Nat} {Q : jv_R → Prop} (hQ : Q (some (.int v), jv_H K (jv_u I 178 0 (0 : Int32)) L R, n, sl)) : jv_Wp 406 0 [(0, .ref 178)] [] (jv_H K I L R) n sl Q := by
  refine jv_Wp.lift (fun _ Kz => jv_Ev.steps jv_i406 2 (pc' := 2) (l' := [(0, .ref 178)]) (st' := [.int (0 : Int32), .ref 178]) rfl Kz) ?_
  refine jv_Wp.lift (fun _ Kz => jv_Ev.m jv_i406 (pc' := 5) (st' := []) (G' := (jv_H K (jv_u I 178 0 (0 : Int32)) L R)) rfl rfl (jv_m_putI (jv_rwK hW 178 14 31 (by decide)) rfl rfl rfl rfl) Kz) ?_
  refine jv_Wp.lift (fun _ Kz => jv_Ev.steps jv_i406 1 (pc' := 6) (l' := [(0, .ref 178)]) (st' := [.ref 178]) rfl Kz) ?_
  refine jv_Wp.lift (fun _ Kz => jv_Ev.m jv_i406 (pc' := 9) (st' := [.int v]) (G' := (jv_H K (jv_u I 178 0 (0 : Int32)) L R)) rfl rfl (jv_m_getI (jv_rwK hW 178 14 31 (by decide)) rfl rfl ((jv_u_j _ _ _ _ (by decide)).trans e)) Kz) ?_
  refine jv_Wp.of (jv_Ev.ret jv_i406 rfl rfl) ?_
  exact hQ
theorem vr_g_place {K : Nat → Option (Nat × Nat)} {I : Nat → Nat → Int32} {L : Nat → Nat → Int64} {R : Nat → Nat → Value} (hW : jv_rW K R) {v : Int32} (e : I 178 22 = v) {n sl : Nat} : jv_Ms 406 [.ref 178] (jv_H K I L R) n sl (some (.int v), jv_H K (jv_u I 178 0 (0 : Int32)) L R, n, sl) := by
  obtain ⟨X, k, e⟩ := vr_g_place_0 (n := n) (sl := sl) (I := I) (L := L) (R := R) (Q := fun X => X = (some (.int v), jv_H K (jv_u I 178 0 (0 : Int32)) L R, n, sl)) hW e rfl
  subst e
  exact k
theorem jv_i407 : jv_I 407 1 (some .int) 0 0 jv_c407 := ⟨rfl, rfl, rfl, rfl, rfl⟩
theorem vr_g_steps_0 {K : Nat → Option (Nat × Nat)} {I : Nat → Nat → Int32} {L : Nat → Nat → Int64} {R : Nat → Nat → Value} (hW : jv_rW K R) {v : Int32} (e : I 178 23 = v) {n sl : Nat} {Q : jv_R → Prop} (hQ : Q (some (.int v), jv_H K (jv_u I 178 0 (0 : Int32)) L R, n, sl)) : jv_Wp 407 0 [(0, .ref 178)] [] (jv_H K I L R) n sl Q := by
  refine jv_Wp.lift (fun _ Kz => jv_Ev.steps jv_i407 2 (pc' := 2) (l' := [(0, .ref 178)]) (st' := [.int (0 : Int32), .ref 178]) rfl Kz) ?_
  refine jv_Wp.lift (fun _ Kz => jv_Ev.m jv_i407 (pc' := 5) (st' := []) (G' := (jv_H K (jv_u I 178 0 (0 : Int32)) L R)) rfl rfl (jv_m_putI (jv_rwK hW 178 14 31 (by decide)) rfl rfl rfl rfl) Kz) ?_
  refine jv_Wp.lift (fun _ Kz => jv_Ev.steps jv_i407 1 (pc' := 6) (l' := [(0, .ref 178)]) (st' := [.ref 178]) rfl Kz) ?_
  refine jv_Wp.lift (fun _ Kz => jv_Ev.m jv_i407 (pc' := 9) (st' := [.int v]) (G' := (jv_H K (jv_u I 178 0 (0 : Int32)) L R)) rfl rfl (jv_m_getI (jv_rwK hW 178 14 31 (by decide)) rfl rfl ((jv_u_j _ _ _ _ (by decide)).trans e)) Kz) ?_
  refine jv_Wp.of (jv_Ev.ret jv_i407 rfl rfl) ?_
  exact hQ
theorem vr_g_steps {K : Nat → Option (Nat × Nat)} {I : Nat → Nat → Int32} {L : Nat → Nat → Int64} {R : Nat → Nat → Value} (hW : jv_rW K R) {v : Int32} (e : I 178 23 = v) {n sl : Nat} : jv_Ms 407 [.ref 178] (jv_H K I L R) n sl (some (.int v), jv_H K (jv_u I 178 0 (0 : Int32)) L R, n, sl) := by
  obtain ⟨X, k, e⟩ := vr_g_steps_0 (n := n) (sl := sl) (I := I) (L := L) (R := R) (Q := fun X => X = (some (.int v), jv_H K (jv_u I 178 0 (0 : Int32)) L R, n, sl)) hW e rfl
  subst e
  exact k
theorem jv_i364 : jv_I 364 3 none 0 0 jv_c364 := ⟨rfl, rfl, rfl, rfl, rfl⟩
theorem vr_g_clock_0 {K : Nat → Option (Nat × Nat)} {I : Nat → Nat → Int32} {L : Nat → Nat → Int64} {R : Nat → Nat → Value} (hW : jv_rW K R) {v : Int64} {n sl : Nat} {Q : jv_R → Prop} (hQ : Q (none, jv_H K (jv_u I 178 0 (0 : Int32)) (jv_u L 178 13 v) R, n, sl)) : jv_Wp 364 0 [(0, .ref 178), (1, .long v)] [] (jv_H K I L R) n sl Q := by
  refine jv_Wp.lift (fun _ Kz => jv_Ev.steps jv_i364 2 (pc' := 2) (l' := [(0, .ref 178), (1, .long v)]) (st' := [.int (0 : Int32), .ref 178]) rfl Kz) ?_
  refine jv_Wp.lift (fun _ Kz => jv_Ev.m jv_i364 (pc' := 5) (st' := []) (G' := (jv_H K (jv_u I 178 0 (0 : Int32)) L R)) rfl rfl (jv_m_putI (jv_rwK hW 178 14 31 (by decide)) rfl rfl rfl rfl) Kz) ?_
  refine jv_Wp.lift (fun _ Kz => jv_Ev.steps jv_i364 2 (pc' := 7) (l' := [(0, .ref 178), (1, .long v)]) (st' := [.long v, .ref 178]) rfl Kz) ?_
  refine jv_Wp.lift (fun _ Kz => jv_Ev.m jv_i364 (pc' := 10) (st' := []) (G' := (jv_H K (jv_u I 178 0 (0 : Int32)) (jv_u L 178 13 v) R)) rfl rfl (jv_m_putL (jv_rwK hW 178 14 31 (by decide)) rfl rfl rfl rfl) Kz) ?_
  refine jv_Wp.of (jv_Ev.ret jv_i364 rfl rfl) ?_
  exact hQ
theorem vr_g_clock {K : Nat → Option (Nat × Nat)} {I : Nat → Nat → Int32} {L : Nat → Nat → Int64} {R : Nat → Nat → Value} (hW : jv_rW K R) {v : Int64} {n sl : Nat} : jv_Ms 364 [.ref 178, .long v] (jv_H K I L R) n sl (none, jv_H K (jv_u I 178 0 (0 : Int32)) (jv_u L 178 13 v) R, n, sl) := by
  obtain ⟨X, k, e⟩ := vr_g_clock_0 (n := n) (sl := sl) (I := I) (L := L) (R := R) (Q := fun X => X = (none, jv_H K (jv_u I 178 0 (0 : Int32)) (jv_u L 178 13 v) R, n, sl)) hW rfl
  subst e
  exact k
theorem jv_i352 : jv_I 352 2 none 0 0 jv_c352 := ⟨rfl, rfl, rfl, rfl, rfl⟩
theorem vr_g_end_y_0 {K : Nat → Option (Nat × Nat)} {I : Nat → Nat → Int32} {L : Nat → Nat → Int64} {R : Nat → Nat → Value} (hW : jv_rW K R) {x : Int32} {t : Nat} (e : I 178 2 = vl_I t) (hx : ¬ x < 0 ∧ x ≤ vl_I t) {n sl : Nat} {Q : jv_R → Prop} (hQ : Q (none, jv_H K (jv_u (jv_u I 178 0 (0 : Int32)) 178 2 x) L R, n, sl)) : jv_Wp 352 0 [(0, .ref 178), (1, .int x)] [] (jv_H K I L R) n sl Q := by
  refine jv_Wp.lift (fun _ Kz => jv_Ev.steps jv_i352 2 (pc' := 2) (l' := [(0, .ref 178), (1, .int x)]) (st' := [.int x, .ref 178]) rfl Kz) ?_
  refine jv_Wp.cnd jv_i352 (pt := 13) (pe := 5) (p := (x < 0)) (q := (x < 0)) rfl jv_bi_lt rfl rfl Iff.rfl (fun hz => absurd hz hx.1) (fun _ => ?_)
  refine jv_Wp.lift (fun _ Kz => jv_Ev.steps jv_i352 2 (pc' := 7) (l' := [(0, .ref 178), (1, .int x)]) (st' := [.ref 178, .int x, .ref 178]) rfl Kz) ?_
  refine jv_Wp.lift (fun _ Kz => jv_Ev.m jv_i352 (pc' := 10) (st' := [.int (vl_I t), .int x, .ref 178]) (G' := (jv_H K I L R)) rfl rfl (jv_m_getI (jv_rwK hW 178 14 31 (by decide)) rfl rfl e) Kz) ?_
  refine jv_Wp.cnd jv_i352 (pt := 17) (pe := 13) (p := (x ≤ (vl_I t))) (q := (x ≤ (vl_I t))) rfl jv_bc_le rfl rfl Iff.rfl (fun _ => ?_) (fun hz => absurd hx.2 hz)
  refine jv_Wp.lift (fun _ Kz => jv_Ev.steps jv_i352 1 (pc' := 18) (l' := [(0, .ref 178), (1, .int x)]) (st' := [.int (0 : Int32), .ref 178]) rfl Kz) ?_
  refine jv_Wp.lift (fun _ Kz => jv_Ev.m jv_i352 (pc' := 21) (st' := []) (G' := (jv_H K (jv_u I 178 0 (0 : Int32)) L R)) rfl rfl (jv_m_putI (jv_rwK hW 178 14 31 (by decide)) rfl rfl rfl rfl) Kz) ?_
  refine jv_Wp.lift (fun _ Kz => jv_Ev.steps jv_i352 2 (pc' := 23) (l' := [(0, .ref 178), (1, .int x)]) (st' := [.ref 178, .ref 178]) rfl Kz) ?_
  refine jv_Wp.lift (fun _ Kz => jv_Ev.m jv_i352 (pc' := 26) (st' := [.int (0 : Int32), .ref 178]) (G' := (jv_H K (jv_u I 178 0 (0 : Int32)) L R)) rfl rfl (jv_m_getI (jv_rwK hW 178 14 31 (by decide)) rfl rfl (jv_u_self _ _ _ _)) Kz) ?_
  refine jv_Wp.lift (fun _ Kz => jv_Ev.br jv_i352 (pc' := 36) (st' := [.ref 178]) rfl (by rfl) Kz) ?_
  refine jv_Wp.lift (fun _ Kz => jv_Ev.steps jv_i352 1 (pc' := 37) (l' := [(0, .ref 178), (1, .int x)]) (st' := [.int x, .ref 178]) rfl Kz) ?_
  refine jv_Wp.lift (fun _ Kz => jv_Ev.m jv_i352 (pc' := 40) (st' := []) (G' := (jv_H K (jv_u (jv_u I 178 0 (0 : Int32)) 178 2 x) L R)) rfl rfl (jv_m_putI (jv_rwK hW 178 14 31 (by decide)) rfl rfl rfl rfl) Kz) ?_
  refine jv_Wp.of (jv_Ev.ret jv_i352 rfl rfl) ?_
  exact hQ
theorem vr_g_end_y {K : Nat → Option (Nat × Nat)} {I : Nat → Nat → Int32} {L : Nat → Nat → Int64} {R : Nat → Nat → Value} (hW : jv_rW K R) {x : Int32} {t : Nat} (e : I 178 2 = vl_I t) (hx : ¬ x < 0 ∧ x ≤ vl_I t) {n sl : Nat} : jv_Ms 352 [.ref 178, .int x] (jv_H K I L R) n sl (none, jv_H K (jv_u (jv_u I 178 0 (0 : Int32)) 178 2 x) L R, n, sl) := by
  obtain ⟨X, k, e⟩ := vr_g_end_y_0 (n := n) (sl := sl) (I := I) (L := L) (R := R) (Q := fun X => X = (none, jv_H K (jv_u (jv_u I 178 0 (0 : Int32)) 178 2 x) L R, n, sl)) hW e hx rfl
  subst e
  exact k
theorem vr_g_end_a_0 {K : Nat → Option (Nat × Nat)} {I : Nat → Nat → Int32} {L : Nat → Nat → Int64} {R : Nat → Nat → Value} (hW : jv_rW K R) {x : Int32} {t : Nat} (e : I 178 2 = vl_I t) (h1 : x < 0) {n sl : Nat} {Q : jv_R → Prop} (hQ : Q (none, jv_H K (jv_u (jv_u I 178 0 (1 : Int32)) 178 2 (vl_I t)) L R, n, sl)) : jv_Wp 352 0 [(0, .ref 178), (1, .int x)] [] (jv_H K I L R) n sl Q := by
  refine jv_Wp.lift (fun _ Kz => jv_Ev.steps jv_i352 2 (pc' := 2) (l' := [(0, .ref 178), (1, .int x)]) (st' := [.int x, .ref 178]) rfl Kz) ?_
  refine jv_Wp.cnd jv_i352 (pt := 13) (pe := 5) (p := (x < 0)) (q := (x < 0)) rfl jv_bi_lt rfl rfl Iff.rfl (fun _ => ?_) (fun hz => absurd h1 hz)
  refine jv_Wp.lift (fun _ Kz => jv_Ev.steps jv_i352 2 (pc' := 18) (l' := [(0, .ref 178), (1, .int x)]) (st' := [.int (1 : Int32), .ref 178]) rfl Kz) ?_
  refine jv_Wp.lift (fun _ Kz => jv_Ev.m jv_i352 (pc' := 21) (st' := []) (G' := (jv_H K (jv_u I 178 0 (1 : Int32)) L R)) rfl rfl (jv_m_putI (jv_rwK hW 178 14 31 (by decide)) rfl rfl rfl rfl) Kz) ?_
  refine jv_Wp.lift (fun _ Kz => jv_Ev.steps jv_i352 2 (pc' := 23) (l' := [(0, .ref 178), (1, .int x)]) (st' := [.ref 178, .ref 178]) rfl Kz) ?_
  refine jv_Wp.lift (fun _ Kz => jv_Ev.m jv_i352 (pc' := 26) (st' := [.int (1 : Int32), .ref 178]) (G' := (jv_H K (jv_u I 178 0 (1 : Int32)) L R)) rfl rfl (jv_m_getI (jv_rwK hW 178 14 31 (by decide)) rfl rfl (jv_u_self _ _ _ _)) Kz) ?_
  refine jv_Wp.lift (fun _ Kz => jv_Ev.br jv_i352 (pc' := 29) (st' := [.ref 178]) rfl (by rfl) Kz) ?_
  refine jv_Wp.lift (fun _ Kz => jv_Ev.steps jv_i352 1 (pc' := 30) (l' := [(0, .ref 178), (1, .int x)]) (st' := [.ref 178, .ref 178]) rfl Kz) ?_
  refine jv_Wp.lift (fun _ Kz => jv_Ev.m jv_i352 (pc' := 33) (st' := [.int (vl_I t), .ref 178]) (G' := (jv_H K (jv_u I 178 0 (1 : Int32)) L R)) rfl rfl (jv_m_getI (jv_rwK hW 178 14 31 (by decide)) rfl rfl ((jv_u_j _ _ _ _ (by decide)).trans e)) Kz) ?_
  refine jv_Wp.lift (fun _ Kz => jv_Ev.steps jv_i352 1 (pc' := 37) (l' := [(0, .ref 178), (1, .int x)]) (st' := [.int (vl_I t), .ref 178]) rfl Kz) ?_
  refine jv_Wp.lift (fun _ Kz => jv_Ev.m jv_i352 (pc' := 40) (st' := []) (G' := (jv_H K (jv_u (jv_u I 178 0 (1 : Int32)) 178 2 (vl_I t)) L R)) rfl rfl (jv_m_putI (jv_rwK hW 178 14 31 (by decide)) rfl rfl rfl rfl) Kz) ?_
  refine jv_Wp.of (jv_Ev.ret jv_i352 rfl rfl) ?_
  exact hQ
theorem vr_g_end_a {K : Nat → Option (Nat × Nat)} {I : Nat → Nat → Int32} {L : Nat → Nat → Int64} {R : Nat → Nat → Value} (hW : jv_rW K R) {x : Int32} {t : Nat} (e : I 178 2 = vl_I t) (h1 : x < 0) {n sl : Nat} : jv_Ms 352 [.ref 178, .int x] (jv_H K I L R) n sl (none, jv_H K (jv_u (jv_u I 178 0 (1 : Int32)) 178 2 (vl_I t)) L R, n, sl) := by
  obtain ⟨X, k, e⟩ := vr_g_end_a_0 (n := n) (sl := sl) (I := I) (L := L) (R := R) (Q := fun X => X = (none, jv_H K (jv_u (jv_u I 178 0 (1 : Int32)) 178 2 (vl_I t)) L R, n, sl)) hW e h1 rfl
  subst e
  exact k
theorem vr_g_end_b_0 {K : Nat → Option (Nat × Nat)} {I : Nat → Nat → Int32} {L : Nat → Nat → Int64} {R : Nat → Nat → Value} (hW : jv_rW K R) {x : Int32} {t : Nat} (e : I 178 2 = vl_I t) (h1 : ¬ x < 0) (h2 : ¬ x ≤ vl_I t) {n sl : Nat} {Q : jv_R → Prop} (hQ : Q (none, jv_H K (jv_u (jv_u I 178 0 (1 : Int32)) 178 2 (vl_I t)) L R, n, sl)) : jv_Wp 352 0 [(0, .ref 178), (1, .int x)] [] (jv_H K I L R) n sl Q := by
  refine jv_Wp.lift (fun _ Kz => jv_Ev.steps jv_i352 2 (pc' := 2) (l' := [(0, .ref 178), (1, .int x)]) (st' := [.int x, .ref 178]) rfl Kz) ?_
  refine jv_Wp.cnd jv_i352 (pt := 13) (pe := 5) (p := (x < 0)) (q := (x < 0)) rfl jv_bi_lt rfl rfl Iff.rfl (fun hz => absurd hz h1) (fun _ => ?_)
  refine jv_Wp.lift (fun _ Kz => jv_Ev.steps jv_i352 2 (pc' := 7) (l' := [(0, .ref 178), (1, .int x)]) (st' := [.ref 178, .int x, .ref 178]) rfl Kz) ?_
  refine jv_Wp.lift (fun _ Kz => jv_Ev.m jv_i352 (pc' := 10) (st' := [.int (vl_I t), .int x, .ref 178]) (G' := (jv_H K I L R)) rfl rfl (jv_m_getI (jv_rwK hW 178 14 31 (by decide)) rfl rfl e) Kz) ?_
  refine jv_Wp.cnd jv_i352 (pt := 17) (pe := 13) (p := (x ≤ (vl_I t))) (q := (x ≤ (vl_I t))) rfl jv_bc_le rfl rfl Iff.rfl (fun hz => absurd hz h2) (fun _ => ?_)
  refine jv_Wp.lift (fun _ Kz => jv_Ev.steps jv_i352 2 (pc' := 18) (l' := [(0, .ref 178), (1, .int x)]) (st' := [.int (1 : Int32), .ref 178]) rfl Kz) ?_
  refine jv_Wp.lift (fun _ Kz => jv_Ev.m jv_i352 (pc' := 21) (st' := []) (G' := (jv_H K (jv_u I 178 0 (1 : Int32)) L R)) rfl rfl (jv_m_putI (jv_rwK hW 178 14 31 (by decide)) rfl rfl rfl rfl) Kz) ?_
  refine jv_Wp.lift (fun _ Kz => jv_Ev.steps jv_i352 2 (pc' := 23) (l' := [(0, .ref 178), (1, .int x)]) (st' := [.ref 178, .ref 178]) rfl Kz) ?_
  refine jv_Wp.lift (fun _ Kz => jv_Ev.m jv_i352 (pc' := 26) (st' := [.int (1 : Int32), .ref 178]) (G' := (jv_H K (jv_u I 178 0 (1 : Int32)) L R)) rfl rfl (jv_m_getI (jv_rwK hW 178 14 31 (by decide)) rfl rfl (jv_u_self _ _ _ _)) Kz) ?_
  refine jv_Wp.lift (fun _ Kz => jv_Ev.br jv_i352 (pc' := 29) (st' := [.ref 178]) rfl (by rfl) Kz) ?_
  refine jv_Wp.lift (fun _ Kz => jv_Ev.steps jv_i352 1 (pc' := 30) (l' := [(0, .ref 178), (1, .int x)]) (st' := [.ref 178, .ref 178]) rfl Kz) ?_
  refine jv_Wp.lift (fun _ Kz => jv_Ev.m jv_i352 (pc' := 33) (st' := [.int (vl_I t), .ref 178]) (G' := (jv_H K (jv_u I 178 0 (1 : Int32)) L R)) rfl rfl (jv_m_getI (jv_rwK hW 178 14 31 (by decide)) rfl rfl ((jv_u_j _ _ _ _ (by decide)).trans e)) Kz) ?_
  refine jv_Wp.lift (fun _ Kz => jv_Ev.steps jv_i352 1 (pc' := 37) (l' := [(0, .ref 178), (1, .int x)]) (st' := [.int (vl_I t), .ref 178]) rfl Kz) ?_
  refine jv_Wp.lift (fun _ Kz => jv_Ev.m jv_i352 (pc' := 40) (st' := []) (G' := (jv_H K (jv_u (jv_u I 178 0 (1 : Int32)) 178 2 (vl_I t)) L R)) rfl rfl (jv_m_putI (jv_rwK hW 178 14 31 (by decide)) rfl rfl rfl rfl) Kz) ?_
  refine jv_Wp.of (jv_Ev.ret jv_i352 rfl rfl) ?_
  exact hQ
theorem vr_g_end_b {K : Nat → Option (Nat × Nat)} {I : Nat → Nat → Int32} {L : Nat → Nat → Int64} {R : Nat → Nat → Value} (hW : jv_rW K R) {x : Int32} {t : Nat} (e : I 178 2 = vl_I t) (h1 : ¬ x < 0) (h2 : ¬ x ≤ vl_I t) {n sl : Nat} : jv_Ms 352 [.ref 178, .int x] (jv_H K I L R) n sl (none, jv_H K (jv_u (jv_u I 178 0 (1 : Int32)) 178 2 (vl_I t)) L R, n, sl) := by
  obtain ⟨X, k, e⟩ := vr_g_end_b_0 (n := n) (sl := sl) (I := I) (L := L) (R := R) (Q := fun X => X = (none, jv_H K (jv_u (jv_u I 178 0 (1 : Int32)) 178 2 (vl_I t)) L R, n, sl)) hW e h1 h2 rfl
  subst e
  exact k
theorem jv_i360 : jv_I 360 2 (some .int) 0 0 jv_c360 := ⟨rfl, rfl, rfl, rfl, rfl⟩
theorem vr_g_at_y_0 {K : Nat → Option (Nat × Nat)} {I : Nat → Nat → Int32} {L : Nat → Nat → Int64} {R : Nat → Nat → Value} (hW : jv_rW K R) {a s : Nat} {v : Int32} (e : I 178 11 = vl_I s) (hs : s ≤ 2048) (ha : a < s) (ev : I 218 a = v) {n sl : Nat} {Q : jv_R → Prop} (hQ : Q (some (.int v), jv_H K (jv_u I 178 0 (0 : Int32)) L R, n, sl)) : jv_Wp 360 0 [(0, .ref 178), (1, .int (vl_I a))] [] (jv_H K I L R) n sl Q := by
  refine jv_Wp.lift (fun _ Kz => jv_Ev.steps jv_i360 2 (pc' := 2) (l' := [(0, .ref 178), (1, .int (vl_I a))]) (st' := [.int (vl_I a), .ref 178]) rfl Kz) ?_
  refine jv_Wp.cnd jv_i360 (pt := 13) (pe := 5) (p := ((vl_I a) < 0)) (q := ((vl_I a) < 0)) rfl jv_bi_lt rfl rfl Iff.rfl (fun hz => absurd hz (vl_I_n0 (by omega))) (fun _ => ?_)
  refine jv_Wp.lift (fun _ Kz => jv_Ev.steps jv_i360 2 (pc' := 7) (l' := [(0, .ref 178), (1, .int (vl_I a))]) (st' := [.ref 178, .int (vl_I a), .ref 178]) rfl Kz) ?_
  refine jv_Wp.lift (fun _ Kz => jv_Ev.m jv_i360 (pc' := 10) (st' := [.int (vl_I s), .int (vl_I a), .ref 178]) (G' := (jv_H K I L R)) rfl rfl (jv_m_getI (jv_rwK hW 178 14 31 (by decide)) rfl rfl e) Kz) ?_
  refine jv_Wp.cnd jv_i360 (pt := 17) (pe := 13) (p := ((vl_I a) < (vl_I s))) (q := ((vl_I a) < (vl_I s))) rfl jv_bc_lt rfl rfl Iff.rfl (fun _ => ?_) (fun hz => absurd ((vl_I_lt (by omega) (by omega)).mpr ha) hz)
  refine jv_Wp.lift (fun _ Kz => jv_Ev.steps jv_i360 1 (pc' := 18) (l' := [(0, .ref 178), (1, .int (vl_I a))]) (st' := [.int (0 : Int32), .ref 178]) rfl Kz) ?_
  refine jv_Wp.lift (fun _ Kz => jv_Ev.m jv_i360 (pc' := 21) (st' := []) (G' := (jv_H K (jv_u I 178 0 (0 : Int32)) L R)) rfl rfl (jv_m_putI (jv_rwK hW 178 14 31 (by decide)) rfl rfl rfl rfl) Kz) ?_
  refine jv_Wp.lift (fun _ Kz => jv_Ev.steps jv_i360 1 (pc' := 22) (l' := [(0, .ref 178), (1, .int (vl_I a))]) (st' := [.ref 178]) rfl Kz) ?_
  refine jv_Wp.lift (fun _ Kz => jv_Ev.m jv_i360 (pc' := 25) (st' := [.int (0 : Int32)]) (G' := (jv_H K (jv_u I 178 0 (0 : Int32)) L R)) rfl rfl (jv_m_getI (jv_rwK hW 178 14 31 (by decide)) rfl rfl (jv_u_self _ _ _ _)) Kz) ?_
  refine jv_Wp.lift (fun _ Kz => jv_Ev.br jv_i360 (pc' := 32) (st' := []) rfl (by rfl) Kz) ?_
  refine jv_Wp.lift (fun _ Kz => jv_Ev.steps jv_i360 1 (pc' := 33) (l' := [(0, .ref 178), (1, .int (vl_I a))]) (st' := [.ref 178]) rfl Kz) ?_
  refine jv_Wp.lift (fun _ Kz => jv_Ev.m jv_i360 (pc' := 36) (st' := [.ref 218]) (G' := (jv_H K (jv_u I 178 0 (0 : Int32)) L R)) rfl rfl (jv_m_getR (jv_rwK hW 178 14 31 (by decide)) rfl rfl (jv_rwR hW 178 10 218 (by decide))) Kz) ?_
  refine jv_Wp.lift (fun _ Kz => jv_Ev.steps jv_i360 1 (pc' := 37) (l' := [(0, .ref 178), (1, .int (vl_I a))]) (st' := [.int (vl_I a), .ref 218]) rfl Kz) ?_
  refine jv_Wp.lift (fun _ Kz => jv_Ev.m jv_i360 (pc' := 38) (st' := [.int v]) (G' := (jv_H K (jv_u I 178 0 (0 : Int32)) L R)) rfl rfl (jv_m_ialdv (jv_rwK hW 218 102 2048 (by decide)) rfl (vl_I_ix (by omega) (by decide)) rfl ((congrArg ((jv_u I 178 0 (0 : Int32)) 218) (vl_I_nat (by omega))).trans ((jv_u_o _ _ _ _ (by decide)).trans ev))) Kz) ?_
  refine jv_Wp.of (jv_Ev.ret jv_i360 rfl rfl) ?_
  exact hQ
theorem vr_g_at_y {K : Nat → Option (Nat × Nat)} {I : Nat → Nat → Int32} {L : Nat → Nat → Int64} {R : Nat → Nat → Value} (hW : jv_rW K R) {a s : Nat} {v : Int32} (e : I 178 11 = vl_I s) (hs : s ≤ 2048) (ha : a < s) (ev : I 218 a = v) {n sl : Nat} : jv_Ms 360 [.ref 178, .int (vl_I a)] (jv_H K I L R) n sl (some (.int v), jv_H K (jv_u I 178 0 (0 : Int32)) L R, n, sl) := by
  obtain ⟨X, k, e⟩ := vr_g_at_y_0 (n := n) (sl := sl) (I := I) (L := L) (R := R) (Q := fun X => X = (some (.int v), jv_H K (jv_u I 178 0 (0 : Int32)) L R, n, sl)) hW e hs ha ev rfl
  subst e
  exact k
theorem vr_g_at_a_0 {K : Nat → Option (Nat × Nat)} {I : Nat → Nat → Int32} {L : Nat → Nat → Int64} {R : Nat → Nat → Value} (hW : jv_rW K R) {x : Int32} {s : Nat} (e : I 178 11 = vl_I s) (h1 : x < 0) {n sl : Nat} {Q : jv_R → Prop} (hQ : Q (some (.int (0 : Int32)), jv_H K (jv_u I 178 0 (1 : Int32)) L R, n, sl)) : jv_Wp 360 0 [(0, .ref 178), (1, .int x)] [] (jv_H K I L R) n sl Q := by
  refine jv_Wp.lift (fun _ Kz => jv_Ev.steps jv_i360 2 (pc' := 2) (l' := [(0, .ref 178), (1, .int x)]) (st' := [.int x, .ref 178]) rfl Kz) ?_
  refine jv_Wp.cnd jv_i360 (pt := 13) (pe := 5) (p := (x < 0)) (q := (x < 0)) rfl jv_bi_lt rfl rfl Iff.rfl (fun _ => ?_) (fun hz => absurd h1 hz)
  refine jv_Wp.lift (fun _ Kz => jv_Ev.steps jv_i360 2 (pc' := 18) (l' := [(0, .ref 178), (1, .int x)]) (st' := [.int (1 : Int32), .ref 178]) rfl Kz) ?_
  refine jv_Wp.lift (fun _ Kz => jv_Ev.m jv_i360 (pc' := 21) (st' := []) (G' := (jv_H K (jv_u I 178 0 (1 : Int32)) L R)) rfl rfl (jv_m_putI (jv_rwK hW 178 14 31 (by decide)) rfl rfl rfl rfl) Kz) ?_
  refine jv_Wp.lift (fun _ Kz => jv_Ev.steps jv_i360 1 (pc' := 22) (l' := [(0, .ref 178), (1, .int x)]) (st' := [.ref 178]) rfl Kz) ?_
  refine jv_Wp.lift (fun _ Kz => jv_Ev.m jv_i360 (pc' := 25) (st' := [.int (1 : Int32)]) (G' := (jv_H K (jv_u I 178 0 (1 : Int32)) L R)) rfl rfl (jv_m_getI (jv_rwK hW 178 14 31 (by decide)) rfl rfl (jv_u_self _ _ _ _)) Kz) ?_
  refine jv_Wp.lift (fun _ Kz => jv_Ev.br jv_i360 (pc' := 28) (st' := []) rfl (by rfl) Kz) ?_
  refine jv_Wp.lift (fun _ Kz => jv_Ev.steps jv_i360 2 (pc' := 38) (l' := [(0, .ref 178), (1, .int x)]) (st' := [.int (0 : Int32)]) rfl Kz) ?_
  refine jv_Wp.of (jv_Ev.ret jv_i360 rfl rfl) ?_
  exact hQ
theorem vr_g_at_a {K : Nat → Option (Nat × Nat)} {I : Nat → Nat → Int32} {L : Nat → Nat → Int64} {R : Nat → Nat → Value} (hW : jv_rW K R) {x : Int32} {s : Nat} (e : I 178 11 = vl_I s) (h1 : x < 0) {n sl : Nat} : jv_Ms 360 [.ref 178, .int x] (jv_H K I L R) n sl (some (.int (0 : Int32)), jv_H K (jv_u I 178 0 (1 : Int32)) L R, n, sl) := by
  obtain ⟨X, k, e⟩ := vr_g_at_a_0 (n := n) (sl := sl) (I := I) (L := L) (R := R) (Q := fun X => X = (some (.int (0 : Int32)), jv_H K (jv_u I 178 0 (1 : Int32)) L R, n, sl)) hW e h1 rfl
  subst e
  exact k
theorem vr_g_at_b_0 {K : Nat → Option (Nat × Nat)} {I : Nat → Nat → Int32} {L : Nat → Nat → Int64} {R : Nat → Nat → Value} (hW : jv_rW K R) {x : Int32} {s : Nat} (e : I 178 11 = vl_I s) (h1 : ¬ x < 0) (h2 : ¬ x < vl_I s) {n sl : Nat} {Q : jv_R → Prop} (hQ : Q (some (.int (0 : Int32)), jv_H K (jv_u I 178 0 (1 : Int32)) L R, n, sl)) : jv_Wp 360 0 [(0, .ref 178), (1, .int x)] [] (jv_H K I L R) n sl Q := by
  refine jv_Wp.lift (fun _ Kz => jv_Ev.steps jv_i360 2 (pc' := 2) (l' := [(0, .ref 178), (1, .int x)]) (st' := [.int x, .ref 178]) rfl Kz) ?_
  refine jv_Wp.cnd jv_i360 (pt := 13) (pe := 5) (p := (x < 0)) (q := (x < 0)) rfl jv_bi_lt rfl rfl Iff.rfl (fun hz => absurd hz h1) (fun _ => ?_)
  refine jv_Wp.lift (fun _ Kz => jv_Ev.steps jv_i360 2 (pc' := 7) (l' := [(0, .ref 178), (1, .int x)]) (st' := [.ref 178, .int x, .ref 178]) rfl Kz) ?_
  refine jv_Wp.lift (fun _ Kz => jv_Ev.m jv_i360 (pc' := 10) (st' := [.int (vl_I s), .int x, .ref 178]) (G' := (jv_H K I L R)) rfl rfl (jv_m_getI (jv_rwK hW 178 14 31 (by decide)) rfl rfl e) Kz) ?_
  refine jv_Wp.cnd jv_i360 (pt := 17) (pe := 13) (p := (x < (vl_I s))) (q := (x < (vl_I s))) rfl jv_bc_lt rfl rfl Iff.rfl (fun hz => absurd hz h2) (fun _ => ?_)
  refine jv_Wp.lift (fun _ Kz => jv_Ev.steps jv_i360 2 (pc' := 18) (l' := [(0, .ref 178), (1, .int x)]) (st' := [.int (1 : Int32), .ref 178]) rfl Kz) ?_
  refine jv_Wp.lift (fun _ Kz => jv_Ev.m jv_i360 (pc' := 21) (st' := []) (G' := (jv_H K (jv_u I 178 0 (1 : Int32)) L R)) rfl rfl (jv_m_putI (jv_rwK hW 178 14 31 (by decide)) rfl rfl rfl rfl) Kz) ?_
  refine jv_Wp.lift (fun _ Kz => jv_Ev.steps jv_i360 1 (pc' := 22) (l' := [(0, .ref 178), (1, .int x)]) (st' := [.ref 178]) rfl Kz) ?_
  refine jv_Wp.lift (fun _ Kz => jv_Ev.m jv_i360 (pc' := 25) (st' := [.int (1 : Int32)]) (G' := (jv_H K (jv_u I 178 0 (1 : Int32)) L R)) rfl rfl (jv_m_getI (jv_rwK hW 178 14 31 (by decide)) rfl rfl (jv_u_self _ _ _ _)) Kz) ?_
  refine jv_Wp.lift (fun _ Kz => jv_Ev.br jv_i360 (pc' := 28) (st' := []) rfl (by rfl) Kz) ?_
  refine jv_Wp.lift (fun _ Kz => jv_Ev.steps jv_i360 2 (pc' := 38) (l' := [(0, .ref 178), (1, .int x)]) (st' := [.int (0 : Int32)]) rfl Kz) ?_
  refine jv_Wp.of (jv_Ev.ret jv_i360 rfl rfl) ?_
  exact hQ
theorem vr_g_at_b {K : Nat → Option (Nat × Nat)} {I : Nat → Nat → Int32} {L : Nat → Nat → Int64} {R : Nat → Nat → Value} (hW : jv_rW K R) {x : Int32} {s : Nat} (e : I 178 11 = vl_I s) (h1 : ¬ x < 0) (h2 : ¬ x < vl_I s) {n sl : Nat} : jv_Ms 360 [.ref 178, .int x] (jv_H K I L R) n sl (some (.int (0 : Int32)), jv_H K (jv_u I 178 0 (1 : Int32)) L R, n, sl) := by
  obtain ⟨X, k, e⟩ := vr_g_at_b_0 (n := n) (sl := sl) (I := I) (L := L) (R := R) (Q := fun X => X = (some (.int (0 : Int32)), jv_H K (jv_u I 178 0 (1 : Int32)) L R, n, sl)) hW e h1 h2 rfl
  subst e
  exact k