/-! part 05: rows' elements; all instructions on cells in one row -/
section JV5
variable {p : Program} {l : Launch} {e : Env} {R : Room} {s : State} {m : MethodId} {args : Array Value} {below : List Frame} {meth : Method} {c : Code} {H : Heap} {locs : List Loc} {cells slots : Nat} {Q : State → Prop} {cc : ByteArray}
theorem jv_ixv {i : Int32} {len : Nat} (h : jv_ix i len) : vp_in i len := vp_in_iff.mpr h
theorem jv_ix_lt {i : Int32} {len : Nat} (h : jv_ix i len) : i.toNatClampNeg < len := Nat.not_le.mp fun q => jv_ixv h (Or.inr q)
theorem jv_arrOf {E : jv_Env} (hK : jv_K E s) {t : Nat} {ty : FieldType} (ht : (jv_tys E.2.2.1)[t]? = some (E.2.2.1 t, ty)) (N : Nat) (z : Nat → Value) : s.isArrayOf (arrV (E.2.2.1 t) N z) ty := (hK.1.2 t _ ht).1 N z
theorem jv_arr_at {E : jv_Env} {G : jv_G} {n : Nat} (hP : jv_pic E G n H) {o k len : Nat} {V : Nat → Value} (ho : G o = some (k, len, V)) (h1 : 100 ≤ k) (h2 : k < 108) : H[E.1 o]? = some (arrV (E.2.2.1 (k - 100)) len (fun j => jv_tr E.1 (V j))) := ((hP.2.2.1 o _ ho).1.2.1 h1 h2).1
theorem jv_st_locs {E : jv_Env} {G : jv_G} {n : Nat} (hE : jv_EOk E) (hP : jv_pic E G n H) {o : Nat} {x : jv_E} (ho : G o = some x) (h110 : x.1 ≠ 110) {z : Nat} (hL : ∀ z ∈ locs, E.2.2.2.1 ≤ z.base) : ∀ y ∈ locs ++ [⟨E.1 o, z⟩], E.2.2.2.1 ≤ y.base := by
  intro y hy
  rcases List.mem_append.mp hy with h | h
  · exact hL y h
  · rw [List.mem_singleton.mp h, (jv_pic_lt hE hP ho h110).1]; exact Nat.le_add_right _ _
theorem jv_pic_arr {E : jv_Env} {G : jv_G} {n : Nat} {H1 : Heap} (hE : jv_EOk E) (hP : jv_pic E G n H) {o k len j : Nat} {V : Nat → Value} {v : Value} (ho : G o = some (k, len, V)) (h1 : 100 ≤ k) (h2 : k < 108) (hfit : k = 101 → fits .byte v = true)
    (e1 : H1[E.1 o]? = some ((arrV (E.2.2.1 (k - 100)) len (fun j => jv_tr E.1 (V j))).setSlot j (jv_tr E.1 v))) (e2 : H1.size = H.size) (e3 : ∀ q, q ≠ E.1 o → H1[q]? = H[q]?) : jv_pic E (jv_set G o (k, len, jv_up V j v)) n H1 := by
  refine jv_pic_set hE hP ho (by show k ≠ 110; omega) (by show k ≠ 110; omega) ⟨fun z => ?_, fun _ _ => ⟨?_, fun hk j' => ?_⟩, fun z => ?_⟩ e2 e3
  · exact absurd (show k < 100 from z) (by omega)
  · show H1[E.1 o]? = some (arrV (E.2.2.1 (k - 100)) len (fun i => jv_tr E.1 (jv_up V j v i)))
    rw [e1, arrV_store, jv_up_tr]
  · show fits .byte (jv_up V j v j') = true
    by_cases hj : j' = j
    · subst hj; rw [jv_up_self]; exact hfit hk
    · rw [jv_up_ne V v hj]; exact ((hP.2.2.1 o _ ho).1.2.1 h1 h2).2 hk j'
  · exact absurd (show k = 110 from z) (by omega)

theorem jv_iald {E : jv_Env} {G : jv_G} {n : Nat} (hx : p.tables.exec = Jvm.exec) (hb : c.code = cc) (hK : jv_K E s) (hP : jv_pic E G n H) {o len pc : Nat} {V : Nat → Value} {j : Int32} (ho : G o = some (102, len, V)) (hj : jv_ix j len) {ls : Array Slot} {rest : List Value} (hdg : decode cc pc = .ok (.iaload, 1))
    (kk : W p l e R s m args below meth c H locs cells slots Q (F0 m (pc + 1) ls (jv_tr E.1 (V j.toNatClampNeg) :: rest))) : W p l e R s m args below meth c H locs cells slots Q (F0 m pc ls (.int j :: .ref (E.1 o) :: rest)) := by
  have ha := jv_arr_at hP ho (by decide) (by decide)
  refine W.iald hx hb ha (jv_arrOf hK (t := 2) (ty := .int) rfl _ _) (fun q => by cases q) ?_ ?_ rfl rfl hdg kk
  · show ¬ (j < 0 ∨ (arrV _ _ _).slots.size ≤ _)
    rw [arrV_size]; exact jv_ixv hj
  · show (arrV _ _ _).slots[_]? = _
    rw [arrV_read _ _ (jv_ix_lt hj)]
theorem jv_lald {E : jv_Env} {G : jv_G} {n : Nat} (hx : p.tables.exec = Jvm.exec) (hb : c.code = cc) (hK : jv_K E s) (hP : jv_pic E G n H) {o len pc : Nat} {V : Nat → Value} {j : Int32} (ho : G o = some (103, len, V)) (hj : jv_ix j len) {ls : Array Slot} {rest : List Value} (hdg : decode cc pc = .ok (.laload, 1))
    (kk : W p l e R s m args below meth c H locs cells slots Q (F0 m (pc + 1) ls (jv_tr E.1 (V j.toNatClampNeg) :: rest))) : W p l e R s m args below meth c H locs cells slots Q (F0 m pc ls (.int j :: .ref (E.1 o) :: rest)) := by
  have ha := jv_arr_at hP ho (by decide) (by decide)
  refine W.lald hx hb ha (jv_arrOf hK (t := 3) (ty := .long) rfl _ _) (fun q => by cases q) ?_ ?_ rfl rfl hdg kk
  · show ¬ (j < 0 ∨ (arrV _ _ _).slots.size ≤ _)
    rw [arrV_size]; exact jv_ixv hj
  · show (arrV _ _ _).slots[_]? = _
    rw [arrV_read _ _ (jv_ix_lt hj)]
theorem jv_bald {E : jv_Env} {G : jv_G} {n : Nat} (hx : p.tables.exec = Jvm.exec) (hb : c.code = cc) (hK : jv_K E s) (hP : jv_pic E G n H) {o len pc : Nat} {V : Nat → Value} {j : Int32} (ho : G o = some (101, len, V)) (hj : jv_ix j len) {ls : Array Slot} {rest : List Value} (hdg : decode cc pc = .ok (.baload, 1))
    (kk : W p l e R s m args below meth c H locs cells slots Q (F0 m (pc + 1) ls (jv_tr E.1 (V j.toNatClampNeg) :: rest))) : W p l e R s m args below meth c H locs cells slots Q (F0 m pc ls (.int j :: .ref (E.1 o) :: rest)) := by
  have ha := jv_arr_at hP ho (by decide) (by decide)
  refine W.bald hx hb ha (jv_arrOf hK (t := 1) (ty := .byte) rfl _ _) (fun q => by cases q) ?_ ?_ rfl rfl hdg kk
  · show ¬ (j < 0 ∨ (arrV _ _ _).slots.size ≤ _)
    rw [arrV_size]; exact jv_ixv hj
  · show (arrV _ _ _).slots[_]? = _
    rw [arrV_read _ _ (jv_ix_lt hj)]
theorem jv_zald {E : jv_Env} {G : jv_G} {n : Nat} (hx : p.tables.exec = Jvm.exec) (hb : c.code = cc) (hK : jv_K E s) (hP : jv_pic E G n H) {o len pc : Nat} {V : Nat → Value} {j : Int32} (ho : G o = some (100, len, V)) (hj : jv_ix j len) {ls : Array Slot} {rest : List Value} (hdg : decode cc pc = .ok (.baload, 1))
    (kk : W p l e R s m args below meth c H locs cells slots Q (F0 m (pc + 1) ls (jv_tr E.1 (V j.toNatClampNeg) :: rest))) : W p l e R s m args below meth c H locs cells slots Q (F0 m pc ls (.int j :: .ref (E.1 o) :: rest)) := by
  have ha := jv_arr_at hP ho (by decide) (by decide)
  refine W.zald hx hb ha (jv_arrOf hK (t := 0) (ty := .boolean) rfl _ _) (fun q => by cases q) ?_ ?_ rfl rfl hdg kk
  · show ¬ (j < 0 ∨ (arrV _ _ _).slots.size ≤ _)
    rw [arrV_size]; exact jv_ixv hj
  · show (arrV _ _ _).slots[_]? = _
    rw [arrV_read _ _ (jv_ix_lt hj)]
theorem jv_iold {E : jv_Env} {G : jv_G} {n : Nat} (hE : jv_EOk E) (hx : p.tables.exec = Jvm.exec) (hb : c.code = cc) (hK : jv_K E s) (hP : jv_pic E G n H) {o len pc : Nat} {V : Nat → Value} {j : Int32} (ho : G o = some (110, len, V)) (hj : jv_ix j len) {ls : Array Slot} {rest : List Value} (hdg : decode cc pc = .ok (.iaload, 1))
    (kk : W p l e R s m args below meth c H locs cells slots Q (F0 m (pc + 1) ls (jv_tr E.1 (V j.toNatClampNeg) :: rest))) : W p l e R s m args below meth c H locs cells slots Q (F0 m pc ls (.int j :: .ref (E.1 o) :: rest)) := by
  obtain ⟨i, hi, rfl, he⟩ := (hP.2.2.1 o _ ho).1.2.2 rfl
  obtain ⟨cell, h1, harr, h3, h4, -, h5, h6⟩ := (hK.2 i hi).2
  have hlt : E.1 (1000000 + i) < E.2.2.2.1 := Nat.not_le.mp h6
  have ha : H[E.1 (1000000 + i)]? = some cell := by rw [hP.2.1 _ hlt]; exact h1
  simp only [Prod.mk.injEq, true_and] at he
  obtain ⟨rfl, rfl⟩ := he
  have hjl := jv_ix_lt hj
  refine W.iald hx hb ha harr h3 ?_ (h5 _ hjl) rfl rfl hdg kk
  rintro (h | h)
  · exact jv_ixv hj (Or.inl h)
  · omega
theorem jv_aald {E : jv_Env} {G : jv_G} {n : Nat} (hx : p.tables.exec = Jvm.exec) (hb : c.code = cc) (hK : jv_K E s) (hP : jv_pic E G n H) {o k len pc : Nat} {V : Nat → Value} {j : Int32} (ho : G o = some (k, len, V)) (h1 : 104 ≤ k) (h2 : k < 108) (hj : jv_ix j len) {ls : Array Slot} {rest : List Value} (hdg : decode cc pc = .ok (.aaload, 1))
    (kk : W p l e R s m args below meth c H locs cells slots Q (F0 m (pc + 1) ls (jv_tr E.1 (V j.toNatClampNeg) :: rest))) : W p l e R s m args below meth c H locs cells slots Q (F0 m pc ls (.int j :: .ref (E.1 o) :: rest)) := by
  have ha := jv_arr_at hP ho (by omega) (by omega)
  obtain ⟨C, hC⟩ : ∃ C, (jv_tys E.2.2.1)[k - 100]? = some (E.2.2.1 (k - 100), .object C) := by
    rcases (show k = 104 ∨ k = 105 ∨ k = 106 ∨ k = 107 by omega) with h | h | h | h <;> subst h <;> exact ⟨_, rfl⟩
  refine W.aald hx hb ha (jv_arrOf hK hC _ _) rfl (fun q => by cases q) ?_ ?_ rfl rfl hdg kk
  · show ¬ (j < 0 ∨ (arrV _ _ _).slots.size ≤ _)
    rw [arrV_size]; exact jv_ixv hj
  · show (arrV _ _ _).slots[_]? = _
    rw [arrV_read _ _ (jv_ix_lt hj)]
theorem jv_alen {E : jv_Env} {G : jv_G} {n : Nat} (hE : jv_EOk E) (hx : p.tables.exec = Jvm.exec) (hb : c.code = cc) (hK : jv_K E s) (hP : jv_pic E G n H) {o k len pc : Nat} {V : Nat → Value} (ho : G o = some (k, len, V)) (h1 : 100 ≤ k) (h2 : k < 108 ∨ k = 110) {ls : Array Slot} {rest : List Value} (hdg : decode cc pc = .ok (.arraylength, 1))
    (kk : W p l e R s m args below meth c H locs cells slots Q (F0 m (pc + 1) ls (.int (Int32.ofNat len) :: rest))) : W p l e R s m args below meth c H locs cells slots Q (F0 m pc ls (.ref (E.1 o) :: rest)) := by
  rcases h2 with h2 | h2
  · have ha := jv_arr_at hP ho h1 h2
    obtain ⟨ty, hty⟩ : ∃ ty, (jv_tys E.2.2.1)[k - 100]? = some (E.2.2.1 (k - 100), ty) := by
      rcases (show k = 100 ∨ k = 101 ∨ k = 102 ∨ k = 103 ∨ k = 104 ∨ k = 105 ∨ k = 106 ∨ k = 107 by omega) with h | h | h | h | h | h | h | h <;> subst h <;> exact ⟨_, rfl⟩
    refine W.alen hx hb ha (jv_arrOf hK hty _ _) ?_ rfl rfl hdg kk
    rw [arrV_size]
  · subst h2
    obtain ⟨i, hi, rfl, he⟩ := (hP.2.2.1 o _ ho).1.2.2 rfl
    obtain ⟨cell, g1, harr, h3, h4, h5, -, h6⟩ := (hK.2 i hi).2
    have hlt : E.1 (1000000 + i) < E.2.2.2.1 := Nat.not_le.mp h6
    have ha : H[E.1 (1000000 + i)]? = some cell := by rw [hP.2.1 _ hlt]; exact g1
    simp only [Prod.mk.injEq, true_and] at he
    obtain ⟨rfl, rfl⟩ := he
    exact W.alen hx hb ha harr h5 rfl rfl hdg kk
theorem jv_iast {E : jv_Env} {G : jv_G} {n : Nat} (hE : jv_EOk E) (hx : p.tables.exec = Jvm.exec) (hb : c.code = cc) (hK : jv_K E s) (hP : jv_pic E G n H) {o len pc : Nat} {V : Nat → Value} {j : Int32} {x : Int32} (ho : G o = some (102, len, V)) (hj : jv_ix j len) {ls : Array Slot} {rest : List Value} (hdg : decode cc pc = .ok (.iastore, 1)) (hL : ∀ z ∈ locs, E.2.2.2.1 ≤ z.base)
    (kk : ∀ (H1 : Heap) (locs1 : List Loc), jv_pic E (jv_set G o (102, len, jv_up V j.toNatClampNeg (.int x))) n H1 → (∀ z ∈ locs1, E.2.2.2.1 ≤ z.base) → W p l e R s m args below meth c H1 locs1 cells slots Q (F0 m (pc + 1) ls rest)) : W p l e R s m args below meth c H locs cells slots Q (F0 m pc ls (.int x :: .int j :: .ref (E.1 o) :: rest)) := by
  have ha := jv_arr_at hP ho (by decide) (by decide)
  refine W.iast hx hb ha (jv_arrOf hK (t := 2) (ty := .int) rfl _ _) (fun q => by cases q) ?_ rfl rfl hdg (fun H1 e1 e2 e3 => kk H1 _ (jv_pic_arr hE hP ho (by decide) (by decide) (fun h => absurd h (by decide)) ?_ e2 e3) (jv_st_locs hE hP ho (by show (102 : Nat) ≠ 110; decide) hL))
  · show ¬ (j < 0 ∨ (arrV _ _ _).slots.size ≤ _)
    rw [arrV_size]; exact jv_ixv hj
  · exact e1
theorem jv_last {E : jv_Env} {G : jv_G} {n : Nat} (hE : jv_EOk E) (hx : p.tables.exec = Jvm.exec) (hb : c.code = cc) (hK : jv_K E s) (hP : jv_pic E G n H) {o len pc : Nat} {V : Nat → Value} {j : Int32} {x : Int64} (ho : G o = some (103, len, V)) (hj : jv_ix j len) {ls : Array Slot} {rest : List Value} (hdg : decode cc pc = .ok (.lastore, 1)) (hL : ∀ z ∈ locs, E.2.2.2.1 ≤ z.base)
    (kk : ∀ (H1 : Heap) (locs1 : List Loc), jv_pic E (jv_set G o (103, len, jv_up V j.toNatClampNeg (.long x))) n H1 → (∀ z ∈ locs1, E.2.2.2.1 ≤ z.base) → W p l e R s m args below meth c H1 locs1 cells slots Q (F0 m (pc + 1) ls rest)) : W p l e R s m args below meth c H locs cells slots Q (F0 m pc ls (.long x :: .int j :: .ref (E.1 o) :: rest)) := by
  have ha := jv_arr_at hP ho (by decide) (by decide)
  refine W.last hx hb ha (jv_arrOf hK (t := 3) (ty := .long) rfl _ _) (fun q => by cases q) ?_ rfl rfl hdg (fun H1 e1 e2 e3 => kk H1 _ (jv_pic_arr hE hP ho (by decide) (by decide) (fun h => absurd h (by decide)) ?_ e2 e3) (jv_st_locs hE hP ho (by show (103 : Nat) ≠ 110; decide) hL))
  · show ¬ (j < 0 ∨ (arrV _ _ _).slots.size ≤ _)
    rw [arrV_size]; exact jv_ixv hj
  · exact e1
theorem jv_bast {E : jv_Env} {G : jv_G} {n : Nat} (hE : jv_EOk E) (hx : p.tables.exec = Jvm.exec) (hb : c.code = cc) (hK : jv_K E s) (hP : jv_pic E G n H) {o len pc : Nat} {V : Nat → Value} {j : Int32} {x : Int32} (ho : G o = some (101, len, V)) (hj : jv_ix j len) {ls : Array Slot} {rest : List Value} (hdg : decode cc pc = .ok (.bastore, 1)) (hL : ∀ z ∈ locs, E.2.2.2.1 ≤ z.base)
    (kk : ∀ (H1 : Heap) (locs1 : List Loc), jv_pic E (jv_set G o (101, len, jv_up V j.toNatClampNeg (.int x.toInt8.toInt32))) n H1 → (∀ z ∈ locs1, E.2.2.2.1 ≤ z.base) → W p l e R s m args below meth c H1 locs1 cells slots Q (F0 m (pc + 1) ls rest)) : W p l e R s m args below meth c H locs cells slots Q (F0 m pc ls (.int x :: .int j :: .ref (E.1 o) :: rest)) := by
  have ha := jv_arr_at hP ho (by decide) (by decide)
  refine W.bast hx hb ha (jv_arrOf hK (t := 1) (ty := .byte) rfl _ _) (fun q => by cases q) ?_ rfl rfl hdg (fun H1 e1 e2 e3 => kk H1 _ (jv_pic_arr hE hP ho (by decide) (by decide) (fun _ => pk_fb _) ?_ e2 e3) (jv_st_locs hE hP ho (by show (101 : Nat) ≠ 110; decide) hL))
  · show ¬ (j < 0 ∨ (arrV _ _ _).slots.size ≤ _)
    rw [arrV_size]; exact jv_ixv hj
  · exact e1
theorem jv_zast {E : jv_Env} {G : jv_G} {n : Nat} (hE : jv_EOk E) (hx : p.tables.exec = Jvm.exec) (hb : c.code = cc) (hK : jv_K E s) (hP : jv_pic E G n H) {o len pc : Nat} {V : Nat → Value} {j : Int32} {x : Int32} (ho : G o = some (100, len, V)) (hj : jv_ix j len) {ls : Array Slot} {rest : List Value} (hdg : decode cc pc = .ok (.bastore, 1)) (hL : ∀ z ∈ locs, E.2.2.2.1 ≤ z.base)
    (kk : ∀ (H1 : Heap) (locs1 : List Loc), jv_pic E (jv_set G o (100, len, jv_up V j.toNatClampNeg (.int (x &&& 1)))) n H1 → (∀ z ∈ locs1, E.2.2.2.1 ≤ z.base) → W p l e R s m args below meth c H1 locs1 cells slots Q (F0 m (pc + 1) ls rest)) : W p l e R s m args below meth c H locs cells slots Q (F0 m pc ls (.int x :: .int j :: .ref (E.1 o) :: rest)) := by
  have ha := jv_arr_at hP ho (by decide) (by decide)
  refine W.zast hx hb ha (jv_arrOf hK (t := 0) (ty := .boolean) rfl _ _) (fun q => by cases q) ?_ rfl rfl hdg (fun H1 e1 e2 e3 => kk H1 _ (jv_pic_arr hE hP ho (by decide) (by decide) (fun h => absurd h (by decide)) ?_ e2 e3) (jv_st_locs hE hP ho (by show (100 : Nat) ≠ 110; decide) hL))
  · show ¬ (j < 0 ∨ (arrV _ _ _).slots.size ≤ _)
    rw [arrV_size]; exact jv_ixv hj
  · exact e1
theorem jv_assign {E : jv_Env} (hts : ∀ w ∈ lw_ok, w.before args s = true) (hK : jv_K E s) {a k : Nat} {ra rk : vw_C} (h : jv_sub a k = true) (h9 : a ≠ 9) (ha : jv_cl[a]? = some ra) (hk : jv_cl[k]? = some rk) : s.vm.assignable (E.2.1.1 k) (E.2.1.1 a) = true := by
  have key : (rk.2.1 0).1 = ra.1 → (rk.2.1 0).2.2.2 = true → 0 < rk.2.2 → s.vm.assignable (E.2.1.1 k) (E.2.1.1 a) = true := by
    intro e1 e2 e3
    obtain ⟨hS, hfc, kC, hkC, hkind⟩ := hK.1.1 k _ hk
    obtain ⟨hSa, hfca, -⟩ := hK.1.1 a _ ha
    obtain ⟨cf, kf, fi, fd, hi, hsl⟩ := hS 0 e3
    have hin := (jv_cls hk).1
    have h1 := (u_facts hfc hkC (u_lays hts hin e3) hi).2.1
    have hlay := hts _ (hin _ (u_in_lay e3))
    unfold u_lay at hlay
    rw [if_pos e2] at hlay
    obtain ⟨_, _, c', _, _, _, -, -, hf', -, -, -, hown2, -⟩ := Cond.laysFinal_spec hlay
    have e4 : c' = cf := by have := hi.symm.trans hf'; simp at this; exact this.1.symm
    rw [e1] at hown2
    have : c' = E.2.1.1 a := Option.some.inj (hown2.symm.trans hfca)
    rw [← this, e4]; exact h1
  simp only [jv_sub, Bool.or_eq_true, Bool.and_eq_true] at h
  rcases h with (h | ⟨h1, h2 | h2⟩) | ⟨h1, h2⟩
  · have := Nat.eq_of_beq_eq_true h
    subst this
    exact va_assign (hK.1.1 a _ ha).2
  · have z1 := Nat.eq_of_beq_eq_true h1
    have z2 := Nat.eq_of_beq_eq_true h2
    subst z1; subst z2
    cases ha; cases hk
    exact key rfl rfl (by decide)
  · have z1 := Nat.eq_of_beq_eq_true h1
    have z2 := Nat.eq_of_beq_eq_true h2
    subst z1; subst z2
    cases ha; cases hk
    exact key rfl rfl (by decide)
  · exact absurd (Nat.eq_of_beq_eq_true h1) h9
theorem jv_aast {E : jv_Env} {G : jv_G} {n : Nat} (hE : jv_EOk E) (hx : p.tables.exec = Jvm.exec) (hb : c.code = cc) (hts : ∀ w ∈ lw_ok, w.before args s = true) (hK : jv_K E s) (hP : jv_pic E G n H) {o k k' len len' pc v : Nat} {V V' : Nat → Value} {j : Int32} (ho : G o = some (k, len, V)) (h1 : 104 ≤ k) (h2 : k < 108) (hv : G v = some (k', len', V')) (hs : jv_sub (jv_el k) k' = true) (hj : jv_ix j len) {ls : Array Slot} {rest : List Value} (hdg : decode cc pc = .ok (.aastore, 1)) (hL : ∀ z ∈ locs, E.2.2.2.1 ≤ z.base)
    (kk : ∀ (H1 : Heap) (locs1 : List Loc), jv_pic E (jv_set G o (k, len, jv_up V j.toNatClampNeg (.ref v))) n H1 → (∀ z ∈ locs1, E.2.2.2.1 ≤ z.base) → W p l e R s m args below meth c H1 locs1 cells slots Q (F0 m (pc + 1) ls rest)) : W p l e R s m args below meth c H locs cells slots Q (F0 m pc ls (.ref (E.1 v) :: .int j :: .ref (E.1 o) :: rest)) := by
  have ha := jv_arr_at hP ho (by omega) (by omega)
  have h0 : ¬ j < 0 := fun q => jv_ixv hj (Or.inl q)
  obtain ⟨r, hr, hC⟩ : ∃ r : vw_C, jv_cl[jv_el k]? = some r ∧ (jv_tys E.2.2.1)[k - 100]? = some (E.2.2.1 (k - 100), .object r.1) := by
    rcases (show k = 104 ∨ k = 105 ∨ k = 106 ∨ k = 107 by omega) with h | h | h | h <;> subst h <;> exact ⟨_, rfl, rfl⟩
  have hk15 := jv_sub_lt hs (jv_cl_lt hr)
  obtain ⟨r', hr', -, cellV, g1, g2, g3, -⟩ := (hP.2.2.1 v _ hv).1.1 (by show k' < 100; omega)
  dsimp only at hr' g2
  have hcls := (hK.1.1 _ r hr).2
  have hclsV := (hK.1.1 _ r' hr').2
  obtain ⟨kA, comp, k1, k2, k3, -⟩ := (hK.1.2 (k - 100) _ hC).2
  have hcomp : comp = E.2.1.1 (jv_el k) := Option.some.inj (k3.symm.trans hcls.1)
  subst hcomp
  obtain ⟨kC, hkC, -⟩ := hcls.2
  obtain ⟨kV, hkV, -⟩ := hclsV.2
  refine W.aast hx hb ha (fun q h => by cases h) (fun h => by cases h) k1 k2 rfl hkC ⟨h0, by show _ < (arrV _ _ _).slots.size; rw [arrV_size]; exact jv_ix_lt hj⟩ g1 (fun q h => by rw [g3] at h; cases h) (by rw [g2]; exact hkV) (by rw [g2]; exact jv_assign hts hK hs (by rcases (show k = 104 ∨ k = 105 ∨ k = 106 ∨ k = 107 by omega) with h | h | h | h <;> subst h <;> decide) hr hr') rfl rfl hdg (fun H1 e1 e2 e3 => kk H1 _ (jv_pic_arr hE hP ho (by omega) (by omega) (fun h => absurd h (by omega)) e1 e2 e3) (jv_st_locs hE hP ho (by show k ≠ 110; omega) hL))
set_option maxHeartbeats 4000000 in
theorem jv_mem_ok {E : jv_Env} {G G' : jv_G} {n : Nat} (hE : jv_EOk E) (hx : p.tables.exec = Jvm.exec) (hb : c.code = cc) {own : String} (hown : s.vm.findClass own = some m.cls) (hts : ∀ w ∈ lw_ok, w.before args s = true) (hK : jv_K E s) (hP : jv_pic E G n H)
    {i : Instr} {a b pc : Nat} {st st' : List Value} {ls : Array Slot} (hq : jv_mem i a b st G = some (st', G')) (hdg : decode cc pc = .ok (i, jv_mlen i)) (hlk : jv_mlk args s own meth.name i a b) (hL : ∀ z ∈ locs, E.2.2.2.1 ≤ z.base)
    (kk : ∀ (H1 : Heap) (locs1 : List Loc), jv_pic E G' n H1 → (∀ z ∈ locs1, E.2.2.2.1 ≤ z.base) → W p l e R s m args below meth c H1 locs1 cells slots Q (F0 m (pc + jv_mlen i) ls (st'.map (jv_tr E.1)))) :
    W p l e R s m args below meth c H locs cells slots Q (F0 m pc ls (st.map (jv_tr E.1))) := by
  cases i
  case getfield q =>
    simp only [jv_mem] at hq
    split at hq
    · split at hq
      · rename_i o r k len V ho
        cases hc : (jv_sub a k && Nat.blt b len) with
        | false => rw [hc] at hq; cases hq
        | true =>
          rw [hc] at hq
          simp only [cond_true, Option.some.injEq, Prod.mk.injEq] at hq
          obtain ⟨rfl, rfl⟩ := hq
          simp only [Bool.and_eq_true] at hc
          exact jv_getf hx hb hown hts hK hP ho hc.1 (Nat.le_of_ble_eq_true hc.2) hlk hdg (kk _ _ hP hL)
      · cases hq
    · cases hq
  case putfield q =>
    simp only [jv_mem] at hq
    split at hq
    · rename_i v o r
      split at hq
      · rename_i k len V ho
        cases hc : (jv_sub a k && (Nat.blt b len && jv_fitv (jv_ty a b) v)) with
        | false => rw [hc] at hq; cases hq
        | true =>
          rw [hc] at hq
          simp only [cond_true, Option.some.injEq, Prod.mk.injEq] at hq
          obtain ⟨rfl, rfl⟩ := hq
          simp only [Bool.and_eq_true] at hc
          exact jv_putf hE hx hb hown hts hK hP ho hc.1 (Nat.le_of_ble_eq_true hc.2.1) hc.2.2 hlk.1 hlk.2.1 hdg hL kk
      · cases hq
    · cases hq
  case arraylength =>
    simp only [jv_mem] at hq
    split at hq
    · split at hq
      · rename_i o r k len V ho
        cases hc : (Nat.ble 100 k && (Nat.blt k 108 || Nat.beq k 110)) with
        | false => rw [hc] at hq; cases hq
        | true =>
          rw [hc] at hq
          simp only [cond_true, Option.some.injEq, Prod.mk.injEq] at hq
          obtain ⟨rfl, rfl⟩ := hq
          simp only [Bool.and_eq_true, Bool.or_eq_true] at hc
          exact jv_alen hE hx hb hK hP ho (Nat.le_of_ble_eq_true hc.1) (hc.2.elim (fun z => Or.inl (Nat.le_of_ble_eq_true z)) (fun z => Or.inr (Nat.eq_of_beq_eq_true z))) hdg (kk _ _ hP hL)
      · cases hq
    · cases hq
  case iaload =>
    simp only [jv_mem] at hq
    split at hq
    · split at hq
      · rename_i j o r k len V ho
        cases hc : (Nat.beq k 102 || Nat.beq k 110) with
        | false => rw [hc] at hq; cases hq
        | true =>
          rw [hc] at hq
          simp only [cond_true] at hq
          split at hq
          · rename_i hj
            simp only [Option.some.injEq, Prod.mk.injEq] at hq
            obtain ⟨rfl, rfl⟩ := hq
            rcases Bool.or_eq_true _ _ ▸ hc with hc | hc
            · have := Nat.eq_of_beq_eq_true hc; subst this
              exact jv_iald hx hb hK hP ho hj hdg (kk _ _ hP hL)
            · have := Nat.eq_of_beq_eq_true hc; subst this
              exact jv_iold hE hx hb hK hP ho hj hdg (kk _ _ hP hL)
          · cases hq
      · cases hq
    · cases hq
  case laload =>
    simp only [jv_mem] at hq
    split at hq
    · split at hq
      · rename_i j o r k len V ho
        cases hc : (Nat.beq k 103) with
        | false => rw [hc] at hq; cases hq
        | true =>
          rw [hc] at hq
          simp only [cond_true] at hq
          split at hq
          · rename_i hj
            simp only [Option.some.injEq, Prod.mk.injEq] at hq
            obtain ⟨rfl, rfl⟩ := hq
            have := Nat.eq_of_beq_eq_true hc; subst this
            exact jv_lald hx hb hK hP ho hj hdg (kk _ _ hP hL)
          · cases hq
      · cases hq
    · cases hq
  case baload =>
    simp only [jv_mem] at hq
    split at hq
    · split at hq
      · rename_i j o r k len V ho
        cases hc : (Nat.beq k 100 || Nat.beq k 101) with
        | false => rw [hc] at hq; cases hq
        | true =>
          rw [hc] at hq
          simp only [cond_true] at hq
          split at hq
          · rename_i hj
            simp only [Option.some.injEq, Prod.mk.injEq] at hq
            obtain ⟨rfl, rfl⟩ := hq
            rcases Bool.or_eq_true _ _ ▸ hc with hc | hc
            · have := Nat.eq_of_beq_eq_true hc; subst this
              exact jv_zald hx hb hK hP ho hj hdg (kk _ _ hP hL)
            · have := Nat.eq_of_beq_eq_true hc; subst this
              exact jv_bald hx hb hK hP ho hj hdg (kk _ _ hP hL)
          · cases hq
      · cases hq
    · cases hq
  case aaload =>
    simp only [jv_mem] at hq
    split at hq
    · split at hq
      · rename_i j o r k len V ho
        cases hc : (Nat.ble 104 k && Nat.blt k 108) with
        | false => rw [hc] at hq; cases hq
        | true =>
          rw [hc] at hq
          simp only [cond_true] at hq
          simp only [Bool.and_eq_true] at hc
          split at hq
          · rename_i hj
            simp only [Option.some.injEq, Prod.mk.injEq] at hq
            obtain ⟨rfl, rfl⟩ := hq
            exact jv_aald hx hb hK hP ho (Nat.le_of_ble_eq_true hc.1) (Nat.le_of_ble_eq_true hc.2) hj hdg (kk _ _ hP hL)
          · cases hq
      · cases hq
    · cases hq
  case iastore =>
    simp only [jv_mem] at hq
    split at hq
    · split at hq
      · rename_i x j o r k len V ho
        cases hc : (Nat.beq k 102) with
        | false => rw [hc] at hq; cases hq
        | true =>
          rw [hc] at hq
          simp only [cond_true] at hq
          split at hq
          · rename_i hj
            simp only [Option.some.injEq, Prod.mk.injEq] at hq
            obtain ⟨rfl, rfl⟩ := hq
            have := Nat.eq_of_beq_eq_true hc; subst this
            exact jv_iast hE hx hb hK hP ho hj hdg hL kk
          · cases hq
      · cases hq
    · cases hq
  case lastore =>
    simp only [jv_mem] at hq
    split at hq
    · split at hq
      · rename_i x j o r k len V ho
        cases hc : (Nat.beq k 103) with
        | false => rw [hc] at hq; cases hq
        | true =>
          rw [hc] at hq
          simp only [cond_true] at hq
          split at hq
          · rename_i hj
            simp only [Option.some.injEq, Prod.mk.injEq] at hq
            obtain ⟨rfl, rfl⟩ := hq
            have := Nat.eq_of_beq_eq_true hc; subst this
            exact jv_last hE hx hb hK hP ho hj hdg hL kk
          · cases hq
      · cases hq
    · cases hq
  case bastore =>
    simp only [jv_mem] at hq
    split at hq
    · split at hq
      · rename_i x j o r k len V ho
        cases hc : (Nat.beq k 101) with
        | false =>
          rw [hc] at hq
          simp only [cond_false] at hq
          cases hd : (Nat.beq k 100) with
          | false => rw [hd] at hq; cases hq
          | true =>
            rw [hd] at hq
            simp only [cond_true] at hq
            split at hq
            · rename_i hj
              simp only [Option.some.injEq, Prod.mk.injEq] at hq
              obtain ⟨rfl, rfl⟩ := hq
              have := Nat.eq_of_beq_eq_true hd; subst this
              exact jv_zast hE hx hb hK hP ho hj hdg hL kk
            · cases hq
        | true =>
          rw [hc] at hq
          simp only [cond_true] at hq
          split at hq
          · rename_i hj
            simp only [Option.some.injEq, Prod.mk.injEq] at hq
            obtain ⟨rfl, rfl⟩ := hq
            have := Nat.eq_of_beq_eq_true hc; subst this
            exact jv_bast hE hx hb hK hP ho hj hdg hL kk
          · cases hq
      · cases hq
    · cases hq
  case aastore =>
    simp only [jv_mem] at hq
    split at hq
    · rename_i v j o r
      split at hq
      · rename_i k len V ho
        split at hq
        · rename_i k2 len2 V2 hv
          cases hc : (Nat.ble 104 k && (Nat.blt k 108 && jv_sub (jv_el k) k2)) with
          | false => rw [hc] at hq; cases hq
          | true =>
            rw [hc] at hq
            simp only [cond_true] at hq
            simp only [Bool.and_eq_true] at hc
            split at hq
            · rename_i hj
              simp only [Option.some.injEq, Prod.mk.injEq] at hq
              obtain ⟨rfl, rfl⟩ := hq
              exact jv_aast hE hx hb hts hK hP ho (Nat.le_of_ble_eq_true hc.1) (Nat.le_of_ble_eq_true hc.2.1) hv hc.2.2 hj hdg hL kk
            · cases hq
        · cases hq
      · cases hq
    · cases hq
  all_goals (simp only [jv_mem] at hq; cases hq)
end JV5
