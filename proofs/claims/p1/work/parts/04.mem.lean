/-! part 04: the rows of the instructions that read or write a cell -/
theorem jv_subT {a k : Nat} {ra rk : vw_C} (h : jv_sub a k = true) (ha : jv_cl[a]? = some ra) (hk : jv_cl[k]? = some rk) : ∀ j, j < ra.2.2 → rk.2.1 j = ra.2.1 j ∧ jv_ty k j = jv_ty a j ∧ j < rk.2.2 := by
  simp only [jv_sub, Bool.or_eq_true, Bool.and_eq_true] at h
  rcases h with (h | ⟨h1, h2 | h2⟩) | ⟨h1, h2⟩
  · have := Nat.eq_of_beq_eq_true h
    subst this
    cases ha.symm.trans hk
    exact fun j hj => ⟨rfl, rfl, hj⟩
  · have e1 := Nat.eq_of_beq_eq_true h1
    have e2 := Nat.eq_of_beq_eq_true h2
    subst e1; subst e2
    cases ha; cases hk
    exact (by decide +kernel : ∀ j, j < 7 → TX5 j = TX1 j ∧ jv_ty 4 j = jv_ty 0 j ∧ j < 11)
  · have e1 := Nat.eq_of_beq_eq_true h1
    have e2 := Nat.eq_of_beq_eq_true h2
    subst e1; subst e2
    cases ha; cases hk
    exact (by decide +kernel : ∀ j, j < 7 → TX8 j = TX1 j ∧ jv_ty 7 j = jv_ty 0 j ∧ j < 13)
  · have e1 := Nat.eq_of_beq_eq_true h1
    have e2 := Nat.eq_of_beq_eq_true h2
    subst e1; subst e2
    cases ha; cases hk
    exact (by decide +kernel : ∀ j, j < 6 → TX9 j = TX10 j ∧ jv_ty 8 j = jv_ty 9 j ∧ j < 10)
theorem jv_sub_lt {a k : Nat} (h : jv_sub a k = true) (ha : a < 15) : k < 15 := by
  simp only [jv_sub, Bool.or_eq_true, Bool.and_eq_true] at h
  rcases h with (h | ⟨h1, h2 | h2⟩) | ⟨h1, h2⟩
  · rw [← Nat.eq_of_beq_eq_true h]; exact ha
  · rw [Nat.eq_of_beq_eq_true h2]; decide
  · rw [Nat.eq_of_beq_eq_true h2]; decide
  · rw [Nat.eq_of_beq_eq_true h2]; decide
theorem jv_cl_lt {a : Nat} {r : vw_C} (h : jv_cl[a]? = some r) : a < 15 := (List.getElem?_eq_some_iff.mp h).1
/-- what links a field's entry -/
def jv_fl (args : Array Value) (s : State) (own : String) (q a b : Nat) : Prop :=
  ∃ (r : vw_C) (ref : String), jv_cl[a]? = some r ∧ b < r.2.2 ∧ ((Cond.fieldLink own q ref (r.2.1 b).2.1 (r.2.1 b).2.2.1).before args s = true ∨ ∃ host, (Cond.fieldLinkNest own q ref (r.2.1 b).2.1 (r.2.1 b).2.2.1 host).before args s = true) ∧
    (∀ x, s.fieldFound? (r.2.1 b).1 (r.2.1 b).2.1 (r.2.1 b).2.2.1 = some x → s.fieldFound? ref (r.2.1 b).2.1 (r.2.1 b).2.2.1 = some x)
/-- may it be written here -/
def jv_wr (own : String) (mn : String) (a b : Nat) : Prop := ∀ r : vw_C, jv_cl[a]? = some r → (r.2.1 b).2.2.2 = false ∨ (mn = "<init>" ∧ (r.2.1 b).1 = own)
def jv_mlk (args : Array Value) (s : State) (own : String) (mn : String) (i : Instr) (a b : Nat) : Prop := match i with
  | .getfield q => jv_fl args s own q a b
  | .putfield q => jv_fl args s own q a b ∧ jv_wr own mn a b ∧ ∀ host, (∃ ref n d, (Cond.fieldLinkNest own q ref n d host).before args s = true) → True
  | _ => True
def jv_mlen (i : Instr) : Nat := match i with
  | .getfield _ => 3
  | .putfield _ => 3
  | _ => 1
theorem jv_pic_lt {E : jv_Env} {G : jv_G} {n : Nat} {H : Heap} (hE : jv_EOk E) (hP : jv_pic E G n H) {o : Nat} {e : jv_E} (ho : G o = some e) (h110 : e.1 ≠ 110) : E.1 o = E.2.2.2.1 + o ∧ o < n := by
  obtain ⟨-, h2⟩ := hP.2.2.1 o e ho
  have hn := hP.2.2.2
  rcases h2 with h2 | h2
  · exact absurd h2.1 h110
  · exact ⟨hE.1 o (by omega), h2⟩
theorem jv_f_ne {E : jv_Env} {G : jv_G} {n : Nat} {H : Heap} (hE : jv_EOk E) (hP : jv_pic E G n H) {o q : Nat} {e e' : jv_E} (ho : G o = some e) (h110 : e.1 ≠ 110) (hq : G q = some e') (hne : q ≠ o) : E.1 q ≠ E.1 o := by
  obtain ⟨e1, l1⟩ := jv_pic_lt hE hP ho h110
  by_cases h : e'.1 = 110
  · have hh := (hP.2.2.1 q e' hq).2
    have hn := hP.2.2.2
    rcases hh with hh | hh
    · have := hE.2.1 q hh.2
      omega
    · have := hE.1 q (by omega)
      omega
  · obtain ⟨e2, l2⟩ := jv_pic_lt hE hP hq h
    omega
theorem jv_at_kept {E : jv_Env} {H H1 : Heap} {a : Nat} {e : jv_E} (h : jv_at E H a e) (hq : e.1 ≠ 110 → H1[E.1 a]? = H[E.1 a]?) : jv_at E H1 a e := by
  refine ⟨fun hk => ?_, fun h1 h2 => ?_, h.2.2⟩
  · obtain ⟨r, q1, q2, q3⟩ := h.1 hk
    exact ⟨r, q1, q2, q3.kept (hq (by omega))⟩
  · exact ⟨(hq (by omega)).trans (h.2.1 h1 h2).1, (h.2.1 h1 h2).2⟩
/-- one cell is written -/
theorem jv_pic_set {E : jv_Env} {G : jv_G} {n : Nat} {H H1 : Heap} (hE : jv_EOk E) (hP : jv_pic E G n H) {o : Nat} {e e' : jv_E} (ho : G o = some e) (h110 : e.1 ≠ 110) (h110' : e'.1 ≠ 110) (hat : jv_at E H1 o e') (hsz : H1.size = H.size) (hq : ∀ q, q ≠ E.1 o → H1[q]? = H[q]?) : jv_pic E (jv_set G o e') n H1 := by
  obtain ⟨e1, l1⟩ := jv_pic_lt hE hP ho h110
  refine ⟨hsz.trans hP.1, fun q hlt => (hq q (by omega)).trans (hP.2.1 q hlt), fun a x hx => ?_, hP.2.2.2⟩
  by_cases hao : a = o
  · subst hao
    rw [jv_set_self] at hx
    cases hx
    exact ⟨hat, Or.inr l1⟩
  · rw [jv_set_ne G e' hao] at hx
    obtain ⟨g1, g2⟩ := hP.2.2.1 a x hx
    exact ⟨jv_at_kept g1 (fun _ => hq _ (jv_f_ne hE hP ho h110 hx hao)), g2⟩
section JV4
variable {p : Program} {l : Launch} {e : Env} {R : Room} {s : State} {m : MethodId} {args : Array Value} {below : List Frame} {meth : Method} {c : Code} {H : Heap} {locs : List Loc} {cells slots : Nat} {Q : State → Prop} {cc : ByteArray}
theorem jv_slots {E : jv_Env} (hts : ∀ w ∈ lw_ok, w.before args s = true) (hK : jv_K E s) {k : Nat} {r : vw_C} (hr : jv_cl[k]? = some r) : ∀ x y, x < r.2.2 → y < r.2.2 → x ≠ y → (E.2.1.2 k) x ≠ (E.2.1.2 k) y := by
  obtain ⟨hin, hnm, hfd⟩ := jv_cls hr
  intro x y hx hy hne
  obtain ⟨hS, -⟩ := hK.1.1 k _ hr
  obtain ⟨_, _, _, fa, hia, ea⟩ := hS x hx
  obtain ⟨_, _, _, fb, hib, eb⟩ := hS y hy
  rw [← ea, ← eb]
  refine u_apart (u_lays hts hin hx) (u_lays hts hin hy) hia hib ?_
  rw [(State.fieldFound?_type hia (hfd x hx)).1, (State.fieldFound?_type hib (hfd y hy)).1]
  exact hnm x hx y hy hne
theorem jv_getf {E : jv_Env} {G : jv_G} {n : Nat} (hx : p.tables.exec = Jvm.exec) (hb : c.code = cc) {own : String} (hown : s.vm.findClass own = some m.cls) (hts : ∀ w ∈ lw_ok, w.before args s = true) (hK : jv_K E s) (hP : jv_pic E G n H)
    {q a b o k len pc : Nat} {V : Nat → Value} (ho : G o = some (k, len, V)) (hs : jv_sub a k = true) (hbl : b < len) (hl : jv_fl args s own q a b) {ls : Array Slot} {rest : List Value} (hdg : decode cc pc = .ok (.getfield q, 3))
    (kk : W p l e R s m args below meth c H locs cells slots Q (F0 m (pc + 3) ls (jv_tr E.1 (V b) :: rest))) : W p l e R s m args below meth c H locs cells slots Q (F0 m pc ls (.ref (E.1 o) :: rest)) := by
  obtain ⟨r, ref, hra, hbr, hlink, hsame⟩ := hl
  have hk15 := jv_sub_lt hs (jv_cl_lt hra)
  obtain ⟨r', h1, h2, cell, q1, q2, q3, q4⟩ := (hP.2.2.1 o _ ho).1.1 (by show k < 100; omega)
  dsimp only at h1 h2 q2 q4
  obtain ⟨hT, -, hbr'⟩ := jv_subT hs hra h1 b hbr
  obtain ⟨hin, hnm, hfd⟩ := jv_cls h1
  obtain ⟨hS, hfc, kC, hkC, hkind⟩ := hK.1.1 k _ h1
  obtain ⟨cf, kf, fi, fd, hi, hsl⟩ := hS b hbr'
  have hst := (u_facts hfc hkC (u_lays hts hin hbr') hi).1
  rw [hT] at hi
  have hv : cell.slots[fd.slot]? = some (jv_tr E.1 (V b)) := by rw [hsl]; exact q4 b hbr'
  rcases hlink with hlink | ⟨host, hlink⟩
  · exact W.getf hx hb hown hlink (hsame _ hi) hst q1 (by rw [q3]; exact fun h => by cases h) hv rfl rfl hdg kk
  · exact va_Wgetf hx hb hown hlink (hsame _ hi) hst q1 (by rw [q3]; exact fun h => by cases h) hv rfl rfl hdg kk
theorem jv_putf {E : jv_Env} {G : jv_G} {n : Nat} (hE : jv_EOk E) (hx : p.tables.exec = Jvm.exec) (hb : c.code = cc) {own : String} (hown : s.vm.findClass own = some m.cls) (hts : ∀ w ∈ lw_ok, w.before args s = true) (hK : jv_K E s) (hP : jv_pic E G n H)
    {q a b o k len pc : Nat} {V : Nat → Value} {v : Value} (ho : G o = some (k, len, V)) (hs : jv_sub a k = true) (hbl : b < len) (hfv : jv_fitv (jv_ty a b) v = true) (hl : jv_fl args s own q a b) (hw : jv_wr own meth.name a b) {ls : Array Slot} {rest : List Value} (hdg : decode cc pc = .ok (.putfield q, 3)) (hL : ∀ z ∈ locs, E.2.2.2.1 ≤ z.base)
    (kk : ∀ (H1 : Heap) (locs1 : List Loc), jv_pic E (jv_set G o (k, len, jv_up V b v)) n H1 → (∀ z ∈ locs1, E.2.2.2.1 ≤ z.base) → W p l e R s m args below meth c H1 locs1 cells slots Q (F0 m (pc + 3) ls rest)) : W p l e R s m args below meth c H locs cells slots Q (F0 m pc ls (jv_tr E.1 v :: .ref (E.1 o) :: rest)) := by
  obtain ⟨r, ref, hra, hbr, hlink, hsame⟩ := hl
  have hk15 := jv_sub_lt hs (jv_cl_lt hra)
  obtain ⟨r', h1, h2, cell, q1, q2, q3, q4⟩ := (hP.2.2.1 o _ ho).1.1 (by show k < 100; omega)
  dsimp only at h1 h2 q2 q4
  obtain ⟨hT, hty, hbr'⟩ := jv_subT hs hra h1 b hbr
  obtain ⟨hin, hnm, hfd⟩ := jv_cls h1
  have hap := jv_slots hts hK h1
  obtain ⟨hS, hfc, kC, hkC, hkind⟩ := hK.1.1 k _ h1
  obtain ⟨cf, kf, fi, fd, hi, hsl⟩ := hS b hbr'
  have hlay := hts _ (hin _ (u_in_lay hbr'))
  have hst := (u_facts hfc hkC (u_lays hts hin hbr') hi).1
  obtain ⟨hn1, hf1⟩ := jv_fitv_ok (ty := jv_ty a b) (v := v) E.1 hfv
  rw [← hty] at hn1 hf1
  have hlt := jv_pic_lt hE hP ho (by show k ≠ 110; omega)
  have fin : ∀ H' : Heap, H'[E.1 o]? = some (cell.setSlot fd.slot (jv_tr E.1 v)) → H'.size = H.size → (∀ z, z ≠ E.1 o → H'[z]? = H[z]?) → jv_pic E (jv_set G o (k, len, jv_up V b v)) n H' := by
    intro H' e1 e2 e3
    refine jv_pic_set hE hP ho (by show k ≠ 110; omega) (by show k ≠ 110; omega) ⟨fun _ => ⟨r', h1, h2, ?_⟩, fun z1 z2 => ?_, fun z1 => ?_⟩ e2 e3
    · rw [hsl] at e1
      show t_OB (E.1 o) (E.2.1.1 k) r'.2.2 (E.2.1.2 k) H' (fun j => jv_tr E.1 (jv_up V b v j))
      rw [jv_up_tr]
      exact ⟨_, e1, q2, q3, t_set q4 hap hbr' _⟩
    · exact absurd (show 100 ≤ k from z1) (by omega)
    · exact absurd (show k = 110 from z1) (by omega)
  have hL' : ∀ z ∈ locs ++ [⟨E.1 o, fd.slot⟩], E.2.2.2.1 ≤ z.base := by
    intro z hz
    rcases List.mem_append.mp hz with h | h
    · exact hL z h
    · rw [List.mem_singleton.mp h, hlt.1]; exact Nat.le_add_right _ _
  have hi' := hi
  rw [hT] at hi'
  unfold u_lay at hlay
  cases hfin : (r'.2.1 b).2.2.2 with
  | false =>
    rw [if_neg (by rw [hfin]; decide)] at hlay
    have h6 := u_store hfc hkC hkind hlay hi (hfd b hbr') hn1 hf1
    rcases hlink with hlink | ⟨host, hlink⟩
    · exact W.putK hx hb (f := fd) ⟨hown, hlink, ⟨_, _, _, hsame _ hi'⟩, hst⟩ (by rw [q2]; exact h6) q1 q3 (by rw [hsl]; exact k2_hasslot (q4 b hbr')) rfl rfl hdg fun H' e1 e2 e3 => kk H' _ (fin H' e1 e2 e3) hL'
    · exact va_WputK hx hb (f := fd) hown hlink (hsame _ hi') hst (by rw [q2]; exact h6) q1 q3 (by rw [hsl]; exact k2_hasslot (q4 b hbr')) rfl rfl hdg fun H' e1 e2 e3 => kk H' _ (fin H' e1 e2 e3) hL'
  | true =>
    rw [if_pos hfin] at hlay
    rcases hw r hra with hw | ⟨hin2, hdecl⟩
    · rw [hT, hw] at hfin
      cases hfin
    · have hcf : m.cls = cf := by
        obtain ⟨_, _, c', _, _, _, -, -, hf', -, -, -, hown2, -⟩ := Cond.laysFinal_spec hlay
        have e1 : c' = cf := by have := hi.symm.trans hf'; simp at this; exact this.1.symm
        rw [hT, hdecl] at hown2
        rw [← e1]; exact Option.some.inj (hown.symm.trans hown2)
      have h6 := u_fits hfc hkC hkind (Or.inr hlay) hi (hfd b hbr') hn1 hf1
      rcases hlink with hlink | ⟨host, hlink⟩
      · exact W.putFinK hx hb hown hlink (hsame _ hi') hst hcf hin2 (by rw [q2]; exact h6) q1 q3 (by rw [hsl]; exact k2_hasslot (q4 b hbr')) rfl rfl hdg fun H' e1 e2 e3 => kk H' _ (fin H' e1 e2 e3) hL'
      · refine va_Wputf hx hb hown hlink (hsame _ hi') hst (Or.inr ⟨hcf, hin2⟩) q1 (by rw [q3]; exact fun h => by cases h) (by rw [hsl]; exact k2_hasslot (q4 b hbr')) h6.1 (by rw [q2, q3]; exact h6.2) rfl rfl hdg (kk _ _ (fin _ ?_ ?_ ?_) hL')
        · simp [Array.getElem?_setIfInBounds, (Array.getElem?_eq_some_iff.mp q1).1]
        · simp
        · intro z hz
          simp [Array.getElem?_setIfInBounds, Ne.symm hz]
end JV4
