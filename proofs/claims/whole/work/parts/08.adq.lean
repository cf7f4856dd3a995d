/-! part 08: the machine does what the small machine's run does -/
theorem jv_sl_len (vs : List Value) : (lg_sl vs).length = jv_wd vs := by
  induction vs with
  | nil => rfl
  | cons v r ih =>
    have e : lg_sl (v :: r) = (if v.category = 2 then [.val v, .second] else [.val v]) ++ lg_sl r := by simp [lg_sl]
    rw [e, List.length_append, ih]
    show _ = v.category + jv_wd r
    rcases lv_cat v with h | h <;> simp [h]
theorem jv_wd_tr (f : Nat → Nat) (vs : List Value) : jv_wd (vs.map (jv_tr f)) = jv_wd vs := by
  unfold jv_wd
  rw [List.map_map]
  congr 1
  exact List.map_congr_left fun v _ => jv_tr_cat f v
theorem jv_args_tr (f : Nat → Nat) : ∀ (vs : List Value) (i : Nat), lv_args i (vs.map (jv_tr f)) = jv_trL f (lv_args i vs)
  | [], _ => rfl
  | v :: r, i => by
    simp only [List.map_cons, lv_args, jv_trL, jv_tr_cat]
    rw [jv_args_tr f r]
    rfl
def jv_ws (T : jv_T) (y : Nat) : List Cond := Cond.code (jv_name T y) (jv_bytes T y) (jv_mL T y) (jv_rt T y) :: lw_ok
def jv_rm (T : jv_T) (y n sl n' sl' : Nat) : Room := { frames := jv_fr T y, cells := n' - n, slots := sl' - sl, locals := jv_lo T y }
def jv_Pc (E : jv_Env) (As : List Value) (G : jv_G) (n : Nat) : Array Value → State → Prop := va_Pc (As.map (jv_tr E.1)) (fun U => jv_pic E G n U.heap ∧ jv_K E U)
def jv_Qc (E : jv_Env) (rv : Option Value) (G' : jv_G) (n' : Nat) : Array Value → State → Outcome → State → Prop := fun _ _ oc t => oc = .returned (rv.map (jv_tr E.1)) ∧ jv_pic E G' n' t.heap
def jv_free (E : jv_Env) : Addr → Prop := fun q => E.2.2.2.1 ≤ q
def jv_Ctx (T : jv_T) (E : jv_Env) (y : Nat) (p : Program) (R : Room) (s : State) (m : MethodId) (args : Array Value) (meth : Method) (c : Code) : Prop :=
  p.tables.exec = Jvm.exec ∧ c.code = jv_bytes T y ∧ c.maxLocals = jv_mL T y ∧ s.vm.findClass (jv_name T y).cls = some m.cls ∧ (∀ w ∈ lw_ok, w.before args s = true) ∧ jv_K E s ∧ meth.sig.returnType = jv_rt T y ∧ meth.locks = false ∧ meth.name = (jv_name T y).name ∧ R.frames = jv_fr T y ∧ R.locals = jv_lo T y
def jv_P (l : Launch) (T : jv_T) (E : jv_Env) (g : Nat) : Prop := ∀ (y pc : Nat) (lo : jv_L) (st : List Value) (G : jv_G) (n sl : Nat) (rv : Option Value) (G' : jv_G) (n' sl' : Nat), jv_run T g y pc lo st G n sl = some (rv, G', n', sl') →
  ∀ (p : Program) (e : Env) (R : Room) (s : State) (m : MethodId) (args : Array Value) (below : List Frame) (meth : Method) (c : Code) (H : Heap) (ls : Array Slot) (locs : List Loc) (cells slots : Nat), jv_Ctx T E y p R s m args meth c →
    lv_has ls (jv_mL T y) (jv_trL E.1 lo) → jv_pic E G n H → (∀ z ∈ locs, E.2.2.2.1 ≤ z.base) → cells + (n' - n) = R.cells → slots + (sl' - sl) = R.slots →
    W p l e R s m args below meth c H locs cells slots (MQ below (jv_Qc E rv G' n') args s R.cells R.slots (jv_free E)) (F0 m pc ls (st.map (jv_tr E.1)))
theorem jv_met {l : Launch} {T : jv_T} {E : jv_Env} {g : Nat} (ih : jv_P l T E g) {y : Nat} {As : List Value} {G : jv_G} {n sl : Nat} {rv : Option Value} {G' : jv_G} {n' sl' : Nat} (h : jv_run T g y 0 (lv_args 0 As) [] G n sl = some (rv, G', n', sl'))
    (hw : jv_wd As ≤ jv_mL T y) (hpl : plainName (jv_name T y).cls = true) : Met l (jv_name T y) (jv_ws T y) (jv_rm T y n sl n' sl') (jv_Pc E As G n) (jv_Qc E rv G' n') (n' - n) (sl' - sl) (jv_free E) := by
  refine Met.ofW (cc := jv_bytes T y) (maxL := jv_mL T y) (ret := jv_rt T y) (ws' := lw_ok) hpl rfl ?_
  intro p e s m args below meth c s₁ B hml hv
  obtain ⟨rfl, hP, hK⟩ := hv
  have hts := atoms_spec (ws := jv_ws T y) B.pre
  have hown := findClass_of_methodNamed B.named
  have hin := (name_of_methodNamed B.named B.method).1
  have hl := lv_entry (As.map (jv_tr E.1)) (n := jv_mL T y) (by rw [jv_sl_len, jv_wd_tr]; exact hw)
  rw [jv_args_tr] at hl
  rw [lg_entry_eq]
  exact ih y 0 _ [] G n sl rv G' n' sl' h p e _ s m _ below meth c s.heap _ [] 0 0 ⟨B.exec, B.bytes, hml, hown, fun w h => hts w (List.mem_cons_of_mem _ h), hK, B.returns, B.notSynchronized, hin, rfl, rfl⟩ hl hP (fun z h => by cases h) (Nat.zero_add _) (Nat.zero_add _)
theorem jv_blind (E : jv_Env) (As : List Value) (G : jv_G) (n : Nat) : FrameBlind (jv_Pc E As G n) := fun a U g mk q => ⟨q.1, q.2.1, jv_K.moved (u := U) (U := U.calling g mk a) (Vm.Alike.refl U.vm) q.2.2⟩
section JV8
variable {p : Program} {l : Launch} {e : Env} {R : Room} {s : State} {m : MethodId} {args : Array Value} {below : List Frame} {meth : Method} {c : Code} {H : Heap} {locs : List Loc} {cells slots : Nat} {Q : State → Prop} {cc : ByteArray}
theorem jv_callW {E : jv_Env} {rv : Option Value} {G1 : jv_G} {n1 mc ms pc : Nat} {ls : Array Slot} {st0 rest : List Value} {a : Array Value} (hr : va_Run p l e R s m args below meth c H locs cells slots mc ms (F0 m pc ls st0) rest (jv_Qc E rv G1 n1 a) (jv_free E)) (hL : ∀ z ∈ locs, E.2.2.2.1 ≤ z.base)
    (kk : ∀ (H1 : Heap) (locs1 : List Loc), jv_pic E G1 n1 H1 → (∀ z ∈ locs1, E.2.2.2.1 ≤ z.base) → W p l e R s m args below meth c H1 locs1 (cells + mc) (slots + ms) Q (F0 m (pc + 3) ls ((rv.map (jv_tr E.1)).toList ++ rest))) : W p l e R s m args below meth c H locs cells slots Q (F0 m pc ls st0) := by
  intro T hT X
  obtain ⟨v, st₀, t, T', L, h0, X', hL1, e1, e2, ⟨hv, hp⟩, st⟩ := hr T hT X
  cases hv
  obtain ⟨t2, a1, b1⟩ := kk T'.heap (locs ++ L) (by rw [e1]; exact hp) (fun z hz => (List.mem_append.mp hz).elim (hL z) (fun h => hL1 z h)) T' rfl X'
  exact ⟨t2, st t2 a1, b1⟩
theorem jv_tbl {T : jv_T} {y' n sl n' sl' b : Nat} {own : String} {q : Nat} {x : MethodName} (hts : ∀ w ∈ lw_ok, w.before args s = true) (hcode : Cond.code (jv_name T y') (jv_bytes T y') (jv_mL T y') (jv_rt T y') ∈ lw_ok) :
    (∀ w ∈ jv_ws T y', ∀ (a' : Array Value) (U : State), s.WarmedH U.vm → w.before a' U = true) := by
  intro w hw a' U hW
  have hok : ∀ w ∈ lw_ok, w.before a' U = true := fun w h => jv_okw_ok (List.mem_filter.mp h).2 (hts w h) hW
  rcases List.mem_cons.mp hw with rfl | h
  · exact hok _ hcode
  · exact hok w h
theorem jv_ret_ok {E : jv_Env} {rt : Option FieldType} {i : Instr} {st : List Value} {rv : Option Value} {G : jv_G} {n pc : Nat} {ls : Array Slot} (hx : p.tables.exec = Jvm.exec) (hb : c.code = cc) (hr : meth.sig.returnType = rt) (hlocks : meth.locks = false) (hq : jv_ret rt i st = some rv) (hdg : decode cc pc = .ok (i, 1)) (hP : jv_pic E G n H) (hL : ∀ z ∈ locs, E.2.2.2.1 ≤ z.base) :
    W p l e R s m args below meth c H locs cells slots (MQ below (jv_Qc E rv G n) args s cells slots (jv_free E)) (F0 m pc ls (st.map (jv_tr E.1))) := by
  cases i
  case ireturn =>
    simp only [jv_ret] at hq
    split at hq
    · rename_i x
      split at hq
      · cases hq
        exact W.zret hx hb hr rfl (fun t ht _ => ⟨rfl, by rw [ht]; exact hP⟩) hL hdg hlocks
      · split at hq
        · rename_i hc
          cases hq
          refine W.zret hx hb hr ?_ (fun t ht _ => ⟨rfl, by rw [ht]; exact hP⟩) hL hdg hlocks
          rcases hc with h | h
          · subst h; exact (by decide +kernel : narrow .boolean (.int 0) = .int 0)
          · subst h; exact (by decide +kernel : narrow .boolean (.int 1) = .int 1)
        · cases hq
      · split at hq
        · rename_i hc
          cases hq
          refine W.zret hx hb hr ?_ (fun t ht _ => ⟨rfl, by rw [ht]; exact hP⟩) hL hdg hlocks
          show Value.int x.toInt8.toInt32 = Value.int x
          rw [hc]
        · cases hq
      · cases hq
    · cases hq
  case lreturn =>
    simp only [jv_ret] at hq
    split at hq
    · split at hq
      · cases hq
        exact W.lret hx hb hr (fun t ht _ => ⟨rfl, by rw [ht]; exact hP⟩) hL hdg hlocks
      · cases hq
    · cases hq
  case areturn =>
    simp only [jv_ret] at hq
    split at hq
    · split at hq
      · cases hq
        exact W.aret hx hb hr (Or.inl ⟨_, rfl⟩) (Or.inr ⟨_, rfl⟩) (fun t ht _ => ⟨rfl, by rw [ht]; exact hP⟩) hL hdg hlocks
      · cases hq
        exact W.aret hx hb hr (Or.inr ⟨_, rfl⟩) (Or.inr ⟨_, rfl⟩) (fun t ht _ => ⟨rfl, by rw [ht]; exact hP⟩) hL hdg hlocks
      · cases hq
    · split at hq
      · cases hq
        exact W.aret hx hb hr (Or.inl ⟨_, rfl⟩) (Or.inl rfl) (fun t ht _ => ⟨rfl, by rw [ht]; exact hP⟩) hL hdg hlocks
      · cases hq
        exact W.aret hx hb hr (Or.inr ⟨_, rfl⟩) (Or.inl rfl) (fun t ht _ => ⟨rfl, by rw [ht]; exact hP⟩) hL hdg hlocks
      · cases hq
    · cases hq
  case return_ =>
    simp only [jv_ret] at hq
    split at hq
    · split at hq
      · cases hq
        exact W.vret hx hb hr (fun t ht _ => ⟨rfl, by rw [ht]; exact hP⟩) hL hdg hlocks
      · cases hq
    · cases hq
  all_goals (simp only [jv_ret] at hq; cases hq)
/-- one cell more -/
theorem jv_pic_push {E : jv_Env} {G : jv_G} {n : Nat} {H1 : Heap} (hE : jv_EOk E) (hP : jv_pic E G n H) (hn : n < 1000000) {x : jv_E} (hat : jv_at E H1 n x) (hsz : H1.size = H.size + 1) (hq : ∀ q, q < H.size → H1[q]? = H[q]?) : jv_pic E (jv_set G n x) (n + 1) H1 := by
  have hs := hP.1
  refine ⟨by omega, fun q hlt => (hq q (by omega)).trans (hP.2.1 q hlt), fun a z hz => ?_, by omega⟩
  by_cases han : a = n
  · subst han
    rw [jv_set_self] at hz
    cases hz
    exact ⟨hat, Or.inr (Nat.lt_succ_self _)⟩
  · rw [jv_set_ne G x han] at hz
    obtain ⟨g1, g2⟩ := hP.2.2.1 a z hz
    refine ⟨jv_at_kept g1 (fun h110 => hq _ ?_), g2.elim Or.inl (fun h => Or.inr (by omega))⟩
    have := jv_pic_lt hE hP hz h110
    omega
theorem jv_new_ok {E : jv_Env} {G : jv_G} {n a pc len : Nat} {i : Instr} {st st' : List Value} {x : jv_E} {k : Nat} {own : String} {ls : Array Slot} (hE : jv_EOk E) (hx : p.tables.exec = Jvm.exec) (hb : c.code = cc) (hown : s.vm.findClass own = some m.cls) (hts : ∀ w ∈ lw_ok, w.before args s = true) (hK : jv_K E s) (hP : jv_pic E G n H) (hn : n < 1000000)
    (hq : jv_new i a st n = some (st', x, k)) (hdg : decode cc pc = .ok (i, len))
    (hlk : jv_nlk own i a len)
    (hcells : cells + 1 ≤ R.cells) (hslots : slots + k ≤ R.slots)
    (kk : ∀ H1 : Heap, jv_pic E (jv_set G n x) (n + 1) H1 → W p l e R s m args below meth c H1 locs (cells + 1) (slots + k) Q (F0 m (pc + len) ls (st'.map (jv_tr E.1)))) :
    W p l e R s m args below meth c H locs cells slots Q (F0 m pc ls (st.map (jv_tr E.1))) := by
  have hfn : E.1 n = H.size := by rw [hE.1 n hn, hP.1]
  cases i
  case new q =>
    simp only [jv_new, Option.some.injEq, Prod.mk.injEq] at hq
    obtain ⟨rfl, rfl, rfl⟩ := hq
    obtain ⟨rfl, r, hr, h1, h2, h3⟩ := hlk
    have hnf : jv_nf a = r.2.2 := by unfold jv_nf; rw [hr]
    obtain ⟨hin, hnm, hfd⟩ := jv_cls hr
    have hKn := hK.1.1 a _ hr
    rw [hnf] at hslots kk
    refine W.newcK hx hb hown (hts _ h1) (hts _ h2) (hts _ h3) rfl hdg hcells hslots hKn.2.1 rfl fun H1 kC hkC e1 z1 o1 => ?_
    have := kk H1 (jv_pic_push hE hP hn ⟨fun _ => ⟨r, hr, rfl, ?_⟩, fun h => absurd (show 100 ≤ a from h) (by have := jv_cl_lt hr; omega), fun h => absurd (show a = 110 from h) (by have := jv_cl_lt hr; omega)⟩ z1 o1)
    · rw [List.map_cons, show jv_tr E.1 (.ref n) = .ref H.size by rw [← hfn]; rfl] at this
      exact this
    · rw [hfn]
      exact (u_born (jv_ty a) hts hin hKn hkC e1 hfd).to (fun j hj => by
        show defaultValue (jv_ty a j) = jv_tr E.1 (defaultValue (jv_ty a j))
        cases jv_ty a j <;> rfl)
  case newarray t =>
    simp only [jv_new] at hq
    split at hq
    · rename_i v r
      by_cases hc : 0 ≤ v.toInt ∧ v.toInt ≤ 1000000
      · rw [if_pos hc] at hq
        simp only [Option.some.injEq, Prod.mk.injEq] at hq
        obtain ⟨rfl, rfl, rfl⟩ := hq
        obtain ⟨rfl, ht4, h1⟩ := hlk
        have hv0 : ¬ v < 0 := by rw [Int32.lt_iff_toInt_lt]; simp; omega
        have hvn : v.toNatClampNeg ≤ 1000000 := by have : v.toNatClampNeg = v.toInt.toNat := rfl; omega
        obtain ⟨hty, hcb⟩ : (jv_tys E.2.2.1)[jv_atk t]? = some (E.2.2.1 (jv_atk t), newarray.typeOf t) ∧ componentBytes (newarray.typeOf t) ≤ 8 := by
          cases t <;> first | exact ⟨rfl, by decide⟩ | exact absurd ht4 (by decide)
        refine va_newaK hx hb (hts _ h1) rfl hdg rfl hv0 rfl (Nat.le_trans (Nat.mul_le_mul hvn hcb) (by decide)) hcells hslots rfl fun H1 cA e1 z1 o1 hA hf => ?_
        have hcA : cA = E.2.2.1 (jv_atk t) := by
          have h2 := (hK.1.2 (jv_atk t) _ hty).2
          have h3 : s.vm.findClass ("[" ++ (newarray.typeOf t).toString) = some (E.2.2.1 (jv_atk t)) := by
            cases t <;> first | exact h2 | exact absurd ht4 (by decide)
          exact Option.some.inj (hf.symm.trans h3)
        subst hcA
        have := kk H1 (jv_pic_push hE hP hn ⟨fun h => absurd (show 100 + jv_atk t < 100 from h) (by omega), fun _ _ => ⟨?_, fun h101 j => ?_⟩, fun h => absurd (show 100 + jv_atk t = 110 from h) (by omega)⟩ z1 o1)
        · rw [List.map_cons, show jv_tr E.1 (.ref n) = .ref H.size by rw [← hfn]; rfl] at this
          exact this
        · show H1[E.1 n]? = some (arrV (E.2.2.1 (100 + jv_atk t - 100)) v.toNatClampNeg (fun j => jv_tr E.1 (defaultValue (newarray.typeOf t))))
          rw [hfn, Nat.add_sub_cancel_left, show (fun j : Nat => jv_tr E.1 (defaultValue (newarray.typeOf t))) = fun _ => defaultValue (newarray.typeOf t) from funext fun _ => by cases t <;> rfl]
          exact e1
        · have h101 : 100 + jv_atk t = 101 := h101
          cases t <;> first | exact absurd h101 (by decide) | rfl
      · rw [if_neg hc] at hq; cases hq
    · cases hq
  case anewarray q =>
    simp only [jv_new] at hq
    split at hq
    · rename_i v r
      by_cases hc : 0 ≤ v.toInt ∧ v.toInt ≤ 1000000
      · rw [if_pos hc] at hq
        simp only [Option.some.injEq, Prod.mk.injEq] at hq
        obtain ⟨rfl, rfl, rfl⟩ := hq
        obtain ⟨rfl, ha1, ha2, hC⟩ := hlk
        have hv0 : ¬ v < 0 := by rw [Int32.lt_iff_toInt_lt]; simp; omega
        have hvn : v.toNatClampNeg ≤ 1000000 := by have : v.toNatClampNeg = v.toInt.toNat := rfl; omega
        obtain ⟨C, hty, hty0⟩ : ∃ C, (jv_tys E.2.2.1)[a - 100]? = some (E.2.2.1 (a - 100), .object C) ∧ (jv_tys (fun _ => 0))[a - 100]? = some (0, .object C) := by
          rcases (show a = 104 ∨ a = 105 ∨ a = 106 ∨ a = 107 by omega) with h | h | h | h <;> subst h <;> exact ⟨_, rfl, rfl⟩
        obtain ⟨h1, h2⟩ := hC C hty0
        obtain ⟨kA0, comp0, k1, k2, k3, k4⟩ := (hK.1.2 (a - 100) _ hty).2
        refine W.anew hx hb hown (hts _ h1) (hts _ h2) rfl hdg rfl hv0 (by omega) hcells hslots fun cA kA comp g1 g2 g3 g4 => ?_
        have hcA : cA = E.2.2.1 (a - 100) := Option.some.inj (g1.symm.trans k4)
        subst hcA
        have := kk (H.push { cls := E.2.2.1 (a - 100), slots := Array.replicate v.toNatClampNeg .null, vm := .none }) (jv_pic_push hE hP hn ⟨fun h => absurd (show a < 100 from h) (by omega), fun _ _ => ⟨?_, fun h101 j => absurd (show a = 101 from h101) (by omega)⟩, fun h => absurd (show a = 110 from h) (by omega)⟩ (by simp) (fun q hq => by rw [Array.getElem?_push, if_neg (Nat.ne_of_lt hq)]))
        · rw [List.map_cons, show jv_tr E.1 (.ref n) = .ref H.size by rw [← hfn]; rfl] at this
          exact this
        · show (H.push _)[E.1 n]? = some (arrV (E.2.2.1 (a - 100)) v.toNatClampNeg (fun j => jv_tr E.1 .null))
          rw [hfn, Array.getElem?_push, if_pos rfl, arrV_new]
          rfl
      · rw [if_neg hc] at hq; cases hq
    · cases hq
  all_goals cases hlk
theorem jv_gets_ok {E : jv_Env} {G : jv_G} {n a pc len : Nat} {i : Instr} {own : String} {ls : Array Slot} {rest : List Value} (hx : p.tables.exec = Jvm.exec) (hb : c.code = cc) (hown : s.vm.findClass own = some m.cls) (hts : ∀ w ∈ lw_ok, w.before args s = true) (hK : jv_K E s) (hP : jv_pic E G n H)
    (hdg : decode cc pc = .ok (i, len)) (hlk : jv_lk9 own i len a)
    (kk : W p l e R s m args below meth c H locs cells slots Q (F0 m (pc + 3) ls (.ref (E.1 (1000000 + a)) :: rest))) :
    W p l e R s m args below meth c H locs cells slots Q (F0 m pc ls rest) := by
  unfold jv_lk9 at hlk
  split at hlk
  · rename_i q
    obtain ⟨rfl, ha, h1⟩ := hlk
    obtain ⟨cf, kf, fi, f, z, cell, g1, g2, g3, g4, g5, g6, g7, g8⟩ := (hK.2 a ha).1
    refine W.gets hx hb hown (hts _ h1) g1 g2 g3 g4 (by rw [hP.2.1 z (Nat.not_le.mp g8)]; exact g5) ?_ g7 rfl hdg kk
    intro h
    rw [h] at g6
    cases g6
  · cases hlk
theorem jv_nneg {z : Int32} (h : 0 ≤ z.toInt) : ¬ z < 0 := by rw [Int32.lt_iff_toInt_lt]; simp; omega
theorem jv_clamp {z : Int32} (h : 0 ≤ z.toInt) : z.toInt = (z.toNatClampNeg : Int) := by show z.toInt = ((z.toInt.toNat : Nat) : Int); omega
theorem jv_cp_ok {E : jv_Env} {G G' : jv_G} {n pc len fr lo : Nat} {i : Instr} {own : String} {ls : Array Slot} {st st' : List Value} (hE : jv_EOk E) (hx : p.tables.exec = Jvm.exec) (hb : c.code = cc) (hml : c.maxLocals = ls.size) (hown : s.vm.findClass own = some m.cls) (hts : ∀ w ∈ lw_ok, w.before args s = true) (hK : jv_K E s) (hP : jv_pic E G n H) (hL : ∀ z ∈ locs, E.2.2.2.1 ≤ z.base)
    (hfr : fr ≤ R.frames) (hlo : lo ≤ R.locals) (hq : jv_cp fr lo st G = some (st', G')) (hdg : decode cc pc = .ok (i, len)) (hlk : jv_lk10 own i len)
    (kk : ∀ (H1 : Heap) (locs1 : List Loc), jv_pic E G' n H1 → (∀ z ∈ locs1, E.2.2.2.1 ≤ z.base) → W p l e R s m args below meth c H1 locs1 cells slots Q (F0 m (pc + 3) ls (st'.map (jv_tr E.1)))) :
    W p l e R s m args below meth c H locs cells slots Q (F0 m pc ls (st.map (jv_tr E.1))) := by
  unfold jv_lk10 at hlk
  split at hlk
  · rename_i q
    obtain ⟨rfl, w1, w2, w3, w4⟩ := hlk
    unfold jv_cp at hq
    split at hq
    · rename_i nn dp d sp b r
      split at hq
      · rename_i k0 len0 V0 hb0
        split at hq
        · rename_i k1 len1 V1 hd0
          cases hc : (Nat.beq k0 101 && (Nat.beq k1 101 && (Nat.ble 1 fr && Nat.ble (jv_wd r + 18) lo))) with
          | false => rw [hc] at hq; cases hq
          | true =>
            rw [hc] at hq
            simp only [cond_true] at hq
            split at hq
            · rename_i hcc
              obtain ⟨c1, c2, c3, c4, c5⟩ := hcc
              simp only [Option.some.injEq, Prod.mk.injEq] at hq
              obtain ⟨rfl, rfl⟩ := hq
              simp only [Bool.and_eq_true] at hc
              have hk0 := Nat.eq_of_beq_eq_true hc.1
              have hk1 := Nat.eq_of_beq_eq_true hc.2.1
              have hf1 := Nat.le_of_ble_eq_true hc.2.2.1
              have hf2 := Nat.le_of_ble_eq_true hc.2.2.2
              subst hk0; subst hk1
              have a0 := jv_arr_at hP hb0 (by decide) (by decide)
              have a1 := jv_arr_at hP hd0 (by decide) (by decide)
              have f0 := ((hP.2.2.1 b _ hb0).1.2.1 (by show (100 : Nat) ≤ 101; decide) (by show (101 : Nat) < 108; decide)).2 rfl
              have f1 := ((hP.2.2.1 d _ hd0).1.2.1 (by show (100 : Nat) ≤ 101; decide) (by show (101 : Nat) < 108; decide)).2 rfl
              have t0 : ∀ j, jv_tr E.1 (V0 j) = V0 j := by
                intro j
                have := f0 j
                dsimp only at this
                cases hv : V0 j <;> rw [hv] at this <;> first | rfl | cases this
              have z1 := jv_clamp c1
              have z2 := jv_clamp c2
              have z3 := jv_clamp c3
              have h4 : sp.toNatClampNeg + nn.toNatClampNeg ≤ len0 := by omega
              have h5 : dp.toNatClampNeg + nn.toNatClampNeg ≤ len1 := by omega
              have hloc : ((r.map (jv_tr E.1)).map fun v => v.category).sum + (nativeFrameWords "java/lang/System" "arraycopy" 5 + 11) ≤ R.locals := by
                have e1 := jv_wd_tr E.1 r
                unfold jv_wd at e1 hf2
                rw [e1, show nativeFrameWords "java/lang/System" "arraycopy" 5 = 7 by decide +kernel]
                omega
              have f2 : ∀ j, fits .byte (va_cpy V0 V1 sp.toNatClampNeg dp.toNatClampNeg nn.toNatClampNeg j) = true := by
                intro j
                unfold va_cpy
                split
                · exact f0 _
                · exact f1 _
              intro T hT X
              obtain ⟨-, k0, hk0, cm0, hkk0⟩ := jv_arrOf hK (t := 1) (ty := .byte) rfl len0 (fun j => jv_tr E.1 (V0 j))
              obtain ⟨-, k1, hk1, cm1, hkk1⟩ := jv_arrOf hK (t := 1) (ty := .byte) rfl len1 (fun j => jv_tr E.1 (V1 j))
              obtain ⟨vm', X', step⟩ := X.arraycopy hx hown (hts _ w1) (hts _ w2) (hts _ w3) (hts _ w4) (src := E.1 b) (dst := E.1 d) (srcPos := sp) (destPos := dp) (n := nn) (by rw [hT]; exact a0) (by rw [hT]; exact a1)
                (fun _ h => by cases h) (fun _ h => by cases h) (fun h => by cases h) (fun h => by cases h) hk0 hk1 hkk0 hkk1 (by decide) (jv_nneg c1) (jv_nneg c2) (jv_nneg c3)
                (by show ¬ _ > ((arrV _ len0 _).slots.size : Int); rw [arrV_size]; omega)
                (by show ¬ _ > ((arrV _ len1 _).slots.size : Int); rw [arrV_size]; omega)
                (fun vm₁ _ j hj => by
                  have ej : (arrV (E.2.2.1 (101 - 100)) len0 (fun j => jv_tr E.1 (V0 j))).slots.getD (sp.toNatClampNeg + j) .null = V0 (sp.toNatClampNeg + j) := by
                    rw [Array.getD_eq_getD_getElem?, arrV_read _ _ (by omega)]
                    exact t0 _
                  refine ⟨?_, ?_⟩
                  · rw [ej]; exact f0 _
                  · rw [ej]
                    have := f0 (sp.toNatClampNeg + j)
                    dsimp only at this
                    cases hv : V0 (sp.toNatClampNeg + j) <;> rw [hv] at this <;> first | exact trivial | cases this)
                (g := F0 m pc ls (.int nn :: .int dp :: .ref (E.1 d) :: .int sp :: .ref (E.1 b) :: r.map (jv_tr E.1))) rfl (by rw [hml]) (rest := r.map (jv_tr E.1)) rfl (by rw [hb]; exact hdg) (by omega) (by show 2 * 0 + _ + _ ≤ _; omega)
              have e1 : copied (arrV (E.2.2.1 (101 - 100)) len0 (fun j => jv_tr E.1 (V0 j))) (arrV (E.2.2.1 (101 - 100)) len1 (fun j => jv_tr E.1 (V1 j))) sp dp nn = arrV (E.2.2.1 (101 - 100)) len1 (fun j => jv_tr E.1 (va_cpy V0 V1 sp.toNatClampNeg dp.toNatClampNeg nn.toNatClampNeg j)) := va_copied (fun v => jv_tr E.1 v) _ _ V0 V1 h4
              rw [e1] at X' step
              have hl : E.1 d < H.size := (Array.getElem?_eq_some_iff.mp a1).1
              have hheap : ((T.setVm vm').setCell (E.1 d) (arrV (E.2.2.1 (101 - 100)) len1 (fun j => jv_tr E.1 (va_cpy V0 V1 sp.toNatClampNeg dp.toNatClampNeg nn.toNatClampNeg j)))).heap = H.setIfInBounds (E.1 d) (arrV (E.2.2.1 (101 - 100)) len1 (fun j => jv_tr E.1 (va_cpy V0 V1 sp.toNatClampNeg dp.toNatClampNeg nn.toNatClampNeg j))) := by rw [← hT]; rfl
              obtain ⟨t, b1, b2⟩ := kk _ _ (jv_pic_set (H1 := H.setIfInBounds (E.1 d) (arrV (E.2.2.1 (101 - 100)) len1 (fun j => jv_tr E.1 (va_cpy V0 V1 sp.toNatClampNeg dp.toNatClampNeg nn.toNatClampNeg j)))) hE hP hd0 (by show (101 : Nat) ≠ 110; decide) (by show (101 : Nat) ≠ 110; decide) ⟨fun h => absurd (show (101 : Nat) < 100 from h) (by decide), fun _ _ => ⟨by show (H.setIfInBounds _ _)[_]? = some _; simp [Array.getElem?_setIfInBounds, hl], fun _ j => f2 j⟩, fun h => absurd (show (101 : Nat) = 110 from h) (by decide)⟩ (by simp) (fun z hz => by simp [Array.getElem?_setIfInBounds, Ne.symm hz])) (fun z hz => by
                  rcases List.mem_append.mp hz with h | h
                  · exact hL z h
                  · obtain ⟨u, -, hu⟩ := List.mem_map.mp h
                    rw [← hu, (jv_pic_lt hE hP hd0 (by show (101 : Nat) ≠ 110; decide)).1]
                    exact Nat.le_add_right _ _) _ hheap X'
              exact ⟨t, step t b1, b2⟩
            · cases hq
        · cases hq
      · cases hq
    · cases hq
  · cases hlk
end JV8
