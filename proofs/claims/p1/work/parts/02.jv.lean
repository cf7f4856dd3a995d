/-! THE SMALL MACHINE (jv_): an interpreter over abstract cells, one row an instruction; part 02: locals, pure instructions -/
abbrev jv_L : Type := List (Nat × Value)
/-- addresses of the abstract heap are numbers from 0 on; f says where a cell lies -/
def jv_tr (f : Nat → Nat) (v : Value) : Value := match v with
  | .ref a => .ref (f a)
  | w => w
def jv_trL (f : Nat → Nat) (l : jv_L) : jv_L := l.map (fun q => (q.1, jv_tr f q.2))
def jv_get : jv_L → Nat → Option Value
  | [], _ => none
  | q :: r, i => bif Nat.beq q.1 i then some q.2 else jv_get r i
def jv_put1 (l : jv_L) (i : Nat) (v : Value) : jv_L := (i, v) :: l.filter (fun q => !(q.1 == i) && !(q.1 + 1 == i && q.2.category == 2))
def jv_put2 (l : jv_L) (i : Nat) (v : Value) : jv_L := (i, v) :: l.filter (fun q => !(q.1 == i) && (!(q.1 == i + 1) && !(q.1 + 1 == i && q.2.category == 2)))
theorem jv_tr_cat (f : Nat → Nat) (v : Value) : (jv_tr f v).category = v.category := by cases v <;> rfl
theorem jv_trL_filter (f : Nat → Nat) (l : jv_L) (g : Nat → Nat → Bool) : (jv_trL f l).filter (fun q => g q.1 q.2.category) = jv_trL f (l.filter (fun q => g q.1 q.2.category)) := by
  induction l with
  | nil => rfl
  | cons a r ih =>
    simp only [jv_trL, List.map_cons, List.filter_cons, jv_tr_cat] at ih ⊢
    split <;> simp_all
theorem jv_put1_tr (f : Nat → Nat) (l : jv_L) (i : Nat) (v : Value) : jv_trL f (jv_put1 l i v) = (i, jv_tr f v) :: (jv_trL f l).filter (fun q => !(q.1 == i) && !(q.1 + 1 == i && q.2.category == 2)) := by
  rw [jv_trL_filter f l (fun a b => !(a == i) && !(a + 1 == i && b == 2))]
  rfl
theorem jv_put2_tr (f : Nat → Nat) (l : jv_L) (i : Nat) (v : Value) : jv_trL f (jv_put2 l i v) = (i, jv_tr f v) :: (jv_trL f l).filter (fun q => !(q.1 == i) && (!(q.1 == i + 1) && !(q.1 + 1 == i && q.2.category == 2))) := by
  rw [jv_trL_filter f l (fun a b => !(a == i) && (!(a == i + 1) && !(a + 1 == i && b == 2)))]
  rfl
theorem jv_get_mem {l : jv_L} {i : Nat} {v : Value} (h : jv_get l i = some v) : (i, v) ∈ l := by
  induction l with
  | nil => cases h
  | cons q r ih =>
    simp only [jv_get] at h
    cases hq : Nat.beq q.1 i with
    | true =>
      rw [hq] at h
      simp only [cond_true, Option.some.injEq] at h
      have := Nat.eq_of_beq_eq_true hq
      subst this; subst h
      exact List.mem_cons_self
    | false =>
      rw [hq] at h
      simp only [cond_false] at h
      exact List.mem_cons_of_mem _ (ih h)
theorem jv_get_has {f : Nat → Nat} {ls : Array Slot} {nL : Nat} {l : jv_L} (h : lv_has ls nL (jv_trL f l)) {i : Nat} {v : Value} (hg : jv_get l i = some v) : ls[i]? = some (.val (jv_tr f v)) :=
  h.2.2 (i, jv_tr f v) (List.mem_map.mpr ⟨(i, v), jv_get_mem hg, rfl⟩)
theorem jv_get_idx {f : Nat → Nat} {l : jv_L} {i : Nat} {v : Value} (hg : jv_get l i = some v) : ∃ k : Nat, (jv_trL f l)[k]? = some (i, jv_tr f v) :=
  List.getElem?_of_mem (List.mem_map.mpr ⟨(i, v), jv_get_mem hg, rfl⟩)

/-- what a pure instruction makes of locals and stack; nL: how many locals; c: the constant of an ldc -/
def jv_pure (nL : Nat) (i : Instr) (c : Int) (l : jv_L) (st : List Value) : Option (jv_L × List Value) := match i with
  | .iconst n => some (l, .int (Int32.ofInt n) :: st)
  | .bipush n => some (l, .int (Int8.ofInt n).toInt32 :: st)
  | .sipush n => some (l, .int (Int16.ofInt n).toInt32 :: st)
  | .lconst n => some (l, .long (Int64.ofNat (n : Nat)) :: st)
  | .aconst_null => some (l, .null :: st)
  | .iadd => match st with | .int y :: .int x :: r => some (l, .int (x + y) :: r) | _ => none
  | .isub => match st with | .int y :: .int x :: r => some (l, .int (x - y) :: r) | _ => none
  | .imul => match st with | .int y :: .int x :: r => some (l, .int (x * y) :: r) | _ => none
  | .iand => match st with | .int y :: .int x :: r => some (l, .int (x &&& y) :: r) | _ => none
  | .ior => match st with | .int y :: .int x :: r => some (l, .int (x ||| y) :: r) | _ => none
  | .ixor => match st with | .int y :: .int x :: r => some (l, .int (x ^^^ y) :: r) | _ => none
  | .ishl => match st with | .int y :: .int x :: r => some (l, .int (x <<< (y &&& 31)) :: r) | _ => none
  | .ishr => match st with | .int y :: .int x :: r => some (l, .int (x >>> (y &&& 31)) :: r) | _ => none
  | .iushr => match st with | .int y :: .int x :: r => some (l, .int ((x.toUInt32 >>> (y.toUInt32 &&& Int32.toUInt32 31)).toInt32) :: r) | _ => none
  | .idiv => match st with | .int y :: .int x :: r => if ¬ y = 0 then some (l, .int (x / y) :: r) else none | _ => none
  | .irem => match st with | .int y :: .int x :: r => if ¬ y = 0 then some (l, .int (x - x / y * y) :: r) else none | _ => none
  | .ineg => match st with | .int x :: r => some (l, .int (-x) :: r) | _ => none
  | .ladd => match st with | .long y :: .long x :: r => some (l, .long (x + y) :: r) | _ => none
  | .lsub => match st with | .long y :: .long x :: r => some (l, .long (x - y) :: r) | _ => none
  | .lmul => match st with | .long y :: .long x :: r => some (l, .long (x * y) :: r) | _ => none
  | .land => match st with | .long y :: .long x :: r => some (l, .long (x &&& y) :: r) | _ => none
  | .lor => match st with | .long y :: .long x :: r => some (l, .long (x ||| y) :: r) | _ => none
  | .lxor => match st with | .long y :: .long x :: r => some (l, .long (x ^^^ y) :: r) | _ => none
  | .ldiv => match st with | .long y :: .long x :: r => if ¬ y = 0 then some (l, .long (x / y) :: r) else none | _ => none
  | .lrem => match st with | .long y :: .long x :: r => if ¬ y = 0 then some (l, .long (x - x / y * y) :: r) else none | _ => none
  | .lneg => match st with | .long x :: r => some (l, .long (-x) :: r) | _ => none
  | .lshl => match st with | .int y :: .long x :: r => some (l, .long (x <<< (y.toInt64 &&& 63)) :: r) | _ => none
  | .lshr => match st with | .int y :: .long x :: r => some (l, .long (x >>> (y.toInt64 &&& 63)) :: r) | _ => none
  | .lushr => match st with | .int y :: .long x :: r => some (l, .long ((x.toUInt64 >>> (y.toInt64.toUInt64 &&& Int64.toUInt64 63)).toInt64) :: r) | _ => none
  | .lcmp => match st with | .long y :: .long x :: r => some (l, .int (lg_cmp x y) :: r) | _ => none
  | .i2l => match st with | .int x :: r => some (l, .long x.toInt64 :: r) | _ => none
  | .l2i => match st with | .long x :: r => some (l, .int x.toInt32 :: r) | _ => none
  | .i2b => match st with | .int x :: r => some (l, .int x.toInt8.toInt32 :: r) | _ => none
  | .i2s => match st with | .int x :: r => some (l, .int x.toInt16.toInt32 :: r) | _ => none
  | .dup => match st with | v :: r => if v.category = 1 then some (l, v :: v :: r) else none | _ => none
  | .pop => match st with | v :: r => if v.category = 1 then some (l, r) else none | _ => none
  | .dup2 => match st with | v :: u :: r => if v.category = 1 ∧ u.category = 1 then some (l, v :: u :: v :: u :: r) else none | _ => none
  | .iload i => match jv_get l i with | some (.int x) => some (l, .int x :: st) | _ => none
  | .iload_n i => match jv_get l (i : Nat) with | some (.int x) => some (l, .int x :: st) | _ => none
  | .lload i => match jv_get l i with | some (.long x) => some (l, .long x :: st) | _ => none
  | .lload_n i => match jv_get l (i : Nat) with | some (.long x) => some (l, .long x :: st) | _ => none
  | .aload i => match jv_get l i with | some (.ref x) => some (l, .ref x :: st) | some .null => some (l, .null :: st) | _ => none
  | .aload_n i => match jv_get l (i : Nat) with | some (.ref x) => some (l, .ref x :: st) | some .null => some (l, .null :: st) | _ => none
  | .istore i => match st with | .int x :: r => if i < nL then some (jv_put1 l i (.int x), r) else none | _ => none
  | .istore_n i => match st with | .int x :: r => if (i : Nat) < nL then some (jv_put1 l (i : Nat) (.int x), r) else none | _ => none
  | .lstore i => match st with | .long x :: r => if i + 1 < nL then some (jv_put2 l i (.long x), r) else none | _ => none
  | .lstore_n i => match st with | .long x :: r => if (i : Nat) + 1 < nL then some (jv_put2 l (i : Nat) (.long x), r) else none | _ => none
  | .astore i => match st with | .ref x :: r => if i < nL then some (jv_put1 l i (.ref x), r) else none | .null :: r => if i < nL then some (jv_put1 l i .null, r) else none | _ => none
  | .astore_n i => match st with | .ref x :: r => if (i : Nat) < nL then some (jv_put1 l (i : Nat) (.ref x), r) else none | .null :: r => if (i : Nat) < nL then some (jv_put1 l (i : Nat) .null, r) else none | _ => none
  | .iinc i n => match jv_get l i with | some (.int x) => if i < nL then some (jv_put1 l i (.int (x + Int32.ofInt n)), st) else none | _ => none
  | .ldc _ => some (l, .int (Int32.ofInt c) :: st)
  | .ldc_w _ => some (l, .int (Int32.ofInt c) :: st)
  | .ldc2_w _ => some (l, .long (Int64.ofInt c) :: st)
  | _ => none
/-- how long a pure instruction is -/
def jv_len (i : Instr) : Nat := match i with
  | .bipush _ => 2
  | .iload _ => 2
  | .lload _ => 2
  | .aload _ => 2
  | .istore _ => 2
  | .lstore _ => 2
  | .astore _ => 2
  | .ldc _ => 2
  | .sipush _ => 3
  | .iinc _ _ => 3
  | .ldc2_w _ => 3
  | .ldc_w _ => 3
  | _ => 1
section JV2
variable {p : Program} {l : Launch} {e : Env} {R : Room} {s : State} {m : MethodId} {args : Array Value} {below : List Frame} {meth : Method} {c : Code} {H : Heap} {locs : List Loc} {cells slots : Nat} {Q : State → Prop} {cc : ByteArray}
/-- what an ldc's entry says -/
def jv_cst (args : Array Value) (s : State) (own : String) (i : Instr) (k : Int) : Prop := match i with
  | .ldc q => (Jvm.Cond.constant own q (Int32.ofInt k)).before args s = true
  | .ldc_w q => (Jvm.Cond.constant own q (Int32.ofInt k)).before args s = true
  | .ldc2_w q => (Jvm.Cond.constantLong own q (Int64.ofInt k)).before args s = true
  | _ => True
set_option maxHeartbeats 4000000 in
set_option maxRecDepth 100000 in
theorem jv_pure_ok {f : Nat → Nat} {own : String} {nL pc : Nat} {i : Instr} {k : Int} {lo lo' : jv_L} {st st' : List Value} {ls : Array Slot} (hx : p.tables.exec = Jvm.exec) (hb : c.code = cc) (hown : s.vm.findClass own = some m.cls)
    (hq : jv_pure nL i k lo st = some (lo', st')) (hdg : decode cc pc = .ok (i, jv_len i)) (hk : jv_cst args s own i k) (h : lv_has ls nL (jv_trL f lo))
    (kk : ∀ ls' : Array Slot, lv_has ls' nL (jv_trL f lo') → W p l e R s m args below meth c H locs cells slots Q (F0 m (pc + jv_len i) ls' (st'.map (jv_tr f)))) :
    W p l e R s m args below meth c H locs cells slots Q (F0 m pc ls (st.map (jv_tr f))) := by
  cases i
  case iconst n =>
    simp only [jv_pure] at hq
    simp only [Option.some.injEq, Prod.mk.injEq] at hq
    obtain ⟨rfl, rfl⟩ := hq
    exact lv_iconst hx hb hdg rfl (kk _ h)
  case bipush n =>
    simp only [jv_pure] at hq
    simp only [Option.some.injEq, Prod.mk.injEq] at hq
    obtain ⟨rfl, rfl⟩ := hq
    exact lv_bipush hx hb hdg rfl (kk _ h)
  case sipush n =>
    simp only [jv_pure] at hq
    simp only [Option.some.injEq, Prod.mk.injEq] at hq
    obtain ⟨rfl, rfl⟩ := hq
    exact lv_sipush hx hb hdg rfl (kk _ h)
  case lconst n =>
    simp only [jv_pure] at hq
    simp only [Option.some.injEq, Prod.mk.injEq] at hq
    obtain ⟨rfl, rfl⟩ := hq
    exact lv_lconst hx hb hdg rfl (kk _ h)
  case aconst_null =>
    simp only [jv_pure] at hq
    simp only [Option.some.injEq, Prod.mk.injEq] at hq
    obtain ⟨rfl, rfl⟩ := hq
    exact lv_null hx hb hdg (kk _ h)
  case iadd =>
    simp only [jv_pure] at hq
    split at hq
    · simp only [Option.some.injEq, Prod.mk.injEq] at hq
      obtain ⟨rfl, rfl⟩ := hq
      exact lv_iadd hx hb hdg (kk _ h)
    · cases hq
  case isub =>
    simp only [jv_pure] at hq
    split at hq
    · simp only [Option.some.injEq, Prod.mk.injEq] at hq
      obtain ⟨rfl, rfl⟩ := hq
      exact lv_isub hx hb hdg (kk _ h)
    · cases hq
  case imul =>
    simp only [jv_pure] at hq
    split at hq
    · simp only [Option.some.injEq, Prod.mk.injEq] at hq
      obtain ⟨rfl, rfl⟩ := hq
      exact lv_imul hx hb hdg (kk _ h)
    · cases hq
  case iand =>
    simp only [jv_pure] at hq
    split at hq
    · simp only [Option.some.injEq, Prod.mk.injEq] at hq
      obtain ⟨rfl, rfl⟩ := hq
      exact lv_iand hx hb hdg (kk _ h)
    · cases hq
  case ior =>
    simp only [jv_pure] at hq
    split at hq
    · simp only [Option.some.injEq, Prod.mk.injEq] at hq
      obtain ⟨rfl, rfl⟩ := hq
      exact lv_ior hx hb hdg (kk _ h)
    · cases hq
  case ixor =>
    simp only [jv_pure] at hq
    split at hq
    · simp only [Option.some.injEq, Prod.mk.injEq] at hq
      obtain ⟨rfl, rfl⟩ := hq
      exact lv_ixor hx hb hdg (kk _ h)
    · cases hq
  case ishl =>
    simp only [jv_pure] at hq
    split at hq
    · simp only [Option.some.injEq, Prod.mk.injEq] at hq
      obtain ⟨rfl, rfl⟩ := hq
      exact lv_ishl hx hb hdg (kk _ h)
    · cases hq
  case ishr =>
    simp only [jv_pure] at hq
    split at hq
    · simp only [Option.some.injEq, Prod.mk.injEq] at hq
      obtain ⟨rfl, rfl⟩ := hq
      exact lv_ishr hx hb hdg (kk _ h)
    · cases hq
  case iushr =>
    simp only [jv_pure] at hq
    split at hq
    · simp only [Option.some.injEq, Prod.mk.injEq] at hq
      obtain ⟨rfl, rfl⟩ := hq
      exact lv_iushr hx hb hdg rfl (kk _ h)
    · cases hq
  case idiv =>
    simp only [jv_pure] at hq
    split at hq
    · split at hq
      · rename_i hc
        simp only [Option.some.injEq, Prod.mk.injEq] at hq
        obtain ⟨rfl, rfl⟩ := hq
        exact lv_idiv hx hb hdg hc (kk _ h)
      · cases hq
    · cases hq
  case irem =>
    simp only [jv_pure] at hq
    split at hq
    · split at hq
      · rename_i hc
        simp only [Option.some.injEq, Prod.mk.injEq] at hq
        obtain ⟨rfl, rfl⟩ := hq
        exact lv_irem hx hb hdg hc (kk _ h)
      · cases hq
    · cases hq
  case ineg =>
    simp only [jv_pure] at hq
    split at hq
    · simp only [Option.some.injEq, Prod.mk.injEq] at hq
      obtain ⟨rfl, rfl⟩ := hq
      exact lv_ineg hx hb hdg (kk _ h)
    · cases hq
  case ladd =>
    simp only [jv_pure] at hq
    split at hq
    · simp only [Option.some.injEq, Prod.mk.injEq] at hq
      obtain ⟨rfl, rfl⟩ := hq
      exact lv_ladd hx hb hdg (kk _ h)
    · cases hq
  case lsub =>
    simp only [jv_pure] at hq
    split at hq
    · simp only [Option.some.injEq, Prod.mk.injEq] at hq
      obtain ⟨rfl, rfl⟩ := hq
      exact lv_lsub hx hb hdg (kk _ h)
    · cases hq
  case lmul =>
    simp only [jv_pure] at hq
    split at hq
    · simp only [Option.some.injEq, Prod.mk.injEq] at hq
      obtain ⟨rfl, rfl⟩ := hq
      exact lv_lmul hx hb hdg (kk _ h)
    · cases hq
  case land =>
    simp only [jv_pure] at hq
    split at hq
    · simp only [Option.some.injEq, Prod.mk.injEq] at hq
      obtain ⟨rfl, rfl⟩ := hq
      exact lv_land hx hb hdg (kk _ h)
    · cases hq
  case lor =>
    simp only [jv_pure] at hq
    split at hq
    · simp only [Option.some.injEq, Prod.mk.injEq] at hq
      obtain ⟨rfl, rfl⟩ := hq
      exact lv_lor hx hb hdg (kk _ h)
    · cases hq
  case lxor =>
    simp only [jv_pure] at hq
    split at hq
    · simp only [Option.some.injEq, Prod.mk.injEq] at hq
      obtain ⟨rfl, rfl⟩ := hq
      exact lv_lxor hx hb hdg (kk _ h)
    · cases hq
  case ldiv =>
    simp only [jv_pure] at hq
    split at hq
    · split at hq
      · rename_i hc
        simp only [Option.some.injEq, Prod.mk.injEq] at hq
        obtain ⟨rfl, rfl⟩ := hq
        exact lv_ldiv hx hb hdg hc (kk _ h)
      · cases hq
    · cases hq
  case lrem =>
    simp only [jv_pure] at hq
    split at hq
    · split at hq
      · rename_i hc
        simp only [Option.some.injEq, Prod.mk.injEq] at hq
        obtain ⟨rfl, rfl⟩ := hq
        exact lv_lrem hx hb hdg hc (kk _ h)
      · cases hq
    · cases hq
  case lneg =>
    simp only [jv_pure] at hq
    split at hq
    · simp only [Option.some.injEq, Prod.mk.injEq] at hq
      obtain ⟨rfl, rfl⟩ := hq
      exact lv_lneg hx hb hdg (kk _ h)
    · cases hq
  case lshl =>
    simp only [jv_pure] at hq
    split at hq
    · simp only [Option.some.injEq, Prod.mk.injEq] at hq
      obtain ⟨rfl, rfl⟩ := hq
      exact lv_lshl hx hb hdg rfl (kk _ h)
    · cases hq
  case lshr =>
    simp only [jv_pure] at hq
    split at hq
    · simp only [Option.some.injEq, Prod.mk.injEq] at hq
      obtain ⟨rfl, rfl⟩ := hq
      exact lv_lshr hx hb hdg rfl (kk _ h)
    · cases hq
  case lushr =>
    simp only [jv_pure] at hq
    split at hq
    · simp only [Option.some.injEq, Prod.mk.injEq] at hq
      obtain ⟨rfl, rfl⟩ := hq
      exact lv_lushr hx hb hdg rfl (kk _ h)
    · cases hq
  case lcmp =>
    simp only [jv_pure] at hq
    split at hq
    · simp only [Option.some.injEq, Prod.mk.injEq] at hq
      obtain ⟨rfl, rfl⟩ := hq
      exact W.lcmp hx hb hdg (kk _ h)
    · cases hq
  case i2l =>
    simp only [jv_pure] at hq
    split at hq
    · simp only [Option.some.injEq, Prod.mk.injEq] at hq
      obtain ⟨rfl, rfl⟩ := hq
      exact lv_i2l hx hb hdg rfl (kk _ h)
    · cases hq
  case l2i =>
    simp only [jv_pure] at hq
    split at hq
    · simp only [Option.some.injEq, Prod.mk.injEq] at hq
      obtain ⟨rfl, rfl⟩ := hq
      exact lv_l2i hx hb hdg rfl (kk _ h)
    · cases hq
  case i2b =>
    simp only [jv_pure] at hq
    split at hq
    · simp only [Option.some.injEq, Prod.mk.injEq] at hq
      obtain ⟨rfl, rfl⟩ := hq
      exact lv_i2b hx hb hdg rfl (kk _ h)
    · cases hq
  case i2s =>
    simp only [jv_pure] at hq
    split at hq
    · simp only [Option.some.injEq, Prod.mk.injEq] at hq
      obtain ⟨rfl, rfl⟩ := hq
      exact lv_i2s hx hb hdg rfl (kk _ h)
    · cases hq
  case dup =>
    simp only [jv_pure] at hq
    split at hq
    · split at hq
      · rename_i hc
        simp only [Option.some.injEq, Prod.mk.injEq] at hq
        obtain ⟨rfl, rfl⟩ := hq
        exact lv_dup hx hb hdg (by rw [jv_tr_cat]; exact hc) (kk _ h)
      · cases hq
    · cases hq
  case pop =>
    simp only [jv_pure] at hq
    split at hq
    · split at hq
      · rename_i hc
        simp only [Option.some.injEq, Prod.mk.injEq] at hq
        obtain ⟨rfl, rfl⟩ := hq
        exact lv_pop hx hb hdg (by rw [jv_tr_cat]; exact hc) (kk _ h)
      · cases hq
    · cases hq
  case dup2 =>
    simp only [jv_pure] at hq
    split at hq
    · split at hq
      · rename_i hc
        simp only [Option.some.injEq, Prod.mk.injEq] at hq
        obtain ⟨rfl, rfl⟩ := hq
        exact lv_dup2_11 hx hb hdg (by rw [jv_tr_cat]; exact hc.1) (by rw [jv_tr_cat]; exact hc.2) (kk _ h)
      · cases hq
    · cases hq
  case iload i =>
    simp only [jv_pure] at hq
    split at hq
    · rename_i hg
      simp only [Option.some.injEq, Prod.mk.injEq] at hq
      obtain ⟨rfl, rfl⟩ := hq
      exact lv_iload hx hb hdg (jv_get_has h hg) (kk _ h)
    · cases hq
  case iload_n i =>
    simp only [jv_pure] at hq
    split at hq
    · rename_i hg
      simp only [Option.some.injEq, Prod.mk.injEq] at hq
      obtain ⟨rfl, rfl⟩ := hq
      exact lv_iload_n hx hb hdg rfl (jv_get_has h hg) (kk _ h)
    · cases hq
  case lload i =>
    simp only [jv_pure] at hq
    split at hq
    · rename_i hg
      simp only [Option.some.injEq, Prod.mk.injEq] at hq
      obtain ⟨rfl, rfl⟩ := hq
      exact lv_lload hx hb hdg (jv_get_has h hg) (kk _ h)
    · cases hq
  case lload_n i =>
    simp only [jv_pure] at hq
    split at hq
    · rename_i hg
      simp only [Option.some.injEq, Prod.mk.injEq] at hq
      obtain ⟨rfl, rfl⟩ := hq
      exact lv_lload_n hx hb hdg rfl (jv_get_has h hg) (kk _ h)
    · cases hq
  case aload i =>
    simp only [jv_pure] at hq
    split at hq
    · rename_i hg
      simp only [Option.some.injEq, Prod.mk.injEq] at hq
      obtain ⟨rfl, rfl⟩ := hq
      exact lv_aload hx hb hdg (jv_get_has h hg) (kk _ h)
    · rename_i hg
      simp only [Option.some.injEq, Prod.mk.injEq] at hq
      obtain ⟨rfl, rfl⟩ := hq
      exact lv_aloadN hx hb hdg (jv_get_has h hg) (kk _ h)
    · cases hq
  case aload_n i =>
    simp only [jv_pure] at hq
    split at hq
    · rename_i hg
      simp only [Option.some.injEq, Prod.mk.injEq] at hq
      obtain ⟨rfl, rfl⟩ := hq
      exact lv_aload_n hx hb hdg rfl (jv_get_has h hg) (kk _ h)
    · rename_i hg
      simp only [Option.some.injEq, Prod.mk.injEq] at hq
      obtain ⟨rfl, rfl⟩ := hq
      exact lv_aload_nN hx hb hdg rfl (jv_get_has h hg) (kk _ h)
    · cases hq
  case istore i =>
    simp only [jv_pure] at hq
    split at hq
    · split at hq
      · rename_i hc
        simp only [Option.some.injEq, Prod.mk.injEq] at hq
        obtain ⟨rfl, rfl⟩ := hq
        exact lv_istore hx hb hdg h hc (by rw [jv_put1_tr]; rfl) kk
      · cases hq
    · cases hq
  case istore_n i =>
    simp only [jv_pure] at hq
    split at hq
    · split at hq
      · rename_i hc
        simp only [Option.some.injEq, Prod.mk.injEq] at hq
        obtain ⟨rfl, rfl⟩ := hq
        exact lv_istore_n hx hb hdg rfl h hc (by rw [jv_put1_tr]; rfl) kk
      · cases hq
    · cases hq
  case lstore i =>
    simp only [jv_pure] at hq
    split at hq
    · split at hq
      · rename_i hc
        simp only [Option.some.injEq, Prod.mk.injEq] at hq
        obtain ⟨rfl, rfl⟩ := hq
        exact lv_lstore hx hb hdg h hc (by rw [jv_put2_tr]; rfl) kk
      · cases hq
    · cases hq
  case lstore_n i =>
    simp only [jv_pure] at hq
    split at hq
    · split at hq
      · rename_i hc
        simp only [Option.some.injEq, Prod.mk.injEq] at hq
        obtain ⟨rfl, rfl⟩ := hq
        exact lv_lstore_n hx hb hdg rfl h hc (by rw [jv_put2_tr]; rfl) kk
      · cases hq
    · cases hq
  case astore i =>
    simp only [jv_pure] at hq
    split at hq
    · split at hq
      · rename_i hc
        simp only [Option.some.injEq, Prod.mk.injEq] at hq
        obtain ⟨rfl, rfl⟩ := hq
        exact lv_astore hx hb hdg h hc (by rw [jv_put1_tr]; rfl) kk
      · cases hq
    · split at hq
      · rename_i hc
        simp only [Option.some.injEq, Prod.mk.injEq] at hq
        obtain ⟨rfl, rfl⟩ := hq
        exact lv_astoreN hx hb hdg h hc (by rw [jv_put1_tr]; rfl) kk
      · cases hq
    · cases hq
  case astore_n i =>
    simp only [jv_pure] at hq
    split at hq
    · split at hq
      · rename_i hc
        simp only [Option.some.injEq, Prod.mk.injEq] at hq
        obtain ⟨rfl, rfl⟩ := hq
        exact lv_astore_n hx hb hdg rfl h hc (by rw [jv_put1_tr]; rfl) kk
      · cases hq
    · split at hq
      · rename_i hc
        simp only [Option.some.injEq, Prod.mk.injEq] at hq
        obtain ⟨rfl, rfl⟩ := hq
        exact lv_astore_nN hx hb hdg rfl h hc (by rw [jv_put1_tr]; rfl) kk
      · cases hq
    · cases hq
  case iinc i n =>
    simp only [jv_pure] at hq
    split at hq
    · rename_i hg
      split at hq
      · rename_i hc
        simp only [Option.some.injEq, Prod.mk.injEq] at hq
        obtain ⟨rfl, rfl⟩ := hq
        obtain ⟨q, hq⟩ := jv_get_idx (f := f) hg
        exact lv_iinc hx hb hdg h hq rfl hc (by rw [jv_put1_tr]; rfl) kk
      · cases hq
    · cases hq
  case ldc i =>
    simp only [jv_pure] at hq
    simp only [Option.some.injEq, Prod.mk.injEq] at hq
    obtain ⟨rfl, rfl⟩ := hq
    exact lv_ldc hx hb hown hk hdg (kk _ h)
  case ldc_w i =>
    simp only [jv_pure] at hq
    simp only [Option.some.injEq, Prod.mk.injEq] at hq
    obtain ⟨rfl, rfl⟩ := hq
    exact lv_ldcw hx hb hown hk hdg (kk _ h)
  case ldc2_w i =>
    simp only [jv_pure] at hq
    simp only [Option.some.injEq, Prod.mk.injEq] at hq
    obtain ⟨rfl, rfl⟩ := hq
    exact lv_ldc2 hx hb hown hk hdg (kk _ h)
  all_goals (simp only [jv_pure] at hq; cases hq)
end JV2
