/-! part 07: the small machine's run, and that the machine does what it does -/
abbrev jv_O : Type := Nat × Instr × Nat × Nat × Nat × Int
abbrev jv_M : Type := MethodName × ByteArray × Nat × Option FieldType × Nat × Nat × List (Nat × jv_O)
/-- the methods by number; what a virtual call's site selects for a receiver's class: the method, and how the site names it (class, declared method) -/
abbrev jv_T : Type := (Nat → jv_M) × (Nat → Nat → Option (Nat × Nat × Nat))
abbrev jv_name (T : jv_T) (y : Nat) : MethodName := (T.1 y).1
abbrev jv_bytes (T : jv_T) (y : Nat) : ByteArray := (T.1 y).2.1
abbrev jv_mL (T : jv_T) (y : Nat) : Nat := (T.1 y).2.2.1
abbrev jv_rt (T : jv_T) (y : Nat) : Option FieldType := (T.1 y).2.2.2.1
abbrev jv_fr (T : jv_T) (y : Nat) : Nat := (T.1 y).2.2.2.2.1
abbrev jv_lo (T : jv_T) (y : Nat) : Nat := (T.1 y).2.2.2.2.2.1
abbrev jv_code (T : jv_T) (y : Nat) : List (Nat × jv_O) := (T.1 y).2.2.2.2.2.2
def jv_fetch : List (Nat × jv_O) → Nat → Option jv_O
  | [], _ => none
  | q :: r, pc => bif Nat.beq q.1 pc then some q.2 else jv_fetch r pc
def jv_ret (rt : Option FieldType) (i : Instr) (st : List Value) : Option (Option Value) := match i with
  | .ireturn => match st with
    | [.int x] => match rt with
      | some .int => some (some (.int x))
      | some .boolean => if x = 0 ∨ x = 1 then some (some (.int x)) else none
      | some .byte => if x.toInt8.toInt32 = x then some (some (.int x)) else none
      | _ => none
    | _ => none
  | .lreturn => match st with
    | [.long x] => match rt with
      | some .long => some (some (.long x))
      | _ => none
    | _ => none
  | .areturn => match st with
    | [.ref x] => match rt with
      | some (.object _) => some (some (.ref x))
      | some (.array _) => some (some (.ref x))
      | _ => none
    | [.null] => match rt with
      | some (.object _) => some (some .null)
      | some (.array _) => some (some .null)
      | _ => none
    | _ => none
  | .return_ => match st with
    | [] => match rt with
      | none => some none
      | _ => none
    | _ => none
  | _ => none
def jv_atk (t : ArrayType) : Nat := match t with
  | .boolean => 0
  | .byte => 1
  | .int => 2
  | .long => 3
  | _ => 99
def jv_nf (a : Nat) : Nat := match jv_cl[a]? with
  | some r => r.2.2
  | none => 0
def jv_new (i : Instr) (a : Nat) (st : List Value) (n : Nat) : Option (List Value × jv_E × Nat) := match i with
  | .new _ => some (.ref n :: st, (a, jv_nf a, fun j => defaultValue (jv_ty a j)), jv_nf a)
  | .newarray t => match st with
    | .int x :: r => if 0 ≤ x.toInt ∧ x.toInt ≤ 1000000 then some (.ref n :: r, (100 + jv_atk t, x.toNatClampNeg, fun _ => defaultValue (newarray.typeOf t)), x.toNatClampNeg) else none
    | _ => none
  | .anewarray _ => match st with
    | .int x :: r => if 0 ≤ x.toInt ∧ x.toInt ≤ 1000000 then some (.ref n :: r, (a, x.toNatClampNeg, fun _ => .null), x.toNatClampNeg) else none
    | _ => none
  | _ => none
def jv_hd (As : List Value) (G : jv_G) : Option Nat := match As with
  | .ref o :: _ => match G o with
    | some (k, _, _) => some k
    | none => none
  | _ => none
def jv_callee (T : jv_T) (kd a : Nat) (As : List Value) (G : jv_G) : Option Nat := match kd with
  | 5 => match jv_hd As G with
    | some k => match T.2 a k with
      | some q => some q.1
      | none => none
    | none => none
  | 6 => match As with
    | .ref _ :: _ => some a
    | _ => none
  | _ => some a
def jv_wd (As : List Value) : Nat := (As.map fun v => v.category).sum
def jv_room (T : jv_T) (y y' b : Nat) (st : List Value) : Bool := Nat.ble b st.length && (Nat.ble (jv_wd (st.drop b)) 8 && (Nat.ble (jv_wd (st.take b)) (jv_mL T y') && (Nat.ble (jv_fr T y' + 1) (jv_fr T y) && Nat.ble (8 + (jv_mL T y' + 11) + jv_lo T y') (jv_lo T y))))
/-- System.arraycopy, of rows of bytes -/
def jv_cp (fr lo : Nat) (st : List Value) (G : jv_G) : Option (List Value × jv_G) := match st with
  | .int n :: .int dp :: .ref d :: .int sp :: .ref b :: r => match G b with
    | some (k0, len0, V0) => match G d with
      | some (k1, len1, V1) => bif Nat.beq k0 101 && (Nat.beq k1 101 && (Nat.ble 1 fr && Nat.ble (jv_wd r + 18) lo)) then (if 0 ≤ sp.toInt ∧ 0 ≤ dp.toInt ∧ 0 ≤ n.toInt ∧ sp.toInt + n.toInt ≤ (len0 : Int) ∧ dp.toInt + n.toInt ≤ (len1 : Int) then some (r, jv_set G d (101, len1, va_cpy V0 V1 sp.toNatClampNeg dp.toNatClampNeg n.toNatClampNeg)) else none) else none
      | none => none
    | none => none
  | _ => none
abbrev jv_R : Type := Option Value × jv_G × Nat × Nat
/-- Math's max and min (0 max, 1 min, of ints; 2 max, 3 min, of longs): rows of the kit's run them -/
def jv_mx (fr lo a : Nat) (st : List Value) : Option (List Value) := match a with
  | 0 => match st with
    | .int y :: .int x :: r => bif Nat.ble 1 fr && Nat.ble (jv_wd r + 13) lo then some (.int (if x < y then y else x) :: r) else none
    | _ => none
  | 1 => match st with
    | .int y :: .int x :: r => bif Nat.ble 1 fr && Nat.ble (jv_wd r + 13) lo then some (.int (if y < x then y else x) :: r) else none
    | _ => none
  | 2 => match st with
    | .long y :: .long x :: r => bif Nat.ble 1 fr && Nat.ble (jv_wd r + 15) lo then some (.long (if y < x then x else y) :: r) else none
    | _ => none
  | 3 => match st with
    | .long y :: .long x :: r => bif Nat.ble 1 fr && Nat.ble (jv_wd r + 15) lo then some (.long (if y < x then y else x) :: r) else none
    | _ => none
  | _ => none
/-- a static call of the JDK's own that a row of the kit's runs: 0 arraycopy; 1 .. 4: Math's -/
def jv_sp (fr lo a : Nat) (st : List Value) (G : jv_G) : Option (List Value × jv_G) := match a with
  | 0 => jv_cp fr lo st G
  | a + 1 => match jv_mx fr lo a st with
    | some st' => some (st', G)
    | none => none
/-- Object's constructor: nothing -/
def jv_oi (T : jv_T) (y : Nat) (st : List Value) : Option (List Value) := match st with
  | .ref _ :: r => bif Nat.ble 1 (jv_fr T y) && Nat.ble (jv_wd r + 12) (jv_lo T y) then some r else none
  | _ => none
def jv_body (T : jv_T) (go : Nat → Nat → jv_L → List Value → jv_G → Nat → Nat → Option jv_R) (y pc : Nat) (l : jv_L) (st : List Value) (G : jv_G) (n sl : Nat) : Option jv_R :=
  match jv_fetch (jv_code T y) pc with
  | none => none
  | some (kd, i, len, a, b, c) => match kd with
    | 0 => match jv_pure (jv_mL T y) i c l st with
      | some (l', st') => go y (pc + len) l' st' G n sl
      | none => none
    | 1 => match jv_mem i a b st G with
      | some (st', G') => go y (pc + len) l st' G' n sl
      | none => none
    | 2 => match jv_br i pc st with
      | some (pc', st') => go y pc' l st' G n sl
      | none => none
    | 3 => match jv_new i a st n with
      | some (st', x, k) => bif Nat.blt n 1000000 then go y (pc + len) l st' (jv_set G n x) (n + 1) (sl + k) else none
      | none => none
    | 7 => match jv_oi T y st with
      | some r => go y (pc + 3) l r G n sl
      | none => none
    | 8 => match jv_ret (jv_rt T y) i st with
      | some rv => some (rv, G, n, sl)
      | none => none
    | 9 => go y (pc + 3) l (.ref (1000000 + a) :: st) G n sl
    | 10 => match jv_sp (jv_fr T y) (jv_lo T y) a st G with
      | some (st', G') => go y (pc + 3) l st' G' n sl
      | none => none
    | kd => match jv_callee T kd a (st.take b).reverse G with
      | none => none
      | some y' => bif jv_room T y y' b st then match go y' 0 (lv_args 0 (st.take b).reverse) [] G n sl with
          | some (rv, G1, n1, sl1) => go y (pc + 3) l (rv.toList ++ st.drop b) G1 n1 sl1
          | none => none
        else none
def jv_run (T : jv_T) : Nat → Nat → Nat → jv_L → List Value → jv_G → Nat → Nat → Option jv_R
  | 0 => fun _ _ _ _ _ _ _ => none
  | g + 1 => jv_body T (jv_run T g)
theorem jv_run_le (T : jv_T) : ∀ (g y pc : Nat) (l : jv_L) (st : List Value) (G : jv_G) (n sl : Nat) (rv : Option Value) (G' : jv_G) (n' sl' : Nat), jv_run T g y pc l st G n sl = some (rv, G', n', sl') → n ≤ n' ∧ sl ≤ sl' := by
  intro g
  induction g with
  | zero => intro y pc l st G n sl rv G' n' sl' h; cases h
  | succ g ih =>
    intro y pc l st G n sl rv G' n' sl' h
    have h : jv_body T (jv_run T g) y pc l st G n sl = some (rv, G', n', sl') := h
    unfold jv_body at h
    split at h
    · cases h
    · split at h
      · split at h
        · exact ih _ _ _ _ _ _ _ _ _ _ _ h
        · cases h
      · split at h
        · exact ih _ _ _ _ _ _ _ _ _ _ _ h
        · cases h
      · split at h
        · exact ih _ _ _ _ _ _ _ _ _ _ _ h
        · cases h
      · split at h
        · rename_i k _
          cases hc : Nat.blt n 1000000 with
          | false => rw [hc] at h; cases h
          | true =>
            rw [hc] at h
            have := ih _ _ _ _ _ _ _ _ _ _ _ h
            omega
        · cases h
      · split at h
        · exact ih _ _ _ _ _ _ _ _ _ _ _ h
        · cases h
      · split at h
        · simp only [Option.some.injEq, Prod.mk.injEq] at h
          omega
        · cases h
      · exact ih _ _ _ _ _ _ _ _ _ _ _ h
      · split at h
        · exact ih _ _ _ _ _ _ _ _ _ _ _ h
        · cases h
      · split at h
        · cases h
        · rename_i y' hy
          cases hc : jv_room T y y' _ st with
          | false => rw [hc] at h; cases h
          | true =>
            rw [hc] at h
            simp only [cond_true] at h
            split at h
            · rename_i h1
              have a1 := ih _ _ _ _ _ _ _ _ _ _ _ h1
              have a2 := ih _ _ _ _ _ _ _ _ _ _ _ h
              omega
            · cases h
/-- what the tables say of an instruction of method y -/
def jv_flS (own : String) (q a b : Nat) : Prop :=
  ∃ (r : vw_C) (ref : String), jv_cl[a]? = some r ∧ b < r.2.2 ∧ (Cond.fieldLink own q ref (r.2.1 b).2.1 (r.2.1 b).2.2.1 ∈ lw_ok ∨ ∃ host, Cond.fieldLinkNest own q ref (r.2.1 b).2.1 (r.2.1 b).2.2.1 host ∈ lw_ok) ∧
    (ref = (r.2.1 b).1 ∨ Cond.sameField ref (r.2.1 b).1 (r.2.1 b).2.1 (r.2.1 b).2.2.1 ∈ lw_ok)
def jv_notMH (c : String) : Prop := c ≠ "java/lang/invoke/MethodHandle" ∧ c ≠ "java/lang/invoke/VarHandle"
def jv_cnt (d : String) (n : Nat) : Prop := (parseMethodDescriptor d).map (fun d => d.parameters.length) = some n
def jv_ml (own : String) (q : Nat) (y : MethodName) : Prop := Cond.methodLink own q y ∈ lw_ok ∨ ∃ host, Cond.methodLinkNest own q y host ∈ lw_ok
def jv_vl (own : String) (q : Nat) (C : String) (y : MethodName) (x : MethodName) (owner : String) (nb : Nat) : Prop :=
  Cond.instanceMethod y ∈ lw_ok ∧ Cond.initialized y.cls ∈ lw_ok ∧
  ((jv_ml own q y ∧ Cond.selects C y y ∈ lw_ok ∧ jv_notMH y.cls ∧ jv_cnt y.desc nb) ∨
   (Cond.methodLink own q x ∈ lw_ok ∧ Cond.sameMethod x.cls owner x.name x.desc ∈ lw_ok ∧ Cond.instanceMethod ⟨owner, x.name, x.desc⟩ ∈ lw_ok ∧ (∃ b0 m0 r0, Cond.code ⟨owner, x.name, x.desc⟩ b0 m0 r0 ∈ lw_ok) ∧ Cond.selects C x y ∈ lw_ok ∧ jv_notMH owner ∧ jv_cnt x.desc nb))
def jv_nlk (own : String) (i : Instr) (a len : Nat) : Prop := match i with
  | .new q => len = 3 ∧ ∃ r, jv_cl[a]? = some r ∧ Cond.classLink own q r.1 ∈ lw_ok ∧ Cond.instantiable r.1 r.2.2 ∈ lw_ok ∧ Cond.initialized r.1 ∈ lw_ok
  | .newarray t => len = 2 ∧ jv_atk t < 4 ∧ Cond.arrayClass (newarray.typeOf t) ∈ lw_ok
  | .anewarray q => len = 3 ∧ 104 ≤ a ∧ a < 108 ∧ ∀ C, (jv_tys (fun _ => 0))[a - 100]? = some (0, .object C) → Cond.classLink own q C ∈ lw_ok ∧ Cond.arrayOver (.object C) ∈ lw_ok
  | _ => False
def jv_lk7 (own : String) (i : Instr) (len : Nat) : Prop := match i with
  | .invokespecial q => len = 3 ∧ Cond.methodLink own q objectInit ∈ lw_ok ∧ Cond.instanceMethod objectInit ∈ lw_ok ∧ Cond.code objectInit ⟨#[0xb1]⟩ 1 none ∈ lw_ok
  | _ => False
def jv_lk9 (own : String) (i : Instr) (len a : Nat) : Prop := match i with
  | .getstatic q => len = 3 ∧ a < 2 ∧ Cond.fieldLink own q (jv_sC a).1 (jv_sC a).2 "[I" ∈ lw_ok
  | _ => False
def jv_lk10 (own : String) (i : Instr) (len : Nat) : Prop := match i with
  | .invokestatic q => len = 3 ∧ Cond.methodLink own q arraycopyName ∈ lw_ok ∧ Cond.native arraycopyName ∈ lw_ok ∧ Cond.static arraycopyName ∈ lw_ok ∧ Cond.initialized "java/lang/System" ∈ lw_ok
  | _ => False
def jv_mrow (a : Nat) : MethodName × ByteArray × Nat × FieldType := match a with
  | 0 => (Lib.Math.max.name, Lib.Math.max.code, 2, .int)
  | 1 => (Lib.Math.min.name, Lib.Math.min.code, 2, .int)
  | 2 => (Lib.MathLoose.max_long.x, Lib.MathLoose.max_long.code, 4, .long)
  | _ => (Lib.MathLoose.min_long.x, Lib.MathLoose.min_long.code, 4, .long)
def jv_lk11 (own : String) (i : Instr) (len a : Nat) : Prop := match i with
  | .invokestatic q => len = 3 ∧ Cond.methodLink own q (jv_mrow a).1 ∈ lw_ok ∧ Cond.static (jv_mrow a).1 ∈ lw_ok ∧ Cond.initialized "java/lang/Math" ∈ lw_ok ∧ Cond.code (jv_mrow a).1 (jv_mrow a).2.1 (jv_mrow a).2.2.1 (some (jv_mrow a).2.2.2) ∈ lw_ok
  | _ => False
def jv_lks (own : String) (i : Instr) (len a : Nat) : Prop := match a with
  | 0 => jv_lk10 own i len
  | a + 1 => jv_lk11 own i len a
/-- a static call: the method's own class is named, or one that inherits it -/
def jv_mlx (own : String) (q : Nat) (y : MethodName) : Prop := jv_ml own q y ∨ ∃ ref, Cond.methodLink own q ⟨ref, y.name, y.desc⟩ ∈ lw_ok ∧ Cond.sameMethod ref y.cls y.name y.desc ∈ lw_ok ∧ jv_notMH ref
def jv_lk4 (T : jv_T) (own : String) (i : Instr) (len a b : Nat) : Prop := match i with
  | .invokestatic q => len = 3 ∧ jv_mlx own q (jv_name T a) ∧ Cond.static (jv_name T a) ∈ lw_ok ∧ Cond.initialized (jv_name T a).cls ∈ lw_ok ∧ jv_notMH (jv_name T a).cls ∧ jv_cnt (jv_name T a).desc b
  | _ => False
def jv_lk5 (T : jv_T) (own : String) (i : Instr) (len a b : Nat) : Prop := match i with
  | .invokevirtual q => len = 3 ∧ ∃ nb, b = nb + 1 ∧ ∀ k y' cx d, T.2 a k = some (y', cx, d) → ∃ r rx, jv_cl[k]? = some r ∧ jv_vl own q r.1 (jv_name T y') ⟨rx, (jv_name T d).name, (jv_name T d).desc⟩ (jv_name T d).cls nb
  | _ => False
def jv_lk6 (T : jv_T) (own : String) (i : Instr) (len a b : Nat) : Prop := match i with
  | .invokespecial q => len = 3 ∧ ∃ nb, b = nb + 1 ∧ jv_ml own q (jv_name T a) ∧ Cond.instanceMethod (jv_name T a) ∈ lw_ok ∧ Cond.initialized (jv_name T a).cls ∈ lw_ok ∧ jv_notMH (jv_name T a).cls ∧ jv_cnt (jv_name T a).desc nb ∧ (jv_name T a).name = "<init>" ∧ jv_rt T a = none
  | _ => False
def jv_OOk (T : jv_T) (y pc : Nat) (o : jv_O) : Prop :=
  decode (jv_bytes T y) pc = .ok (o.2.1, o.2.2.1) ∧ match o with
  | (kd, i, len, a, b, c) => match kd with
    | 0 => len = jv_len i ∧ (match i with
      | .ldc q => Cond.constant (jv_name T y).cls q (Int32.ofInt c) ∈ lw_ok
      | .ldc_w q => Cond.constant (jv_name T y).cls q (Int32.ofInt c) ∈ lw_ok
      | .ldc2_w q => Cond.constantLong (jv_name T y).cls q (Int64.ofInt c) ∈ lw_ok
      | _ => True)
    | 1 => len = jv_mlen i ∧ (match i with
      | .getfield q => jv_flS (jv_name T y).cls q a b
      | .putfield q => jv_flS (jv_name T y).cls q a b ∧ jv_wr (jv_name T y).cls (jv_name T y).name a b
      | _ => True)
    | 2 => jv_blen i len ∧ jv_bok i pc = true
    | 3 => jv_nlk (jv_name T y).cls i a len
    | 7 => jv_lk7 (jv_name T y).cls i len
    | 8 => len = 1
    | 9 => jv_lk9 (jv_name T y).cls i len a
    | 10 => jv_lks (jv_name T y).cls i len a
    | 4 => jv_lk4 T (jv_name T y).cls i len a b
    | 5 => jv_lk5 T (jv_name T y).cls i len a b
    | 6 => jv_lk6 T (jv_name T y).cls i len a b
    | _ => False
def jv_TOk (T : jv_T) : Prop := ∀ y pc o, jv_fetch (jv_code T y) pc = some o → jv_OOk T y pc o ∧ plainName (jv_name T y).cls = true ∧ Cond.code (jv_name T y) (jv_bytes T y) (jv_mL T y) (jv_rt T y) ∈ lw_ok
