/-! part 10h: one form of heaps (K: kinds and lengths, I: ints, L: longs, R: places), and what reads and writes make of it -/
def jv_fk (t : FieldType) : Nat := match t with
  | .long => 1
  | .object _ => 2
  | .array _ => 2
  | _ => 0
/-- what stands at j in a cell of kind k: 0 an int, 1 a long, 2 a place -/
def jv_vk (k j : Nat) : Nat := bif Nat.blt k 100 then jv_fk (jv_ty k j) else bif Nat.beq k 103 then 1 else bif Nat.ble 104 k && Nat.blt k 108 then 2 else 0
def jv_cv (I : Nat → Nat → Int32) (L : Nat → Nat → Int64) (R : Nat → Nat → Value) (o k j : Nat) : Value := match jv_vk k j with
  | 0 => .int (I o j)
  | 1 => .long (L o j)
  | _ => R o j
def jv_H (K : Nat → Option (Nat × Nat)) (I : Nat → Nat → Int32) (L : Nat → Nat → Int64) (R : Nat → Nat → Value) : jv_G := fun o => match K o with
  | some (k, len) => some (k, len, jv_cv I L R o k)
  | none => none
def jv_u {α : Type} (f : Nat → Nat → α) (o j : Nat) (x : α) : Nat → Nat → α := fun o' j' => bif Nat.beq o' o && Nat.beq j' j then x else f o' j'
theorem jv_u_self {α : Type} (f : Nat → Nat → α) (o j : Nat) (x : α) : jv_u f o j x o j = x := by simp [jv_u]
theorem jv_nbeq {a b : Nat} (h : a ≠ b) : Nat.beq a b = false := by
  cases hb : Nat.beq a b with
  | false => rfl
  | true => exact absurd (Nat.eq_of_beq_eq_true hb) h
theorem jv_u_o {α : Type} (f : Nat → Nat → α) {o o' : Nat} (j j' : Nat) (x : α) (h : o' ≠ o) : jv_u f o j x o' j' = f o' j' := by
  unfold jv_u; rw [jv_nbeq h]; rfl
theorem jv_u_j {α : Type} (f : Nat → Nat → α) (o o' : Nat) {j j' : Nat} (x : α) (h : j' ≠ j) : jv_u f o j x o' j' = f o' j' := by
  unfold jv_u; rw [jv_nbeq h, Bool.and_false]; rfl
theorem jv_u_u {α : Type} (f : Nat → Nat → α) (o j : Nat) (x z : α) : jv_u (jv_u f o j x) o j z = jv_u f o j z := by
  funext o' j'
  unfold jv_u
  cases Nat.beq o' o && Nat.beq j' j <;> rfl
section HP
variable {K : Nat → Option (Nat × Nat)} {I : Nat → Nat → Int32} {L : Nat → Nat → Int64} {R : Nat → Nat → Value} {o k len j : Nat}
theorem jv_H_at (hK : K o = some (k, len)) : jv_H K I L R o = some (k, len, jv_cv I L R o k) := by
  unfold jv_H; rw [hK]
theorem jv_H_none (hK : K o = none) : jv_H K I L R o = none := by
  unfold jv_H; rw [hK]
theorem jv_H_I (hK : K o = some (k, len)) (hk : jv_vk k j = 0) (x : Int32) : jv_set (jv_H K I L R) o (k, len, jv_up (jv_cv I L R o k) j (.int x)) = jv_H K (jv_u I o j x) L R := by
  funext q
  by_cases hq : q = o
  · subst hq
    rw [jv_set_self, jv_H_at hK]
    refine congrArg some (congrArg (Prod.mk k) (congrArg (Prod.mk len) (funext fun i => ?_)))
    by_cases hi : i = j
    · subst hi
      rw [jv_up_self]
      unfold jv_cv
      rw [hk]
      show Value.int x = Value.int (jv_u I q i x q i)
      rw [jv_u_self]
    · rw [jv_up_ne _ _ hi]
      unfold jv_cv
      rw [jv_u_j I q q x hi]
  · rw [jv_set_ne _ _ hq]
    cases hKq : K q with
    | none => rw [jv_H_none hKq, jv_H_none hKq]
    | some e =>
      obtain ⟨k', len'⟩ := e
      rw [jv_H_at hKq, jv_H_at hKq]
      refine congrArg some (congrArg (Prod.mk k') (congrArg (Prod.mk len') (funext fun i => ?_)))
      unfold jv_cv
      rw [jv_u_o I j i x hq]
theorem jv_H_L (hK : K o = some (k, len)) (hk : jv_vk k j = 1) (x : Int64) : jv_set (jv_H K I L R) o (k, len, jv_up (jv_cv I L R o k) j (.long x)) = jv_H K I (jv_u L o j x) R := by
  funext q
  by_cases hq : q = o
  · subst hq
    rw [jv_set_self, jv_H_at hK]
    refine congrArg some (congrArg (Prod.mk k) (congrArg (Prod.mk len) (funext fun i => ?_)))
    by_cases hi : i = j
    · subst hi
      rw [jv_up_self]
      unfold jv_cv
      rw [hk]
      show Value.long x = Value.long (jv_u L q i x q i)
      rw [jv_u_self]
    · rw [jv_up_ne _ _ hi]
      unfold jv_cv
      rw [jv_u_j L q q x hi]
  · rw [jv_set_ne _ _ hq]
    cases hKq : K q with
    | none => rw [jv_H_none hKq, jv_H_none hKq]
    | some e =>
      obtain ⟨k', len'⟩ := e
      rw [jv_H_at hKq, jv_H_at hKq]
      refine congrArg some (congrArg (Prod.mk k') (congrArg (Prod.mk len') (funext fun i => ?_)))
      unfold jv_cv
      rw [jv_u_o L j i x hq]
theorem jv_H_R (hK : K o = some (k, len)) (hk : jv_vk k j = 2) (x : Value) : jv_set (jv_H K I L R) o (k, len, jv_up (jv_cv I L R o k) j x) = jv_H K I L (jv_u R o j x) := by
  funext q
  by_cases hq : q = o
  · subst hq
    rw [jv_set_self, jv_H_at hK]
    refine congrArg some (congrArg (Prod.mk k) (congrArg (Prod.mk len) (funext fun i => ?_)))
    by_cases hi : i = j
    · subst hi
      rw [jv_up_self]
      unfold jv_cv
      rw [hk]
      show x = jv_u R q i x q i
      rw [jv_u_self]
    · rw [jv_up_ne _ _ hi]
      unfold jv_cv
      rw [jv_u_j R q q x hi]
  · rw [jv_set_ne _ _ hq]
    cases hKq : K q with
    | none => rw [jv_H_none hKq, jv_H_none hKq]
    | some e =>
      obtain ⟨k', len'⟩ := e
      rw [jv_H_at hKq, jv_H_at hKq]
      refine congrArg some (congrArg (Prod.mk k') (congrArg (Prod.mk len') (funext fun i => ?_)))
      unfold jv_cv
      rw [jv_u_o R j i x hq]
/-- reads and writes -/
theorem jv_m_get {q a b : Nat} {r : List Value} (hK : K o = some (k, len)) (hb : (jv_sub a k && Nat.blt b len) = true) : jv_mem (.getfield q) a b (.ref o :: r) (jv_H K I L R) = some (jv_cv I L R o k b :: r, jv_H K I L R) := by
  simp only [jv_mem, jv_H_at hK, hb, cond_true]
theorem jv_m_putI {q a b : Nat} {r : List Value} {x : Int32} (hK : K o = some (k, len)) (hb : jv_sub a k = true) (hl : Nat.blt b len = true) (hv : jv_vk k b = 0) (hf : jv_fitv (jv_ty a b) (.int x) = true) : jv_mem (.putfield q) a b (.int x :: .ref o :: r) (jv_H K I L R) = some (r, jv_H K (jv_u I o b x) L R) := by
  simp only [jv_mem, jv_H_at hK, hb, hl, hf, Bool.and_self, cond_true, jv_H_I hK hv]
theorem jv_m_putL {q a b : Nat} {r : List Value} {x : Int64} (hK : K o = some (k, len)) (hb : jv_sub a k = true) (hl : Nat.blt b len = true) (hv : jv_vk k b = 1) (hf : jv_fitv (jv_ty a b) (.long x) = true) : jv_mem (.putfield q) a b (.long x :: .ref o :: r) (jv_H K I L R) = some (r, jv_H K I (jv_u L o b x) R) := by
  simp only [jv_mem, jv_H_at hK, hb, hl, hf, Bool.and_self, cond_true, jv_H_L hK hv]
theorem jv_m_putR {q a b : Nat} {r : List Value} {x : Value} (hK : K o = some (k, len)) (hb : jv_sub a k = true) (hl : Nat.blt b len = true) (hv : jv_vk k b = 2) (hf : jv_fitv (jv_ty a b) x = true) : jv_mem (.putfield q) a b (x :: .ref o :: r) (jv_H K I L R) = some (r, jv_H K I L (jv_u R o b x)) := by
  simp only [jv_mem, jv_H_at hK, hb, hl, hf, Bool.and_self, cond_true, jv_H_R hK hv]
theorem jv_m_len {a b : Nat} {r : List Value} (hK : K o = some (k, len)) (hb : (Nat.ble 100 k && (Nat.blt k 108 || Nat.beq k 110)) = true) : jv_mem .arraylength a b (.ref o :: r) (jv_H K I L R) = some (.int (Int32.ofNat len) :: r, jv_H K I L R) := by
  simp only [jv_mem, jv_H_at hK, hb, cond_true]
theorem jv_m_iald {a b : Nat} {r : List Value} {x : Int32} (hK : K o = some (k, len)) (hb : (Nat.beq k 102 || Nat.beq k 110) = true) (hx : jv_ix x len) : jv_mem .iaload a b (.int x :: .ref o :: r) (jv_H K I L R) = some (jv_cv I L R o k x.toNatClampNeg :: r, jv_H K I L R) := by
  simp only [jv_mem, jv_H_at hK, hb, cond_true, if_pos hx]
theorem jv_m_lald {a b : Nat} {r : List Value} {x : Int32} (hK : K o = some (k, len)) (hb : Nat.beq k 103 = true) (hx : jv_ix x len) : jv_mem .laload a b (.int x :: .ref o :: r) (jv_H K I L R) = some (jv_cv I L R o k x.toNatClampNeg :: r, jv_H K I L R) := by
  simp only [jv_mem, jv_H_at hK, hb, cond_true, if_pos hx]
theorem jv_m_bald {a b : Nat} {r : List Value} {x : Int32} (hK : K o = some (k, len)) (hb : (Nat.beq k 100 || Nat.beq k 101) = true) (hx : jv_ix x len) : jv_mem .baload a b (.int x :: .ref o :: r) (jv_H K I L R) = some (jv_cv I L R o k x.toNatClampNeg :: r, jv_H K I L R) := by
  simp only [jv_mem, jv_H_at hK, hb, cond_true, if_pos hx]
theorem jv_m_aald {a b : Nat} {r : List Value} {x : Int32} (hK : K o = some (k, len)) (hb : (Nat.ble 104 k && Nat.blt k 108) = true) (hx : jv_ix x len) : jv_mem .aaload a b (.int x :: .ref o :: r) (jv_H K I L R) = some (jv_cv I L R o k x.toNatClampNeg :: r, jv_H K I L R) := by
  simp only [jv_mem, jv_H_at hK, hb, cond_true, if_pos hx]
theorem jv_m_iast {a b : Nat} {r : List Value} {x z : Int32} (hK : K o = some (102, len)) (hx : jv_ix x len) : jv_mem .iastore a b (.int z :: .int x :: .ref o :: r) (jv_H K I L R) = some (r, jv_H K (jv_u I o x.toNatClampNeg z) L R) := by
  simp only [jv_mem, jv_H_at hK, show Nat.beq 102 102 = true from rfl, cond_true, if_pos hx, jv_H_I hK (show jv_vk 102 x.toNatClampNeg = 0 from rfl)]
theorem jv_m_last {a b : Nat} {r : List Value} {x : Int32} {z : Int64} (hK : K o = some (103, len)) (hx : jv_ix x len) : jv_mem .lastore a b (.long z :: .int x :: .ref o :: r) (jv_H K I L R) = some (r, jv_H K I (jv_u L o x.toNatClampNeg z) R) := by
  simp only [jv_mem, jv_H_at hK, show Nat.beq 103 103 = true from rfl, cond_true, if_pos hx, jv_H_L hK (show jv_vk 103 x.toNatClampNeg = 1 from rfl)]
theorem jv_m_bast {a b : Nat} {r : List Value} {x z : Int32} (hK : K o = some (101, len)) (hx : jv_ix x len) : jv_mem .bastore a b (.int z :: .int x :: .ref o :: r) (jv_H K I L R) = some (r, jv_H K (jv_u I o x.toNatClampNeg z.toInt8.toInt32) L R) := by
  simp only [jv_mem, jv_H_at hK, show Nat.beq 101 101 = true from rfl, cond_true, if_pos hx, jv_H_I hK (show jv_vk 101 x.toNatClampNeg = 0 from rfl)]
theorem jv_m_zast {a b : Nat} {r : List Value} {x z : Int32} (hK : K o = some (100, len)) (hx : jv_ix x len) : jv_mem .bastore a b (.int z :: .int x :: .ref o :: r) (jv_H K I L R) = some (r, jv_H K (jv_u I o x.toNatClampNeg (z &&& 1)) L R) := by
  simp only [jv_mem, jv_H_at hK, show Nat.beq 100 101 = false from rfl, show Nat.beq 100 100 = true from rfl, cond_true, cond_false, if_pos hx, jv_H_I hK (show jv_vk 100 x.toNatClampNeg = 0 from rfl)]
theorem jv_m_aast {a b v k' len' : Nat} {r : List Value} {x : Int32} (hK : K o = some (k, len)) (hV : K v = some (k', len')) (h1 : Nat.ble 104 k = true) (h2 : Nat.blt k 108 = true) (h3 : jv_sub (jv_el k) k' = true) (hv : jv_vk k x.toNatClampNeg = 2) (hx : jv_ix x len) : jv_mem .aastore a b (.ref v :: .int x :: .ref o :: r) (jv_H K I L R) = some (r, jv_H K I L (jv_u R o x.toNatClampNeg (.ref v))) := by
  simp only [jv_mem, jv_H_at hK, jv_H_at hV, h1, h2, h3, Bool.and_self, cond_true, if_pos hx, jv_H_R hK hv]
end HP
