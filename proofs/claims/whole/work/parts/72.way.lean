/-! part 31: rules for walks along one way -/
def jx_If : Nat → Nat → Int32 := (jv_u (jv_u (jx_fill (jv_u (jv_u jx_I0 171 10 (-1 : Int32)) 0 7 (-1 : Int32)) 207 77100 (-1)) 178 8 (-1 : Int32)) 178 22 (-1 : Int32))
def jx_kp (K : Nat → Option (Nat × Nat)) (n k len : Nat) : Nat → Option (Nat × Nat) := fun o => bif Nat.beq o n then some (k, len) else K o
theorem jx_ixa {X M k : Int32} {N : Nat} (h1 : ¬ X < 0) (h2 : ¬ M < X) (h3 : 0 ≤ k.toInt ∧ M.toInt + k.toInt < N ∧ N < 2 ^ 31) : jv_ix (X + k) N := by
  have a1 : 0 ≤ X.toInt := by
    have := Int32.not_lt.mp h1
    have := Int32.le_iff_toInt_le.mp this
    simpa using this
  have a2 : X.toInt ≤ M.toInt := Int32.le_iff_toInt_le.mp (Int32.not_lt.mp h2)
  have a3 : (X + k).toInt = X.toInt + k.toInt := by
    rw [Int32.toInt_add]
    exact Int.bmod_eq_of_le (by omega) (by omega)
  exact ⟨by omega, by omega⟩
theorem jx_ixb {X M : Int32} {N : Nat} (h1 : ¬ X < 0) (h2 : ¬ M < X) (h3 : M.toInt < N) : jv_ix X N := by
  have a1 : 0 ≤ X.toInt := by
    have := Int32.not_lt.mp h1
    have := Int32.le_iff_toInt_le.mp this
    simpa using this
  have a2 : X.toInt ≤ M.toInt := Int32.le_iff_toInt_le.mp (Int32.not_lt.mp h2)
  exact ⟨a1, by omega⟩
theorem jx_cp0 {mL fr lo pc b d len0 len1 ln : Nat} {i : Instr} {c : Int} {l : jv_L} {r : List Value} {G : jv_G} {V0 V1 : Nat → Value} (hb : G b = some (101, len0, V0)) (hd : G d = some (101, len1, V1)) (hr : (Nat.ble 1 fr && Nat.ble (jv_wd r + 18) lo) = true) : jv_op mL fr lo (10, i, ln, 0, 0, c) pc l (.int (0 : Int32) :: .int (0 : Int32) :: .ref d :: .int (0 : Int32) :: .ref b :: r) G = some (pc + 3, l, r, G) := by
  have e : jv_set G d (101, len1, va_cpy V0 V1 (0 : Int32).toNatClampNeg (0 : Int32).toNatClampNeg (0 : Int32).toNatClampNeg) = G := by
    funext q
    by_cases hq : q = d
    · subst hq
      rw [jv_set_self, hd]
      refine congrArg some (congrArg (Prod.mk 101) (congrArg (Prod.mk len1) (funext fun j => ?_)))
      exact pk_cpy_out (Or.inr (by show (0 : Int32).toNatClampNeg + (0 : Int32).toNatClampNeg ≤ j; rw [show (0 : Int32).toNatClampNeg = 0 from rfl]; omega))
    · rw [jv_set_ne _ _ hq]
  show (match jv_cp fr lo (.int (0 : Int32) :: .int (0 : Int32) :: .ref d :: .int (0 : Int32) :: .ref b :: r) G with | some (st', G') => some (pc + 3, l, st', G') | none => none) = _
  have h9 : jv_cp fr lo (.int (0 : Int32) :: .int (0 : Int32) :: .ref d :: .int (0 : Int32) :: .ref b :: r) G = some (r, G) := by
    simp only [jv_cp, hb, hd, show Nat.beq 101 101 = true from rfl, Bool.true_and, hr, cond_true]
    rw [if_pos ⟨by decide, by decide, by decide, by rw [show (0 : Int32).toInt = 0 from rfl]; omega, by rw [show (0 : Int32).toInt = 0 from rfl]; omega⟩, e]
  rw [h9]
theorem jx_cal2 {As : List Value} {G : jv_G} {o k a y d1 d2 : Nat} {r : List Value} {e : jv_E} (hA : As = .ref o :: r) (hG : G o = some e) (hk : e.1 = k) (hT : jv_T2.2 a k = some (y, d1, d2)) : jv_callee jv_T2 5 a As G = some y := by subst hA; subst hk; simp only [jv_callee, jv_hd, hG, hT]
theorem jx_Kkp {K : Nat → Option (Nat × Nat)} {I : Nat → Nat → Int32} {L : Nat → Nat → Int64} {R : Nat → Nat → Value} {n k ln : Nat} {V : Nat → Value} (hV : ∀ j, V j = jv_cv I L R n k j) : jv_set (jv_H K I L R) n (k, ln, V) = jv_H (jx_kp K n k ln) I L R := by
  have e1 : jx_kp K n k ln n = some (k, ln) := by unfold jx_kp; rw [Nat.beq_refl]; rfl
  funext q
  by_cases hq : q = n
  · subst hq
    rw [jv_set_self, jv_H_at e1]
    exact congrArg some (congrArg (Prod.mk k) (congrArg (Prod.mk ln) (funext hV)))
  · rw [jv_set_ne _ _ hq]
    have e2 : jx_kp K n k ln q = K q := by unfold jx_kp; rw [jv_nbeq hq]; rfl
    unfold jv_H
    rw [e2]
theorem jx_Ev_newk {K : Nat → Option (Nat × Nat)} {I : Nat → Nat → Int32} {L : Nat → Nat → Int64} {R : Nat → Nat → Value} {y mL fr lo : Nat} {rt : Option FieldType} {cd : List (Nat × jv_O)} {pc : Nat} {l : jv_L} {st : List Value} {n sl : Nat} {X : jv_R} (hI : jv_I y mL rt fr lo cd) {i : Instr} {len a b : Nat} {c : Int} {st' : List Value} {k ln kk n' sl' pc' : Nat} {V : Nat → Value} (hf : jv_fetch cd pc = some (3, i, len, a, b, c)) (h : jv_new i a st n = some (st', (k, ln, V), kk)) (hV : ∀ j, V j = jv_cv I L R n k j) (hn : Nat.blt n 1000 = true) (h1 : n + 1 = n') (h2 : sl + kk = sl') (h3 : pc + len = pc')
    (Kk : jv_Ev y pc' l st' (jv_H (jx_kp K n k ln) I L R) n' sl' X) : jv_Ev y pc l st (jv_H K I L R) n sl X := by
  subst h1; subst h2; subst h3
  refine jv_Ev.new hI hf h (by have := Nat.le_of_ble_eq_true hn; omega) ?_
  rw [jx_Kkp hV]
  exact Kk
