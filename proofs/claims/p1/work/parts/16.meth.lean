/-! part 16: rules for methods (gen/t16.py) -/
theorem jv_bo_ite {p : Prop} [Decidable p] {a b : Int32} (h1 : a = 0 ∨ a = 1) (h2 : b = 0 ∨ b = 1) : (if p then a else b) = 0 ∨ (if p then a else b) = 1 := by
  split
  · exact h1
  · exact h2
theorem jv_ret_b {x : Int32} (h : x = 0 ∨ x = 1) : jv_ret (some .boolean) .ireturn [.int x] = some (some (.int x)) := by
  show (if x = 0 ∨ x = 1 then some (some (Value.int x)) else none) = _
  rw [if_pos h]
section HQ
variable {K : Nat → Option (Nat × Nat)} {I : Nat → Nat → Int32} {L : Nat → Nat → Int64} {R : Nat → Nat → Value} {o k len : Nat}
theorem jv_ne_k {a b : Nat} {u v : Nat × Nat} (ha : K a = some u) (hb : K b = some v) (h : u.1 ≠ v.1) : a ≠ b := fun e => h (by subst e; rw [ha] at hb; cases hb; rfl)
theorem jv_ifa {α : Type} {p : Prop} [Decidable p] {F F2 : Nat → Nat → α} {i j : Nat} {a b : α} (h1 : F i j = a) (h2 : F2 i j = b) : (if p then F else F2) i j = if p then a else b := by split <;> assumption
theorem jv_ifs {α : Type} {p : Prop} [Decidable p] {F F2 : Nat → Nat → α} {i j : Nat} {a : α} (h1 : F i j = a) (h2 : F2 i j = a) : (if p then F else F2) i j = a := by split <;> assumption
theorem jv_cvI {j : Nat} {x : Int32} (hv : jv_vk k j = 0) (h : I o j = x) : jv_cv I L R o k j = .int x := by unfold jv_cv; rw [hv]; exact congrArg Value.int h
theorem jv_cvL {j : Nat} {x : Int64} (hv : jv_vk k j = 1) (h : L o j = x) : jv_cv I L R o k j = .long x := by unfold jv_cv; rw [hv]; exact congrArg Value.long h
theorem jv_cvR {j : Nat} {x : Value} (hv : jv_vk k j = 2) (h : R o j = x) : jv_cv I L R o k j = x := by unfold jv_cv; rw [hv]; exact h
theorem jv_m_getI {q a b : Nat} {r : List Value} {x : Int32} (hK : K o = some (k, len)) (hb : (jv_sub a k && Nat.blt b len) = true) (hv : jv_vk k b = 0) (h : I o b = x) : jv_mem (.getfield q) a b (.ref o :: r) (jv_H K I L R) = some (.int x :: r, jv_H K I L R) := by rw [jv_m_get hK hb, jv_cvI hv h]
theorem jv_m_getL {q a b : Nat} {r : List Value} {x : Int64} (hK : K o = some (k, len)) (hb : (jv_sub a k && Nat.blt b len) = true) (hv : jv_vk k b = 1) (h : L o b = x) : jv_mem (.getfield q) a b (.ref o :: r) (jv_H K I L R) = some (.long x :: r, jv_H K I L R) := by rw [jv_m_get hK hb, jv_cvL hv h]
theorem jv_m_getR {q a b : Nat} {r : List Value} {x : Value} (hK : K o = some (k, len)) (hb : (jv_sub a k && Nat.blt b len) = true) (hv : jv_vk k b = 2) (h : R o b = x) : jv_mem (.getfield q) a b (.ref o :: r) (jv_H K I L R) = some (x :: r, jv_H K I L R) := by rw [jv_m_get hK hb, jv_cvR hv h]
theorem jv_m_ialdv {a b : Nat} {r : List Value} {x v : Int32} (hK : K o = some (k, len)) (hb : (Nat.beq k 102 || Nat.beq k 110) = true) (hx : jv_ix x len) (hv : jv_vk k x.toNatClampNeg = 0) (h : I o x.toNatClampNeg = v) : jv_mem .iaload a b (.int x :: .ref o :: r) (jv_H K I L R) = some (.int v :: r, jv_H K I L R) := by rw [jv_m_iald hK hb hx, jv_cvI hv h]
theorem jv_m_baldv {a b : Nat} {r : List Value} {x v : Int32} (hK : K o = some (k, len)) (hb : (Nat.beq k 100 || Nat.beq k 101) = true) (hx : jv_ix x len) (hv : jv_vk k x.toNatClampNeg = 0) (h : I o x.toNatClampNeg = v) : jv_mem .baload a b (.int x :: .ref o :: r) (jv_H K I L R) = some (.int v :: r, jv_H K I L R) := by rw [jv_m_bald hK hb hx, jv_cvI hv h]
theorem jv_m_laldv {a b : Nat} {r : List Value} {x : Int32} {v : Int64} (hK : K o = some (k, len)) (hb : Nat.beq k 103 = true) (hx : jv_ix x len) (hv : jv_vk k x.toNatClampNeg = 1) (h : L o x.toNatClampNeg = v) : jv_mem .laload a b (.int x :: .ref o :: r) (jv_H K I L R) = some (.long v :: r, jv_H K I L R) := by rw [jv_m_lald hK hb hx, jv_cvL hv h]
theorem jv_m_aaldR {a b : Nat} {r : List Value} {x : Int32} {v : Value} (hK : K o = some (k, len)) (hb : (Nat.ble 104 k && Nat.blt k 108) = true) (hx : jv_ix x len) (hv : jv_vk k x.toNatClampNeg = 2) (h : R o x.toNatClampNeg = v) : jv_mem .aaload a b (.int x :: .ref o :: r) (jv_H K I L R) = some (v :: r, jv_H K I L R) := by rw [jv_m_aald hK hb hx, jv_cvR hv h]
theorem jv_fit_b {x : Int32} (h : x = 0 ∨ x = 1) : jv_fitv .boolean (.int x) = true := by rcases h with h | h <;> subst h <;> rfl
theorem jv_cal {As : List Value} {G : jv_G} {o k a y d1 d2 : Nat} {r : List Value} {e : jv_E} (hA : As = .ref o :: r) (hG : G o = some e) (hk : e.1 = k) (hT : jv_Tb.2 a k = some (y, d1, d2)) : jv_callee jv_Tb 5 a As G = some y := by subst hA; subst hk; simp only [jv_callee, jv_hd, hG, hT]
end HQ
theorem jv_bi_eq {off : Int} {pc : Nat} {x : Int32} {r : List Value} : jv_br (.ifCond .eq off) pc (.int x :: r) = jv_go (x = 0) pc off r := rfl
theorem jv_bi_ne {off : Int} {pc : Nat} {x : Int32} {r : List Value} : jv_br (.ifCond .ne off) pc (.int x :: r) = jv_go (¬ x = 0) pc off r := rfl
theorem jv_bi_lt {off : Int} {pc : Nat} {x : Int32} {r : List Value} : jv_br (.ifCond .lt off) pc (.int x :: r) = jv_go (x < 0) pc off r := rfl
theorem jv_bi_ge {off : Int} {pc : Nat} {x : Int32} {r : List Value} : jv_br (.ifCond .ge off) pc (.int x :: r) = jv_go (0 ≤ x) pc off r := rfl
theorem jv_bi_gt {off : Int} {pc : Nat} {x : Int32} {r : List Value} : jv_br (.ifCond .gt off) pc (.int x :: r) = jv_go (0 < x) pc off r := rfl
theorem jv_bi_le {off : Int} {pc : Nat} {x : Int32} {r : List Value} : jv_br (.ifCond .le off) pc (.int x :: r) = jv_go (x ≤ 0) pc off r := rfl
theorem jv_bc_eq {off : Int} {pc : Nat} {x y : Int32} {r : List Value} : jv_br (.if_icmp .eq off) pc (.int y :: .int x :: r) = jv_go (x = y) pc off r := rfl
theorem jv_bc_ne {off : Int} {pc : Nat} {x y : Int32} {r : List Value} : jv_br (.if_icmp .ne off) pc (.int y :: .int x :: r) = jv_go (¬ x = y) pc off r := rfl
theorem jv_bc_lt {off : Int} {pc : Nat} {x y : Int32} {r : List Value} : jv_br (.if_icmp .lt off) pc (.int y :: .int x :: r) = jv_go (x < y) pc off r := rfl
theorem jv_bc_ge {off : Int} {pc : Nat} {x y : Int32} {r : List Value} : jv_br (.if_icmp .ge off) pc (.int y :: .int x :: r) = jv_go (y ≤ x) pc off r := rfl
theorem jv_bc_gt {off : Int} {pc : Nat} {x y : Int32} {r : List Value} : jv_br (.if_icmp .gt off) pc (.int y :: .int x :: r) = jv_go (y < x) pc off r := rfl
theorem jv_bc_le {off : Int} {pc : Nat} {x y : Int32} {r : List Value} : jv_br (.if_icmp .le off) pc (.int y :: .int x :: r) = jv_go (x ≤ y) pc off r := rfl