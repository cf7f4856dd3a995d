/-! part 16: first methods, by program (gen/t16.py) -/
theorem jv_bo_ite {p : Prop} [Decidable p] {a b : Int32} (h1 : a = 0 ∨ a = 1) (h2 : b = 0 ∨ b = 1) : (if p then a else b) = 0 ∨ (if p then a else b) = 1 := by
  split
  · exact h1
  · exact h2
theorem jv_ret_b {x : Int32} (h : x = 0 ∨ x = 1) : jv_ret (some .boolean) .ireturn [.int x] = some (some (.int x)) := by
  show (if x = 0 ∨ x = 1 then some (some (Value.int x)) else none) = _
  rw [if_pos h]
section HQ
variable {K : Nat → Option (Nat × Nat)} {I : Nat → Nat → Int32} {L : Nat → Nat → Int64} {R : Nat → Nat → Value} {o k len : Nat}
theorem jv_ne_k {a b : Nat} {u v : Nat × Nat} (ha : K a = some u) (hb : K b = some v) (h : u.1 ≠ v.1) : a ≠ b := fun e => h (by subst e; rw [ha] at hb; cases hb; rfl)
theorem jv_ifa {α : Type} {p : Prop} [Decidable p] {F F2 : Nat → Nat → α} {i j : Nat} {a b : α} (h1 : F i j = a) (h2 : F2 i j = b) : (if p then F else F2) i j = if p then a else b := by split <;> assumption
theorem jv_ifs {α : Type} {p : Prop} [Decidable p] {F F2 : Nat → Nat → α} {i j : Nat} {a : α} (h1 : F i j = a) (h2 : F2 i j = a) : (if p then F else F2) i j = a := by split <;> assumption
theorem jv_cvI {j : Nat} {x : Int32} (hv : jv_vk k j = 0) (h : I o j = x) : jv_cv I L R o k j = .int x := by unfold jv_cv; rw [hv]; exact congrArg Value.int h
theorem jv_cvL {j : Nat} {x : Int64} (hv : jv_vk k j = 1) (h : L o j = x) : jv_cv I L R o k j = .long x := by unfold jv_cv; rw [hv]; exact congrArg Value.long h
theorem jv_cvR {j : Nat} {x : Value} (hv : jv_vk k j = 2) (h : R o j = x) : jv_cv I L R o k j = x := by unfold jv_cv; rw [hv]; exact h
theorem jv_m_getI {q a b : Nat} {r : List Value} {x : Int32} (hK : K o = some (k, len)) (hb : (jv_sub a k && Nat.blt b len) = true) (hv : jv_vk k b = 0) (h : I o b = x) : jv_mem (.getfield q) a b (.ref o :: r) (jv_H K I L R) = some (.int x :: r, jv_H K I L R) := by rw [jv_m_get hK hb, jv_cvI hv h]
theorem jv_m_getL {q a b : Nat} {r : List Value} {x : Int64} (hK : K o = some (k, len)) (hb : (jv_sub a k && Nat.blt b len) = true) (hv : jv_vk k b = 1) (h : L o b = x) : jv_mem (.getfield q) a b (.ref o :: r) (jv_H K I L R) = some (.long x :: r, jv_H K I L R) := by rw [jv_m_get hK hb, jv_cvL hv h]
theorem jv_m_getR {q a b : Nat} {r : List Value} {x : Value} (hK : K o = some (k, len)) (hb : (jv_sub a k && Nat.blt b len) = true) (hv : jv_vk k b = 2) (h : R o b = x) : jv_mem (.getfield q) a b (.ref o :: r) (jv_H K I L R) = some (x :: r, jv_H K I L R) := by rw [jv_m_get hK hb, jv_cvR hv h]
theorem jv_m_ialdv {a b : Nat} {r : List Value} {x v : Int32} (hK : K o = some (k, len)) (hb : (Nat.beq k 102 || Nat.beq k 110) = true) (hx : jv_ix x len) (hv : jv_vk k x.toNatClampNeg = 0) (h : I o x.toNatClampNeg = v) : jv_mem .iaload a b (.int x :: .ref o :: r) (jv_H K I L R) = some (.int v :: r, jv_H K I L R) := by rw [jv_m_iald hK hb hx, jv_cvI hv h]
theorem jv_m_baldv {a b : Nat} {r : List Value} {x v : Int32} (hK : K o = some (k, len)) (hb : (Nat.beq k 100 || Nat.beq k 101) = true) (hx : jv_ix x len) (hv : jv_vk k x.toNatClampNeg = 0) (h : I o x.toNatClampNeg = v) : jv_mem .baload a b (.int x :: .ref o :: r) (jv_H K I L R) = some (.int v :: r, jv_H K I L R) := by rw [jv_m_bald hK hb hx, jv_cvI hv h]
theorem jv_m_laldv {a b : Nat} {r : List Value} {x : Int32} {v : Int64} (hK : K o = some (k, len)) (hb : Nat.beq k 103 = true) (hx : jv_ix x len) (hv : jv_vk k x.toNatClampNeg = 1) (h : L o x.toNatClampNeg = v) : jv_mem .laload a b (.int x :: .ref o :: r) (jv_H K I L R) = some (.long v :: r, jv_H K I L R) := by rw [jv_m_lald hK hb hx, jv_cvL hv h]
theorem jv_m_aaldR {a b : Nat} {r : List Value} {x : Int32} {v : Value} (hK : K o = some (k, len)) (hb : (Nat.ble 104 k && Nat.blt k 108) = true) (hx : jv_ix x len) (hv : jv_vk k x.toNatClampNeg = 2) (h : R o x.toNatClampNeg = v) : jv_mem .aaload a b (.int x :: .ref o :: r) (jv_H K I L R) = some (v :: r, jv_H K I L R) := by rw [jv_m_aald hK hb hx, jv_cvR hv h]
theorem jv_fit_b {x : Int32} (h : x = 0 ∨ x = 1) : jv_fitv .boolean (.int x) = true := by rcases h with h | h <;> subst h <;> rfl
theorem jv_cal {As : List Value} {G : jv_G} {o k a y d1 d2 : Nat} {r : List Value} {e : jv_E} (hA : As = .ref o :: r) (hG : G o = some e) (hk : e.1 = k) (hT : jv_Tb.2 a k = some (y, d1, d2)) : jv_callee jv_Tb 5 a As G = some y := by subst hA; subst hk; simp only [jv_callee, jv_hd, hG, hT]
end HQ
theorem jv_bi_eq {off : Int} {pc : Nat} {x : Int32} {r : List Value} : jv_br (.ifCond .eq off) pc (.int x :: r) = jv_go (x = 0) pc off r := rfl
theorem jv_bi_ne {off : Int} {pc : Nat} {x : Int32} {r : List Value} : jv_br (.ifCond .ne off) pc (.int x :: r) = jv_go (¬ x = 0) pc off r := rfl
theorem jv_bi_lt {off : Int} {pc : Nat} {x : Int32} {r : List Value} : jv_br (.ifCond .lt off) pc (.int x :: r) = jv_go (x < 0) pc off r := rfl
theorem jv_bi_ge {off : Int} {pc : Nat} {x : Int32} {r : List Value} : jv_br (.ifCond .ge off) pc (.int x :: r) = jv_go (0 ≤ x) pc off r := rfl
theorem jv_bi_gt {off : Int} {pc : Nat} {x : Int32} {r : List Value} : jv_br (.ifCond .gt off) pc (.int x :: r) = jv_go (0 < x) pc off r := rfl
theorem jv_bi_le {off : Int} {pc : Nat} {x : Int32} {r : List Value} : jv_br (.ifCond .le off) pc (.int x :: r) = jv_go (x ≤ 0) pc off r := rfl
theorem jv_bc_eq {off : Int} {pc : Nat} {x y : Int32} {r : List Value} : jv_br (.if_icmp .eq off) pc (.int y :: .int x :: r) = jv_go (x = y) pc off r := rfl
theorem jv_bc_ne {off : Int} {pc : Nat} {x y : Int32} {r : List Value} : jv_br (.if_icmp .ne off) pc (.int y :: .int x :: r) = jv_go (¬ x = y) pc off r := rfl
theorem jv_bc_lt {off : Int} {pc : Nat} {x y : Int32} {r : List Value} : jv_br (.if_icmp .lt off) pc (.int y :: .int x :: r) = jv_go (x < y) pc off r := rfl
theorem jv_bc_ge {off : Int} {pc : Nat} {x y : Int32} {r : List Value} : jv_br (.if_icmp .ge off) pc (.int y :: .int x :: r) = jv_go (y ≤ x) pc off r := rfl
theorem jv_bc_gt {off : Int} {pc : Nat} {x y : Int32} {r : List Value} : jv_br (.if_icmp .gt off) pc (.int y :: .int x :: r) = jv_go (y < x) pc off r := rfl
theorem jv_bc_le {off : Int} {pc : Nat} {x y : Int32} {r : List Value} : jv_br (.if_icmp .le off) pc (.int y :: .int x :: r) = jv_go (x ≤ y) pc off r := rfl
theorem jv_i2 : jv_I 2 4 (some .boolean) 0 0 jv_c2 := ⟨rfl, rfl, rfl, rfl, rfl⟩
/-- ProgramBox$Bits.below(JJ)Z -/
theorem jv_s2 (G : jv_G) (a b : Int64)  (n sl : Nat) : jv_Ms 2 [.long a, .long b] G n sl ((some (.int (if ((b + (-9223372036854775808 : Int64)) ≤ (a + (-9223372036854775808 : Int64))) then (0 : Int32) else (1 : Int32)))), G, n, sl) := by
  show jv_Ev 2 0 [(0, .long a), (2, .long b)] [] G n sl _
  refine jv_Ev.steps jv_i2 7 (pc' := 11) (l' := [(0, .long a), (2, .long b)]) (st' := [.int (lg_cmp (a + (-9223372036854775808 : Int64)) (b + (-9223372036854775808 : Int64)))]) rfl ?_
  refine jv_Ev.dia 19 [(0, .long a), (2, .long b)] [.int (if ((b + (-9223372036854775808 : Int64)) ≤ (a + (-9223372036854775808 : Int64))) then (0 : Int32) else (1 : Int32))] G (fun Kh1 => ?_) ?_
  · refine jv_Ev.cnd jv_i2 (pt := 18) (pe := 14) (p := (0 ≤ (lg_cmp (a + (-9223372036854775808 : Int64)) (b + (-9223372036854775808 : Int64))))) (q := ((b + (-9223372036854775808 : Int64)) ≤ (a + (-9223372036854775808 : Int64)))) rfl jv_bi_ge rfl rfl (lg_cmp_ge (a + (-9223372036854775808 : Int64)) (b + (-9223372036854775808 : Int64))) (fun h1 => ?_) (fun h1 => ?_)
    · refine jv_Ev.steps jv_i2 1 (pc' := 19) (l' := [(0, .long a), (2, .long b)]) (st' := [.int (0 : Int32)]) rfl ?_
      exact jv_Ev.conv rfl (by simp only [if_pos h1]) rfl Kh1
    · refine jv_Ev.steps jv_i2 2 (pc' := 19) (l' := [(0, .long a), (2, .long b)]) (st' := [.int (1 : Int32)]) rfl ?_
      exact jv_Ev.conv rfl (by simp only [if_neg h1]) rfl Kh1
  exact jv_Ev.ret jv_i2 rfl (jv_ret_b (jv_bo_ite (Or.inl rfl) (Or.inr rfl)))

theorem jv_i3 : jv_I 3 4 (some .long) 0 0 jv_c3 := ⟨rfl, rfl, rfl, rfl, rfl⟩
/-- ProgramBox$Bits.lesser(JJ)J -/
theorem jv_s3 (G : jv_G) (a b : Int64)  (n sl : Nat) : jv_Ms 3 [.long a, .long b] G n sl ((some (.long (if ((b + (-9223372036854775808 : Int64)) ≤ (a + (-9223372036854775808 : Int64))) then b else a))), G, n, sl) := by
  show jv_Ev 3 0 [(0, .long a), (2, .long b)] [] G n sl _
  refine jv_Ev.steps jv_i3 7 (pc' := 11) (l' := [(0, .long a), (2, .long b)]) (st' := [.int (lg_cmp (a + (-9223372036854775808 : Int64)) (b + (-9223372036854775808 : Int64)))]) rfl ?_
  refine jv_Ev.dia 19 [(0, .long a), (2, .long b)] [.long (if ((b + (-9223372036854775808 : Int64)) ≤ (a + (-9223372036854775808 : Int64))) then b else a)] G (fun Kh1 => ?_) ?_
  · refine jv_Ev.cnd jv_i3 (pt := 18) (pe := 14) (p := (0 ≤ (lg_cmp (a + (-9223372036854775808 : Int64)) (b + (-9223372036854775808 : Int64))))) (q := ((b + (-9223372036854775808 : Int64)) ≤ (a + (-9223372036854775808 : Int64)))) rfl jv_bi_ge rfl rfl (lg_cmp_ge (a + (-9223372036854775808 : Int64)) (b + (-9223372036854775808 : Int64))) (fun h1 => ?_) (fun h1 => ?_)
    · refine jv_Ev.steps jv_i3 1 (pc' := 19) (l' := [(0, .long a), (2, .long b)]) (st' := [.long b]) rfl ?_
      exact jv_Ev.conv rfl (by simp only [if_pos h1]) rfl Kh1
    · refine jv_Ev.steps jv_i3 2 (pc' := 19) (l' := [(0, .long a), (2, .long b)]) (st' := [.long a]) rfl ?_
      exact jv_Ev.conv rfl (by simp only [if_neg h1]) rfl Kh1
  exact jv_Ev.ret jv_i3 rfl rfl

theorem jv_i4 : jv_I 4 4 (some .long) 0 0 jv_c4 := ⟨rfl, rfl, rfl, rfl, rfl⟩
/-- ProgramBox$Bits.larger(JJ)J -/
theorem jv_s4 (G : jv_G) (a b : Int64)  (n sl : Nat) : jv_Ms 4 [.long a, .long b] G n sl ((some (.long (if ((b + (-9223372036854775808 : Int64)) ≤ (a + (-9223372036854775808 : Int64))) then a else b))), G, n, sl) := by
  show jv_Ev 4 0 [(0, .long a), (2, .long b)] [] G n sl _
  refine jv_Ev.steps jv_i4 7 (pc' := 11) (l' := [(0, .long a), (2, .long b)]) (st' := [.int (lg_cmp (a + (-9223372036854775808 : Int64)) (b + (-9223372036854775808 : Int64)))]) rfl ?_
  refine jv_Ev.dia 19 [(0, .long a), (2, .long b)] [.long (if ((b + (-9223372036854775808 : Int64)) ≤ (a + (-9223372036854775808 : Int64))) then a else b)] G (fun Kh1 => ?_) ?_
  · refine jv_Ev.cnd jv_i4 (pt := 18) (pe := 14) (p := (0 ≤ (lg_cmp (a + (-9223372036854775808 : Int64)) (b + (-9223372036854775808 : Int64))))) (q := ((b + (-9223372036854775808 : Int64)) ≤ (a + (-9223372036854775808 : Int64)))) rfl jv_bi_ge rfl rfl (lg_cmp_ge (a + (-9223372036854775808 : Int64)) (b + (-9223372036854775808 : Int64))) (fun h1 => ?_) (fun h1 => ?_)
    · refine jv_Ev.steps jv_i4 1 (pc' := 19) (l' := [(0, .long a), (2, .long b)]) (st' := [.long a]) rfl ?_
      exact jv_Ev.conv rfl (by simp only [if_pos h1]) rfl Kh1
    · refine jv_Ev.steps jv_i4 2 (pc' := 19) (l' := [(0, .long a), (2, .long b)]) (st' := [.long b]) rfl ?_
      exact jv_Ev.conv rfl (by simp only [if_neg h1]) rfl Kh1
  exact jv_Ev.ret jv_i4 rfl rfl

theorem jv_i5 : jv_I 5 1 (some .long) 0 0 jv_c5 := ⟨rfl, rfl, rfl, rfl, rfl⟩
/-- ProgramBox$Bits.lowest(I)J -/
theorem jv_s5 (G : jv_G) (k : Int32)  (n sl : Nat) : jv_Ms 5 [.int k] G n sl ((some (.long (if (k < (64 : Int32)) then (((1 : Int64) <<< (k.toInt64 &&& 63)) - (1 : Int64)) else (-1 : Int64)))), G, n, sl) := by
  show jv_Ev 5 0 [(0, .int k)] [] G n sl _
  refine jv_Ev.steps jv_i5 2 (pc' := 3) (l' := [(0, .int k)]) (st' := [.int (64 : Int32), .int k]) rfl ?_
  refine jv_Ev.dia 17 [(0, .int k)] [.long (if (k < (64 : Int32)) then (((1 : Int64) <<< (k.toInt64 &&& 63)) - (1 : Int64)) else (-1 : Int64))] G (fun Kh1 => ?_) ?_
  · refine jv_Ev.cnd jv_i5 (pt := 12) (pe := 6) (p := (k < (64 : Int32))) (q := (k < (64 : Int32))) rfl jv_bc_lt rfl rfl Iff.rfl (fun h1 => ?_) (fun h1 => ?_)
    · refine jv_Ev.steps jv_i5 5 (pc' := 17) (l' := [(0, .int k)]) (st' := [.long (((1 : Int64) <<< (k.toInt64 &&& 63)) - (1 : Int64))]) rfl ?_
      exact jv_Ev.conv rfl (by simp only [if_pos h1]) rfl Kh1
    · refine jv_Ev.steps jv_i5 2 (pc' := 17) (l' := [(0, .int k)]) (st' := [.long (-1 : Int64)]) rfl ?_
      exact jv_Ev.conv rfl (by simp only [if_neg h1]) rfl Kh1
  exact jv_Ev.ret jv_i5 rfl rfl

theorem jv_i149 : jv_I 149 1 none 0 0 jv_c149 := ⟨rfl, rfl, rfl, rfl, rfl⟩
/-- ProgramBox$Value.any()V -/
theorem jv_s149 {K : Nat → Option (Nat × Nat)} {I : Nat → Nat → Int32} {L : Nat → Nat → Int64} {R : Nat → Nat → Value} {o k : Nat} (hK : K o = some (9, 6)) (n sl : Nat) : jv_Ms 149 [.ref o] (jv_H K I L R) n sl (none, jv_H K I (jv_u (jv_u (jv_u (jv_u (jv_u (jv_u L o 0 (0 : Int64)) o 1 (0 : Int64)) o 2 (0 : Int64)) o 3 (-1 : Int64)) o 4 (-9223372036854775808 : Int64)) o 5 (9223372036854775807 : Int64)) R, n, sl) := by
  show jv_Ev 149 0 [(0, .ref o)] [] (jv_H K I L R) n sl _
  refine jv_Ev.steps jv_i149 2 (pc' := 2) (l' := [(0, .ref o)]) (st' := [.long (0 : Int64), .ref o]) rfl ?_
  refine jv_Ev.m jv_i149 (pc' := 5) (st' := []) (G' := (jv_H K I (jv_u L o 0 (0 : Int64)) R)) rfl rfl (jv_m_putL hK rfl rfl rfl rfl) ?_
  refine jv_Ev.steps jv_i149 2 (pc' := 7) (l' := [(0, .ref o)]) (st' := [.long (0 : Int64), .ref o]) rfl ?_
  refine jv_Ev.m jv_i149 (pc' := 10) (st' := []) (G' := (jv_H K I (jv_u (jv_u L o 0 (0 : Int64)) o 1 (0 : Int64)) R)) rfl rfl (jv_m_putL hK rfl rfl rfl rfl) ?_
  refine jv_Ev.steps jv_i149 2 (pc' := 12) (l' := [(0, .ref o)]) (st' := [.long (0 : Int64), .ref o]) rfl ?_
  refine jv_Ev.m jv_i149 (pc' := 15) (st' := []) (G' := (jv_H K I (jv_u (jv_u (jv_u L o 0 (0 : Int64)) o 1 (0 : Int64)) o 2 (0 : Int64)) R)) rfl rfl (jv_m_putL hK rfl rfl rfl rfl) ?_
  refine jv_Ev.steps jv_i149 2 (pc' := 19) (l' := [(0, .ref o)]) (st' := [.long (-1 : Int64), .ref o]) rfl ?_
  refine jv_Ev.m jv_i149 (pc' := 22) (st' := []) (G' := (jv_H K I (jv_u (jv_u (jv_u (jv_u L o 0 (0 : Int64)) o 1 (0 : Int64)) o 2 (0 : Int64)) o 3 (-1 : Int64)) R)) rfl rfl (jv_m_putL hK rfl rfl rfl rfl) ?_
  refine jv_Ev.steps jv_i149 2 (pc' := 26) (l' := [(0, .ref o)]) (st' := [.long (-9223372036854775808 : Int64), .ref o]) rfl ?_
  refine jv_Ev.m jv_i149 (pc' := 29) (st' := []) (G' := (jv_H K I (jv_u (jv_u (jv_u (jv_u (jv_u L o 0 (0 : Int64)) o 1 (0 : Int64)) o 2 (0 : Int64)) o 3 (-1 : Int64)) o 4 (-9223372036854775808 : Int64)) R)) rfl rfl (jv_m_putL hK rfl rfl rfl rfl) ?_
  refine jv_Ev.steps jv_i149 2 (pc' := 33) (l' := [(0, .ref o)]) (st' := [.long (9223372036854775807 : Int64), .ref o]) rfl ?_
  refine jv_Ev.m jv_i149 (pc' := 36) (st' := []) (G' := (jv_H K I (jv_u (jv_u (jv_u (jv_u (jv_u (jv_u L o 0 (0 : Int64)) o 1 (0 : Int64)) o 2 (0 : Int64)) o 3 (-1 : Int64)) o 4 (-9223372036854775808 : Int64)) o 5 (9223372036854775807 : Int64)) R)) rfl rfl (jv_m_putL hK rfl rfl rfl rfl) ?_
  exact jv_Ev.ret jv_i149 rfl rfl

theorem jv_i153 : jv_I 153 1 (some .boolean) 0 0 jv_c153 := ⟨rfl, rfl, rfl, rfl, rfl⟩
/-- ProgramBox$Value.single()Z -/
theorem jv_s153 {K : Nat → Option (Nat × Nat)} {I : Nat → Nat → Int32} {L : Nat → Nat → Int64} {R : Nat → Nat → Value} {o k : Nat} (hK : K o = some (9, 6)) (n sl : Nat) : jv_Ms 153 [.ref o] (jv_H K I L R) n sl ((some (.int (if (¬ (L o 2) = (L o 3)) then (0 : Int32) else (1 : Int32)))), jv_H K I L R, n, sl) := by
  show jv_Ev 153 0 [(0, .ref o)] [] (jv_H K I L R) n sl _
  refine jv_Ev.steps jv_i153 1 (pc' := 1) (l' := [(0, .ref o)]) (st' := [.ref o]) rfl ?_
  refine jv_Ev.m jv_i153 (pc' := 4) (st' := [.long (L o 2)]) (G' := (jv_H K I L R)) rfl rfl (jv_m_getL hK rfl rfl rfl) ?_
  refine jv_Ev.steps jv_i153 1 (pc' := 5) (l' := [(0, .ref o)]) (st' := [.ref o, .long (L o 2)]) rfl ?_
  refine jv_Ev.m jv_i153 (pc' := 8) (st' := [.long (L o 3), .long (L o 2)]) (G' := (jv_H K I L R)) rfl rfl (jv_m_getL hK rfl rfl rfl) ?_
  refine jv_Ev.steps jv_i153 1 (pc' := 9) (l' := [(0, .ref o)]) (st' := [.int (lg_cmp (L o 2) (L o 3))]) rfl ?_
  refine jv_Ev.dia 17 [(0, .ref o)] [.int (if (¬ (L o 2) = (L o 3)) then (0 : Int32) else (1 : Int32))] (jv_H K I L R) (fun Kh1 => ?_) ?_
  · refine jv_Ev.cnd jv_i153 (pt := 16) (pe := 12) (p := (¬ (lg_cmp (L o 2) (L o 3)) = 0)) (q := (¬ (L o 2) = (L o 3))) rfl jv_bi_ne rfl rfl (not_congr (lg_cmp_eq (L o 2) (L o 3))) (fun h1 => ?_) (fun h1 => ?_)
    · refine jv_Ev.steps jv_i153 1 (pc' := 17) (l' := [(0, .ref o)]) (st' := [.int (0 : Int32)]) rfl ?_
      exact jv_Ev.conv rfl (by simp only [if_pos h1]) rfl Kh1
    · refine jv_Ev.steps jv_i153 2 (pc' := 17) (l' := [(0, .ref o)]) (st' := [.int (1 : Int32)]) rfl ?_
      exact jv_Ev.conv rfl (by simp only [if_neg h1]) rfl Kh1
  exact jv_Ev.ret jv_i153 rfl (jv_ret_b (jv_bo_ite (Or.inl rfl) (Or.inr rfl)))

theorem jv_i152 : jv_I 152 2 (some .boolean) 0 0 jv_c152 := ⟨rfl, rfl, rfl, rfl, rfl⟩
/-- ProgramBox$Value.sameSayings(LProgramBox$Value;)Z -/
theorem jv_s152 {K : Nat → Option (Nat × Nat)} {I : Nat → Nat → Int32} {L : Nat → Nat → Int64} {R : Nat → Nat → Value} {o v : Nat} (hK : K o = some (9, 6)) (hV : K v = some (9, 6)) (n sl : Nat) : jv_Ms 152 [.ref o, .ref v] (jv_H K I L R) n sl ((some (.int (if (¬ (L o 0) = (L v 0)) then (0 : Int32) else (if (¬ (L o 1) = (L v 1)) then (0 : Int32) else (if (¬ (L o 2) = (L v 2)) then (0 : Int32) else (if (¬ (L o 3) = (L v 3)) then (0 : Int32) else (if (¬ (L o 4) = (L v 4)) then (0 : Int32) else (if (¬ (L o 5) = (L v 5)) then (0 : Int32) else (1 : Int32))))))))), jv_H K I L R, n, sl) := by
  show jv_Ev 152 0 [(0, .ref o), (1, .ref v)] [] (jv_H K I L R) n sl _
  refine jv_Ev.steps jv_i152 1 (pc' := 1) (l' := [(0, .ref o), (1, .ref v)]) (st' := [.ref o]) rfl ?_
  refine jv_Ev.m jv_i152 (pc' := 4) (st' := [.long (L o 0)]) (G' := (jv_H K I L R)) rfl rfl (jv_m_getL hK rfl rfl rfl) ?_
  refine jv_Ev.steps jv_i152 1 (pc' := 5) (l' := [(0, .ref o), (1, .ref v)]) (st' := [.ref v, .long (L o 0)]) rfl ?_
  refine jv_Ev.m jv_i152 (pc' := 8) (st' := [.long (L v 0), .long (L o 0)]) (G' := (jv_H K I L R)) rfl rfl (jv_m_getL hV rfl rfl rfl) ?_
  refine jv_Ev.steps jv_i152 1 (pc' := 9) (l' := [(0, .ref o), (1, .ref v)]) (st' := [.int (lg_cmp (L o 0) (L v 0))]) rfl ?_
  refine jv_Ev.dia 77 [(0, .ref o), (1, .ref v)] [.int (if (¬ (L o 0) = (L v 0)) then (0 : Int32) else (if (¬ (L o 1) = (L v 1)) then (0 : Int32) else (if (¬ (L o 2) = (L v 2)) then (0 : Int32) else (if (¬ (L o 3) = (L v 3)) then (0 : Int32) else (if (¬ (L o 4) = (L v 4)) then (0 : Int32) else (if (¬ (L o 5) = (L v 5)) then (0 : Int32) else (1 : Int32)))))))] (jv_H K I L R) (fun Kh1 => ?_) ?_
  · refine jv_Ev.cnd jv_i152 (pt := 76) (pe := 12) (p := (¬ (lg_cmp (L o 0) (L v 0)) = 0)) (q := (¬ (L o 0) = (L v 0))) rfl jv_bi_ne rfl rfl (not_congr (lg_cmp_eq (L o 0) (L v 0))) (fun h1 => ?_) (fun h1 => ?_)
    · refine jv_Ev.steps jv_i152 1 (pc' := 77) (l' := [(0, .ref o), (1, .ref v)]) (st' := [.int (0 : Int32)]) rfl ?_
      exact jv_Ev.conv rfl (by simp only [if_pos h1]) rfl Kh1
    · refine jv_Ev.steps jv_i152 1 (pc' := 13) (l' := [(0, .ref o), (1, .ref v)]) (st' := [.ref o]) rfl ?_
      refine jv_Ev.m jv_i152 (pc' := 16) (st' := [.long (L o 1)]) (G' := (jv_H K I L R)) rfl rfl (jv_m_getL hK rfl rfl rfl) ?_
      refine jv_Ev.steps jv_i152 1 (pc' := 17) (l' := [(0, .ref o), (1, .ref v)]) (st' := [.ref v, .long (L o 1)]) rfl ?_
      refine jv_Ev.m jv_i152 (pc' := 20) (st' := [.long (L v 1), .long (L o 1)]) (G' := (jv_H K I L R)) rfl rfl (jv_m_getL hV rfl rfl rfl) ?_
      refine jv_Ev.steps jv_i152 1 (pc' := 21) (l' := [(0, .ref o), (1, .ref v)]) (st' := [.int (lg_cmp (L o 1) (L v 1))]) rfl ?_
      refine jv_Ev.dia 77 [(0, .ref o), (1, .ref v)] [.int (if (¬ (L o 1) = (L v 1)) then (0 : Int32) else (if (¬ (L o 2) = (L v 2)) then (0 : Int32) else (if (¬ (L o 3) = (L v 3)) then (0 : Int32) else (if (¬ (L o 4) = (L v 4)) then (0 : Int32) else (if (¬ (L o 5) = (L v 5)) then (0 : Int32) else (1 : Int32))))))] (jv_H K I L R) (fun Kh2 => ?_) ?_
      · refine jv_Ev.cnd jv_i152 (pt := 76) (pe := 24) (p := (¬ (lg_cmp (L o 1) (L v 1)) = 0)) (q := (¬ (L o 1) = (L v 1))) rfl jv_bi_ne rfl rfl (not_congr (lg_cmp_eq (L o 1) (L v 1))) (fun h2 => ?_) (fun h2 => ?_)
        · refine jv_Ev.steps jv_i152 1 (pc' := 77) (l' := [(0, .ref o), (1, .ref v)]) (st' := [.int (0 : Int32)]) rfl ?_
          exact jv_Ev.conv rfl (by simp only [if_pos h2]) rfl Kh2
        · refine jv_Ev.steps jv_i152 1 (pc' := 25) (l' := [(0, .ref o), (1, .ref v)]) (st' := [.ref o]) rfl ?_
          refine jv_Ev.m jv_i152 (pc' := 28) (st' := [.long (L o 2)]) (G' := (jv_H K I L R)) rfl rfl (jv_m_getL hK rfl rfl rfl) ?_
          refine jv_Ev.steps jv_i152 1 (pc' := 29) (l' := [(0, .ref o), (1, .ref v)]) (st' := [.ref v, .long (L o 2)]) rfl ?_
          refine jv_Ev.m jv_i152 (pc' := 32) (st' := [.long (L v 2), .long (L o 2)]) (G' := (jv_H K I L R)) rfl rfl (jv_m_getL hV rfl rfl rfl) ?_
          refine jv_Ev.steps jv_i152 1 (pc' := 33) (l' := [(0, .ref o), (1, .ref v)]) (st' := [.int (lg_cmp (L o 2) (L v 2))]) rfl ?_
          refine jv_Ev.dia 77 [(0, .ref o), (1, .ref v)] [.int (if (¬ (L o 2) = (L v 2)) then (0 : Int32) else (if (¬ (L o 3) = (L v 3)) then (0 : Int32) else (if (¬ (L o 4) = (L v 4)) then (0 : Int32) else (if (¬ (L o 5) = (L v 5)) then (0 : Int32) else (1 : Int32)))))] (jv_H K I L R) (fun Kh3 => ?_) ?_
          · refine jv_Ev.cnd jv_i152 (pt := 76) (pe := 36) (p := (¬ (lg_cmp (L o 2) (L v 2)) = 0)) (q := (¬ (L o 2) = (L v 2))) rfl jv_bi_ne rfl rfl (not_congr (lg_cmp_eq (L o 2) (L v 2))) (fun h3 => ?_) (fun h3 => ?_)
            · refine jv_Ev.steps jv_i152 1 (pc' := 77) (l' := [(0, .ref o), (1, .ref v)]) (st' := [.int (0 : Int32)]) rfl ?_
              exact jv_Ev.conv rfl (by simp only [if_pos h3]) rfl Kh3
            · refine jv_Ev.steps jv_i152 1 (pc' := 37) (l' := [(0, .ref o), (1, .ref v)]) (st' := [.ref o]) rfl ?_
              refine jv_Ev.m jv_i152 (pc' := 40) (st' := [.long (L o 3)]) (G' := (jv_H K I L R)) rfl rfl (jv_m_getL hK rfl rfl rfl) ?_
              refine jv_Ev.steps jv_i152 1 (pc' := 41) (l' := [(0, .ref o), (1, .ref v)]) (st' := [.ref v, .long (L o 3)]) rfl ?_
              refine jv_Ev.m jv_i152 (pc' := 44) (st' := [.long (L v 3), .long (L o 3)]) (G' := (jv_H K I L R)) rfl rfl (jv_m_getL hV rfl rfl rfl) ?_
              refine jv_Ev.steps jv_i152 1 (pc' := 45) (l' := [(0, .ref o), (1, .ref v)]) (st' := [.int (lg_cmp (L o 3) (L v 3))]) rfl ?_
              refine jv_Ev.dia 77 [(0, .ref o), (1, .ref v)] [.int (if (¬ (L o 3) = (L v 3)) then (0 : Int32) else (if (¬ (L o 4) = (L v 4)) then (0 : Int32) else (if (¬ (L o 5) = (L v 5)) then (0 : Int32) else (1 : Int32))))] (jv_H K I L R) (fun Kh4 => ?_) ?_
              · refine jv_Ev.cnd jv_i152 (pt := 76) (pe := 48) (p := (¬ (lg_cmp (L o 3) (L v 3)) = 0)) (q := (¬ (L o 3) = (L v 3))) rfl jv_bi_ne rfl rfl (not_congr (lg_cmp_eq (L o 3) (L v 3))) (fun h4 => ?_) (fun h4 => ?_)
                · refine jv_Ev.steps jv_i152 1 (pc' := 77) (l' := [(0, .ref o), (1, .ref v)]) (st' := [.int (0 : Int32)]) rfl ?_
                  exact jv_Ev.conv rfl (by simp only [if_pos h4]) rfl Kh4
                · refine jv_Ev.steps jv_i152 1 (pc' := 49) (l' := [(0, .ref o), (1, .ref v)]) (st' := [.ref o]) rfl ?_
                  refine jv_Ev.m jv_i152 (pc' := 52) (st' := [.long (L o 4)]) (G' := (jv_H K I L R)) rfl rfl (jv_m_getL hK rfl rfl rfl) ?_
                  refine jv_Ev.steps jv_i152 1 (pc' := 53) (l' := [(0, .ref o), (1, .ref v)]) (st' := [.ref v, .long (L o 4)]) rfl ?_
                  refine jv_Ev.m jv_i152 (pc' := 56) (st' := [.long (L v 4), .long (L o 4)]) (G' := (jv_H K I L R)) rfl rfl (jv_m_getL hV rfl rfl rfl) ?_
                  refine jv_Ev.steps jv_i152 1 (pc' := 57) (l' := [(0, .ref o), (1, .ref v)]) (st' := [.int (lg_cmp (L o 4) (L v 4))]) rfl ?_
                  refine jv_Ev.dia 77 [(0, .ref o), (1, .ref v)] [.int (if (¬ (L o 4) = (L v 4)) then (0 : Int32) else (if (¬ (L o 5) = (L v 5)) then (0 : Int32) else (1 : Int32)))] (jv_H K I L R) (fun Kh5 => ?_) ?_
                  · refine jv_Ev.cnd jv_i152 (pt := 76) (pe := 60) (p := (¬ (lg_cmp (L o 4) (L v 4)) = 0)) (q := (¬ (L o 4) = (L v 4))) rfl jv_bi_ne rfl rfl (not_congr (lg_cmp_eq (L o 4) (L v 4))) (fun h5 => ?_) (fun h5 => ?_)
                    · refine jv_Ev.steps jv_i152 1 (pc' := 77) (l' := [(0, .ref o), (1, .ref v)]) (st' := [.int (0 : Int32)]) rfl ?_
                      exact jv_Ev.conv rfl (by simp only [if_pos h5]) rfl Kh5
                    · refine jv_Ev.steps jv_i152 1 (pc' := 61) (l' := [(0, .ref o), (1, .ref v)]) (st' := [.ref o]) rfl ?_
                      refine jv_Ev.m jv_i152 (pc' := 64) (st' := [.long (L o 5)]) (G' := (jv_H K I L R)) rfl rfl (jv_m_getL hK rfl rfl rfl) ?_
                      refine jv_Ev.steps jv_i152 1 (pc' := 65) (l' := [(0, .ref o), (1, .ref v)]) (st' := [.ref v, .long (L o 5)]) rfl ?_
                      refine jv_Ev.m jv_i152 (pc' := 68) (st' := [.long (L v 5), .long (L o 5)]) (G' := (jv_H K I L R)) rfl rfl (jv_m_getL hV rfl rfl rfl) ?_
                      refine jv_Ev.steps jv_i152 1 (pc' := 69) (l' := [(0, .ref o), (1, .ref v)]) (st' := [.int (lg_cmp (L o 5) (L v 5))]) rfl ?_
                      refine jv_Ev.dia 77 [(0, .ref o), (1, .ref v)] [.int (if (¬ (L o 5) = (L v 5)) then (0 : Int32) else (1 : Int32))] (jv_H K I L R) (fun Kh6 => ?_) ?_
                      · refine jv_Ev.cnd jv_i152 (pt := 76) (pe := 72) (p := (¬ (lg_cmp (L o 5) (L v 5)) = 0)) (q := (¬ (L o 5) = (L v 5))) rfl jv_bi_ne rfl rfl (not_congr (lg_cmp_eq (L o 5) (L v 5))) (fun h6 => ?_) (fun h6 => ?_)
                        · refine jv_Ev.steps jv_i152 1 (pc' := 77) (l' := [(0, .ref o), (1, .ref v)]) (st' := [.int (0 : Int32)]) rfl ?_
                          exact jv_Ev.conv rfl (by simp only [if_pos h6]) rfl Kh6
                        · refine jv_Ev.steps jv_i152 2 (pc' := 77) (l' := [(0, .ref o), (1, .ref v)]) (st' := [.int (1 : Int32)]) rfl ?_
                          exact jv_Ev.conv rfl (by simp only [if_neg h6]) rfl Kh6
                      exact jv_Ev.conv rfl (by simp only [if_neg h5]) rfl Kh5
                  exact jv_Ev.conv rfl (by simp only [if_neg h4]) rfl Kh4
              exact jv_Ev.conv rfl (by simp only [if_neg h3]) rfl Kh3
          exact jv_Ev.conv rfl (by simp only [if_neg h2]) rfl Kh2
      exact jv_Ev.conv rfl (by simp only [if_neg h1]) rfl Kh1
  exact jv_Ev.ret jv_i152 rfl (jv_ret_b (jv_bo_ite (Or.inl rfl) (jv_bo_ite (Or.inl rfl) (jv_bo_ite (Or.inl rfl) (jv_bo_ite (Or.inl rfl) (jv_bo_ite (Or.inl rfl) (jv_bo_ite (Or.inl rfl) (Or.inr rfl))))))))

theorem jv_i6 : jv_I 6 6 (some .long) 0 0 jv_c6 := ⟨rfl, rfl, rfl, rfl, rfl⟩
/-- ProgramBox$Bits.quotient(JJ)J -/
theorem jv_s6 (G : jv_G) (a b : Int64)  (n sl : Nat) : jv_Ms 6 [.long a, .long b] G n sl (if (¬ b = (0 : Int64)) then (if ((0 : Int64) ≤ b) then (if (a < (0 : Int64)) then ((some (.long (if ((b + (-9223372036854775808 : Int64)) ≤ ((a - (((((a.toUInt64 >>> ((1 : Int32).toInt64.toUInt64 &&& Int64.toUInt64 63)).toInt64) / b) <<< ((1 : Int32).toInt64 &&& 63)) * b)) + (-9223372036854775808 : Int64))) then (((((a.toUInt64 >>> ((1 : Int32).toInt64.toUInt64 &&& Int64.toUInt64 63)).toInt64) / b) <<< ((1 : Int32).toInt64 &&& 63)) + (1 : Int64)) else ((((a.toUInt64 >>> ((1 : Int32).toInt64.toUInt64 &&& Int64.toUInt64 63)).toInt64) / b) <<< ((1 : Int32).toInt64 &&& 63))))), G, n, sl) else ((some (.long (a / b))), G, n, sl)) else ((some (.long (if ((b + (-9223372036854775808 : Int64)) ≤ (a + (-9223372036854775808 : Int64))) then (1 : Int64) else (0 : Int64)))), G, n, sl)) else ((some (.long (0 : Int64))), G, n, sl)) := by
  show jv_Ev 6 0 [(0, .long a), (2, .long b)] [] G n sl _
  refine jv_Ev.steps jv_i6 3 (pc' := 3) (l' := [(0, .long a), (2, .long b)]) (st' := [.int (lg_cmp b (0 : Int64))]) rfl ?_
  refine jv_Ev.cif jv_i6 (pt := 8) (pe := 6) (p := (¬ (lg_cmp b (0 : Int64)) = 0)) (q := (¬ b = (0 : Int64))) rfl jv_bi_ne rfl rfl (not_congr (lg_cmp_eq b (0 : Int64))) (fun h1 => ?_) (fun h1 => ?_)
  · refine jv_Ev.steps jv_i6 3 (pc' := 11) (l' := [(0, .long a), (2, .long b)]) (st' := [.int (lg_cmp b (0 : Int64))]) rfl ?_
    refine jv_Ev.cif jv_i6 (pt := 34) (pe := 14) (p := (0 ≤ (lg_cmp b (0 : Int64)))) (q := ((0 : Int64) ≤ b)) rfl jv_bi_ge rfl rfl (lg_cmp_ge b (0 : Int64)) (fun h2 => ?_) (fun h2 => ?_)
    · refine jv_Ev.steps jv_i6 3 (pc' := 37) (l' := [(0, .long a), (2, .long b)]) (st' := [.int (lg_cmp a (0 : Int64))]) rfl ?_
      refine jv_Ev.cif jv_i6 (pt := 44) (pe := 40) (p := ((lg_cmp a (0 : Int64)) < 0)) (q := (a < (0 : Int64))) rfl jv_bi_lt rfl rfl (lg_cmp_lt a (0 : Int64)) (fun h3 => ?_) (fun h3 => ?_)
      · refine jv_Ev.steps jv_i6 4 (pc' := 48) (l' := [(0, .long a), (2, .long b)]) (st' := [.long b, .long ((a.toUInt64 >>> ((1 : Int32).toInt64.toUInt64 &&& Int64.toUInt64 63)).toInt64)]) rfl ?_
        refine jv_Ev.op jv_i6 (pc' := 49) (l' := [(0, .long a), (2, .long b)]) (st' := [.long (((a.toUInt64 >>> ((1 : Int32).toInt64.toUInt64 &&& Int64.toUInt64 63)).toInt64) / b)]) rfl (jv_op_ldiv h1) ?_
        refine jv_Ev.steps jv_i6 14 (pc' := 69) (l' := [(4, .long ((((a.toUInt64 >>> ((1 : Int32).toInt64.toUInt64 &&& Int64.toUInt64 63)).toInt64) / b) <<< ((1 : Int32).toInt64 &&& 63))), (0, .long a), (2, .long b)]) (st' := [.int (lg_cmp ((a - (((((a.toUInt64 >>> ((1 : Int32).toInt64.toUInt64 &&& Int64.toUInt64 63)).toInt64) / b) <<< ((1 : Int32).toInt64 &&& 63)) * b)) + (-9223372036854775808 : Int64)) (b + (-9223372036854775808 : Int64)))]) rfl ?_
        refine jv_Ev.dia 81 [(0, .long a), (2, .long b), (4, .long ((((a.toUInt64 >>> ((1 : Int32).toInt64.toUInt64 &&& Int64.toUInt64 63)).toInt64) / b) <<< ((1 : Int32).toInt64 &&& 63)))] [.long (if ((b + (-9223372036854775808 : Int64)) ≤ ((a - (((((a.toUInt64 >>> ((1 : Int32).toInt64.toUInt64 &&& Int64.toUInt64 63)).toInt64) / b) <<< ((1 : Int32).toInt64 &&& 63)) * b)) + (-9223372036854775808 : Int64))) then (((((a.toUInt64 >>> ((1 : Int32).toInt64.toUInt64 &&& Int64.toUInt64 63)).toInt64) / b) <<< ((1 : Int32).toInt64 &&& 63)) + (1 : Int64)) else ((((a.toUInt64 >>> ((1 : Int32).toInt64.toUInt64 &&& Int64.toUInt64 63)).toInt64) / b) <<< ((1 : Int32).toInt64 &&& 63)))] G (fun Kh4 => ?_) ?_
        · refine jv_Ev.cnd jv_i6 (pt := 77) (pe := 72) (p := (0 ≤ (lg_cmp ((a - (((((a.toUInt64 >>> ((1 : Int32).toInt64.toUInt64 &&& Int64.toUInt64 63)).toInt64) / b) <<< ((1 : Int32).toInt64 &&& 63)) * b)) + (-9223372036854775808 : Int64)) (b + (-9223372036854775808 : Int64))))) (q := ((b + (-9223372036854775808 : Int64)) ≤ ((a - (((((a.toUInt64 >>> ((1 : Int32).toInt64.toUInt64 &&& Int64.toUInt64 63)).toInt64) / b) <<< ((1 : Int32).toInt64 &&& 63)) * b)) + (-9223372036854775808 : Int64)))) rfl jv_bi_ge rfl rfl (lg_cmp_ge ((a - (((((a.toUInt64 >>> ((1 : Int32).toInt64.toUInt64 &&& Int64.toUInt64 63)).toInt64) / b) <<< ((1 : Int32).toInt64 &&& 63)) * b)) + (-9223372036854775808 : Int64)) (b + (-9223372036854775808 : Int64))) (fun h4 => ?_) (fun h4 => ?_)
          · refine jv_Ev.steps jv_i6 3 (pc' := 81) (l' := [(4, .long ((((a.toUInt64 >>> ((1 : Int32).toInt64.toUInt64 &&& Int64.toUInt64 63)).toInt64) / b) <<< ((1 : Int32).toInt64 &&& 63))), (0, .long a), (2, .long b)]) (st' := [.long (((((a.toUInt64 >>> ((1 : Int32).toInt64.toUInt64 &&& Int64.toUInt64 63)).toInt64) / b) <<< ((1 : Int32).toInt64 &&& 63)) + (1 : Int64))]) rfl ?_
            refine jv_Ev.loc (l := [(0, .long a), (2, .long b), (4, .long ((((a.toUInt64 >>> ((1 : Int32).toInt64.toUInt64 &&& Int64.toUInt64 63)).toInt64) / b) <<< ((1 : Int32).toInt64 &&& 63)))]) ⟨List.forall_mem_cons.mpr ⟨.tail _ (.head _), List.forall_mem_cons.mpr ⟨.tail _ (.tail _ (.head _)), List.forall_mem_cons.mpr ⟨.head _, fun _ h => absurd h List.not_mem_nil⟩⟩⟩, by show List.Nodup [4, 0, 2]; decide⟩ ?_
            exact jv_Ev.conv rfl (by simp only [if_pos h4]) rfl Kh4
          · refine jv_Ev.steps jv_i6 2 (pc' := 81) (l' := [(4, .long ((((a.toUInt64 >>> ((1 : Int32).toInt64.toUInt64 &&& Int64.toUInt64 63)).toInt64) / b) <<< ((1 : Int32).toInt64 &&& 63))), (0, .long a), (2, .long b)]) (st' := [.long ((((a.toUInt64 >>> ((1 : Int32).toInt64.toUInt64 &&& Int64.toUInt64 63)).toInt64) / b) <<< ((1 : Int32).toInt64 &&& 63))]) rfl ?_
            refine jv_Ev.loc (l := [(0, .long a), (2, .long b), (4, .long ((((a.toUInt64 >>> ((1 : Int32).toInt64.toUInt64 &&& Int64.toUInt64 63)).toInt64) / b) <<< ((1 : Int32).toInt64 &&& 63)))]) ⟨List.forall_mem_cons.mpr ⟨.tail _ (.head _), List.forall_mem_cons.mpr ⟨.tail _ (.tail _ (.head _)), List.forall_mem_cons.mpr ⟨.head _, fun _ h => absurd h List.not_mem_nil⟩⟩⟩, by show List.Nodup [4, 0, 2]; decide⟩ ?_
            exact jv_Ev.conv rfl (by simp only [if_neg h4]) rfl Kh4
        exact jv_Ev.ret jv_i6 rfl rfl
      · refine jv_Ev.steps jv_i6 2 (pc' := 42) (l' := [(0, .long a), (2, .long b)]) (st' := [.long b, .long a]) rfl ?_
        refine jv_Ev.op jv_i6 (pc' := 43) (l' := [(0, .long a), (2, .long b)]) (st' := [.long (a / b)]) rfl (jv_op_ldiv h1) ?_
        exact jv_Ev.ret jv_i6 rfl rfl
    · refine jv_Ev.steps jv_i6 7 (pc' := 25) (l' := [(0, .long a), (2, .long b)]) (st' := [.int (lg_cmp (a + (-9223372036854775808 : Int64)) (b + (-9223372036854775808 : Int64)))]) rfl ?_
      refine jv_Ev.dia 33 [(0, .long a), (2, .long b)] [.long (if ((b + (-9223372036854775808 : Int64)) ≤ (a + (-9223372036854775808 : Int64))) then (1 : Int64) else (0 : Int64))] G (fun Kh5 => ?_) ?_
      · refine jv_Ev.cnd jv_i6 (pt := 32) (pe := 28) (p := (0 ≤ (lg_cmp (a + (-9223372036854775808 : Int64)) (b + (-9223372036854775808 : Int64))))) (q := ((b + (-9223372036854775808 : Int64)) ≤ (a + (-9223372036854775808 : Int64)))) rfl jv_bi_ge rfl rfl (lg_cmp_ge (a + (-9223372036854775808 : Int64)) (b + (-9223372036854775808 : Int64))) (fun h5 => ?_) (fun h5 => ?_)
        · refine jv_Ev.steps jv_i6 1 (pc' := 33) (l' := [(0, .long a), (2, .long b)]) (st' := [.long (1 : Int64)]) rfl ?_
          exact jv_Ev.conv rfl (by simp only [if_pos h5]) rfl Kh5
        · refine jv_Ev.steps jv_i6 2 (pc' := 33) (l' := [(0, .long a), (2, .long b)]) (st' := [.long (0 : Int64)]) rfl ?_
          exact jv_Ev.conv rfl (by simp only [if_neg h5]) rfl Kh5
      exact jv_Ev.ret jv_i6 rfl rfl
  · refine jv_Ev.steps jv_i6 1 (pc' := 7) (l' := [(0, .long a), (2, .long b)]) (st' := [.long (0 : Int64)]) rfl ?_
    exact jv_Ev.ret jv_i6 rfl rfl

theorem jv_i240 : jv_I 240 1 (some .int) 0 0 jv_c240 := ⟨rfl, rfl, rfl, rfl, rfl⟩
/-- ProgramBoxModel$Check$Sets.opposite(I)I -/
theorem jv_s240 (G : jv_G) (c : Int32)  (n sl : Nat) : jv_Ms 240 [.int c] G n sl (if (c = Int32.ofInt 0) then ((some (.int (1 : Int32))), G, n, sl) else (if (c = Int32.ofInt 1) then ((some (.int (0 : Int32))), G, n, sl) else (if (c = Int32.ofInt 2) then ((some (.int (5 : Int32))), G, n, sl) else (if (c = Int32.ofInt 3) then ((some (.int (4 : Int32))), G, n, sl) else (if (c = Int32.ofInt 4) then ((some (.int (3 : Int32))), G, n, sl) else (if (c = Int32.ofInt 5) then ((some (.int (2 : Int32))), G, n, sl) else (if (c = Int32.ofInt 6) then ((some (.int (9 : Int32))), G, n, sl) else (if (c = Int32.ofInt 7) then ((some (.int (8 : Int32))), G, n, sl) else (if (c = Int32.ofInt 8) then ((some (.int (7 : Int32))), G, n, sl) else (if (c = Int32.ofInt 9) then ((some (.int (6 : Int32))), G, n, sl) else (if (c = Int32.ofInt 10) then ((some (.int (11 : Int32))), G, n, sl) else ((some (.int (10 : Int32))), G, n, sl)))))))))))) := by
  show jv_Ev 240 0 [(0, .int c)] [] G n sl _
  refine jv_Ev.steps jv_i240 1 (pc' := 1) (l' := [(0, .int c)]) (st' := [.int c]) rfl ?_
  refine jv_Ev.byc (q := (c = Int32.ofInt 0)) (fun h1 => ?_) (fun h1 => ?_)
  · refine jv_Ev.br jv_i240 (pc' := 60) (st' := []) rfl (by rw [h1]; rfl) ?_
    refine jv_Ev.steps jv_i240 1 (pc' := 61) (l' := [(0, .int c)]) (st' := [.int (1 : Int32)]) rfl ?_
    exact jv_Ev.ret jv_i240 rfl rfl
  · refine jv_Ev.byc (q := (c = Int32.ofInt 1)) (fun h2 => ?_) (fun h2 => ?_)
    · refine jv_Ev.br jv_i240 (pc' := 62) (st' := []) rfl (by rw [h2]; rfl) ?_
      refine jv_Ev.steps jv_i240 1 (pc' := 63) (l' := [(0, .int c)]) (st' := [.int (0 : Int32)]) rfl ?_
      exact jv_Ev.ret jv_i240 rfl rfl
    · refine jv_Ev.byc (q := (c = Int32.ofInt 2)) (fun h3 => ?_) (fun h3 => ?_)
      · refine jv_Ev.br jv_i240 (pc' := 64) (st' := []) rfl (by rw [h3]; rfl) ?_
        refine jv_Ev.steps jv_i240 1 (pc' := 65) (l' := [(0, .int c)]) (st' := [.int (5 : Int32)]) rfl ?_
        exact jv_Ev.ret jv_i240 rfl rfl
      · refine jv_Ev.byc (q := (c = Int32.ofInt 3)) (fun h4 => ?_) (fun h4 => ?_)
        · refine jv_Ev.br jv_i240 (pc' := 66) (st' := []) rfl (by rw [h4]; rfl) ?_
          refine jv_Ev.steps jv_i240 1 (pc' := 67) (l' := [(0, .int c)]) (st' := [.int (4 : Int32)]) rfl ?_
          exact jv_Ev.ret jv_i240 rfl rfl
        · refine jv_Ev.byc (q := (c = Int32.ofInt 4)) (fun h5 => ?_) (fun h5 => ?_)
          · refine jv_Ev.br jv_i240 (pc' := 68) (st' := []) rfl (by rw [h5]; rfl) ?_
            refine jv_Ev.steps jv_i240 1 (pc' := 69) (l' := [(0, .int c)]) (st' := [.int (3 : Int32)]) rfl ?_
            exact jv_Ev.ret jv_i240 rfl rfl
          · refine jv_Ev.byc (q := (c = Int32.ofInt 5)) (fun h6 => ?_) (fun h6 => ?_)
            · refine jv_Ev.br jv_i240 (pc' := 70) (st' := []) rfl (by rw [h6]; rfl) ?_
              refine jv_Ev.steps jv_i240 1 (pc' := 71) (l' := [(0, .int c)]) (st' := [.int (2 : Int32)]) rfl ?_
              exact jv_Ev.ret jv_i240 rfl rfl
            · refine jv_Ev.byc (q := (c = Int32.ofInt 6)) (fun h7 => ?_) (fun h7 => ?_)
              · refine jv_Ev.br jv_i240 (pc' := 72) (st' := []) rfl (by rw [h7]; rfl) ?_
                refine jv_Ev.steps jv_i240 1 (pc' := 74) (l' := [(0, .int c)]) (st' := [.int (9 : Int32)]) rfl ?_
                exact jv_Ev.ret jv_i240 rfl rfl
              · refine jv_Ev.byc (q := (c = Int32.ofInt 7)) (fun h8 => ?_) (fun h8 => ?_)
                · refine jv_Ev.br jv_i240 (pc' := 75) (st' := []) rfl (by rw [h8]; rfl) ?_
                  refine jv_Ev.steps jv_i240 1 (pc' := 77) (l' := [(0, .int c)]) (st' := [.int (8 : Int32)]) rfl ?_
                  exact jv_Ev.ret jv_i240 rfl rfl
                · refine jv_Ev.byc (q := (c = Int32.ofInt 8)) (fun h9 => ?_) (fun h9 => ?_)
                  · refine jv_Ev.br jv_i240 (pc' := 78) (st' := []) rfl (by rw [h9]; rfl) ?_
                    refine jv_Ev.steps jv_i240 1 (pc' := 80) (l' := [(0, .int c)]) (st' := [.int (7 : Int32)]) rfl ?_
                    exact jv_Ev.ret jv_i240 rfl rfl
                  · refine jv_Ev.byc (q := (c = Int32.ofInt 9)) (fun h10 => ?_) (fun h10 => ?_)
                    · refine jv_Ev.br jv_i240 (pc' := 81) (st' := []) rfl (by rw [h10]; rfl) ?_
                      refine jv_Ev.steps jv_i240 1 (pc' := 83) (l' := [(0, .int c)]) (st' := [.int (6 : Int32)]) rfl ?_
                      exact jv_Ev.ret jv_i240 rfl rfl
                    · refine jv_Ev.byc (q := (c = Int32.ofInt 10)) (fun h11 => ?_) (fun h11 => ?_)
                      · refine jv_Ev.br jv_i240 (pc' := 84) (st' := []) rfl (by rw [h11]; rfl) ?_
                        refine jv_Ev.steps jv_i240 1 (pc' := 86) (l' := [(0, .int c)]) (st' := [.int (11 : Int32)]) rfl ?_
                        exact jv_Ev.ret jv_i240 rfl rfl
                      · refine jv_Ev.br jv_i240 (pc' := 87) (st' := []) rfl (jv_tsw_def (fun i hi h => by match i, hi, h with 
                              | 0, _, h => exact absurd h (jv_ne_toInt (k := 0) h1) 
                              | 1, _, h => exact absurd h (jv_ne_toInt (k := 1) h2) 
                              | 2, _, h => exact absurd h (jv_ne_toInt (k := 2) h3) 
                              | 3, _, h => exact absurd h (jv_ne_toInt (k := 3) h4) 
                              | 4, _, h => exact absurd h (jv_ne_toInt (k := 4) h5) 
                              | 5, _, h => exact absurd h (jv_ne_toInt (k := 5) h6) 
                              | 6, _, h => exact absurd h (jv_ne_toInt (k := 6) h7) 
                              | 7, _, h => exact absurd h (jv_ne_toInt (k := 7) h8) 
                              | 8, _, h => exact absurd h (jv_ne_toInt (k := 8) h9) 
                              | 9, _, h => exact absurd h (jv_ne_toInt (k := 9) h10) 
                              | 10, _, h => exact absurd h (jv_ne_toInt (k := 10) h11) 
                              | i + 11, hi, _ => exact absurd hi (by simp)) rfl) ?_
                        refine jv_Ev.steps jv_i240 1 (pc' := 89) (l' := [(0, .int c)]) (st' := [.int (10 : Int32)]) rfl ?_
                        exact jv_Ev.ret jv_i240 rfl rfl

theorem jv_i157 : jv_I 157 7 (some .long) 0 0 jv_c157 := ⟨rfl, rfl, rfl, rfl, rfl⟩
/-- a turn of ProgramBox$Value.sameAbove(JJ)J at 8 -/
theorem jv_b157_8 {G : jv_G} (a b u : Int64) (s : Int32)  {n sl : Nat} {X : jv_R} (HK : (if ((64 : Int32) ≤ s) then (jv_Ev 157 34 [(0, .long a), (2, .long b), (4, .long u), (6, .int s)] [] G n sl X) else (jv_Ev 157 8 [(0, .long a), (2, .long b), (4, .long (u ||| ((u.toUInt64 >>> (s.toInt64.toUInt64 &&& Int64.toUInt64 63)).toInt64))), (6, .int (s * (2 : Int32)))] [] G n sl X))) : jv_Ev 157 8 [(0, .long a), (2, .long b), (4, .long u), (6, .int s)] [] G n sl X := by
  refine jv_Ev.steps jv_i157 2 (pc' := 12) (l' := [(0, .long a), (2, .long b), (4, .long u), (6, .int s)]) (st' := [.int (64 : Int32), .int s]) rfl ?_
  refine jv_Ev.cnd jv_i157 (pt := 34) (pe := 15) (p := ((64 : Int32) ≤ s)) (q := ((64 : Int32) ≤ s)) rfl jv_bc_ge rfl rfl Iff.rfl (fun h1 => ?_) (fun h1 => ?_)
  · rw [if_pos h1] at HK
    exact HK
  · rw [if_neg h1] at HK
    refine jv_Ev.steps jv_i157 11 (pc' := 8) (l' := [(6, .int (s * (2 : Int32))), (4, .long (u ||| ((u.toUInt64 >>> (s.toInt64.toUInt64 &&& Int64.toUInt64 63)).toInt64))), (0, .long a), (2, .long b)]) (st' := []) rfl ?_
    refine jv_Ev.loc (l := [(0, .long a), (2, .long b), (4, .long (u ||| ((u.toUInt64 >>> (s.toInt64.toUInt64 &&& Int64.toUInt64 63)).toInt64))), (6, .int (s * (2 : Int32)))]) ⟨List.forall_mem_cons.mpr ⟨.tail _ (.tail _ (.head _)), List.forall_mem_cons.mpr ⟨.tail _ (.tail _ (.tail _ (.head _))), List.forall_mem_cons.mpr ⟨.tail _ (.head _), List.forall_mem_cons.mpr ⟨.head _, fun _ h => absurd h List.not_mem_nil⟩⟩⟩⟩, by show List.Nodup [6, 4, 0, 2]; decide⟩ ?_
    exact HK
