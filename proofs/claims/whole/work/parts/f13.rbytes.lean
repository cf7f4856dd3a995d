/-! part f13: bytes and registers of the machine, of the reference (gen/tf13.py) -/
/-- the reference's machine and bytes, against a state -/
def vm_r (I : Nat → Nat → Int32) (L : Nat → Nat → Int64) (S : vm_S) : Prop :=
  (I 178 11 = vl_I (vm_size S) ∧ vm_size S ≤ 2048) ∧ (∀ r, r < 11 → I 221 r = vl_I (S.2 1 r) ∧ S.2 1 r ≤ 1) ∧ (∀ r, r < 11 → S.2 1 r = 1 → L 220 r = S.1 0 r) ∧
  (∀ k, k < 512 → I 223 k = vl_I (S.2 3 k) ∧ S.2 3 k ≤ 1 ∧ (S.2 3 k = 1 → I 222 k = vl_I (S.2 2 k) ∧ S.2 2 k < 256)) ∧
  vr_tp I 218 2048 (S.2 4) ∧ (∀ j, 16 ≤ j → j < 64 → I 219 j = vl_I (S.2 5 j) ∧ S.2 5 j < 256) ∧ vm_by I 182 65536 (S.2 6) ∧
  (∀ k e, k < vm_cnt S → S.2 8 k = 1 → e < S.2 11 k → I 224 (vm_fe S k + e) = vl_I (S.2 7 (4096 * k + e)) ∧ S.2 7 (4096 * k + e) ≤ 1) ∧ L 178 13 = S.1 1 0 ∧ vr_mp I S
theorem vr_led_c {S : vm_S} {q : Nat} (hs : vm_sh S) (h : vm_led S q) : ∃ k e, k < vm_cnt S ∧ S.2 8 k ≠ 2 ∧ e < S.2 11 k ∧ vm_at S k e ≤ q ∧ q < vm_at S k e + S.2 10 k ∧ (S.2 8 k = 0 ∨ S.2 8 k = 1 ∧ S.2 7 (4096 * k + e) = 1) := by
  obtain ⟨k, e, hk, h2, he, a, b, c⟩ := h
  refine ⟨k, e, hk, h2, he, a, b, ?_⟩
  have := hs.2.1 k hk
  by_cases z : S.2 8 k = 0
  · exact Or.inl z
  · exact Or.inr ⟨by rcases this with y | y <;> omega, c.resolve_left z⟩
theorem vm_a_stk {k : Nat} (h : k < 512) : ((vm_a 1073749504 k - (1073750016 : Int64)).toInt32 + (512 : Int32)) = vl_I k := by
  have e : (vm_a 1073749504 k - (1073750016 : Int64)).toInt = (k : Int) - 512 := by
    rw [Int64.toInt_sub, vm_a_int (by decide) (by omega), show (1073750016 : Int64).toInt = 1073750016 from by decide]
    exact (vi_bm (by omega) (by omega)).trans (by omega)
  refine Int32.toInt_inj.mp ?_
  rw [Int32.toInt_add, Int64.toInt_toInt32, e, vl_I_i (by omega), show (512 : Int32).toInt = 512 from by decide, Int.bmod_def, Int.bmod_def]
  split <;> split <;> omega
theorem jv_i367 : jv_I 367 6 (some .boolean) 0 0 jv_c367 := ⟨rfl, rfl, rfl, rfl, rfl⟩
theorem vr_isIn_t_0 {G : jv_G} {a u v : Int64} (h : (u.toInt ≤ a.toInt ∧ a.toInt < (u + v).toInt)) {m sl : Nat} {Q : jv_R → Prop} (hQ : Q (some (.int (1 : Int32)), G, m, sl)) : jv_Wp 367 0 [(0, .long a), (2, .long u), (4, .long v)] [] G m sl Q := by
  refine jv_Wp.lift (fun _ Kz => jv_Ev.steps jv_i367 3 (pc' := 3) (l' := [(0, .long a), (2, .long u), (4, .long v)]) (st' := [.int (lg_cmp a u)]) rfl Kz) ?_
  refine jv_Wp.cnd jv_i367 (pt := 19) (pe := 6) (p := ((lg_cmp a u) < 0)) (q := (a < u)) rfl jv_bi_lt rfl rfl (lg_cmp_lt a u) (fun h1 => ?_) (fun h1 => ?_)
  · refine jv_Wp.lift (fun _ Kz => jv_Ev.steps jv_i367 1 (pc' := 20) (l' := [(0, .long a), (2, .long u), (4, .long v)]) (st' := [.int (0 : Int32)]) rfl Kz) ?_
    refine jv_Wp.of (jv_Ev.ret jv_i367 rfl (jv_ret_b (Or.inl rfl))) ?_
    exact absurd (Int64.lt_iff_toInt_lt.mp h1) (by omega)
  · refine jv_Wp.lift (fun _ Kz => jv_Ev.steps jv_i367 5 (pc' := 12) (l' := [(0, .long a), (2, .long u), (4, .long v)]) (st' := [.int (lg_cmp a (u + v))]) rfl Kz) ?_
    refine jv_Wp.cnd jv_i367 (pt := 19) (pe := 15) (p := (0 ≤ (lg_cmp a (u + v)))) (q := ((u + v) ≤ a)) rfl jv_bi_ge rfl rfl (lg_cmp_ge a (u + v)) (fun h2 => ?_) (fun h2 => ?_)
    · refine jv_Wp.lift (fun _ Kz => jv_Ev.steps jv_i367 1 (pc' := 20) (l' := [(0, .long a), (2, .long u), (4, .long v)]) (st' := [.int (0 : Int32)]) rfl Kz) ?_
      refine jv_Wp.of (jv_Ev.ret jv_i367 rfl (jv_ret_b (Or.inl rfl))) ?_
      exact absurd (Int64.le_iff_toInt_le.mp h2) (by omega)
    · refine jv_Wp.lift (fun _ Kz => jv_Ev.steps jv_i367 2 (pc' := 20) (l' := [(0, .long a), (2, .long u), (4, .long v)]) (st' := [.int (1 : Int32)]) rfl Kz) ?_
      refine jv_Wp.of (jv_Ev.ret jv_i367 rfl (jv_ret_b (Or.inr rfl))) ?_
      exact hQ
theorem vr_isIn_t {G : jv_G} {a u v : Int64} (h : (u.toInt ≤ a.toInt ∧ a.toInt < (u + v).toInt)) {m sl : Nat} : jv_Ms 367 [.long a, .long u, .long v] G m sl (some (.int (1 : Int32)), G, m, sl) := by
  obtain ⟨X, k, e⟩ := vr_isIn_t_0 (G := G) (m := m) (sl := sl) (Q := fun X => X = (some (.int (1 : Int32)), G, m, sl)) h rfl
  subst e
  exact k
theorem vr_isIn_f_0 {G : jv_G} {a u v : Int64} (h : ¬ (u.toInt ≤ a.toInt ∧ a.toInt < (u + v).toInt)) {m sl : Nat} {Q : jv_R → Prop} (hQ : Q (some (.int (0 : Int32)), G, m, sl)) : jv_Wp 367 0 [(0, .long a), (2, .long u), (4, .long v)] [] G m sl Q := by
  refine jv_Wp.lift (fun _ Kz => jv_Ev.steps jv_i367 3 (pc' := 3) (l' := [(0, .long a), (2, .long u), (4, .long v)]) (st' := [.int (lg_cmp a u)]) rfl Kz) ?_
  refine jv_Wp.cnd jv_i367 (pt := 19) (pe := 6) (p := ((lg_cmp a u) < 0)) (q := (a < u)) rfl jv_bi_lt rfl rfl (lg_cmp_lt a u) (fun h1 => ?_) (fun h1 => ?_)
  · refine jv_Wp.lift (fun _ Kz => jv_Ev.steps jv_i367 1 (pc' := 20) (l' := [(0, .long a), (2, .long u), (4, .long v)]) (st' := [.int (0 : Int32)]) rfl Kz) ?_
    refine jv_Wp.of (jv_Ev.ret jv_i367 rfl (jv_ret_b (Or.inl rfl))) ?_
    exact hQ
  · refine jv_Wp.lift (fun _ Kz => jv_Ev.steps jv_i367 5 (pc' := 12) (l' := [(0, .long a), (2, .long u), (4, .long v)]) (st' := [.int (lg_cmp a (u + v))]) rfl Kz) ?_
    refine jv_Wp.cnd jv_i367 (pt := 19) (pe := 15) (p := (0 ≤ (lg_cmp a (u + v)))) (q := ((u + v) ≤ a)) rfl jv_bi_ge rfl rfl (lg_cmp_ge a (u + v)) (fun h2 => ?_) (fun h2 => ?_)
    · refine jv_Wp.lift (fun _ Kz => jv_Ev.steps jv_i367 1 (pc' := 20) (l' := [(0, .long a), (2, .long u), (4, .long v)]) (st' := [.int (0 : Int32)]) rfl Kz) ?_
      refine jv_Wp.of (jv_Ev.ret jv_i367 rfl (jv_ret_b (Or.inl rfl))) ?_
      exact hQ
    · refine jv_Wp.lift (fun _ Kz => jv_Ev.steps jv_i367 2 (pc' := 20) (l' := [(0, .long a), (2, .long u), (4, .long v)]) (st' := [.int (1 : Int32)]) rfl Kz) ?_
      refine jv_Wp.of (jv_Ev.ret jv_i367 rfl (jv_ret_b (Or.inr rfl))) ?_
      exact absurd ⟨Int.not_lt.mp (fun z => h1 (Int64.lt_iff_toInt_lt.mpr z)), Int.not_le.mp (fun z => h2 (Int64.le_iff_toInt_le.mpr z))⟩ h
theorem vr_isIn_f {G : jv_G} {a u v : Int64} (h : ¬ (u.toInt ≤ a.toInt ∧ a.toInt < (u + v).toInt)) {m sl : Nat} : jv_Ms 367 [.long a, .long u, .long v] G m sl (some (.int (0 : Int32)), G, m, sl) := by
  obtain ⟨X, k, e⟩ := vr_isIn_f_0 (G := G) (m := m) (sl := sl) (Q := fun X => X = (some (.int (0 : Int32)), G, m, sl)) h rfl
  subst e
  exact k
theorem vm_toNat (a : Int64) : (0 ≤ a.toInt ∧ (a.toBitVec.toNat : Int) = a.toInt ∧ a.toInt < 9223372036854775808) ∨ (a.toInt < 0 ∧ (a.toBitVec.toNat : Int) = a.toInt + 18446744073709551616 ∧ -9223372036854775808 ≤ a.toInt) := by
  have e : a.toInt = a.toBitVec.toInt := rfl
  have b := a.toBitVec.isLt
  rw [BitVec.toInt_eq_toNat_cond] at e
  split at e <;> omega
theorem jv_i376 : jv_I 376 4 (some .boolean) 0 0 jv_c376 := ⟨rfl, rfl, rfl, rfl, rfl⟩
theorem vr_isLess_0 {G : jv_G} {a b : Int64} {m sl : Nat} {Q : jv_R → Prop} (hQ : Q (some (.int (vr_b (decide (a.toBitVec < b.toBitVec)))), G, m, sl)) : jv_Wp 376 0 [(0, .long a), (2, .long b)] [] G m sl Q := by
  refine jv_Wp.lift (fun _ Kz => jv_Ev.steps jv_i376 3 (pc' := 3) (l' := [(0, .long a), (2, .long b)]) (st' := [.int (lg_cmp a (0 : Int64))]) rfl Kz) ?_
  refine jv_Wp.cnd jv_i376 (pt := 10) (pe := 6) (p := (0 ≤ (lg_cmp a (0 : Int64)))) (q := ((0 : Int64) ≤ a)) rfl jv_bi_ge rfl rfl (lg_cmp_ge a (0 : Int64)) (fun h1 => ?_) (fun h1 => ?_)
  · refine jv_Wp.lift (fun _ Kz => jv_Ev.steps jv_i376 4 (pc' := 14) (l' := [(0, .long a), (2, .long b)]) (st' := [.int (lg_cmp b (0 : Int64)), .int (0 : Int32)]) rfl Kz) ?_
    refine jv_Wp.cnd jv_i376 (pt := 21) (pe := 17) (p := (0 ≤ (lg_cmp b (0 : Int64)))) (q := ((0 : Int64) ≤ b)) rfl jv_bi_ge rfl rfl (lg_cmp_ge b (0 : Int64)) (fun h2 => ?_) (fun h2 => ?_)
    · refine jv_Wp.lift (fun _ Kz => jv_Ev.steps jv_i376 1 (pc' := 22) (l' := [(0, .long a), (2, .long b)]) (st' := [.int (0 : Int32), .int (0 : Int32)]) rfl Kz) ?_
      refine jv_Wp.lift (fun _ Kz => jv_Ev.br jv_i376 (pc' := 25) (st' := []) rfl (by rfl) Kz) ?_
      refine jv_Wp.lift (fun _ Kz => jv_Ev.steps jv_i376 3 (pc' := 28) (l' := [(0, .long a), (2, .long b)]) (st' := [.int (lg_cmp a b)]) rfl Kz) ?_
      refine jv_Wp.cnd jv_i376 (pt := 35) (pe := 31) (p := (0 ≤ (lg_cmp a b))) (q := (b ≤ a)) rfl jv_bi_ge rfl rfl (lg_cmp_ge a b) (fun h3 => ?_) (fun h3 => ?_)
      · refine jv_Wp.lift (fun _ Kz => jv_Ev.steps jv_i376 2 (pc' := 50) (l' := [(0, .long a), (2, .long b)]) (st' := [.int (0 : Int32)]) rfl Kz) ?_
        refine jv_Wp.of (jv_Ev.ret jv_i376 rfl (jv_ret_b (Or.inl rfl))) ?_
        have za : (0 : Int64).toInt = 0 := by decide
        have ea := vm_toNat a
        have eb := vm_toNat b
        have n0 := Int64.le_iff_toInt_le.mp h1
        have n1 := Int64.le_iff_toInt_le.mp h2
        have n2 := Int64.le_iff_toInt_le.mp h3
        rw [show decide (a.toBitVec < b.toBitVec) = false from decide_eq_false (by rw [BitVec.lt_def]; omega)] at hQ
        exact hQ
      · refine jv_Wp.lift (fun _ Kz => jv_Ev.steps jv_i376 2 (pc' := 50) (l' := [(0, .long a), (2, .long b)]) (st' := [.int (1 : Int32)]) rfl Kz) ?_
        refine jv_Wp.of (jv_Ev.ret jv_i376 rfl (jv_ret_b (Or.inr rfl))) ?_
        have za : (0 : Int64).toInt = 0 := by decide
        have ea := vm_toNat a
        have eb := vm_toNat b
        have n0 := Int64.le_iff_toInt_le.mp h1
        have n1 := Int64.le_iff_toInt_le.mp h2
        have n2 := (not_congr Int64.le_iff_toInt_le).mp h3
        rw [show decide (a.toBitVec < b.toBitVec) = true from decide_eq_true (by rw [BitVec.lt_def]; omega)] at hQ
        exact hQ
    · refine jv_Wp.lift (fun _ Kz => jv_Ev.steps jv_i376 2 (pc' := 22) (l' := [(0, .long a), (2, .long b)]) (st' := [.int (1 : Int32), .int (0 : Int32)]) rfl Kz) ?_
      refine jv_Wp.lift (fun _ Kz => jv_Ev.br jv_i376 (pc' := 39) (st' := []) rfl (by rfl) Kz) ?_
      refine jv_Wp.lift (fun _ Kz => jv_Ev.steps jv_i376 3 (pc' := 42) (l' := [(0, .long a), (2, .long b)]) (st' := [.int (lg_cmp b (0 : Int64))]) rfl Kz) ?_
      refine jv_Wp.cnd jv_i376 (pt := 49) (pe := 45) (p := (0 ≤ (lg_cmp b (0 : Int64)))) (q := ((0 : Int64) ≤ b)) rfl jv_bi_ge rfl rfl (lg_cmp_ge b (0 : Int64)) (fun hz => absurd hz h2) (fun _ => ?_)
      refine jv_Wp.lift (fun _ Kz => jv_Ev.steps jv_i376 2 (pc' := 50) (l' := [(0, .long a), (2, .long b)]) (st' := [.int (1 : Int32)]) rfl Kz) ?_
      refine jv_Wp.of (jv_Ev.ret jv_i376 rfl (jv_ret_b (Or.inr rfl))) ?_
      have za : (0 : Int64).toInt = 0 := by decide
      have ea := vm_toNat a
      have eb := vm_toNat b
      have n0 := Int64.le_iff_toInt_le.mp h1
      have n1 := (not_congr Int64.le_iff_toInt_le).mp h2
      rw [show decide (a.toBitVec < b.toBitVec) = true from decide_eq_true (by rw [BitVec.lt_def]; omega)] at hQ
      exact hQ
  · refine jv_Wp.lift (fun _ Kz => jv_Ev.steps jv_i376 5 (pc' := 14) (l' := [(0, .long a), (2, .long b)]) (st' := [.int (lg_cmp b (0 : Int64)), .int (1 : Int32)]) rfl Kz) ?_
    refine jv_Wp.cnd jv_i376 (pt := 21) (pe := 17) (p := (0 ≤ (lg_cmp b (0 : Int64)))) (q := ((0 : Int64) ≤ b)) rfl jv_bi_ge rfl rfl (lg_cmp_ge b (0 : Int64)) (fun h4 => ?_) (fun h4 => ?_)
    · refine jv_Wp.lift (fun _ Kz => jv_Ev.steps jv_i376 1 (pc' := 22) (l' := [(0, .long a), (2, .long b)]) (st' := [.int (0 : Int32), .int (1 : Int32)]) rfl Kz) ?_
      refine jv_Wp.lift (fun _ Kz => jv_Ev.br jv_i376 (pc' := 39) (st' := []) rfl (by rfl) Kz) ?_
      refine jv_Wp.lift (fun _ Kz => jv_Ev.steps jv_i376 3 (pc' := 42) (l' := [(0, .long a), (2, .long b)]) (st' := [.int (lg_cmp b (0 : Int64))]) rfl Kz) ?_
      refine jv_Wp.cnd jv_i376 (pt := 49) (pe := 45) (p := (0 ≤ (lg_cmp b (0 : Int64)))) (q := ((0 : Int64) ≤ b)) rfl jv_bi_ge rfl rfl (lg_cmp_ge b (0 : Int64)) (fun _ => ?_) (fun hz => absurd h4 hz)
      refine jv_Wp.lift (fun _ Kz => jv_Ev.steps jv_i376 1 (pc' := 50) (l' := [(0, .long a), (2, .long b)]) (st' := [.int (0 : Int32)]) rfl Kz) ?_
      refine jv_Wp.of (jv_Ev.ret jv_i376 rfl (jv_ret_b (Or.inl rfl))) ?_
      have za : (0 : Int64).toInt = 0 := by decide
      have ea := vm_toNat a
      have eb := vm_toNat b
      have n0 := (not_congr Int64.le_iff_toInt_le).mp h1
      have n1 := Int64.le_iff_toInt_le.mp h4
      rw [show decide (a.toBitVec < b.toBitVec) = false from decide_eq_false (by rw [BitVec.lt_def]; omega)] at hQ
      exact hQ
    · refine jv_Wp.lift (fun _ Kz => jv_Ev.steps jv_i376 2 (pc' := 22) (l' := [(0, .long a), (2, .long b)]) (st' := [.int (1 : Int32), .int (1 : Int32)]) rfl Kz) ?_
      refine jv_Wp.lift (fun _ Kz => jv_Ev.br jv_i376 (pc' := 25) (st' := []) rfl (by rfl) Kz) ?_
      refine jv_Wp.lift (fun _ Kz => jv_Ev.steps jv_i376 3 (pc' := 28) (l' := [(0, .long a), (2, .long b)]) (st' := [.int (lg_cmp a b)]) rfl Kz) ?_
      refine jv_Wp.cnd jv_i376 (pt := 35) (pe := 31) (p := (0 ≤ (lg_cmp a b))) (q := (b ≤ a)) rfl jv_bi_ge rfl rfl (lg_cmp_ge a b) (fun h5 => ?_) (fun h5 => ?_)
      · refine jv_Wp.lift (fun _ Kz => jv_Ev.steps jv_i376 2 (pc' := 50) (l' := [(0, .long a), (2, .long b)]) (st' := [.int (0 : Int32)]) rfl Kz) ?_
        refine jv_Wp.of (jv_Ev.ret jv_i376 rfl (jv_ret_b (Or.inl rfl))) ?_
        have za : (0 : Int64).toInt = 0 := by decide
        have ea := vm_toNat a
        have eb := vm_toNat b
        have n0 := (not_congr Int64.le_iff_toInt_le).mp h1
        have n1 := (not_congr Int64.le_iff_toInt_le).mp h4
        have n2 := Int64.le_iff_toInt_le.mp h5
        rw [show decide (a.toBitVec < b.toBitVec) = false from decide_eq_false (by rw [BitVec.lt_def]; omega)] at hQ
        exact hQ
      · refine jv_Wp.lift (fun _ Kz => jv_Ev.steps jv_i376 2 (pc' := 50) (l' := [(0, .long a), (2, .long b)]) (st' := [.int (1 : Int32)]) rfl Kz) ?_
        refine jv_Wp.of (jv_Ev.ret jv_i376 rfl (jv_ret_b (Or.inr rfl))) ?_
        have za : (0 : Int64).toInt = 0 := by decide
        have ea := vm_toNat a
        have eb := vm_toNat b
        have n0 := (not_congr Int64.le_iff_toInt_le).mp h1
        have n1 := (not_congr Int64.le_iff_toInt_le).mp h4
        have n2 := (not_congr Int64.le_iff_toInt_le).mp h5
        rw [show decide (a.toBitVec < b.toBitVec) = true from decide_eq_true (by rw [BitVec.lt_def]; omega)] at hQ
        exact hQ
theorem vr_isLess {G : jv_G} {a b : Int64} {m sl : Nat} : jv_Ms 376 [.long a, .long b] G m sl (some (.int (vr_b (decide (a.toBitVec < b.toBitVec)))), G, m, sl) := by
  obtain ⟨X, k, e⟩ := vr_isLess_0 (G := G) (m := m) (sl := sl) (Q := fun X => X = (some (.int (vr_b (decide (a.toBitVec < b.toBitVec)))), G, m, sl))  rfl
  subst e
  exact k
theorem jv_i368 : jv_I 368 3 (some .boolean) 2 45 jv_c368 := ⟨rfl, rfl, rfl, rfl, rfl⟩
theorem vr_isFound0_0 {K : Nat → Option (Nat × Nat)} {I : Nat → Nat → Int32} {L : Nat → Nat → Int64} {R : Nat → Nat → Value} (hW : jv_rW K R) {S : vm_S} (hs : vm_sh S) (h : vm_r I L S) {q k e : Nat} (hk : k < vm_cnt S) (h2 : S.2 8 k = 0) (he : e < S.2 11 k) (hq1 : vm_at S k e ≤ q) (hq2 : q < vm_at S k e + S.2 10 k) {n sl : Nat} {Q : jv_R → Prop} (hQ : Q (some (.int (1 : Int32)), jv_H K I L R, n, sl)) : jv_Wp 368 0 [(0, .ref 178), (1, .int (vl_I q))] [] (jv_H K I L R) n sl Q := by
  have hO := vr_owner (n := n) (sl := sl) (L := L) hW hs h.2.2.2.2.2.2.2.2.2 hk (by omega) he hq1 hq2
  rw [if_pos h2] at hO
  refine jv_Wp.lift (fun _ Kz => jv_Ev.steps jv_i368 2 (pc' := 2) (l' := [(0, .ref 178), (1, .int (vl_I q))]) (st' := [.int (vl_I q), .ref 178]) rfl Kz) ?_
  refine jv_Wp.lift (fun _ Kz => jv_Ev.c jv_i368 (pc' := 5) (S' := [.int (-1 : Int32)]) jv_i366 [.ref 178, .int (vl_I q)] rfl rfl rfl rfl (jv_cal rfl (jv_H_at (jv_rwK hW 178 14 31 (by decide))) rfl rfl) rfl hO rfl rfl Kz) ?_
  refine jv_Wp.lift (fun _ Kz => jv_Ev.steps jv_i368 3 (pc' := 8) (l' := [(2, .int (-1 : Int32)), (0, .ref 178), (1, .int (vl_I q))]) (st' := [.int (-1 : Int32), .int (-1 : Int32)]) rfl Kz) ?_
  refine jv_Wp.lift (fun _ Kz => jv_Ev.br jv_i368 (pc' := 24) (st' := []) rfl (by rfl) Kz) ?_
  refine jv_Wp.lift (fun _ Kz => jv_Ev.steps jv_i368 2 (pc' := 29) (l' := [(2, .int (-1 : Int32)), (0, .ref 178), (1, .int (vl_I q))]) (st' := [.int (1 : Int32)]) rfl Kz) ?_
  refine jv_Wp.of (jv_Ev.ret jv_i368 rfl (jv_ret_b (Or.inr rfl))) ?_
  exact hQ
theorem vr_isFound0 {K : Nat → Option (Nat × Nat)} {I : Nat → Nat → Int32} {L : Nat → Nat → Int64} {R : Nat → Nat → Value} (hW : jv_rW K R) {S : vm_S} (hs : vm_sh S) (h : vm_r I L S) {q k e : Nat} (hk : k < vm_cnt S) (h2 : S.2 8 k = 0) (he : e < S.2 11 k) (hq1 : vm_at S k e ≤ q) (hq2 : q < vm_at S k e + S.2 10 k) {n sl : Nat} : jv_Ms 368 [.ref 178, .int (vl_I q)] (jv_H K I L R) n sl (some (.int (1 : Int32)), jv_H K I L R, n, sl) := by
  obtain ⟨X, k, e⟩ := vr_isFound0_0 (n := n) (sl := sl) (I := I) (L := L) (Q := fun X => X = (some (.int (1 : Int32)), jv_H K I L R, n, sl)) hW hs h hk h2 he hq1 hq2 rfl
  subst e
  exact k
theorem vr_isFound1_0 {K : Nat → Option (Nat × Nat)} {I : Nat → Nat → Int32} {L : Nat → Nat → Int64} {R : Nat → Nat → Value} (hW : jv_rW K R) {S : vm_S} (hs : vm_sh S) (h : vm_r I L S) {q k e : Nat} (hk : k < vm_cnt S) (h2 : S.2 8 k = 1) (he : e < S.2 11 k) (hq1 : vm_at S k e ≤ q) (hq2 : q < vm_at S k e + S.2 10 k) (hf : S.2 7 (4096 * k + e) = 1) {n sl : Nat} {Q : jv_R → Prop} (hQ : Q (some (.int (1 : Int32)), jv_H K I L R, n, sl)) : jv_Wp 368 0 [(0, .ref 178), (1, .int (vl_I q))] [] (jv_H K I L R) n sl Q := by
  have hO := vr_owner (n := n) (sl := sl) (L := L) hW hs h.2.2.2.2.2.2.2.2.2 hk (by omega) he hq1 hq2
  rw [if_neg (by omega)] at hO
  have hfe := (vm_fe_le hs k (by omega)).1
  have hin := vm_at_in hs hk (by omega) he
  have h46 : vm_fe S k + e < 8192 := by
    have h1 := (vm_fe_le hs (k + 1) hk).1
    have h3 : vm_fe S (k + 1) = vm_fe S k + S.2 11 k := by show vm_fe S k + _ = _; rw [if_pos h2]
    omega
  have hfd : I 224 (vm_fe S k + e) = vl_I 1 := by have z := (h.2.2.2.2.2.2.2.1 k e hk h2 he).1; rw [hf] at z; exact z
  refine jv_Wp.lift (fun _ Kz => jv_Ev.steps jv_i368 2 (pc' := 2) (l' := [(0, .ref 178), (1, .int (vl_I q))]) (st' := [.int (vl_I q), .ref 178]) rfl Kz) ?_
  refine jv_Wp.lift (fun _ Kz => jv_Ev.c jv_i368 (pc' := 5) (S' := [.int (vl_I (vm_fe S k + e))]) jv_i366 [.ref 178, .int (vl_I q)] rfl rfl rfl rfl (jv_cal rfl (jv_H_at (jv_rwK hW 178 14 31 (by decide))) rfl rfl) rfl hO rfl rfl Kz) ?_
  refine jv_Wp.lift (fun _ Kz => jv_Ev.steps jv_i368 3 (pc' := 8) (l' := [(2, .int (vl_I (vm_fe S k + e))), (0, .ref 178), (1, .int (vl_I q))]) (st' := [.int (-1 : Int32), .int (vl_I (vm_fe S k + e))]) rfl Kz) ?_
  refine jv_Wp.cnd jv_i368 (pt := 24) (pe := 11) (p := ((vl_I (vm_fe S k + e)) = (-1 : Int32))) (q := ((vl_I (vm_fe S k + e)) = (-1 : Int32))) rfl jv_bc_eq rfl rfl Iff.rfl (fun hz => absurd hz (vl_I_n1 (by omega))) (fun _ => ?_)
  refine jv_Wp.lift (fun _ Kz => jv_Ev.steps jv_i368 1 (pc' := 12) (l' := [(2, .int (vl_I (vm_fe S k + e))), (0, .ref 178), (1, .int (vl_I q))]) (st' := [.int (vl_I (vm_fe S k + e))]) rfl Kz) ?_
  refine jv_Wp.cnd jv_i368 (pt := 28) (pe := 15) (p := ((vl_I (vm_fe S k + e)) < 0)) (q := ((vl_I (vm_fe S k + e)) < 0)) rfl jv_bi_lt rfl rfl Iff.rfl (fun hz => absurd hz (vl_I_n0 (by omega))) (fun _ => ?_)
  refine jv_Wp.lift (fun _ Kz => jv_Ev.steps jv_i368 1 (pc' := 16) (l' := [(2, .int (vl_I (vm_fe S k + e))), (0, .ref 178), (1, .int (vl_I q))]) (st' := [.ref 178]) rfl Kz) ?_
  refine jv_Wp.lift (fun _ Kz => jv_Ev.m jv_i368 (pc' := 19) (st' := [.ref 224]) (G' := (jv_H K I L R)) rfl rfl (jv_m_getR (jv_rwK hW 178 14 31 (by decide)) rfl rfl (jv_rwR hW 178 18 224 (by decide))) Kz) ?_
  refine jv_Wp.lift (fun _ Kz => jv_Ev.steps jv_i368 1 (pc' := 20) (l' := [(2, .int (vl_I (vm_fe S k + e))), (0, .ref 178), (1, .int (vl_I q))]) (st' := [.int (vl_I (vm_fe S k + e)), .ref 224]) rfl Kz) ?_
  refine jv_Wp.lift (fun _ Kz => jv_Ev.m jv_i368 (pc' := 21) (st' := [.int (vl_I 1)]) (G' := (jv_H K I L R)) rfl rfl (jv_m_baldv (jv_rwK hW 224 100 8192 (by decide)) rfl (vl_I_ix (by omega) (by decide)) rfl ((congrArg (I 224) (vl_I_nat (by omega))).trans hfd)) Kz) ?_
  refine jv_Wp.cnd jv_i368 (pt := 28) (pe := 24) (p := ((vl_I 1) = 0)) (q := ((vl_I 1) = 0)) rfl jv_bi_eq rfl rfl Iff.rfl (fun hz => absurd hz (by decide)) (fun _ => ?_)
  refine jv_Wp.lift (fun _ Kz => jv_Ev.steps jv_i368 2 (pc' := 29) (l' := [(2, .int (vl_I (vm_fe S k + e))), (0, .ref 178), (1, .int (vl_I q))]) (st' := [.int (1 : Int32)]) rfl Kz) ?_
  refine jv_Wp.of (jv_Ev.ret jv_i368 rfl (jv_ret_b (Or.inr rfl))) ?_
  exact hQ
theorem vr_isFound1 {K : Nat → Option (Nat × Nat)} {I : Nat → Nat → Int32} {L : Nat → Nat → Int64} {R : Nat → Nat → Value} (hW : jv_rW K R) {S : vm_S} (hs : vm_sh S) (h : vm_r I L S) {q k e : Nat} (hk : k < vm_cnt S) (h2 : S.2 8 k = 1) (he : e < S.2 11 k) (hq1 : vm_at S k e ≤ q) (hq2 : q < vm_at S k e + S.2 10 k) (hf : S.2 7 (4096 * k + e) = 1) {n sl : Nat} : jv_Ms 368 [.ref 178, .int (vl_I q)] (jv_H K I L R) n sl (some (.int (1 : Int32)), jv_H K I L R, n, sl) := by
  obtain ⟨X, k, e⟩ := vr_isFound1_0 (n := n) (sl := sl) (I := I) (L := L) (Q := fun X => X = (some (.int (1 : Int32)), jv_H K I L R, n, sl)) hW hs h hk h2 he hq1 hq2 hf rfl
  subst e
  exact k
theorem vr_isFound {K : Nat → Option (Nat × Nat)} {I : Nat → Nat → Int32} {L : Nat → Nat → Int64} {R : Nat → Nat → Value} (hW : jv_rW K R) {S : vm_S} (hs : vm_sh S) (h : vm_r I L S) {q : Nat} (hl : vm_led S q) {n sl : Nat} : jv_Ms 368 [.ref 178, .int (vl_I q)] (jv_H K I L R) n sl (some (.int (1 : Int32)), jv_H K I L R, n, sl) := by
  obtain ⟨k, e, hk, h2, he, a, b, c⟩ := vr_led_c hs hl
  rcases c with c | ⟨c, d⟩
  · exact vr_isFound0 hW hs h hk c he a b
  · exact vr_isFound1 hW hs h hk c he a b d
theorem jv_i374 : jv_I 374 2 (some .long) 1 21 jv_c374 := ⟨rfl, rfl, rfl, rfl, rfl⟩
theorem vr_readR_0 {K : Nat → Option (Nat × Nat)} {I : Nat → Nat → Int32} {L : Nat → Nat → Int64} {R : Nat → Nat → Value} (hW : jv_rW K R) {S : vm_S} (h : vm_r I L S) {r : Nat} (hr : r < 11) {v : Int64} (hg : vm_rd S r = some v) {n sl : Nat} {Q : jv_R → Prop} (hQ : Q (some (.long v), jv_H K I L R, n, sl)) : jv_Wp 374 0 [(0, .ref 178), (1, .int (vl_I r))] [] (jv_H K I L R) n sl Q := by
  have hg1 : S.2 1 r = 1 := by
    unfold vm_rd at hg
    by_cases c : S.2 1 r = 1
    · exact c
    · rw [if_neg c] at hg; cases hg
  have hv : L 220 r = v := by
    unfold vm_rd at hg; rw [if_pos hg1] at hg
    exact (h.2.2.1 r hr hg1).trans (Option.some.inj hg)
  have hg0 : ¬ (I 221 r) = 0 := by rw [(h.2.1 r hr).1, hg1]; decide
  refine jv_Wp.lift (fun _ Kz => jv_Ev.steps jv_i374 2 (pc' := 2) (l' := [(0, .ref 178), (1, .int (vl_I r))]) (st' := [.ref 178, .ref 178]) rfl Kz) ?_
  refine jv_Wp.lift (fun _ Kz => jv_Ev.m jv_i374 (pc' := 5) (st' := [.ref 221, .ref 178]) (G' := (jv_H K I L R)) rfl rfl (jv_m_getR (jv_rwK hW 178 14 31 (by decide)) rfl rfl (jv_rwR hW 178 15 221 (by decide))) Kz) ?_
  refine jv_Wp.lift (fun _ Kz => jv_Ev.steps jv_i374 1 (pc' := 6) (l' := [(0, .ref 178), (1, .int (vl_I r))]) (st' := [.int (vl_I r), .ref 221, .ref 178]) rfl Kz) ?_
  refine jv_Wp.lift (fun _ Kz => jv_Ev.m jv_i374 (pc' := 7) (st' := [.int (I 221 r), .ref 178]) (G' := (jv_H K I L R)) rfl rfl (jv_m_baldv (jv_rwK hW 221 100 11 (by decide)) rfl (vl_I_ix (by omega) (by decide)) rfl ((congrArg (I 221) (vl_I_nat (by omega))).trans rfl)) Kz) ?_
  refine jv_Wp.cnd jv_i374 (pt := 14) (pe := 10) (p := (¬ (I 221 r) = 0)) (q := (¬ (I 221 r) = 0)) rfl jv_bi_ne rfl rfl Iff.rfl (fun _ => ?_) (fun hz => absurd hg0 hz)
  refine jv_Wp.lift (fun _ Kz => jv_Ev.steps jv_i374 1 (pc' := 15) (l' := [(0, .ref 178), (1, .int (vl_I r))]) (st' := [.int (0 : Int32), .ref 178]) rfl Kz) ?_
  refine jv_Wp.lift (fun _ Kz => jv_Ev.c jv_i374 (pc' := 18) (S' := []) jv_i365 [.ref 178, .int (0 : Int32)] rfl rfl rfl rfl (jv_cal rfl (jv_H_at (jv_rwK hW 178 14 31 (by decide))) rfl rfl) rfl (vr_count0 (n := n) (sl := sl) hW) rfl rfl Kz) ?_
  refine jv_Wp.lift (fun _ Kz => jv_Ev.steps jv_i374 1 (pc' := 19) (l' := [(0, .ref 178), (1, .int (vl_I r))]) (st' := [.ref 178]) rfl Kz) ?_
  refine jv_Wp.lift (fun _ Kz => jv_Ev.m jv_i374 (pc' := 22) (st' := [.ref 220]) (G' := (jv_H K I L R)) rfl rfl (jv_m_getR (jv_rwK hW 178 14 31 (by decide)) rfl rfl (jv_rwR hW 178 14 220 (by decide))) Kz) ?_
  refine jv_Wp.lift (fun _ Kz => jv_Ev.steps jv_i374 1 (pc' := 23) (l' := [(0, .ref 178), (1, .int (vl_I r))]) (st' := [.int (vl_I r), .ref 220]) rfl Kz) ?_
  refine jv_Wp.lift (fun _ Kz => jv_Ev.m jv_i374 (pc' := 24) (st' := [.long (L 220 r)]) (G' := (jv_H K I L R)) rfl rfl (jv_m_laldv (jv_rwK hW 220 103 11 (by decide)) rfl (vl_I_ix (by omega) (by decide)) rfl ((congrArg (L 220) (vl_I_nat (by omega))).trans rfl)) Kz) ?_
  refine jv_Wp.of (jv_Ev.ret jv_i374 rfl rfl) ?_
  rw [hv]
  exact hQ
theorem vr_readR {K : Nat → Option (Nat × Nat)} {I : Nat → Nat → Int32} {L : Nat → Nat → Int64} {R : Nat → Nat → Value} (hW : jv_rW K R) {S : vm_S} (h : vm_r I L S) {r : Nat} (hr : r < 11) {v : Int64} (hg : vm_rd S r = some v) {n sl : Nat} : jv_Ms 374 [.ref 178, .int (vl_I r)] (jv_H K I L R) n sl (some (.long v), jv_H K I L R, n, sl) := by
  obtain ⟨X, k, e⟩ := vr_readR_0 (n := n) (sl := sl) (I := I) (L := L) (Q := fun X => X = (some (.long v), jv_H K I L R, n, sl)) hW h hr hg rfl
  subst e
  exact k
theorem jv_i375 : jv_I 375 4 none 0 0 jv_c375 := ⟨rfl, rfl, rfl, rfl, rfl⟩
theorem vr_give_0 {K : Nat → Option (Nat × Nat)} {I : Nat → Nat → Int32} {L : Nat → Nat → Int64} {R : Nat → Nat → Value} (hW : jv_rW K R) {r : Nat} (hr : r < 11) {v : Int64} {n sl : Nat} {Q : jv_R → Prop} (hQ : Q (none, jv_H K (jv_u I 221 r 1) (jv_u L 220 r v) R, n, sl)) : jv_Wp 375 0 [(0, .ref 178), (1, .int (vl_I r)), (2, .long v)] [] (jv_H K I L R) n sl Q := by
  refine jv_Wp.lift (fun _ Kz => jv_Ev.steps jv_i375 1 (pc' := 1) (l' := [(0, .ref 178), (1, .int (vl_I r)), (2, .long v)]) (st' := [.ref 178]) rfl Kz) ?_
  refine jv_Wp.lift (fun _ Kz => jv_Ev.m jv_i375 (pc' := 4) (st' := [.ref 221]) (G' := (jv_H K I L R)) rfl rfl (jv_m_getR (jv_rwK hW 178 14 31 (by decide)) rfl rfl (jv_rwR hW 178 15 221 (by decide))) Kz) ?_
  refine jv_Wp.lift (fun _ Kz => jv_Ev.steps jv_i375 2 (pc' := 6) (l' := [(0, .ref 178), (1, .int (vl_I r)), (2, .long v)]) (st' := [.int (1 : Int32), .int (vl_I r), .ref 221]) rfl Kz) ?_
  refine jv_Wp.lift (fun _ Kz => jv_Ev.m jv_i375 (pc' := 7) (st' := []) (G' := (jv_H K (jv_u I 221 r ((1 : Int32) &&& 1)) L R)) rfl rfl (by rw [jv_m_zast (jv_rwK hW 221 100 11 (by decide)) (vl_I_ix (by omega) (by decide)), (vl_I_nat (by omega))]) Kz) ?_
  refine jv_Wp.lift (fun _ Kz => jv_Ev.steps jv_i375 1 (pc' := 8) (l' := [(0, .ref 178), (1, .int (vl_I r)), (2, .long v)]) (st' := [.ref 178]) rfl Kz) ?_
  refine jv_Wp.lift (fun _ Kz => jv_Ev.m jv_i375 (pc' := 11) (st' := [.ref 220]) (G' := (jv_H K (jv_u I 221 r ((1 : Int32) &&& 1)) L R)) rfl rfl (jv_m_getR (jv_rwK hW 178 14 31 (by decide)) rfl rfl (jv_rwR hW 178 14 220 (by decide))) Kz) ?_
  refine jv_Wp.lift (fun _ Kz => jv_Ev.steps jv_i375 2 (pc' := 13) (l' := [(0, .ref 178), (1, .int (vl_I r)), (2, .long v)]) (st' := [.long v, .int (vl_I r), .ref 220]) rfl Kz) ?_
  refine jv_Wp.lift (fun _ Kz => jv_Ev.m jv_i375 (pc' := 14) (st' := []) (G' := (jv_H K (jv_u I 221 r ((1 : Int32) &&& 1)) (jv_u L 220 r v) R)) rfl rfl (by rw [jv_m_last (jv_rwK hW 220 103 11 (by decide)) (vl_I_ix (by omega) (by decide)), (vl_I_nat (by omega))]) Kz) ?_
  refine jv_Wp.of (jv_Ev.ret jv_i375 rfl rfl) ?_
  exact hQ
theorem vr_give {K : Nat → Option (Nat × Nat)} {I : Nat → Nat → Int32} {L : Nat → Nat → Int64} {R : Nat → Nat → Value} (hW : jv_rW K R) {r : Nat} (hr : r < 11) {v : Int64} {n sl : Nat} : jv_Ms 375 [.ref 178, .int (vl_I r), .long v] (jv_H K I L R) n sl (none, jv_H K (jv_u I 221 r 1) (jv_u L 220 r v) R, n, sl) := by
  obtain ⟨X, k, e⟩ := vr_give_0 (n := n) (sl := sl) (I := I) (L := L) (Q := fun X => X = (none, jv_H K (jv_u I 221 r 1) (jv_u L 220 r v) R, n, sl)) hW hr rfl
  subst e
  exact k
theorem jv_i369 : jv_I 369 4 (some .int) 3 67 jv_c369 := ⟨rfl, rfl, rfl, rfl, rfl⟩
theorem vr_get_s_0 {K : Nat → Option (Nat × Nat)} {I : Nat → Nat → Int32} {L : Nat → Nat → Int64} {R : Nat → Nat → Value} (hW : jv_rW K R) {S : vm_S} (hs : vm_sh S) (h : vm_r I L S) {k : Nat} (hk : k < 512) (hex : S.2 3 k = 1) {n sl : Nat} {Q : jv_R → Prop} (hQ : Q (some (.int (I 222 k)), jv_H K I L R, n, sl)) : jv_Wp 369 0 [(0, .ref 178), (1, .long (vm_a 1073749504 k))] [] (jv_H K I L R) n sl Q := by
  have hs0 := h.1.2
  have hsz : ((1073741824 : Int64) + (I 178 11).toInt64).toInt = 1073741824 + (vm_size S : Int) := vm_psz (by decide) h.1.1 hs0
  have hw0 : ¬ (I 223 k) = 0 := by rw [(h.2.2.2.1 k hk).1, hex]; decide
  refine jv_Wp.lift (fun _ Kz => jv_Ev.steps jv_i369 3 (pc' := 7) (l' := [(0, .ref 178), (1, .long (vm_a 1073749504 k))]) (st' := [.long (512 : Int64), .long (1073749504 : Int64), .long (vm_a 1073749504 k)]) rfl Kz) ?_
  refine jv_Wp.lift (fun _ Kz => jv_Ev.c jv_i369 (pc' := 10) (S' := [.int (1 : Int32)]) jv_i367 [.long (vm_a 1073749504 k), .long (1073749504 : Int64), .long (512 : Int64)] rfl rfl rfl rfl rfl rfl (vr_isIn_t (a := (vm_a 1073749504 k)) (by rw [vm_a_int (by decide) (by omega), (show (1073749504 : Int64).toInt = 1073749504 from by decide), (show ((1073749504 : Int64) + (512 : Int64)).toInt = 1073750016 from by decide)]; omega)) rfl rfl Kz) ?_
  refine jv_Wp.lift (fun _ Kz => jv_Ev.br jv_i369 (pc' := 13) (st' := []) rfl (by rfl) Kz) ?_
  refine jv_Wp.lift (fun _ Kz => jv_Ev.steps jv_i369 9 (pc' := 26) (l' := [(3, .int (((vm_a 1073749504 k) - (1073750016 : Int64)).toInt32 + (512 : Int32))), (0, .ref 178), (1, .long (vm_a 1073749504 k))]) (st' := [.ref 178, .ref 178]) rfl Kz) ?_
  refine jv_Wp.lift (fun _ Kz => jv_Ev.m jv_i369 (pc' := 29) (st' := [.ref 223, .ref 178]) (G' := (jv_H K I L R)) rfl rfl (jv_m_getR (jv_rwK hW 178 14 31 (by decide)) rfl rfl (jv_rwR hW 178 17 223 (by decide))) Kz) ?_
  refine jv_Wp.lift (fun _ Kz => jv_Ev.steps jv_i369 1 (pc' := 30) (l' := [(3, .int (((vm_a 1073749504 k) - (1073750016 : Int64)).toInt32 + (512 : Int32))), (0, .ref 178), (1, .long (vm_a 1073749504 k))]) (st' := [.int (((vm_a 1073749504 k) - (1073750016 : Int64)).toInt32 + (512 : Int32)), .ref 223, .ref 178]) rfl Kz) ?_
  refine jv_Wp.lift (fun _ Kz => jv_Ev.m jv_i369 (pc' := 31) (st' := [.int (I 223 k), .ref 178]) (G' := (jv_H K I L R)) rfl rfl (jv_m_baldv (jv_rwK hW 223 100 512 (by decide)) rfl (by rw [show (((vm_a 1073749504 k) - (1073750016 : Int64)).toInt32 + (512 : Int32)) = vl_I (k) from (vm_a_stk (by omega))]; exact vl_I_ix (by omega) (by first | omega | decide)) rfl ((congrArg (I 223) (show (((vm_a 1073749504 k) - (1073750016 : Int64)).toInt32 + (512 : Int32)).toNatClampNeg = k from by rw [show (((vm_a 1073749504 k) - (1073750016 : Int64)).toInt32 + (512 : Int32)) = vl_I (k) from (vm_a_stk (by omega))]; exact vl_I_nat (by omega))).trans rfl)) Kz) ?_
  refine jv_Wp.cnd jv_i369 (pt := 38) (pe := 34) (p := (¬ (I 223 k) = 0)) (q := (¬ (I 223 k) = 0)) rfl jv_bi_ne rfl rfl Iff.rfl (fun _ => ?_) (fun hz => absurd hw0 hz)
  refine jv_Wp.lift (fun _ Kz => jv_Ev.steps jv_i369 1 (pc' := 39) (l' := [(3, .int (((vm_a 1073749504 k) - (1073750016 : Int64)).toInt32 + (512 : Int32))), (0, .ref 178), (1, .long (vm_a 1073749504 k))]) (st' := [.int (0 : Int32), .ref 178]) rfl Kz) ?_
  refine jv_Wp.lift (fun _ Kz => jv_Ev.c jv_i369 (pc' := 42) (S' := []) jv_i365 [.ref 178, .int (0 : Int32)] rfl rfl rfl rfl (jv_cal rfl (jv_H_at (jv_rwK hW 178 14 31 (by decide))) rfl rfl) rfl (vr_count0 (I := I) (L := L) (n := n) (sl := sl) hW) rfl rfl Kz) ?_
  refine jv_Wp.lift (fun _ Kz => jv_Ev.steps jv_i369 1 (pc' := 43) (l' := [(3, .int (((vm_a 1073749504 k) - (1073750016 : Int64)).toInt32 + (512 : Int32))), (0, .ref 178), (1, .long (vm_a 1073749504 k))]) (st' := [.ref 178]) rfl Kz) ?_
  refine jv_Wp.lift (fun _ Kz => jv_Ev.m jv_i369 (pc' := 46) (st' := [.ref 222]) (G' := (jv_H K I L R)) rfl rfl (jv_m_getR (jv_rwK hW 178 14 31 (by decide)) rfl rfl (jv_rwR hW 178 16 222 (by decide))) Kz) ?_
  refine jv_Wp.lift (fun _ Kz => jv_Ev.steps jv_i369 1 (pc' := 47) (l' := [(3, .int (((vm_a 1073749504 k) - (1073750016 : Int64)).toInt32 + (512 : Int32))), (0, .ref 178), (1, .long (vm_a 1073749504 k))]) (st' := [.int (((vm_a 1073749504 k) - (1073750016 : Int64)).toInt32 + (512 : Int32)), .ref 222]) rfl Kz) ?_
  refine jv_Wp.lift (fun _ Kz => jv_Ev.m jv_i369 (pc' := 48) (st' := [.int (I 222 k)]) (G' := (jv_H K I L R)) rfl rfl (jv_m_ialdv (jv_rwK hW 222 102 512 (by decide)) rfl (by rw [show (((vm_a 1073749504 k) - (1073750016 : Int64)).toInt32 + (512 : Int32)) = vl_I (k) from (vm_a_stk (by omega))]; exact vl_I_ix (by omega) (by first | omega | decide)) rfl ((congrArg (I 222) (show (((vm_a 1073749504 k) - (1073750016 : Int64)).toInt32 + (512 : Int32)).toNatClampNeg = k from by rw [show (((vm_a 1073749504 k) - (1073750016 : Int64)).toInt32 + (512 : Int32)) = vl_I (k) from (vm_a_stk (by omega))]; exact vl_I_nat (by omega))).trans rfl)) Kz) ?_
  refine jv_Wp.of (jv_Ev.ret jv_i369 rfl rfl) ?_
  exact hQ
theorem vr_get_s {K : Nat → Option (Nat × Nat)} {I : Nat → Nat → Int32} {L : Nat → Nat → Int64} {R : Nat → Nat → Value} (hW : jv_rW K R) {S : vm_S} (hs : vm_sh S) (h : vm_r I L S) {k : Nat} (hk : k < 512) (hex : S.2 3 k = 1) {n sl : Nat} : jv_Ms 369 [.ref 178, .long (vm_a 1073749504 k)] (jv_H K I L R) n sl (some (.int (I 222 k)), jv_H K I L R, n, sl) := by
  obtain ⟨X, k, e⟩ := vr_get_s_0 (n := n) (sl := sl) (I := I) (L := L) (Q := fun X => X = (some (.int (I 222 k)), jv_H K I L R, n, sl)) hW hs h hk hex rfl
  subst e
  exact k
theorem vr_get_p_0 {K : Nat → Option (Nat × Nat)} {I : Nat → Nat → Int32} {L : Nat → Nat → Int64} {R : Nat → Nat → Value} (hW : jv_rW K R) {S : vm_S} (hs : vm_sh S) (h : vm_r I L S) {k : Nat} (hk : k < vm_size S) {n sl : Nat} {Q : jv_R → Prop} (hQ : Q (some (.int (I 218 k)), jv_H K I L R, n, sl)) : jv_Wp 369 0 [(0, .ref 178), (1, .long (vm_a 1073741824 k))] [] (jv_H K I L R) n sl Q := by
  have hs0 := h.1.2
  have hsz : ((1073741824 : Int64) + (I 178 11).toInt64).toInt = 1073741824 + (vm_size S : Int) := vm_psz (by decide) h.1.1 hs0
  refine jv_Wp.lift (fun _ Kz => jv_Ev.steps jv_i369 3 (pc' := 7) (l' := [(0, .ref 178), (1, .long (vm_a 1073741824 k))]) (st' := [.long (512 : Int64), .long (1073749504 : Int64), .long (vm_a 1073741824 k)]) rfl Kz) ?_
  refine jv_Wp.lift (fun _ Kz => jv_Ev.c jv_i369 (pc' := 10) (S' := [.int (0 : Int32)]) jv_i367 [.long (vm_a 1073741824 k), .long (1073749504 : Int64), .long (512 : Int64)] rfl rfl rfl rfl rfl rfl (vr_isIn_f (a := (vm_a 1073741824 k)) (by rw [vm_a_int (by decide) (by omega), (show (1073749504 : Int64).toInt = 1073749504 from by decide), (show ((1073749504 : Int64) + (512 : Int64)).toInt = 1073750016 from by decide)]; omega)) rfl rfl Kz) ?_
  refine jv_Wp.lift (fun _ Kz => jv_Ev.br jv_i369 (pc' := 49) (st' := []) rfl (by rfl) Kz) ?_
  refine jv_Wp.lift (fun _ Kz => jv_Ev.steps jv_i369 3 (pc' := 54) (l' := [(0, .ref 178), (1, .long (vm_a 1073741824 k))]) (st' := [.ref 178, .long (1073741824 : Int64), .long (vm_a 1073741824 k)]) rfl Kz) ?_
  refine jv_Wp.lift (fun _ Kz => jv_Ev.m jv_i369 (pc' := 57) (st' := [.int (I 178 11), .long (1073741824 : Int64), .long (vm_a 1073741824 k)]) (G' := (jv_H K I L R)) rfl rfl (jv_m_getI (jv_rwK hW 178 14 31 (by decide)) rfl rfl rfl) Kz) ?_
  refine jv_Wp.lift (fun _ Kz => jv_Ev.steps jv_i369 1 (pc' := 58) (l' := [(0, .ref 178), (1, .long (vm_a 1073741824 k))]) (st' := [.long (I 178 11).toInt64, .long (1073741824 : Int64), .long (vm_a 1073741824 k)]) rfl Kz) ?_
  refine jv_Wp.lift (fun _ Kz => jv_Ev.c jv_i369 (pc' := 61) (S' := [.int (1 : Int32)]) jv_i367 [.long (vm_a 1073741824 k), .long (1073741824 : Int64), .long (I 178 11).toInt64] rfl rfl rfl rfl rfl rfl (vr_isIn_t (a := (vm_a 1073741824 k)) (by rw [vm_a_int (by decide) (by omega), (show (1073741824 : Int64).toInt = 1073741824 from by decide), hsz]; omega)) rfl rfl Kz) ?_
  refine jv_Wp.lift (fun _ Kz => jv_Ev.br jv_i369 (pc' := 64) (st' := []) rfl (by rfl) Kz) ?_
  refine jv_Wp.lift (fun _ Kz => jv_Ev.steps jv_i369 1 (pc' := 65) (l' := [(0, .ref 178), (1, .long (vm_a 1073741824 k))]) (st' := [.ref 178]) rfl Kz) ?_
  refine jv_Wp.lift (fun _ Kz => jv_Ev.m jv_i369 (pc' := 68) (st' := [.ref 218]) (G' := (jv_H K I L R)) rfl rfl (jv_m_getR (jv_rwK hW 178 14 31 (by decide)) rfl rfl (jv_rwR hW 178 10 218 (by decide))) Kz) ?_
  refine jv_Wp.lift (fun _ Kz => jv_Ev.steps jv_i369 4 (pc' := 74) (l' := [(0, .ref 178), (1, .long (vm_a 1073741824 k))]) (st' := [.int ((vm_a 1073741824 k) - (1073741824 : Int64)).toInt32, .ref 218]) rfl Kz) ?_
  refine jv_Wp.lift (fun _ Kz => jv_Ev.m jv_i369 (pc' := 75) (st' := [.int (I 218 k)]) (G' := (jv_H K I L R)) rfl rfl (jv_m_ialdv (jv_rwK hW 218 102 2048 (by decide)) rfl (by rw [show ((vm_a 1073741824 k) - (1073741824 : Int64)).toInt32 = vl_I (k) from (vm_a_sub (d := 0) (by decide) (by decide) (by omega) (by decide))]; exact vl_I_ix (by omega) (by first | omega | decide)) rfl ((congrArg (I 218) (show ((vm_a 1073741824 k) - (1073741824 : Int64)).toInt32.toNatClampNeg = k from by rw [show ((vm_a 1073741824 k) - (1073741824 : Int64)).toInt32 = vl_I (k) from (vm_a_sub (d := 0) (by decide) (by decide) (by omega) (by decide))]; exact vl_I_nat (by omega))).trans rfl)) Kz) ?_
  refine jv_Wp.of (jv_Ev.ret jv_i369 rfl rfl) ?_
  exact hQ
theorem vr_get_p {K : Nat → Option (Nat × Nat)} {I : Nat → Nat → Int32} {L : Nat → Nat → Int64} {R : Nat → Nat → Value} (hW : jv_rW K R) {S : vm_S} (hs : vm_sh S) (h : vm_r I L S) {k : Nat} (hk : k < vm_size S) {n sl : Nat} : jv_Ms 369 [.ref 178, .long (vm_a 1073741824 k)] (jv_H K I L R) n sl (some (.int (I 218 k)), jv_H K I L R, n, sl) := by
  obtain ⟨X, k, e⟩ := vr_get_p_0 (n := n) (sl := sl) (I := I) (L := L) (Q := fun X => X = (some (.int (I 218 k)), jv_H K I L R, n, sl)) hW hs h hk rfl
  subst e
  exact k
theorem vr_get_c_0 {K : Nat → Option (Nat × Nat)} {I : Nat → Nat → Int32} {L : Nat → Nat → Int64} {R : Nat → Nat → Value} (hW : jv_rW K R) {S : vm_S} (hs : vm_sh S) (h : vm_r I L S) {k : Nat} (hk : k < 64) {n sl : Nat} {Q : jv_R → Prop} (hQ : Q (some (.int (I 219 k)), jv_H K I L R, n, sl)) : jv_Wp 369 0 [(0, .ref 178), (1, .long (vm_a 1073745920 k))] [] (jv_H K I L R) n sl Q := by
  have hs0 := h.1.2
  have hsz : ((1073741824 : Int64) + (I 178 11).toInt64).toInt = 1073741824 + (vm_size S : Int) := vm_psz (by decide) h.1.1 hs0
  refine jv_Wp.lift (fun _ Kz => jv_Ev.steps jv_i369 3 (pc' := 7) (l' := [(0, .ref 178), (1, .long (vm_a 1073745920 k))]) (st' := [.long (512 : Int64), .long (1073749504 : Int64), .long (vm_a 1073745920 k)]) rfl Kz) ?_
  refine jv_Wp.lift (fun _ Kz => jv_Ev.c jv_i369 (pc' := 10) (S' := [.int (0 : Int32)]) jv_i367 [.long (vm_a 1073745920 k), .long (1073749504 : Int64), .long (512 : Int64)] rfl rfl rfl rfl rfl rfl (vr_isIn_f (a := (vm_a 1073745920 k)) (by rw [vm_a_int (by decide) (by omega), (show (1073749504 : Int64).toInt = 1073749504 from by decide), (show ((1073749504 : Int64) + (512 : Int64)).toInt = 1073750016 from by decide)]; omega)) rfl rfl Kz) ?_
  refine jv_Wp.lift (fun _ Kz => jv_Ev.br jv_i369 (pc' := 49) (st' := []) rfl (by rfl) Kz) ?_
  refine jv_Wp.lift (fun _ Kz => jv_Ev.steps jv_i369 3 (pc' := 54) (l' := [(0, .ref 178), (1, .long (vm_a 1073745920 k))]) (st' := [.ref 178, .long (1073741824 : Int64), .long (vm_a 1073745920 k)]) rfl Kz) ?_
  refine jv_Wp.lift (fun _ Kz => jv_Ev.m jv_i369 (pc' := 57) (st' := [.int (I 178 11), .long (1073741824 : Int64), .long (vm_a 1073745920 k)]) (G' := (jv_H K I L R)) rfl rfl (jv_m_getI (jv_rwK hW 178 14 31 (by decide)) rfl rfl rfl) Kz) ?_
  refine jv_Wp.lift (fun _ Kz => jv_Ev.steps jv_i369 1 (pc' := 58) (l' := [(0, .ref 178), (1, .long (vm_a 1073745920 k))]) (st' := [.long (I 178 11).toInt64, .long (1073741824 : Int64), .long (vm_a 1073745920 k)]) rfl Kz) ?_
  refine jv_Wp.lift (fun _ Kz => jv_Ev.c jv_i369 (pc' := 61) (S' := [.int (0 : Int32)]) jv_i367 [.long (vm_a 1073745920 k), .long (1073741824 : Int64), .long (I 178 11).toInt64] rfl rfl rfl rfl rfl rfl (vr_isIn_f (a := (vm_a 1073745920 k)) (by rw [vm_a_int (by decide) (by omega), (show (1073741824 : Int64).toInt = 1073741824 from by decide), hsz]; omega)) rfl rfl Kz) ?_
  refine jv_Wp.lift (fun _ Kz => jv_Ev.br jv_i369 (pc' := 76) (st' := []) rfl (by rfl) Kz) ?_
  refine jv_Wp.lift (fun _ Kz => jv_Ev.steps jv_i369 3 (pc' := 83) (l' := [(0, .ref 178), (1, .long (vm_a 1073745920 k))]) (st' := [.long (64 : Int64), .long (1073745920 : Int64), .long (vm_a 1073745920 k)]) rfl Kz) ?_
  refine jv_Wp.lift (fun _ Kz => jv_Ev.c jv_i369 (pc' := 86) (S' := [.int (1 : Int32)]) jv_i367 [.long (vm_a 1073745920 k), .long (1073745920 : Int64), .long (64 : Int64)] rfl rfl rfl rfl rfl rfl (vr_isIn_t (a := (vm_a 1073745920 k)) (by rw [vm_a_int (by decide) (by omega), (show (1073745920 : Int64).toInt = 1073745920 from by decide), (show ((1073745920 : Int64) + (64 : Int64)).toInt = 1073745984 from by decide)]; omega)) rfl rfl Kz) ?_
  refine jv_Wp.lift (fun _ Kz => jv_Ev.br jv_i369 (pc' := 89) (st' := []) rfl (by rfl) Kz) ?_
  refine jv_Wp.lift (fun _ Kz => jv_Ev.steps jv_i369 1 (pc' := 90) (l' := [(0, .ref 178), (1, .long (vm_a 1073745920 k))]) (st' := [.ref 178]) rfl Kz) ?_
  refine jv_Wp.lift (fun _ Kz => jv_Ev.m jv_i369 (pc' := 93) (st' := [.ref 219]) (G' := (jv_H K I L R)) rfl rfl (jv_m_getR (jv_rwK hW 178 14 31 (by decide)) rfl rfl (jv_rwR hW 178 12 219 (by decide))) Kz) ?_
  refine jv_Wp.lift (fun _ Kz => jv_Ev.steps jv_i369 4 (pc' := 99) (l' := [(0, .ref 178), (1, .long (vm_a 1073745920 k))]) (st' := [.int ((vm_a 1073745920 k) - (1073745920 : Int64)).toInt32, .ref 219]) rfl Kz) ?_
  refine jv_Wp.lift (fun _ Kz => jv_Ev.m jv_i369 (pc' := 100) (st' := [.int (I 219 k)]) (G' := (jv_H K I L R)) rfl rfl (jv_m_ialdv (jv_rwK hW 219 102 64 (by decide)) rfl (by rw [show ((vm_a 1073745920 k) - (1073745920 : Int64)).toInt32 = vl_I (k) from (vm_a_sub (d := 0) (by decide) (by decide) (by omega) (by decide))]; exact vl_I_ix (by omega) (by first | omega | decide)) rfl ((congrArg (I 219) (show ((vm_a 1073745920 k) - (1073745920 : Int64)).toInt32.toNatClampNeg = k from by rw [show ((vm_a 1073745920 k) - (1073745920 : Int64)).toInt32 = vl_I (k) from (vm_a_sub (d := 0) (by decide) (by decide) (by omega) (by decide))]; exact vl_I_nat (by omega))).trans rfl)) Kz) ?_
  refine jv_Wp.of (jv_Ev.ret jv_i369 rfl rfl) ?_
  exact hQ
theorem vr_get_c {K : Nat → Option (Nat × Nat)} {I : Nat → Nat → Int32} {L : Nat → Nat → Int64} {R : Nat → Nat → Value} (hW : jv_rW K R) {S : vm_S} (hs : vm_sh S) (h : vm_r I L S) {k : Nat} (hk : k < 64) {n sl : Nat} : jv_Ms 369 [.ref 178, .long (vm_a 1073745920 k)] (jv_H K I L R) n sl (some (.int (I 219 k)), jv_H K I L R, n, sl) := by
  obtain ⟨X, k, e⟩ := vr_get_c_0 (n := n) (sl := sl) (I := I) (L := L) (Q := fun X => X = (some (.int (I 219 k)), jv_H K I L R, n, sl)) hW hs h hk rfl
  subst e
  exact k
theorem vr_get_a_0 {K : Nat → Option (Nat × Nat)} {I : Nat → Nat → Int32} {L : Nat → Nat → Int64} {R : Nat → Nat → Value} (hW : jv_rW K R) {S : vm_S} (hs : vm_sh S) (h : vm_r I L S) {k : Nat} (hk : k < 65536) (hex : vm_led S k) {n sl : Nat} {Q : jv_R → Prop} (hQ : Q (some (.int ((I 182 k) &&& (255 : Int32))), jv_H K I L R, n, sl)) : jv_Wp 369 0 [(0, .ref 178), (1, .long (vm_a 1073758208 k))] [] (jv_H K I L R) n sl Q := by
  have hs0 := h.1.2
  have hsz : ((1073741824 : Int64) + (I 178 11).toInt64).toInt = 1073741824 + (vm_size S : Int) := vm_psz (by decide) h.1.1 hs0
  refine jv_Wp.lift (fun _ Kz => jv_Ev.steps jv_i369 3 (pc' := 7) (l' := [(0, .ref 178), (1, .long (vm_a 1073758208 k))]) (st' := [.long (512 : Int64), .long (1073749504 : Int64), .long (vm_a 1073758208 k)]) rfl Kz) ?_
  refine jv_Wp.lift (fun _ Kz => jv_Ev.c jv_i369 (pc' := 10) (S' := [.int (0 : Int32)]) jv_i367 [.long (vm_a 1073758208 k), .long (1073749504 : Int64), .long (512 : Int64)] rfl rfl rfl rfl rfl rfl (vr_isIn_f (a := (vm_a 1073758208 k)) (by rw [vm_a_int (by decide) (by omega), (show (1073749504 : Int64).toInt = 1073749504 from by decide), (show ((1073749504 : Int64) + (512 : Int64)).toInt = 1073750016 from by decide)]; omega)) rfl rfl Kz) ?_
  refine jv_Wp.lift (fun _ Kz => jv_Ev.br jv_i369 (pc' := 49) (st' := []) rfl (by rfl) Kz) ?_
  refine jv_Wp.lift (fun _ Kz => jv_Ev.steps jv_i369 3 (pc' := 54) (l' := [(0, .ref 178), (1, .long (vm_a 1073758208 k))]) (st' := [.ref 178, .long (1073741824 : Int64), .long (vm_a 1073758208 k)]) rfl Kz) ?_
  refine jv_Wp.lift (fun _ Kz => jv_Ev.m jv_i369 (pc' := 57) (st' := [.int (I 178 11), .long (1073741824 : Int64), .long (vm_a 1073758208 k)]) (G' := (jv_H K I L R)) rfl rfl (jv_m_getI (jv_rwK hW 178 14 31 (by decide)) rfl rfl rfl) Kz) ?_
  refine jv_Wp.lift (fun _ Kz => jv_Ev.steps jv_i369 1 (pc' := 58) (l' := [(0, .ref 178), (1, .long (vm_a 1073758208 k))]) (st' := [.long (I 178 11).toInt64, .long (1073741824 : Int64), .long (vm_a 1073758208 k)]) rfl Kz) ?_
  refine jv_Wp.lift (fun _ Kz => jv_Ev.c jv_i369 (pc' := 61) (S' := [.int (0 : Int32)]) jv_i367 [.long (vm_a 1073758208 k), .long (1073741824 : Int64), .long (I 178 11).toInt64] rfl rfl rfl rfl rfl rfl (vr_isIn_f (a := (vm_a 1073758208 k)) (by rw [vm_a_int (by decide) (by omega), (show (1073741824 : Int64).toInt = 1073741824 from by decide), hsz]; omega)) rfl rfl Kz) ?_
  refine jv_Wp.lift (fun _ Kz => jv_Ev.br jv_i369 (pc' := 76) (st' := []) rfl (by rfl) Kz) ?_
  refine jv_Wp.lift (fun _ Kz => jv_Ev.steps jv_i369 3 (pc' := 83) (l' := [(0, .ref 178), (1, .long (vm_a 1073758208 k))]) (st' := [.long (64 : Int64), .long (1073745920 : Int64), .long (vm_a 1073758208 k)]) rfl Kz) ?_
  refine jv_Wp.lift (fun _ Kz => jv_Ev.c jv_i369 (pc' := 86) (S' := [.int (0 : Int32)]) jv_i367 [.long (vm_a 1073758208 k), .long (1073745920 : Int64), .long (64 : Int64)] rfl rfl rfl rfl rfl rfl (vr_isIn_f (a := (vm_a 1073758208 k)) (by rw [vm_a_int (by decide) (by omega), (show (1073745920 : Int64).toInt = 1073745920 from by decide), (show ((1073745920 : Int64) + (64 : Int64)).toInt = 1073745984 from by decide)]; omega)) rfl rfl Kz) ?_
  refine jv_Wp.lift (fun _ Kz => jv_Ev.br jv_i369 (pc' := 101) (st' := []) rfl (by rfl) Kz) ?_
  refine jv_Wp.lift (fun _ Kz => jv_Ev.steps jv_i369 3 (pc' := 108) (l' := [(0, .ref 178), (1, .long (vm_a 1073758208 k))]) (st' := [.long (65536 : Int64), .long (1073758208 : Int64), .long (vm_a 1073758208 k)]) rfl Kz) ?_
  refine jv_Wp.lift (fun _ Kz => jv_Ev.c jv_i369 (pc' := 111) (S' := [.int (1 : Int32)]) jv_i367 [.long (vm_a 1073758208 k), .long (1073758208 : Int64), .long (65536 : Int64)] rfl rfl rfl rfl rfl rfl (vr_isIn_t (a := (vm_a 1073758208 k)) (by rw [vm_a_int (by decide) (by omega), (show (1073758208 : Int64).toInt = 1073758208 from by decide), (show ((1073758208 : Int64) + (65536 : Int64)).toInt = 1073823744 from by decide)]; omega)) rfl rfl Kz) ?_
  refine jv_Wp.lift (fun _ Kz => jv_Ev.steps jv_i369 3 (pc' := 114) (l' := [(3, .int (1 : Int32)), (0, .ref 178), (1, .long (vm_a 1073758208 k))]) (st' := [.int (1 : Int32), .ref 178]) rfl Kz) ?_
  refine jv_Wp.lift (fun _ Kz => jv_Ev.br jv_i369 (pc' := 117) (st' := [.ref 178]) rfl (by rfl) Kz) ?_
  refine jv_Wp.lift (fun _ Kz => jv_Ev.steps jv_i369 5 (pc' := 124) (l' := [(3, .int (1 : Int32)), (0, .ref 178), (1, .long (vm_a 1073758208 k))]) (st' := [.int ((vm_a 1073758208 k) - (1073758208 : Int64)).toInt32, .ref 178, .ref 178]) rfl Kz) ?_
  refine jv_Wp.lift (fun _ Kz => jv_Ev.c jv_i369 (pc' := 127) (S' := [.int (1 : Int32), .ref 178]) jv_i368 [.ref 178, .int ((vm_a 1073758208 k) - (1073758208 : Int64)).toInt32] rfl rfl rfl rfl (jv_cal rfl (jv_H_at (jv_rwK hW 178 14 31 (by decide))) rfl rfl) rfl (show jv_Ms 368 [.ref 178, .int ((vm_a 1073758208 k) - (1073758208 : Int64)).toInt32] _ _ _ _ from by rw [show _ = vl_I k from (vm_a_sub (d := 0) (by decide) (by decide) (by omega) (by decide))]; exact vr_isFound hW hs h hex) rfl rfl Kz) ?_
  refine jv_Wp.lift (fun _ Kz => jv_Ev.br jv_i369 (pc' := 134) (st' := [.ref 178]) rfl (by rfl) Kz) ?_
  refine jv_Wp.lift (fun _ Kz => jv_Ev.steps jv_i369 1 (pc' := 135) (l' := [(3, .int (1 : Int32)), (0, .ref 178), (1, .long (vm_a 1073758208 k))]) (st' := [.int (0 : Int32), .ref 178]) rfl Kz) ?_
  refine jv_Wp.lift (fun _ Kz => jv_Ev.c jv_i369 (pc' := 138) (S' := []) jv_i365 [.ref 178, .int (0 : Int32)] rfl rfl rfl rfl (jv_cal rfl (jv_H_at (jv_rwK hW 178 14 31 (by decide))) rfl rfl) rfl (vr_count0 (I := I) (L := L) (n := n) (sl := sl) hW) rfl rfl Kz) ?_
  refine jv_Wp.lift (fun _ Kz => jv_Ev.steps jv_i369 1 (pc' := 139) (l' := [(3, .int (1 : Int32)), (0, .ref 178), (1, .long (vm_a 1073758208 k))]) (st' := [.int (1 : Int32)]) rfl Kz) ?_
  refine jv_Wp.lift (fun _ Kz => jv_Ev.br jv_i369 (pc' := 142) (st' := []) rfl (by rfl) Kz) ?_
  refine jv_Wp.lift (fun _ Kz => jv_Ev.steps jv_i369 1 (pc' := 143) (l' := [(3, .int (1 : Int32)), (0, .ref 178), (1, .long (vm_a 1073758208 k))]) (st' := [.ref 178]) rfl Kz) ?_
  refine jv_Wp.lift (fun _ Kz => jv_Ev.m jv_i369 (pc' := 146) (st' := [.ref 180]) (G' := (jv_H K I L R)) rfl rfl (jv_m_getR (jv_rwK hW 178 14 31 (by decide)) rfl rfl (jv_rwR hW 178 3 180 (by decide))) Kz) ?_
  refine jv_Wp.lift (fun _ Kz => jv_Ev.m jv_i369 (pc' := 149) (st' := [.ref 182]) (G' := (jv_H K I L R)) rfl rfl (jv_m_getR (jv_rwK hW 180 13 22 (by decide)) rfl rfl (jv_rwR hW 180 3 182 (by decide))) Kz) ?_
  refine jv_Wp.lift (fun _ Kz => jv_Ev.steps jv_i369 4 (pc' := 155) (l' := [(3, .int (1 : Int32)), (0, .ref 178), (1, .long (vm_a 1073758208 k))]) (st' := [.int ((vm_a 1073758208 k) - (1073758208 : Int64)).toInt32, .ref 182]) rfl Kz) ?_
  refine jv_Wp.lift (fun _ Kz => jv_Ev.m jv_i369 (pc' := 156) (st' := [.int (I 182 k)]) (G' := (jv_H K I L R)) rfl rfl (jv_m_baldv (jv_rwK hW 182 101 65536 (by decide)) rfl (by rw [show ((vm_a 1073758208 k) - (1073758208 : Int64)).toInt32 = vl_I (k) from (vm_a_sub (d := 0) (by decide) (by decide) (by omega) (by decide))]; exact vl_I_ix (by omega) (by first | omega | decide)) rfl ((congrArg (I 182) (show ((vm_a 1073758208 k) - (1073758208 : Int64)).toInt32.toNatClampNeg = k from by rw [show ((vm_a 1073758208 k) - (1073758208 : Int64)).toInt32 = vl_I (k) from (vm_a_sub (d := 0) (by decide) (by decide) (by omega) (by decide))]; exact vl_I_nat (by omega))).trans rfl)) Kz) ?_
  refine jv_Wp.lift (fun _ Kz => jv_Ev.steps jv_i369 3 (pc' := 164) (l' := [(3, .int (1 : Int32)), (0, .ref 178), (1, .long (vm_a 1073758208 k))]) (st' := [.int ((I 182 k) &&& (255 : Int32))]) rfl Kz) ?_
  refine jv_Wp.of (jv_Ev.ret jv_i369 rfl rfl) ?_
  exact hQ
theorem vr_get_a {K : Nat → Option (Nat × Nat)} {I : Nat → Nat → Int32} {L : Nat → Nat → Int64} {R : Nat → Nat → Value} (hW : jv_rW K R) {S : vm_S} (hs : vm_sh S) (h : vm_r I L S) {k : Nat} (hk : k < 65536) (hex : vm_led S k) {n sl : Nat} : jv_Ms 369 [.ref 178, .long (vm_a 1073758208 k)] (jv_H K I L R) n sl (some (.int ((I 182 k) &&& (255 : Int32))), jv_H K I L R, n, sl) := by
  obtain ⟨X, k, e⟩ := vr_get_a_0 (n := n) (sl := sl) (I := I) (L := L) (Q := fun X => X = (some (.int ((I 182 k) &&& (255 : Int32))), jv_H K I L R, n, sl)) hW hs h hk hex rfl
  subst e
  exact k
theorem jv_i370 : jv_I 370 5 none 3 67 jv_c370 := ⟨rfl, rfl, rfl, rfl, rfl⟩
theorem vr_set_s_0 {K : Nat → Option (Nat × Nat)} {I : Nat → Nat → Int32} {L : Nat → Nat → Int64} {R : Nat → Nat → Value} (hW : jv_rW K R) {S : vm_S} (hs : vm_sh S) (h : vm_r I L S) {k : Nat} (hk : k < 512) {b : Nat} (hb : b < 256) {n sl : Nat} {Q : jv_R → Prop} (hQ : Q (none, jv_H K (jv_u (jv_u I 223 k 1) 222 k (vl_I b)) L R, n, sl)) : jv_Wp 370 0 [(0, .ref 178), (1, .long (vm_a 1073749504 k)), (3, .int (vl_I b))] [] (jv_H K I L R) n sl Q := by
  have hs0 := h.1.2
  have hsz : ((1073741824 : Int64) + (I 178 11).toInt64).toInt = 1073741824 + (vm_size S : Int) := vm_psz (by decide) h.1.1 hs0
  refine jv_Wp.lift (fun _ Kz => jv_Ev.steps jv_i370 3 (pc' := 7) (l' := [(0, .ref 178), (1, .long (vm_a 1073749504 k)), (3, .int (vl_I b))]) (st' := [.long (512 : Int64), .long (1073749504 : Int64), .long (vm_a 1073749504 k)]) rfl Kz) ?_
  refine jv_Wp.lift (fun _ Kz => jv_Ev.c jv_i370 (pc' := 10) (S' := [.int (1 : Int32)]) jv_i367 [.long (vm_a 1073749504 k), .long (1073749504 : Int64), .long (512 : Int64)] rfl rfl rfl rfl rfl rfl (vr_isIn_t (a := (vm_a 1073749504 k)) (by rw [vm_a_int (by decide) (by omega), (show (1073749504 : Int64).toInt = 1073749504 from by decide), (show ((1073749504 : Int64) + (512 : Int64)).toInt = 1073750016 from by decide)]; omega)) rfl rfl Kz) ?_
  refine jv_Wp.lift (fun _ Kz => jv_Ev.br jv_i370 (pc' := 13) (st' := []) rfl (by rfl) Kz) ?_
  refine jv_Wp.lift (fun _ Kz => jv_Ev.steps jv_i370 8 (pc' := 26) (l' := [(4, .int (((vm_a 1073749504 k) - (1073750016 : Int64)).toInt32 + (512 : Int32))), (0, .ref 178), (1, .long (vm_a 1073749504 k)), (3, .int (vl_I b))]) (st' := [.ref 178]) rfl Kz) ?_
  refine jv_Wp.lift (fun _ Kz => jv_Ev.m jv_i370 (pc' := 29) (st' := [.ref 223]) (G' := (jv_H K I L R)) rfl rfl (jv_m_getR (jv_rwK hW 178 14 31 (by decide)) rfl rfl (jv_rwR hW 178 17 223 (by decide))) Kz) ?_
  refine jv_Wp.lift (fun _ Kz => jv_Ev.steps jv_i370 2 (pc' := 32) (l' := [(4, .int (((vm_a 1073749504 k) - (1073750016 : Int64)).toInt32 + (512 : Int32))), (0, .ref 178), (1, .long (vm_a 1073749504 k)), (3, .int (vl_I b))]) (st' := [.int (1 : Int32), .int (((vm_a 1073749504 k) - (1073750016 : Int64)).toInt32 + (512 : Int32)), .ref 223]) rfl Kz) ?_
  refine jv_Wp.lift (fun _ Kz => jv_Ev.m jv_i370 (pc' := 33) (st' := []) (G' := (jv_H K (jv_u I 223 k ((1 : Int32) &&& 1)) L R)) rfl rfl (by rw [jv_m_zast (jv_rwK hW 223 100 512 (by decide)) (by rw [show (((vm_a 1073749504 k) - (1073750016 : Int64)).toInt32 + (512 : Int32)) = vl_I (k) from (vm_a_stk (by omega))]; exact vl_I_ix (by omega) (by first | omega | decide)), (show (((vm_a 1073749504 k) - (1073750016 : Int64)).toInt32 + (512 : Int32)).toNatClampNeg = k from by rw [show (((vm_a 1073749504 k) - (1073750016 : Int64)).toInt32 + (512 : Int32)) = vl_I (k) from (vm_a_stk (by omega))]; exact vl_I_nat (by omega))]) Kz) ?_
  refine jv_Wp.lift (fun _ Kz => jv_Ev.steps jv_i370 1 (pc' := 34) (l' := [(4, .int (((vm_a 1073749504 k) - (1073750016 : Int64)).toInt32 + (512 : Int32))), (0, .ref 178), (1, .long (vm_a 1073749504 k)), (3, .int (vl_I b))]) (st' := [.ref 178]) rfl Kz) ?_
  refine jv_Wp.lift (fun _ Kz => jv_Ev.m jv_i370 (pc' := 37) (st' := [.ref 222]) (G' := (jv_H K (jv_u I 223 k ((1 : Int32) &&& 1)) L R)) rfl rfl (jv_m_getR (jv_rwK hW 178 14 31 (by decide)) rfl rfl (jv_rwR hW 178 16 222 (by decide))) Kz) ?_
  refine jv_Wp.lift (fun _ Kz => jv_Ev.steps jv_i370 2 (pc' := 40) (l' := [(4, .int (((vm_a 1073749504 k) - (1073750016 : Int64)).toInt32 + (512 : Int32))), (0, .ref 178), (1, .long (vm_a 1073749504 k)), (3, .int (vl_I b))]) (st' := [.int (vl_I b), .int (((vm_a 1073749504 k) - (1073750016 : Int64)).toInt32 + (512 : Int32)), .ref 222]) rfl Kz) ?_
  refine jv_Wp.lift (fun _ Kz => jv_Ev.m jv_i370 (pc' := 41) (st' := []) (G' := (jv_H K (jv_u (jv_u I 223 k ((1 : Int32) &&& 1)) 222 k (vl_I b)) L R)) rfl rfl (by rw [jv_m_iast (jv_rwK hW 222 102 512 (by decide)) (by rw [show (((vm_a 1073749504 k) - (1073750016 : Int64)).toInt32 + (512 : Int32)) = vl_I (k) from (vm_a_stk (by omega))]; exact vl_I_ix (by omega) (by first | omega | decide)), (show (((vm_a 1073749504 k) - (1073750016 : Int64)).toInt32 + (512 : Int32)).toNatClampNeg = k from by rw [show (((vm_a 1073749504 k) - (1073750016 : Int64)).toInt32 + (512 : Int32)) = vl_I (k) from (vm_a_stk (by omega))]; exact vl_I_nat (by omega))]) Kz) ?_
  refine jv_Wp.lift (fun _ Kz => jv_Ev.steps jv_i370 1 (pc' := 162) (l' := [(4, .int (((vm_a 1073749504 k) - (1073750016 : Int64)).toInt32 + (512 : Int32))), (0, .ref 178), (1, .long (vm_a 1073749504 k)), (3, .int (vl_I b))]) (st' := []) rfl Kz) ?_
  refine jv_Wp.of (jv_Ev.ret jv_i370 rfl rfl) ?_
  exact hQ
theorem vr_set_s {K : Nat → Option (Nat × Nat)} {I : Nat → Nat → Int32} {L : Nat → Nat → Int64} {R : Nat → Nat → Value} (hW : jv_rW K R) {S : vm_S} (hs : vm_sh S) (h : vm_r I L S) {k : Nat} (hk : k < 512) {b : Nat} (hb : b < 256) {n sl : Nat} : jv_Ms 370 [.ref 178, .long (vm_a 1073749504 k), .int (vl_I b)] (jv_H K I L R) n sl (none, jv_H K (jv_u (jv_u I 223 k 1) 222 k (vl_I b)) L R, n, sl) := by
  obtain ⟨X, k, e⟩ := vr_set_s_0 (n := n) (sl := sl) (I := I) (L := L) (Q := fun X => X = (none, jv_H K (jv_u (jv_u I 223 k 1) 222 k (vl_I b)) L R, n, sl)) hW hs h hk hb rfl
  subst e
  exact k
theorem vr_set_p_0 {K : Nat → Option (Nat × Nat)} {I : Nat → Nat → Int32} {L : Nat → Nat → Int64} {R : Nat → Nat → Value} (hW : jv_rW K R) {S : vm_S} (hs : vm_sh S) (h : vm_r I L S) {k : Nat} (hk : k < vm_size S) {b : Nat} (hb : b < 256) {n sl : Nat} {Q : jv_R → Prop} (hQ : Q (none, jv_H K (jv_u I 218 k (vl_I b)) L R, n, sl)) : jv_Wp 370 0 [(0, .ref 178), (1, .long (vm_a 1073741824 k)), (3, .int (vl_I b))] [] (jv_H K I L R) n sl Q := by
  have hs0 := h.1.2
  have hsz : ((1073741824 : Int64) + (I 178 11).toInt64).toInt = 1073741824 + (vm_size S : Int) := vm_psz (by decide) h.1.1 hs0
  refine jv_Wp.lift (fun _ Kz => jv_Ev.steps jv_i370 3 (pc' := 7) (l' := [(0, .ref 178), (1, .long (vm_a 1073741824 k)), (3, .int (vl_I b))]) (st' := [.long (512 : Int64), .long (1073749504 : Int64), .long (vm_a 1073741824 k)]) rfl Kz) ?_
  refine jv_Wp.lift (fun _ Kz => jv_Ev.c jv_i370 (pc' := 10) (S' := [.int (0 : Int32)]) jv_i367 [.long (vm_a 1073741824 k), .long (1073749504 : Int64), .long (512 : Int64)] rfl rfl rfl rfl rfl rfl (vr_isIn_f (a := (vm_a 1073741824 k)) (by rw [vm_a_int (by decide) (by omega), (show (1073749504 : Int64).toInt = 1073749504 from by decide), (show ((1073749504 : Int64) + (512 : Int64)).toInt = 1073750016 from by decide)]; omega)) rfl rfl Kz) ?_
  refine jv_Wp.lift (fun _ Kz => jv_Ev.br jv_i370 (pc' := 44) (st' := []) rfl (by rfl) Kz) ?_
  refine jv_Wp.lift (fun _ Kz => jv_Ev.steps jv_i370 3 (pc' := 49) (l' := [(0, .ref 178), (1, .long (vm_a 1073741824 k)), (3, .int (vl_I b))]) (st' := [.ref 178, .long (1073741824 : Int64), .long (vm_a 1073741824 k)]) rfl Kz) ?_
  refine jv_Wp.lift (fun _ Kz => jv_Ev.m jv_i370 (pc' := 52) (st' := [.int (I 178 11), .long (1073741824 : Int64), .long (vm_a 1073741824 k)]) (G' := (jv_H K I L R)) rfl rfl (jv_m_getI (jv_rwK hW 178 14 31 (by decide)) rfl rfl rfl) Kz) ?_
  refine jv_Wp.lift (fun _ Kz => jv_Ev.steps jv_i370 1 (pc' := 53) (l' := [(0, .ref 178), (1, .long (vm_a 1073741824 k)), (3, .int (vl_I b))]) (st' := [.long (I 178 11).toInt64, .long (1073741824 : Int64), .long (vm_a 1073741824 k)]) rfl Kz) ?_
  refine jv_Wp.lift (fun _ Kz => jv_Ev.c jv_i370 (pc' := 56) (S' := [.int (1 : Int32)]) jv_i367 [.long (vm_a 1073741824 k), .long (1073741824 : Int64), .long (I 178 11).toInt64] rfl rfl rfl rfl rfl rfl (vr_isIn_t (a := (vm_a 1073741824 k)) (by rw [vm_a_int (by decide) (by omega), (show (1073741824 : Int64).toInt = 1073741824 from by decide), hsz]; omega)) rfl rfl Kz) ?_
  refine jv_Wp.lift (fun _ Kz => jv_Ev.br jv_i370 (pc' := 59) (st' := []) rfl (by rfl) Kz) ?_
  refine jv_Wp.lift (fun _ Kz => jv_Ev.steps jv_i370 1 (pc' := 60) (l' := [(0, .ref 178), (1, .long (vm_a 1073741824 k)), (3, .int (vl_I b))]) (st' := [.ref 178]) rfl Kz) ?_
  refine jv_Wp.lift (fun _ Kz => jv_Ev.m jv_i370 (pc' := 63) (st' := [.ref 218]) (G' := (jv_H K I L R)) rfl rfl (jv_m_getR (jv_rwK hW 178 14 31 (by decide)) rfl rfl (jv_rwR hW 178 10 218 (by decide))) Kz) ?_
  refine jv_Wp.lift (fun _ Kz => jv_Ev.steps jv_i370 5 (pc' := 70) (l' := [(0, .ref 178), (1, .long (vm_a 1073741824 k)), (3, .int (vl_I b))]) (st' := [.int (vl_I b), .int ((vm_a 1073741824 k) - (1073741824 : Int64)).toInt32, .ref 218]) rfl Kz) ?_
  refine jv_Wp.lift (fun _ Kz => jv_Ev.m jv_i370 (pc' := 71) (st' := []) (G' := (jv_H K (jv_u I 218 k (vl_I b)) L R)) rfl rfl (by rw [jv_m_iast (jv_rwK hW 218 102 2048 (by decide)) (by rw [show ((vm_a 1073741824 k) - (1073741824 : Int64)).toInt32 = vl_I (k) from (vm_a_sub (d := 0) (by decide) (by decide) (by omega) (by decide))]; exact vl_I_ix (by omega) (by first | omega | decide)), (show ((vm_a 1073741824 k) - (1073741824 : Int64)).toInt32.toNatClampNeg = k from by rw [show ((vm_a 1073741824 k) - (1073741824 : Int64)).toInt32 = vl_I (k) from (vm_a_sub (d := 0) (by decide) (by decide) (by omega) (by decide))]; exact vl_I_nat (by omega))]) Kz) ?_
  refine jv_Wp.lift (fun _ Kz => jv_Ev.steps jv_i370 1 (pc' := 162) (l' := [(0, .ref 178), (1, .long (vm_a 1073741824 k)), (3, .int (vl_I b))]) (st' := []) rfl Kz) ?_
  refine jv_Wp.of (jv_Ev.ret jv_i370 rfl rfl) ?_
  exact hQ
theorem vr_set_p {K : Nat → Option (Nat × Nat)} {I : Nat → Nat → Int32} {L : Nat → Nat → Int64} {R : Nat → Nat → Value} (hW : jv_rW K R) {S : vm_S} (hs : vm_sh S) (h : vm_r I L S) {k : Nat} (hk : k < vm_size S) {b : Nat} (hb : b < 256) {n sl : Nat} : jv_Ms 370 [.ref 178, .long (vm_a 1073741824 k), .int (vl_I b)] (jv_H K I L R) n sl (none, jv_H K (jv_u I 218 k (vl_I b)) L R, n, sl) := by
  obtain ⟨X, k, e⟩ := vr_set_p_0 (n := n) (sl := sl) (I := I) (L := L) (Q := fun X => X = (none, jv_H K (jv_u I 218 k (vl_I b)) L R, n, sl)) hW hs h hk hb rfl
  subst e
  exact k
theorem vr_set_c_0 {K : Nat → Option (Nat × Nat)} {I : Nat → Nat → Int32} {L : Nat → Nat → Int64} {R : Nat → Nat → Value} (hW : jv_rW K R) {S : vm_S} (hs : vm_sh S) (h : vm_r I L S) {k : Nat} (hk : k < 64) {b : Nat} (hb : b < 256) {n sl : Nat} {Q : jv_R → Prop} (hQ : Q (none, jv_H K (jv_u I 219 k (vl_I b)) L R, n, sl)) : jv_Wp 370 0 [(0, .ref 178), (1, .long (vm_a 1073745920 k)), (3, .int (vl_I b))] [] (jv_H K I L R) n sl Q := by
  have hs0 := h.1.2
  have hsz : ((1073741824 : Int64) + (I 178 11).toInt64).toInt = 1073741824 + (vm_size S : Int) := vm_psz (by decide) h.1.1 hs0
  refine jv_Wp.lift (fun _ Kz => jv_Ev.steps jv_i370 3 (pc' := 7) (l' := [(0, .ref 178), (1, .long (vm_a 1073745920 k)), (3, .int (vl_I b))]) (st' := [.long (512 : Int64), .long (1073749504 : Int64), .long (vm_a 1073745920 k)]) rfl Kz) ?_
  refine jv_Wp.lift (fun _ Kz => jv_Ev.c jv_i370 (pc' := 10) (S' := [.int (0 : Int32)]) jv_i367 [.long (vm_a 1073745920 k), .long (1073749504 : Int64), .long (512 : Int64)] rfl rfl rfl rfl rfl rfl (vr_isIn_f (a := (vm_a 1073745920 k)) (by rw [vm_a_int (by decide) (by omega), (show (1073749504 : Int64).toInt = 1073749504 from by decide), (show ((1073749504 : Int64) + (512 : Int64)).toInt = 1073750016 from by decide)]; omega)) rfl rfl Kz) ?_
  refine jv_Wp.lift (fun _ Kz => jv_Ev.br jv_i370 (pc' := 44) (st' := []) rfl (by rfl) Kz) ?_
  refine jv_Wp.lift (fun _ Kz => jv_Ev.steps jv_i370 3 (pc' := 49) (l' := [(0, .ref 178), (1, .long (vm_a 1073745920 k)), (3, .int (vl_I b))]) (st' := [.ref 178, .long (1073741824 : Int64), .long (vm_a 1073745920 k)]) rfl Kz) ?_
  refine jv_Wp.lift (fun _ Kz => jv_Ev.m jv_i370 (pc' := 52) (st' := [.int (I 178 11), .long (1073741824 : Int64), .long (vm_a 1073745920 k)]) (G' := (jv_H K I L R)) rfl rfl (jv_m_getI (jv_rwK hW 178 14 31 (by decide)) rfl rfl rfl) Kz) ?_
  refine jv_Wp.lift (fun _ Kz => jv_Ev.steps jv_i370 1 (pc' := 53) (l' := [(0, .ref 178), (1, .long (vm_a 1073745920 k)), (3, .int (vl_I b))]) (st' := [.long (I 178 11).toInt64, .long (1073741824 : Int64), .long (vm_a 1073745920 k)]) rfl Kz) ?_
  refine jv_Wp.lift (fun _ Kz => jv_Ev.c jv_i370 (pc' := 56) (S' := [.int (0 : Int32)]) jv_i367 [.long (vm_a 1073745920 k), .long (1073741824 : Int64), .long (I 178 11).toInt64] rfl rfl rfl rfl rfl rfl (vr_isIn_f (a := (vm_a 1073745920 k)) (by rw [vm_a_int (by decide) (by omega), (show (1073741824 : Int64).toInt = 1073741824 from by decide), hsz]; omega)) rfl rfl Kz) ?_
  refine jv_Wp.lift (fun _ Kz => jv_Ev.br jv_i370 (pc' := 74) (st' := []) rfl (by rfl) Kz) ?_
  refine jv_Wp.lift (fun _ Kz => jv_Ev.steps jv_i370 3 (pc' := 81) (l' := [(0, .ref 178), (1, .long (vm_a 1073745920 k)), (3, .int (vl_I b))]) (st' := [.long (64 : Int64), .long (1073745920 : Int64), .long (vm_a 1073745920 k)]) rfl Kz) ?_
  refine jv_Wp.lift (fun _ Kz => jv_Ev.c jv_i370 (pc' := 84) (S' := [.int (1 : Int32)]) jv_i367 [.long (vm_a 1073745920 k), .long (1073745920 : Int64), .long (64 : Int64)] rfl rfl rfl rfl rfl rfl (vr_isIn_t (a := (vm_a 1073745920 k)) (by rw [vm_a_int (by decide) (by omega), (show (1073745920 : Int64).toInt = 1073745920 from by decide), (show ((1073745920 : Int64) + (64 : Int64)).toInt = 1073745984 from by decide)]; omega)) rfl rfl Kz) ?_
  refine jv_Wp.lift (fun _ Kz => jv_Ev.br jv_i370 (pc' := 87) (st' := []) rfl (by rfl) Kz) ?_
  refine jv_Wp.lift (fun _ Kz => jv_Ev.steps jv_i370 1 (pc' := 88) (l' := [(0, .ref 178), (1, .long (vm_a 1073745920 k)), (3, .int (vl_I b))]) (st' := [.ref 178]) rfl Kz) ?_
  refine jv_Wp.lift (fun _ Kz => jv_Ev.m jv_i370 (pc' := 91) (st' := [.ref 219]) (G' := (jv_H K I L R)) rfl rfl (jv_m_getR (jv_rwK hW 178 14 31 (by decide)) rfl rfl (jv_rwR hW 178 12 219 (by decide))) Kz) ?_
  refine jv_Wp.lift (fun _ Kz => jv_Ev.steps jv_i370 5 (pc' := 98) (l' := [(0, .ref 178), (1, .long (vm_a 1073745920 k)), (3, .int (vl_I b))]) (st' := [.int (vl_I b), .int ((vm_a 1073745920 k) - (1073745920 : Int64)).toInt32, .ref 219]) rfl Kz) ?_
  refine jv_Wp.lift (fun _ Kz => jv_Ev.m jv_i370 (pc' := 99) (st' := []) (G' := (jv_H K (jv_u I 219 k (vl_I b)) L R)) rfl rfl (by rw [jv_m_iast (jv_rwK hW 219 102 64 (by decide)) (by rw [show ((vm_a 1073745920 k) - (1073745920 : Int64)).toInt32 = vl_I (k) from (vm_a_sub (d := 0) (by decide) (by decide) (by omega) (by decide))]; exact vl_I_ix (by omega) (by first | omega | decide)), (show ((vm_a 1073745920 k) - (1073745920 : Int64)).toInt32.toNatClampNeg = k from by rw [show ((vm_a 1073745920 k) - (1073745920 : Int64)).toInt32 = vl_I (k) from (vm_a_sub (d := 0) (by decide) (by decide) (by omega) (by decide))]; exact vl_I_nat (by omega))]) Kz) ?_
  refine jv_Wp.lift (fun _ Kz => jv_Ev.steps jv_i370 1 (pc' := 162) (l' := [(0, .ref 178), (1, .long (vm_a 1073745920 k)), (3, .int (vl_I b))]) (st' := []) rfl Kz) ?_
  refine jv_Wp.of (jv_Ev.ret jv_i370 rfl rfl) ?_
  exact hQ
theorem vr_set_c {K : Nat → Option (Nat × Nat)} {I : Nat → Nat → Int32} {L : Nat → Nat → Int64} {R : Nat → Nat → Value} (hW : jv_rW K R) {S : vm_S} (hs : vm_sh S) (h : vm_r I L S) {k : Nat} (hk : k < 64) {b : Nat} (hb : b < 256) {n sl : Nat} : jv_Ms 370 [.ref 178, .long (vm_a 1073745920 k), .int (vl_I b)] (jv_H K I L R) n sl (none, jv_H K (jv_u I 219 k (vl_I b)) L R, n, sl) := by
  obtain ⟨X, k, e⟩ := vr_set_c_0 (n := n) (sl := sl) (I := I) (L := L) (Q := fun X => X = (none, jv_H K (jv_u I 219 k (vl_I b)) L R, n, sl)) hW hs h hk hb rfl
  subst e
  exact k
theorem vr_set_a_0 {K : Nat → Option (Nat × Nat)} {I : Nat → Nat → Int32} {L : Nat → Nat → Int64} {R : Nat → Nat → Value} (hW : jv_rW K R) {S : vm_S} (hs : vm_sh S) (h : vm_r I L S) {k : Nat} (hk : k < 65536) (hex : vm_led S k) {b : Nat} (hb : b < 256) {n sl : Nat} {Q : jv_R → Prop} (hQ : Q (none, jv_H K (jv_u I 182 k (vl_sb b)) L R, n, sl)) : jv_Wp 370 0 [(0, .ref 178), (1, .long (vm_a 1073758208 k)), (3, .int (vl_I b))] [] (jv_H K I L R) n sl Q := by
  have hs0 := h.1.2
  have hsz : ((1073741824 : Int64) + (I 178 11).toInt64).toInt = 1073741824 + (vm_size S : Int) := vm_psz (by decide) h.1.1 hs0
  refine jv_Wp.lift (fun _ Kz => jv_Ev.steps jv_i370 3 (pc' := 7) (l' := [(0, .ref 178), (1, .long (vm_a 1073758208 k)), (3, .int (vl_I b))]) (st' := [.long (512 : Int64), .long (1073749504 : Int64), .long (vm_a 1073758208 k)]) rfl Kz) ?_
  refine jv_Wp.lift (fun _ Kz => jv_Ev.c jv_i370 (pc' := 10) (S' := [.int (0 : Int32)]) jv_i367 [.long (vm_a 1073758208 k), .long (1073749504 : Int64), .long (512 : Int64)] rfl rfl rfl rfl rfl rfl (vr_isIn_f (a := (vm_a 1073758208 k)) (by rw [vm_a_int (by decide) (by omega), (show (1073749504 : Int64).toInt = 1073749504 from by decide), (show ((1073749504 : Int64) + (512 : Int64)).toInt = 1073750016 from by decide)]; omega)) rfl rfl Kz) ?_
  refine jv_Wp.lift (fun _ Kz => jv_Ev.br jv_i370 (pc' := 44) (st' := []) rfl (by rfl) Kz) ?_
  refine jv_Wp.lift (fun _ Kz => jv_Ev.steps jv_i370 3 (pc' := 49) (l' := [(0, .ref 178), (1, .long (vm_a 1073758208 k)), (3, .int (vl_I b))]) (st' := [.ref 178, .long (1073741824 : Int64), .long (vm_a 1073758208 k)]) rfl Kz) ?_
  refine jv_Wp.lift (fun _ Kz => jv_Ev.m jv_i370 (pc' := 52) (st' := [.int (I 178 11), .long (1073741824 : Int64), .long (vm_a 1073758208 k)]) (G' := (jv_H K I L R)) rfl rfl (jv_m_getI (jv_rwK hW 178 14 31 (by decide)) rfl rfl rfl) Kz) ?_
  refine jv_Wp.lift (fun _ Kz => jv_Ev.steps jv_i370 1 (pc' := 53) (l' := [(0, .ref 178), (1, .long (vm_a 1073758208 k)), (3, .int (vl_I b))]) (st' := [.long (I 178 11).toInt64, .long (1073741824 : Int64), .long (vm_a 1073758208 k)]) rfl Kz) ?_
  refine jv_Wp.lift (fun _ Kz => jv_Ev.c jv_i370 (pc' := 56) (S' := [.int (0 : Int32)]) jv_i367 [.long (vm_a 1073758208 k), .long (1073741824 : Int64), .long (I 178 11).toInt64] rfl rfl rfl rfl rfl rfl (vr_isIn_f (a := (vm_a 1073758208 k)) (by rw [vm_a_int (by decide) (by omega), (show (1073741824 : Int64).toInt = 1073741824 from by decide), hsz]; omega)) rfl rfl Kz) ?_
  refine jv_Wp.lift (fun _ Kz => jv_Ev.br jv_i370 (pc' := 74) (st' := []) rfl (by rfl) Kz) ?_
  refine jv_Wp.lift (fun _ Kz => jv_Ev.steps jv_i370 3 (pc' := 81) (l' := [(0, .ref 178), (1, .long (vm_a 1073758208 k)), (3, .int (vl_I b))]) (st' := [.long (64 : Int64), .long (1073745920 : Int64), .long (vm_a 1073758208 k)]) rfl Kz) ?_
  refine jv_Wp.lift (fun _ Kz => jv_Ev.c jv_i370 (pc' := 84) (S' := [.int (0 : Int32)]) jv_i367 [.long (vm_a 1073758208 k), .long (1073745920 : Int64), .long (64 : Int64)] rfl rfl rfl rfl rfl rfl (vr_isIn_f (a := (vm_a 1073758208 k)) (by rw [vm_a_int (by decide) (by omega), (show (1073745920 : Int64).toInt = 1073745920 from by decide), (show ((1073745920 : Int64) + (64 : Int64)).toInt = 1073745984 from by decide)]; omega)) rfl rfl Kz) ?_
  refine jv_Wp.lift (fun _ Kz => jv_Ev.br jv_i370 (pc' := 102) (st' := []) rfl (by rfl) Kz) ?_
  refine jv_Wp.lift (fun _ Kz => jv_Ev.steps jv_i370 3 (pc' := 109) (l' := [(0, .ref 178), (1, .long (vm_a 1073758208 k)), (3, .int (vl_I b))]) (st' := [.long (65536 : Int64), .long (1073758208 : Int64), .long (vm_a 1073758208 k)]) rfl Kz) ?_
  refine jv_Wp.lift (fun _ Kz => jv_Ev.c jv_i370 (pc' := 112) (S' := [.int (1 : Int32)]) jv_i367 [.long (vm_a 1073758208 k), .long (1073758208 : Int64), .long (65536 : Int64)] rfl rfl rfl rfl rfl rfl (vr_isIn_t (a := (vm_a 1073758208 k)) (by rw [vm_a_int (by decide) (by omega), (show (1073758208 : Int64).toInt = 1073758208 from by decide), (show ((1073758208 : Int64) + (65536 : Int64)).toInt = 1073823744 from by decide)]; omega)) rfl rfl Kz) ?_
  refine jv_Wp.lift (fun _ Kz => jv_Ev.steps jv_i370 3 (pc' := 117) (l' := [(4, .int (1 : Int32)), (0, .ref 178), (1, .long (vm_a 1073758208 k)), (3, .int (vl_I b))]) (st' := [.int (1 : Int32), .ref 178]) rfl Kz) ?_
  refine jv_Wp.lift (fun _ Kz => jv_Ev.br jv_i370 (pc' := 120) (st' := [.ref 178]) rfl (by rfl) Kz) ?_
  refine jv_Wp.lift (fun _ Kz => jv_Ev.steps jv_i370 5 (pc' := 127) (l' := [(4, .int (1 : Int32)), (0, .ref 178), (1, .long (vm_a 1073758208 k)), (3, .int (vl_I b))]) (st' := [.int ((vm_a 1073758208 k) - (1073758208 : Int64)).toInt32, .ref 178, .ref 178]) rfl Kz) ?_
  refine jv_Wp.lift (fun _ Kz => jv_Ev.c jv_i370 (pc' := 130) (S' := [.int (1 : Int32), .ref 178]) jv_i368 [.ref 178, .int ((vm_a 1073758208 k) - (1073758208 : Int64)).toInt32] rfl rfl rfl rfl (jv_cal rfl (jv_H_at (jv_rwK hW 178 14 31 (by decide))) rfl rfl) rfl (show jv_Ms 368 [.ref 178, .int ((vm_a 1073758208 k) - (1073758208 : Int64)).toInt32] _ _ _ _ from by rw [show _ = vl_I k from (vm_a_sub (d := 0) (by decide) (by decide) (by omega) (by decide))]; exact vr_isFound hW hs h hex) rfl rfl Kz) ?_
  refine jv_Wp.lift (fun _ Kz => jv_Ev.br jv_i370 (pc' := 137) (st' := [.ref 178]) rfl (by rfl) Kz) ?_
  refine jv_Wp.lift (fun _ Kz => jv_Ev.steps jv_i370 1 (pc' := 138) (l' := [(4, .int (1 : Int32)), (0, .ref 178), (1, .long (vm_a 1073758208 k)), (3, .int (vl_I b))]) (st' := [.int (0 : Int32), .ref 178]) rfl Kz) ?_
  refine jv_Wp.lift (fun _ Kz => jv_Ev.c jv_i370 (pc' := 141) (S' := []) jv_i365 [.ref 178, .int (0 : Int32)] rfl rfl rfl rfl (jv_cal rfl (jv_H_at (jv_rwK hW 178 14 31 (by decide))) rfl rfl) rfl (vr_count0 (I := I) (L := L) (n := n) (sl := sl) hW) rfl rfl Kz) ?_
  refine jv_Wp.lift (fun _ Kz => jv_Ev.steps jv_i370 1 (pc' := 143) (l' := [(4, .int (1 : Int32)), (0, .ref 178), (1, .long (vm_a 1073758208 k)), (3, .int (vl_I b))]) (st' := [.int (1 : Int32)]) rfl Kz) ?_
  refine jv_Wp.lift (fun _ Kz => jv_Ev.br jv_i370 (pc' := 146) (st' := []) rfl (by rfl) Kz) ?_
  refine jv_Wp.lift (fun _ Kz => jv_Ev.steps jv_i370 1 (pc' := 147) (l' := [(4, .int (1 : Int32)), (0, .ref 178), (1, .long (vm_a 1073758208 k)), (3, .int (vl_I b))]) (st' := [.ref 178]) rfl Kz) ?_
  refine jv_Wp.lift (fun _ Kz => jv_Ev.m jv_i370 (pc' := 150) (st' := [.ref 180]) (G' := (jv_H K I L R)) rfl rfl (jv_m_getR (jv_rwK hW 178 14 31 (by decide)) rfl rfl (jv_rwR hW 178 3 180 (by decide))) Kz) ?_
  refine jv_Wp.lift (fun _ Kz => jv_Ev.m jv_i370 (pc' := 153) (st' := [.ref 182]) (G' := (jv_H K I L R)) rfl rfl (jv_m_getR (jv_rwK hW 180 13 22 (by decide)) rfl rfl (jv_rwR hW 180 3 182 (by decide))) Kz) ?_
  refine jv_Wp.lift (fun _ Kz => jv_Ev.steps jv_i370 6 (pc' := 161) (l' := [(4, .int (1 : Int32)), (0, .ref 178), (1, .long (vm_a 1073758208 k)), (3, .int (vl_I b))]) (st' := [.int (vl_I b).toInt8.toInt32, .int ((vm_a 1073758208 k) - (1073758208 : Int64)).toInt32, .ref 182]) rfl Kz) ?_
  refine jv_Wp.lift (fun _ Kz => jv_Ev.m jv_i370 (pc' := 162) (st' := []) (G' := (jv_H K (jv_u I 182 k (vl_I b).toInt8.toInt32.toInt8.toInt32) L R)) rfl rfl (by rw [jv_m_bast (jv_rwK hW 182 101 65536 (by decide)) (by rw [show ((vm_a 1073758208 k) - (1073758208 : Int64)).toInt32 = vl_I (k) from (vm_a_sub (d := 0) (by decide) (by decide) (by omega) (by decide))]; exact vl_I_ix (by omega) (by first | omega | decide)), (show ((vm_a 1073758208 k) - (1073758208 : Int64)).toInt32.toNatClampNeg = k from by rw [show ((vm_a 1073758208 k) - (1073758208 : Int64)).toInt32 = vl_I (k) from (vm_a_sub (d := 0) (by decide) (by decide) (by omega) (by decide))]; exact vl_I_nat (by omega))]) Kz) ?_
  refine jv_Wp.of (jv_Ev.ret jv_i370 rfl rfl) ?_
  rw [show (vl_I b).toInt8.toInt32 = vl_sb b from (vl_sb_of _).trans (congrArg vl_sb (by rw [show (vl_I b).toBitVec.toNat = b from (BitVec.toNat_ofNat b 32).trans (Nat.mod_eq_of_lt (by omega))]; omega)), vl_sb_sb hb]
  exact hQ
theorem vr_set_a {K : Nat → Option (Nat × Nat)} {I : Nat → Nat → Int32} {L : Nat → Nat → Int64} {R : Nat → Nat → Value} (hW : jv_rW K R) {S : vm_S} (hs : vm_sh S) (h : vm_r I L S) {k : Nat} (hk : k < 65536) (hex : vm_led S k) {b : Nat} (hb : b < 256) {n sl : Nat} : jv_Ms 370 [.ref 178, .long (vm_a 1073758208 k), .int (vl_I b)] (jv_H K I L R) n sl (none, jv_H K (jv_u I 182 k (vl_sb b)) L R, n, sl) := by
  obtain ⟨X, k, e⟩ := vr_set_a_0 (n := n) (sl := sl) (I := I) (L := L) (Q := fun X => X = (none, jv_H K (jv_u I 182 k (vl_sb b)) L R, n, sl)) hW hs h hk hex hb rfl
  subst e
  exact k