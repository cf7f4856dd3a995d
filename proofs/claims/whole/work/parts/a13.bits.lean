/-! part a13: a count of bits that is 1; shared bits, opposite, refine of the class (gen/ga13.py) -/
def vp_lane (A k : Nat) : Nat := A / 256 ^ k % 256
theorem vp_pow (k : Nat) : (256 : Nat) ^ k = 2 ^ (8 * k) := by rw [show (256 : Nat) = 2 ^ 8 from rfl, ← Nat.pow_mul]
theorem vp_lane_bit (A k i : Nat) : (vp_lane A k).testBit i = (decide (i < 8) && A.testBit (8 * k + i)) := by
  unfold vp_lane
  rw [vp_pow, show (256 : Nat) = 2 ^ 8 from rfl, Nat.testBit_mod_two_pow, Nat.testBit_div_two_pow, Nat.add_comm]
theorem vp_lane_lt (A k : Nat) : vp_lane A k < 256 := Nat.mod_lt _ (by decide)
theorem vp_lane_and (A M k : Nat) : vp_lane (A &&& M) k = vp_lane A k &&& vp_lane M k := by
  refine Nat.eq_of_testBit_eq (fun i => ?_)
  rw [Nat.testBit_and, vp_lane_bit, vp_lane_bit, vp_lane_bit, Nat.testBit_and]
  cases decide (i < 8) <;> simp
theorem vp_lane_shr (A s m k : Nat) (hm : ∀ i, m.testBit i = true → i + s < 8) : vp_lane (A >>> s) k &&& m = (vp_lane A k >>> s) &&& m := by
  refine Nat.eq_of_testBit_eq (fun i => ?_)
  rw [Nat.testBit_and, Nat.testBit_and, Nat.testBit_shiftRight, vp_lane_bit, vp_lane_bit, Nat.testBit_shiftRight]
  cases h : m.testBit i
  · simp
  · have := hm i h
    have h1 : i < 8 := by omega
    have h2 : s + i < 8 := by omega
    rw [decide_eq_true h1, decide_eq_true h2, show s + (8 * k + i) = 8 * k + (s + i) by omega]
theorem vp_lane_succ (A k : Nat) : vp_lane A (k + 1) = vp_lane (A / 256) k := by
  unfold vp_lane
  rw [Nat.pow_succ, Nat.mul_comm, Nat.div_div_eq_div_mul]
theorem vp_lane_zero (A : Nat) : vp_lane A 0 = A % 256 := by
  unfold vp_lane
  rw [Nat.pow_zero, Nat.div_one]
theorem vp_lane_add : ∀ (n A B : Nat), (∀ k, k < n → vp_lane A k + vp_lane B k < 256) → ∀ k, k < n → vp_lane (A + B) k = vp_lane A k + vp_lane B k := by
  intro n
  induction n with
  | zero => intro A B _ k hk; omega
  | succ n ih =>
    intro A B h k hk
    have h0 := h 0 (by omega)
    rw [vp_lane_zero, vp_lane_zero] at h0
    cases k with
    | zero => rw [vp_lane_zero, vp_lane_zero, vp_lane_zero]; omega
    | succ k =>
      rw [vp_lane_succ, vp_lane_succ, vp_lane_succ]
      have e : (A + B) / 256 = A / 256 + B / 256 := by omega
      rw [e]
      exact ih (A / 256) (B / 256) (fun j hj => by have := h (j + 1) (by omega); rwa [vp_lane_succ, vp_lane_succ] at this) k (by omega)
theorem vp_lane_sub : ∀ (n A B : Nat), B ≤ A → (∀ k, k < n → vp_lane B k ≤ vp_lane A k) → ∀ k, k < n → vp_lane (A - B) k = vp_lane A k - vp_lane B k := by
  intro n
  induction n with
  | zero => intro A B _ _ k hk; omega
  | succ n ih =>
    intro A B hAB h k hk
    have h0 := h 0 (by omega)
    rw [vp_lane_zero, vp_lane_zero] at h0
    cases k with
    | zero => rw [vp_lane_zero, vp_lane_zero, vp_lane_zero]; omega
    | succ k =>
      rw [vp_lane_succ, vp_lane_succ, vp_lane_succ]
      have e : (A - B) / 256 = A / 256 - B / 256 := by omega
      rw [e]
      exact ih (A / 256) (B / 256) (Nat.div_le_div_right hAB) (fun j hj => by have := h (j + 1) (by omega); rwa [vp_lane_succ, vp_lane_succ] at this) k (by omega)
/-- a byte's count -/
def vp_b1 (b : Nat) : Nat := b - ((b >>> 1) &&& 85)
def vp_b2 (b : Nat) : Nat := (vp_b1 b &&& 51) + ((vp_b1 b >>> 2) &&& 51)
def vp_g (b : Nat) : Nat := vp_b2 b % 16 + vp_b2 b / 16
theorem vp_tab : ∀ b : Fin 256, ((b.1 >>> 1) &&& 85) ≤ b.1 ∧ vp_b1 b.1 < 256 ∧ vp_b2 b.1 % 16 ≤ 4 ∧ vp_b2 b.1 / 16 ≤ 4 ∧ (vp_g b.1 = 0 → b.1 = 0) ∧ (vp_g b.1 = 1 → b.1 = 1 ∨ b.1 = 2 ∨ b.1 = 4 ∨ b.1 = 8 ∨ b.1 = 16 ∨ b.1 = 32 ∨ b.1 = 64 ∨ b.1 = 128) := by decide +kernel
theorem vp_bits5 : ∀ i, (85 : Nat).testBit i = true → i + 1 < 8 := fun i h => by
  by_cases hi : i < 7
  · omega
  · exfalso
    have : (85 : Nat).testBit i = false := Nat.testBit_lt_two_pow (Nat.lt_of_lt_of_le (by decide : 85 < 2 ^ 7) (Nat.pow_le_pow_right (by decide) (by omega)))
    rw [this] at h; cases h
theorem vp_bits3 : ∀ i, (51 : Nat).testBit i = true → i + 2 < 8 := fun i h => by
  by_cases hi : i < 6
  · omega
  · exfalso
    have : (51 : Nat).testBit i = false := Nat.testBit_lt_two_pow (Nat.lt_of_lt_of_le (by decide : 51 < 2 ^ 6) (Nat.pow_le_pow_right (by decide) (by omega)))
    rw [this] at h; cases h
theorem vp_m5 : ∀ k : Fin 8, vp_lane 6148914691236517205 k.1 = 85 ∧ vp_lane 3689348814741910323 k.1 = 51 ∧ vp_lane 1085102592571150095 k.1 = 15 := by decide +kernel
def vp_i1 (X : Nat) : Nat := X - ((X >>> 1) &&& 6148914691236517205)
def vp_i2 (X : Nat) : Nat := (vp_i1 X &&& 3689348814741910323) + ((vp_i1 X >>> 2) &&& 3689348814741910323)
def vp_i3 (X : Nat) : Nat := (vp_i2 X + vp_i2 X >>> 4) &&& 1085102592571150095
theorem vp_l1 (X : Nat) {k : Nat} (hk : k < 8) : vp_lane (vp_i1 X) k = vp_b1 (vp_lane X k) := by
  have h : ∀ j, j < 8 → vp_lane ((X >>> 1) &&& 6148914691236517205) j = (vp_lane X j >>> 1) &&& 85 := fun j hj => by
    rw [vp_lane_and, (vp_m5 ⟨j, hj⟩).1, vp_lane_shr _ _ _ _ vp_bits5]
  unfold vp_i1 vp_b1
  have q := @Nat.and_le_left (X >>> 1) 6148914691236517205
  have q2 : X >>> 1 ≤ X := by rw [Nat.shiftRight_eq_div_pow]; exact Nat.div_le_self _ _
  rw [vp_lane_sub 8 _ _ (Nat.le_trans q q2) (fun j hj => by rw [h j hj]; exact (vp_tab ⟨_, vp_lane_lt X j⟩).1) k hk, h k hk]
theorem vp_l2 (X : Nat) {k : Nat} (hk : k < 8) : vp_lane (vp_i2 X) k = vp_b2 (vp_lane X k) := by
  have h1 : ∀ j, j < 8 → vp_lane (vp_i1 X &&& 3689348814741910323) j = vp_b1 (vp_lane X j) &&& 51 := fun j hj => by
    rw [vp_lane_and, (vp_m5 ⟨j, hj⟩).2.1, vp_l1 X hj]
  have h2 : ∀ j, j < 8 → vp_lane ((vp_i1 X >>> 2) &&& 3689348814741910323) j = (vp_b1 (vp_lane X j) >>> 2) &&& 51 := fun j hj => by
    rw [vp_lane_and, (vp_m5 ⟨j, hj⟩).2.1, vp_lane_shr _ _ _ _ vp_bits3, vp_l1 X hj]
  unfold vp_i2 vp_b2
  rw [vp_lane_add 8 _ _ (fun j hj => by
    rw [h1 j hj, h2 j hj]
    have a1 := @Nat.and_le_right (vp_b1 (vp_lane X j)) 51
    have a2 := @Nat.and_le_right (vp_b1 (vp_lane X j) >>> 2) 51
    omega) k hk, h1 k hk, h2 k hk]
theorem vp_lane_shr4 (A k : Nat) : vp_lane (A >>> 4) k = vp_lane A k / 16 + 16 * (vp_lane A (k + 1) % 16) := by
  unfold vp_lane
  have e : A >>> 4 / 256 ^ k = A / 256 ^ k / 16 := by
    rw [Nat.shiftRight_eq_div_pow, Nat.div_div_eq_div_mul, Nat.div_div_eq_div_mul, Nat.mul_comm]
  have e2 : A / 256 ^ (k + 1) = A / 256 ^ k / 256 := by rw [Nat.pow_succ, Nat.div_div_eq_div_mul]
  rw [e, e2]
  generalize A / 256 ^ k = q
  omega
theorem vp_l3 (X : Nat) (hX : X < 18446744073709551616) {k : Nat} (hk : k < 8) : vp_lane (vp_i3 X) k = vp_g (vp_lane X k) := by
  have top : vp_lane (vp_i2 X) 8 = 0 := by
    unfold vp_lane vp_i2
    have a1 := @Nat.and_le_right (vp_i1 X) 3689348814741910323
    have a2 := @Nat.and_le_right (vp_i1 X >>> 2) 3689348814741910323
    rw [show (256 : Nat) ^ 8 = 18446744073709551616 by decide]
    omega
  have nb : ∀ j, j ≤ 8 → vp_lane (vp_i2 X) j % 16 ≤ 4 ∧ vp_lane (vp_i2 X) j / 16 ≤ 4 := fun j hj => by
    by_cases e : j < 8
    · rw [vp_l2 X e]
      have t := vp_tab ⟨_, vp_lane_lt X j⟩
      exact ⟨t.2.2.1, t.2.2.2.1⟩
    · have : j = 8 := by omega
      subst this
      rw [top]; decide
  unfold vp_i3
  rw [vp_lane_and, (vp_m5 ⟨k, hk⟩).2.2, vp_lane_add 8 _ _ (fun j hj => by
    rw [vp_lane_shr4]
    have t1 := nb j (by omega)
    have t2 := nb (j + 1) (by omega)
    have := Nat.div_add_mod (vp_lane (vp_i2 X) j) 16
    omega) k hk, vp_lane_shr4, vp_l2 X hk]
  rw [show (15 : Nat) = 2 ^ 4 - 1 from rfl, Nat.and_two_pow_sub_one_eq_mod]
  have t := vp_tab ⟨_, vp_lane_lt X k⟩
  have t1 := t.2.2.1
  have t2 := t.2.2.2.1
  have key : ∀ v y : Nat, v % 16 ≤ 4 → v / 16 ≤ 4 → (v + (v / 16 + 16 * y)) % 16 = v % 16 + v / 16 := by
    intro v y h1 h2
    omega
  exact key _ _ t1 t2
theorem vp_split (X : Nat) (hX : X < 18446744073709551616) : X = vp_lane X 0 + 256 * vp_lane X 1 + 65536 * vp_lane X 2 + 16777216 * vp_lane X 3 + 4294967296 * vp_lane X 4 + 1099511627776 * vp_lane X 5 + 281474976710656 * vp_lane X 6 + 72057594037927936 * vp_lane X 7 := by
  have e0 := Nat.div_add_mod X 256
  have e1 := Nat.div_add_mod (X / 256) 256
  have e2 := Nat.div_add_mod (X / 256 / 256) 256
  have e3 := Nat.div_add_mod (X / 256 / 256 / 256) 256
  have e4 := Nat.div_add_mod (X / 256 / 256 / 256 / 256) 256
  have e5 := Nat.div_add_mod (X / 256 / 256 / 256 / 256 / 256) 256
  have e6 := Nat.div_add_mod (X / 256 / 256 / 256 / 256 / 256 / 256) 256
  have e7 := Nat.div_add_mod (X / 256 / 256 / 256 / 256 / 256 / 256 / 256) 256
  have e8 : X / 256 / 256 / 256 / 256 / 256 / 256 / 256 / 256 = 0 := by
    rw [Nat.div_div_eq_div_mul, Nat.div_div_eq_div_mul, Nat.div_div_eq_div_mul, Nat.div_div_eq_div_mul, Nat.div_div_eq_div_mul, Nat.div_div_eq_div_mul, Nat.div_div_eq_div_mul]
    exact Nat.div_eq_of_lt hX
  rw [e8] at e7
  simp only [vp_lane_succ, vp_lane_zero]
  generalize X / 256 / 256 / 256 / 256 / 256 / 256 / 256 = q7 at *
  generalize X / 256 / 256 / 256 / 256 / 256 / 256 = q6 at *
  generalize X / 256 / 256 / 256 / 256 / 256 = q5 at *
  generalize X / 256 / 256 / 256 / 256 = q4 at *
  generalize X / 256 / 256 / 256 = q3 at *
  generalize X / 256 / 256 = q2 at *
  generalize X / 256 = q1 at *
  generalize X % 256 = r0 at *
  generalize q1 % 256 = r1 at *
  generalize q2 % 256 = r2 at *
  generalize q3 % 256 = r3 at *
  generalize q4 % 256 = r4 at *
  generalize q5 % 256 = r5 at *
  generalize q6 % 256 = r6 at *
  generalize q7 % 256 = r7 at *
  clear e8
  omega
def vp_i4 (X : Nat) : Nat := vp_i3 X + vp_i3 X >>> 8
def vp_i5 (X : Nat) : Nat := vp_i4 X + vp_i4 X >>> 16
def vp_i6 (X : Nat) : Nat := vp_i5 X + vp_i5 X >>> 32
theorem vp_dv {n r q : Nat} (h0 : 0 < n) (h : r < n) : (r + n * q) / n = q := by
  rw [Nat.add_mul_div_left _ _ h0, Nat.div_eq_of_lt h, Nat.zero_add]
theorem vp_sa (Z c0 q : Nat) (h0 : c0 ≤ 8) (e : Z = c0 + 256 * q) : Z / 256 = q := by rw [e]; exact vp_dv (by decide) (by omega)
theorem vp_sb (Z r q : Nat) (h0 : r < 65536) (e : Z = r + 65536 * q) : Z / 65536 = q := by rw [e]; exact vp_dv (by decide) h0
theorem vp_sd (Z r q : Nat) (h0 : r < 4294967296) (e : Z = r + 4294967296 * q) : Z / 4294967296 = q := by rw [e]; exact vp_dv (by decide) h0
theorem vp_sm (Z r q : Nat) (h0 : r < 128) (e : Z = r + 128 * q) : Z % 128 = r := by rw [e, Nat.add_mul_mod_self_left]; exact Nat.mod_eq_of_lt h0
theorem vp_sum (Z c0 c1 c2 c3 c4 c5 c6 c7 : Nat) (h0 : c0 ≤ 8) (h1 : c1 ≤ 8) (h2 : c2 ≤ 8) (h3 : c3 ≤ 8) (h4 : c4 ≤ 8) (h5 : c5 ≤ 8) (h6 : c6 ≤ 8) (h7 : c7 ≤ 8)
    (e : Z = c0 + 256 * c1 + 65536 * c2 + 16777216 * c3 + 4294967296 * c4 + 1099511627776 * c5 + 281474976710656 * c6 + 72057594037927936 * c7) :
    ((Z + Z / 256 + (Z + Z / 256) / 65536 + (Z + Z / 256 + (Z + Z / 256) / 65536) / 4294967296) % 128 = c0 + c1 + c2 + c3 + c4 + c5 + c6 + c7) ∧ Z + Z / 256 + (Z + Z / 256) / 65536 + (Z + Z / 256 + (Z + Z / 256) / 65536) / 4294967296 < 18446744073709551616 := by
  have a := vp_sa Z c0 (c1 + 256 * c2 + 65536 * c3 + 16777216 * c4 + 4294967296 * c5 + 1099511627776 * c6 + 281474976710656 * c7) h0 (by omega)
  generalize Z / 256 = Y at a ⊢
  generalize hW : Z + Y = W
  have eW : W = c0 + c1 + 256 * (c1 + c2) + 65536 * (c2 + c3) + 16777216 * (c3 + c4) + 4294967296 * (c4 + c5) + 1099511627776 * (c5 + c6) + 281474976710656 * (c6 + c7) + 72057594037927936 * c7 := by omega
  clear e a hW
  have b := vp_sb W (c0 + c1 + 256 * (c1 + c2)) ((c2 + c3) + 256 * (c3 + c4) + 65536 * (c4 + c5) + 16777216 * (c5 + c6) + 4294967296 * (c6 + c7) + 1099511627776 * c7) (by omega) (by omega)
  generalize W / 65536 = U at b ⊢
  generalize hT : W + U = T
  have eT : T = (c0 + c1 + c2 + c3 + 256 * (c1 + c2 + c3 + c4) + 65536 * (c2 + c3 + c4 + c5) + 16777216 * (c3 + c4 + c5 + c6)) + 4294967296 * ((c4 + c5 + c6 + c7) + 256 * (c5 + c6 + c7) + 65536 * (c6 + c7) + 16777216 * c7) := by omega
  clear eW b hT
  have d := vp_sd T _ _ (by omega) eT
  generalize T / 4294967296 = V at d ⊢
  generalize hX : T + V = M
  have eX : M = (c0 + c1 + c2 + c3 + c4 + c5 + c6 + c7) + 128 * (2 * (c1 + c2 + c3 + c4 + c5 + c6 + c7) + 512 * (c2 + c3 + c4 + c5 + c6 + c7) + 131072 * (c3 + c4 + c5 + c6 + c7) + 33554432 * (c4 + c5 + c6 + c7) + 8589934592 * (c5 + c6 + c7) + 2199023255552 * (c6 + c7) + 562949953421312 * c7) := by omega
  clear eT d hX
  exact ⟨vp_sm M _ _ (by omega) eX, by omega⟩
theorem vp_gle (b : Nat) (hb : b < 256) : vp_g b ≤ 8 := by
  have t := vp_tab ⟨b, hb⟩
  have t1 : vp_b2 b % 16 ≤ 4 := t.2.2.1
  have t2 : vp_b2 b / 16 ≤ 4 := t.2.2.2.1
  unfold vp_g
  omega
theorem vp_i3_lt (X : Nat) : vp_i3 X < 18446744073709551616 := by
  unfold vp_i3
  have := @Nat.and_le_right (vp_i2 X + vp_i2 X >>> 4) 1085102592571150095
  omega
theorem vp_i6_ok (X : Nat) (hX : X < 18446744073709551616) : vp_i6 X % 128 = vp_g (vp_lane X 0) + vp_g (vp_lane X 1) + vp_g (vp_lane X 2) + vp_g (vp_lane X 3) + vp_g (vp_lane X 4) + vp_g (vp_lane X 5) + vp_g (vp_lane X 6) + vp_g (vp_lane X 7) ∧ vp_i6 X < 18446744073709551616 := by
  have e := vp_split (vp_i3 X) (vp_i3_lt X)
  rw [vp_l3 X hX (by decide), vp_l3 X hX (by decide), vp_l3 X hX (by decide), vp_l3 X hX (by decide), vp_l3 X hX (by decide), vp_l3 X hX (by decide), vp_l3 X hX (by decide), vp_l3 X hX (by decide)] at e
  have s := vp_sum (vp_i3 X) _ _ _ _ _ _ _ _ (vp_gle _ (vp_lane_lt X 0)) (vp_gle _ (vp_lane_lt X 1)) (vp_gle _ (vp_lane_lt X 2)) (vp_gle _ (vp_lane_lt X 3)) (vp_gle _ (vp_lane_lt X 4)) (vp_gle _ (vp_lane_lt X 5)) (vp_gle _ (vp_lane_lt X 6)) (vp_gle _ (vp_lane_lt X 7)) e
  unfold vp_i6 vp_i5 vp_i4
  rw [Nat.shiftRight_eq_div_pow, Nat.shiftRight_eq_div_pow, Nat.shiftRight_eq_div_pow, show (2 : Nat) ^ 8 = 256 from rfl, show (2 : Nat) ^ 16 = 65536 from rfl, show (2 : Nat) ^ 32 = 4294967296 from rfl]
  exact s
theorem vp_one (X : Nat) (hX : X < 18446744073709551616) (h : vp_i6 X % 128 = 1) : ∃ p, p < 64 ∧ X = 2 ^ p := by
  rw [(vp_i6_ok X hX).1] at h
  have s := vp_split X hX
  have t : ∀ k, (vp_g (vp_lane X k) = 0 → vp_lane X k = 0) ∧ (vp_g (vp_lane X k) = 1 → ∃ i, i < 8 ∧ vp_lane X k = 2 ^ i) := fun k => by
    have t := vp_tab ⟨_, vp_lane_lt X k⟩
    refine ⟨t.2.2.2.2.1, fun h1 => ?_⟩
    rcases t.2.2.2.2.2 h1 with e | e | e | e | e | e | e | e
    · exact ⟨0, by decide, e⟩
    · exact ⟨1, by decide, e⟩
    · exact ⟨2, by decide, e⟩
    · exact ⟨3, by decide, e⟩
    · exact ⟨4, by decide, e⟩
    · exact ⟨5, by decide, e⟩
    · exact ⟨6, by decide, e⟩
    · exact ⟨7, by decide, e⟩
  have t0 := t 0; have t1 := t 1; have t2 := t 2; have t3 := t 3; have t4 := t 4; have t5 := t 5; have t6 := t 6; have t7 := t 7
  clear t
  generalize vp_lane X 0 = a0 at *
  generalize vp_lane X 1 = a1 at *
  generalize vp_lane X 2 = a2 at *
  generalize vp_lane X 3 = a3 at *
  generalize vp_lane X 4 = a4 at *
  generalize vp_lane X 5 = a5 at *
  generalize vp_lane X 6 = a6 at *
  generalize vp_lane X 7 = a7 at *
  have pw : ∀ k i : Nat, (2 : Nat) ^ (8 * k + i) = 256 ^ k * 2 ^ i := fun k i => by rw [Nat.pow_add, ← vp_pow]
  by_cases g0 : vp_g a0 = 1
  · have z1 := t1.1 (by omega)
    have z2 := t2.1 (by omega)
    have z3 := t3.1 (by omega)
    have z4 := t4.1 (by omega)
    have z5 := t5.1 (by omega)
    have z6 := t6.1 (by omega)
    have z7 := t7.1 (by omega)
    obtain ⟨i, hi, e⟩ := t0.2 g0
    refine ⟨8 * 0 + i, by omega, ?_⟩
    rw [pw, show (256 : Nat) ^ 0 = 1 from rfl, ← e]
    clear t0 t1 t2 t3 t4 t5 t6 t7 h e
    subst z1 z2 z3 z4 z5 z6 z7
    omega
  by_cases g1 : vp_g a1 = 1
  · have z0 := t0.1 (by omega)
    have z2 := t2.1 (by omega)
    have z3 := t3.1 (by omega)
    have z4 := t4.1 (by omega)
    have z5 := t5.1 (by omega)
    have z6 := t6.1 (by omega)
    have z7 := t7.1 (by omega)
    obtain ⟨i, hi, e⟩ := t1.2 g1
    refine ⟨8 * 1 + i, by omega, ?_⟩
    rw [pw, show (256 : Nat) ^ 1 = 256 from rfl, ← e]
    clear t0 t1 t2 t3 t4 t5 t6 t7 h e
    subst z0 z2 z3 z4 z5 z6 z7
    omega
  by_cases g2 : vp_g a2 = 1
  · have z0 := t0.1 (by omega)
    have z1 := t1.1 (by omega)
    have z3 := t3.1 (by omega)
    have z4 := t4.1 (by omega)
    have z5 := t5.1 (by omega)
    have z6 := t6.1 (by omega)
    have z7 := t7.1 (by omega)
    obtain ⟨i, hi, e⟩ := t2.2 g2
    refine ⟨8 * 2 + i, by omega, ?_⟩
    rw [pw, show (256 : Nat) ^ 2 = 65536 from rfl, ← e]
    clear t0 t1 t2 t3 t4 t5 t6 t7 h e
    subst z0 z1 z3 z4 z5 z6 z7
    omega
  by_cases g3 : vp_g a3 = 1
  · have z0 := t0.1 (by omega)
    have z1 := t1.1 (by omega)
    have z2 := t2.1 (by omega)
    have z4 := t4.1 (by omega)
    have z5 := t5.1 (by omega)
    have z6 := t6.1 (by omega)
    have z7 := t7.1 (by omega)
    obtain ⟨i, hi, e⟩ := t3.2 g3
    refine ⟨8 * 3 + i, by omega, ?_⟩
    rw [pw, show (256 : Nat) ^ 3 = 16777216 from rfl, ← e]
    clear t0 t1 t2 t3 t4 t5 t6 t7 h e
    subst z0 z1 z2 z4 z5 z6 z7
    omega
  by_cases g4 : vp_g a4 = 1
  · have z0 := t0.1 (by omega)
    have z1 := t1.1 (by omega)
    have z2 := t2.1 (by omega)
    have z3 := t3.1 (by omega)
    have z5 := t5.1 (by omega)
    have z6 := t6.1 (by omega)
    have z7 := t7.1 (by omega)
    obtain ⟨i, hi, e⟩ := t4.2 g4
    refine ⟨8 * 4 + i, by omega, ?_⟩
    rw [pw, show (256 : Nat) ^ 4 = 4294967296 from rfl, ← e]
    clear t0 t1 t2 t3 t4 t5 t6 t7 h e
    subst z0 z1 z2 z3 z5 z6 z7
    omega
  by_cases g5 : vp_g a5 = 1
  · have z0 := t0.1 (by omega)
    have z1 := t1.1 (by omega)
    have z2 := t2.1 (by omega)
    have z3 := t3.1 (by omega)
    have z4 := t4.1 (by omega)
    have z6 := t6.1 (by omega)
    have z7 := t7.1 (by omega)
    obtain ⟨i, hi, e⟩ := t5.2 g5
    refine ⟨8 * 5 + i, by omega, ?_⟩
    rw [pw, show (256 : Nat) ^ 5 = 1099511627776 from rfl, ← e]
    clear t0 t1 t2 t3 t4 t5 t6 t7 h e
    subst z0 z1 z2 z3 z4 z6 z7
    omega
  by_cases g6 : vp_g a6 = 1
  · have z0 := t0.1 (by omega)
    have z1 := t1.1 (by omega)
    have z2 := t2.1 (by omega)
    have z3 := t3.1 (by omega)
    have z4 := t4.1 (by omega)
    have z5 := t5.1 (by omega)
    have z7 := t7.1 (by omega)
    obtain ⟨i, hi, e⟩ := t6.2 g6
    refine ⟨8 * 6 + i, by omega, ?_⟩
    rw [pw, show (256 : Nat) ^ 6 = 281474976710656 from rfl, ← e]
    clear t0 t1 t2 t3 t4 t5 t6 t7 h e
    subst z0 z1 z2 z3 z4 z5 z7
    omega
  by_cases g7 : vp_g a7 = 1
  · have z0 := t0.1 (by omega)
    have z1 := t1.1 (by omega)
    have z2 := t2.1 (by omega)
    have z3 := t3.1 (by omega)
    have z4 := t4.1 (by omega)
    have z5 := t5.1 (by omega)
    have z6 := t6.1 (by omega)
    obtain ⟨i, hi, e⟩ := t7.2 g7
    refine ⟨8 * 7 + i, by omega, ?_⟩
    rw [pw, show (256 : Nat) ^ 7 = 72057594037927936 from rfl, ← e]
    clear t0 t1 t2 t3 t4 t5 t6 t7 h e
    subst z0 z1 z2 z3 z4 z5 z6
    omega
  omega
theorem vp_bits_nat (a : Int64) : (jv_bits a).toBitVec.toNat = vp_i6 a.toBitVec.toNat % 128 := by
  have hs : ∀ (u : Int64) (k : Nat) (s : Int32), (s.toInt64.toUInt64 &&& Int64.toUInt64 63).toBitVec.toNat % 64 = k → ((u.toUInt64 >>> (s.toInt64.toUInt64 &&& Int64.toUInt64 63)).toInt64).toBitVec.toNat = u.toBitVec.toNat >>> k := fun u k s h => by
    rw [vl_ushr u h, BitVec.toNat_ushiftRight]
  have c5 : (6148914691236517205 : Int64).toBitVec.toNat = 6148914691236517205 := by decide
  have c3 : (3689348814741910323 : Int64).toBitVec.toNat = 3689348814741910323 := by decide
  have c0 : (1085102592571150095 : Int64).toBitVec.toNat = 1085102592571150095 := by decide
  have hX := a.toBitVec.isLt
  unfold jv_bits
  dsimp only
  generalize e1 : (a - (((a.toUInt64 >>> ((1 : Int32).toInt64.toUInt64 &&& Int64.toUInt64 63)).toInt64) &&& (6148914691236517205 : Int64))) = i1
  have n1 : i1.toBitVec.toNat = vp_i1 a.toBitVec.toNat := by
    have l1 : ((a.toUInt64 >>> ((1 : Int32).toInt64.toUInt64 &&& Int64.toUInt64 63)).toInt64 &&& (6148914691236517205 : Int64)).toBitVec.toNat = (a.toBitVec.toNat >>> 1) &&& 6148914691236517205 := by
      rw [Int64.toBitVec_and, BitVec.toNat_and, hs a 1 1 (by decide), c5]
    rw [← e1, Int64.toBitVec_sub]
    have w := vb_subC a.toBitVec ((a.toUInt64 >>> ((1 : Int32).toInt64.toUInt64 &&& Int64.toUInt64 63)).toInt64 &&& (6148914691236517205 : Int64)).toBitVec
    rw [l1] at w
    have q := @Nat.and_le_left (a.toBitVec.toNat >>> 1) 6148914691236517205
    have q2 : a.toBitVec.toNat >>> 1 ≤ a.toBitVec.toNat := by rw [Nat.shiftRight_eq_div_pow]; exact Nat.div_le_self _ _
    unfold vp_i1
    omega
  generalize e2 : ((i1 &&& (3689348814741910323 : Int64)) + (((i1.toUInt64 >>> ((2 : Int32).toInt64.toUInt64 &&& Int64.toUInt64 63)).toInt64) &&& (3689348814741910323 : Int64))) = i2
  have n2 : i2.toBitVec.toNat = vp_i2 a.toBitVec.toNat := by
    have l1 : (i1 &&& (3689348814741910323 : Int64)).toBitVec.toNat = vp_i1 a.toBitVec.toNat &&& 3689348814741910323 := by
      rw [Int64.toBitVec_and, BitVec.toNat_and, n1, c3]
    have l2 : (((i1.toUInt64 >>> ((2 : Int32).toInt64.toUInt64 &&& Int64.toUInt64 63)).toInt64) &&& (3689348814741910323 : Int64)).toBitVec.toNat = (vp_i1 a.toBitVec.toNat >>> 2) &&& 3689348814741910323 := by
      rw [Int64.toBitVec_and, BitVec.toNat_and, hs i1 2 2 (by decide), n1, c3]
    rw [← e2, Int64.toBitVec_add]
    have w := vb_addC (i1 &&& (3689348814741910323 : Int64)).toBitVec (((i1.toUInt64 >>> ((2 : Int32).toInt64.toUInt64 &&& Int64.toUInt64 63)).toInt64) &&& (3689348814741910323 : Int64)).toBitVec
    rw [l1, l2] at w
    have q := @Nat.and_le_right (vp_i1 a.toBitVec.toNat) 3689348814741910323
    have q2 := @Nat.and_le_right (vp_i1 a.toBitVec.toNat >>> 2) 3689348814741910323
    unfold vp_i2
    omega
  generalize e3 : ((i2 + ((i2.toUInt64 >>> ((4 : Int32).toInt64.toUInt64 &&& Int64.toUInt64 63)).toInt64)) &&& (1085102592571150095 : Int64)) = i3
  have n3 : i3.toBitVec.toNat = vp_i3 a.toBitVec.toNat := by
    have w := vb_addC i2.toBitVec ((i2.toUInt64 >>> ((4 : Int32).toInt64.toUInt64 &&& Int64.toUInt64 63)).toInt64).toBitVec
    rw [hs i2 4 4 (by decide), n2] at w
    have q : vp_i2 a.toBitVec.toNat ≤ 7378697629483820646 := by
      unfold vp_i2
      have q := @Nat.and_le_right (vp_i1 a.toBitVec.toNat) 3689348814741910323
      have q2 := @Nat.and_le_right (vp_i1 a.toBitVec.toNat >>> 2) 3689348814741910323
      omega
    have q2 : vp_i2 a.toBitVec.toNat >>> 4 ≤ vp_i2 a.toBitVec.toNat := by rw [Nat.shiftRight_eq_div_pow]; exact Nat.div_le_self _ _
    have l : (i2 + ((i2.toUInt64 >>> ((4 : Int32).toInt64.toUInt64 &&& Int64.toUInt64 63)).toInt64)).toBitVec.toNat = vp_i2 a.toBitVec.toNat + vp_i2 a.toBitVec.toNat >>> 4 := by
      rw [Int64.toBitVec_add]; omega
    rw [← e3, Int64.toBitVec_and, BitVec.toNat_and, l, c0]; rfl
  have step : ∀ (u v : Int64) (U k : Nat) (s : Int32), (s.toInt64.toUInt64 &&& Int64.toUInt64 63).toBitVec.toNat % 64 = k → u.toBitVec.toNat = U → U + U >>> k < 18446744073709551616 → u + ((u.toUInt64 >>> (s.toInt64.toUInt64 &&& Int64.toUInt64 63)).toInt64) = v → v.toBitVec.toNat = U + U >>> k := fun u v U k s hs0 hu hlt hv => by
    rw [← hv, Int64.toBitVec_add]
    have w := vb_addC u.toBitVec ((u.toUInt64 >>> (s.toInt64.toUInt64 &&& Int64.toUInt64 63)).toInt64).toBitVec
    rw [hs u k s hs0, hu] at w
    omega
  have f6 := (vp_i6_ok a.toBitVec.toNat (by simpa using hX)).2
  have f5 : vp_i5 a.toBitVec.toNat < 18446744073709551616 := by
    have : vp_i5 a.toBitVec.toNat ≤ vp_i6 a.toBitVec.toNat := Nat.le_add_right _ _
    omega
  have f4 : vp_i4 a.toBitVec.toNat < 18446744073709551616 := by
    have : vp_i4 a.toBitVec.toNat ≤ vp_i5 a.toBitVec.toNat := Nat.le_add_right _ _
    omega
  generalize e4 : i3 + ((i3.toUInt64 >>> ((8 : Int32).toInt64.toUInt64 &&& Int64.toUInt64 63)).toInt64) = i4
  have n4 : i4.toBitVec.toNat = vp_i4 a.toBitVec.toNat := step i3 i4 _ 8 8 (by decide) n3 f4 e4
  generalize e5 : i4 + ((i4.toUInt64 >>> ((16 : Int32).toInt64.toUInt64 &&& Int64.toUInt64 63)).toInt64) = i5
  have n5 : i5.toBitVec.toNat = vp_i5 a.toBitVec.toNat := step i4 i5 _ 16 16 (by decide) n4 f5 e5
  generalize e6 : i5 + ((i5.toUInt64 >>> ((32 : Int32).toInt64.toUInt64 &&& Int64.toUInt64 63)).toInt64) = i6
  have n6 : i6.toBitVec.toNat = vp_i6 a.toBitVec.toNat := step i5 i6 _ 32 32 (by decide) n5 f6 e6
  show (i6.toInt32 &&& 127).toBitVec.toNat = _
  rw [Int32.toBitVec_and, BitVec.toNat_and, vl_i32, BitVec.toNat_setWidth, n6, show (127 : Int32).toBitVec.toNat = 2 ^ 7 - 1 by decide, Nat.and_two_pow_sub_one_eq_mod]
  omega
theorem vp_one_tab : ∀ p : Fin 64, jv_bits (Int64.ofBitVec (BitVec.twoPow 64 p.1)) = 1 ∧ vb_oneBit (BitVec.twoPow 64 p.1) = true := by decide +kernel
theorem vl_bits_one (a : Int64) : (jv_bits a = 1) ↔ vb_oneBit a.toBitVec = true := by
  constructor
  · intro h
    have n := vp_bits_nat a
    rw [h] at n
    obtain ⟨p, hp, e⟩ := vp_one a.toBitVec.toNat (by have := a.toBitVec.isLt; simpa using this) n.symm
    have : a.toBitVec = BitVec.twoPow 64 p := BitVec.eq_of_toNat_eq (by rw [e, BitVec.toNat_twoPow]; exact (Nat.mod_eq_of_lt (Nat.pow_lt_pow_right (by decide) hp)).symm)
    rw [this]
    exact (vp_one_tab ⟨p, hp⟩).2
  · intro h
    obtain ⟨p, hp, e⟩ := vb_oneBit_bit h
    have : a = Int64.ofBitVec (BitVec.twoPow 64 p) := Int64.toBitVec_inj.mp e
    rw [this]
    exact (vp_one_tab ⟨p, hp⟩).1
