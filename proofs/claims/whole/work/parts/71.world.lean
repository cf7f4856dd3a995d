/-! part 30: the fresh world (gen/exn.py): its cells, what the constructors make -/
def jx_Kf : List (Nat × Nat) := [(10, 9), (101, 8192), (6, 11), (101, 2048), (101, 64), (101, 512), (101, 65536), (106, 8), (101, 8192), (102, 8192), (1, 12), (104, 1024),
  (5, 5), (105, 75), (8, 10), (8, 10), (8, 10), (8, 10), (8, 10), (8, 10), (8, 10), (8, 10), (8, 10), (8, 10),
  (8, 10), (8, 10), (8, 10), (8, 10), (8, 10), (8, 10), (8, 10), (8, 10), (8, 10), (8, 10), (8, 10), (8, 10),
  (8, 10), (8, 10), (8, 10), (8, 10), (8, 10), (8, 10), (8, 10), (8, 10), (8, 10), (8, 10), (8, 10), (8, 10),
  (8, 10), (8, 10), (8, 10), (8, 10), (8, 10), (8, 10), (8, 10), (8, 10), (8, 10), (8, 10), (8, 10), (8, 10),
  (8, 10), (8, 10), (8, 10), (8, 10), (8, 10), (8, 10), (8, 10), (8, 10), (8, 10), (8, 10), (8, 10), (8, 10),
  (8, 10), (8, 10), (8, 10), (8, 10), (8, 10), (8, 10), (8, 10), (8, 10), (8, 10), (8, 10), (8, 10), (8, 10),
  (8, 10), (8, 10), (8, 10), (8, 10), (8, 10), (5, 5), (105, 75), (8, 10), (8, 10), (8, 10), (8, 10), (8, 10),
  (8, 10), (8, 10), (8, 10), (8, 10), (8, 10), (8, 10), (8, 10), (8, 10), (8, 10), (8, 10), (8, 10), (8, 10),
  (8, 10), (8, 10), (8, 10), (8, 10), (8, 10), (8, 10), (8, 10), (8, 10), (8, 10), (8, 10), (8, 10), (8, 10),
  (8, 10), (8, 10), (8, 10), (8, 10), (8, 10), (8, 10), (8, 10), (8, 10), (8, 10), (8, 10), (8, 10), (8, 10),
  (8, 10), (8, 10), (8, 10), (8, 10), (8, 10), (8, 10), (8, 10), (8, 10), (8, 10), (8, 10), (8, 10), (8, 10),
  (8, 10), (8, 10), (8, 10), (8, 10), (8, 10), (8, 10), (8, 10), (8, 10), (8, 10), (8, 10), (8, 10), (8, 10),
  (8, 10), (8, 10), (8, 10), (8, 10), (8, 10), (8, 10), (8, 10), (8, 10), (8, 10), (8, 10), (8, 10), (9, 6),
  (9, 6), (9, 6), (9, 6), (2, 13), (103, 16), (101, 512), (100, 512), (101, 32), (101, 256), (107, 8), (14, 31), (102, 8192),
  (13, 22), (101, 512), (101, 65536), (102, 64), (102, 64), (102, 64), (102, 64), (102, 64), (102, 64), (102, 64), (100, 8192), (101, 524288),
  (103, 64), (103, 64), (102, 64), (100, 64), (12, 24), (102, 8192), (102, 8192), (102, 8), (102, 8), (102, 8), (100, 1028), (102, 1028),
  (102, 1028), (102, 77100), (102, 77100), (102, 77100), (11, 7), (103, 77200), (103, 77200), (103, 77200), (103, 77200), (103, 77200), (103, 77200), (100, 77200),
  (102, 65536), (102, 8), (102, 2048), (102, 64), (103, 11), (100, 11), (102, 512), (100, 512), (100, 8192), (101, 512), (103, 1)]
def jx_Rl : List (Nat × Nat × Nat) := [(0, 0, 1), (2, 0, 3), (2, 2, 4), (2, 3, 5), (2, 4, 6), (2, 6, 7), (2, 9, 8), (2, 10, 9), (0, 2, 2), (10, 1, 11), (12, 0, 13), (13, 0, 14),
  (13, 1, 15), (13, 2, 16), (13, 3, 17), (13, 4, 18), (13, 5, 19), (13, 6, 20), (13, 7, 21), (13, 8, 22), (13, 9, 23), (13, 10, 24), (13, 11, 25), (13, 12, 26),
  (13, 13, 27), (13, 14, 28), (13, 15, 29), (13, 16, 30), (13, 17, 31), (13, 18, 32), (13, 19, 33), (13, 20, 34), (13, 21, 35), (13, 22, 36), (13, 23, 37), (13, 24, 38),
  (13, 25, 39), (13, 26, 40), (13, 27, 41), (13, 28, 42), (13, 29, 43), (13, 30, 44), (13, 31, 45), (13, 32, 46), (13, 33, 47), (13, 34, 48), (13, 35, 49), (13, 36, 50),
  (13, 37, 51), (13, 38, 52), (13, 39, 53), (13, 40, 54), (13, 41, 55), (13, 42, 56), (13, 43, 57), (13, 44, 58), (13, 45, 59), (13, 46, 60), (13, 47, 61), (13, 48, 62),
  (13, 49, 63), (13, 50, 64), (13, 51, 65), (13, 52, 66), (13, 53, 67), (13, 54, 68), (13, 55, 69), (13, 56, 70), (13, 57, 71), (13, 58, 72), (13, 59, 73), (13, 60, 74),
  (13, 61, 75), (13, 62, 76), (13, 63, 77), (13, 64, 78), (13, 65, 79), (13, 66, 80), (13, 67, 81), (13, 68, 82), (13, 69, 83), (13, 70, 84), (13, 71, 85), (13, 72, 86),
  (13, 73, 87), (13, 74, 88), (10, 2, 12), (89, 0, 90), (90, 0, 91), (90, 1, 92), (90, 2, 93), (90, 3, 94), (90, 4, 95), (90, 5, 96), (90, 6, 97), (90, 7, 98),
  (90, 8, 99), (90, 9, 100), (90, 10, 101), (90, 11, 102), (90, 12, 103), (90, 13, 104), (90, 14, 105), (90, 15, 106), (90, 16, 107), (90, 17, 108), (90, 18, 109), (90, 19, 110),
  (90, 20, 111), (90, 21, 112), (90, 22, 113), (90, 23, 114), (90, 24, 115), (90, 25, 116), (90, 26, 117), (90, 27, 118), (90, 28, 119), (90, 29, 120), (90, 30, 121), (90, 31, 122),
  (90, 32, 123), (90, 33, 124), (90, 34, 125), (90, 35, 126), (90, 36, 127), (90, 37, 128), (90, 38, 129), (90, 39, 130), (90, 40, 131), (90, 41, 132), (90, 42, 133), (90, 43, 134),
  (90, 44, 135), (90, 45, 136), (90, 46, 137), (90, 47, 138), (90, 48, 139), (90, 49, 140), (90, 50, 141), (90, 51, 142), (90, 52, 143), (90, 53, 144), (90, 54, 145), (90, 55, 146),
  (90, 56, 147), (90, 57, 148), (90, 58, 149), (90, 59, 150), (90, 60, 151), (90, 61, 152), (90, 62, 153), (90, 63, 154), (90, 64, 155), (90, 65, 156), (90, 66, 157), (90, 67, 158),
  (90, 68, 159), (90, 69, 160), (90, 70, 161), (90, 71, 162), (90, 72, 163), (90, 73, 164), (90, 74, 165), (10, 3, 89), (10, 4, 166), (10, 5, 167), (10, 6, 168), (10, 7, 169),
  (10, 8, 170), (10, 0, 2), (0, 3, 10), (171, 1, 172), (171, 3, 173), (171, 4, 174), (171, 5, 175), (171, 6, 176), (171, 0, 2), (0, 4, 171), (0, 5, 177), (178, 1, 179),
  (180, 1, 181), (180, 2, 181), (180, 3, 182), (180, 6, 183), (180, 7, 184), (180, 8, 185), (180, 9, 186), (180, 10, 187), (180, 11, 188), (180, 12, 189), (180, 15, 190), (180, 16, 191),
  (180, 17, 192), (180, 18, 193), (180, 19, 194), (180, 20, 195), (178, 3, 180), (196, 1, 197), (196, 3, 198), (196, 7, 199), (196, 8, 200), (196, 9, 201), (196, 10, 202), (196, 11, 203),
  (196, 12, 204), (196, 13, 205), (196, 14, 206), (196, 15, 207), (208, 0, 209), (208, 1, 210), (208, 2, 211), (208, 3, 212), (208, 4, 213), (208, 5, 214), (208, 6, 215), (196, 16, 208),
  (178, 4, 196), (178, 5, 216), (178, 6, 217), (178, 10, 218), (178, 12, 219), (178, 14, 220), (178, 15, 221), (178, 16, 222), (178, 17, 223), (178, 18, 224), (178, 19, 225)]
/-- the kinds of the first n cells, and of the two rows of the classes' own -/
def jx_K (n : Nat) : Nat → Option (Nat × Nat) := fun o => bif Nat.blt o n then jx_Kf[o]? else bif Nat.beq o 1000000 then some (110, 16) else bif Nat.beq o 1000001 then some (110, 12) else none
def jx_fd : List (Nat × Nat × Nat) → Nat → Nat → Value
  | [], _, _ => .null
  | e :: r, o, j => bif Nat.beq e.1 o then (bif Nat.beq e.2.1 j then .ref e.2.2 else jx_fd r o j) else jx_fd r o j
def jx_R (m : Nat) : Nat → Nat → Value := jx_fd (jx_Rl.take m)
def jx_I0 : Nat → Nat → Int32 := fun o j => bif Nat.beq o 1000000 then jv_sV 0 j else bif Nat.beq o 1000001 then jv_sV 1 j else 0
def jx_L0 : Nat → Nat → Int64 := fun _ _ => 0
theorem jx_I0_fr (q j : Nat) (h : q < 1000) : jx_I0 q j = 0 := by
  unfold jx_I0
  rw [jv_nbeq (show q ≠ 1000000 by omega), jv_nbeq (show q ≠ 1000001 by omega)]
  rfl
theorem jx_fd_app (l : List (Nat × Nat × Nat)) (e : Nat × Nat × Nat) (h : jx_fd l e.1 e.2.1 = .null) : jx_fd (l ++ [e]) = jv_u (jx_fd l) e.1 e.2.1 (.ref e.2.2) := by
  funext o j
  induction l with
  | nil =>
    show (bif Nat.beq e.1 o then (bif Nat.beq e.2.1 j then Value.ref e.2.2 else .null) else .null) = (bif Nat.beq o e.1 && Nat.beq j e.2.1 then Value.ref e.2.2 else .null)
    by_cases h1 : o = e.1
    · subst h1
      rw [Nat.beq_refl]
      by_cases h2 : j = e.2.1
      · subst h2; rw [Nat.beq_refl]; rfl
      · rw [jv_nbeq h2, jv_nbeq (Ne.symm h2)]; rfl
    · rw [jv_nbeq h1, jv_nbeq (Ne.symm h1)]; rfl
  | cons x r ih =>
    have hs : jx_fd ((x :: r) ++ [e]) o j = (bif Nat.beq x.1 o then (bif Nat.beq x.2.1 j then Value.ref x.2.2 else jx_fd (r ++ [e]) o j) else jx_fd (r ++ [e]) o j) := rfl
    have h' : (bif Nat.beq x.1 e.1 then (bif Nat.beq x.2.1 e.2.1 then Value.ref x.2.2 else jx_fd r e.1 e.2.1) else jx_fd r e.1 e.2.1) = .null := h
    have hr : jx_fd r e.1 e.2.1 = .null := by
      cases h1 : Nat.beq x.1 e.1 with
      | true =>
        rw [h1] at h'
        cases h2 : Nat.beq x.2.1 e.2.1 with
        | true => rw [h2] at h'; cases h'
        | false => rw [h2] at h'; exact h'
      | false => rw [h1] at h'; exact h'
    rw [hs, ih hr]
    show _ = (bif Nat.beq o e.1 && Nat.beq j e.2.1 then Value.ref e.2.2 else (bif Nat.beq x.1 o then (bif Nat.beq x.2.1 j then Value.ref x.2.2 else jx_fd r o j) else jx_fd r o j))
    unfold jv_u
    cases hc : (Nat.beq o e.1 && Nat.beq j e.2.1) with
    | false => rfl
    | true =>
      simp only [Bool.and_eq_true] at hc
      have e1 := Nat.eq_of_beq_eq_true hc.1
      have e2 := Nat.eq_of_beq_eq_true hc.2
      subst e1; subst e2
      cases h1 : Nat.beq x.1 e.1 with
      | true =>
        rw [h1] at h'
        cases h2 : Nat.beq x.2.1 e.2.1 with
        | true => rw [h2] at h'; cases h'
        | false => rfl
      | false => rfl
theorem jx_Ru {m o j a : Nat} (hm : jx_Rl[m]? = some (o, j, a)) (h0 : jx_R m o j = .null) : jv_u (jx_R m) o j (.ref a) = jx_R (m + 1) := by
  unfold jx_R
  rw [List.take_add_one, hm]
  exact (jx_fd_app _ (o, j, a) h0).symm
theorem jx_got {p : Prop} [Decidable p] {pc : Nat} {off : Int} {r : List Value} (h : p) : jv_go p pc off r = some (jv_tg pc off, r) := by rw [jv_go, if_pos h]
theorem jx_gof {p : Prop} [Decidable p] {pc : Nat} {off : Int} {r : List Value} (h : ¬ p) : jv_go p pc off r = some (pc + 3, r) := by rw [jv_go, if_neg h]
section XN
variable {I : Nat → Nat → Int32} {L : Nat → Nat → Int64} {R : Nat → Nat → Value}
theorem jx_Kset {n k ln : Nat} {V : Nat → Value} (hk : jx_Kf[n]? = some (k, ln)) (hV : ∀ j, V j = jv_cv I L R n k j) : jv_set (jv_H (jx_K n) I L R) n (k, ln, V) = jv_H (jx_K (n + 1)) I L R := by
  have e1 : jx_K (n + 1) n = some (k, ln) := by
    unfold jx_K
    rw [show Nat.blt n (n + 1) = true from Nat.ble_eq_true_of_le (Nat.le_refl _)]
    exact hk
  funext q
  by_cases hq : q = n
  · subst hq
    rw [jv_set_self, jv_H_at e1]
    exact congrArg some (congrArg (Prod.mk k) (congrArg (Prod.mk ln) (funext hV)))
  · rw [jv_set_ne _ _ hq]
    have e2 : jx_K (n + 1) q = jx_K n q := by
      unfold jx_K
      by_cases h : q < n
      · rw [show Nat.blt q n = true from Nat.ble_eq_true_of_le h, show Nat.blt q (n + 1) = true from Nat.ble_eq_true_of_le (by omega)]
      · have h1 : Nat.blt q n = false := by cases hb : Nat.blt q n with | false => rfl | true => exact absurd (Nat.le_of_ble_eq_true hb) h
        have h2 : Nat.blt q (n + 1) = false := by cases hb : Nat.blt q (n + 1) with | false => rfl | true => have := Nat.le_of_ble_eq_true hb; omega
        rw [h1, h2]
    unfold jv_H
    rw [e2]
def jx_okT (t : FieldType) : Bool := match t with | .int => true | .boolean => true | .byte => true | .long => true | .object _ => true | .array _ => true | _ => false
theorem jx_dv (t : FieldType) (h : jx_okT t = true) : defaultValue t = (match jv_fk t with | 0 => .int 0 | 1 => .long 0 | _ => .null) := by
  cases t <;> first | rfl | cases h
theorem jx_tyok (k j : Nat) : jx_okT (jv_ty k j) = true := by
  unfold jv_ty
  split
  · unfold tyX1; split <;> rfl
  · unfold tyX2; split <;> rfl
  · unfold tyX3; split <;> rfl
  · unfold tyX4; rfl
  · unfold tyX5; split <;> rfl
  · unfold tyX6; split <;> rfl
  · unfold tyX7; split <;> rfl
  · unfold tyX8; split <;> rfl
  · unfold tyX9; split <;> rfl
  · unfold tyX10; split <;> rfl
  · unfold tyX11; split <;> rfl
  · unfold tyX12; split <;> rfl
  · unfold tyX13; split <;> rfl
  · unfold tyX14; split <;> rfl
  · unfold tyX15; split <;> rfl
theorem jx_fo (k : Nat) {n : Nat} (hk : Nat.blt k 100 = true) (hI : ∀ j, I n j = 0) (hL : ∀ j, L n j = 0) (hR : ∀ j, R n j = .null) : ∀ j, defaultValue (jv_ty k j) = jv_cv I L R n k j := by
  intro j
  rw [jx_dv _ (jx_tyok k j)]
  unfold jv_cv jv_vk
  rw [hk, hI, hL, hR]
  rfl
theorem jx_Ev_new {y mL fr lo : Nat} {rt : Option FieldType} {cd : List (Nat × jv_O)} {pc : Nat} {l : jv_L} {st : List Value} {n sl : Nat} {X : jv_R} (hI : jv_I y mL rt fr lo cd) {i : Instr} {len a b : Nat} {c : Int} {st' : List Value} {k ln kk n' sl' pc' : Nat} {V : Nat → Value} (hf : jv_fetch cd pc = some (3, i, len, a, b, c)) (h : jv_new i a st n = some (st', (k, ln, V), kk)) (hk : jx_Kf[n]? = some (k, ln)) (hV : ∀ j, V j = jv_cv I L R n k j) (hn : Nat.blt n 1000 = true) (h1 : n + 1 = n') (h2 : sl + kk = sl') (h3 : pc + len = pc')
    (K : jv_Ev y pc' l st' (jv_H (jx_K n') I L R) n' sl' X) : jv_Ev y pc l st (jv_H (jx_K n) I L R) n sl X := by
  subst h1; subst h2; subst h3
  refine jv_Ev.new hI hf h (by have := Nat.le_of_ble_eq_true hn; omega) ?_
  rw [jx_Kset hk hV]
  exact K
theorem jx_putR {q a b o v n m k len : Nat} {r : List Value} (hK : jx_K n o = some (k, len)) (hb : jv_sub a k = true) (hl : Nat.blt b len = true) (hv : jv_vk k b = 2) (hf : jv_fitv (jv_ty a b) (.ref v) = true) (hm : jx_Rl[m]? = some (o, b, v)) (h0 : jx_R m o b = .null) : jv_mem (.putfield q) a b (.ref v :: .ref o :: r) (jv_H (jx_K n) I L (jx_R m)) = some (r, jv_H (jx_K n) I L (jx_R (m + 1))) := by
  rw [jv_m_putR hK hb hl hv hf, jx_Ru hm h0]
end XN
def jx_fill (I : Nat → Nat → Int32) (o c : Nat) (v : Int32) : Nat → Nat → Int32 := fun q j => bif Nat.beq q o && Nat.blt j c then v else I q j
theorem jx_fill_0 (I : Nat → Nat → Int32) (o : Nat) (v : Int32) : jx_fill I o 0 v = I := by
  funext q j
  unfold jx_fill
  rw [show Nat.blt j 0 = false from rfl, Bool.and_false]; rfl
theorem jx_fill_s (I : Nat → Nat → Int32) (o c : Nat) (v : Int32) : jv_u (jx_fill I o c v) o c v = jx_fill I o (c + 1) v := by
  funext q j
  unfold jv_u jx_fill
  by_cases hq : q = o
  · subst hq
    rw [Nat.beq_refl, Bool.true_and, Bool.true_and, Bool.true_and]
    by_cases hj : j = c
    · subst hj
      rw [Nat.beq_refl, show Nat.blt j (j + 1) = true from Nat.ble_eq_true_of_le (Nat.le_refl _)]; rfl
    · rw [jv_nbeq hj]
      by_cases h : j < c
      · rw [show Nat.blt j c = true from Nat.ble_eq_true_of_le h, show Nat.blt j (c + 1) = true from Nat.ble_eq_true_of_le (by omega)]; rfl
      · have h1 : Nat.blt j c = false := by cases hb : Nat.blt j c with | false => rfl | true => exact absurd (Nat.le_of_ble_eq_true hb) h
        have h2 : Nat.blt j (c + 1) = false := by cases hb : Nat.blt j (c + 1) with | false => rfl | true => have := Nat.le_of_ble_eq_true hb; omega
        rw [h1, h2]; rfl
  · rw [jv_nbeq hq]; rfl
theorem jx_ix {i N : Nat} (h : i < N) (hN : N < 2 ^ 31) : jv_ix (nI i) N := by
  have := nI_toInt (n := i) (by omega)
  exact ⟨by rw [this]; omega, by rw [this]; omega⟩

theorem jv_i148 : jv_I 148 1 none 1 20 jv_c148 := ⟨rfl, rfl, rfl, rfl, rfl⟩
theorem jv_i139 : jv_I 139 1 none 2 40 jv_c139 := ⟨rfl, rfl, rfl, rfl, rfl⟩
theorem jv_i110 : jv_I 110 2 none 3 60 jv_c110 := ⟨rfl, rfl, rfl, rfl, rfl⟩
theorem jv_i119 : jv_I 119 1 none 1 20 jv_c119 := ⟨rfl, rfl, rfl, rfl, rfl⟩
theorem jv_i22 : jv_I 22 2 none 4 81 jv_c22 := ⟨rfl, rfl, rfl, rfl, rfl⟩
theorem jv_i49 : jv_I 49 2 none 1 20 jv_c49 := ⟨rfl, rfl, rfl, rfl, rfl⟩
theorem jv_i187 : jv_I 187 1 none 5 102 jv_c187 := ⟨rfl, rfl, rfl, rfl, rfl⟩
theorem jv_i198 : jv_I 198 1 none 1 20 jv_c198 := ⟨rfl, rfl, rfl, rfl, rfl⟩
theorem jv_i252 : jv_I 252 2 none 2 40 jv_c252 := ⟨rfl, rfl, rfl, rfl, rfl⟩
theorem jv_i317 : jv_I 317 1 none 1 20 jv_c317 := ⟨rfl, rfl, rfl, rfl, rfl⟩
theorem jv_i349 : jv_I 349 1 none 3 61 jv_c349 := ⟨rfl, rfl, rfl, rfl, rfl⟩
set_option maxRecDepth 100000 in
theorem jx_c148 (o : Nat) (G : jv_G) (n sl : Nat) : jv_Ms 148 [.ref o] G n sl (none, G, n, sl) := by
  show jv_Ev 148 0 [(0, .ref o)] [] G n sl _
  refine jv_Ev.steps jv_i148 1 (pc' := 1) (l' := [(0, .ref o)]) (st' := [.ref o]) rfl ?_
  refine jv_Ev.obj jv_i148 rfl rfl ?_
  exact jv_Ev.ret jv_i148 rfl rfl
set_option maxRecDepth 100000 in
theorem jx_c139 (o : Nat) (G : jv_G) (n sl : Nat) : jv_Ms 139 [.ref o] G n sl (none, G, n, sl) := by
  show jv_Ev 139 0 [(0, .ref o)] [] G n sl _
  refine jv_Ev.steps jv_i139 1 (pc' := 1) (l' := [(0, .ref o)]) (st' := [.ref o]) rfl ?_
  refine jv_Ev.c jv_i139 (pc' := 4) (S' := []) jv_i148 [.ref o] rfl rfl rfl rfl (by rfl) rfl (jx_c148 _ _ _ _) rfl rfl ?_
  exact jv_Ev.ret jv_i139 rfl rfl
set_option maxRecDepth 100000 in
/-- a new state: 75 things -/
theorem jx_State (o n m sl : Nat) (I : Nat → Nat → Int32) (hKo : jx_Kf[o]? = some (5, 5)) (ho : o < n) (hn : n + 76 < 1000) (hKn : jx_Kf[n]? = some (105, 75)) (hKt : ∀ i, i < 75 → jx_Kf[n + 1 + i]? = some (8, 10)) (hR0 : jx_Rl[m]? = some (o, 0, n)) (hRt : ∀ i, i < 75 → jx_Rl[m + 1 + i]? = some (n, i, n + 1 + i)) (hRn : ∀ i, i ≤ 75 → jx_fd (jx_Rl.take (m + 1 + i)) o 0 = .ref n) (hRz : ∀ i, i < 75 → jx_fd (jx_Rl.take (m + 1 + i)) n i = .null) (hRm : jx_R m o 0 = .null) (hRf : ∀ j, jx_R m n j = .null) (hRg : ∀ i, i < 75 → ∀ j, jx_R (m + 1 + i) (n + 1 + i) j = .null) (hI : ∀ q, n ≤ q → q < n + 76 → ∀ j, I q j = 0) : jv_Ms 110 [.ref o] (jv_H (jx_K n) I jx_L0 (jx_R m)) n sl (none, jv_H (jx_K (n + 76)) I jx_L0 (jx_R (m + 76)), n + 76, sl + 825) := by
  have hKo' : ∀ i, jx_K (n + 1 + i) o = some (5, 5) := fun i => by unfold jx_K; rw [show Nat.blt o (n + 1 + i) = true from Nat.ble_eq_true_of_le (by omega)]; exact hKo
  have hKn' : ∀ i, jx_K (n + 1 + i) n = some (105, 75) := fun i => by unfold jx_K; rw [show Nat.blt n (n + 1 + i) = true from Nat.ble_eq_true_of_le (by omega)]; exact hKn
  have hRn' : ∀ i, i ≤ 75 → jx_R (m + 1 + i) o 0 = .ref n := hRn
  have loop : ∀ d i, i + d = 75 → jv_Ev 110 15 [(0, .ref o), (1, .int (nI i))] [] (jv_H (jx_K (n + 1 + i)) I jx_L0 (jx_R (m + 1 + i))) (n + 1 + i) (sl + 75 + 10 * i) (none, jv_H (jx_K (n + 76)) I jx_L0 (jx_R (m + 76)), n + 76, sl + 825) := by
    intro d
    induction d with
    | zero =>
      intro i hi
      have hi : i = 75 := by omega
      subst hi
      refine jv_Ev.steps jv_i110 2 (pc' := 17) (l' := [(0, .ref o), (1, .int (nI 75))]) (st' := [.ref o, .int (nI 75)]) rfl ?_
      refine jv_Ev.m jv_i110 (pc' := 20) (st' := [.ref n, .int (nI 75)]) rfl rfl (jv_m_getR (hKo' 75) rfl rfl (hRn' 75 (by omega))) ?_
      refine jv_Ev.m jv_i110 (pc' := 21) (st' := [.int (Int32.ofNat 75), .int (nI 75)]) rfl rfl (jv_m_len (hKn' 75) rfl) ?_
      refine jv_Ev.br jv_i110 (pc' := 43) (st' := []) rfl (by decide +kernel) ?_
      exact jv_Ev.ret jv_i110 rfl rfl
    | succ d ih =>
      intro i hi
      have hlt : i < 75 := by omega
      refine jv_Ev.steps jv_i110 2 (pc' := 17) (l' := [(0, .ref o), (1, .int (nI i))]) (st' := [.ref o, .int (nI i)]) rfl ?_
      refine jv_Ev.m jv_i110 (pc' := 20) (st' := [.ref n, .int (nI i)]) rfl rfl (jv_m_getR (hKo' i) rfl rfl (hRn' i (by omega))) ?_
      refine jv_Ev.m jv_i110 (pc' := 21) (st' := [.int (Int32.ofNat 75), .int (nI i)]) rfl rfl (jv_m_len (hKn' i) rfl) ?_
      refine jv_Ev.br jv_i110 (pc' := 24) (st' := []) rfl (jx_gof (nI_ge hlt (by omega))) ?_
      refine jv_Ev.steps jv_i110 1 (pc' := 25) (l' := [(0, .ref o), (1, .int (nI i))]) (st' := [.ref o]) rfl ?_
      refine jv_Ev.m jv_i110 (pc' := 28) (st' := [.ref n]) rfl rfl (jv_m_getR (hKo' i) rfl rfl (hRn' i (by omega))) ?_
      refine jv_Ev.steps jv_i110 1 (pc' := 29) (l' := [(0, .ref o), (1, .int (nI i))]) (st' := [.int (nI i), .ref n]) rfl ?_
      refine jx_Ev_new jv_i110 (pc' := 32) (n' := n + 1 + (i + 1)) (sl' := sl + 75 + 10 * (i + 1)) (k := 8) (ln := 10) (kk := 10) (st' := [.ref (n + 1 + i), .int (nI i), .ref n]) rfl rfl (hKt i hlt) (jx_fo 8 rfl (hI _ (by omega) (by omega)) (fun _ => rfl) (hRg i hlt)) (Nat.ble_eq_true_of_le (by omega)) (by omega) (by omega) rfl ?_
      refine jv_Ev.steps jv_i110 1 (pc' := 33) (l' := [(0, .ref o), (1, .int (nI i))]) (st' := [.ref (n + 1 + i), .ref (n + 1 + i), .int (nI i), .ref n]) rfl ?_
      refine jv_Ev.c jv_i110 (pc' := 36) (S' := [.ref (n + 1 + i), .int (nI i), .ref n]) jv_i139 [.ref (n + 1 + i)] rfl rfl rfl rfl (by rfl) rfl (jx_c139 _ _ _ _) rfl rfl ?_
      have hKv : jx_K (n + 1 + (i + 1)) (n + 1 + i) = some (8, 10) := by unfold jx_K; rw [show Nat.blt (n + 1 + i) (n + 1 + (i + 1)) = true from Nat.ble_eq_true_of_le (by omega)]; exact hKt i hlt
      refine jv_Ev.m jv_i110 (pc' := 37) (st' := []) (G' := jv_H (jx_K (n + 1 + (i + 1))) I jx_L0 (jx_R (m + 1 + (i + 1)))) rfl rfl ?_ ?_
      · rw [jv_m_aast (hKn' (i + 1)) hKv rfl rfl rfl rfl (jx_ix hlt (by omega)), show (nI i).toNatClampNeg = i from nI_clamp (by omega), jx_Ru (hRt i hlt) (hRz i hlt)]
        rfl
      refine jv_Ev.steps jv_i110 2 (pc' := 15) (l' := [(1, .int (nI i + Int32.ofInt 1)), (0, .ref o)]) (st' := []) rfl ?_
      refine jv_Ev.loc (l := [(0, .ref o), (1, .int (nI (i + 1)))]) ⟨?_, by show List.Nodup [1, 0]; decide⟩ (ih (i + 1) (by omega))
      have e1 : nI i + Int32.ofInt 1 = nI (i + 1) := (nI_succ i).symm
      rw [e1]
      exact List.forall_mem_cons.mpr ⟨.tail _ (.head _), List.forall_mem_cons.mpr ⟨.head _, fun _ h => absurd h List.not_mem_nil⟩⟩
  show jv_Ev 110 0 [(0, .ref o)] [] (jv_H (jx_K n) I jx_L0 (jx_R m)) n sl _
  refine jv_Ev.steps jv_i110 1 (pc' := 1) (l' := [(0, .ref o)]) (st' := [.ref o]) rfl ?_
  refine jv_Ev.obj jv_i110 rfl rfl ?_
  refine jv_Ev.steps jv_i110 2 (pc' := 7) (l' := [(0, .ref o)]) (st' := [.int (75 : Int32), .ref o]) rfl ?_
  refine jx_Ev_new jv_i110 (pc' := 10) (n' := n + 1) (sl' := sl + 75) (k := 105) (ln := 75) (kk := 75) (st' := [.ref n, .ref o]) rfl rfl hKn (fun j => by show Value.null = jx_R m n j; rw [hRf]) (Nat.ble_eq_true_of_le (by omega)) rfl rfl rfl ?_
  refine jv_Ev.m jv_i110 (pc' := 13) (st' := []) (G' := jv_H (jx_K (n + 1)) I jx_L0 (jx_R (m + 1))) rfl rfl (jx_putR (hKo' 0) rfl rfl rfl rfl hR0 hRm) ?_
  refine jv_Ev.steps jv_i110 2 (pc' := 15) (l' := [(1, .int (nI 0)), (0, .ref o)]) (st' := []) rfl ?_
  refine jv_Ev.loc (l := [(0, .ref o), (1, .int (nI 0))]) ⟨List.forall_mem_cons.mpr ⟨.tail _ (.head _), List.forall_mem_cons.mpr ⟨.head _, fun _ h => absurd h List.not_mem_nil⟩⟩, by show List.Nodup [1, 0]; decide⟩ (loop 75 0 rfl)
set_option maxRecDepth 100000 in
/-- the reference's row of origins -/
theorem jx_origin (hI : jv_I 252 2 none 2 40 jv_c252) (o a n m sl : Nat) (I : Nat → Nat → Int32) (hKo : jx_K n o = some (12, 24)) (hKa : jx_K n a = some (102, 77100)) (hR : jx_R m o 15 = .ref a) : jv_Ev 252 109 [(0, .ref o)] [.int (0 : Int32)] (jv_H (jx_K n) I jx_L0 (jx_R m)) n sl (none, jv_H (jx_K n) (jx_fill I a 77100 (-1)) jx_L0 (jx_R m), n, sl) := by
  have loop : ∀ d i, i + d = 77100 → jv_Ev 252 110 [(0, .ref o), (1, .int (nI i))] [] (jv_H (jx_K n) (jx_fill I a i (-1)) jx_L0 (jx_R m)) n sl (none, jv_H (jx_K n) (jx_fill I a 77100 (-1)) jx_L0 (jx_R m), n, sl) := by
    intro d
    induction d with
    | zero =>
      intro i hi
      have hi : i = 77100 := by omega
      subst hi
      refine jv_Ev.steps hI 2 (pc' := 113) (l' := [(0, .ref o), (1, .int (nI 77100))]) (st' := [.int (Int32.ofInt 77100), .int (nI 77100)]) rfl ?_
      refine jv_Ev.br hI (pc' := 129) (st' := []) rfl (by decide +kernel) ?_
      exact jv_Ev.ret hI rfl rfl
    | succ d ih =>
      intro i hi
      have hlt : i < 77100 := by omega
      refine jv_Ev.steps hI 2 (pc' := 113) (l' := [(0, .ref o), (1, .int (nI i))]) (st' := [.int (Int32.ofInt 77100), .int (nI i)]) rfl ?_
      refine jv_Ev.br hI (pc' := 116) (st' := []) rfl (jx_gof (show ¬ nI 77100 ≤ nI i from nI_ge hlt (by omega))) ?_
      refine jv_Ev.steps hI 1 (pc' := 117) (l' := [(0, .ref o), (1, .int (nI i))]) (st' := [.ref o]) rfl ?_
      refine jv_Ev.m hI (pc' := 120) (st' := [.ref a]) rfl rfl (jv_m_getR hKo rfl rfl hR) ?_
      refine jv_Ev.steps hI 2 (pc' := 122) (l' := [(0, .ref o), (1, .int (nI i))]) (st' := [.int (-1), .int (nI i), .ref a]) rfl ?_
      refine jv_Ev.m hI (pc' := 123) (st' := []) (G' := jv_H (jx_K n) (jx_fill I a (i + 1) (-1)) jx_L0 (jx_R m)) rfl rfl ?_ ?_
      · rw [jv_m_iast hKa (jx_ix hlt (by omega)), show (nI i).toNatClampNeg = i from nI_clamp (by omega), jx_fill_s]
      refine jv_Ev.steps hI 2 (pc' := 110) (l' := [(1, .int (nI i + Int32.ofInt 1)), (0, .ref o)]) (st' := []) rfl ?_
      refine jv_Ev.loc (l := [(0, .ref o), (1, .int (nI (i + 1)))]) ⟨?_, by show List.Nodup [1, 0]; decide⟩ (ih (i + 1) (by omega))
      have e1 : nI i + Int32.ofInt 1 = nI (i + 1) := (nI_succ i).symm
      rw [e1]
      exact List.forall_mem_cons.mpr ⟨.tail _ (.head _), List.forall_mem_cons.mpr ⟨.head _, fun _ h => absurd h List.not_mem_nil⟩⟩
  refine jv_Ev.steps hI 1 (pc' := 110) (l' := [(1, .int (nI 0)), (0, .ref o)]) (st' := []) rfl ?_
  refine jv_Ev.loc (l := [(0, .ref o), (1, .int (nI 0))]) ⟨List.forall_mem_cons.mpr ⟨.tail _ (.head _), List.forall_mem_cons.mpr ⟨.head _, fun _ h => absurd h List.not_mem_nil⟩⟩, by show List.Nodup [1, 0]; decide⟩ ?_
  have := loop 77100 0 rfl
  rw [jx_fill_0] at this
  exact this

theorem jx_fdl (l : List (Nat × Nat × Nat)) (o j : Nat) (h : l.all (fun e => !(Nat.beq e.1 o && Nat.beq e.2.1 j)) = true) : jx_fd l o j = .null := by
  induction l with
  | nil => rfl
  | cons e r ih =>
    simp only [List.all_cons, Bool.and_eq_true] at h
    show (bif Nat.beq e.1 o then (bif Nat.beq e.2.1 j then Value.ref e.2.2 else jx_fd r o j) else jx_fd r o j) = .null
    rw [ih h.2]
    have h1 := h.1
    cases h2 : Nat.beq e.1 o <;> cases h3 : Nat.beq e.2.1 j <;> rw [h2, h3] at h1 <;> first | rfl | cases h1
theorem jx_fdn (o j m : Nat) (h : (jx_Rl.take m).all (fun e => !(Nat.beq e.1 o && Nat.beq e.2.1 j)) = true) : jx_fd (jx_Rl.take m) o j = .null := jx_fdl _ o j h
theorem jx_fdm (o j m : Nat) (h : (jx_Rl.take m).all (fun e => !(Nat.beq e.1 o)) = true) : jx_R m o j = .null := jx_fdl _ o j (List.all_eq_true.mpr fun e he => by have := List.all_eq_true.mp h e he; cases h2 : Nat.beq e.1 o <;> rw [h2] at this <;> first | rfl | cases this)
theorem jx_fd_in {l : List (Nat × Nat × Nat)} {o j a : Nat} (h : jx_fd l o j = .ref a) (l' : List (Nat × Nat × Nat)) : jx_fd (l ++ l') o j = .ref a := by
  induction l with
  | nil => cases h
  | cons e r ih =>
    have h' : (bif Nat.beq e.1 o then (bif Nat.beq e.2.1 j then Value.ref e.2.2 else jx_fd r o j) else jx_fd r o j) = .ref a := h
    show (bif Nat.beq e.1 o then (bif Nat.beq e.2.1 j then Value.ref e.2.2 else jx_fd (r ++ l') o j) else jx_fd (r ++ l') o j) = .ref a
    cases h2 : Nat.beq e.1 o <;> cases h3 : Nat.beq e.2.1 j <;> rw [h2, h3] at h' <;> first | exact ih h' | exact h'
/-- what was written stays -/
theorem jx_fdp (o j a m m0 : Nat) (h : jx_R (m0 + 1) o j = .ref a) (hm : m0 + 1 ≤ m) : jx_R m o j = .ref a := by
  unfold jx_R at h ⊢
  have e : jx_Rl.take m = jx_Rl.take (m0 + 1) ++ (jx_Rl.drop (m0 + 1)).take (m - (m0 + 1)) := by
    rw [← List.take_add, show m0 + 1 + (m - (m0 + 1)) = m by omega]
  rw [e]
  exact jx_fd_in h _

set_option maxRecDepth 100000 in
theorem jx_Sa10 : ∀ i, i ≤ 75 → jx_fd (jx_Rl.take (10 + 1 + i)) 12 0 = .ref 13 := fun i hi => jx_fdp 12 0 13 (10 + 1 + i) 10 rfl (by omega)
set_option maxRecDepth 100000 in
theorem jx_Sb10 : ∀ i, i < 75 → jx_fd (jx_Rl.take (10 + 1 + i)) 13 i = .null := fun i hi => jx_fdn 13 i (10 + 1 + i) (List.all_eq_true.mp (by decide +kernel : (List.range 75).all (fun i => (jx_Rl.take (10 + 1 + i)).all (fun e => !(Nat.beq e.1 13 && Nat.beq e.2.1 i))) = true) i (List.mem_range.mpr hi))
set_option maxRecDepth 100000 in
theorem jx_Sc10 : ∀ i, i < 75 → ∀ j, jx_R (10 + 1 + i) (13 + 1 + i) j = .null := fun i hi j => jx_fdm (13 + 1 + i) j (10 + 1 + i) (List.all_eq_true.mp (by decide +kernel : (List.range 75).all (fun i => (jx_Rl.take (10 + 1 + i)).all (fun e => !(Nat.beq e.1 (13 + 1 + i)))) = true) i (List.mem_range.mpr hi))
set_option maxRecDepth 100000 in
theorem jx_Sa87 : ∀ i, i ≤ 75 → jx_fd (jx_Rl.take (87 + 1 + i)) 89 0 = .ref 90 := fun i hi => jx_fdp 89 0 90 (87 + 1 + i) 87 rfl (by omega)
set_option maxRecDepth 100000 in
theorem jx_Sb87 : ∀ i, i < 75 → jx_fd (jx_Rl.take (87 + 1 + i)) 90 i = .null := fun i hi => jx_fdn 90 i (87 + 1 + i) (List.all_eq_true.mp (by decide +kernel : (List.range 75).all (fun i => (jx_Rl.take (87 + 1 + i)).all (fun e => !(Nat.beq e.1 90 && Nat.beq e.2.1 i))) = true) i (List.mem_range.mpr hi))
set_option maxRecDepth 100000 in
theorem jx_Sc87 : ∀ i, i < 75 → ∀ j, jx_R (87 + 1 + i) (90 + 1 + i) j = .null := fun i hi j => jx_fdm (90 + 1 + i) j (87 + 1 + i) (List.all_eq_true.mp (by decide +kernel : (List.range 75).all (fun i => (jx_Rl.take (87 + 1 + i)).all (fun e => !(Nat.beq e.1 (90 + 1 + i)))) = true) i (List.mem_range.mpr hi))
set_option maxRecDepth 100000 in
/-- ProgramBox$Store.<init>, on a fresh world -/
theorem jx_c119 : jv_Ms 119 [.ref 2] (jv_H (jx_K 3) jx_I0 jx_L0 (jx_R 1)) 3 8212 (none, (jv_H (jx_K 10) jx_I0 jx_L0 (jx_R 8)), 10, 92764) := by
  show jv_Ev 119 0 [(0, .ref 2)] [] (jv_H (jx_K 3) jx_I0 jx_L0 (jx_R 1)) 3 8212 _
  refine jv_Ev.steps jv_i119 1 (pc' := 1) (l' := [(0, .ref 2)]) (st' := [.ref 2]) rfl ?_
  refine jv_Ev.obj jv_i119 rfl rfl ?_
  refine jv_Ev.steps jv_i119 2 (pc' := 8) (l' := [(0, .ref 2)]) (st' := [.int (2048 : Int32), .ref 2]) rfl ?_
  refine jx_Ev_new jv_i119 (pc' := 10) (n' := 4) (sl' := 10260) (k := 101) (ln := 2048) (kk := 2048) (st' := [.ref 3, .ref 2]) rfl rfl rfl (fun _ => rfl) rfl rfl rfl rfl ?_
  refine jv_Ev.m jv_i119 (pc' := 13) (st' := []) (G' := (jv_H (jx_K 4) jx_I0 jx_L0 (jx_R 2))) rfl rfl (jx_putR rfl rfl rfl rfl rfl rfl rfl) ?_
  refine jv_Ev.steps jv_i119 2 (pc' := 16) (l' := [(0, .ref 2)]) (st' := [.int (64 : Int32), .ref 2]) rfl ?_
  refine jx_Ev_new jv_i119 (pc' := 18) (n' := 5) (sl' := 10324) (k := 101) (ln := 64) (kk := 64) (st' := [.ref 4, .ref 2]) rfl rfl rfl (fun _ => rfl) rfl rfl rfl rfl ?_
  refine jv_Ev.m jv_i119 (pc' := 21) (st' := []) (G' := (jv_H (jx_K 5) jx_I0 jx_L0 (jx_R 3))) rfl rfl (jx_putR rfl rfl rfl rfl rfl rfl rfl) ?_
  refine jv_Ev.steps jv_i119 2 (pc' := 25) (l' := [(0, .ref 2)]) (st' := [.int (512 : Int32), .ref 2]) rfl ?_
  refine jx_Ev_new jv_i119 (pc' := 27) (n' := 6) (sl' := 10836) (k := 101) (ln := 512) (kk := 512) (st' := [.ref 5, .ref 2]) rfl rfl rfl (fun _ => rfl) rfl rfl rfl rfl ?_
  refine jv_Ev.m jv_i119 (pc' := 30) (st' := []) (G' := (jv_H (jx_K 6) jx_I0 jx_L0 (jx_R 4))) rfl rfl (jx_putR rfl rfl rfl rfl rfl rfl rfl) ?_
  refine jv_Ev.steps jv_i119 2 (pc' := 33) (l' := [(0, .ref 2)]) (st' := [.int (65536 : Int32), .ref 2]) rfl ?_
  refine jx_Ev_new jv_i119 (pc' := 35) (n' := 7) (sl' := 76372) (k := 101) (ln := 65536) (kk := 65536) (st' := [.ref 6, .ref 2]) rfl rfl rfl (fun _ => rfl) rfl rfl rfl rfl ?_
  refine jv_Ev.m jv_i119 (pc' := 38) (st' := []) (G' := (jv_H (jx_K 7) jx_I0 jx_L0 (jx_R 5))) rfl rfl (jx_putR rfl rfl rfl rfl rfl rfl rfl) ?_
  refine jv_Ev.steps jv_i119 2 (pc' := 41) (l' := [(0, .ref 2)]) (st' := [.int (8 : Int32), .ref 2]) rfl ?_
  refine jx_Ev_new jv_i119 (pc' := 44) (n' := 8) (sl' := 76380) (k := 106) (ln := 8) (kk := 8) (st' := [.ref 7, .ref 2]) rfl rfl rfl (fun _ => rfl) rfl rfl rfl rfl ?_
  refine jv_Ev.m jv_i119 (pc' := 47) (st' := []) (G' := (jv_H (jx_K 8) jx_I0 jx_L0 (jx_R 6))) rfl rfl (jx_putR rfl rfl rfl rfl rfl rfl rfl) ?_
  refine jv_Ev.steps jv_i119 2 (pc' := 51) (l' := [(0, .ref 2)]) (st' := [.int (8192 : Int32), .ref 2]) rfl ?_
  refine jx_Ev_new jv_i119 (pc' := 53) (n' := 9) (sl' := 84572) (k := 101) (ln := 8192) (kk := 8192) (st' := [.ref 8, .ref 2]) rfl rfl rfl (fun _ => rfl) rfl rfl rfl rfl ?_
  refine jv_Ev.m jv_i119 (pc' := 56) (st' := []) (G' := (jv_H (jx_K 9) jx_I0 jx_L0 (jx_R 7))) rfl rfl (jx_putR rfl rfl rfl rfl rfl rfl rfl) ?_
  refine jv_Ev.steps jv_i119 2 (pc' := 60) (l' := [(0, .ref 2)]) (st' := [.int (8192 : Int32), .ref 2]) rfl ?_
  refine jx_Ev_new jv_i119 (pc' := 62) (n' := 10) (sl' := 92764) (k := 102) (ln := 8192) (kk := 8192) (st' := [.ref 9, .ref 2]) rfl rfl rfl (fun _ => rfl) rfl rfl rfl rfl ?_
  refine jv_Ev.m jv_i119 (pc' := 65) (st' := []) (G' := (jv_H (jx_K 10) jx_I0 jx_L0 (jx_R 8))) rfl rfl (jx_putR rfl rfl rfl rfl rfl rfl rfl) ?_
  exact jv_Ev.ret jv_i119 rfl rfl

set_option maxRecDepth 100000 in
/-- ProgramBox$Checker.<init>, on a fresh world -/
theorem jx_c22 : jv_Ms 22 [.ref 10, .ref 2] (jv_H (jx_K 11) jx_I0 jx_L0 (jx_R 9)) 11 92776 (none, (jv_H (jx_K 171) jx_I0 jx_L0 (jx_R 170)), 171, 95494) := by
  show jv_Ev 22 0 [(0, .ref 10), (1, .ref 2)] [] (jv_H (jx_K 11) jx_I0 jx_L0 (jx_R 9)) 11 92776 _
  refine jv_Ev.steps jv_i22 1 (pc' := 1) (l' := [(0, .ref 10), (1, .ref 2)]) (st' := [.ref 10]) rfl ?_
  refine jv_Ev.obj jv_i22 rfl rfl ?_
  refine jv_Ev.steps jv_i22 2 (pc' := 8) (l' := [(0, .ref 10), (1, .ref 2)]) (st' := [.int (1024 : Int32), .ref 10]) rfl ?_
  refine jx_Ev_new jv_i22 (pc' := 11) (n' := 12) (sl' := 93800) (k := 104) (ln := 1024) (kk := 1024) (st' := [.ref 11, .ref 10]) rfl rfl rfl (fun _ => rfl) rfl rfl rfl rfl ?_
  refine jv_Ev.m jv_i22 (pc' := 14) (st' := []) (G' := (jv_H (jx_K 12) jx_I0 jx_L0 (jx_R 10))) rfl rfl (jx_putR rfl rfl rfl rfl rfl rfl rfl) ?_
  refine jv_Ev.steps jv_i22 1 (pc' := 15) (l' := [(0, .ref 10), (1, .ref 2)]) (st' := [.ref 10]) rfl ?_
  refine jx_Ev_new jv_i22 (pc' := 18) (n' := 13) (sl' := 93805) (k := 5) (ln := 5) (kk := 5) (st' := [.ref 12, .ref 10]) rfl rfl rfl (jx_fo 5 rfl (fun _ => rfl) (fun _ => rfl) (fun _ => rfl)) rfl rfl rfl rfl ?_
  refine jv_Ev.steps jv_i22 1 (pc' := 19) (l' := [(0, .ref 10), (1, .ref 2)]) (st' := [.ref 12, .ref 12, .ref 10]) rfl ?_
  refine jv_Ev.c jv_i22 (pc' := 22) (S' := [.ref 12, .ref 10]) jv_i110 [.ref 12] rfl rfl rfl rfl (by rfl) rfl (jx_State 12 13 10 _ jx_I0 rfl (by decide) (by decide) rfl (by decide +kernel) rfl (by decide +kernel) jx_Sa10 jx_Sb10 rfl (fun _ => rfl) jx_Sc10 (fun q h1 h2 j => jx_I0_fr q j (by omega))) rfl rfl ?_
  refine jv_Ev.m jv_i22 (pc' := 25) (st' := []) (G' := (jv_H (jx_K 89) jx_I0 jx_L0 (jx_R 87))) rfl rfl (jx_putR rfl rfl rfl rfl rfl rfl rfl) ?_
  refine jv_Ev.steps jv_i22 1 (pc' := 26) (l' := [(0, .ref 10), (1, .ref 2)]) (st' := [.ref 10]) rfl ?_
  refine jx_Ev_new jv_i22 (pc' := 29) (n' := 90) (sl' := 94635) (k := 5) (ln := 5) (kk := 5) (st' := [.ref 89, .ref 10]) rfl rfl rfl (jx_fo 5 rfl (fun _ => rfl) (fun _ => rfl) (fun _ => rfl)) rfl rfl rfl rfl ?_
  refine jv_Ev.steps jv_i22 1 (pc' := 30) (l' := [(0, .ref 10), (1, .ref 2)]) (st' := [.ref 89, .ref 89, .ref 10]) rfl ?_
  refine jv_Ev.c jv_i22 (pc' := 33) (S' := [.ref 89, .ref 10]) jv_i110 [.ref 89] rfl rfl rfl rfl (by rfl) rfl (jx_State 89 90 87 _ jx_I0 rfl (by decide) (by decide) rfl (by decide +kernel) rfl (by decide +kernel) jx_Sa87 jx_Sb87 rfl (fun _ => rfl) jx_Sc87 (fun q h1 h2 j => jx_I0_fr q j (by omega))) rfl rfl ?_
  refine jv_Ev.m jv_i22 (pc' := 36) (st' := []) (G' := (jv_H (jx_K 166) jx_I0 jx_L0 (jx_R 164))) rfl rfl (jx_putR rfl rfl rfl rfl rfl rfl rfl) ?_
  refine jv_Ev.steps jv_i22 1 (pc' := 37) (l' := [(0, .ref 10), (1, .ref 2)]) (st' := [.ref 10]) rfl ?_
  refine jx_Ev_new jv_i22 (pc' := 40) (n' := 167) (sl' := 95470) (k := 8) (ln := 10) (kk := 10) (st' := [.ref 166, .ref 10]) rfl rfl rfl (jx_fo 8 rfl (fun _ => rfl) (fun _ => rfl) (fun _ => rfl)) rfl rfl rfl rfl ?_
  refine jv_Ev.steps jv_i22 1 (pc' := 41) (l' := [(0, .ref 10), (1, .ref 2)]) (st' := [.ref 166, .ref 166, .ref 10]) rfl ?_
  refine jv_Ev.c jv_i22 (pc' := 44) (S' := [.ref 166, .ref 10]) jv_i139 [.ref 166] rfl rfl rfl rfl (by rfl) rfl (jx_c139 _ _ _ _) rfl rfl ?_
  refine jv_Ev.m jv_i22 (pc' := 47) (st' := []) (G' := (jv_H (jx_K 167) jx_I0 jx_L0 (jx_R 165))) rfl rfl (jx_putR rfl rfl rfl rfl rfl rfl rfl) ?_
  refine jv_Ev.steps jv_i22 1 (pc' := 48) (l' := [(0, .ref 10), (1, .ref 2)]) (st' := [.ref 10]) rfl ?_
  refine jx_Ev_new jv_i22 (pc' := 51) (n' := 168) (sl' := 95476) (k := 9) (ln := 6) (kk := 6) (st' := [.ref 167, .ref 10]) rfl rfl rfl (jx_fo 9 rfl (fun _ => rfl) (fun _ => rfl) (fun _ => rfl)) rfl rfl rfl rfl ?_
  refine jv_Ev.steps jv_i22 1 (pc' := 52) (l' := [(0, .ref 10), (1, .ref 2)]) (st' := [.ref 167, .ref 167, .ref 10]) rfl ?_
  refine jv_Ev.c jv_i22 (pc' := 55) (S' := [.ref 167, .ref 10]) jv_i148 [.ref 167] rfl rfl rfl rfl (by rfl) rfl (jx_c148 _ _ _ _) rfl rfl ?_
  refine jv_Ev.m jv_i22 (pc' := 58) (st' := []) (G' := (jv_H (jx_K 168) jx_I0 jx_L0 (jx_R 166))) rfl rfl (jx_putR rfl rfl rfl rfl rfl rfl rfl) ?_
  refine jv_Ev.steps jv_i22 1 (pc' := 59) (l' := [(0, .ref 10), (1, .ref 2)]) (st' := [.ref 10]) rfl ?_
  refine jx_Ev_new jv_i22 (pc' := 62) (n' := 169) (sl' := 95482) (k := 9) (ln := 6) (kk := 6) (st' := [.ref 168, .ref 10]) rfl rfl rfl (jx_fo 9 rfl (fun _ => rfl) (fun _ => rfl) (fun _ => rfl)) rfl rfl rfl rfl ?_
  refine jv_Ev.steps jv_i22 1 (pc' := 63) (l' := [(0, .ref 10), (1, .ref 2)]) (st' := [.ref 168, .ref 168, .ref 10]) rfl ?_
  refine jv_Ev.c jv_i22 (pc' := 66) (S' := [.ref 168, .ref 10]) jv_i148 [.ref 168] rfl rfl rfl rfl (by rfl) rfl (jx_c148 _ _ _ _) rfl rfl ?_
  refine jv_Ev.m jv_i22 (pc' := 69) (st' := []) (G' := (jv_H (jx_K 169) jx_I0 jx_L0 (jx_R 167))) rfl rfl (jx_putR rfl rfl rfl rfl rfl rfl rfl) ?_
  refine jv_Ev.steps jv_i22 1 (pc' := 70) (l' := [(0, .ref 10), (1, .ref 2)]) (st' := [.ref 10]) rfl ?_
  refine jx_Ev_new jv_i22 (pc' := 73) (n' := 170) (sl' := 95488) (k := 9) (ln := 6) (kk := 6) (st' := [.ref 169, .ref 10]) rfl rfl rfl (jx_fo 9 rfl (fun _ => rfl) (fun _ => rfl) (fun _ => rfl)) rfl rfl rfl rfl ?_
  refine jv_Ev.steps jv_i22 1 (pc' := 74) (l' := [(0, .ref 10), (1, .ref 2)]) (st' := [.ref 169, .ref 169, .ref 10]) rfl ?_
  refine jv_Ev.c jv_i22 (pc' := 77) (S' := [.ref 169, .ref 10]) jv_i148 [.ref 169] rfl rfl rfl rfl (by rfl) rfl (jx_c148 _ _ _ _) rfl rfl ?_
  refine jv_Ev.m jv_i22 (pc' := 80) (st' := []) (G' := (jv_H (jx_K 170) jx_I0 jx_L0 (jx_R 168))) rfl rfl (jx_putR rfl rfl rfl rfl rfl rfl rfl) ?_
  refine jv_Ev.steps jv_i22 1 (pc' := 81) (l' := [(0, .ref 10), (1, .ref 2)]) (st' := [.ref 10]) rfl ?_
  refine jx_Ev_new jv_i22 (pc' := 84) (n' := 171) (sl' := 95494) (k := 9) (ln := 6) (kk := 6) (st' := [.ref 170, .ref 10]) rfl rfl rfl (jx_fo 9 rfl (fun _ => rfl) (fun _ => rfl) (fun _ => rfl)) rfl rfl rfl rfl ?_
  refine jv_Ev.steps jv_i22 1 (pc' := 85) (l' := [(0, .ref 10), (1, .ref 2)]) (st' := [.ref 170, .ref 170, .ref 10]) rfl ?_
  refine jv_Ev.c jv_i22 (pc' := 88) (S' := [.ref 170, .ref 10]) jv_i148 [.ref 170] rfl rfl rfl rfl (by rfl) rfl (jx_c148 _ _ _ _) rfl rfl ?_
  refine jv_Ev.m jv_i22 (pc' := 91) (st' := []) (G' := (jv_H (jx_K 171) jx_I0 jx_L0 (jx_R 169))) rfl rfl (jx_putR rfl rfl rfl rfl rfl rfl rfl) ?_
  refine jv_Ev.steps jv_i22 2 (pc' := 93) (l' := [(0, .ref 10), (1, .ref 2)]) (st' := [.ref 2, .ref 10]) rfl ?_
  refine jv_Ev.m jv_i22 (pc' := 96) (st' := []) (G' := (jv_H (jx_K 171) jx_I0 jx_L0 (jx_R 170))) rfl rfl (jx_putR rfl rfl rfl rfl rfl rfl rfl) ?_
  exact jv_Ev.ret jv_i22 rfl rfl

set_option maxRecDepth 100000 in
/-- ProgramBox$Machine.<init>, on a fresh world -/
theorem jx_c49 : jv_Ms 49 [.ref 171, .ref 2] (jv_H (jx_K 172) jx_I0 jx_L0 (jx_R 171)) 172 95507 (none, (jv_H (jx_K 177) (jv_u jx_I0 171 10 (-1 : Int32)) jx_L0 (jx_R 177)), 177, 96835) := by
  show jv_Ev 49 0 [(0, .ref 171), (1, .ref 2)] [] (jv_H (jx_K 172) jx_I0 jx_L0 (jx_R 171)) 172 95507 _
  refine jv_Ev.steps jv_i49 1 (pc' := 1) (l' := [(0, .ref 171), (1, .ref 2)]) (st' := [.ref 171]) rfl ?_
  refine jv_Ev.obj jv_i49 rfl rfl ?_
  refine jv_Ev.steps jv_i49 2 (pc' := 7) (l' := [(0, .ref 171), (1, .ref 2)]) (st' := [.int (16 : Int32), .ref 171]) rfl ?_
  refine jx_Ev_new jv_i49 (pc' := 9) (n' := 173) (sl' := 95523) (k := 103) (ln := 16) (kk := 16) (st' := [.ref 172, .ref 171]) rfl rfl rfl (fun _ => rfl) rfl rfl rfl rfl ?_
  refine jv_Ev.m jv_i49 (pc' := 12) (st' := []) (G' := (jv_H (jx_K 173) jx_I0 jx_L0 (jx_R 172))) rfl rfl (jx_putR rfl rfl rfl rfl rfl rfl rfl) ?_
  refine jv_Ev.steps jv_i49 2 (pc' := 16) (l' := [(0, .ref 171), (1, .ref 2)]) (st' := [.int (512 : Int32), .ref 171]) rfl ?_
  refine jx_Ev_new jv_i49 (pc' := 18) (n' := 174) (sl' := 96035) (k := 101) (ln := 512) (kk := 512) (st' := [.ref 173, .ref 171]) rfl rfl rfl (fun _ => rfl) rfl rfl rfl rfl ?_
  refine jv_Ev.m jv_i49 (pc' := 21) (st' := []) (G' := (jv_H (jx_K 174) jx_I0 jx_L0 (jx_R 173))) rfl rfl (jx_putR rfl rfl rfl rfl rfl rfl rfl) ?_
  refine jv_Ev.steps jv_i49 2 (pc' := 25) (l' := [(0, .ref 171), (1, .ref 2)]) (st' := [.int (512 : Int32), .ref 171]) rfl ?_
  refine jx_Ev_new jv_i49 (pc' := 27) (n' := 175) (sl' := 96547) (k := 100) (ln := 512) (kk := 512) (st' := [.ref 174, .ref 171]) rfl rfl rfl (fun _ => rfl) rfl rfl rfl rfl ?_
  refine jv_Ev.m jv_i49 (pc' := 30) (st' := []) (G' := (jv_H (jx_K 175) jx_I0 jx_L0 (jx_R 174))) rfl rfl (jx_putR rfl rfl rfl rfl rfl rfl rfl) ?_
  refine jv_Ev.steps jv_i49 2 (pc' := 33) (l' := [(0, .ref 171), (1, .ref 2)]) (st' := [.int (32 : Int32), .ref 171]) rfl ?_
  refine jx_Ev_new jv_i49 (pc' := 35) (n' := 176) (sl' := 96579) (k := 101) (ln := 32) (kk := 32) (st' := [.ref 175, .ref 171]) rfl rfl rfl (fun _ => rfl) rfl rfl rfl rfl ?_
  refine jv_Ev.m jv_i49 (pc' := 38) (st' := []) (G' := (jv_H (jx_K 176) jx_I0 jx_L0 (jx_R 175))) rfl rfl (jx_putR rfl rfl rfl rfl rfl rfl rfl) ?_
  refine jv_Ev.steps jv_i49 2 (pc' := 42) (l' := [(0, .ref 171), (1, .ref 2)]) (st' := [.int (256 : Int32), .ref 171]) rfl ?_
  refine jx_Ev_new jv_i49 (pc' := 44) (n' := 177) (sl' := 96835) (k := 101) (ln := 256) (kk := 256) (st' := [.ref 176, .ref 171]) rfl rfl rfl (fun _ => rfl) rfl rfl rfl rfl ?_
  refine jv_Ev.m jv_i49 (pc' := 47) (st' := []) (G' := (jv_H (jx_K 177) jx_I0 jx_L0 (jx_R 176))) rfl rfl (jx_putR rfl rfl rfl rfl rfl rfl rfl) ?_
  refine jv_Ev.steps jv_i49 2 (pc' := 49) (l' := [(0, .ref 171), (1, .ref 2)]) (st' := [.int (-1 : Int32), .ref 171]) rfl ?_
  refine jv_Ev.m jv_i49 (pc' := 52) (st' := []) (G' := (jv_H (jx_K 177) (jv_u jx_I0 171 10 (-1 : Int32)) jx_L0 (jx_R 176))) rfl rfl (jv_m_putI rfl rfl rfl rfl rfl) ?_
  refine jv_Ev.steps jv_i49 2 (pc' := 54) (l' := [(0, .ref 171), (1, .ref 2)]) (st' := [.ref 2, .ref 171]) rfl ?_
  refine jv_Ev.m jv_i49 (pc' := 57) (st' := []) (G' := (jv_H (jx_K 177) (jv_u jx_I0 171 10 (-1 : Int32)) jx_L0 (jx_R 177))) rfl rfl (jx_putR rfl rfl rfl rfl rfl rfl rfl) ?_
  exact jv_Ev.ret jv_i49 rfl rfl

set_option maxRecDepth 100000 in
/-- ProgramBox.<init>, on a fresh world -/
theorem jx_c187 : jv_Ms 187 [.ref 0] (jv_H (jx_K 1) jx_I0 jx_L0 (jx_R 0)) 1 9 (none, (jv_H (jx_K 178) (jv_u (jv_u jx_I0 171 10 (-1 : Int32)) 0 7 (-1 : Int32)) jx_L0 (jx_R 179)), 178, 96843) := by
  show jv_Ev 187 0 [(0, .ref 0)] [] (jv_H (jx_K 1) jx_I0 jx_L0 (jx_R 0)) 1 9 _
  refine jv_Ev.steps jv_i187 1 (pc' := 1) (l' := [(0, .ref 0)]) (st' := [.ref 0]) rfl ?_
  refine jv_Ev.obj jv_i187 rfl rfl ?_
  refine jv_Ev.steps jv_i187 2 (pc' := 8) (l' := [(0, .ref 0)]) (st' := [.int (8192 : Int32), .ref 0]) rfl ?_
  refine jx_Ev_new jv_i187 (pc' := 10) (n' := 2) (sl' := 8201) (k := 101) (ln := 8192) (kk := 8192) (st' := [.ref 1, .ref 0]) rfl rfl rfl (fun _ => rfl) rfl rfl rfl rfl ?_
  refine jv_Ev.m jv_i187 (pc' := 13) (st' := []) (G' := (jv_H (jx_K 2) jx_I0 jx_L0 (jx_R 1))) rfl rfl (jx_putR rfl rfl rfl rfl rfl rfl rfl) ?_
  refine jv_Ev.steps jv_i187 1 (pc' := 14) (l' := [(0, .ref 0)]) (st' := [.ref 0]) rfl ?_
  refine jx_Ev_new jv_i187 (pc' := 17) (n' := 3) (sl' := 8212) (k := 6) (ln := 11) (kk := 11) (st' := [.ref 2, .ref 0]) rfl rfl rfl (jx_fo 6 rfl (fun _ => rfl) (fun _ => rfl) (fun _ => rfl)) rfl rfl rfl rfl ?_
  refine jv_Ev.steps jv_i187 1 (pc' := 18) (l' := [(0, .ref 0)]) (st' := [.ref 2, .ref 2, .ref 0]) rfl ?_
  refine jv_Ev.c jv_i187 (pc' := 21) (S' := [.ref 2, .ref 0]) jv_i119 [.ref 2] rfl rfl rfl rfl (by rfl) rfl jx_c119 rfl rfl ?_
  refine jv_Ev.m jv_i187 (pc' := 24) (st' := []) (G' := (jv_H (jx_K 10) jx_I0 jx_L0 (jx_R 9))) rfl rfl (jx_putR rfl rfl rfl rfl rfl rfl rfl) ?_
  refine jv_Ev.steps jv_i187 1 (pc' := 25) (l' := [(0, .ref 0)]) (st' := [.ref 0]) rfl ?_
  refine jx_Ev_new jv_i187 (pc' := 28) (n' := 11) (sl' := 92776) (k := 1) (ln := 12) (kk := 12) (st' := [.ref 10, .ref 0]) rfl rfl rfl (jx_fo 1 rfl (fun _ => rfl) (fun _ => rfl) (fun _ => rfl)) rfl rfl rfl rfl ?_
  refine jv_Ev.steps jv_i187 2 (pc' := 30) (l' := [(0, .ref 0)]) (st' := [.ref 0, .ref 10, .ref 10, .ref 0]) rfl ?_
  refine jv_Ev.m jv_i187 (pc' := 33) (st' := [.ref 2, .ref 10, .ref 10, .ref 0]) (G' := (jv_H (jx_K 11) jx_I0 jx_L0 (jx_R 9))) rfl rfl (jv_m_getR rfl rfl rfl rfl) ?_
  refine jv_Ev.c jv_i187 (pc' := 36) (S' := [.ref 10, .ref 0]) jv_i22 [.ref 10, .ref 2] rfl rfl rfl rfl (by rfl) rfl jx_c22 rfl rfl ?_
  refine jv_Ev.m jv_i187 (pc' := 39) (st' := []) (G' := (jv_H (jx_K 171) jx_I0 jx_L0 (jx_R 171))) rfl rfl (jx_putR rfl rfl rfl rfl rfl rfl rfl) ?_
  refine jv_Ev.steps jv_i187 1 (pc' := 40) (l' := [(0, .ref 0)]) (st' := [.ref 0]) rfl ?_
  refine jx_Ev_new jv_i187 (pc' := 43) (n' := 172) (sl' := 95507) (k := 2) (ln := 13) (kk := 13) (st' := [.ref 171, .ref 0]) rfl rfl rfl (jx_fo 2 rfl (fun _ => rfl) (fun _ => rfl) (fun _ => rfl)) rfl rfl rfl rfl ?_
  refine jv_Ev.steps jv_i187 2 (pc' := 45) (l' := [(0, .ref 0)]) (st' := [.ref 0, .ref 171, .ref 171, .ref 0]) rfl ?_
  refine jv_Ev.m jv_i187 (pc' := 48) (st' := [.ref 2, .ref 171, .ref 171, .ref 0]) (G' := (jv_H (jx_K 172) jx_I0 jx_L0 (jx_R 171))) rfl rfl (jv_m_getR rfl rfl rfl rfl) ?_
  refine jv_Ev.c jv_i187 (pc' := 51) (S' := [.ref 171, .ref 0]) jv_i49 [.ref 171, .ref 2] rfl rfl rfl rfl (by rfl) rfl jx_c49 rfl rfl ?_
  refine jv_Ev.m jv_i187 (pc' := 54) (st' := []) (G' := (jv_H (jx_K 177) (jv_u jx_I0 171 10 (-1 : Int32)) jx_L0 (jx_R 178))) rfl rfl (jx_putR rfl rfl rfl rfl rfl rfl rfl) ?_
  refine jv_Ev.steps jv_i187 2 (pc' := 57) (l' := [(0, .ref 0)]) (st' := [.int (8 : Int32), .ref 0]) rfl ?_
  refine jx_Ev_new jv_i187 (pc' := 60) (n' := 178) (sl' := 96843) (k := 107) (ln := 8) (kk := 8) (st' := [.ref 177, .ref 0]) rfl rfl rfl (fun _ => rfl) rfl rfl rfl rfl ?_
  refine jv_Ev.m jv_i187 (pc' := 63) (st' := []) (G' := (jv_H (jx_K 178) (jv_u jx_I0 171 10 (-1 : Int32)) jx_L0 (jx_R 179))) rfl rfl (jx_putR rfl rfl rfl rfl rfl rfl rfl) ?_
  refine jv_Ev.steps jv_i187 2 (pc' := 65) (l' := [(0, .ref 0)]) (st' := [.int (-1 : Int32), .ref 0]) rfl ?_
  refine jv_Ev.m jv_i187 (pc' := 68) (st' := []) (G' := (jv_H (jx_K 178) (jv_u (jv_u jx_I0 171 10 (-1 : Int32)) 0 7 (-1 : Int32)) jx_L0 (jx_R 179))) rfl rfl (jv_m_putI rfl rfl rfl rfl rfl) ?_
  exact jv_Ev.ret jv_i187 rfl rfl

set_option maxRecDepth 100000 in
/-- ProgramBoxModel$Store.<init>, on a fresh world -/
theorem jx_c317 : jv_Ms 317 [.ref 180] (jv_H (jx_K 181) (jv_u (jv_u jx_I0 171 10 (-1 : Int32)) 0 7 (-1 : Int32)) jx_L0 (jx_R 180)) 181 105088 (none, (jv_H (jx_K 196) (jv_u (jv_u jx_I0 171 10 (-1 : Int32)) 0 7 (-1 : Int32)) jx_L0 (jx_R 196)), 196, 704320) := by
  show jv_Ev 317 0 [(0, .ref 180)] [] (jv_H (jx_K 181) (jv_u (jv_u jx_I0 171 10 (-1 : Int32)) 0 7 (-1 : Int32)) jx_L0 (jx_R 180)) 181 105088 _
  refine jv_Ev.steps jv_i317 1 (pc' := 1) (l' := [(0, .ref 180)]) (st' := [.ref 180]) rfl ?_
  refine jv_Ev.obj jv_i317 rfl rfl ?_
  refine jv_Ev.steps jv_i317 2 (pc' := 8) (l' := [(0, .ref 180)]) (st' := [.int (512 : Int32), .ref 180]) rfl ?_
  refine jx_Ev_new jv_i317 (pc' := 10) (n' := 182) (sl' := 105600) (k := 101) (ln := 512) (kk := 512) (st' := [.ref 181, .ref 180]) rfl rfl rfl (fun _ => rfl) rfl rfl rfl rfl ?_
  refine jv_Ev.m jv_i317 (pc' := 13) (st' := []) (G' := (jv_H (jx_K 182) (jv_u (jv_u jx_I0 171 10 (-1 : Int32)) 0 7 (-1 : Int32)) jx_L0 (jx_R 181))) rfl rfl (jx_putR rfl rfl rfl rfl rfl rfl rfl) ?_
  refine jv_Ev.steps jv_i317 2 (pc' := 15) (l' := [(0, .ref 180)]) (st' := [.ref 180, .ref 180]) rfl ?_
  refine jv_Ev.m jv_i317 (pc' := 18) (st' := [.ref 181, .ref 180]) (G' := (jv_H (jx_K 182) (jv_u (jv_u jx_I0 171 10 (-1 : Int32)) 0 7 (-1 : Int32)) jx_L0 (jx_R 181))) rfl rfl (jv_m_getR rfl rfl rfl rfl) ?_
  refine jv_Ev.m jv_i317 (pc' := 21) (st' := []) (G' := (jv_H (jx_K 182) (jv_u (jv_u jx_I0 171 10 (-1 : Int32)) 0 7 (-1 : Int32)) jx_L0 (jx_R 182))) rfl rfl (jx_putR rfl rfl rfl rfl rfl rfl rfl) ?_
  refine jv_Ev.steps jv_i317 2 (pc' := 24) (l' := [(0, .ref 180)]) (st' := [.int (65536 : Int32), .ref 180]) rfl ?_
  refine jx_Ev_new jv_i317 (pc' := 26) (n' := 183) (sl' := 171136) (k := 101) (ln := 65536) (kk := 65536) (st' := [.ref 182, .ref 180]) rfl rfl rfl (fun _ => rfl) rfl rfl rfl rfl ?_
  refine jv_Ev.m jv_i317 (pc' := 29) (st' := []) (G' := (jv_H (jx_K 183) (jv_u (jv_u jx_I0 171 10 (-1 : Int32)) 0 7 (-1 : Int32)) jx_L0 (jx_R 183))) rfl rfl (jx_putR rfl rfl rfl rfl rfl rfl rfl) ?_
  refine jv_Ev.steps jv_i317 2 (pc' := 32) (l' := [(0, .ref 180)]) (st' := [.int (64 : Int32), .ref 180]) rfl ?_
  refine jx_Ev_new jv_i317 (pc' := 34) (n' := 184) (sl' := 171200) (k := 102) (ln := 64) (kk := 64) (st' := [.ref 183, .ref 180]) rfl rfl rfl (fun _ => rfl) rfl rfl rfl rfl ?_
  refine jv_Ev.m jv_i317 (pc' := 37) (st' := []) (G' := (jv_H (jx_K 184) (jv_u (jv_u jx_I0 171 10 (-1 : Int32)) 0 7 (-1 : Int32)) jx_L0 (jx_R 184))) rfl rfl (jx_putR rfl rfl rfl rfl rfl rfl rfl) ?_
  refine jv_Ev.steps jv_i317 2 (pc' := 40) (l' := [(0, .ref 180)]) (st' := [.int (64 : Int32), .ref 180]) rfl ?_
  refine jx_Ev_new jv_i317 (pc' := 42) (n' := 185) (sl' := 171264) (k := 102) (ln := 64) (kk := 64) (st' := [.ref 184, .ref 180]) rfl rfl rfl (fun _ => rfl) rfl rfl rfl rfl ?_
  refine jv_Ev.m jv_i317 (pc' := 45) (st' := []) (G' := (jv_H (jx_K 185) (jv_u (jv_u jx_I0 171 10 (-1 : Int32)) 0 7 (-1 : Int32)) jx_L0 (jx_R 185))) rfl rfl (jx_putR rfl rfl rfl rfl rfl rfl rfl) ?_
  refine jv_Ev.steps jv_i317 2 (pc' := 48) (l' := [(0, .ref 180)]) (st' := [.int (64 : Int32), .ref 180]) rfl ?_
  refine jx_Ev_new jv_i317 (pc' := 50) (n' := 186) (sl' := 171328) (k := 102) (ln := 64) (kk := 64) (st' := [.ref 185, .ref 180]) rfl rfl rfl (fun _ => rfl) rfl rfl rfl rfl ?_
  refine jv_Ev.m jv_i317 (pc' := 53) (st' := []) (G' := (jv_H (jx_K 186) (jv_u (jv_u jx_I0 171 10 (-1 : Int32)) 0 7 (-1 : Int32)) jx_L0 (jx_R 186))) rfl rfl (jx_putR rfl rfl rfl rfl rfl rfl rfl) ?_
  refine jv_Ev.steps jv_i317 2 (pc' := 56) (l' := [(0, .ref 180)]) (st' := [.int (64 : Int32), .ref 180]) rfl ?_
  refine jx_Ev_new jv_i317 (pc' := 58) (n' := 187) (sl' := 171392) (k := 102) (ln := 64) (kk := 64) (st' := [.ref 186, .ref 180]) rfl rfl rfl (fun _ => rfl) rfl rfl rfl rfl ?_
  refine jv_Ev.m jv_i317 (pc' := 61) (st' := []) (G' := (jv_H (jx_K 187) (jv_u (jv_u jx_I0 171 10 (-1 : Int32)) 0 7 (-1 : Int32)) jx_L0 (jx_R 187))) rfl rfl (jx_putR rfl rfl rfl rfl rfl rfl rfl) ?_
  refine jv_Ev.steps jv_i317 2 (pc' := 64) (l' := [(0, .ref 180)]) (st' := [.int (64 : Int32), .ref 180]) rfl ?_
  refine jx_Ev_new jv_i317 (pc' := 66) (n' := 188) (sl' := 171456) (k := 102) (ln := 64) (kk := 64) (st' := [.ref 187, .ref 180]) rfl rfl rfl (fun _ => rfl) rfl rfl rfl rfl ?_
  refine jv_Ev.m jv_i317 (pc' := 69) (st' := []) (G' := (jv_H (jx_K 188) (jv_u (jv_u jx_I0 171 10 (-1 : Int32)) 0 7 (-1 : Int32)) jx_L0 (jx_R 188))) rfl rfl (jx_putR rfl rfl rfl rfl rfl rfl rfl) ?_
  refine jv_Ev.steps jv_i317 2 (pc' := 72) (l' := [(0, .ref 180)]) (st' := [.int (64 : Int32), .ref 180]) rfl ?_
  refine jx_Ev_new jv_i317 (pc' := 74) (n' := 189) (sl' := 171520) (k := 102) (ln := 64) (kk := 64) (st' := [.ref 188, .ref 180]) rfl rfl rfl (fun _ => rfl) rfl rfl rfl rfl ?_
  refine jv_Ev.m jv_i317 (pc' := 77) (st' := []) (G' := (jv_H (jx_K 189) (jv_u (jv_u jx_I0 171 10 (-1 : Int32)) 0 7 (-1 : Int32)) jx_L0 (jx_R 189))) rfl rfl (jx_putR rfl rfl rfl rfl rfl rfl rfl) ?_
  refine jv_Ev.steps jv_i317 2 (pc' := 80) (l' := [(0, .ref 180)]) (st' := [.int (64 : Int32), .ref 180]) rfl ?_
  refine jx_Ev_new jv_i317 (pc' := 82) (n' := 190) (sl' := 171584) (k := 102) (ln := 64) (kk := 64) (st' := [.ref 189, .ref 180]) rfl rfl rfl (fun _ => rfl) rfl rfl rfl rfl ?_
  refine jv_Ev.m jv_i317 (pc' := 85) (st' := []) (G' := (jv_H (jx_K 190) (jv_u (jv_u jx_I0 171 10 (-1 : Int32)) 0 7 (-1 : Int32)) jx_L0 (jx_R 190))) rfl rfl (jx_putR rfl rfl rfl rfl rfl rfl rfl) ?_
  refine jv_Ev.steps jv_i317 2 (pc' := 89) (l' := [(0, .ref 180)]) (st' := [.int (8192 : Int32), .ref 180]) rfl ?_
  refine jx_Ev_new jv_i317 (pc' := 91) (n' := 191) (sl' := 179776) (k := 100) (ln := 8192) (kk := 8192) (st' := [.ref 190, .ref 180]) rfl rfl rfl (fun _ => rfl) rfl rfl rfl rfl ?_
  refine jv_Ev.m jv_i317 (pc' := 94) (st' := []) (G' := (jv_H (jx_K 191) (jv_u (jv_u jx_I0 171 10 (-1 : Int32)) 0 7 (-1 : Int32)) jx_L0 (jx_R 191))) rfl rfl (jx_putR rfl rfl rfl rfl rfl rfl rfl) ?_
  refine jv_Ev.steps jv_i317 2 (pc' := 97) (l' := [(0, .ref 180)]) (st' := [.int (524288 : Int32), .ref 180]) rfl ?_
  refine jx_Ev_new jv_i317 (pc' := 99) (n' := 192) (sl' := 704064) (k := 101) (ln := 524288) (kk := 524288) (st' := [.ref 191, .ref 180]) rfl rfl rfl (fun _ => rfl) rfl rfl rfl rfl ?_
  refine jv_Ev.m jv_i317 (pc' := 102) (st' := []) (G' := (jv_H (jx_K 192) (jv_u (jv_u jx_I0 171 10 (-1 : Int32)) 0 7 (-1 : Int32)) jx_L0 (jx_R 192))) rfl rfl (jx_putR rfl rfl rfl rfl rfl rfl rfl) ?_
  refine jv_Ev.steps jv_i317 2 (pc' := 105) (l' := [(0, .ref 180)]) (st' := [.int (64 : Int32), .ref 180]) rfl ?_
  refine jx_Ev_new jv_i317 (pc' := 107) (n' := 193) (sl' := 704128) (k := 103) (ln := 64) (kk := 64) (st' := [.ref 192, .ref 180]) rfl rfl rfl (fun _ => rfl) rfl rfl rfl rfl ?_
  refine jv_Ev.m jv_i317 (pc' := 110) (st' := []) (G' := (jv_H (jx_K 193) (jv_u (jv_u jx_I0 171 10 (-1 : Int32)) 0 7 (-1 : Int32)) jx_L0 (jx_R 193))) rfl rfl (jx_putR rfl rfl rfl rfl rfl rfl rfl) ?_
  refine jv_Ev.steps jv_i317 2 (pc' := 113) (l' := [(0, .ref 180)]) (st' := [.int (64 : Int32), .ref 180]) rfl ?_
  refine jx_Ev_new jv_i317 (pc' := 115) (n' := 194) (sl' := 704192) (k := 103) (ln := 64) (kk := 64) (st' := [.ref 193, .ref 180]) rfl rfl rfl (fun _ => rfl) rfl rfl rfl rfl ?_
  refine jv_Ev.m jv_i317 (pc' := 118) (st' := []) (G' := (jv_H (jx_K 194) (jv_u (jv_u jx_I0 171 10 (-1 : Int32)) 0 7 (-1 : Int32)) jx_L0 (jx_R 194))) rfl rfl (jx_putR rfl rfl rfl rfl rfl rfl rfl) ?_
  refine jv_Ev.steps jv_i317 2 (pc' := 121) (l' := [(0, .ref 180)]) (st' := [.int (64 : Int32), .ref 180]) rfl ?_
  refine jx_Ev_new jv_i317 (pc' := 123) (n' := 195) (sl' := 704256) (k := 102) (ln := 64) (kk := 64) (st' := [.ref 194, .ref 180]) rfl rfl rfl (fun _ => rfl) rfl rfl rfl rfl ?_
  refine jv_Ev.m jv_i317 (pc' := 126) (st' := []) (G' := (jv_H (jx_K 195) (jv_u (jv_u jx_I0 171 10 (-1 : Int32)) 0 7 (-1 : Int32)) jx_L0 (jx_R 195))) rfl rfl (jx_putR rfl rfl rfl rfl rfl rfl rfl) ?_
  refine jv_Ev.steps jv_i317 2 (pc' := 129) (l' := [(0, .ref 180)]) (st' := [.int (64 : Int32), .ref 180]) rfl ?_
  refine jx_Ev_new jv_i317 (pc' := 131) (n' := 196) (sl' := 704320) (k := 100) (ln := 64) (kk := 64) (st' := [.ref 195, .ref 180]) rfl rfl rfl (fun _ => rfl) rfl rfl rfl rfl ?_
  refine jv_Ev.m jv_i317 (pc' := 134) (st' := []) (G' := (jv_H (jx_K 196) (jv_u (jv_u jx_I0 171 10 (-1 : Int32)) 0 7 (-1 : Int32)) jx_L0 (jx_R 196))) rfl rfl (jx_putR rfl rfl rfl rfl rfl rfl rfl) ?_
  exact jv_Ev.ret jv_i317 rfl rfl

set_option maxRecDepth 100000 in
/-- ProgramBoxModel$Check$Sets.<init>, on a fresh world -/
theorem jx_c198 : jv_Ms 198 [.ref 208] (jv_H (jx_K 209) (jv_u (jv_u jx_I0 171 10 (-1 : Int32)) 0 7 (-1 : Int32)) jx_L0 (jx_R 208)) 209 955143 (none, (jv_H (jx_K 216) (jv_u (jv_u jx_I0 171 10 (-1 : Int32)) 0 7 (-1 : Int32)) jx_L0 (jx_R 215)), 216, 1495543) := by
  show jv_Ev 198 0 [(0, .ref 208)] [] (jv_H (jx_K 209) (jv_u (jv_u jx_I0 171 10 (-1 : Int32)) 0 7 (-1 : Int32)) jx_L0 (jx_R 208)) 209 955143 _
  refine jv_Ev.steps jv_i198 1 (pc' := 1) (l' := [(0, .ref 208)]) (st' := [.ref 208]) rfl ?_
  refine jv_Ev.obj jv_i198 rfl rfl ?_
  refine jv_Ev.steps jv_i198 2 (pc' := 7) (l' := [(0, .ref 208)]) (st' := [.int (77200 : Int32), .ref 208]) rfl ?_
  refine jx_Ev_new jv_i198 (pc' := 9) (n' := 210) (sl' := 1032343) (k := 103) (ln := 77200) (kk := 77200) (st' := [.ref 209, .ref 208]) rfl rfl rfl (fun _ => rfl) rfl rfl rfl rfl ?_
  refine jv_Ev.m jv_i198 (pc' := 12) (st' := []) (G' := (jv_H (jx_K 210) (jv_u (jv_u jx_I0 171 10 (-1 : Int32)) 0 7 (-1 : Int32)) jx_L0 (jx_R 209))) rfl rfl (jx_putR rfl rfl rfl rfl rfl rfl rfl) ?_
  refine jv_Ev.steps jv_i198 2 (pc' := 15) (l' := [(0, .ref 208)]) (st' := [.int (77200 : Int32), .ref 208]) rfl ?_
  refine jx_Ev_new jv_i198 (pc' := 17) (n' := 211) (sl' := 1109543) (k := 103) (ln := 77200) (kk := 77200) (st' := [.ref 210, .ref 208]) rfl rfl rfl (fun _ => rfl) rfl rfl rfl rfl ?_
  refine jv_Ev.m jv_i198 (pc' := 20) (st' := []) (G' := (jv_H (jx_K 211) (jv_u (jv_u jx_I0 171 10 (-1 : Int32)) 0 7 (-1 : Int32)) jx_L0 (jx_R 210))) rfl rfl (jx_putR rfl rfl rfl rfl rfl rfl rfl) ?_
  refine jv_Ev.steps jv_i198 2 (pc' := 23) (l' := [(0, .ref 208)]) (st' := [.int (77200 : Int32), .ref 208]) rfl ?_
  refine jx_Ev_new jv_i198 (pc' := 25) (n' := 212) (sl' := 1186743) (k := 103) (ln := 77200) (kk := 77200) (st' := [.ref 211, .ref 208]) rfl rfl rfl (fun _ => rfl) rfl rfl rfl rfl ?_
  refine jv_Ev.m jv_i198 (pc' := 28) (st' := []) (G' := (jv_H (jx_K 212) (jv_u (jv_u jx_I0 171 10 (-1 : Int32)) 0 7 (-1 : Int32)) jx_L0 (jx_R 211))) rfl rfl (jx_putR rfl rfl rfl rfl rfl rfl rfl) ?_
  refine jv_Ev.steps jv_i198 2 (pc' := 31) (l' := [(0, .ref 208)]) (st' := [.int (77200 : Int32), .ref 208]) rfl ?_
  refine jx_Ev_new jv_i198 (pc' := 33) (n' := 213) (sl' := 1263943) (k := 103) (ln := 77200) (kk := 77200) (st' := [.ref 212, .ref 208]) rfl rfl rfl (fun _ => rfl) rfl rfl rfl rfl ?_
  refine jv_Ev.m jv_i198 (pc' := 36) (st' := []) (G' := (jv_H (jx_K 213) (jv_u (jv_u jx_I0 171 10 (-1 : Int32)) 0 7 (-1 : Int32)) jx_L0 (jx_R 212))) rfl rfl (jx_putR rfl rfl rfl rfl rfl rfl rfl) ?_
  refine jv_Ev.steps jv_i198 2 (pc' := 39) (l' := [(0, .ref 208)]) (st' := [.int (77200 : Int32), .ref 208]) rfl ?_
  refine jx_Ev_new jv_i198 (pc' := 41) (n' := 214) (sl' := 1341143) (k := 103) (ln := 77200) (kk := 77200) (st' := [.ref 213, .ref 208]) rfl rfl rfl (fun _ => rfl) rfl rfl rfl rfl ?_
  refine jv_Ev.m jv_i198 (pc' := 44) (st' := []) (G' := (jv_H (jx_K 214) (jv_u (jv_u jx_I0 171 10 (-1 : Int32)) 0 7 (-1 : Int32)) jx_L0 (jx_R 213))) rfl rfl (jx_putR rfl rfl rfl rfl rfl rfl rfl) ?_
  refine jv_Ev.steps jv_i198 2 (pc' := 47) (l' := [(0, .ref 208)]) (st' := [.int (77200 : Int32), .ref 208]) rfl ?_
  refine jx_Ev_new jv_i198 (pc' := 49) (n' := 215) (sl' := 1418343) (k := 103) (ln := 77200) (kk := 77200) (st' := [.ref 214, .ref 208]) rfl rfl rfl (fun _ => rfl) rfl rfl rfl rfl ?_
  refine jv_Ev.m jv_i198 (pc' := 52) (st' := []) (G' := (jv_H (jx_K 215) (jv_u (jv_u jx_I0 171 10 (-1 : Int32)) 0 7 (-1 : Int32)) jx_L0 (jx_R 214))) rfl rfl (jx_putR rfl rfl rfl rfl rfl rfl rfl) ?_
  refine jv_Ev.steps jv_i198 2 (pc' := 55) (l' := [(0, .ref 208)]) (st' := [.int (77200 : Int32), .ref 208]) rfl ?_
  refine jx_Ev_new jv_i198 (pc' := 57) (n' := 216) (sl' := 1495543) (k := 100) (ln := 77200) (kk := 77200) (st' := [.ref 215, .ref 208]) rfl rfl rfl (fun _ => rfl) rfl rfl rfl rfl ?_
  refine jv_Ev.m jv_i198 (pc' := 60) (st' := []) (G' := (jv_H (jx_K 216) (jv_u (jv_u jx_I0 171 10 (-1 : Int32)) 0 7 (-1 : Int32)) jx_L0 (jx_R 215))) rfl rfl (jx_putR rfl rfl rfl rfl rfl rfl rfl) ?_
  exact jv_Ev.ret jv_i198 rfl rfl

set_option maxRecDepth 100000 in
/-- ProgramBoxModel$Check.<init>, on a fresh world -/
theorem jx_c252 : jv_Ms 252 [.ref 196] (jv_H (jx_K 197) (jv_u (jv_u jx_I0 171 10 (-1 : Int32)) 0 7 (-1 : Int32)) jx_L0 (jx_R 197)) 197 704344 (none, (jv_H (jx_K 216) (jx_fill (jv_u (jv_u jx_I0 171 10 (-1 : Int32)) 0 7 (-1 : Int32)) 207 77100 (-1)) jx_L0 (jx_R 216)), 216, 1495543) := by
  show jv_Ev 252 0 [(0, .ref 196)] [] (jv_H (jx_K 197) (jv_u (jv_u jx_I0 171 10 (-1 : Int32)) 0 7 (-1 : Int32)) jx_L0 (jx_R 197)) 197 704344 _
  refine jv_Ev.steps jv_i252 1 (pc' := 1) (l' := [(0, .ref 196)]) (st' := [.ref 196]) rfl ?_
  refine jv_Ev.obj jv_i252 rfl rfl ?_
  refine jv_Ev.steps jv_i252 2 (pc' := 8) (l' := [(0, .ref 196)]) (st' := [.int (8192 : Int32), .ref 196]) rfl ?_
  refine jx_Ev_new jv_i252 (pc' := 10) (n' := 198) (sl' := 712536) (k := 102) (ln := 8192) (kk := 8192) (st' := [.ref 197, .ref 196]) rfl rfl rfl (fun _ => rfl) rfl rfl rfl rfl ?_
  refine jv_Ev.m jv_i252 (pc' := 13) (st' := []) (G' := (jv_H (jx_K 198) (jv_u (jv_u jx_I0 171 10 (-1 : Int32)) 0 7 (-1 : Int32)) jx_L0 (jx_R 198))) rfl rfl (jx_putR rfl rfl rfl rfl rfl rfl rfl) ?_
  refine jv_Ev.steps jv_i252 2 (pc' := 17) (l' := [(0, .ref 196)]) (st' := [.int (8192 : Int32), .ref 196]) rfl ?_
  refine jx_Ev_new jv_i252 (pc' := 19) (n' := 199) (sl' := 720728) (k := 102) (ln := 8192) (kk := 8192) (st' := [.ref 198, .ref 196]) rfl rfl rfl (fun _ => rfl) rfl rfl rfl rfl ?_
  refine jv_Ev.m jv_i252 (pc' := 22) (st' := []) (G' := (jv_H (jx_K 199) (jv_u (jv_u jx_I0 171 10 (-1 : Int32)) 0 7 (-1 : Int32)) jx_L0 (jx_R 199))) rfl rfl (jx_putR rfl rfl rfl rfl rfl rfl rfl) ?_
  refine jv_Ev.steps jv_i252 2 (pc' := 25) (l' := [(0, .ref 196)]) (st' := [.int (8 : Int32), .ref 196]) rfl ?_
  refine jx_Ev_new jv_i252 (pc' := 27) (n' := 200) (sl' := 720736) (k := 102) (ln := 8) (kk := 8) (st' := [.ref 199, .ref 196]) rfl rfl rfl (fun _ => rfl) rfl rfl rfl rfl ?_
  refine jv_Ev.m jv_i252 (pc' := 30) (st' := []) (G' := (jv_H (jx_K 200) (jv_u (jv_u jx_I0 171 10 (-1 : Int32)) 0 7 (-1 : Int32)) jx_L0 (jx_R 200))) rfl rfl (jx_putR rfl rfl rfl rfl rfl rfl rfl) ?_
  refine jv_Ev.steps jv_i252 2 (pc' := 33) (l' := [(0, .ref 196)]) (st' := [.int (8 : Int32), .ref 196]) rfl ?_
  refine jx_Ev_new jv_i252 (pc' := 35) (n' := 201) (sl' := 720744) (k := 102) (ln := 8) (kk := 8) (st' := [.ref 200, .ref 196]) rfl rfl rfl (fun _ => rfl) rfl rfl rfl rfl ?_
  refine jv_Ev.m jv_i252 (pc' := 38) (st' := []) (G' := (jv_H (jx_K 201) (jv_u (jv_u jx_I0 171 10 (-1 : Int32)) 0 7 (-1 : Int32)) jx_L0 (jx_R 201))) rfl rfl (jx_putR rfl rfl rfl rfl rfl rfl rfl) ?_
  refine jv_Ev.steps jv_i252 2 (pc' := 41) (l' := [(0, .ref 196)]) (st' := [.int (8 : Int32), .ref 196]) rfl ?_
  refine jx_Ev_new jv_i252 (pc' := 43) (n' := 202) (sl' := 720752) (k := 102) (ln := 8) (kk := 8) (st' := [.ref 201, .ref 196]) rfl rfl rfl (fun _ => rfl) rfl rfl rfl rfl ?_
  refine jv_Ev.m jv_i252 (pc' := 46) (st' := []) (G' := (jv_H (jx_K 202) (jv_u (jv_u jx_I0 171 10 (-1 : Int32)) 0 7 (-1 : Int32)) jx_L0 (jx_R 202))) rfl rfl (jx_putR rfl rfl rfl rfl rfl rfl rfl) ?_
  refine jv_Ev.steps jv_i252 2 (pc' := 50) (l' := [(0, .ref 196)]) (st' := [.int (1028 : Int32), .ref 196]) rfl ?_
  refine jx_Ev_new jv_i252 (pc' := 52) (n' := 203) (sl' := 721780) (k := 100) (ln := 1028) (kk := 1028) (st' := [.ref 202, .ref 196]) rfl rfl rfl (fun _ => rfl) rfl rfl rfl rfl ?_
  refine jv_Ev.m jv_i252 (pc' := 55) (st' := []) (G' := (jv_H (jx_K 203) (jv_u (jv_u jx_I0 171 10 (-1 : Int32)) 0 7 (-1 : Int32)) jx_L0 (jx_R 203))) rfl rfl (jx_putR rfl rfl rfl rfl rfl rfl rfl) ?_
  refine jv_Ev.steps jv_i252 2 (pc' := 59) (l' := [(0, .ref 196)]) (st' := [.int (1028 : Int32), .ref 196]) rfl ?_
  refine jx_Ev_new jv_i252 (pc' := 61) (n' := 204) (sl' := 722808) (k := 102) (ln := 1028) (kk := 1028) (st' := [.ref 203, .ref 196]) rfl rfl rfl (fun _ => rfl) rfl rfl rfl rfl ?_
  refine jv_Ev.m jv_i252 (pc' := 64) (st' := []) (G' := (jv_H (jx_K 204) (jv_u (jv_u jx_I0 171 10 (-1 : Int32)) 0 7 (-1 : Int32)) jx_L0 (jx_R 204))) rfl rfl (jx_putR rfl rfl rfl rfl rfl rfl rfl) ?_
  refine jv_Ev.steps jv_i252 2 (pc' := 68) (l' := [(0, .ref 196)]) (st' := [.int (1028 : Int32), .ref 196]) rfl ?_
  refine jx_Ev_new jv_i252 (pc' := 70) (n' := 205) (sl' := 723836) (k := 102) (ln := 1028) (kk := 1028) (st' := [.ref 204, .ref 196]) rfl rfl rfl (fun _ => rfl) rfl rfl rfl rfl ?_
  refine jv_Ev.m jv_i252 (pc' := 73) (st' := []) (G' := (jv_H (jx_K 205) (jv_u (jv_u jx_I0 171 10 (-1 : Int32)) 0 7 (-1 : Int32)) jx_L0 (jx_R 205))) rfl rfl (jx_putR rfl rfl rfl rfl rfl rfl rfl) ?_
  refine jv_Ev.steps jv_i252 2 (pc' := 76) (l' := [(0, .ref 196)]) (st' := [.int (77100 : Int32), .ref 196]) rfl ?_
  refine jx_Ev_new jv_i252 (pc' := 78) (n' := 206) (sl' := 800936) (k := 102) (ln := 77100) (kk := 77100) (st' := [.ref 205, .ref 196]) rfl rfl rfl (fun _ => rfl) rfl rfl rfl rfl ?_
  refine jv_Ev.m jv_i252 (pc' := 81) (st' := []) (G' := (jv_H (jx_K 206) (jv_u (jv_u jx_I0 171 10 (-1 : Int32)) 0 7 (-1 : Int32)) jx_L0 (jx_R 206))) rfl rfl (jx_putR rfl rfl rfl rfl rfl rfl rfl) ?_
  refine jv_Ev.steps jv_i252 2 (pc' := 84) (l' := [(0, .ref 196)]) (st' := [.int (77100 : Int32), .ref 196]) rfl ?_
  refine jx_Ev_new jv_i252 (pc' := 86) (n' := 207) (sl' := 878036) (k := 102) (ln := 77100) (kk := 77100) (st' := [.ref 206, .ref 196]) rfl rfl rfl (fun _ => rfl) rfl rfl rfl rfl ?_
  refine jv_Ev.m jv_i252 (pc' := 89) (st' := []) (G' := (jv_H (jx_K 207) (jv_u (jv_u jx_I0 171 10 (-1 : Int32)) 0 7 (-1 : Int32)) jx_L0 (jx_R 207))) rfl rfl (jx_putR rfl rfl rfl rfl rfl rfl rfl) ?_
  refine jv_Ev.steps jv_i252 2 (pc' := 92) (l' := [(0, .ref 196)]) (st' := [.int (77100 : Int32), .ref 196]) rfl ?_
  refine jx_Ev_new jv_i252 (pc' := 94) (n' := 208) (sl' := 955136) (k := 102) (ln := 77100) (kk := 77100) (st' := [.ref 207, .ref 196]) rfl rfl rfl (fun _ => rfl) rfl rfl rfl rfl ?_
  refine jv_Ev.m jv_i252 (pc' := 97) (st' := []) (G' := (jv_H (jx_K 208) (jv_u (jv_u jx_I0 171 10 (-1 : Int32)) 0 7 (-1 : Int32)) jx_L0 (jx_R 208))) rfl rfl (jx_putR rfl rfl rfl rfl rfl rfl rfl) ?_
  refine jv_Ev.steps jv_i252 1 (pc' := 98) (l' := [(0, .ref 196)]) (st' := [.ref 196]) rfl ?_
  refine jx_Ev_new jv_i252 (pc' := 101) (n' := 209) (sl' := 955143) (k := 11) (ln := 7) (kk := 7) (st' := [.ref 208, .ref 196]) rfl rfl rfl (jx_fo 11 rfl (fun _ => rfl) (fun _ => rfl) (fun _ => rfl)) rfl rfl rfl rfl ?_
  refine jv_Ev.steps jv_i252 1 (pc' := 102) (l' := [(0, .ref 196)]) (st' := [.ref 208, .ref 208, .ref 196]) rfl ?_
  refine jv_Ev.c jv_i252 (pc' := 105) (S' := [.ref 208, .ref 196]) jv_i198 [.ref 208] rfl rfl rfl rfl (by rfl) rfl jx_c198 rfl rfl ?_
  refine jv_Ev.m jv_i252 (pc' := 108) (st' := []) (G' := (jv_H (jx_K 216) (jv_u (jv_u jx_I0 171 10 (-1 : Int32)) 0 7 (-1 : Int32)) jx_L0 (jx_R 216))) rfl rfl (jx_putR rfl rfl rfl rfl rfl rfl rfl) ?_
  refine jv_Ev.steps jv_i252 1 (pc' := 109) (l' := [(0, .ref 196)]) (st' := [.int (0 : Int32)]) rfl ?_
  exact jx_origin (hI := jv_i252) 196 207 216 216 1495543 (jv_u (jv_u jx_I0 171 10 (-1 : Int32)) 0 7 (-1 : Int32)) rfl rfl rfl

set_option maxRecDepth 100000 in
/-- ProgramBoxModel.<init>, on a fresh world -/
theorem jx_c349 : jv_Ms 349 [.ref 178] (jv_H (jx_K 179) (jv_u (jv_u jx_I0 171 10 (-1 : Int32)) 0 7 (-1 : Int32)) jx_L0 (jx_R 179)) 179 96874 (none, (jv_H (jx_K 226) (jv_u (jv_u (jx_fill (jv_u (jv_u jx_I0 171 10 (-1 : Int32)) 0 7 (-1 : Int32)) 207 77100 (-1)) 178 8 (-1 : Int32)) 178 22 (-1 : Int32)) jx_L0 (jx_R 227)), 226, 1572949) := by
  show jv_Ev 349 0 [(0, .ref 178)] [] (jv_H (jx_K 179) (jv_u (jv_u jx_I0 171 10 (-1 : Int32)) 0 7 (-1 : Int32)) jx_L0 (jx_R 179)) 179 96874 _
  refine jv_Ev.steps jv_i349 1 (pc' := 1) (l' := [(0, .ref 178)]) (st' := [.ref 178]) rfl ?_
  refine jv_Ev.obj jv_i349 rfl rfl ?_
  refine jv_Ev.steps jv_i349 2 (pc' := 8) (l' := [(0, .ref 178)]) (st' := [.int (8192 : Int32), .ref 178]) rfl ?_
  refine jx_Ev_new jv_i349 (pc' := 10) (n' := 180) (sl' := 105066) (k := 102) (ln := 8192) (kk := 8192) (st' := [.ref 179, .ref 178]) rfl rfl rfl (fun _ => rfl) rfl rfl rfl rfl ?_
  refine jv_Ev.m jv_i349 (pc' := 13) (st' := []) (G' := (jv_H (jx_K 180) (jv_u (jv_u jx_I0 171 10 (-1 : Int32)) 0 7 (-1 : Int32)) jx_L0 (jx_R 180))) rfl rfl (jx_putR rfl rfl rfl rfl rfl rfl rfl) ?_
  refine jv_Ev.steps jv_i349 1 (pc' := 14) (l' := [(0, .ref 178)]) (st' := [.ref 178]) rfl ?_
  refine jx_Ev_new jv_i349 (pc' := 17) (n' := 181) (sl' := 105088) (k := 13) (ln := 22) (kk := 22) (st' := [.ref 180, .ref 178]) rfl rfl rfl (jx_fo 13 rfl (fun _ => rfl) (fun _ => rfl) (fun _ => rfl)) rfl rfl rfl rfl ?_
  refine jv_Ev.steps jv_i349 1 (pc' := 18) (l' := [(0, .ref 178)]) (st' := [.ref 180, .ref 180, .ref 178]) rfl ?_
  refine jv_Ev.c jv_i349 (pc' := 21) (S' := [.ref 180, .ref 178]) jv_i317 [.ref 180] rfl rfl rfl rfl (by rfl) rfl jx_c317 rfl rfl ?_
  refine jv_Ev.m jv_i349 (pc' := 24) (st' := []) (G' := (jv_H (jx_K 196) (jv_u (jv_u jx_I0 171 10 (-1 : Int32)) 0 7 (-1 : Int32)) jx_L0 (jx_R 197))) rfl rfl (jx_putR rfl rfl rfl rfl rfl rfl rfl) ?_
  refine jv_Ev.steps jv_i349 1 (pc' := 25) (l' := [(0, .ref 178)]) (st' := [.ref 178]) rfl ?_
  refine jx_Ev_new jv_i349 (pc' := 28) (n' := 197) (sl' := 704344) (k := 12) (ln := 24) (kk := 24) (st' := [.ref 196, .ref 178]) rfl rfl rfl (jx_fo 12 rfl (fun _ => rfl) (fun _ => rfl) (fun _ => rfl)) rfl rfl rfl rfl ?_
  refine jv_Ev.steps jv_i349 1 (pc' := 29) (l' := [(0, .ref 178)]) (st' := [.ref 196, .ref 196, .ref 178]) rfl ?_
  refine jv_Ev.c jv_i349 (pc' := 32) (S' := [.ref 196, .ref 178]) jv_i252 [.ref 196] rfl rfl rfl rfl (by rfl) rfl jx_c252 rfl rfl ?_
  refine jv_Ev.m jv_i349 (pc' := 35) (st' := []) (G' := (jv_H (jx_K 216) (jx_fill (jv_u (jv_u jx_I0 171 10 (-1 : Int32)) 0 7 (-1 : Int32)) 207 77100 (-1)) jx_L0 (jx_R 217))) rfl rfl (jx_putR rfl rfl rfl rfl rfl rfl rfl) ?_
  refine jv_Ev.steps jv_i349 2 (pc' := 38) (l' := [(0, .ref 178)]) (st' := [.int (65536 : Int32), .ref 178]) rfl ?_
  refine jx_Ev_new jv_i349 (pc' := 40) (n' := 217) (sl' := 1561079) (k := 102) (ln := 65536) (kk := 65536) (st' := [.ref 216, .ref 178]) rfl rfl rfl (fun _ => rfl) rfl rfl rfl rfl ?_
  refine jv_Ev.m jv_i349 (pc' := 43) (st' := []) (G' := (jv_H (jx_K 217) (jx_fill (jv_u (jv_u jx_I0 171 10 (-1 : Int32)) 0 7 (-1 : Int32)) 207 77100 (-1)) jx_L0 (jx_R 218))) rfl rfl (jx_putR rfl rfl rfl rfl rfl rfl rfl) ?_
  refine jv_Ev.steps jv_i349 2 (pc' := 46) (l' := [(0, .ref 178)]) (st' := [.int (8 : Int32), .ref 178]) rfl ?_
  refine jx_Ev_new jv_i349 (pc' := 48) (n' := 218) (sl' := 1561087) (k := 102) (ln := 8) (kk := 8) (st' := [.ref 217, .ref 178]) rfl rfl rfl (fun _ => rfl) rfl rfl rfl rfl ?_
  refine jv_Ev.m jv_i349 (pc' := 51) (st' := []) (G' := (jv_H (jx_K 218) (jx_fill (jv_u (jv_u jx_I0 171 10 (-1 : Int32)) 0 7 (-1 : Int32)) 207 77100 (-1)) jx_L0 (jx_R 219))) rfl rfl (jx_putR rfl rfl rfl rfl rfl rfl rfl) ?_
  refine jv_Ev.steps jv_i349 2 (pc' := 53) (l' := [(0, .ref 178)]) (st' := [.int (-1 : Int32), .ref 178]) rfl ?_
  refine jv_Ev.m jv_i349 (pc' := 56) (st' := []) (G' := (jv_H (jx_K 218) (jv_u (jx_fill (jv_u (jv_u jx_I0 171 10 (-1 : Int32)) 0 7 (-1 : Int32)) 207 77100 (-1)) 178 8 (-1 : Int32)) jx_L0 (jx_R 219))) rfl rfl (jv_m_putI rfl rfl rfl rfl rfl) ?_
  refine jv_Ev.steps jv_i349 2 (pc' := 60) (l' := [(0, .ref 178)]) (st' := [.int (2048 : Int32), .ref 178]) rfl ?_
  refine jx_Ev_new jv_i349 (pc' := 62) (n' := 219) (sl' := 1563135) (k := 102) (ln := 2048) (kk := 2048) (st' := [.ref 218, .ref 178]) rfl rfl rfl (fun _ => rfl) rfl rfl rfl rfl ?_
  refine jv_Ev.m jv_i349 (pc' := 65) (st' := []) (G' := (jv_H (jx_K 219) (jv_u (jx_fill (jv_u (jv_u jx_I0 171 10 (-1 : Int32)) 0 7 (-1 : Int32)) 207 77100 (-1)) 178 8 (-1 : Int32)) jx_L0 (jx_R 220))) rfl rfl (jx_putR rfl rfl rfl rfl rfl rfl rfl) ?_
  refine jv_Ev.steps jv_i349 2 (pc' := 68) (l' := [(0, .ref 178)]) (st' := [.int (64 : Int32), .ref 178]) rfl ?_
  refine jx_Ev_new jv_i349 (pc' := 70) (n' := 220) (sl' := 1563199) (k := 102) (ln := 64) (kk := 64) (st' := [.ref 219, .ref 178]) rfl rfl rfl (fun _ => rfl) rfl rfl rfl rfl ?_
  refine jv_Ev.m jv_i349 (pc' := 73) (st' := []) (G' := (jv_H (jx_K 220) (jv_u (jx_fill (jv_u (jv_u jx_I0 171 10 (-1 : Int32)) 0 7 (-1 : Int32)) 207 77100 (-1)) 178 8 (-1 : Int32)) jx_L0 (jx_R 221))) rfl rfl (jx_putR rfl rfl rfl rfl rfl rfl rfl) ?_
  refine jv_Ev.steps jv_i349 2 (pc' := 76) (l' := [(0, .ref 178)]) (st' := [.int (11 : Int32), .ref 178]) rfl ?_
  refine jx_Ev_new jv_i349 (pc' := 78) (n' := 221) (sl' := 1563210) (k := 103) (ln := 11) (kk := 11) (st' := [.ref 220, .ref 178]) rfl rfl rfl (fun _ => rfl) rfl rfl rfl rfl ?_
  refine jv_Ev.m jv_i349 (pc' := 81) (st' := []) (G' := (jv_H (jx_K 221) (jv_u (jx_fill (jv_u (jv_u jx_I0 171 10 (-1 : Int32)) 0 7 (-1 : Int32)) 207 77100 (-1)) 178 8 (-1 : Int32)) jx_L0 (jx_R 222))) rfl rfl (jx_putR rfl rfl rfl rfl rfl rfl rfl) ?_
  refine jv_Ev.steps jv_i349 2 (pc' := 84) (l' := [(0, .ref 178)]) (st' := [.int (11 : Int32), .ref 178]) rfl ?_
  refine jx_Ev_new jv_i349 (pc' := 86) (n' := 222) (sl' := 1563221) (k := 100) (ln := 11) (kk := 11) (st' := [.ref 221, .ref 178]) rfl rfl rfl (fun _ => rfl) rfl rfl rfl rfl ?_
  refine jv_Ev.m jv_i349 (pc' := 89) (st' := []) (G' := (jv_H (jx_K 222) (jv_u (jx_fill (jv_u (jv_u jx_I0 171 10 (-1 : Int32)) 0 7 (-1 : Int32)) 207 77100 (-1)) 178 8 (-1 : Int32)) jx_L0 (jx_R 223))) rfl rfl (jx_putR rfl rfl rfl rfl rfl rfl rfl) ?_
  refine jv_Ev.steps jv_i349 2 (pc' := 93) (l' := [(0, .ref 178)]) (st' := [.int (512 : Int32), .ref 178]) rfl ?_
  refine jx_Ev_new jv_i349 (pc' := 95) (n' := 223) (sl' := 1563733) (k := 102) (ln := 512) (kk := 512) (st' := [.ref 222, .ref 178]) rfl rfl rfl (fun _ => rfl) rfl rfl rfl rfl ?_
  refine jv_Ev.m jv_i349 (pc' := 98) (st' := []) (G' := (jv_H (jx_K 223) (jv_u (jx_fill (jv_u (jv_u jx_I0 171 10 (-1 : Int32)) 0 7 (-1 : Int32)) 207 77100 (-1)) 178 8 (-1 : Int32)) jx_L0 (jx_R 224))) rfl rfl (jx_putR rfl rfl rfl rfl rfl rfl rfl) ?_
  refine jv_Ev.steps jv_i349 2 (pc' := 102) (l' := [(0, .ref 178)]) (st' := [.int (512 : Int32), .ref 178]) rfl ?_
  refine jx_Ev_new jv_i349 (pc' := 104) (n' := 224) (sl' := 1564245) (k := 100) (ln := 512) (kk := 512) (st' := [.ref 223, .ref 178]) rfl rfl rfl (fun _ => rfl) rfl rfl rfl rfl ?_
  refine jv_Ev.m jv_i349 (pc' := 107) (st' := []) (G' := (jv_H (jx_K 224) (jv_u (jx_fill (jv_u (jv_u jx_I0 171 10 (-1 : Int32)) 0 7 (-1 : Int32)) 207 77100 (-1)) 178 8 (-1 : Int32)) jx_L0 (jx_R 225))) rfl rfl (jx_putR rfl rfl rfl rfl rfl rfl rfl) ?_
  refine jv_Ev.steps jv_i349 2 (pc' := 111) (l' := [(0, .ref 178)]) (st' := [.int (8192 : Int32), .ref 178]) rfl ?_
  refine jx_Ev_new jv_i349 (pc' := 113) (n' := 225) (sl' := 1572437) (k := 100) (ln := 8192) (kk := 8192) (st' := [.ref 224, .ref 178]) rfl rfl rfl (fun _ => rfl) rfl rfl rfl rfl ?_
  refine jv_Ev.m jv_i349 (pc' := 116) (st' := []) (G' := (jv_H (jx_K 225) (jv_u (jx_fill (jv_u (jv_u jx_I0 171 10 (-1 : Int32)) 0 7 (-1 : Int32)) 207 77100 (-1)) 178 8 (-1 : Int32)) jx_L0 (jx_R 226))) rfl rfl (jx_putR rfl rfl rfl rfl rfl rfl rfl) ?_
  refine jv_Ev.steps jv_i349 2 (pc' := 120) (l' := [(0, .ref 178)]) (st' := [.int (512 : Int32), .ref 178]) rfl ?_
  refine jx_Ev_new jv_i349 (pc' := 122) (n' := 226) (sl' := 1572949) (k := 101) (ln := 512) (kk := 512) (st' := [.ref 225, .ref 178]) rfl rfl rfl (fun _ => rfl) rfl rfl rfl rfl ?_
  refine jv_Ev.m jv_i349 (pc' := 125) (st' := []) (G' := (jv_H (jx_K 226) (jv_u (jx_fill (jv_u (jv_u jx_I0 171 10 (-1 : Int32)) 0 7 (-1 : Int32)) 207 77100 (-1)) 178 8 (-1 : Int32)) jx_L0 (jx_R 227))) rfl rfl (jx_putR rfl rfl rfl rfl rfl rfl rfl) ?_
  refine jv_Ev.steps jv_i349 2 (pc' := 127) (l' := [(0, .ref 178)]) (st' := [.int (-1 : Int32), .ref 178]) rfl ?_
  refine jv_Ev.m jv_i349 (pc' := 130) (st' := []) (G' := (jv_H (jx_K 226) (jv_u (jv_u (jx_fill (jv_u (jv_u jx_I0 171 10 (-1 : Int32)) 0 7 (-1 : Int32)) 207 77100 (-1)) 178 8 (-1 : Int32)) 178 22 (-1 : Int32)) jx_L0 (jx_R 227))) rfl rfl (jv_m_putI rfl rfl rfl rfl rfl) ?_
  exact jv_Ev.ret jv_i349 rfl rfl

