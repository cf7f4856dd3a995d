/-! part 15: runs without their length: the rules by which a method's run is put together -/
/-- the run from here on ends so, however much more it is given -/
def jv_Ev (y pc : Nat) (l : jv_L) (st : List Value) (G : jv_G) (n sl : Nat) (X : jv_R) : Prop := ∃ g0, ∀ g, g0 ≤ g → jv_run jv_Tb g y pc l st G n sl = some X
/-- a whole method's run, by its arguments -/
def jv_Ms (y : Nat) (As : List Value) (G : jv_G) (n sl : Nat) (X : jv_R) : Prop := jv_Ev y 0 (lv_args 0 As) [] G n sl X
theorem jv_Ev.of {y pc : Nat} {l : jv_L} {st : List Value} {G : jv_G} {n sl : Nat} {X : jv_R} (g0 : Nat) (h : ∀ g, g0 ≤ g → jv_body jv_Tb (jv_run jv_Tb g) y pc l st G n sl = some X) : jv_Ev y pc l st G n sl X := by
  refine ⟨g0 + 1, fun g hg => ?_⟩
  cases g with
  | zero => omega
  | succ g => exact h g (by omega)
/-- what stands in the table at number y -/
def jv_I (y : Nat) (mL : Nat) (rt : Option FieldType) (fr lo : Nat) (cd : List (Nat × jv_O)) : Prop := jv_mL jv_Tb y = mL ∧ jv_rt jv_Tb y = rt ∧ jv_fr jv_Tb y = fr ∧ jv_lo jv_Tb y = lo ∧ jv_code jv_Tb y = cd
/-- one instruction that neither calls nor makes nor returns -/
def jv_op (mL fr lo : Nat) (o : jv_O) (pc : Nat) (l : jv_L) (st : List Value) (G : jv_G) : Option (Nat × jv_L × List Value × jv_G) := match o with
  | (kd, i, len, a, b, c) => match kd with
    | 0 => match jv_pure mL i c l st with
      | some (l', st') => some (pc + len, l', st', G)
      | none => none
    | 1 => match jv_mem i a b st G with
      | some (st', G') => some (pc + len, l, st', G')
      | none => none
    | 2 => match jv_br i pc st with
      | some (pc', st') => some (pc', l, st', G)
      | none => none
    | 9 => some (pc + 3, l, .ref (1000000 + a) :: st, G)
    | 10 => match jv_sp fr lo a st G with
      | some (st', G') => some (pc + 3, l, st', G')
      | none => none
    | _ => none
theorem jv_op_ok {go : Nat → Nat → jv_L → List Value → jv_G → Nat → Nat → Option jv_R} {y mL fr lo pc : Nat} {rt : Option FieldType} {cd : List (Nat × jv_O)} (hI : jv_I y mL rt fr lo cd) {o : jv_O} {l l' : jv_L} {st st' : List Value} {G G' : jv_G} {pc' : Nat} (n sl : Nat)
    (hf : jv_fetch cd pc = some o) (h : jv_op mL fr lo o pc l st G = some (pc', l', st', G')) : jv_body jv_Tb go y pc l st G n sl = go y pc' l' st' G' n sl := by
  obtain ⟨h1, h2, h3, h4, h5⟩ := hI
  obtain ⟨kd, i, len, a, b, c⟩ := o
  unfold jv_body
  rw [h5, hf, h1, h2, h3, h4]
  unfold jv_op at h
  match kd, h with
  | 0, h =>
    dsimp only at h ⊢
    cases hq : jv_pure mL i c l st with
    | none => rw [hq] at h; cases h
    | some q => rw [hq] at h; obtain ⟨a1, a2⟩ := q; cases h; rfl
  | 1, h =>
    dsimp only at h ⊢
    cases hq : jv_mem i a b st G with
    | none => rw [hq] at h; cases h
    | some q => rw [hq] at h; obtain ⟨a1, a2⟩ := q; cases h; rfl
  | 2, h =>
    dsimp only at h ⊢
    cases hq : jv_br i pc st with
    | none => rw [hq] at h; cases h
    | some q => rw [hq] at h; obtain ⟨a1, a2⟩ := q; cases h; rfl
  | 9, h => cases h; rfl
  | 10, h =>
    dsimp only at h ⊢
    cases hq : jv_sp fr lo a st G with
    | none => rw [hq] at h; cases h
    | some q => rw [hq] at h; obtain ⟨a1, a2⟩ := q; cases h; rfl
/-- some steps of them -/
def jv_stp (cd : List (Nat × jv_O)) (mL fr lo : Nat) : Nat → Nat → jv_L → List Value → jv_G → Option (Nat × jv_L × List Value × jv_G)
  | 0, pc, l, st, G => some (pc, l, st, G)
  | k + 1, pc, l, st, G => match jv_fetch cd pc with
    | some o => match jv_op mL fr lo o pc l st G with
      | some (pc', l', st', G') => jv_stp cd mL fr lo k pc' l' st' G'
      | none => none
    | none => none
section EV
variable {y mL fr lo : Nat} {rt : Option FieldType} {cd : List (Nat × jv_O)} {pc : Nat} {l : jv_L} {st : List Value} {G : jv_G} {n sl : Nat} {X : jv_R}
theorem jv_Ev.op (hI : jv_I y mL rt fr lo cd) {o : jv_O} {l' : jv_L} {st' : List Value} {G' : jv_G} {pc' : Nat} (hf : jv_fetch cd pc = some o) (h : jv_op mL fr lo o pc l st G = some (pc', l', st', G')) (k : jv_Ev y pc' l' st' G' n sl X) : jv_Ev y pc l st G n sl X := by
  obtain ⟨g0, k⟩ := k
  exact jv_Ev.of g0 (fun g hg => by rw [jv_op_ok hI n sl hf h]; exact k g hg)
theorem jv_Ev.steps (hI : jv_I y mL rt fr lo cd) (k : Nat) {l' : jv_L} {st' : List Value} {G' : jv_G} {pc' : Nat} (h : jv_stp cd mL fr lo k pc l st G = some (pc', l', st', G')) (K : jv_Ev y pc' l' st' G' n sl X) : jv_Ev y pc l st G n sl X := by
  induction k generalizing pc l st G with
  | zero => cases h; exact K
  | succ k ih =>
    simp only [jv_stp] at h
    cases hf : jv_fetch cd pc with
    | none => rw [hf] at h; cases h
    | some o =>
      rw [hf] at h
      dsimp only at h
      cases hq : jv_op mL fr lo o pc l st G with
      | none => rw [hq] at h; cases h
      | some q =>
        rw [hq] at h
        obtain ⟨pc1, l1, st1, G1⟩ := q
        exact jv_Ev.op hI hf hq (ih h)
/-- a jump whose condition isn't known yet -/
theorem jv_Ev.cond (hI : jv_I y mL rt fr lo cd) {i : Instr} {len a b : Nat} {c : Int} {p : Prop} [Decidable p] {off : Int} {r : List Value} (hf : jv_fetch cd pc = some (2, i, len, a, b, c)) (h : jv_br i pc st = jv_go p pc off r)
    (ht : p → jv_Ev y (jv_tg pc off) l r G n sl X) (he : ¬ p → jv_Ev y (pc + 3) l r G n sl X) : jv_Ev y pc l st G n sl X := by
  by_cases hp : p
  · refine jv_Ev.op hI hf (l' := l) (st' := r) (G' := G) (pc' := jv_tg pc off) ?_ (ht hp)
    show (match jv_br i pc st with | some (pc', st') => some (pc', l, st', G) | none => none) = _
    rw [h, jv_go, if_pos hp]
  · refine jv_Ev.op hI hf (l' := l) (st' := r) (G' := G) (pc' := pc + 3) ?_ (he hp)
    show (match jv_br i pc st with | some (pc', st') => some (pc', l, st', G) | none => none) = _
    rw [h, jv_go, if_neg hp]
theorem jv_Ev.ret (hI : jv_I y mL rt fr lo cd) {i : Instr} {len a b : Nat} {c : Int} {rv : Option Value} (hf : jv_fetch cd pc = some (8, i, len, a, b, c)) (h : jv_ret rt i st = some rv) : jv_Ev y pc l st G n sl (rv, G, n, sl) := by
  obtain ⟨h1, h2, h3, h4, h5⟩ := hI
  refine jv_Ev.of 0 (fun g _ => ?_)
  unfold jv_body
  rw [h5, hf, h2]
  show (match jv_ret rt i st with | some rv => some (rv, G, n, sl) | none => none) = _
  rw [h]
theorem jv_Ev.obj (hI : jv_I y mL rt fr lo cd) {i : Instr} {len a b : Nat} {c : Int} {o : Nat} {r : List Value} (hf : jv_fetch cd pc = some (7, i, len, a, b, c)) (h : (Nat.ble 1 fr && Nat.ble (jv_wd r + 12) lo) = true) (k : jv_Ev y (pc + 3) l r G n sl X) : jv_Ev y pc l (.ref o :: r) G n sl X := by
  obtain ⟨h1, h2, h3, h4, h5⟩ := hI
  obtain ⟨g0, k⟩ := k
  refine jv_Ev.of g0 (fun g hg => ?_)
  unfold jv_body
  rw [h5, hf]
  dsimp only
  unfold jv_oi
  rw [h3, h4]
  dsimp only
  rw [h]
  exact k g hg
theorem jv_Ev.new (hI : jv_I y mL rt fr lo cd) {i : Instr} {len a b : Nat} {c : Int} {st' : List Value} {x : jv_E} {kk : Nat} (hf : jv_fetch cd pc = some (3, i, len, a, b, c)) (h : jv_new i a st n = some (st', x, kk)) (hn : n < 1000000) (k : jv_Ev y (pc + len) l st' (jv_set G n x) (n + 1) (sl + kk) X) : jv_Ev y pc l st G n sl X := by
  obtain ⟨h1, h2, h3, h4, h5⟩ := hI
  obtain ⟨g0, k⟩ := k
  refine jv_Ev.of g0 (fun g hg => ?_)
  unfold jv_body
  rw [h5, hf]
  dsimp only
  rw [h]
  dsimp only
  rw [show Nat.blt n 1000000 = true from Nat.ble_eq_true_of_le hn]
  exact k g hg
/-- room for a call -/
def jv_rk (mL' fr' lo' fr lo b : Nat) (st : List Value) : Bool := Nat.ble b st.length && (Nat.ble (jv_wd (st.drop b)) 8 && (Nat.ble (jv_wd (st.take b)) mL' && (Nat.ble (fr' + 1) fr && Nat.ble (8 + (mL' + 11) + lo') lo)))
theorem jv_Ev.call (hI : jv_I y mL rt fr lo cd) {kd : Nat} {i : Instr} {len a b y' mL' fr' lo' : Nat} {rt' : Option FieldType} {cd' : List (Nat × jv_O)} (hI' : jv_I y' mL' rt' fr' lo' cd') {c : Int} {As rest : List Value} {rv : Option Value} {G1 : jv_G} {n1 sl1 : Nat} (hf : jv_fetch cd pc = some (kd, i, len, a, b, c)) (hkd : (Nat.beq kd 4 || (Nat.beq kd 5 || Nat.beq kd 6)) = true)
    (hA : (st.take b).reverse = As) (hr : st.drop b = rest) (hy : jv_callee jv_Tb kd a As G = some y') (hk : jv_rk mL' fr' lo' fr lo b st = true) (hM : jv_Ms y' As G n sl (rv, G1, n1, sl1)) (k : jv_Ev y (pc + 3) l (rv.toList ++ rest) G1 n1 sl1 X) : jv_Ev y pc l st G n sl X := by
  obtain ⟨h1, h2, h3, h4, h5⟩ := hI
  obtain ⟨g1, k⟩ := k
  obtain ⟨g2, hM⟩ := hM
  obtain ⟨e1, e2, e3, e4, e5⟩ := hI'
  refine jv_Ev.of (max g1 g2) (fun g hg => ?_)
  have hroom : jv_room jv_Tb y y' b st = true := by
    unfold jv_room
    rw [e1, e3, e4, h3, h4]
    exact hk
  subst hA; subst hr
  have key : (match jv_callee jv_Tb kd a (st.take b).reverse G with
      | none => none
      | some y' => bif jv_room jv_Tb y y' b st then match jv_run jv_Tb g y' 0 (lv_args 0 (st.take b).reverse) [] G n sl with
          | some (rv, G1, n1, sl1) => jv_run jv_Tb g y (pc + 3) l (rv.toList ++ st.drop b) G1 n1 sl1
          | none => none
        else none) = some X := by
    rw [hy]
    dsimp only
    rw [hroom]
    simp only [cond_true]
    rw [hM g (Nat.le_trans (Nat.le_max_right g1 g2) hg)]
    exact k g (Nat.le_trans (Nat.le_max_left g1 g2) hg)
  unfold jv_body
  rw [h5, hf]
  simp only [Bool.or_eq_true] at hkd
  rcases hkd with hkd | hkd | hkd
  · have := Nat.eq_of_beq_eq_true hkd
    subst this
    exact key
  · have := Nat.eq_of_beq_eq_true hkd
    subst this
    exact key
  · have := Nat.eq_of_beq_eq_true hkd
    subst this
    exact key
/-- equal in all that counts -/
theorem jv_Ev.eq {G' : jv_G} (h : G = G') (k : jv_Ev y pc l st G' n sl X) : jv_Ev y pc l st G n sl X := by rw [h]; exact k
end EV
section EH
variable {y mL fr lo : Nat} {rt : Option FieldType} {cd : List (Nat × jv_O)} {pc : Nat} {l : jv_L} {st : List Value} {G : jv_G} {n sl : Nat} {X : jv_R}
theorem jv_Ev.mem (hI : jv_I y mL rt fr lo cd) {i : Instr} {len a b : Nat} {c : Int} {st' : List Value} {G' : jv_G} (hf : jv_fetch cd pc = some (1, i, len, a, b, c)) (hm : jv_mem i a b st G = some (st', G')) (k : jv_Ev y (pc + len) l st' G' n sl X) : jv_Ev y pc l st G n sl X :=
  jv_Ev.op hI hf (show (match jv_mem i a b st G with | some (st', G') => some (pc + len, l, st', G') | none => none) = some (pc + len, l, st', G') by rw [hm]) k
end EH
theorem jv_Ev.loc {y pc : Nat} {l l' : jv_L} {st : List Value} {G : jv_G} {n sl : Nat} {X : jv_R} (hs : jv_le l l') (k : jv_Ev y pc l st G n sl X) : jv_Ev y pc l' st G n sl X := by
  obtain ⟨g0, k⟩ := k
  exact ⟨g0, fun g hg => jv_run_loc _ _ _ _ _ _ _ _ _ _ _ hs (k g hg)⟩
section ER
variable {y mL fr lo : Nat} {rt : Option FieldType} {cd : List (Nat × jv_O)} {pc : Nat} {l : jv_L} {st : List Value} {G : jv_G} {n sl : Nat} {X A B : jv_R}
theorem jv_Ev.m (hI : jv_I y mL rt fr lo cd) {i : Instr} {len a b pc' : Nat} {c : Int} {st' : List Value} {G' : jv_G} (hf : jv_fetch cd pc = some (1, i, len, a, b, c)) (hp : pc + len = pc') (hm : jv_mem i a b st G = some (st', G')) (k : jv_Ev y pc' l st' G' n sl X) : jv_Ev y pc l st G n sl X := by
  subst hp; exact jv_Ev.mem hI hf hm k
/-- both ways of a jump, to answers of their own -/
theorem jv_Ev.cif (hI : jv_I y mL rt fr lo cd) {i : Instr} {len a b pt pe : Nat} {c : Int} {p q : Prop} [Decidable p] [Decidable q] {off : Int} {r : List Value} (hf : jv_fetch cd pc = some (2, i, len, a, b, c)) (h : jv_br i pc st = jv_go p pc off r) (h1 : jv_tg pc off = pt) (h2 : pc + 3 = pe) (hq : p ↔ q)
    (ht : q → jv_Ev y pt l r G n sl A) (he : ¬ q → jv_Ev y pe l r G n sl B) : jv_Ev y pc l st G n sl (if q then A else B) := by
  subst h1; subst h2
  refine jv_Ev.cond hI hf h (fun hp => ?_) (fun hp => ?_)
  · rw [if_pos (hq.mp hp)]; exact ht (hq.mp hp)
  · rw [if_neg (fun z => hp (hq.mpr z))]; exact he (fun z => hp (hq.mpr z))
/-- both ways of a jump, to one answer -/
theorem jv_Ev.cnd (hI : jv_I y mL rt fr lo cd) {i : Instr} {len a b pt pe : Nat} {c : Int} {p q : Prop} [Decidable p] {off : Int} {r : List Value} (hf : jv_fetch cd pc = some (2, i, len, a, b, c)) (h : jv_br i pc st = jv_go p pc off r) (h1 : jv_tg pc off = pt) (h2 : pc + 3 = pe) (hq : p ↔ q)
    (ht : q → jv_Ev y pt l r G n sl X) (he : ¬ q → jv_Ev y pe l r G n sl X) : jv_Ev y pc l st G n sl X := by
  subst h1; subst h2
  exact jv_Ev.cond hI hf h (fun hp => ht (hq.mp hp)) (fun hp => he (fun z => hp (hq.mpr z)))
/-- what goes on where two ways meet is shown once -/
theorem jv_Ev.dia (j : Nat) (lm : jv_L) (sm : List Value) (Gm : jv_G) (f : jv_Ev y j lm sm Gm n sl X → jv_Ev y pc l st G n sl X) (K : jv_Ev y j lm sm Gm n sl X) : jv_Ev y pc l st G n sl X := f K
theorem jv_Ev.conv {l' : jv_L} {st' : List Value} {G' : jv_G} (hl : l' = l) (hs : st' = st) (hG : G' = G) (K : jv_Ev y pc l' st' G' n sl X) : jv_Ev y pc l st G n sl X := by
  subst hl; subst hs; subst hG; exact K
theorem jv_Ev.c (hI : jv_I y mL rt fr lo cd) {kd : Nat} {i : Instr} {len a b y' mL' fr' lo' pc' : Nat} {rt' : Option FieldType} {cd' : List (Nat × jv_O)} (hI' : jv_I y' mL' rt' fr' lo' cd') {c : Int} (As : List Value) {rest : List Value} {rv : Option Value} {G1 : jv_G} {n1 sl1 : Nat} (hf : jv_fetch cd pc = some (kd, i, len, a, b, c)) (hkd : (Nat.beq kd 4 || (Nat.beq kd 5 || Nat.beq kd 6)) = true)
    (hA : (st.take b).reverse = As) (hr : st.drop b = rest) (hy : jv_callee jv_Tb kd a As G = some y') (hk : jv_rk mL' fr' lo' fr lo b st = true) (hM : jv_Ms y' As G n sl (rv, G1, n1, sl1)) (hp : pc + 3 = pc') {S' : List Value} (hS : rv.toList ++ rest = S') (k : jv_Ev y pc' l S' G1 n1 sl1 X) : jv_Ev y pc l st G n sl X := by
  subst hp; subst hS; exact jv_Ev.call hI hI' hf hkd hA hr hy hk hM k
end ER
section ES
variable {y mL fr lo : Nat} {rt : Option FieldType} {cd : List (Nat × jv_O)} {pc : Nat} {l : jv_L} {st : List Value} {G : jv_G} {n sl : Nat} {X A B : jv_R}
/-- a jump that is known -/
theorem jv_Ev.br (hI : jv_I y mL rt fr lo cd) {i : Instr} {len a b pc' : Nat} {c : Int} {st' : List Value} (hf : jv_fetch cd pc = some (2, i, len, a, b, c)) (hb : jv_br i pc st = some (pc', st')) (k : jv_Ev y pc' l st' G n sl X) : jv_Ev y pc l st G n sl X :=
  jv_Ev.op hI hf (show (match jv_br i pc st with | some (pc', st') => some (pc', l, st', G) | none => none) = some (pc', l, st', G) by rw [hb]) k
theorem jv_Ev.byc {q : Prop} [Decidable q] (ht : q → jv_Ev y pc l st G n sl A) (he : ¬ q → jv_Ev y pc l st G n sl B) : jv_Ev y pc l st G n sl (if q then A else B) := by
  by_cases h : q
  · rw [if_pos h]; exact ht h
  · rw [if_neg h]; exact he h
theorem jv_Ev.bys {q : Prop} (ht : q → jv_Ev y pc l st G n sl X) (he : ¬ q → jv_Ev y pc l st G n sl X) : jv_Ev y pc l st G n sl X := by
  by_cases h : q
  · exact ht h
  · exact he h
theorem jv_ne_toInt {x : Int32} {k : Int} (h : ¬ x = Int32.ofInt k) : x.toInt ≠ k := fun e => h (by rw [← e, Int32.ofInt_toInt])
theorem jv_off_def {ps : List (Int × Int)} {d x : Int} (h : ∀ q ∈ ps, x ≠ q.1) : Op.lookupswitch.offset ps d x = d := by
  induction ps with
  | nil => rfl
  | cons a r ih =>
    have h1 := h a List.mem_cons_self
    simp only [Op.lookupswitch.offset]
    split
    · rename_i he; exfalso; apply h1; simp_all
    · exact ih (fun q hq => h q (List.mem_cons_of_mem _ hq))
theorem jv_lsw_def {d : Int} {ps : Array (Int × Int)} {x : Int32} {r : List Value} (h : ∀ q ∈ ps.toList, x.toInt ≠ q.1) : jv_br (.lookupswitch d ps) pc (.int x :: r) = some (jv_tg pc d, r) := by
  simp only [jv_br, jv_off_def h]
theorem jv_tsw_def {d lo hi : Int} {offs : Array Int} {x : Int32} {r : List Value} (h : ∀ i, i < offs.size → x.toInt = lo + (i : Int) → offs[i]? = some d) (hs : (offs.size : Int) = hi - lo + 1) : jv_br (.tableswitch d lo hi offs) pc (.int x :: r) = some (jv_tg pc d, r) := by
  simp only [jv_br]
  split
  · rfl
  · rename_i hn
    rw [h (x.toInt - lo).toNat (by omega) (by omega)]
theorem jv_op_ldiv {x z : Int64} {r : List Value} (h : ¬ z = 0) : jv_op mL fr lo (0, .ldiv, 1, 0, 0, 0) pc l (.long z :: .long x :: r) G = some (pc + 1, l, .long (x / z) :: r, G) := by
  simp [jv_op, jv_pure, h]
theorem jv_op_lrem {x z : Int64} {r : List Value} (h : ¬ z = 0) : jv_op mL fr lo (0, .lrem, 1, 0, 0, 0) pc l (.long z :: .long x :: r) G = some (pc + 1, l, .long (x - x / z * z) :: r, G) := by
  simp [jv_op, jv_pure, h]
theorem jv_op_idiv {x z : Int32} {r : List Value} (h : ¬ z = 0) : jv_op mL fr lo (0, .idiv, 1, 0, 0, 0) pc l (.int z :: .int x :: r) G = some (pc + 1, l, .int (x / z) :: r, G) := by
  simp [jv_op, jv_pure, h]
theorem jv_op_irem {x z : Int32} {r : List Value} (h : ¬ z = 0) : jv_op mL fr lo (0, .irem, 1, 0, 0, 0) pc l (.int z :: .int x :: r) G = some (pc + 1, l, .int (x - x / z * z) :: r, G) := by
  simp [jv_op, jv_pure, h]
theorem jv_Ev.convX {X' : jv_R} (h : X' = X) (k : jv_Ev y pc l st G n sl X') : jv_Ev y pc l st G n sl X := h ▸ k
end ES
