/-! what is plain to see, of a row that isn't empty -/
def vr_Io (I : Nat → Nat → Int32) (p : Nat) : Option (Bool × vb_R) → Nat → Nat → Int32
  | none => I
  | some x => jv_u I 215 p (vr_b x.1)
def vr_Lo (L : Nat → Nat → Int64) (p : Nat) : Option (Bool × vb_R) → Nat → Nat → Int64
  | none => L
  | some x => vr_set L p x.2
def vr_so : Option (Bool × vb_R) → Int32
  | none => 0
  | some _ => 1
theorem vr_five {α : Type} {A B C D E : Prop} [Decidable A] [Decidable B] [Decidable C] [Decidable D] [Decidable E] (X Y : α) : (if ¬ A then X else if ¬ B then X else if ¬ C then X else if ¬ D then X else if ¬ E then X else Y) = if A ∧ B ∧ C ∧ D ∧ E then Y else X := by
  by_cases a : A <;> by_cases b : B <;> by_cases c : C <;> by_cases d : D <;> by_cases e : E <;> simp [a, b, c, d, e]
theorem vr_u_same {I : Nat → Nat → Int32} {o p : Nat} {x : Int32} (h : I o p = x) : jv_u I o p x = I := by
  funext q i
  unfold jv_u
  by_cases e : (q.beq o && i.beq p) = true
  · rw [e]
    rw [Bool.and_eq_true] at e
    obtain ⟨e1, e2⟩ := e
    rw [Nat.eq_of_beq_eq_true e1, Nat.eq_of_beq_eq_true e2]; exact h.symm
  · have e' : (q.beq o && i.beq p) = false := (Bool.not_eq_true _).mp e
    rw [e']; rfl
theorem vr_u_u {I : Nat → Nat → Int32} {o p : Nat} {x y : Int32} : jv_u (jv_u I o p x) o p y = jv_u I o p y := by
  funext q i
  unfold jv_u
  cases (q.beq o && i.beq p) <;> rfl
theorem vr_ne {α : Type} {F : Nat → Nat → α} {o j q i : Nat} {x : α} (h : Nat.beq q o = false) : jv_u F o j x q i = F q i := by
  unfold jv_u; rw [h]; rfl
theorem vr_out {α : Type} {F : Nat → Nat → α} {o p : Nat} {x : α} {q i : Nat} (h : ¬ (i = p ∧ 209 ≤ q ∧ q ≤ 214)) (ho : (Nat.ble 209 o && Nat.ble o 214) = true) : jv_u F o p x q i = F q i := by
  unfold jv_u
  have : (q.beq o && i.beq p) = false := by
    cases e : (q.beq o && i.beq p)
    · rfl
    · rw [Bool.and_eq_true] at e ho
      have e1 := Nat.eq_of_beq_eq_true e.1
      exact absurd ⟨Nat.eq_of_beq_eq_true e.2, e1 ▸ Nat.le_of_ble_eq_true ho.1, e1 ▸ Nat.le_of_ble_eq_true ho.2⟩ h
  rw [this]; rfl
theorem vr_n209_210 {α : Type} (F : Nat → Nat → α) (p i : Nat) (x : α) : jv_u F 209 p x 210 i = F 210 i := vr_ne rfl
theorem vr_n209_211 {α : Type} (F : Nat → Nat → α) (p i : Nat) (x : α) : jv_u F 209 p x 211 i = F 211 i := vr_ne rfl
theorem vr_n209_212 {α : Type} (F : Nat → Nat → α) (p i : Nat) (x : α) : jv_u F 209 p x 212 i = F 212 i := vr_ne rfl
theorem vr_n209_213 {α : Type} (F : Nat → Nat → α) (p i : Nat) (x : α) : jv_u F 209 p x 213 i = F 213 i := vr_ne rfl
theorem vr_n209_214 {α : Type} (F : Nat → Nat → α) (p i : Nat) (x : α) : jv_u F 209 p x 214 i = F 214 i := vr_ne rfl
theorem vr_n209_215 {α : Type} (F : Nat → Nat → α) (p i : Nat) (x : α) : jv_u F 209 p x 215 i = F 215 i := vr_ne rfl
theorem vr_n210_209 {α : Type} (F : Nat → Nat → α) (p i : Nat) (x : α) : jv_u F 210 p x 209 i = F 209 i := vr_ne rfl
theorem vr_n210_211 {α : Type} (F : Nat → Nat → α) (p i : Nat) (x : α) : jv_u F 210 p x 211 i = F 211 i := vr_ne rfl
theorem vr_n210_212 {α : Type} (F : Nat → Nat → α) (p i : Nat) (x : α) : jv_u F 210 p x 212 i = F 212 i := vr_ne rfl
theorem vr_n210_213 {α : Type} (F : Nat → Nat → α) (p i : Nat) (x : α) : jv_u F 210 p x 213 i = F 213 i := vr_ne rfl
theorem vr_n210_214 {α : Type} (F : Nat → Nat → α) (p i : Nat) (x : α) : jv_u F 210 p x 214 i = F 214 i := vr_ne rfl
theorem vr_n210_215 {α : Type} (F : Nat → Nat → α) (p i : Nat) (x : α) : jv_u F 210 p x 215 i = F 215 i := vr_ne rfl
theorem vr_n211_209 {α : Type} (F : Nat → Nat → α) (p i : Nat) (x : α) : jv_u F 211 p x 209 i = F 209 i := vr_ne rfl
theorem vr_n211_210 {α : Type} (F : Nat → Nat → α) (p i : Nat) (x : α) : jv_u F 211 p x 210 i = F 210 i := vr_ne rfl
theorem vr_n211_212 {α : Type} (F : Nat → Nat → α) (p i : Nat) (x : α) : jv_u F 211 p x 212 i = F 212 i := vr_ne rfl
theorem vr_n211_213 {α : Type} (F : Nat → Nat → α) (p i : Nat) (x : α) : jv_u F 211 p x 213 i = F 213 i := vr_ne rfl
theorem vr_n211_214 {α : Type} (F : Nat → Nat → α) (p i : Nat) (x : α) : jv_u F 211 p x 214 i = F 214 i := vr_ne rfl
theorem vr_n211_215 {α : Type} (F : Nat → Nat → α) (p i : Nat) (x : α) : jv_u F 211 p x 215 i = F 215 i := vr_ne rfl
theorem vr_n212_209 {α : Type} (F : Nat → Nat → α) (p i : Nat) (x : α) : jv_u F 212 p x 209 i = F 209 i := vr_ne rfl
theorem vr_n212_210 {α : Type} (F : Nat → Nat → α) (p i : Nat) (x : α) : jv_u F 212 p x 210 i = F 210 i := vr_ne rfl
theorem vr_n212_211 {α : Type} (F : Nat → Nat → α) (p i : Nat) (x : α) : jv_u F 212 p x 211 i = F 211 i := vr_ne rfl
theorem vr_n212_213 {α : Type} (F : Nat → Nat → α) (p i : Nat) (x : α) : jv_u F 212 p x 213 i = F 213 i := vr_ne rfl
theorem vr_n212_214 {α : Type} (F : Nat → Nat → α) (p i : Nat) (x : α) : jv_u F 212 p x 214 i = F 214 i := vr_ne rfl
theorem vr_n212_215 {α : Type} (F : Nat → Nat → α) (p i : Nat) (x : α) : jv_u F 212 p x 215 i = F 215 i := vr_ne rfl
theorem vr_n213_209 {α : Type} (F : Nat → Nat → α) (p i : Nat) (x : α) : jv_u F 213 p x 209 i = F 209 i := vr_ne rfl
theorem vr_n213_210 {α : Type} (F : Nat → Nat → α) (p i : Nat) (x : α) : jv_u F 213 p x 210 i = F 210 i := vr_ne rfl
theorem vr_n213_211 {α : Type} (F : Nat → Nat → α) (p i : Nat) (x : α) : jv_u F 213 p x 211 i = F 211 i := vr_ne rfl
theorem vr_n213_212 {α : Type} (F : Nat → Nat → α) (p i : Nat) (x : α) : jv_u F 213 p x 212 i = F 212 i := vr_ne rfl
theorem vr_n213_214 {α : Type} (F : Nat → Nat → α) (p i : Nat) (x : α) : jv_u F 213 p x 214 i = F 214 i := vr_ne rfl
theorem vr_n213_215 {α : Type} (F : Nat → Nat → α) (p i : Nat) (x : α) : jv_u F 213 p x 215 i = F 215 i := vr_ne rfl
theorem vr_n214_209 {α : Type} (F : Nat → Nat → α) (p i : Nat) (x : α) : jv_u F 214 p x 209 i = F 209 i := vr_ne rfl
theorem vr_n214_210 {α : Type} (F : Nat → Nat → α) (p i : Nat) (x : α) : jv_u F 214 p x 210 i = F 210 i := vr_ne rfl
theorem vr_n214_211 {α : Type} (F : Nat → Nat → α) (p i : Nat) (x : α) : jv_u F 214 p x 211 i = F 211 i := vr_ne rfl
theorem vr_n214_212 {α : Type} (F : Nat → Nat → α) (p i : Nat) (x : α) : jv_u F 214 p x 212 i = F 212 i := vr_ne rfl
theorem vr_n214_213 {α : Type} (F : Nat → Nat → α) (p i : Nat) (x : α) : jv_u F 214 p x 213 i = F 213 i := vr_ne rfl
theorem vr_n214_215 {α : Type} (F : Nat → Nat → α) (p i : Nat) (x : α) : jv_u F 214 p x 215 i = F 215 i := vr_ne rfl
theorem vr_n215_209 {α : Type} (F : Nat → Nat → α) (p i : Nat) (x : α) : jv_u F 215 p x 209 i = F 209 i := vr_ne rfl
theorem vr_n215_210 {α : Type} (F : Nat → Nat → α) (p i : Nat) (x : α) : jv_u F 215 p x 210 i = F 210 i := vr_ne rfl
theorem vr_n215_211 {α : Type} (F : Nat → Nat → α) (p i : Nat) (x : α) : jv_u F 215 p x 211 i = F 211 i := vr_ne rfl
theorem vr_n215_212 {α : Type} (F : Nat → Nat → α) (p i : Nat) (x : α) : jv_u F 215 p x 212 i = F 212 i := vr_ne rfl
theorem vr_n215_213 {α : Type} (F : Nat → Nat → α) (p i : Nat) (x : α) : jv_u F 215 p x 213 i = F 213 i := vr_ne rfl
theorem vr_n215_214 {α : Type} (F : Nat → Nat → α) (p i : Nat) (x : α) : jv_u F 215 p x 214 i = F 214 i := vr_ne rfl
theorem vr_plain {K : Nat → Option (Nat × Nat)} {I : Nat → Nat → Int32} {L : Nat → Nat → Int64} {R : Nat → Nat → Value} (p : Int32) (hW : jv_rW K R) (hp : jv_ix p 77200) (hE : I 215 p.toNatClampNeg = 0) {n sl : Nat} :
    jv_Ms 215 [.ref 208, .int p] (jv_H K I L R) n sl (some (.int (vr_so (vb_rplain (vr_S L p.toNatClampNeg)))), jv_H K (vr_Io I p.toNatClampNeg (vb_rplain (vr_S L p.toNatClampNeg))) (vr_Lo L p.toNatClampNeg (vb_rplain (vr_S L p.toNatClampNeg))) R, n, sl) := by
  have H := jv_s215 (I := I) (L := L) (n := n) (sl := sl) p hW hp _ rfl _ rfl _ rfl _ rfl _ rfl _ rfl _ rfl _ rfl _ rfl _ rfl _ rfl
  rw [vr_five, vr_five, vr_five] at H
  generalize p.toNatClampNeg = P at H hE ⊢
  have q1 : ((L 210 P) = (-1 : Int64) ∧ (L 211 P) = (0 : Int64) ∧ (L 212 P) = (-1 : Int64) ∧ (L 213 P) = (-9223372036854775808 : Int64) ∧ (L 214 P) = (9223372036854775807 : Int64)) ↔ ((vr_S L P).opn = vb_m1 ∧ (vr_S L P).low = 0 ∧ (vr_S L P).high = vb_m1 ∧ (vr_S L P).least = vb_top_ ∧ (vr_S L P).greatest = vb_most) := by
    simp only [vl_eqb, vl_m1, vl_zero, vl_top, vl_most]; exact Iff.rfl
  by_cases c1 : (L 210 P) = (-1 : Int64) ∧ (L 211 P) = (0 : Int64) ∧ (L 212 P) = (-1 : Int64) ∧ (L 213 P) = (-9223372036854775808 : Int64) ∧ (L 214 P) = (9223372036854775807 : Int64)
  · have e : vb_rplain (vr_S L P) = some (false, vr_S L P) := by unfold vb_rplain; rw [if_pos (q1.mp c1)]
    rw [e]
    rw [if_pos c1, if_pos c1, if_pos c1] at H
    have e2 : vr_Io I P (some (false, vr_S L P)) = I := vr_u_same hE
    have e3 : vr_Lo L P (some (false, vr_S L P)) = L := vr_set_same L P
    rw [e2, e3]
    exact H
  rw [if_neg c1, if_neg c1, if_neg c1] at H
  by_cases c2 : (L 210 P) = (0 : Int64)
  · have c2' : (vr_S L P).opn = 0 := congrArg Int64.toBitVec c2
    simp only [c2, not_true, if_false] at H
    have bel : ∀ a b, jv_rbelow a b = 0 ↔ ¬ a.toBitVec < b.toBitVec := vr_below
    generalize h11 : (if (¬ (jv_rbelow (L 209 P) (L 211 P)) = 0) then (1 : Int32) else (if (¬ (jv_rbelow (L 212 P) (L 209 P)) = 0) then (1 : Int32) else (if ((L 209 P) < (L 213 P)) then (1 : Int32) else (if ((L 209 P) ≤ (L 214 P)) then (0 : Int32) else (1 : Int32))))) = v11 at H
    have d : v11 = vr_b (decide ((vr_S L P).bits < (vr_S L P).low ∨ (vr_S L P).high < (vr_S L P).bits ∨ (vr_S L P).bits.slt (vr_S L P).least = true ∨ (vr_S L P).greatest.slt (vr_S L P).bits = true)) := by
      rw [← h11]
      simp only [bel, vl_slt, vl_sle, vl_nlt, Classical.not_not]
      show (if (L 209 P).toBitVec < (L 211 P).toBitVec then (1 : Int32) else if (L 212 P).toBitVec < (L 209 P).toBitVec then 1 else if (!(L 213 P).toBitVec.sle (L 209 P).toBitVec) = true then 1 else if (L 209 P).toBitVec.sle (L 214 P).toBitVec = true then 0 else 1) = vr_b (decide ((L 209 P).toBitVec < (L 211 P).toBitVec ∨ (L 212 P).toBitVec < (L 209 P).toBitVec ∨ (!(L 213 P).toBitVec.sle (L 209 P).toBitVec) = true ∨ (!(L 209 P).toBitVec.sle (L 214 P).toBitVec) = true))
      by_cases a : (L 209 P).toBitVec < (L 211 P).toBitVec <;> by_cases b : (L 212 P).toBitVec < (L 209 P).toBitVec <;> cases (L 213 P).toBitVec.sle (L 209 P).toBitVec <;> cases (L 209 P).toBitVec.sle (L 214 P).toBitVec <;> simp [a, b, vr_b]
    by_cases c3 : (vr_S L P).bits < (vr_S L P).low ∨ (vr_S L P).high < (vr_S L P).bits ∨ (vr_S L P).bits.slt (vr_S L P).least = true ∨ (vr_S L P).greatest.slt (vr_S L P).bits = true
    · have e : vb_rplain (vr_S L P) = some (true, vr_S L P) := by unfold vb_rplain; rw [if_neg (fun h => c1 (q1.mpr h)), if_pos c2', if_pos c3]
      have d1 : v11 = 1 := by rw [d, decide_eq_true c3]; rfl
      have e3 : vr_Lo L P (some (true, vr_S L P)) = L := vr_set_same L P
      rw [e, e3]
      rw [d1] at H
      simp only [show ¬ ((1 : Int32) &&& 1 = 0) by decide, not_false_eq_true, if_true] at H
      exact H
    · have e : vb_rplain (vr_S L P) = some (false, ⟨(vr_S L P).bits, 0, (vr_S L P).bits, (vr_S L P).bits, (vr_S L P).bits, (vr_S L P).bits⟩) := by unfold vb_rplain; rw [if_neg (fun h => c1 (q1.mpr h)), if_pos c2', if_neg c3]
      have d1 : v11 = 0 := by rw [d, decide_eq_false c3]; rfl
      rw [e]
      rw [d1] at H
      simp only [show ((0 : Int32) &&& 1 = 0) by decide, not_true, if_false] at H
      have eI : jv_u (jv_u I 215 P (0 : Int32)) 215 P (0 : Int32) = jv_u I 215 P (vr_b false) := by
        rw [vr_u_u]; rfl
      have eL : jv_u (jv_u (jv_u (jv_u (jv_u (jv_u L 209 P (L 209 P)) 210 P (0 : Int64)) 211 P (L 209 P)) 212 P (L 209 P)) 213 P (L 209 P)) 214 P (L 209 P) = vr_set L P ⟨(vr_S L P).bits, 0, (vr_S L P).bits, (vr_S L P).bits, (vr_S L P).bits, (vr_S L P).bits⟩ := by
        refine vr_eq ?_ (fun q i hq => ?_)
        · unfold vr_S
          simp only [vl_at, vr_n209_210, vr_n209_211, vr_n209_212, vr_n209_213, vr_n209_214, vr_n209_215, vr_n210_209, vr_n210_211, vr_n210_212, vr_n210_213, vr_n210_214, vr_n210_215, vr_n211_209, vr_n211_210, vr_n211_212, vr_n211_213, vr_n211_214, vr_n211_215, vr_n212_209, vr_n212_210, vr_n212_211, vr_n212_213, vr_n212_214, vr_n212_215, vr_n213_209, vr_n213_210, vr_n213_211, vr_n213_212, vr_n213_214, vr_n213_215, vr_n214_209, vr_n214_210, vr_n214_211, vr_n214_212, vr_n214_213, vr_n214_215, vr_n215_209, vr_n215_210, vr_n215_211, vr_n215_212, vr_n215_213, vr_n215_214]
          rfl
        · rw [vr_out hq rfl, vr_out hq rfl, vr_out hq rfl, vr_out hq rfl, vr_out hq rfl, vr_out hq rfl]
      rw [eI, eL] at H
      exact H
  · simp only [c2, not_false_eq_true, if_true] at H
    have c2' : ¬ (vr_S L P).opn = 0 := fun h => c2 (Int64.toBitVec_inj.mp h)
    have bel : ∀ a b, jv_rbelow a b = 0 ↔ ¬ a.toBitVec < b.toBitVec := vr_below
    generalize h3 : (if (if (¬ (L 209 P) = (0 : Int64)) then (0 : Int32) else (if ((L 210 P) ≤ (0 : Int64)) then (0 : Int32) else (if (¬ ((L 210 P) &&& ((L 210 P) + (1 : Int64))) = (0 : Int64)) then (0 : Int32) else (1 : Int32)))) = 0 then (0 : Int32) else (if (¬ (L 211 P) = (0 : Int64)) then (0 : Int32) else (if (¬ (jv_rbelow (L 212 P) (L 210 P)) = 0) then (0 : Int32) else (if ((0 : Int64) < (L 213 P)) then (0 : Int32) else (if ((L 214 P) < (L 210 P)) then (0 : Int32) else (1 : Int32)))))) = w at H
    have d : w = vr_b (decide (((vr_S L P).bits = 0 ∧ (0 : BitVec 64).slt (vr_S L P).opn = true ∧ (vr_S L P).opn &&& ((vr_S L P).opn + 1) = 0) ∧ (vr_S L P).low = 0 ∧ ¬ (vr_S L P).high < (vr_S L P).opn ∧ (vr_S L P).least.sle 0 = true ∧ (vr_S L P).opn.sle (vr_S L P).greatest = true)) := by
      rw [← h3]
      simp only [bel, vl_slt, vl_sle, vl_eqb, vl_nlt, Classical.not_not, Int64.toBitVec_and, Int64.toBitVec_add, vl_zero, vl_one]
      show (if (if ¬ (L 209 P).toBitVec = 0 then (0 : Int32) else if (L 210 P).toBitVec.sle 0 = true then 0 else if ¬ (L 210 P).toBitVec &&& ((L 210 P).toBitVec + 1) = 0 then 0 else 1) = 0 then (0 : Int32) else if ¬ (L 211 P).toBitVec = 0 then 0 else if (L 212 P).toBitVec < (L 210 P).toBitVec then 0 else if (!(L 213 P).toBitVec.sle 0) = true then 0 else if (!(L 210 P).toBitVec.sle (L 214 P).toBitVec) = true then 0 else 1) = vr_b (decide (((L 209 P).toBitVec = 0 ∧ (!(L 210 P).toBitVec.sle 0) = true ∧ (L 210 P).toBitVec &&& ((L 210 P).toBitVec + 1) = 0) ∧ (L 211 P).toBitVec = 0 ∧ ¬ (L 212 P).toBitVec < (L 210 P).toBitVec ∧ (L 213 P).toBitVec.sle 0 = true ∧ (L 210 P).toBitVec.sle (L 214 P).toBitVec = true))
      by_cases a : (L 209 P).toBitVec = 0 <;> cases (L 210 P).toBitVec.sle 0 <;> by_cases b : (L 210 P).toBitVec &&& ((L 210 P).toBitVec + 1) = 0 <;> by_cases c : (L 211 P).toBitVec = 0 <;> by_cases e : (L 212 P).toBitVec < (L 210 P).toBitVec <;> cases (L 213 P).toBitVec.sle 0 <;> cases (L 210 P).toBitVec.sle (L 214 P).toBitVec <;> simp only [a, b, c, e, not_true, not_false_eq_true, if_true, if_false, Bool.not_true, Bool.not_false, Bool.false_eq_true, and_self, and_true, true_and, and_false, false_and, decide_true, decide_false] <;> decide
    by_cases c3 : (((vr_S L P).bits = 0 ∧ (0 : BitVec 64).slt (vr_S L P).opn = true ∧ (vr_S L P).opn &&& ((vr_S L P).opn + 1) = 0) ∧ (vr_S L P).low = 0 ∧ ¬ (vr_S L P).high < (vr_S L P).opn ∧ (vr_S L P).least.sle 0 = true ∧ (vr_S L P).opn.sle (vr_S L P).greatest = true)
    · have e : vb_rplain (vr_S L P) = some (false, ⟨(vr_S L P).bits, (vr_S L P).opn, (vr_S L P).low, (vr_S L P).opn, 0, (vr_S L P).opn⟩) := by unfold vb_rplain; rw [if_neg (fun h => c1 (q1.mpr h)), if_neg c2', if_pos c3]
      have d1 : w = 1 := by rw [d, decide_eq_true c3]; rfl
      rw [e]
      rw [d1] at H
      have eI : I = vr_Io I P (some (false, ⟨(vr_S L P).bits, (vr_S L P).opn, (vr_S L P).low, (vr_S L P).opn, 0, (vr_S L P).opn⟩)) := (vr_u_same hE).symm
      have eL : jv_u (jv_u (jv_u L 212 P (L 210 P)) 213 P (0 : Int64)) 214 P (L 210 P) = vr_set L P ⟨(vr_S L P).bits, (vr_S L P).opn, (vr_S L P).low, (vr_S L P).opn, 0, (vr_S L P).opn⟩ := by
        refine vr_eq ?_ (fun q i hq => ?_)
        · unfold vr_S
          simp only [vl_at, vr_n209_210, vr_n209_211, vr_n209_212, vr_n209_213, vr_n209_214, vr_n209_215, vr_n210_209, vr_n210_211, vr_n210_212, vr_n210_213, vr_n210_214, vr_n210_215, vr_n211_209, vr_n211_210, vr_n211_212, vr_n211_213, vr_n211_214, vr_n211_215, vr_n212_209, vr_n212_210, vr_n212_211, vr_n212_213, vr_n212_214, vr_n212_215, vr_n213_209, vr_n213_210, vr_n213_211, vr_n213_212, vr_n213_214, vr_n213_215, vr_n214_209, vr_n214_210, vr_n214_211, vr_n214_212, vr_n214_213, vr_n214_215, vr_n215_209, vr_n215_210, vr_n215_211, vr_n215_212, vr_n215_213, vr_n215_214]
          rfl
        · rw [vr_out hq rfl, vr_out hq rfl, vr_out hq rfl]
      simp only [show ¬ ((1 : Int32) = 0) by decide, if_false] at H
      rw [eL] at H
      rw [← eI]
      exact H
    · have e : vb_rplain (vr_S L P) = none := by unfold vb_rplain; rw [if_neg (fun h => c1 (q1.mpr h)), if_neg c2', if_neg c3]
      have d1 : w = 0 := by rw [d, decide_eq_false c3]; rfl
      rw [e]
      rw [d1] at H
      simp only [if_true] at H
      exact H
