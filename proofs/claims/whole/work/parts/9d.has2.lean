/-! whether a half has a number -/
theorem vr_bne {p : Prop} [Decidable p] {a b : Bool} : (if p then vr_b a else vr_b b) = vr_b (if p then a else b) := by split <;> rfl
theorem vr_has {K : Nat → Option (Nat × Nat)} {I : Nat → Nat → Int32} {L : Nat → Nat → Int64} {R : Nat → Nat → Value} (p : Int32) (v u : Int64) (m : Bool) (hW : jv_rW K R) (hp : jv_ix p 77200) {n sl : Nat} :
    jv_Ms 213 [.ref 208, .int p, .long v, .long u, .int (vr_b m)] (jv_H K I L R) n sl (some (.int (vr_b (vb_rhas (vr_S L p.toNatClampNeg) v.toBitVec u.toBitVec m))), jv_H K I L R, n, sl) := by
  have H := jv_s213 (I := I) (L := L) (n := n) (sl := sl) p v u m hW hp _ rfl _ rfl _ rfl _ rfl _ rfl _ rfl _ rfl _ rfl _ rfl
  refine (congrArg (fun Z => jv_Ms 213 [.ref 208, .int p, .long v, .long u, .int (vr_b m)] (jv_H K I L R) n sl (some (.int Z), jv_H K I L R, n, sl)) ?_).mp H
  clear H
  have o1 : (1 : Int32) = vr_b true := rfl
  have o0 : (0 : Int32) = vr_b false := rfl
  have b0 : ∀ b : Bool, (vr_b b = vr_b false) ↔ b = false := by intro b; cases b <;> decide
  have bb : ∀ b c : Bool, (vr_b b = vr_b c) ↔ b = c := by intro b c; cases b <;> cases c <;> decide
  have bel : ∀ a b, jv_rbelow a b = vr_b false ↔ ¬ a.toBitVec < b.toBitVec := vr_below
  rw [o1, o0]
  simp only [vl_sle0, vl_slt, vl_eqb, bel, Int64.toBitVec_and, Int64.toBitVec_or, Int64.toBitVec_xor, vl_x1, vl_top, vl_zero, vr_to, vl_nlt, vr_bne, b0, bb]
  have h1 : (L 211 p.toNatClampNeg).toBitVec = (vr_S L p.toNatClampNeg).low := rfl
  have h2 : (L 212 p.toNatClampNeg).toBitVec = (vr_S L p.toNatClampNeg).high := rfl
  have h3 : (L 213 p.toNatClampNeg).toBitVec = (vr_S L p.toNatClampNeg).least := rfl
  have h4 : (L 214 p.toNatClampNeg).toBitVec = (vr_S L p.toNatClampNeg).greatest := rfl
  rw [h1, h2, h3, h4]
  unfold vb_rhas
  generalize vr_S L p.toNatClampNeg = r
  generalize vb_rend r v.toBitVec u.toBitVec m true = e
  simp only [vl_nlt]
  generalize (0 : BitVec 64).sle v.toBitVec = B1
  generalize (0 : BitVec 64).sle r.greatest = B2
  generalize (0 : BitVec 64).sle r.least = B3
  generalize r.least.sle e = B4
  generalize e.sle r.greatest = B5
  by_cases hA : u.toBitVec &&& vb_top_ = 0 <;> by_cases hE : e &&& ~~~(u.toBitVec ||| vb_top_) = v.toBitVec &&& ~~~(u.toBitVec ||| vb_top_) <;> by_cases hL : e < r.low <;> by_cases hH : r.high < e <;> simp only [hA, hE, hL, hH, ne_eq, not_true, not_false_eq_true, if_true, if_false, decide_true, decide_false, true_or, false_or] <;> revert B1 B2 B3 B4 B5 m <;> decide
