/-! whether a row has any number; rows put as one -/
theorem vr_hasAny {K : Nat → Option (Nat × Nat)} {I : Nat → Nat → Int32} {L : Nat → Nat → Int64} {R : Nat → Nat → Value} (p : Int32) (v u : Int64) (hW : jv_rW K R) (hp : jv_ix p 77200) {n sl : Nat} :
    jv_Ms 214 [.ref 208, .int p, .long v, .long u] (jv_H K I L R) n sl (some (.int (vr_b (vb_rhasAny (vr_S L p.toNatClampNeg) v.toBitVec u.toBitVec))), jv_H K I L R, n, sl) := by
  have H := jv_s214 (I := I) (L := L) (n := n) (sl := sl) p v u hW hp _ rfl _ rfl _ rfl
  refine (congrArg (fun Z => jv_Ms 214 [.ref 208, .int p, .long v, .long u] (jv_H K I L R) n sl (some (.int Z), jv_H K I L R, n, sl)) ?_).mp H
  unfold vb_rhasAny
  cases vb_rhas (vr_S L p.toNatClampNeg) v.toBitVec u.toBitVec false <;> cases vb_rhas (vr_S L p.toNatClampNeg) v.toBitVec u.toBitVec true <;> decide
def vr_f (r : vb_R) (q : Nat) : Int64 := Int64.ofBitVec (if q = 209 then r.bits else if q = 210 then r.opn else if q = 211 then r.low else if q = 212 then r.high else if q = 213 then r.least else r.greatest)
def vr_set (L : Nat → Nat → Int64) (p : Nat) (r : vb_R) : Nat → Nat → Int64 := fun q i => if i = p ∧ 209 ≤ q ∧ q ≤ 214 then vr_f r q else L q i
theorem vr_set_S (L : Nat → Nat → Int64) (p : Nat) (r : vb_R) : vr_S (vr_set L p r) p = r := by
  refine vb_R_ext ?_ ?_ ?_ ?_ ?_ ?_ <;> (show (vr_set L p r _ p).toBitVec = _) <;> (unfold vr_set vr_f) <;> rw [if_pos ⟨rfl, by omega, by omega⟩] <;> rfl
theorem vr_set_o {L : Nat → Nat → Int64} {p q : Nat} {r : vb_R} (h : q ≠ p) : vr_S (vr_set L p r) q = vr_S L q := by
  refine vb_R_ext ?_ ?_ ?_ ?_ ?_ ?_ <;> (show (vr_set L p r _ q).toBitVec = (L _ q).toBitVec) <;> (unfold vr_set) <;> rw [if_neg (fun h' => h h'.1)]
theorem vr_set_out {L : Nat → Nat → Int64} {p q i : Nat} {r : vb_R} (h : ¬ (i = p ∧ 209 ≤ q ∧ q ≤ 214)) : vr_set L p r q i = L q i := if_neg h
theorem vr_eq {L L' : Nat → Nat → Int64} {p : Nat} {r : vb_R} (h : vr_S L' p = r) (h' : ∀ q i, ¬ (i = p ∧ 209 ≤ q ∧ q ≤ 214) → L' q i = L q i) : L' = vr_set L p r := by
  funext q i
  by_cases hq : i = p ∧ 209 ≤ q ∧ q ≤ 214
  · obtain ⟨rfl, h1, h2⟩ := hq
    unfold vr_set
    rw [if_pos ⟨rfl, h1, h2⟩, ← h]
    have : q = 209 ∨ q = 210 ∨ q = 211 ∨ q = 212 ∨ q = 213 ∨ q = 214 := by omega
    rcases this with e | e | e | e | e | e <;> subst e <;> rfl
  · rw [vr_set_out hq]; exact h' q i hq
theorem vr_set_set (L : Nat → Nat → Int64) (p : Nat) (r s : vb_R) : vr_set (vr_set L p r) p s = vr_set L p s := by
  funext q i
  unfold vr_set
  by_cases h : i = p ∧ 209 ≤ q ∧ q ≤ 214
  · rw [if_pos h, if_pos h]
  · rw [if_neg h, if_neg h, if_neg h]
theorem vr_set_same (L : Nat → Nat → Int64) (p : Nat) : vr_set L p (vr_S L p) = L := (vr_eq rfl (fun _ _ _ => rfl)).symm
