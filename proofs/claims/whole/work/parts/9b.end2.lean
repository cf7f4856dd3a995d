/-! the other side's rows; the ends of a half -/
def vr_S (L : Nat → Nat → Int64) (p : Nat) : vb_R := ⟨(L 209 p).toBitVec, (L 210 p).toBitVec, (L 211 p).toBitVec, (L 212 p).toBitVec, (L 213 p).toBitVec, (L 214 p).toBitVec⟩
def vr_b (m : Bool) : Int32 := if m = true then 1 else 0
theorem vr_larger (a b : Int64) : (jv_rlarger a b).toBitVec = vb_larger a.toBitVec b.toBitVec := by
  unfold jv_rlarger vb_larger
  rw [vl_ite]
  by_cases h : a.toBitVec < b.toBitVec
  · rw [if_pos h]
    have : ¬ jv_rbelow a b = 0 := fun h' => (vr_below a b).mp h' h
    simp [this]
  · rw [if_neg h]
    have : jv_rbelow a b = 0 := (vr_below a b).mpr h
    simp [this]
theorem vr_lesser (a b : Int64) : (jv_rlesser a b).toBitVec = vb_lesser a.toBitVec b.toBitVec := by
  unfold jv_rlesser vb_lesser
  rw [vl_ite]
  by_cases h : a.toBitVec < b.toBitVec
  · rw [if_pos h]
    have : ¬ jv_rbelow a b = 0 := fun h' => (vr_below a b).mp h' h
    simp [this]
  · rw [if_neg h]
    have : jv_rbelow a b = 0 := (vr_below a b).mpr h
    simp [this]
theorem vr_end {K : Nat → Option (Nat × Nat)} {I : Nat → Nat → Int32} {L : Nat → Nat → Int64} {R : Nat → Nat → Value} (p : Int32) (v u : Int64) (m f : Bool) (hW : jv_rW K R) (hp : jv_ix p 77200) {n sl : Nat} :
    jv_Ms 212 [.ref 208, .int p, .long v, .long u, .int (vr_b m), .int (vr_b f)] (jv_H K I L R) n sl (some (.long (Int64.ofBitVec (vb_rend (vr_S L p.toNatClampNeg) v.toBitVec u.toBitVec m f))), jv_H K I L R, n, sl) := by
  have H := jv_s212 (I := I) (L := L) (n := n) (sl := sl) p v u (vr_b m) (vr_b f) hW hp _ rfl _ rfl _ rfl _ rfl _ rfl _ rfl _ rfl _ rfl
  refine (congrArg (fun Z => jv_Ms 212 [.ref 208, .int p, .long v, .long u, .int (vr_b m), .int (vr_b f)] (jv_H K I L R) n sl (some (.long Z), jv_H K I L R, n, sl)) ?_).mp H
  clear H
  have b0 : ∀ b : Bool, (vr_b b = 0) ↔ ¬ b = true := by intro b; cases b <;> decide
  generalize h1 : (if (vr_b m = 0) then (0 : Int64) else (-9223372036854775808 : Int64)) = v1
  have e1 : v1.toBitVec = vb_halfOf m := by
    rw [← h1, vl_ite, vl_top, vl_zero]; unfold vb_halfOf; simp only [b0, ite_not]
  have e3 : (jv_rlarger (jv_rlarger (L 211 p.toNatClampNeg) v1) (if (¬ vr_b m = (if ((0 : Int64) ≤ (L 213 p.toNatClampNeg)) then (0 : Int32) else (1 : Int32))) then v1 else (L 213 p.toNatClampNeg))).toBitVec = vb_rfrom (vr_S L p.toNatClampNeg) m := by
    rw [vr_larger, vr_larger, vl_ite, e1]
    unfold vb_rfrom
    have d : (vr_b m = (if ((0 : Int64) ≤ (L 213 p.toNatClampNeg)) then (0 : Int32) else (1 : Int32))) ↔ m = (vr_S L p.toNatClampNeg).least.slt 0 := by
      simp only [vl_sle0, vb_sle0, vb_slt0]
      show (vr_b m = if (!(L 213 p.toNatClampNeg).toBitVec.msb) = true then 0 else 1) ↔ m = (L 213 p.toNatClampNeg).toBitVec.msb
      cases m <;> cases (L 213 p.toNatClampNeg).toBitVec.msb <;> decide
    simp only [d, ite_not]
    rfl
  have e6 : (jv_rlesser (jv_rlesser (L 212 p.toNatClampNeg) (if (vr_b m = 0) then (9223372036854775807 : Int64) else (-1 : Int64))) (if (¬ vr_b m = (if ((0 : Int64) ≤ (L 214 p.toNatClampNeg)) then (0 : Int32) else (1 : Int32))) then (if (vr_b m = 0) then (9223372036854775807 : Int64) else (-1 : Int64)) else (L 214 p.toNatClampNeg))).toBitVec = vb_rto (vr_S L p.toNatClampNeg) m := by
    rw [vr_lesser, vr_lesser, vl_ite, vl_ite, vl_m1, vl_most]
    unfold vb_rto
    have d : (vr_b m = (if ((0 : Int64) ≤ (L 214 p.toNatClampNeg)) then (0 : Int32) else (1 : Int32))) ↔ m = (vr_S L p.toNatClampNeg).greatest.slt 0 := by
      simp only [vl_sle0, vb_sle0, vb_slt0]
      show (vr_b m = if (!(L 214 p.toNatClampNeg).toBitVec.msb) = true then 0 else 1) ↔ m = (L 214 p.toNatClampNeg).toBitVec.msb
      cases m <;> cases (L 214 p.toNatClampNeg).toBitVec.msb <;> decide
    simp only [d, b0, ite_not, vl_ite, vl_m1, vl_most]
    rfl
  rw [e3, e6]
  refine Int64.toBitVec_inj.mp ?_
  rw [vl_ite, vr_to, vr_to, vr_to]
  unfold vb_rend vb_up vb_down
  simp only [Int64.toBitVec_or, Int64.toBitVec_and, vl_most, e1, b0, ite_not]
