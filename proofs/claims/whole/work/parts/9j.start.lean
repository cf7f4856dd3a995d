/-! tighten: what is not plain; the loop from its start -/
theorem vr_so01 (x : Option (Bool × vb_R)) : vr_so x = 0 ∨ vr_so x = 1 := by
  cases x
  · exact Or.inl rfl
  · exact Or.inr rfl
theorem vr_plain0 {K : Nat → Option (Nat × Nat)} {I : Nat → Nat → Int32} {L : Nat → Nat → Int64} {R : Nat → Nat → Value} (p : Int32) (hW : jv_rW K R) (hp : jv_ix p 77200) (hE : I 215 p.toNatClampNeg = 0) (hN : vb_rplain (vr_S L p.toNatClampNeg) = none) {n sl : Nat} :
    jv_Ms 215 [.ref 208, .int p] (jv_H K I L R) n sl (some (.int (vr_so (vb_rplain (vr_S L p.toNatClampNeg)))), jv_H K I L R, n, sl) := by
  have H := vr_plain (I := I) (L := L) (n := n) (sl := sl) p hW hp hE
  rw [hN] at H ⊢
  exact H
theorem vr_plain1 {K : Nat → Option (Nat × Nat)} {I : Nat → Nat → Int32} {L : Nat → Nat → Int64} {R : Nat → Nat → Value} (p : Int32) (hW : jv_rW K R) (hp : jv_ix p 77200) (hE : I 215 p.toNatClampNeg = 0) {x : Bool × vb_R} (hN : vb_rplain (vr_S L p.toNatClampNeg) = some x) {n sl : Nat} :
    jv_Ms 215 [.ref 208, .int p] (jv_H K I L R) n sl (some (.int 1), jv_H K (jv_u I 215 p.toNatClampNeg (vr_b x.1)) (vr_set L p.toNatClampNeg x.2) R, n, sl) := by
  have H := vr_plain (I := I) (L := L) (n := n) (sl := sl) p hW hp hE
  rw [hN] at H
  exact H
theorem vr_tloop0 {K : Nat → Option (Nat × Nat)} {I : Nat → Nat → Int32} {L : Nat → Nat → Int64} {R : Nat → Nat → Value} (p : Int32) (v u : Int64) (c6 c7 : Int32) (l8 l10 l12 l14 : Int64) (hW : jv_rW K R) (hp : jv_ix p 77200) (hv : v.toBitVec = (vr_S L p.toNatClampNeg).bits) (hu : u.toBitVec = (vr_S L p.toNatClampNeg).opn) {n sl : Nat} {X : jv_R}
    (HK : jv_Ev 216 314 [(0, .ref 208), (1, .int p), (2, .long v), (4, .long u), (6, .int c6), (7, .int c7), (8, .long l8), (10, .long l10), (12, .long l12), (14, .long l14), (16, .int (vl_I 64))] [] (jv_H K I (vr_set L p.toNatClampNeg (vr_at (vr_S L p.toNatClampNeg) 64)) R) n sl X) :
    jv_Ev 216 176 [(0, .ref 208), (1, .int p), (2, .long v), (4, .long u), (6, .int c6), (7, .int c7), (8, .long l8), (10, .long l10), (12, .long l12), (14, .long l14), (16, .int (0 : Int32))] [] (jv_H K I L R) n sl X := by
  have H := vr_tloop p v u c6 c7 l8 l10 l12 l14 hW hp hv hu HK 64 0 rfl
  rw [vr_at0, vr_set_same] at H
  exact H
theorem vr_not (b : Bool) : (if (¬ vr_b b = 0) then (0 : Int32) else (1 : Int32)) = vr_b (!b) := by cases b <;> decide
theorem vr_endI {K : Nat → Option (Nat × Nat)} {I : Nat → Nat → Int32} {L : Nat → Nat → Int64} {R : Nat → Nat → Value} (p : Int32) (v u : Int64) (mi fi : Int32) (m f : Bool) (hm : mi = vr_b m) (hf : fi = vr_b f) (hW : jv_rW K R) (hp : jv_ix p 77200) {n sl : Nat} :
    jv_Ms 212 [.ref 208, .int p, .long v, .long u, .int mi, .int fi] (jv_H K I L R) n sl (some (.long (Int64.ofBitVec (vb_rend (vr_S L p.toNatClampNeg) v.toBitVec u.toBitVec m f))), jv_H K I L R, n, sl) := by
  subst hm; subst hf; exact vr_end p v u m f hW hp
