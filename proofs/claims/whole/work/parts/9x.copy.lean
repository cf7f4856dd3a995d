/-! rows: nothing said, one number, a copy -/
def vb_rany : vb_R := ⟨0, vb_m1, 0, vb_m1, vb_top_, vb_most⟩
def vb_rjust (v : BitVec 64) : vb_R := ⟨v, 0, v, v, v, v⟩
theorem vr_six (L : Nat → Nat → Int64) (P : Nat) (a b c d e f : Int64) : jv_u (jv_u (jv_u (jv_u (jv_u (jv_u L 209 P a) 210 P b) 211 P c) 212 P d) 213 P e) 214 P f = vr_set L P ⟨a.toBitVec, b.toBitVec, c.toBitVec, d.toBitVec, e.toBitVec, f.toBitVec⟩ := by
  refine vr_eq ?_ (fun q i hq => ?_)
  · unfold vr_S
    simp only [vl_at, vr_n209_210, vr_n209_211, vr_n209_212, vr_n209_213, vr_n209_214, vr_n209_215, vr_n210_209, vr_n210_211, vr_n210_212, vr_n210_213, vr_n210_214, vr_n210_215, vr_n211_209, vr_n211_210, vr_n211_212, vr_n211_213, vr_n211_214, vr_n211_215, vr_n212_209, vr_n212_210, vr_n212_211, vr_n212_213, vr_n212_214, vr_n212_215, vr_n213_209, vr_n213_210, vr_n213_211, vr_n213_212, vr_n213_214, vr_n213_215, vr_n214_209, vr_n214_210, vr_n214_211, vr_n214_212, vr_n214_213, vr_n214_215, vr_n215_209, vr_n215_210, vr_n215_211, vr_n215_212, vr_n215_213, vr_n215_214]
  · rw [vr_out hq rfl, vr_out hq rfl, vr_out hq rfl, vr_out hq rfl, vr_out hq rfl, vr_out hq rfl]
theorem vr_nothing {K : Nat → Option (Nat × Nat)} {I : Nat → Nat → Int32} {L : Nat → Nat → Int64} {R : Nat → Nat → Value} (p : Int32) (hW : jv_rW K R) (hp : jv_ix p 77200) {n sl : Nat} :
    jv_Ms 207 [.ref 208, .int p] (jv_H K I L R) n sl (none, jv_H K (jv_u I 215 p.toNatClampNeg 0) (vr_set L p.toNatClampNeg vb_rany) R, n, sl) := by
  have H := jv_s207 (I := I) (L := L) (n := n) (sl := sl) p hW hp
  rw [vr_six] at H
  exact H
theorem vr_single {K : Nat → Option (Nat × Nat)} {I : Nat → Nat → Int32} {L : Nat → Nat → Int64} {R : Nat → Nat → Value} (p : Int32) (v : Int64) (hW : jv_rW K R) (hp : jv_ix p 77200) {n sl : Nat} :
    jv_Ms 217 [.ref 208, .int p, .long v] (jv_H K I L R) n sl (none, jv_H K (jv_u I 215 p.toNatClampNeg 0) (vr_set L p.toNatClampNeg (vb_rjust v.toBitVec)) R, n, sl) := by
  have H := jv_s217 (I := I) (L := L) (n := n) (sl := sl) p v hW hp
  rw [vr_six] at H
  exact H
theorem vr_copy {K : Nat → Option (Nat × Nat)} {I : Nat → Nat → Int32} {L : Nat → Nat → Int64} {R : Nat → Nat → Value} (p q : Int32) (hW : jv_rW K R) (hp : jv_ix p 77200) (hq : jv_ix q 77200) (hE : I 215 p.toNatClampNeg = 0) {n sl : Nat} :
    jv_Ms 208 [.ref 208, .int p, .int q] (jv_H K I L R) n sl (none, jv_H K (jv_u I 215 q.toNatClampNeg 0) (vr_set L q.toNatClampNeg (vr_S L p.toNatClampNeg)) R, n, sl) := by
  have H := jv_s208 (I := I) (L := L) (n := n) (sl := sl) p q hW hp hq
  rw [hE] at H
  rw [vr_six] at H
  exact H
