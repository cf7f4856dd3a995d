/-! the loop of the other side's tighten -/
theorem vr_any_congr {r s : vb_R} (h1 : r.low = s.low) (h2 : r.high = s.high) (h3 : r.least = s.least) (h4 : r.greatest = s.greatest) (v u : BitVec 64) : vb_rhasAny r v u = vb_rhasAny s v u := by
  unfold vb_rhasAny vb_rhas vb_rend vb_rfrom vb_rto
  simp only [h1, h2, h3, h4]
def vr_at (r : vb_R) (N : Nat) : vb_R := ⟨(vb_rloop r N).1, (vb_rloop r N).2, r.low, r.high, r.least, r.greatest⟩
theorem vr_at0 (r : vb_R) : vr_at r 0 = r := rfl
theorem vr_ge {N : Nat} (h : N < 64) : ¬ ((64 : Int32) ≤ vl_I N) := by
  intro h'
  have h2 : vl_I N < (64 : Int32) := by rw [show (64 : Int32) = vl_I 64 from by decide]; exact (vl_I_lt (by omega) (by omega)).mpr h
  rw [Int32.le_iff_toBitVec_sle, BitVec.sle_iff_toInt_le] at h'
  rw [Int32.lt_iff_toBitVec_slt, BitVec.slt_iff_toInt_lt] at h2
  omega
theorem vr_tloop {K : Nat → Option (Nat × Nat)} {I : Nat → Nat → Int32} {L : Nat → Nat → Int64} {R : Nat → Nat → Value} (p : Int32) (v u : Int64) (c6 c7 : Int32) (l8 l10 l12 l14 : Int64) (hW : jv_rW K R) (hp : jv_ix p 77200) (hv : v.toBitVec = (vr_S L p.toNatClampNeg).bits) (hu : u.toBitVec = (vr_S L p.toNatClampNeg).opn) {n sl : Nat} {X : jv_R}
    (HK : jv_Ev 216 314 [(0, .ref 208), (1, .int p), (2, .long v), (4, .long u), (6, .int c6), (7, .int c7), (8, .long l8), (10, .long l10), (12, .long l12), (14, .long l14), (16, .int (vl_I 64))] [] (jv_H K I (vr_set L p.toNatClampNeg (vr_at (vr_S L p.toNatClampNeg) 64)) R) n sl X) :
    ∀ d N, N + d = 64 → jv_Ev 216 176 [(0, .ref 208), (1, .int p), (2, .long v), (4, .long u), (6, .int c6), (7, .int c7), (8, .long l8), (10, .long l10), (12, .long l12), (14, .long l14), (16, .int (vl_I N))] [] (jv_H K I (vr_set L p.toNatClampNeg (vr_at (vr_S L p.toNatClampNeg) N)) R) n sl X := by
  intro d
  induction d with
  | zero =>
    intro N hN
    have : N = 64 := by omega
    subst this
    refine jv_b216_176 p v u c6 c7 l8 l10 l12 l14 (vl_I 64) hW hp _ rfl _ rfl _ rfl _ rfl _ rfl _ rfl _ rfl ?_
    rw [if_pos (show (64 : Int32) ≤ vl_I 64 from by decide)]
    exact HK
  | succ d ih =>
    intro N hN
    have h64 : N < 64 := by omega
    refine jv_b216_176 p v u c6 c7 l8 l10 l12 l14 (vl_I N) hW hp _ rfl _ rfl _ rfl _ rfl _ rfl _ rfl _ rfl ?_
    rw [if_neg (vr_ge h64)]
    have hk : vl_I N + Int32.ofInt 1 = vl_I (N + 1) := vl_I_add N 1
    rw [hk]
    have H := ih (N + 1) (by omega)
    refine (congrArg (fun Z => jv_Ev 216 176 [(0, .ref 208), (1, .int p), (2, .long v), (4, .long u), (6, .int c6), (7, .int c7), (8, .long l8), (10, .long l10), (12, .long l12), (14, .long l14), (16, .int (vl_I (N + 1)))] [] (jv_H K I Z R) n sl X) ?_).mp H
    clear H ih HK hk
    have hb := vr_bit h64
    generalize (1 : Int64) <<< ((vl_I N).toInt64 &&& 63) = bt at hb ⊢
    generalize p.toNatClampNeg = P at hv hu ⊢
    have hS := vr_set_S L P (vr_at (vr_S L P) N)
    have g1 : (vr_set L P (vr_at (vr_S L P) N) 209 P).toBitVec = (vb_rloop (vr_S L P) N).1 := congrArg vb_R.bits hS
    have g2 : (vr_set L P (vr_at (vr_S L P) N) 210 P).toBitVec = (vb_rloop (vr_S L P) N).2 := congrArg vb_R.opn hS
    have a1 : ∀ v u, vb_rhasAny (vr_S (vr_set L P (vr_at (vr_S L P) N)) P) v u = vb_rhasAny (vr_S L P) v u := by
      intro v u; rw [hS]; exact vr_any_congr rfl rfl rfl rfl v u
    have cu : (u &&& bt = (0 : Int64)) ↔ (vr_S L P).opn &&& BitVec.twoPow 64 N = 0 := by
      rw [vl_eqb, Int64.toBitVec_and, hb, hu]; exact Iff.rfl
    have b0 : ∀ b : Bool, (vr_b b = 0) ↔ ¬ b = true := by intro b; cases b <;> decide
    symm
    by_cases c : u &&& bt = (0 : Int64)
    · rw [if_pos c]
      have : vr_at (vr_S L P) (N + 1) = vr_at (vr_S L P) N := by
        have e : vb_rloop (vr_S L P) (N + 1) = vb_rloop (vr_S L P) N := by
          show vb_rstep (vr_S L P) N (vb_rloop (vr_S L P) N) = _
          unfold vb_rstep
          rw [if_neg (fun h => h (cu.mp c))]
        unfold vr_at; rw [e]
      rw [this]
    · rw [if_neg c]
      have e : vb_rloop (vr_S L P) (N + 1) = vb_rstep (vr_S L P) N (vb_rloop (vr_S L P) N) := rfl
      unfold vb_rstep at e
      rw [if_pos (fun h => c (cu.mpr h))] at e
      refine vr_eq ?_ (fun q i hq => ?_)
      · rw [show vr_at (vr_S L P) (N + 1) = ((vb_rloop (vr_S L P) (N + 1)).1, (vb_rloop (vr_S L P) (N + 1)).2, (vr_S L P).low, (vr_S L P).high, (vr_S L P).least, (vr_S L P).greatest) from rfl, e]
        refine vb_R_ext ?_ ?_ ?_ ?_ ?_ ?_
        · show Int64.toBitVec (jv_u (jv_u _ 210 P _) 209 P _ 209 P) = _
          rw [vl_at]
          simp only [a1, b0, vl_ite, Int64.toBitVec_and, Int64.toBitVec_or, vl_xor1, hb, hu, hv, g1, Classical.not_not]
          generalize vb_rhasAny (vr_S L P) _ _ = A
          generalize vb_rhasAny (vr_S L P) _ _ = B
          cases A <;> cases B <;> simp
        · show Int64.toBitVec (jv_u (jv_u _ 210 P _) 209 P _ 210 P) = _
          rw [vr_n209_210, vl_at]
          simp only [a1, b0, vl_ite, Int64.toBitVec_and, Int64.toBitVec_or, vl_xor1, hb, hu, hv, g2, Classical.not_not]
          generalize vb_rhasAny (vr_S L P) _ _ = A
          generalize vb_rhasAny (vr_S L P) _ _ = B
          cases A <;> cases B <;> simp
        · show Int64.toBitVec (jv_u (jv_u _ 210 P _) 209 P _ 211 P) = _
          rw [vr_n209_211, vr_n210_211]; exact congrArg vb_R.low hS
        · show Int64.toBitVec (jv_u (jv_u _ 210 P _) 209 P _ 212 P) = _
          rw [vr_n209_212, vr_n210_212]; exact congrArg vb_R.high hS
        · show Int64.toBitVec (jv_u (jv_u _ 210 P _) 209 P _ 213 P) = _
          rw [vr_n209_213, vr_n210_213]; exact congrArg vb_R.least hS
        · show Int64.toBitVec (jv_u (jv_u _ 210 P _) 209 P _ 214 P) = _
          rw [vr_n209_214, vr_n210_214]; exact congrArg vb_R.greatest hS
      · rw [vr_out hq rfl, vr_out hq rfl, vr_set_out hq]
