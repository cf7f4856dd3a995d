/-! how many of the lowest bits are known, or known to be 0; bytes the other way round -/
theorem vr_test (x : Int64) {N : Nat} (h : N < 64) : ((((x.toUInt64 >>> ((vl_I N).toInt64.toUInt64 &&& Int64.toUInt64 63)).toInt64) &&& (1 : Int64)) = (0 : Int64)) ↔ x.toBitVec.getLsbD N = false := by
  rw [vl_eqb, Int64.toBitVec_and, vl_ushrI _ h, vl_one, vl_zero]
  have e : (x.toBitVec >>> N &&& 1).toNat = x.toBitVec.toNat / 2 ^ N % 2 := by
    rw [BitVec.toNat_and, vb_shr_nat, show (1 : BitVec 64).toNat = 2 ^ 1 - 1 from rfl, Nat.and_two_pow_sub_one_eq_mod]
  rw [← BitVec.testBit_toNat, Nat.testBit_eq_decide_div_mod_eq, decide_eq_false_iff_not]
  constructor
  · intro h2
    have := congrArg BitVec.toNat h2
    rw [e, vb_zero_nat] at this; omega
  · intro h2
    refine BitVec.eq_of_toNat_eq ?_
    rw [e, vb_zero_nat]; omega
def vr_lowz (r : vb_R) (zeros : Bool) : BitVec 64 := if zeros = true then ~~~r.opn &&& ~~~r.bits else ~~~r.opn
theorem vr_lowl {K : Nat → Option (Nat × Nat)} {I : Nat → Nat → Int32} {L : Nat → Nat → Int64} {R : Nat → Nat → Value} (p : Int32) (zs : Bool) (hW : jv_rW K R) (hp : jv_ix p 77200) {n sl : Nat} {X : jv_R} :
    ∀ d N, N + d = 64 → jv_Ev 227 48 [(0, .ref 208), (1, .int p), (2, .int (vr_b zs)), (3, .int (vl_I (vb_trL (vr_lowz (vr_S L p.toNatClampNeg) zs) d N)))] [] (jv_H K I L R) n sl X →
    jv_Ev 227 2 [(0, .ref 208), (1, .int p), (2, .int (vr_b zs)), (3, .int (vl_I N))] [] (jv_H K I L R) n sl X := by
  intro d
  induction d with
  | zero =>
    intro N hN HK
    have : N = 64 := by omega
    subst this
    refine jv_b227_2 p (vr_b zs) (vl_I 64) hW hp ?_
    rw [if_pos (show (64 : Int32) ≤ vl_I 64 from by decide)]
    exact HK
  | succ d ih =>
    intro N hN HK
    have h64 : N < 64 := by omega
    refine jv_b227_2 p (vr_b zs) (vl_I N) hW hp ?_
    rw [if_neg (vr_ge h64)]
    have hk : vl_I N + Int32.ofInt 1 = vl_I (N + 1) := vl_I_add N 1
    rw [hk]
    have t1 := vr_test (L 210 p.toNatClampNeg) h64
    have t2 := vr_test (L 209 p.toNatClampNeg) h64
    have z : (vr_lowz (vr_S L p.toNatClampNeg) zs).getLsbD N = (!(L 210 p.toNatClampNeg).toBitVec.getLsbD N && (!zs || !(L 209 p.toNatClampNeg).toBitVec.getLsbD N)) := by
      unfold vr_lowz
      cases zs
      · rw [if_neg (by decide), BitVec.getLsbD_not]
        show (decide (N < 64) && !(L 210 p.toNatClampNeg).toBitVec.getLsbD N) = _
        simp [h64]
      · rw [if_pos rfl, BitVec.getLsbD_and, BitVec.getLsbD_not, BitVec.getLsbD_not]
        show (decide (N < 64) && !(L 210 p.toNatClampNeg).toBitVec.getLsbD N && (decide (N < 64) && !(L 209 p.toNatClampNeg).toBitVec.getLsbD N)) = _
        simp [h64]
    unfold vb_trL at HK
    rw [z] at HK
    have stop : (vr_lowz (vr_S L p.toNatClampNeg) zs).getLsbD N = false → True := fun _ => trivial
    simp only [t1, t2]
    cases c1 : (L 210 p.toNatClampNeg).toBitVec.getLsbD N
    · rw [c1] at HK
      rw [if_neg (fun h => h rfl)]
      cases zs
      · rw [if_pos (by decide)]
        exact ih (N + 1) (by omega) (by simpa using HK)
      · rw [if_neg (by decide)]
        cases c2 : (L 209 p.toNatClampNeg).toBitVec.getLsbD N
        · rw [c2] at HK
          rw [if_neg (fun h => h rfl)]
          exact ih (N + 1) (by omega) (by simpa using HK)
        · rw [c2] at HK
          rw [if_pos (by decide)]
          simpa using HK
    · rw [c1] at HK
      rw [if_pos (by decide)]
      simpa using HK
