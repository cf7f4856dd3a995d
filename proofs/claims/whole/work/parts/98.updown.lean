/-! the other side's loops over bits -/
def vr_kk (K : Nat) : Int32 := vl_I K + Int32.ofInt (-1)
theorem vr_kk_tab : ∀ K : Fin 65, vr_kk (K.1 + 1) = vl_I K.1 ∧ ¬ vl_I K.1 < 0 := by decide +kernel
theorem vr_kk0 : vr_kk 0 < 0 := by decide
theorem vr_kks {K : Nat} (h : K < 64) : vr_kk (K + 1) = vl_I K := (vr_kk_tab ⟨K, by omega⟩).1
theorem vr_nneg {K : Nat} (h : K < 64) : ¬ vl_I K < 0 := (vr_kk_tab ⟨K, by omega⟩).2
theorem vr_bit {K : Nat} (h : K < 64) : ((1 : Int64) <<< ((vl_I K).toInt64 &&& 63)).toBitVec = BitVec.twoPow 64 K := by
  rw [vl_shlI _ h, vl_one]
  refine BitVec.eq_of_getLsbD_eq (fun i hi => ?_)
  rw [vb_tp_bit hi, BitVec.getLsbD_shiftLeft, show (1 : BitVec 64) = BitVec.twoPow 64 0 from by decide]
  by_cases e : i = K
  · subst e; simp [hi]
  · by_cases e2 : i < K
    · simp [e, e2]
    · rw [vb_tp_bit (by omega)]
      have : ¬ i - K = 0 := by omega
      simp [e, this]
theorem vr_below (a b : Int64) : jv_rbelow a b = 0 ↔ ¬ a.toBitVec < b.toBitVec := by
  unfold jv_rbelow
  simp only [vl_slt, vl_sle, vl_zero, vb_slt0, vb_sle0]
  generalize a.toBitVec = x
  generalize b.toBitVec = y
  rw [BitVec.lt_def]
  have e1 : y.sle x = decide (y.toInt ≤ x.toInt) := by rw [Bool.eq_iff_iff, vb_sle, decide_eq_true_eq]
  rw [e1]
  rcases vb_val x with ⟨p, q, r⟩ | ⟨p, q, r, r2⟩ <;> rcases vb_val y with ⟨p', q', r'⟩ | ⟨p', q', r', r2'⟩ <;> rw [p, p'] <;> simp <;> (try split) <;> (try simp) <;> omega
theorem vr_of (x : Int64) : Int64.ofBitVec x.toBitVec = x := rfl
theorem vr_to (x : BitVec 64) : (Int64.ofBitVec x).toBitVec = x := rfl
theorem vr_up {G : jv_G} (v u b : Int64) {n sl : Nat} {X : jv_R} : ∀ K, K ≤ 64 → ∀ nn le : Int64, (∀ le' : Int64, jv_Ev 210 73 [(0, .long v), (2, .long u), (4, .long b), (6, .long (Int64.ofBitVec (vb_upL K nn.toBitVec le.toBitVec b.toBitVec))), (8, .long le'), (10, .int (vr_kk 0))] [] G n sl X) →
    jv_Ev 210 10 [(0, .long v), (2, .long u), (4, .long b), (6, .long nn), (8, .long le), (10, .int (vr_kk K))] [] G n sl X := by
  intro K
  induction K with
  | zero =>
    intro _ nn le HK
    refine jv_b210_10 v u b nn le (vr_kk 0) _ rfl _ rfl _ rfl _ rfl _ rfl ?_
    rw [if_pos vr_kk0]
    exact HK le
  | succ K ih =>
    intro hK nn le HK
    refine jv_b210_10 v u b nn le (vr_kk (K + 1)) _ rfl _ rfl _ rfl _ rfl _ rfl ?_
    have hk : K < 64 := by omega
    rw [vr_kks hk, if_neg (vr_nneg hk)]
    refine ih (by omega) _ _ (fun le' => ?_)
    have H := HK le'
    have e : vb_upL (K + 1) nn.toBitVec le.toBitVec b.toBitVec = vb_upL K (if ((le &&& ((1 : Int64) <<< ((vl_I K).toInt64 &&& 63))) = (0 : Int64)) then nn else (if ((jv_rbelow (nn ||| (le &&& (((1 : Int64) <<< ((vl_I K).toInt64 &&& 63)) ^^^ (-1 : Int64)))) b) = 0) then nn else (nn ||| ((1 : Int64) <<< ((vl_I K).toInt64 &&& 63))))).toBitVec (if ((le &&& ((1 : Int64) <<< ((vl_I K).toInt64 &&& 63))) = (0 : Int64)) then le else (le &&& (((1 : Int64) <<< ((vl_I K).toInt64 &&& 63)) ^^^ (-1 : Int64)))).toBitVec b.toBitVec := by
      conv => lhs; unfold vb_upL
      simp only [vl_ite, vl_eqb, vr_below, Int64.toBitVec_and, Int64.toBitVec_or, vl_xor1, vr_bit hk, vl_zero, ite_not]
      by_cases c : le.toBitVec &&& BitVec.twoPow 64 K = 0
      · simp only [c, ne_eq, not_true, if_false, if_true]
      · simp only [c, ne_eq, not_false_eq_true, if_false, if_true]
    rw [e] at H
    exact H
theorem vr_down {G : jv_G} (v u b : Int64) {n sl : Nat} {X : jv_R} : ∀ K, K ≤ 64 → ∀ nn le : Int64, (∀ le' : Int64, jv_Ev 211 83 [(0, .long v), (2, .long u), (4, .long b), (6, .long (Int64.ofBitVec (vb_downL K nn.toBitVec le.toBitVec b.toBitVec))), (8, .long le'), (10, .int (vr_kk 0))] [] G n sl X) →
    jv_Ev 211 12 [(0, .long v), (2, .long u), (4, .long b), (6, .long nn), (8, .long le), (10, .int (vr_kk K))] [] G n sl X := by
  intro K
  induction K with
  | zero =>
    intro _ nn le HK
    refine jv_b211_12 v u b nn le (vr_kk 0) _ rfl _ rfl _ rfl _ rfl _ rfl ?_
    rw [if_pos vr_kk0]
    exact HK le
  | succ K ih =>
    intro hK nn le HK
    refine jv_b211_12 v u b nn le (vr_kk (K + 1)) _ rfl _ rfl _ rfl _ rfl _ rfl ?_
    have hk : K < 64 := by omega
    rw [vr_kks hk, if_neg (vr_nneg hk)]
    refine ih (by omega) _ _ (fun le' => ?_)
    have H := HK le'
    have e : vb_downL (K + 1) nn.toBitVec le.toBitVec b.toBitVec = vb_downL K (if ((le &&& ((1 : Int64) <<< ((vl_I K).toInt64 &&& 63))) = (0 : Int64)) then nn else (if ((jv_rbelow b (nn &&& ((le &&& (((1 : Int64) <<< ((vl_I K).toInt64 &&& 63)) ^^^ (-1 : Int64))) ^^^ (-1 : Int64)))) = 0) then nn else (nn &&& (((1 : Int64) <<< ((vl_I K).toInt64 &&& 63)) ^^^ (-1 : Int64))))).toBitVec (if ((le &&& ((1 : Int64) <<< ((vl_I K).toInt64 &&& 63))) = (0 : Int64)) then le else (le &&& (((1 : Int64) <<< ((vl_I K).toInt64 &&& 63)) ^^^ (-1 : Int64)))).toBitVec b.toBitVec := by
      conv => lhs; unfold vb_downL
      simp only [vl_ite, vl_eqb, vr_below, Int64.toBitVec_and, Int64.toBitVec_or, vl_xor1, vr_bit hk, vl_zero, ite_not]
      by_cases c : le.toBitVec &&& BitVec.twoPow 64 K = 0
      · simp only [c, ne_eq, not_true, if_false, if_true]
      · simp only [c, ne_eq, not_false_eq_true, if_false, if_true]
    rw [e] at H
    exact H
