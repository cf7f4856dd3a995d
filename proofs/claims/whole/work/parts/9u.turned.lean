/-! bytes the other way round: the class; both methods -/
theorem vl_swl {G : jv_G} (v : Int64) (o0 : Int64) {nb : Nat} (hnb : nb = 16 ∨ nb = 32 ∨ nb = 64) {n sl : Nat} {X : jv_R} (HK : jv_Ev 9 38 [(0, .long v), (2, .int (vl_I nb)), (3, .long (Int64.ofBitVec (vb_turned v.toBitVec nb))), (5, .int (vl_I nb))] [] G n sl X) :
    ∀ d j, j + d = nb / 8 → jv_Ev 9 5 [(0, .long v), (2, .int (vl_I nb)), (3, .long (Int64.ofBitVec (vb_turnedL v.toBitVec j))), (5, .int (vl_I (8 * j)))] [] G n sl X := by
  intro d
  induction d with
  | zero =>
    intro j hj
    refine jv_b9_5 v (vl_I nb) (Int64.ofBitVec (vb_turnedL v.toBitVec j)) (vl_I (8 * j)) _ rfl ?_
    have e : 8 * j = nb := by omega
    have ej : j = nb / 8 := by omega
    rw [e, if_pos (show vl_I nb ≤ vl_I nb by rw [Int32.le_iff_toBitVec_sle, BitVec.sle_iff_toInt_le]; exact Int.le_refl _), ej]
    exact HK
  | succ d ih =>
    intro j hj
    refine jv_b9_5 v (vl_I nb) (Int64.ofBitVec (vb_turnedL v.toBitVec j)) (vl_I (8 * j)) _ rfl ?_
    have hlt : 8 * j < nb := by omega
    have h64 : 8 * j < 64 := by omega
    have hge : ¬ vl_I nb ≤ vl_I (8 * j) := by
      intro h'
      have h2 : vl_I (8 * j) < vl_I nb := (vl_I_lt (by omega) (by omega)).mpr hlt
      rw [Int32.le_iff_toBitVec_sle, BitVec.sle_iff_toInt_le] at h'
      rw [Int32.lt_iff_toBitVec_slt, BitVec.slt_iff_toInt_lt] at h2
      omega
    rw [if_neg hge, if_neg (vr_ge h64)]
    have hk : vl_I (8 * j) + Int32.ofInt 8 = vl_I (8 * (j + 1)) := vl_I_add (8 * j) 8
    rw [hk]
    have H := ih (j + 1) (by omega)
    have e : Int64.ofBitVec (vb_turnedL v.toBitVec (j + 1)) = ((Int64.ofBitVec (vb_turnedL v.toBitVec j) <<< ((8 : Int32).toInt64 &&& 63)) ||| (((v.toUInt64 >>> ((vl_I (8 * j)).toInt64.toUInt64 &&& Int64.toUInt64 63)).toInt64) &&& (255 : Int64))) := by
      refine Int64.toBitVec_inj.mp ?_
      rw [Int64.toBitVec_or, Int64.toBitVec_and, vl_ushrI _ h64, vl_shl _ (s := 8) (k := 8) (by decide), vr_to, vr_to]
      rfl
    rw [e] at H
    exact H

theorem vl_turned {G : jv_G} (v : Int64) {nb : Nat} (hnb : nb = 16 ∨ nb = 32 ∨ nb = 64) {n sl : Nat} : jv_Ms 9 [.long v, .int (vl_I nb)] G n sl (some (.long (Int64.ofBitVec (vb_turned v.toBitVec nb))), G, n, sl) := by
  show jv_Ev 9 0 [(0, .long v), (2, .int (vl_I nb))] [] G n sl _
  refine jv_Ev.steps jv_i9 4 (pc' := 5) (l' := [(5, .int (0 : Int32)), (3, .long (0 : Int64)), (0, .long v), (2, .int (vl_I nb))]) (st' := []) rfl ?_
  refine jv_Ev.loc (l := [(0, .long v), (2, .int (vl_I nb)), (3, .long (0 : Int64)), (5, .int (0 : Int32))]) ⟨List.forall_mem_cons.mpr ⟨.tail _ (.tail _ (.head _)), List.forall_mem_cons.mpr ⟨.tail _ (.tail _ (.tail _ (.head _))), List.forall_mem_cons.mpr ⟨.tail _ (.head _), List.forall_mem_cons.mpr ⟨.head _, fun _ h => absurd h List.not_mem_nil⟩⟩⟩⟩, by show List.Nodup [5, 3, 0, 2]; decide⟩ (vl_swl v 0 hnb ?_ (nb / 8) 0 (Nat.zero_add _))
  refine jv_Ev.steps jv_i9 1 (pc' := 39) (l' := [(0, .long v), (2, .int (vl_I nb)), (3, .long (Int64.ofBitVec (vb_turned v.toBitVec nb))), (5, .int (vl_I nb))]) (st' := [.long (Int64.ofBitVec (vb_turned v.toBitVec nb))]) rfl ?_
  exact jv_Ev.ret jv_i9 rfl rfl

theorem vr_swapped {G : jv_G} (v : Int64) {nb : Nat} (hnb : nb = 16 ∨ nb = 32 ∨ nb = 64) {n sl : Nat} : jv_Ms 221 [.long v, .int (vl_I nb)] G n sl (some (.long (Int64.ofBitVec (vb_turned v.toBitVec nb))), G, n, sl) := by
  show jv_Ev 221 0 [(0, .long v), (2, .int (vl_I nb))] [] G n sl _
  refine jv_Ev.steps jv_i221 4 (pc' := 5) (l' := [(5, .int (0 : Int32)), (3, .long (0 : Int64)), (0, .long v), (2, .int (vl_I nb))]) (st' := []) rfl ?_
  refine jv_Ev.loc (l := [(0, .long v), (2, .int (vl_I nb)), (3, .long (0 : Int64)), (5, .int (0 : Int32))]) ⟨List.forall_mem_cons.mpr ⟨.tail _ (.tail _ (.head _)), List.forall_mem_cons.mpr ⟨.tail _ (.tail _ (.tail _ (.head _))), List.forall_mem_cons.mpr ⟨.tail _ (.head _), List.forall_mem_cons.mpr ⟨.head _, fun _ h => absurd h List.not_mem_nil⟩⟩⟩⟩, by show List.Nodup [5, 3, 0, 2]; decide⟩ (vr_swl v 0 hnb ?_ (nb / 8) 0 (Nat.zero_add _))
  refine jv_Ev.steps jv_i221 1 (pc' := 32) (l' := [(0, .long v), (2, .int (vl_I nb)), (3, .long (Int64.ofBitVec (vb_turned v.toBitVec nb))), (5, .int (vl_I nb))]) (st' := [.long (Int64.ofBitVec (vb_turned v.toBitVec nb))]) rfl ?_
  exact jv_Ev.ret jv_i221 rfl rfl
