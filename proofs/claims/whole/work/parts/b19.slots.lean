/-! part b19: slots and numbers (gen/tb19.py) -/
theorem vi_slot_tab : ∀ k : Fin 512, ((11 : Int32) + (((Int64.ofInt ((k.1 : Int) - 512) + (512 : Int64)).toInt32 >>> ((3 : Int32) &&& 31)) &&& (63 : Int32))) = vl_I (11 + k.1 / 8) := by decide +kernel
theorem vi_bit_tab : ∀ k : Fin 512, ((1 : Int32) <<< (((Int64.ofInt ((k.1 : Int) - 512)).toInt32 &&& (7 : Int32)) &&& 31)) = vl_I (2 ^ (k.1 % 8)) := by decide +kernel
theorem vi_back {x : Int64} (h : -512 ≤ x.toInt ∧ x.toInt ≤ -1) : ∃ k : Fin 512, x = Int64.ofInt ((k.1 : Int) - 512) ∧ x.toInt = (k.1 : Int) - 512 := by
  refine ⟨⟨(x.toInt + 512).toNat, by omega⟩, ?_, ?_⟩
  · rw [show (((x.toInt + 512).toNat : Nat) : Int) - 512 = x.toInt by omega, Int64.ofInt_toInt]
  · show x.toInt = (((x.toInt + 512).toNat : Nat) : Int) - 512
    omega
theorem vi_slot {x : Int64} (h : -512 ≤ x.toInt ∧ x.toInt ≤ -1) : ((11 : Int32) + (((x + (512 : Int64)).toInt32 >>> ((3 : Int32) &&& 31)) &&& (63 : Int32))) = vl_I (vx_slot x.toInt) := by
  obtain ⟨k, e1, e2⟩ := vi_back h
  rw [e2, e1, vi_slot_tab k]
  congr 1
  unfold vx_slot
  omega
theorem vi_bit {x : Int64} (h : -512 ≤ x.toInt ∧ x.toInt ≤ -1) : ((1 : Int32) <<< ((x.toInt32 &&& (7 : Int32)) &&& 31)) = vl_I (2 ^ vx_bit x.toInt) := by
  obtain ⟨k, e1, e2⟩ := vi_back h
  rw [e2, e1, vi_bit_tab k]
  congr 2
  unfold vx_bit
  omega
theorem vi_test (nb : Int32) {b : Nat} (hb : b < 8) : (nb &&& vl_I (2 ^ b)) = 0 ↔ nb.toBitVec.toNat.testBit b = false := by
  rw [← Int32.toBitVec_inj, Int32.toBitVec_and]
  have e : (vl_I (2 ^ b)).toBitVec = BitVec.twoPow 32 b := by
    refine BitVec.eq_of_toNat_eq ?_
    show (BitVec.ofNat 32 (2 ^ b)).toNat = _
    rw [BitVec.toNat_ofNat, BitVec.toNat_twoPow]
  rw [e]
  constructor
  · intro z
    have q := congrArg (fun y => BitVec.getLsbD y b) z
    rw [BitVec.getLsbD_and, BitVec.getLsbD_twoPow] at q
    have q2 : (nb.toBitVec.getLsbD b && (decide (b < 32) && decide (b = b))) = false := q.trans (show (0 : Nat).testBit b = false from Nat.zero_testBit b)
    rw [decide_eq_true (show b < 32 by omega), decide_eq_true rfl, Bool.and_true, Bool.and_true] at q2
    exact q2
  · intro z
    refine BitVec.eq_of_getLsbD_eq (fun i hi => ?_)
    rw [BitVec.getLsbD_and, BitVec.getLsbD_twoPow]
    show _ = (0 : Nat).testBit i
    rw [Nat.zero_testBit]
    by_cases h : b = i
    · subst h
      have z2 : nb.toBitVec.getLsbD b = false := z
      rw [z2, Bool.false_and]
    · rw [decide_eq_false h, Bool.and_false, Bool.and_false]
theorem vx_slot_75 {a : Int} (h : -512 ≤ a ∧ a ≤ -1) : vx_slot a < 75 := vx_slot_lt h.1 h.2
theorem vx_bit_8 (a : Int) : vx_bit a < 8 := by unfold vx_bit; omega
theorem jv_i114 : jv_I 114 3 (some (FieldType.object "ProgramBox$Thing")) 0 0 jv_c114 := ⟨rfl, rfl, rfl, rfl, rfl⟩
theorem vc_slotAt {K : Nat → Option (Nat × Nat)} {I : Nat → Nat → Int32} {L : Nat → Nat → Int64} {R : Nat → Nat → Value} {a : Nat} (x : Int64) (ha : vc_St K R a) (hx : -512 ≤ x.toInt ∧ x.toInt ≤ -1) {n sl : Nat} : ∃ I1 L1, jv_Ms 114 [.ref a, .long x] (jv_H K I L R) n sl (some (.ref (a + 2 + vx_slot x.toInt)), jv_H K I1 L1 R, n, sl) ∧ I1 = I ∧ L1 = L := by
  obtain ⟨Q, hQ⟩ : ∃ Q : jv_R → Prop, Q = fun X => ∃ I1 L1, X = (some (.ref (a + 2 + vx_slot x.toInt)), jv_H K I1 L1 R, n, sl) ∧ I1 = I ∧ L1 = L := ⟨_, rfl⟩
  suffices h : jv_Wp 114 0 [(0, .ref a), (1, .long x)] [] (jv_H K I L R) n sl Q by
    rw [hQ] at h
    obtain ⟨X, h, I1, L1, e, h'⟩ := h
    subst e
    exact ⟨I1, L1, h, h'⟩
  refine jv_Wp.lift (fun _ Kz => jv_Ev.steps jv_i114 1 (pc' := 1) (l' := [(0, .ref a), (1, .long x)]) (st' := [.ref a]) rfl Kz) ?_
  refine jv_Wp.lift (fun _ Kz => jv_Ev.m jv_i114 (pc' := 4) (st' := [.ref (a + 1)]) (G' := (jv_H K I L R)) rfl rfl (jv_m_getR ha.k rfl rfl ha.r) Kz) ?_
  refine jv_Wp.lift (fun _ Kz => jv_Ev.steps jv_i114 10 (pc' := 18) (l' := [(0, .ref a), (1, .long x)]) (st' := [.int ((11 : Int32) + (((x + (512 : Int64)).toInt32 >>> ((3 : Int32) &&& 31)) &&& (63 : Int32))), .ref (a + 1)]) rfl Kz) ?_
  refine jv_Wp.lift (fun _ Kz => jv_Ev.m jv_i114 (pc' := 19) (st' := [.ref (a + 2 + vx_slot x.toInt)]) (G' := (jv_H K I L R)) rfl rfl (jv_m_aaldR ha.kt rfl (by rw [vi_slot hx]; exact vl_I_ix (vx_slot_75 hx) (by decide)) rfl (by rw [vi_slot hx]; exact vc_St_rt ha (vx_slot_75 hx))) Kz) ?_
  refine jv_Wp.of (jv_Ev.ret jv_i114 rfl rfl) ?_
  rw [hQ]
  exact ⟨_, _, rfl, rfl, rfl⟩
theorem jv_i36 : jv_I 36 6 (some .boolean) 1 22 jv_c36 := ⟨rfl, rfl, rfl, rfl, rfl⟩
theorem vc_hasN {K : Nat → Option (Nat × Nat)} {I : Nat → Nat → Int32} {L : Nat → Nat → Int64} {R : Nat → Nat → Value} (x : Int64) (nn : Nat) (hC : vc_C K R) (hx : -512 ≤ x.toInt ∧ x.toInt + (nn : Int) ≤ 0) (oa : vc_okA I L 12) {n sl : Nat} : ∃ I1 L1, jv_Ms 36 [.ref 10, .long x, .int (vl_I nn)] (jv_H K I L R) n sl (some (.int (vr_b (vx_nums (vc_A I L 12) x.toInt nn))), jv_H K I1 L1 R, n, sl) ∧ I1 = I ∧ L1 = L := by
  obtain ⟨Q, hQ⟩ : ∃ Q : jv_R → Prop, Q = fun X => ∃ I1 L1, X = (some (.int (vr_b (vx_nums (vc_A I L 12) x.toInt nn))), jv_H K I1 L1 R, n, sl) ∧ I1 = I ∧ L1 = L := ⟨_, rfl⟩
  suffices h : jv_Wp 36 0 [(0, .ref 10), (1, .long x), (3, .int (vl_I nn))] [] (jv_H K I L R) n sl Q by
    rw [hQ] at h
    obtain ⟨X, h, I1, L1, e, h'⟩ := h
    subst e
    exact ⟨I1, L1, h, h'⟩
  have go : ∀ d i, i + d = nn → (∀ k, k < i → (vt_wr ((vc_A I L 12).1 (vx_slot (x.toInt + k)))).testBit (vx_bit (x.toInt + k)) = true) → jv_Wp 36 3 [(0, .ref 10), (1, .long x), (3, .int (vl_I nn)), (4, .int (vl_I i))] [] (jv_H K I L R) n sl Q := by
    intro d
    induction d with
    | zero =>
      intro i hd hi
      have h1 : vl_I nn ≤ vl_I i := (vl_I_le (by omega) (by omega)).mpr (by omega)
      refine jv_Wp.lift (fun _ Kz => jv_Ev.steps jv_i36 2 (pc' := 6) (l' := [(0, .ref 10), (1, .long x), (3, .int (vl_I nn)), (4, .int (vl_I i))]) (st' := [.int (vl_I nn), .int (vl_I i)]) rfl Kz) ?_
      refine jv_Wp.cnd jv_i36 (pt := 51) (pe := 9) (p := ((vl_I nn) ≤ (vl_I i))) (q := ((vl_I nn) ≤ (vl_I i))) rfl jv_bc_ge rfl rfl Iff.rfl (fun _ => ?_) (fun hz => absurd h1 hz)
      refine jv_Wp.lift (fun _ Kz => jv_Ev.steps jv_i36 1 (pc' := 52) (l' := [(0, .ref 10), (1, .long x), (3, .int (vl_I nn)), (4, .int (vl_I i))]) (st' := [.int (1 : Int32)]) rfl Kz) ?_
      refine jv_Wp.of (jv_Ev.ret jv_i36 rfl (jv_ret_b (Or.inr rfl))) ?_
      rw [hQ]
      have ei : i = nn := by have := (vl_I_le (by omega) (by omega)).mp h1; omega
      have e : vx_nums (vc_A I L 12) x.toInt nn = true := by
        unfold vx_nums; rw [List.all_eq_true]
        intro k hk
        exact hi k (by rw [ei]; exact List.mem_range.mp hk)
      rw [e]
      exact ⟨_, _, rfl, rfl, rfl⟩
    | succ d ih =>
      intro i hd hi
      have lt : i < nn := by omega
      have h1 : ¬ (vl_I nn ≤ vl_I i) := fun z => by have := (vl_I_le (by omega) (by omega)).mp z; omega
      have exi : (x + (vl_I i).toInt64).toInt = x.toInt + (i : Int) := (vi_add (by omega)).trans (by rw [show (vl_I i).toInt = (i : Int) from vl_I_int (by omega)])
      have hxi : -512 ≤ (x + (vl_I i).toInt64).toInt ∧ (x + (vl_I i).toInt64).toInt ≤ -1 := by rw [exi]; omega
      refine jv_Wp.lift (fun _ Kz => jv_Ev.steps jv_i36 2 (pc' := 6) (l' := [(0, .ref 10), (1, .long x), (3, .int (vl_I nn)), (4, .int (vl_I i))]) (st' := [.int (vl_I nn), .int (vl_I i)]) rfl Kz) ?_
      refine jv_Wp.cnd jv_i36 (pt := 51) (pe := 9) (p := ((vl_I nn) ≤ (vl_I i))) (q := ((vl_I nn) ≤ (vl_I i))) rfl jv_bc_ge rfl rfl Iff.rfl (fun hz => absurd hz h1) (fun _ => ?_)
      refine jv_Wp.lift (fun _ Kz => jv_Ev.steps jv_i36 11 (pc' := 23) (l' := [(5, .int ((1 : Int32) <<< (((x + (vl_I i).toInt64).toInt32 &&& (7 : Int32)) &&& 31))), (0, .ref 10), (1, .long x), (3, .int (vl_I nn)), (4, .int (vl_I i))]) (st' := [.ref 10]) rfl Kz) ?_
      refine jv_Wp.lift (fun _ Kz => jv_Ev.m jv_i36 (pc' := 26) (st' := [.ref 12]) (G' := (jv_H K I L R)) rfl rfl (jv_m_getR hC.k rfl rfl hC.rnow) Kz) ?_
      refine jv_Wp.lift (fun _ Kz => jv_Ev.steps jv_i36 4 (pc' := 31) (l' := [(5, .int ((1 : Int32) <<< (((x + (vl_I i).toInt64).toInt32 &&& (7 : Int32)) &&& 31))), (0, .ref 10), (1, .long x), (3, .int (vl_I nn)), (4, .int (vl_I i))]) (st' := [.long (x + (vl_I i).toInt64), .ref 12]) rfl Kz) ?_
      obtain ⟨I1, L1, H1, ei1, el1⟩ := vc_slotAt (I := I) (L := L) (R := R) (n := n) (sl := sl) (x + (vl_I i).toInt64) hC.now hxi
      rw [ei1, el1] at H1
      refine jv_Wp.lift (fun _ Kz => jv_Ev.c jv_i36 (pc' := 34) (S' := [.ref (12 + 2 + vx_slot (x + (vl_I i).toInt64).toInt)]) jv_i114 [.ref 12, .long (x + (vl_I i).toInt64)] rfl rfl rfl rfl (jv_cal rfl (jv_H_at hC.now.k) rfl rfl) rfl H1 rfl rfl Kz) ?_
      refine jv_Wp.lift (fun _ Kz => jv_Ev.c jv_i36 (pc' := 37) (S' := [.int (vc_nb (I (12 + 2 + vx_slot (x + (vl_I i).toInt64).toInt) 6) (I (12 + 2 + vx_slot (x + (vl_I i).toInt64).toInt) 9))]) jv_i146 [.ref (12 + 2 + vx_slot (x + (vl_I i).toInt64).toInt)] rfl rfl rfl rfl (jv_cal rfl (jv_H_at (hC.now.kk _ (vx_slot_75 hxi))) rfl rfl) rfl (vc_numb (hC.now.kk _ (vx_slot_75 hxi))) rfl rfl Kz) ?_
      refine jv_Wp.lift (fun _ Kz => jv_Ev.steps jv_i36 2 (pc' := 40) (l' := [(5, .int ((1 : Int32) <<< (((x + (vl_I i).toInt64).toInt32 &&& (7 : Int32)) &&& 31))), (0, .ref 10), (1, .long x), (3, .int (vl_I nn)), (4, .int (vl_I i))]) (st' := [.int ((vc_nb (I (12 + 2 + vx_slot (x + (vl_I i).toInt64).toInt) 6) (I (12 + 2 + vx_slot (x + (vl_I i).toInt64).toInt) 9)) &&& ((1 : Int32) <<< (((x + (vl_I i).toInt64).toInt32 &&& (7 : Int32)) &&& 31)))]) rfl Kz) ?_
      refine jv_Wp.cnd jv_i36 (pt := 45) (pe := 43) (p := (¬ ((vc_nb (I (12 + 2 + vx_slot (x + (vl_I i).toInt64).toInt) 6) (I (12 + 2 + vx_slot (x + (vl_I i).toInt64).toInt) 9)) &&& ((1 : Int32) <<< (((x + (vl_I i).toInt64).toInt32 &&& (7 : Int32)) &&& 31))) = 0)) (q := (¬ ((vc_nb (I (12 + 2 + vx_slot (x + (vl_I i).toInt64).toInt) 6) (I (12 + 2 + vx_slot (x + (vl_I i).toInt64).toInt) 9)) &&& ((1 : Int32) <<< (((x + (vl_I i).toInt64).toInt32 &&& (7 : Int32)) &&& 31))) = 0)) rfl jv_bi_ne rfl rfl Iff.rfl (fun h1 => ?_) (fun h1 => ?_)
      · refine jv_Wp.lift (fun _ Kz => jv_Ev.steps jv_i36 2 (pc' := 3) (l' := [(4, .int ((vl_I i) + Int32.ofInt 1)), (5, .int ((1 : Int32) <<< (((x + (vl_I i).toInt64).toInt32 &&& (7 : Int32)) &&& 31))), (0, .ref 10), (1, .long x), (3, .int (vl_I nn))]) (st' := []) rfl Kz) ?_
        refine jv_Wp.loc (l := [(0, .ref 10), (1, .long x), (3, .int (vl_I nn)), (4, .int ((vl_I i) + Int32.ofInt 1))]) ⟨List.forall_mem_cons.mpr ⟨.tail _ (.tail _ (.head _)), List.forall_mem_cons.mpr ⟨.tail _ (.tail _ (.tail _ (.head _))), List.forall_mem_cons.mpr ⟨.tail _ (.tail _ (.tail _ (.tail _ (.head _)))), List.forall_mem_cons.mpr ⟨.head _, fun _ h => absurd h List.not_mem_nil⟩⟩⟩⟩, by show List.Nodup [4, 5, 0, 1, 3]; decide⟩ ?_
        have z := h1
        rw [vi_bit hxi, vi_test _ (vx_bit_8 _)] at z
        rw [show vl_I i + Int32.ofInt 1 = vl_I (i + 1) from vl_I_add i 1]
        refine ih (i + 1) (by omega) (fun k hk => ?_)
        by_cases e : k = i
        · subst e
          rw [← exi, vc_A1 (vx_slot_75 hxi), show vt_wr (vc_T I L (12 + 2 + vx_slot (x + (vl_I k).toInt64).toInt)) = _ from vc_D_wr (oa _ (vx_slot_75 hxi))]
          exact Bool.not_eq_false _ |>.mp z
        · exact hi k (by omega)
      · refine jv_Wp.lift (fun _ Kz => jv_Ev.steps jv_i36 1 (pc' := 44) (l' := [(5, .int ((1 : Int32) <<< (((x + (vl_I i).toInt64).toInt32 &&& (7 : Int32)) &&& 31))), (0, .ref 10), (1, .long x), (3, .int (vl_I nn)), (4, .int (vl_I i))]) (st' := [.int (0 : Int32)]) rfl Kz) ?_
        refine jv_Wp.loc (l := [(0, .ref 10), (1, .long x), (3, .int (vl_I nn)), (4, .int (vl_I i))]) ⟨List.forall_mem_cons.mpr ⟨.tail _ (.head _), List.forall_mem_cons.mpr ⟨.tail _ (.tail _ (.head _)), List.forall_mem_cons.mpr ⟨.tail _ (.tail _ (.tail _ (.head _))), List.forall_mem_cons.mpr ⟨.tail _ (.tail _ (.tail _ (.tail _ (.head _)))), fun _ h => absurd h List.not_mem_nil⟩⟩⟩⟩, by show List.Nodup [5, 0, 1, 3, 4]; decide⟩ ?_
        refine jv_Wp.of (jv_Ev.ret jv_i36 rfl (jv_ret_b (Or.inl rfl))) ?_
        rw [hQ]
        have z := (Classical.not_not.mp h1)
        rw [vi_bit hxi, vi_test _ (vx_bit_8 _)] at z
        have e : vx_nums (vc_A I L 12) x.toInt nn = false := by
          refine Bool.eq_false_iff.mpr (fun q => ?_)
          unfold vx_nums at q; rw [List.all_eq_true] at q
          have q2 := q i (List.mem_range.mpr lt)
          rw [← exi, vc_A1 (vx_slot_75 hxi), show vt_wr (vc_T I L (12 + 2 + vx_slot (x + (vl_I i).toInt64).toInt)) = _ from vc_D_wr (oa _ (vx_slot_75 hxi)), z] at q2
          exact absurd q2 (by decide)
        rw [e]
        exact ⟨_, _, rfl, rfl, rfl⟩
  refine jv_Wp.lift (fun _ Kz => jv_Ev.steps jv_i36 2 (pc' := 3) (l' := [(4, .int (0 : Int32)), (0, .ref 10), (1, .long x), (3, .int (vl_I nn))]) (st' := []) rfl Kz) ?_
  refine jv_Wp.loc (l := [(0, .ref 10), (1, .long x), (3, .int (vl_I nn)), (4, .int (0 : Int32))]) ⟨List.forall_mem_cons.mpr ⟨.tail _ (.head _), List.forall_mem_cons.mpr ⟨.tail _ (.tail _ (.head _)), List.forall_mem_cons.mpr ⟨.tail _ (.tail _ (.tail _ (.head _))), List.forall_mem_cons.mpr ⟨.head _, fun _ h => absurd h List.not_mem_nil⟩⟩⟩⟩, by show List.Nodup [4, 0, 1, 3]; decide⟩ ?_
  rw [show (0 : Int32) = vl_I 0 from rfl]
  exact go nn 0 (by omega) (fun k hk => absurd hk (Nat.not_lt_zero k))