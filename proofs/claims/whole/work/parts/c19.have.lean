/-! part c19: whether bytes of the stack have numbers, as the reference asks (gen/tc19.py) -/
/-- a byte's bit, whatever stands at its place -/
def vr_wb (I : Nat → Nat → Int32) (k : Int) : Bool := decide (((vr_wx I (76800 + vx_slot k) >>> (vl_I (vx_bit k) &&& 31)) &&& (1 : Int32)) = (1 : Int32))
/-- behind the slots: register 10 of the state that jumps has no number -/
def vr_j10 (I : Nat → Nat → Int32) : Prop := I 205 76885 ≠ 1 ∧ I 205 76885 ≠ 9
theorem vr_wb_T {I : Nat → Nat → Int32} {L : Nat → Nat → Int64} {k : Int} (oa : vr_okA I 1024) (h : -512 ≤ k ∧ k ≤ -1) : vr_wb I k = (vt_wr ((vr_A I L 1024).1 (vx_slot k))).testBit (vx_bit k) := by
  have h75 : vx_slot k < 75 := vx_slot_75 h
  have e := vr_wx_T (L := L) (oa (vx_slot k) h75)
  have h8 : vx_bit k < 8 := vx_bit_8 k
  rw [vr_A1 h75]
  unfold vr_wb
  rw [show 76800 + vx_slot k = 75 * 1024 + vx_slot k from rfl, e.1]
  have q := vi_btest ⟨_, e.2⟩ ⟨_, h8⟩
  by_cases c : (vt_wr (vr_T I L (75 * 1024 + vx_slot k))).testBit (vx_bit k) = true
  · rw [c]; exact decide_eq_true (q.mpr c)
  · rw [Bool.eq_false_iff.mpr c]; exact decide_eq_false (fun z => c (q.mp z))
theorem vr_wb_80 {I : Nat → Nat → Int32} (j : vr_j10 I) : vr_wb I 80 = false := by
  have e : vr_wx I (76800 + vx_slot 80) = 0 := by
    show vr_wx I 76885 = 0
    unfold vr_wx
    rw [if_neg j.2, if_neg j.1]
  unfold vr_wb
  rw [e]
  decide
theorem jv_i292 : jv_I 292 8 (some .boolean) 2 44 jv_c292 := ⟨rfl, rfl, rfl, rfl, rfl⟩
theorem vq_haveT {K : Nat → Option (Nat × Nat)} {I : Nat → Nat → Int32} {L : Nat → Nat → Int64} {R : Nat → Nat → Value} (a m k : Int64) (c : Bool) (j : Nat) (hW : jv_rW K R) (oa : vr_okA I 1024) (hj : vr_j10 I) (g1 : -512 ≤ a.toInt) (g2 : a.toInt ≤ (-m).toInt) (g3 : a.toInt ≤ 2147483648) {n sl : Nat} {Q : jv_R → Prop} (hQ : Q = (fun X => ∃ c : Bool, X = (some (.int (vr_b c)), jv_H K I L R, n, sl) ∧ (0 ≤ m.toInt → c = vx_nums (vr_A I L 1024) a.toInt m.toInt.toNat))) (eE : 0 ≤ m.toInt → (a + m).toInt = a.toInt + m.toInt) (gk : k.toInt = a.toInt + (j : Nat)) (g4 : c = true → k.toInt ≤ 80 ∨ (a + m).toInt ≤ k.toInt) (g5 : 0 ≤ m.toInt → j ≤ m.toInt.toNat ∧ c = (List.range j).all (fun i => (vt_wr ((vr_A I L 1024).1 (vx_slot (a.toInt + (i : Nat))))).testBit (vx_bit (a.toInt + (i : Nat))))) (ih : k.toInt < (a + m).toInt → ∀ c1, (k + 1).toInt = a.toInt + ((j + 1) : Nat) → (c1 = true → (k + 1).toInt ≤ 80 ∨ (a + m).toInt ≤ (k + 1).toInt) → (0 ≤ m.toInt → (j + 1) ≤ m.toInt.toNat ∧ c1 = (List.range (j + 1)).all (fun i => (vt_wr ((vr_A I L 1024).1 (vx_slot (a.toInt + (i : Nat))))).testBit (vx_bit (a.toInt + (i : Nat))))) → jv_Wp 292 6 [(0, .ref 196), (1, .long a), (3, .long m), (5, .int (vr_b c1)), (6, .long (k + 1))] [] (jv_H K I L R) n sl Q) : jv_Wp 292 6 [(0, .ref 196), (1, .long a), (3, .long m), (5, .int (vr_b c)), (6, .long k)] [] (jv_H K I L R) n sl Q := by
  have bE := Int64.toInt_lt (a + m)
  have ek : k.toInt < (a + m).toInt → (k + 1).toInt = k.toInt + 1 := fun z => by
    have b0 := Int64.le_toInt k
    rw [Int64.toInt_add]; exact vi_bm (by show -9223372036854775808 ≤ k.toInt + 1; omega) (by show k.toInt + 1 < 9223372036854775808; omega)
  have ek0 : a.toInt + (j : Int) = k.toInt := gk.symm
  have nm : 0 ≤ m.toInt → (-m).toInt = -m.toInt := fun z => by
    rw [Int64.toInt_neg]; have := Int64.toInt_lt m; exact vi_bm (by omega) (by omega)
  refine jv_Wp.lift (fun _ Kz => jv_Ev.steps jv_i292 5 (pc' := 12) (l' := [(0, .ref 196), (1, .long a), (3, .long m), (5, .int (vr_b c)), (6, .long k)]) (st' := [.int (lg_cmp k (a + m))]) rfl Kz) ?_
  refine jv_Wp.cnd jv_i292 (pt := 65) (pe := 15) (p := (0 ≤ (lg_cmp k (a + m)))) (q := ((a + m) ≤ k)) rfl jv_bi_ge rfl rfl (lg_cmp_ge k (a + m)) (fun h1 => ?_) (fun h1 => ?_)
  · refine jv_Wp.lift (fun _ Kz => jv_Ev.steps jv_i292 1 (pc' := 67) (l' := [(0, .ref 196), (1, .long a), (3, .long m), (5, .int (vr_b c)), (6, .long k)]) (st' := [.int (vr_b c)]) rfl Kz) ?_
    have y1 := Int64.le_iff_toInt_le.mp h1
    refine jv_Wp.of (jv_Ev.ret jv_i292 rfl (jv_ret_b (vr_b01 _))) ?_
    rw [hQ]
    refine ⟨c, rfl, fun hm => ?_⟩
    obtain ⟨j1, j2⟩ := g5 hm
    have ej : j = m.toInt.toNat := by have := eE hm; omega
    subst ej
    exact j2
  · refine jv_Wp.lift (fun _ Kz => jv_Ev.steps jv_i292 1 (pc' := 17) (l' := [(0, .ref 196), (1, .long a), (3, .long m), (5, .int (vr_b c)), (6, .long k)]) (st' := [.int (vr_b c)]) rfl Kz) ?_
    refine jv_Wp.cnd jv_i292 (pt := 53) (pe := 20) (p := ((vr_b c) = 0)) (q := ((vr_b c) = 0)) rfl jv_bi_eq rfl rfl Iff.rfl (fun h2 => ?_) (fun h2 => ?_)
    · refine jv_Wp.lift (fun _ Kz => jv_Ev.steps jv_i292 7 (pc' := 6) (l' := [(6, .long (k + (1 : Int64))), (5, .int (0 : Int32)), (0, .ref 196), (1, .long a), (3, .long m)]) (st' := []) rfl Kz) ?_
      refine jv_Wp.loc (l := [(0, .ref 196), (1, .long a), (3, .long m), (5, .int (0 : Int32)), (6, .long (k + (1 : Int64)))]) ⟨List.forall_mem_cons.mpr ⟨.tail _ (.tail _ (.head _)), List.forall_mem_cons.mpr ⟨.tail _ (.tail _ (.tail _ (.head _))), List.forall_mem_cons.mpr ⟨.tail _ (.tail _ (.tail _ (.tail _ (.head _)))), List.forall_mem_cons.mpr ⟨.tail _ (.head _), List.forall_mem_cons.mpr ⟨.head _, fun _ h => absurd h List.not_mem_nil⟩⟩⟩⟩⟩, by show List.Nodup [6, 5, 0, 1, 3]; decide⟩ ?_
      have y1 : ¬ (a + m).toInt ≤ k.toInt := fun z => h1 (Int64.le_iff_toInt_le.mpr z)
      have c0 := vr_b_f h2
      refine ih (by omega) false (by rw [ek (by omega)]; omega) (fun z => absurd z (by decide)) (fun hm => ?_)
      obtain ⟨j1, j2⟩ := g5 hm
      have := eE hm
      refine ⟨by omega, ?_⟩
      rw [List.range_succ, List.all_append, ← j2, c0, Bool.false_and]
    · refine jv_Wp.lift (fun _ Kz => jv_Ev.steps jv_i292 3 (pc' := 26) (l' := [(0, .ref 196), (1, .long a), (3, .long m), (5, .int (vr_b c)), (6, .long k)]) (st' := [.long k, .int (1024 : Int32), .ref 196]) rfl Kz) ?_
      have y1 : ¬ (a + m).toInt ≤ k.toInt := fun z => h1 (Int64.le_iff_toInt_le.mpr z)
      have c1 := vr_b_t h2
      have k80 : k.toInt ≤ 80 := (g4 c1).resolve_right y1
      have hs2 : vx_slot k.toInt ≤ 85 := by unfold vx_slot; omega
      refine jv_Wp.lift (fun _ Kz => jv_Ev.c jv_i292 (pc' := 29) (S' := [.int (vl_I (vx_slot k.toInt)), .int (1024 : Int32), .ref 196]) jv_i291 [.long k] rfl rfl rfl rfl rfl rfl (vq_slotOfx k ⟨by omega, by omega⟩) rfl rfl Kz) ?_
      refine jv_Wp.lift (fun _ Kz => jv_Ev.c jv_i292 (pc' := 32) (S' := [.int (vr_wx I (76800 + (vx_slot k.toInt)))]) jv_i279 [.ref 196, .int (1024 : Int32), .int (vl_I (vx_slot k.toInt))] rfl rfl rfl rfl (jv_cal rfl (jv_H_at (jv_rwK hW 196 12 24 (by decide))) rfl rfl) rfl (vq_writtenX 1024 (vx_slot k.toInt) hW (by omega)) rfl rfl Kz) ?_
      refine jv_Wp.lift (fun _ Kz => jv_Ev.steps jv_i292 5 (pc' := 41) (l' := [(0, .ref 196), (1, .long a), (3, .long m), (5, .int (vr_b c)), (6, .long k)]) (st' := [.int (8 : Int32), .int (k + (512 : Int64)).toInt32, .int (vr_wx I (76800 + (vx_slot k.toInt)))]) rfl Kz) ?_
      refine jv_Wp.lift (fun _ Kz => jv_Ev.op jv_i292 (pc' := 42) (l' := [(0, .ref 196), (1, .long a), (3, .long m), (5, .int (vr_b c)), (6, .long k)]) (st' := [.int ((k + (512 : Int64)).toInt32 - (k + (512 : Int64)).toInt32 / (8 : Int32) * (8 : Int32)), .int (vr_wx I (76800 + (vx_slot k.toInt)))]) rfl (jv_op_irem (by decide)) Kz) ?_
      refine jv_Wp.lift (fun _ Kz => jv_Ev.steps jv_i292 4 (pc' := 46) (l' := [(0, .ref 196), (1, .long a), (3, .long m), (5, .int (vr_b c)), (6, .long k)]) (st' := [.int (1 : Int32), .int (((vr_wx I (76800 + (vx_slot k.toInt))) >>> (((k + (512 : Int64)).toInt32 - (k + (512 : Int64)).toInt32 / (8 : Int32) * (8 : Int32)) &&& 31)) &&& (1 : Int32))]) rfl Kz) ?_
      refine jv_Wp.cnd jv_i292 (pt := 53) (pe := 49) (p := (¬ (((vr_wx I (76800 + (vx_slot k.toInt))) >>> (((k + (512 : Int64)).toInt32 - (k + (512 : Int64)).toInt32 / (8 : Int32) * (8 : Int32)) &&& 31)) &&& (1 : Int32)) = (1 : Int32))) (q := (¬ (((vr_wx I (76800 + (vx_slot k.toInt))) >>> (((k + (512 : Int64)).toInt32 - (k + (512 : Int64)).toInt32 / (8 : Int32) * (8 : Int32)) &&& 31)) &&& (1 : Int32)) = (1 : Int32))) rfl jv_bc_ne rfl rfl Iff.rfl (fun h3 => ?_) (fun h3 => ?_)
      · refine jv_Wp.lift (fun _ Kz => jv_Ev.steps jv_i292 7 (pc' := 6) (l' := [(6, .long (k + (1 : Int64))), (5, .int (0 : Int32)), (0, .ref 196), (1, .long a), (3, .long m)]) (st' := []) rfl Kz) ?_
        refine jv_Wp.loc (l := [(0, .ref 196), (1, .long a), (3, .long m), (5, .int (0 : Int32)), (6, .long (k + (1 : Int64)))]) ⟨List.forall_mem_cons.mpr ⟨.tail _ (.tail _ (.head _)), List.forall_mem_cons.mpr ⟨.tail _ (.tail _ (.tail _ (.head _))), List.forall_mem_cons.mpr ⟨.tail _ (.tail _ (.tail _ (.tail _ (.head _)))), List.forall_mem_cons.mpr ⟨.tail _ (.head _), List.forall_mem_cons.mpr ⟨.head _, fun _ h => absurd h List.not_mem_nil⟩⟩⟩⟩⟩, by show List.Nodup [6, 5, 0, 1, 3]; decide⟩ ?_
        have y1 : ¬ (a + m).toInt ≤ k.toInt := fun z => h1 (Int64.le_iff_toInt_le.mpr z)
        have q := h3
        rw [vi_bit8 ⟨by omega, by omega⟩] at q
        have w : vr_wb I k.toInt = false := decide_eq_false q
        refine ih (by omega) false (by rw [ek (by omega)]; omega) (fun z => Or.inl ?_) (fun hm => ?_)
        · exact absurd z (by decide)
        · obtain ⟨j1, j2⟩ := g5 hm
          have := eE hm
          have := nm hm
          refine ⟨by omega, ?_⟩
          rw [List.range_succ, List.all_append, ← j2, c1]
          show false = (true && (_ && true))
          rw [Bool.and_true, Bool.true_and, ← w]
          show vr_wb I k.toInt = (vt_wr ((vr_A I L 1024).1 (vx_slot (a.toInt + (j : Nat))))).testBit (vx_bit (a.toInt + (j : Nat)))
          rw [ek0]
          exact vr_wb_T oa ⟨by omega, by omega⟩
      · refine jv_Wp.lift (fun _ Kz => jv_Ev.steps jv_i292 8 (pc' := 6) (l' := [(6, .long (k + (1 : Int64))), (5, .int (1 : Int32)), (0, .ref 196), (1, .long a), (3, .long m)]) (st' := []) rfl Kz) ?_
        refine jv_Wp.loc (l := [(0, .ref 196), (1, .long a), (3, .long m), (5, .int (1 : Int32)), (6, .long (k + (1 : Int64)))]) ⟨List.forall_mem_cons.mpr ⟨.tail _ (.tail _ (.head _)), List.forall_mem_cons.mpr ⟨.tail _ (.tail _ (.tail _ (.head _))), List.forall_mem_cons.mpr ⟨.tail _ (.tail _ (.tail _ (.tail _ (.head _)))), List.forall_mem_cons.mpr ⟨.tail _ (.head _), List.forall_mem_cons.mpr ⟨.head _, fun _ h => absurd h List.not_mem_nil⟩⟩⟩⟩⟩, by show List.Nodup [6, 5, 0, 1, 3]; decide⟩ ?_
        have y1 : ¬ (a + m).toInt ≤ k.toInt := fun z => h1 (Int64.le_iff_toInt_le.mpr z)
        have q := (Classical.not_not.mp h3)
        rw [vi_bit8 ⟨by omega, by omega⟩] at q
        have w : vr_wb I k.toInt = true := decide_eq_true q
        refine ih (by omega) true (by rw [ek (by omega)]; omega) (fun z => Or.inl ?_) (fun hm => ?_)
        · rw [ek (by omega)]; have : k.toInt ≠ 80 := fun z => by rw [z, vr_wb_80 hj] at w; exact absurd w (by decide)
          omega
        · obtain ⟨j1, j2⟩ := g5 hm
          have := eE hm
          have := nm hm
          refine ⟨by omega, ?_⟩
          rw [List.range_succ, List.all_append, ← j2, c1]
          show true = (true && (_ && true))
          rw [Bool.and_true, Bool.true_and, ← w]
          show vr_wb I k.toInt = (vt_wr ((vr_A I L 1024).1 (vx_slot (a.toInt + (j : Nat))))).testBit (vx_bit (a.toInt + (j : Nat)))
          rw [ek0]
          exact vr_wb_T oa ⟨by omega, by omega⟩
theorem vq_have {K : Nat → Option (Nat × Nat)} {I : Nat → Nat → Int32} {L : Nat → Nat → Int64} {R : Nat → Nat → Value} (a m : Int64) (hW : jv_rW K R) (oa : vr_okA I 1024) (hj : vr_j10 I) (g1 : -512 ≤ a.toInt) (g2 : a.toInt ≤ (-m).toInt) (g3 : a.toInt ≤ 2147483648) {n sl : Nat} : ∃ c : Bool, jv_Ms 292 [.ref 196, .long a, .long m] (jv_H K I L R) n sl (some (.int (vr_b c)), jv_H K I L R, n, sl) ∧ (0 ≤ m.toInt → c = vx_nums (vr_A I L 1024) a.toInt m.toInt.toNat) := by
  obtain ⟨Q, hQ⟩ : ∃ Q : jv_R → Prop, Q = (fun X => ∃ c : Bool, X = (some (.int (vr_b c)), jv_H K I L R, n, sl) ∧ (0 ≤ m.toInt → c = vx_nums (vr_A I L 1024) a.toInt m.toInt.toNat)) := ⟨_, rfl⟩
  have eE : 0 ≤ m.toInt → (a + m).toInt = a.toInt + m.toInt := fun z => by
    have e : (-m).toInt = -m.toInt := by rw [Int64.toInt_neg]; have := Int64.toInt_lt m; exact vi_bm (by omega) (by omega)
    rw [Int64.toInt_add]; exact vi_bm (by omega) (by omega)
  have go : ∀ d : Nat, ∀ (k : Int64) (c : Bool) (j : Nat), ((a + m).toInt - k.toInt).toNat = d → k.toInt = a.toInt + (j : Nat) → (c = true → k.toInt ≤ 80 ∨ (a + m).toInt ≤ k.toInt) → (0 ≤ m.toInt → j ≤ m.toInt.toNat ∧ c = (List.range j).all (fun i => (vt_wr ((vr_A I L 1024).1 (vx_slot (a.toInt + (i : Nat))))).testBit (vx_bit (a.toInt + (i : Nat))))) → jv_Wp 292 6 [(0, .ref 196), (1, .long a), (3, .long m), (5, .int (vr_b c)), (6, .long k)] [] (jv_H K I L R) n sl Q := by
    intro d
    induction d with
    | zero => exact fun k c j hd gk g4 g5 => vq_haveT a m k c j hW oa hj g1 g2 g3 hQ eE gk g4 g5 (fun z => absurd z (by omega))
    | succ d ih =>
      intro k c j hd gk g4 g5
      refine vq_haveT a m k c j hW oa hj g1 g2 g3 hQ eE gk g4 g5 (fun z c1 gk1 g41 g51 => ih (k + 1) c1 (j + 1) ?_ gk1 g41 g51)
      rw [gk1]; omega
  have aN : 0 ≤ m.toInt → a.toInt ≤ 0 := fun z => by
    have e : (-m).toInt = -m.toInt := by rw [Int64.toInt_neg]; have := Int64.toInt_lt m; exact vi_bm (by omega) (by omega)
    omega
  have a80 : a.toInt ≤ 80 ∨ (a + m).toInt ≤ a.toInt := by
    by_cases c : a.toInt ≤ 80
    · exact Or.inl c
    · have b0 := Int64.le_toInt m
      right; rw [Int64.toInt_add, vi_bm (by omega) (by omega)]; omega
  suffices h : jv_Wp 292 0 [(0, .ref 196), (1, .long a), (3, .long m)] [] (jv_H K I L R) n sl Q by
    rw [hQ] at h
    obtain ⟨X, h, c, e, h'⟩ := h
    subst e
    exact ⟨c, h, h'⟩
  refine jv_Wp.lift (fun _ Kz => jv_Ev.steps jv_i292 4 (pc' := 6) (l' := [(6, .long a), (5, .int (1 : Int32)), (0, .ref 196), (1, .long a), (3, .long m)]) (st' := []) rfl Kz) ?_
  refine jv_Wp.loc (l := [(0, .ref 196), (1, .long a), (3, .long m), (5, .int (1 : Int32)), (6, .long a)]) ⟨List.forall_mem_cons.mpr ⟨.tail _ (.tail _ (.head _)), List.forall_mem_cons.mpr ⟨.tail _ (.tail _ (.tail _ (.head _))), List.forall_mem_cons.mpr ⟨.tail _ (.tail _ (.tail _ (.tail _ (.head _)))), List.forall_mem_cons.mpr ⟨.tail _ (.head _), List.forall_mem_cons.mpr ⟨.head _, fun _ h => absurd h List.not_mem_nil⟩⟩⟩⟩⟩, by show List.Nodup [6, 5, 0, 1, 3]; decide⟩ ?_
  exact go _ a true 0 rfl (by omega) (fun _ => a80) (fun _ => ⟨Nat.zero_le _, rfl⟩)