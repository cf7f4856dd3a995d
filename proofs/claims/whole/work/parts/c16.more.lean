/-! part c16: more that the reference asks (gen/tc16.py) -/
def vr_nm (s : Int32) : Nat := if s = 0 then 1 else if s = 1 then 0 else 8
theorem vi_bm {x : Int} (h1 : -9223372036854775808 ≤ x) (h2 : x < 9223372036854775808) : x.bmod (2 ^ 64) = x := by rw [Int.bmod_def]; split <;> omega
theorem vi_bm32 {x : Int} (h1 : -2147483648 ≤ x) (h2 : x < 2147483648) : x.bmod (2 ^ 32) = x := by rw [Int.bmod_def]; split <;> omega
def vr_wi (v : vb_S) (o m f : Int) : Bool := decide (0 ≤ v.least.toInt + o ∧ v.greatest.toInt + o + m ≤ f)
theorem vi_neg {a : Int64} (h : -1099511627776 ≤ a.toInt ∧ a.toInt ≤ 1099511627776) : (-a).toInt = -a.toInt := by rw [Int64.toInt_neg]; exact vi_bm (by omega) (by omega)
theorem vi_sub2 {a b c : Int64} (h : -1099511627776 ≤ a.toInt ∧ a.toInt ≤ 1099511627776) (hb : -1099511627776 ≤ b.toInt ∧ b.toInt ≤ 1099511627776) (hc : -1099511627776 ≤ c.toInt ∧ c.toInt ≤ 1099511627776) : ((c - b) - a).toInt = c.toInt - b.toInt - a.toInt := by
  have e : (c - b).toInt = c.toInt - b.toInt := by rw [Int64.toInt_sub]; exact vi_bm (by omega) (by omega)
  rw [Int64.toInt_sub, e]; exact vi_bm (by omega) (by omega)
theorem vr_islot {a : Int64} (h : -512 ≤ a.toInt ∧ a.toInt < 0) : (11 : Int32) + ((a + (512 : Int64)) / (8 : Int64)).toInt32 = vl_I (vx_slot a.toInt) := by
  have e1 : (a + (512 : Int64)).toInt = a.toInt + 512 := by rw [Int64.toInt_add]; exact vi_bm (by show -9223372036854775808 ≤ a.toInt + 512; omega) (by show a.toInt + 512 < 9223372036854775808; omega)
  have e2 : ((a + (512 : Int64)) / (8 : Int64)).toInt = (a.toInt + 512) / 8 := by
    rw [Int64.toInt_div, e1, show (8 : Int64).toInt = 8 from rfl, Int.tdiv_eq_ediv_of_nonneg (by omega)]; exact vi_bm (by omega) (by omega)
  refine Int32.toInt_inj.mp ?_
  have q : (vl_I (vx_slot a.toInt)).toInt = (vx_slot a.toInt : Int) := vl_I_int (by unfold vx_slot; omega)
  rw [q, Int32.toInt_add, Int64.toInt_toInt32, e2, show (11 : Int32).toInt = 11 from rfl, vi_bm32 (x := (a.toInt + 512) / 8) (by omega) (by omega), vi_bm32 (by omega) (by omega)]
  unfold vx_slot; omega
theorem jv_i299 : jv_I 299 2 (some .int) 0 0 jv_c299 := ⟨rfl, rfl, rfl, rfl, rfl⟩
theorem vq_then_ {K : Nat → Option (Nat × Nat)} {I : Nat → Nat → Int32} {L : Nat → Nat → Int64} {R : Nat → Nat → Value} (a b : Nat) (ha : a < 2147483648) (hb : b < 2147483648) {n sl : Nat} : ∃ I1 L1, jv_Ms 299 [.int (vl_I a), .int (vl_I b)] (jv_H K I L R) n sl (some (.int (vl_I (vx_then a b))), jv_H K I1 L1 R, n, sl) ∧ I1 = I ∧ L1 = L := by
  obtain ⟨Q, hQ⟩ : ∃ Q : jv_R → Prop, Q = fun X => ∃ I1 L1, X = (some (.int (vl_I (vx_then a b))), jv_H K I1 L1 R, n, sl) ∧ I1 = I ∧ L1 = L := ⟨_, rfl⟩
  suffices h : jv_Wp 299 0 [(0, .int (vl_I a)), (1, .int (vl_I b))] [] (jv_H K I L R) n sl Q by
    rw [hQ] at h
    obtain ⟨X, h, I1, L1, e, h'⟩ := h
    subst e
    exact ⟨I1, L1, h, h'⟩
  refine jv_Wp.lift (fun _ Kz => jv_Ev.steps jv_i299 1 (pc' := 1) (l' := [(0, .int (vl_I a)), (1, .int (vl_I b))]) (st' := [.int (vl_I a)]) rfl Kz) ?_
  refine jv_Wp.cnd jv_i299 (pt := 8) (pe := 4) (p := ((vl_I a) ≤ 0)) (q := ((vl_I a) ≤ 0)) rfl jv_bi_le rfl rfl Iff.rfl (fun h1 => ?_) (fun h1 => ?_)
  · refine jv_Wp.lift (fun _ Kz => jv_Ev.steps jv_i299 1 (pc' := 9) (l' := [(0, .int (vl_I a)), (1, .int (vl_I b))]) (st' := [.int (vl_I b)]) rfl Kz) ?_
    refine jv_Wp.of (jv_Ev.ret jv_i299 rfl rfl) ?_
    rw [hQ]
    have ev : (vl_I b) = (vl_I (vx_then a b)) := by unfold vx_then; rw [if_neg (fun z => z (Nat.le_zero.mp ((vl_I_le (b := 0) (by omega) (by decide)).mp h1)))]
    exact ⟨_, _, by rw [ev], rfl, rfl⟩
  · refine jv_Wp.lift (fun _ Kz => jv_Ev.steps jv_i299 2 (pc' := 9) (l' := [(0, .int (vl_I a)), (1, .int (vl_I b))]) (st' := [.int (vl_I a)]) rfl Kz) ?_
    refine jv_Wp.of (jv_Ev.ret jv_i299 rfl rfl) ?_
    rw [hQ]
    have ev : (vl_I a) = (vl_I (vx_then a b)) := by unfold vx_then; rw [if_pos (fun z => h1 ((vl_I_le (b := 0) (by omega) (by decide)).mpr (Nat.le_of_eq z)))]
    exact ⟨_, _, by rw [ev], rfl, rfl⟩
theorem vq_then {K : Nat → Option (Nat × Nat)} {I : Nat → Nat → Int32} {L : Nat → Nat → Int64} {R : Nat → Nat → Value} (a b : Nat) (ha : a < 2147483648) (hb : b < 2147483648) {n sl : Nat} : jv_Ms 299 [.int (vl_I a), .int (vl_I b)] (jv_H K I L R) n sl (some (.int (vl_I (vx_then a b))), jv_H K I L R, n, sl) := by
  obtain ⟨I1, L1, H, ei, el⟩ := vq_then_ (n := n) (sl := sl) a b ha hb
  rw [ei, el] at H
  exact H
theorem jv_i298 : jv_I 298 2 (some .int) 2 42 jv_c298 := ⟨rfl, rfl, rfl, rfl, rfl⟩
theorem vq_isNumber_ {K : Nat → Option (Nat × Nat)} {I : Nat → Nat → Int32} {L : Nat → Nat → Int64} {R : Nat → Nat → Value} (k : Nat) (hW : jv_rW K R) (hk : k < 75) {n sl : Nat} : ∃ I1 L1, jv_Ms 298 [.ref 196, .int (vl_I k)] (jv_H K I L R) n sl (some (.int (vl_I (vr_nm (I 205 (76800 + k))))), jv_H K I1 L1 R, n, sl) ∧ I1 = I ∧ L1 = L := by
  obtain ⟨Q, hQ⟩ : ∃ Q : jv_R → Prop, Q = fun X => ∃ I1 L1, X = (some (.int (vl_I (vr_nm (I 205 (76800 + k))))), jv_H K I1 L1 R, n, sl) ∧ I1 = I ∧ L1 = L := ⟨_, rfl⟩
  suffices h : jv_Wp 298 0 [(0, .ref 196), (1, .int (vl_I k))] [] (jv_H K I L R) n sl Q by
    rw [hQ] at h
    obtain ⟨X, h, I1, L1, e, h'⟩ := h
    subst e
    exact ⟨I1, L1, h, h'⟩
  refine jv_Wp.lift (fun _ Kz => jv_Ev.steps jv_i298 2 (pc' := 2) (l' := [(0, .ref 196), (1, .int (vl_I k))]) (st' := [.int (vl_I k), .ref 196]) rfl Kz) ?_
  refine jv_Wp.lift (fun _ Kz => jv_Ev.c jv_i298 (pc' := 5) (S' := [.int (I 205 (76800 + k))]) jv_i271 [.ref 196, .int (vl_I k)] rfl rfl rfl rfl (jv_cal rfl (jv_H_at (jv_rwK hW 196 12 24 (by decide))) rfl rfl) rfl (vq_sortOf k hW (by omega)) rfl rfl Kz) ?_
  refine jv_Wp.cnd jv_i298 (pt := 12) (pe := 8) (p := (¬ (I 205 (76800 + k)) = 0)) (q := (¬ (I 205 (76800 + k)) = 0)) rfl jv_bi_ne rfl rfl Iff.rfl (fun h1 => ?_) (fun h1 => ?_)
  · refine jv_Wp.lift (fun _ Kz => jv_Ev.steps jv_i298 2 (pc' := 14) (l' := [(0, .ref 196), (1, .int (vl_I k))]) (st' := [.int (vl_I k), .ref 196]) rfl Kz) ?_
    refine jv_Wp.lift (fun _ Kz => jv_Ev.c jv_i298 (pc' := 17) (S' := [.int (I 205 (76800 + k))]) jv_i271 [.ref 196, .int (vl_I k)] rfl rfl rfl rfl (jv_cal rfl (jv_H_at (jv_rwK hW 196 12 24 (by decide))) rfl rfl) rfl (vq_sortOf k hW (by omega)) rfl rfl Kz) ?_
    refine jv_Wp.lift (fun _ Kz => jv_Ev.steps jv_i298 1 (pc' := 18) (l' := [(0, .ref 196), (1, .int (vl_I k))]) (st' := [.int (1 : Int32), .int (I 205 (76800 + k))]) rfl Kz) ?_
    refine jv_Wp.cnd jv_i298 (pt := 25) (pe := 21) (p := (¬ (I 205 (76800 + k)) = (1 : Int32))) (q := (¬ (I 205 (76800 + k)) = (1 : Int32))) rfl jv_bc_ne rfl rfl Iff.rfl (fun h2 => ?_) (fun h2 => ?_)
    · refine jv_Wp.lift (fun _ Kz => jv_Ev.steps jv_i298 1 (pc' := 27) (l' := [(0, .ref 196), (1, .int (vl_I k))]) (st' := [.int (8 : Int32)]) rfl Kz) ?_
      refine jv_Wp.of (jv_Ev.ret jv_i298 rfl rfl) ?_
      rw [hQ]
      have ev : (8 : Int32) = (vl_I (vr_nm (I 205 (76800 + k)))) := by unfold vr_nm; rw [if_neg h1, if_neg h2]; rfl
      exact ⟨_, _, by rw [ev], rfl, rfl⟩
    · refine jv_Wp.lift (fun _ Kz => jv_Ev.steps jv_i298 2 (pc' := 27) (l' := [(0, .ref 196), (1, .int (vl_I k))]) (st' := [.int (0 : Int32)]) rfl Kz) ?_
      refine jv_Wp.of (jv_Ev.ret jv_i298 rfl rfl) ?_
      rw [hQ]
      have ev : (0 : Int32) = (vl_I (vr_nm (I 205 (76800 + k)))) := by unfold vr_nm; rw [if_neg h1, if_pos (Classical.not_not.mp h2)]; rfl
      exact ⟨_, _, by rw [ev], rfl, rfl⟩
  · refine jv_Wp.lift (fun _ Kz => jv_Ev.steps jv_i298 2 (pc' := 27) (l' := [(0, .ref 196), (1, .int (vl_I k))]) (st' := [.int (1 : Int32)]) rfl Kz) ?_
    refine jv_Wp.of (jv_Ev.ret jv_i298 rfl rfl) ?_
    rw [hQ]
    have ev : (1 : Int32) = (vl_I (vr_nm (I 205 (76800 + k)))) := by unfold vr_nm; rw [if_pos (Classical.not_not.mp h1)]; rfl
    exact ⟨_, _, by rw [ev], rfl, rfl⟩
theorem vq_isNumber {K : Nat → Option (Nat × Nat)} {I : Nat → Nat → Int32} {L : Nat → Nat → Int64} {R : Nat → Nat → Value} (k : Nat) (hW : jv_rW K R) (hk : k < 75) {n sl : Nat} : jv_Ms 298 [.ref 196, .int (vl_I k)] (jv_H K I L R) n sl (some (.int (vl_I (vr_nm (I 205 (76800 + k))))), jv_H K I L R, n, sl) := by
  obtain ⟨I1, L1, H, ei, el⟩ := vq_isNumber_ (n := n) (sl := sl) k hW hk
  rw [ei, el] at H
  exact H
theorem jv_i291 : jv_I 291 2 (some .int) 0 0 jv_c291 := ⟨rfl, rfl, rfl, rfl, rfl⟩
theorem vq_slotOf_ {K : Nat → Option (Nat × Nat)} {I : Nat → Nat → Int32} {L : Nat → Nat → Int64} {R : Nat → Nat → Value} (a : Int64) (h : -512 ≤ a.toInt ∧ a.toInt < 0) {n sl : Nat} : ∃ I1 L1, jv_Ms 291 [.long a] (jv_H K I L R) n sl (some (.int (vl_I (vx_slot a.toInt))), jv_H K I1 L1 R, n, sl) ∧ I1 = I ∧ L1 = L := by
  obtain ⟨Q, hQ⟩ : ∃ Q : jv_R → Prop, Q = fun X => ∃ I1 L1, X = (some (.int (vl_I (vx_slot a.toInt))), jv_H K I1 L1 R, n, sl) ∧ I1 = I ∧ L1 = L := ⟨_, rfl⟩
  suffices h : jv_Wp 291 0 [(0, .long a)] [] (jv_H K I L R) n sl Q by
    rw [hQ] at h
    obtain ⟨X, h, I1, L1, e, h'⟩ := h
    subst e
    exact ⟨I1, L1, h, h'⟩
  refine jv_Wp.lift (fun _ Kz => jv_Ev.steps jv_i291 5 (pc' := 10) (l' := [(0, .long a)]) (st' := [.long (8 : Int64), .long (a + (512 : Int64)), .int (11 : Int32)]) rfl Kz) ?_
  refine jv_Wp.lift (fun _ Kz => jv_Ev.op jv_i291 (pc' := 11) (l' := [(0, .long a)]) (st' := [.long ((a + (512 : Int64)) / (8 : Int64)), .int (11 : Int32)]) rfl (jv_op_ldiv (by decide)) Kz) ?_
  refine jv_Wp.lift (fun _ Kz => jv_Ev.steps jv_i291 2 (pc' := 13) (l' := [(0, .long a)]) (st' := [.int ((11 : Int32) + ((a + (512 : Int64)) / (8 : Int64)).toInt32)]) rfl Kz) ?_
  refine jv_Wp.of (jv_Ev.ret jv_i291 rfl rfl) ?_
  rw [hQ]
  have ev : ((11 : Int32) + ((a + (512 : Int64)) / (8 : Int64)).toInt32) = (vl_I (vx_slot a.toInt)) := vr_islot h
  exact ⟨_, _, by rw [ev], rfl, rfl⟩
theorem vq_slotOf {K : Nat → Option (Nat × Nat)} {I : Nat → Nat → Int32} {L : Nat → Nat → Int64} {R : Nat → Nat → Value} (a : Int64) (h : -512 ≤ a.toInt ∧ a.toInt < 0) {n sl : Nat} : jv_Ms 291 [.long a] (jv_H K I L R) n sl (some (.int (vl_I (vx_slot a.toInt))), jv_H K I L R, n, sl) := by
  obtain ⟨I1, L1, H, ei, el⟩ := vq_slotOf_ (n := n) (sl := sl) a h
  rw [ei, el] at H
  exact H
theorem jv_i289 : jv_I 289 9 (some .boolean) 1 21 jv_c289 := ⟨rfl, rfl, rfl, rfl, rfl⟩
theorem vq_isWithin_ {K : Nat → Option (Nat × Nat)} {I : Nat → Nat → Int32} {L : Nat → Nat → Int64} {R : Nat → Nat → Value} (k : Nat) (a b c : Int64) (hW : jv_rW K R) (hk : k < 75) (ha : -1099511627776 ≤ a.toInt ∧ a.toInt ≤ 1099511627776) (hb : -1099511627776 ≤ b.toInt ∧ b.toInt ≤ 1099511627776) (hc : -1099511627776 ≤ c.toInt ∧ c.toInt ≤ 1099511627776) {n sl : Nat} : ∃ I1 L1, jv_Ms 289 [.ref 196, .int (vl_I k), .long a, .long b, .long c] (jv_H K I L R) n sl (some (.int (vr_b (vr_wi (vb_toS (vr_S L (8 + (76800 + k)))) a.toInt b.toInt c.toInt))), jv_H K I1 L1 R, n, sl) ∧ I1 = I ∧ L1 = L := by
  obtain ⟨Q, hQ⟩ : ∃ Q : jv_R → Prop, Q = fun X => ∃ I1 L1, X = (some (.int (vr_b (vr_wi (vb_toS (vr_S L (8 + (76800 + k)))) a.toInt b.toInt c.toInt))), jv_H K I1 L1 R, n, sl) ∧ I1 = I ∧ L1 = L := ⟨_, rfl⟩
  suffices h : jv_Wp 289 0 [(0, .ref 196), (1, .int (vl_I k)), (2, .long a), (4, .long b), (6, .long c)] [] (jv_H K I L R) n sl Q by
    rw [hQ] at h
    obtain ⟨X, h, I1, L1, e, h'⟩ := h
    subst e
    exact ⟨I1, L1, h, h'⟩
  refine jv_Wp.lift (fun _ Kz => jv_Ev.steps jv_i289 2 (pc' := 4) (l' := [(0, .ref 196), (1, .int (vl_I k)), (2, .long a), (4, .long b), (6, .long c)]) (st' := [.int (vl_I k), .int (1024 : Int32)]) rfl Kz) ?_
  refine jv_Wp.lift (fun _ Kz => jv_Ev.c jv_i289 (pc' := 7) (S' := [.int (vl_I (8 + (76800 + k)))]) jv_i254 [.int (1024 : Int32), .int (vl_I k)] rfl rfl rfl rfl rfl rfl (vq_row 1024 k) rfl rfl Kz) ?_
  refine jv_Wp.lift (fun _ Kz => jv_Ev.steps jv_i289 2 (pc' := 10) (l' := [(8, .int (vl_I (8 + (76800 + k)))), (0, .ref 196), (1, .int (vl_I k)), (2, .long a), (4, .long b), (6, .long c)]) (st' := [.ref 196]) rfl Kz) ?_
  refine jv_Wp.lift (fun _ Kz => jv_Ev.m jv_i289 (pc' := 13) (st' := [.ref 208]) (G' := (jv_H K I L R)) rfl rfl (jv_m_getR (jv_rwK hW 196 12 24 (by decide)) rfl rfl (jv_rwR hW 196 16 208 (by decide))) Kz) ?_
  refine jv_Wp.lift (fun _ Kz => jv_Ev.m jv_i289 (pc' := 16) (st' := [.ref 213]) (G' := (jv_H K I L R)) rfl rfl (jv_m_getR (jv_rwK hW 208 11 7 (by decide)) rfl rfl (jv_rwR hW 208 4 213 (by decide))) Kz) ?_
  refine jv_Wp.lift (fun _ Kz => jv_Ev.steps jv_i289 1 (pc' := 18) (l' := [(8, .int (vl_I (8 + (76800 + k)))), (0, .ref 196), (1, .int (vl_I k)), (2, .long a), (4, .long b), (6, .long c)]) (st' := [.int (vl_I (8 + (76800 + k))), .ref 213]) rfl Kz) ?_
  refine jv_Wp.lift (fun _ Kz => jv_Ev.m jv_i289 (pc' := 19) (st' := [.long (L 213 (8 + (76800 + k)))]) (G' := (jv_H K I L R)) rfl rfl (jv_m_laldv (jv_rwK hW 213 103 77200 (by decide)) rfl (vl_I_ix (by omega) (by decide)) rfl ((congrArg (L 213) (vl_I_nat (by omega))).trans rfl)) Kz) ?_
  refine jv_Wp.lift (fun _ Kz => jv_Ev.steps jv_i289 3 (pc' := 22) (l' := [(8, .int (vl_I (8 + (76800 + k)))), (0, .ref 196), (1, .int (vl_I k)), (2, .long a), (4, .long b), (6, .long c)]) (st' := [.int (lg_cmp (L 213 (8 + (76800 + k))) (-a))]) rfl Kz) ?_
  refine jv_Wp.cnd jv_i289 (pt := 50) (pe := 25) (p := ((lg_cmp (L 213 (8 + (76800 + k))) (-a)) < 0)) (q := ((L 213 (8 + (76800 + k))) < (-a))) rfl jv_bi_lt rfl rfl (lg_cmp_lt (L 213 (8 + (76800 + k))) (-a)) (fun h1 => ?_) (fun h1 => ?_)
  · refine jv_Wp.lift (fun _ Kz => jv_Ev.steps jv_i289 1 (pc' := 51) (l' := [(8, .int (vl_I (8 + (76800 + k)))), (0, .ref 196), (1, .int (vl_I k)), (2, .long a), (4, .long b), (6, .long c)]) (st' := [.int (0 : Int32)]) rfl Kz) ?_
    refine jv_Wp.of (jv_Ev.ret jv_i289 rfl (jv_ret_b (Or.inl rfl))) ?_
    rw [hQ]
    have ev : (0 : Int32) = (vr_b (vr_wi (vb_toS (vr_S L (8 + (76800 + k)))) a.toInt b.toInt c.toInt)) := (by have l : (L 213 (8 + (76800 + k))).toInt = (vb_toS (vr_S L (8 + (76800 + k)))).least.toInt := rfl; have g : (L 214 (8 + (76800 + k))).toInt = (vb_toS (vr_S L (8 + (76800 + k)))).greatest.toInt := rfl; have y1 : (vb_toS (vr_S L (8 + (76800 + k)))).least.toInt < -a.toInt := (by have z := h1; rw [Int64.lt_iff_toInt_lt, l, vi_neg ha] at z; exact z); rw [show vr_wi (vb_toS (vr_S L (8 + (76800 + k)))) a.toInt b.toInt c.toInt = false from decide_eq_false (by omega)]; rfl)
    exact ⟨_, _, by rw [ev], rfl, rfl⟩
  · refine jv_Wp.lift (fun _ Kz => jv_Ev.steps jv_i289 1 (pc' := 26) (l' := [(8, .int (vl_I (8 + (76800 + k)))), (0, .ref 196), (1, .int (vl_I k)), (2, .long a), (4, .long b), (6, .long c)]) (st' := [.ref 196]) rfl Kz) ?_
    refine jv_Wp.lift (fun _ Kz => jv_Ev.m jv_i289 (pc' := 29) (st' := [.ref 208]) (G' := (jv_H K I L R)) rfl rfl (jv_m_getR (jv_rwK hW 196 12 24 (by decide)) rfl rfl (jv_rwR hW 196 16 208 (by decide))) Kz) ?_
    refine jv_Wp.lift (fun _ Kz => jv_Ev.m jv_i289 (pc' := 32) (st' := [.ref 214]) (G' := (jv_H K I L R)) rfl rfl (jv_m_getR (jv_rwK hW 208 11 7 (by decide)) rfl rfl (jv_rwR hW 208 5 214 (by decide))) Kz) ?_
    refine jv_Wp.lift (fun _ Kz => jv_Ev.steps jv_i289 1 (pc' := 34) (l' := [(8, .int (vl_I (8 + (76800 + k)))), (0, .ref 196), (1, .int (vl_I k)), (2, .long a), (4, .long b), (6, .long c)]) (st' := [.int (vl_I (8 + (76800 + k))), .ref 214]) rfl Kz) ?_
    refine jv_Wp.lift (fun _ Kz => jv_Ev.m jv_i289 (pc' := 35) (st' := [.long (L 214 (8 + (76800 + k)))]) (G' := (jv_H K I L R)) rfl rfl (jv_m_laldv (jv_rwK hW 214 103 77200 (by decide)) rfl (vl_I_ix (by omega) (by decide)) rfl ((congrArg (L 214) (vl_I_nat (by omega))).trans rfl)) Kz) ?_
    refine jv_Wp.lift (fun _ Kz => jv_Ev.steps jv_i289 6 (pc' := 43) (l' := [(8, .int (vl_I (8 + (76800 + k)))), (0, .ref 196), (1, .int (vl_I k)), (2, .long a), (4, .long b), (6, .long c)]) (st' := [.int (lg_cmp (L 214 (8 + (76800 + k))) ((c - b) - a))]) rfl Kz) ?_
    refine jv_Wp.cnd jv_i289 (pt := 50) (pe := 46) (p := (0 < (lg_cmp (L 214 (8 + (76800 + k))) ((c - b) - a)))) (q := (((c - b) - a) < (L 214 (8 + (76800 + k))))) rfl jv_bi_gt rfl rfl (lg_cmp_gt (L 214 (8 + (76800 + k))) ((c - b) - a)) (fun h2 => ?_) (fun h2 => ?_)
    · refine jv_Wp.lift (fun _ Kz => jv_Ev.steps jv_i289 1 (pc' := 51) (l' := [(8, .int (vl_I (8 + (76800 + k)))), (0, .ref 196), (1, .int (vl_I k)), (2, .long a), (4, .long b), (6, .long c)]) (st' := [.int (0 : Int32)]) rfl Kz) ?_
      refine jv_Wp.of (jv_Ev.ret jv_i289 rfl (jv_ret_b (Or.inl rfl))) ?_
      rw [hQ]
      have ev : (0 : Int32) = (vr_b (vr_wi (vb_toS (vr_S L (8 + (76800 + k)))) a.toInt b.toInt c.toInt)) := (by have l : (L 213 (8 + (76800 + k))).toInt = (vb_toS (vr_S L (8 + (76800 + k)))).least.toInt := rfl; have g : (L 214 (8 + (76800 + k))).toInt = (vb_toS (vr_S L (8 + (76800 + k)))).greatest.toInt := rfl; have y1 : ¬ (vb_toS (vr_S L (8 + (76800 + k)))).least.toInt < -a.toInt := (by have z := h1; rw [Int64.lt_iff_toInt_lt, l, vi_neg ha] at z; exact z); have y2 : c.toInt - b.toInt - a.toInt < (vb_toS (vr_S L (8 + (76800 + k)))).greatest.toInt := (by have z := h2; rw [Int64.lt_iff_toInt_lt, g, vi_sub2 ha hb hc] at z; exact z); rw [show vr_wi (vb_toS (vr_S L (8 + (76800 + k)))) a.toInt b.toInt c.toInt = false from decide_eq_false (by omega)]; rfl)
      exact ⟨_, _, by rw [ev], rfl, rfl⟩
    · refine jv_Wp.lift (fun _ Kz => jv_Ev.steps jv_i289 2 (pc' := 51) (l' := [(8, .int (vl_I (8 + (76800 + k)))), (0, .ref 196), (1, .int (vl_I k)), (2, .long a), (4, .long b), (6, .long c)]) (st' := [.int (1 : Int32)]) rfl Kz) ?_
      refine jv_Wp.of (jv_Ev.ret jv_i289 rfl (jv_ret_b (Or.inr rfl))) ?_
      rw [hQ]
      have ev : (1 : Int32) = (vr_b (vr_wi (vb_toS (vr_S L (8 + (76800 + k)))) a.toInt b.toInt c.toInt)) := (by have l : (L 213 (8 + (76800 + k))).toInt = (vb_toS (vr_S L (8 + (76800 + k)))).least.toInt := rfl; have g : (L 214 (8 + (76800 + k))).toInt = (vb_toS (vr_S L (8 + (76800 + k)))).greatest.toInt := rfl; have y1 : ¬ (vb_toS (vr_S L (8 + (76800 + k)))).least.toInt < -a.toInt := (by have z := h1; rw [Int64.lt_iff_toInt_lt, l, vi_neg ha] at z; exact z); have y2 : ¬ c.toInt - b.toInt - a.toInt < (vb_toS (vr_S L (8 + (76800 + k)))).greatest.toInt := (by have z := h2; rw [Int64.lt_iff_toInt_lt, g, vi_sub2 ha hb hc] at z; exact z); rw [show vr_wi (vb_toS (vr_S L (8 + (76800 + k)))) a.toInt b.toInt c.toInt = true from decide_eq_true (by omega)]; rfl)
      exact ⟨_, _, by rw [ev], rfl, rfl⟩
theorem vq_isWithin {K : Nat → Option (Nat × Nat)} {I : Nat → Nat → Int32} {L : Nat → Nat → Int64} {R : Nat → Nat → Value} (k : Nat) (a b c : Int64) (hW : jv_rW K R) (hk : k < 75) (ha : -1099511627776 ≤ a.toInt ∧ a.toInt ≤ 1099511627776) (hb : -1099511627776 ≤ b.toInt ∧ b.toInt ≤ 1099511627776) (hc : -1099511627776 ≤ c.toInt ∧ c.toInt ≤ 1099511627776) {n sl : Nat} : jv_Ms 289 [.ref 196, .int (vl_I k), .long a, .long b, .long c] (jv_H K I L R) n sl (some (.int (vr_b (vr_wi (vb_toS (vr_S L (8 + (76800 + k)))) a.toInt b.toInt c.toInt))), jv_H K I L R, n, sl) := by
  obtain ⟨I1, L1, H, ei, el⟩ := vq_isWithin_ (n := n) (sl := sl) k a b c hW hk ha hb hc
  rw [ei, el] at H
  exact H