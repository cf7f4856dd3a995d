/-! part b20: slots that are written, numbers in registers (gen/tb20.py) -/
theorem vi_mask_tab : ∀ j : Fin 3, ∀ k : Fin 512, ((((1 : Int32) <<< ((vl_I (2 ^ j.1)) &&& 31)) - (1 : Int32)) <<< (((Int64.ofInt ((k.1 : Int) - 512)).toInt32 &&& (7 : Int32)) &&& 31)) = vl_I ((2 ^ (2 ^ j.1) - 1) <<< (k.1 % 8)) := by decide +kernel
theorem vi_mask {x : Int64} {zz : Nat} (h : -512 ≤ x.toInt ∧ x.toInt ≤ -1) (hz : zz = 1 ∨ zz = 2 ∨ zz = 4) : ((((1 : Int32) <<< ((vl_I zz) &&& 31)) - (1 : Int32)) <<< ((x.toInt32 &&& (7 : Int32)) &&& 31)) = vl_I ((2 ^ zz - 1) <<< vx_bit x.toInt) := by
  obtain ⟨k, e1, e2⟩ := vi_back h
  have eb : vx_bit x.toInt = k.1 % 8 := by rw [e2]; unfold vx_bit; omega
  rw [eb, e1]
  rcases hz with z | z | z <;> subst z
  · exact vi_mask_tab 0 k
  · exact vi_mask_tab 1 k
  · exact vi_mask_tab 2 k
theorem vi_or (nb : Int32) {m : Nat} (hm : m < 4294967296) : (nb ||| vl_I m).toBitVec.toNat = nb.toBitVec.toNat ||| m := by
  rw [Int32.toBitVec_or, BitVec.toNat_or]
  congr 1
  exact Nat.mod_eq_of_lt hm
theorem vc_none_9 {I : Nat → Nat → Int32} {L : Nat → Nat → Int64} {o : Nat} (ok : vc_ok I L o) (h : I o 6 = 0) (b : Int32) : vc_T (jv_u I o 9 b) L o = vt_none b.toBitVec.toNat ∧ vc_ok (jv_u I o 9 b) L o := by
  constructor
  · unfold vc_T
    rw [jv_u_j _ _ _ _ (by decide), jv_u_j _ _ _ _ (by decide), jv_u_self, h]
    rfl
  · unfold vc_ok
    rw [jv_u_j _ _ _ _ (by decide), jv_u_j _ _ _ _ (by decide), jv_u_self]
    exact Or.inl ⟨h, vc_W_m ok (Or.inl h), vc_W_k ok (Or.inl h)⟩
theorem jv_i38 : jv_I 38 7 none 2 44 jv_c38 := ⟨rfl, rfl, rfl, rfl, rfl⟩
theorem vc_writeSlot {K : Nat → Option (Nat × Nat)} {I : Nat → Nat → Int32} {L : Nat → Nat → Int64} {R : Nat → Nat → Value} {y : Nat} (x : Int64) (zz : Nat) (hC : vc_C K R) (hy : K y = some (8, 10)) (oy : vc_ok I L y) (hz : zz = 1 ∨ zz = 2 ∨ zz = 4 ∨ zz = 8) (hx : -512 ≤ x.toInt ∧ x.toInt ≤ -1) (oa : vc_okA I L 12) {n sl : Nat} : ∃ I1 L1, jv_Ms 38 [.ref 10, .long x, .int (vl_I zz), .ref y] (jv_H K I L R) n sl (none, jv_H K I1 L1 R, n, sl) ∧ vc_A I1 L1 12 = vx_put (vc_A I L 12) x.toInt zz (vc_T I L y) ∧ vc_okA I1 L1 12 ∧ vc_fr (vc_in 12) I L I1 L1 ∧ ∀ f, I1 12 f = I 12 f := by
  obtain ⟨Q, hQ⟩ : ∃ Q : jv_R → Prop, Q = fun X => ∃ I1 L1, X = (none, jv_H K I1 L1 R, n, sl) ∧ vc_A I1 L1 12 = vx_put (vc_A I L 12) x.toInt zz (vc_T I L y) ∧ vc_okA I1 L1 12 ∧ vc_fr (vc_in 12) I L I1 L1 ∧ ∀ f, I1 12 f = I 12 f := ⟨_, rfl⟩
  suffices h : jv_Wp 38 0 [(0, .ref 10), (1, .long x), (3, .int (vl_I zz)), (4, .ref y)] [] (jv_H K I L R) n sl Q by
    rw [hQ] at h
    obtain ⟨X, h, I1, L1, e, h'⟩ := h
    subst e
    exact ⟨I1, L1, h, h'⟩
  have sl75 := vx_slot_75 hx
  have mlt : (zz = 1 ∨ zz = 2 ∨ zz = 4) → (2 ^ zz - 1) <<< vx_bit x.toInt < 4294967296 := fun z => by
    have b8 := vx_bit_8 x.toInt
    generalize vx_bit x.toInt = b at b8
    rcases z with z | z | z <;> subst z <;> (match b, b8 with | 0, _ | 1, _ | 2, _ | 3, _ | 4, _ | 5, _ | 6, _ | 7, _ => decide)
  refine jv_Wp.lift (fun _ Kz => jv_Ev.steps jv_i38 1 (pc' := 1) (l' := [(0, .ref 10), (1, .long x), (3, .int (vl_I zz)), (4, .ref y)]) (st' := [.ref 10]) rfl Kz) ?_
  refine jv_Wp.lift (fun _ Kz => jv_Ev.m jv_i38 (pc' := 4) (st' := [.ref 12]) (G' := (jv_H K I L R)) rfl rfl (jv_m_getR hC.k rfl rfl hC.rnow) Kz) ?_
  refine jv_Wp.lift (fun _ Kz => jv_Ev.steps jv_i38 1 (pc' := 5) (l' := [(0, .ref 10), (1, .long x), (3, .int (vl_I zz)), (4, .ref y)]) (st' := [.long x, .ref 12]) rfl Kz) ?_
  obtain ⟨I1, L1, H1, ei1, el1⟩ := vc_slotAt (I := I) (L := L) (R := R) (n := n) (sl := sl) x hC.now hx
  rw [ei1, el1] at H1
  refine jv_Wp.lift (fun _ Kz => jv_Ev.c jv_i38 (pc' := 8) (S' := [.ref (12 + 2 + vx_slot x.toInt)]) jv_i114 [.ref 12, .long x] rfl rfl rfl rfl (jv_cal rfl (jv_H_at hC.now.k) rfl rfl) rfl H1 rfl rfl Kz) ?_
  refine jv_Wp.lift (fun _ Kz => jv_Ev.steps jv_i38 3 (pc' := 13) (l' := [(5, .ref (12 + 2 + vx_slot x.toInt)), (0, .ref 10), (1, .long x), (3, .int (vl_I zz)), (4, .ref y)]) (st' := [.int (8 : Int32), .int (vl_I zz)]) rfl Kz) ?_
  refine jv_Wp.cnd jv_i38 (pt := 24) (pe := 16) (p := (¬ (vl_I zz) = (8 : Int32))) (q := (¬ (vl_I zz) = (8 : Int32))) rfl jv_bc_ne rfl rfl Iff.rfl (fun h1 => ?_) (fun h1 => ?_)
  · refine jv_Wp.lift (fun _ Kz => jv_Ev.steps jv_i38 1 (pc' := 26) (l' := [(5, .ref (12 + 2 + vx_slot x.toInt)), (0, .ref 10), (1, .long x), (3, .int (vl_I zz)), (4, .ref y)]) (st' := [.ref (12 + 2 + vx_slot x.toInt)]) rfl Kz) ?_
    refine jv_Wp.lift (fun _ Kz => jv_Ev.c jv_i38 (pc' := 29) (S' := [.int (vc_nb (I (12 + 2 + vx_slot x.toInt) 6) (I (12 + 2 + vx_slot x.toInt) 9))]) jv_i146 [.ref (12 + 2 + vx_slot x.toInt)] rfl rfl rfl rfl (jv_cal rfl (jv_H_at (hC.now.kk _ sl75)) rfl rfl) rfl (vc_numb (hC.now.kk _ sl75)) rfl rfl Kz) ?_
    refine jv_Wp.lift (fun _ Kz => jv_Ev.steps jv_i38 13 (pc' := 45) (l' := [(6, .int ((vc_nb (I (12 + 2 + vx_slot x.toInt) 6) (I (12 + 2 + vx_slot x.toInt) 9)) ||| ((((1 : Int32) <<< ((vl_I zz) &&& 31)) - (1 : Int32)) <<< ((x.toInt32 &&& (7 : Int32)) &&& 31)))), (5, .ref (12 + 2 + vx_slot x.toInt)), (0, .ref 10), (1, .long x), (3, .int (vl_I zz)), (4, .ref y)]) (st' := [.ref (12 + 2 + vx_slot x.toInt)]) rfl Kz) ?_
    have f1 : ¬ zz = 8 := fun z => h1 (by rw [z]; rfl)
    obtain ⟨I2, L2, H2, T2, O2, F2⟩ := vc_none (I := I) (L := L) (R := R) (n := n) (sl := sl) (hC.now.kk _ sl75)
    refine jv_Wp.lift (fun _ Kz => jv_Ev.c jv_i38 (pc' := 48) (S' := []) (G1 := (jv_H K I2 L2 R)) jv_i141 [.ref (12 + 2 + vx_slot x.toInt)] rfl rfl rfl rfl (jv_cal rfl (jv_H_at (hC.now.kk _ sl75)) rfl rfl) rfl H2 rfl rfl Kz) ?_
    refine jv_Wp.lift (fun _ Kz => jv_Ev.steps jv_i38 2 (pc' := 52) (l' := [(6, .int ((vc_nb (I (12 + 2 + vx_slot x.toInt) 6) (I (12 + 2 + vx_slot x.toInt) 9)) ||| ((((1 : Int32) <<< ((vl_I zz) &&& 31)) - (1 : Int32)) <<< ((x.toInt32 &&& (7 : Int32)) &&& 31)))), (5, .ref (12 + 2 + vx_slot x.toInt)), (0, .ref 10), (1, .long x), (3, .int (vl_I zz)), (4, .ref y)]) (st' := [.int ((vc_nb (I (12 + 2 + vx_slot x.toInt) 6) (I (12 + 2 + vx_slot x.toInt) 9)) ||| ((((1 : Int32) <<< ((vl_I zz) &&& 31)) - (1 : Int32)) <<< ((x.toInt32 &&& (7 : Int32)) &&& 31))), .ref (12 + 2 + vx_slot x.toInt)]) rfl Kz) ?_
    refine jv_Wp.lift (fun _ Kz => jv_Ev.m jv_i38 (pc' := 55) (st' := []) (G' := (jv_H K (jv_u I2 (12 + 2 + vx_slot x.toInt) 9 ((vc_nb (I (12 + 2 + vx_slot x.toInt) 6) (I (12 + 2 + vx_slot x.toInt) 9)) ||| ((((1 : Int32) <<< ((vl_I zz) &&& 31)) - (1 : Int32)) <<< ((x.toInt32 &&& (7 : Int32)) &&& 31)))) L2 R)) rfl rfl (jv_m_putI (hC.now.kk _ sl75) rfl rfl rfl rfl) Kz) ?_
    refine jv_Wp.of (jv_Ev.ret jv_i38 rfl rfl) ?_
    rw [hQ]
    have z8 : ¬ zz = 8 := fun z => h1 (by rw [z]; rfl)
    have i0 : I2 (12 + 2 + vx_slot x.toInt) 6 = 0 := (vc_is0 O2).mp (by rw [T2]; rfl)
    have w := vc_none_9 O2 i0 ((vc_nb (I (12 + 2 + vx_slot x.toInt) 6) (I (12 + 2 + vx_slot x.toInt) 9)) ||| ((((1 : Int32) <<< ((vl_I zz) &&& 31)) - (1 : Int32)) <<< ((x.toInt32 &&& (7 : Int32)) &&& 31)))
    have FF : vc_fr (fun p => p = (12 + 2 + vx_slot x.toInt)) I L (jv_u I2 (12 + 2 + vx_slot x.toInt) 9 ((vc_nb (I (12 + 2 + vx_slot x.toInt) 6) (I (12 + 2 + vx_slot x.toInt) 9)) ||| ((((1 : Int32) <<< ((vl_I zz) &&& 31)) - (1 : Int32)) <<< ((x.toInt32 &&& (7 : Int32)) &&& 31)))) L2 := fun p hp => ⟨fun f => (jv_u_o _ _ _ _ hp).trans ((F2 p hp).1 f), (F2 p hp).2⟩
    have U := vc_up sl75 w.1 w.2 FF (fun n hn e q => e (by omega)) (by omega) oa
    refine ⟨_, _, rfl, ?_, U.2, vc_fr_mono FF (fun p z => by rw [z]; exact ⟨by omega, by omega⟩), fun f => (FF 12 (by omega)).1 f⟩
    rw [U.1]
    unfold vx_put
    rw [if_neg z8, vi_mask hx (by omega), vi_or _ (mlt (by omega)), vc_A1 sl75, show vt_wr (vc_T I L (12 + 2 + vx_slot x.toInt)) = _ from vc_D_wr (oa _ sl75)]
  · refine jv_Wp.lift (fun _ Kz => jv_Ev.steps jv_i38 2 (pc' := 20) (l' := [(5, .ref (12 + 2 + vx_slot x.toInt)), (0, .ref 10), (1, .long x), (3, .int (vl_I zz)), (4, .ref y)]) (st' := [.ref y, .ref (12 + 2 + vx_slot x.toInt)]) rfl Kz) ?_
    obtain ⟨I3, L3, H3, T3, O3, F3⟩ := vc_becT (I := I) (L := L) (R := R) (n := n) (sl := sl) (hC.now.kk _ sl75) hy oy
    refine jv_Wp.lift (fun _ Kz => jv_Ev.c jv_i38 (pc' := 23) (S' := []) (G1 := (jv_H K I3 L3 R)) jv_i144 [.ref (12 + 2 + vx_slot x.toInt), .ref y] rfl rfl rfl rfl (jv_cal rfl (jv_H_at (hC.now.kk _ sl75)) rfl rfl) rfl H3 rfl rfl Kz) ?_
    refine jv_Wp.of (jv_Ev.ret jv_i38 rfl rfl) ?_
    rw [hQ]
    have z8 : zz = 8 := (vl_I_inj (by omega) (by decide)).mp (Classical.not_not.mp h1)
    have FF : vc_fr (fun p => p = (12 + 2 + vx_slot x.toInt)) I L I3 L3 := F3
    have U := vc_up sl75 T3 O3 FF (fun n hn e q => e (by omega)) (by omega) oa
    refine ⟨_, _, rfl, ?_, U.2, vc_fr_mono FF (fun p z => by rw [z]; exact ⟨by omega, by omega⟩), fun f => (FF 12 (by omega)).1 f⟩
    rw [U.1]
    unfold vx_put
    rw [if_pos z8]
theorem jv_i40 : jv_I 40 4 (some .int) 0 0 jv_c40 := ⟨rfl, rfl, rfl, rfl, rfl⟩
theorem vc_numberIn {K : Nat → Option (Nat × Nat)} {I : Nat → Nat → Int32} {L : Nat → Nat → Int64} {R : Nat → Nat → Value} (r other : Nat) (hC : vc_C K R) (hr : r < 75) (oa : vc_okA I L 12) {n sl : Nat} : ∃ I1 L1, jv_Ms 40 [.ref 10, .int (vl_I r), .int (vl_I other)] (jv_H K I L R) n sl (some (.int (vl_I (vx_isnum (vc_A I L 12) r other))), jv_H K I1 L1 R, n, sl) ∧ I1 = I ∧ L1 = L := by
  obtain ⟨Q, hQ⟩ : ∃ Q : jv_R → Prop, Q = fun X => ∃ I1 L1, X = (some (.int (vl_I (vx_isnum (vc_A I L 12) r other))), jv_H K I1 L1 R, n, sl) ∧ I1 = I ∧ L1 = L := ⟨_, rfl⟩
  suffices h : jv_Wp 40 0 [(0, .ref 10), (1, .int (vl_I r)), (2, .int (vl_I other))] [] (jv_H K I L R) n sl Q by
    rw [hQ] at h
    obtain ⟨X, h, I1, L1, e, h'⟩ := h
    subst e
    exact ⟨I1, L1, h, h'⟩
  refine jv_Wp.lift (fun _ Kz => jv_Ev.steps jv_i40 1 (pc' := 1) (l' := [(0, .ref 10), (1, .int (vl_I r)), (2, .int (vl_I other))]) (st' := [.ref 10]) rfl Kz) ?_
  refine jv_Wp.lift (fun _ Kz => jv_Ev.m jv_i40 (pc' := 4) (st' := [.ref 12]) (G' := (jv_H K I L R)) rfl rfl (jv_m_getR hC.k rfl rfl hC.rnow) Kz) ?_
  refine jv_Wp.lift (fun _ Kz => jv_Ev.m jv_i40 (pc' := 7) (st' := [.ref (12 + 1)]) (G' := (jv_H K I L R)) rfl rfl (jv_m_getR hC.now.k rfl rfl hC.now.r) Kz) ?_
  refine jv_Wp.lift (fun _ Kz => jv_Ev.steps jv_i40 1 (pc' := 8) (l' := [(0, .ref 10), (1, .int (vl_I r)), (2, .int (vl_I other))]) (st' := [.int (vl_I r), .ref (12 + 1)]) rfl Kz) ?_
  refine jv_Wp.lift (fun _ Kz => jv_Ev.m jv_i40 (pc' := 9) (st' := [.ref (12 + 2 + r)]) (G' := (jv_H K I L R)) rfl rfl (jv_m_aaldR hC.now.kt rfl (vl_I_ix hr (by decide)) rfl (vc_St_rt hC.now hr)) Kz) ?_
  refine jv_Wp.lift (fun _ Kz => jv_Ev.m jv_i40 (pc' := 12) (st' := [.int (I (12 + 2 + r) 6)]) (G' := (jv_H K I L R)) rfl rfl (jv_m_getI (hC.now.kk _ hr) rfl rfl rfl) Kz) ?_
  refine jv_Wp.lift (fun _ Kz => jv_Ev.steps jv_i40 3 (pc' := 15) (l' := [(3, .int (I (12 + 2 + r) 6)), (0, .ref 10), (1, .int (vl_I r)), (2, .int (vl_I other))]) (st' := [.int (1 : Int32), .int (I (12 + 2 + r) 6)]) rfl Kz) ?_
  refine jv_Wp.cnd jv_i40 (pt := 22) (pe := 18) (p := (¬ (I (12 + 2 + r) 6) = (1 : Int32))) (q := (¬ (I (12 + 2 + r) 6) = (1 : Int32))) rfl jv_bc_ne rfl rfl Iff.rfl (fun h1 => ?_) (fun h1 => ?_)
  · refine jv_Wp.lift (fun _ Kz => jv_Ev.steps jv_i40 1 (pc' := 23) (l' := [(3, .int (I (12 + 2 + r) 6)), (0, .ref 10), (1, .int (vl_I r)), (2, .int (vl_I other))]) (st' := [.int (I (12 + 2 + r) 6)]) rfl Kz) ?_
    refine jv_Wp.cnd jv_i40 (pt := 30) (pe := 26) (p := (¬ (I (12 + 2 + r) 6) = 0)) (q := (¬ (I (12 + 2 + r) 6) = 0)) rfl jv_bi_ne rfl rfl Iff.rfl (fun h2 => ?_) (fun h2 => ?_)
    · refine jv_Wp.lift (fun _ Kz => jv_Ev.steps jv_i40 1 (pc' := 31) (l' := [(3, .int (I (12 + 2 + r) 6)), (0, .ref 10), (1, .int (vl_I r)), (2, .int (vl_I other))]) (st' := [.int (vl_I other)]) rfl Kz) ?_
      refine jv_Wp.of (jv_Ev.ret jv_i40 rfl rfl) ?_
      rw [hQ]
      have e : vx_isnum (vc_A I L 12) r other = other := by unfold vx_isnum; rw [vc_A1 hr]; exact (if_neg (fun z => h1 ((vc_is1 (oa _ hr)).mp z))).trans (if_neg (fun z => h2 ((vc_is0 (oa _ hr)).mp z)))
      rw [e]
      exact ⟨_, _, rfl, rfl, rfl⟩
    · refine jv_Wp.lift (fun _ Kz => jv_Ev.steps jv_i40 2 (pc' := 31) (l' := [(3, .int (I (12 + 2 + r) 6)), (0, .ref 10), (1, .int (vl_I r)), (2, .int (vl_I other))]) (st' := [.int (1 : Int32)]) rfl Kz) ?_
      refine jv_Wp.of (jv_Ev.ret jv_i40 rfl rfl) ?_
      rw [hQ]
      have e : vx_isnum (vc_A I L 12) r other = 1 := by unfold vx_isnum; rw [vc_A1 hr]; exact (if_neg (fun z => h1 ((vc_is1 (oa _ hr)).mp z))).trans (if_pos ((vc_is0 (oa _ hr)).mpr (Classical.not_not.mp h2)))
      rw [e]
      exact ⟨_, _, rfl, rfl, rfl⟩
  · refine jv_Wp.lift (fun _ Kz => jv_Ev.steps jv_i40 2 (pc' := 31) (l' := [(3, .int (I (12 + 2 + r) 6)), (0, .ref 10), (1, .int (vl_I r)), (2, .int (vl_I other))]) (st' := [.int (0 : Int32)]) rfl Kz) ?_
    refine jv_Wp.of (jv_Ev.ret jv_i40 rfl rfl) ?_
    rw [hQ]
    have e : vx_isnum (vc_A I L 12) r other = 0 := by unfold vx_isnum; rw [vc_A1 hr]; exact if_pos ((vc_is1 (oa _ hr)).mpr (Classical.not_not.mp h1))
    rw [e]
    exact ⟨_, _, rfl, rfl, rfl⟩