/-! part c18: maps, bytes that have numbers, of the reference (gen/tc18.py) -/
/-- the maps, as the reference's checker has them: kind + 1 (0: none), size of a key, of a value -/
def vr_kd (M : vf_M) (k : Nat) : Nat := match M k with
  | some e => e.1 + 1
  | none => 0
def vr_M (I : Nat → Nat → Int32) (M : vf_M) : Prop := ∀ k, k < 8 → I 199 k = vl_I (vr_kd M k) ∧ I 200 k = vl_I (M.key k) ∧ I 201 k = vl_I (M.value k) ∧ vr_kd M k < 4 ∧ M.key k ≤ 256 ∧ M.value k ≤ 256
theorem vr_M_fr {P : Nat → Prop} {E : Nat → Nat → Prop} {I I1 : Nat → Nat → Int32} {L L1 : Nat → Nat → Int64} {M : vf_M} (h : vr_fr P E I L I1 L1) (hE : ∀ q f, 199 ≤ q → q ≤ 201 → ¬ E q f) (m : vr_M I M) : vr_M I1 M := fun k hk => by
  have c : ∀ q, 199 ≤ q → q ≤ 201 → I1 q k = I q k := fun q a b => h.2.1 q k (fun z => by omega) (by omega) (fun z => hE q k a b z.2)
  rw [c 199 (by decide) (by decide), c 200 (by decide) (by decide), c 201 (by decide) (by decide)]
  exact m k hk
def vr_im (M : vf_M) (t : vt_T) (one other : Nat) : Nat := if t.sort = 0 then 1 else if t.sort = 6 ∧ (vr_kd M t.det.toNat = one ∨ vr_kd M t.det.toNat = other) then 0 else 8
theorem vr_im_map (M : vf_M) (A : vt_A) (g : (A.1 1).sort = 6 → vr_kd M (A.1 1).det.toNat < 4) : vx_ismap M A 1 = vr_im M (A.1 1) 1 2 ∧ vx_ismap M A 2 = vr_im M (A.1 1) 1 2 ∧ vx_ismap M A 3 = vr_im M (A.1 1) 2 2 ∧ vx_ismap M A 4 = vr_im M (A.1 1) 3 3 := by
  by_cases s0 : (A.1 1).sort = 0
  · unfold vr_im; rw [if_pos s0, if_pos s0, if_pos s0]; exact ⟨vx_im1 s0, vx_im1 s0, vx_im1 s0, vx_im1 s0⟩
  by_cases s6 : (A.1 1).sort = 6
  · unfold vr_im; rw [if_neg s0, if_neg s0, if_neg s0]
    cases hM : M (A.1 1).det.toNat with
    | none =>
      have e : vr_kd M (A.1 1).det.toNat = 0 := by unfold vr_kd; rw [hM]
      rw [e, if_neg (by omega), if_neg (by omega), if_neg (by omega)]
      exact ⟨vx_imN s6 hM, vx_imN s6 hM, vx_imN s6 hM, vx_imN s6 hM⟩
    | some e =>
      have q : vr_kd M (A.1 1).det.toNat = e.1 + 1 := by unfold vr_kd; rw [hM]
      have g4 := g s6
      rw [q] at g4 ⊢
      refine ⟨(vx_imF s6 hM).trans ?_, (vx_imF s6 hM).trans ?_, (vx_imF s6 hM).trans ?_, (vx_imF s6 hM).trans ?_⟩
      · by_cases c : e.1 = 2
        · exact (if_neg (show ¬ (e.1 ≠ 2) from fun z => z c)).trans (if_neg (by omega)).symm
        · exact (if_pos (show e.1 ≠ 2 from c)).trans (if_pos ⟨s6, by omega⟩).symm
      · by_cases c : e.1 = 2
        · exact (if_neg (show ¬ (e.1 ≠ 2) from fun z => z c)).trans (if_neg (by omega)).symm
        · exact (if_pos (show e.1 ≠ 2 from c)).trans (if_pos ⟨s6, by omega⟩).symm
      · by_cases c : e.1 = 1
        · exact (if_pos (show e.1 = 1 from c)).trans (if_pos ⟨s6, by omega⟩).symm
        · exact (if_neg (show ¬ e.1 = 1 from c)).trans (if_neg (by omega)).symm
      · by_cases c : e.1 = 2
        · exact (if_pos (show e.1 = 2 from c)).trans (if_pos ⟨s6, by omega⟩).symm
        · exact (if_neg (show ¬ e.1 = 2 from c)).trans (if_neg (by omega)).symm
  · unfold vr_im; rw [if_neg s0, if_neg s0, if_neg s0, if_neg (fun z => s6 z.1), if_neg (fun z => s6 z.1), if_neg (fun z => s6 z.1)]
    exact ⟨vx_im8 s0 s6, vx_im8 s0 s6, vx_im8 s0 s6, vx_im8 s0 s6⟩
def vr_wx (I : Nat → Nat → Int32) (x : Nat) : Int32 := if I 205 x = 9 then I 206 x else if I 205 x = 1 then 255 else 0
def vr_wj (l g a b c : Int64) : Bool := decide (-a ≤ l ∧ g ≤ (c - b) - a)
theorem vr_wj_wi {L : Nat → Nat → Int64} {x : Nat} {a b c : Int64} (ha : -1099511627776 ≤ a.toInt ∧ a.toInt ≤ 1099511627776) (hb : -1099511627776 ≤ b.toInt ∧ b.toInt ≤ 1099511627776) (hc : -1099511627776 ≤ c.toInt ∧ c.toInt ≤ 1099511627776) : vr_wj (L 213 x) (L 214 x) a b c = vr_wi (vb_toS (vr_S L x)) a.toInt b.toInt c.toInt := by
  unfold vr_wj vr_wi
  rw [decide_eq_decide, Int64.le_iff_toInt_le, Int64.le_iff_toInt_le, vi_neg ha, vi_sub2 ha hb hc]
  show _ ↔ 0 ≤ (L 213 x).toInt + a.toInt ∧ (L 214 x).toInt + a.toInt + b.toInt ≤ c.toInt
  omega
theorem vi_islotx {a : Int64} (h : -512 ≤ a.toInt ∧ a.toInt < 1073741824) : (11 : Int32) + ((a + (512 : Int64)) / (8 : Int64)).toInt32 = vl_I (vx_slot a.toInt) := by
  have e1 : (a + (512 : Int64)).toInt = a.toInt + 512 := by rw [Int64.toInt_add]; exact vi_bm (by show -9223372036854775808 ≤ a.toInt + 512; omega) (by show a.toInt + 512 < 9223372036854775808; omega)
  have e2 : ((a + (512 : Int64)) / (8 : Int64)).toInt = (a.toInt + 512) / 8 := by
    rw [Int64.toInt_div, e1, show (8 : Int64).toInt = 8 from rfl, Int.tdiv_eq_ediv_of_nonneg (by omega)]; exact vi_bm (by omega) (by omega)
  refine Int32.toInt_inj.mp ?_
  have q : (vl_I (vx_slot a.toInt)).toInt = (vx_slot a.toInt : Int) := vl_I_int (by unfold vx_slot; omega)
  rw [q, Int32.toInt_add, Int64.toInt_toInt32, e2, show (11 : Int32).toInt = 11 from rfl, vi_bm32 (x := (a.toInt + 512) / 8) (by omega) (by omega), vi_bm32 (by omega) (by omega)]
  unfold vx_slot; omega
set_option maxRecDepth 100000 in
theorem vi_mod8 : ∀ c : Fin 1024, vl_I c.val - vl_I c.val / (8 : Int32) * (8 : Int32) = vl_I (c.val % 8) := by decide +kernel
set_option maxRecDepth 100000 in
theorem vi_btest : ∀ b : Fin 256, ∀ t : Fin 8, (((vl_I b.val >>> (vl_I t.val &&& 31)) &&& (1 : Int32)) = (1 : Int32)) ↔ b.val.testBit t.val = true := by decide +kernel
theorem vi_zshr : ∀ t : Fin 8, ((0 : Int32) >>> (vl_I t.val &&& 31)) &&& (1 : Int32) = 0 := by decide
theorem vi_bit8 {k : Int64} (h : -512 ≤ k.toInt ∧ k.toInt ≤ 80) : (k + (512 : Int64)).toInt32 - (k + (512 : Int64)).toInt32 / (8 : Int32) * (8 : Int32) = vl_I (vx_bit k.toInt) := by
  have e1 : (k + (512 : Int64)).toInt = k.toInt + 512 := by rw [Int64.toInt_add]; exact vi_bm (by show -9223372036854775808 ≤ k.toInt + 512; omega) (by show k.toInt + 512 < 9223372036854775808; omega)
  have e2 : (k + (512 : Int64)).toInt32 = vl_I (k.toInt + 512).toNat := by
    refine Int32.toInt_inj.mp ?_
    have q : (vl_I (k.toInt + 512).toNat).toInt = ((k.toInt + 512).toNat : Int) := vl_I_int (by omega)
    rw [q, Int64.toInt_toInt32, e1, vi_bm32 (by omega) (by omega)]; omega
  rw [e2, vi_mod8 ⟨(k.toInt + 512).toNat, by omega⟩]
  refine congrArg vl_I ?_
  unfold vx_bit
  show (k.toInt + 512).toNat % 8 = _
  omega
theorem vr_wx_T {I : Nat → Nat → Int32} {L : Nat → Nat → Int64} {x n : Nat} (ok : vr_ok I x n) : vr_wx I x = vl_I (vt_wr (vr_T I L x)) ∧ vt_wr (vr_T I L x) < 256 := vr_wr ok
theorem jv_i297 : jv_I 297 5 (some .int) 2 42 jv_c297 := ⟨rfl, rfl, rfl, rfl, rfl⟩
theorem vq_isMap_ {K : Nat → Option (Nat × Nat)} {I : Nat → Nat → Int32} {L : Nat → Nat → Int64} {R : Nat → Nat → Value} (M : vf_M) (k one oth kd : Nat) (hW : jv_rW K R) (hM : vr_M I M) (hk : k < 11) (g1 : one < 4) (g2 : oth < 4) (ok : vr_ok I (76800 + k) k) (k8 : kd < 8) (hkd : I 205 (76800 + k) = 6 → I 206 (76800 + k) = vl_I kd) {n sl : Nat} : ∃ I1 L1, jv_Ms 297 [.ref 196, .int (vl_I k), .int (vl_I one), .int (vl_I oth)] (jv_H K I L R) n sl (some (.int (vl_I (vr_im M (vr_T I L (76800 + k)) one oth))), jv_H K I1 L1 R, n, sl) ∧ I1 = I ∧ L1 = L := by
  obtain ⟨Q, hQ⟩ : ∃ Q : jv_R → Prop, Q = fun X => ∃ I1 L1, X = (some (.int (vl_I (vr_im M (vr_T I L (76800 + k)) one oth))), jv_H K I1 L1 R, n, sl) ∧ I1 = I ∧ L1 = L := ⟨_, rfl⟩
  have g3 := (hM kd k8).2.2.2.1
  suffices h : jv_Wp 297 0 [(0, .ref 196), (1, .int (vl_I k)), (2, .int (vl_I one)), (3, .int (vl_I oth))] [] (jv_H K I L R) n sl Q by
    rw [hQ] at h
    obtain ⟨X, h, I1, L1, e, h'⟩ := h
    subst e
    exact ⟨I1, L1, h, h'⟩
  refine jv_Wp.lift (fun _ Kz => jv_Ev.steps jv_i297 1 (pc' := 1) (l' := [(0, .ref 196), (1, .int (vl_I k)), (2, .int (vl_I one)), (3, .int (vl_I oth))]) (st' := [.ref 196]) rfl Kz) ?_
  refine jv_Wp.lift (fun _ Kz => jv_Ev.m jv_i297 (pc' := 4) (st' := [.ref 199]) (G' := (jv_H K I L R)) rfl rfl (jv_m_getR (jv_rwK hW 196 12 24 (by decide)) rfl rfl (jv_rwR hW 196 7 199 (by decide))) Kz) ?_
  refine jv_Wp.lift (fun _ Kz => jv_Ev.steps jv_i297 2 (pc' := 6) (l' := [(0, .ref 196), (1, .int (vl_I k)), (2, .int (vl_I one)), (3, .int (vl_I oth))]) (st' := [.int (vl_I k), .ref 196, .ref 199]) rfl Kz) ?_
  refine jv_Wp.lift (fun _ Kz => jv_Ev.c jv_i297 (pc' := 9) (S' := [.int (I 205 (76800 + k)), .ref 199]) jv_i271 [.ref 196, .int (vl_I k)] rfl rfl rfl rfl (jv_cal rfl (jv_H_at (jv_rwK hW 196 12 24 (by decide))) rfl rfl) rfl (vq_sortOf k hW (by omega)) rfl rfl Kz) ?_
  refine jv_Wp.lift (fun _ Kz => jv_Ev.steps jv_i297 1 (pc' := 11) (l' := [(0, .ref 196), (1, .int (vl_I k)), (2, .int (vl_I one)), (3, .int (vl_I oth))]) (st' := [.int (6 : Int32), .int (I 205 (76800 + k)), .ref 199]) rfl Kz) ?_
  refine jv_Wp.cnd jv_i297 (pt := 29) (pe := 14) (p := (¬ (I 205 (76800 + k)) = (6 : Int32))) (q := (¬ (I 205 (76800 + k)) = (6 : Int32))) rfl jv_bc_ne rfl rfl Iff.rfl (fun h1 => ?_) (fun h1 => ?_)
  · refine jv_Wp.lift (fun _ Kz => jv_Ev.steps jv_i297 1 (pc' := 30) (l' := [(0, .ref 196), (1, .int (vl_I k)), (2, .int (vl_I one)), (3, .int (vl_I oth))]) (st' := [.int (0 : Int32), .ref 199]) rfl Kz) ?_
    refine jv_Wp.lift (fun _ Kz => jv_Ev.m jv_i297 (pc' := 31) (st' := [.int (I 199 0)]) (G' := (jv_H K I L R)) rfl rfl (jv_m_ialdv (jv_rwK hW 199 102 8 (by decide)) rfl (by decide) rfl rfl) Kz) ?_
    refine jv_Wp.lift (fun _ Kz => jv_Ev.steps jv_i297 3 (pc' := 35) (l' := [(4, .int (I 199 0)), (0, .ref 196), (1, .int (vl_I k)), (2, .int (vl_I one)), (3, .int (vl_I oth))]) (st' := [.int (vl_I k), .ref 196]) rfl Kz) ?_
    refine jv_Wp.lift (fun _ Kz => jv_Ev.c jv_i297 (pc' := 38) (S' := [.int (I 205 (76800 + k))]) jv_i271 [.ref 196, .int (vl_I k)] rfl rfl rfl rfl (jv_cal rfl (jv_H_at (jv_rwK hW 196 12 24 (by decide))) rfl rfl) rfl (vq_sortOf k hW (by omega)) rfl rfl Kz) ?_
    refine jv_Wp.cnd jv_i297 (pt := 45) (pe := 41) (p := (¬ (I 205 (76800 + k)) = 0)) (q := (¬ (I 205 (76800 + k)) = 0)) rfl jv_bi_ne rfl rfl Iff.rfl (fun h2 => ?_) (fun h2 => ?_)
    · refine jv_Wp.lift (fun _ Kz => jv_Ev.steps jv_i297 2 (pc' := 47) (l' := [(4, .int (I 199 0)), (0, .ref 196), (1, .int (vl_I k)), (2, .int (vl_I one)), (3, .int (vl_I oth))]) (st' := [.int (vl_I k), .ref 196]) rfl Kz) ?_
      refine jv_Wp.lift (fun _ Kz => jv_Ev.c jv_i297 (pc' := 50) (S' := [.int (I 205 (76800 + k))]) jv_i271 [.ref 196, .int (vl_I k)] rfl rfl rfl rfl (jv_cal rfl (jv_H_at (jv_rwK hW 196 12 24 (by decide))) rfl rfl) rfl (vq_sortOf k hW (by omega)) rfl rfl Kz) ?_
      refine jv_Wp.lift (fun _ Kz => jv_Ev.steps jv_i297 1 (pc' := 52) (l' := [(4, .int (I 199 0)), (0, .ref 196), (1, .int (vl_I k)), (2, .int (vl_I one)), (3, .int (vl_I oth))]) (st' := [.int (6 : Int32), .int (I 205 (76800 + k))]) rfl Kz) ?_
      refine jv_Wp.cnd jv_i297 (pt := 71) (pe := 55) (p := (¬ (I 205 (76800 + k)) = (6 : Int32))) (q := (¬ (I 205 (76800 + k)) = (6 : Int32))) rfl jv_bc_ne rfl rfl Iff.rfl (fun _ => ?_) (fun hz => absurd h1 hz)
      refine jv_Wp.lift (fun _ Kz => jv_Ev.steps jv_i297 1 (pc' := 73) (l' := [(4, .int (I 199 0)), (0, .ref 196), (1, .int (vl_I k)), (2, .int (vl_I one)), (3, .int (vl_I oth))]) (st' := [.int (8 : Int32)]) rfl Kz) ?_
      refine jv_Wp.of (jv_Ev.ret jv_i297 rfl rfl) ?_
      rw [hQ]
      have ev : (8 : Int32) = (vl_I (vr_im M (vr_T I L (76800 + k)) one oth)) := by unfold vr_im; have z0 : ¬ (vr_T I L (76800 + k)).sort = 0 := fun z => h2 ((vr_isN ok hk).mp z); rw [if_neg z0]; rw [if_neg (fun z => h1 ((vr_is 6 (by decide) ok).mp z.1))]; rfl
      exact ⟨_, _, by rw [ev], rfl, rfl⟩
    · refine jv_Wp.lift (fun _ Kz => jv_Ev.steps jv_i297 2 (pc' := 73) (l' := [(4, .int (I 199 0)), (0, .ref 196), (1, .int (vl_I k)), (2, .int (vl_I one)), (3, .int (vl_I oth))]) (st' := [.int (1 : Int32)]) rfl Kz) ?_
      refine jv_Wp.of (jv_Ev.ret jv_i297 rfl rfl) ?_
      rw [hQ]
      have ev : (1 : Int32) = (vl_I (vr_im M (vr_T I L (76800 + k)) one oth)) := by unfold vr_im; rw [if_pos ((vr_isN ok hk).mpr (Classical.not_not.mp h2))]; rfl
      exact ⟨_, _, by rw [ev], rfl, rfl⟩
  · refine jv_Wp.lift (fun _ Kz => jv_Ev.steps jv_i297 1 (pc' := 15) (l' := [(0, .ref 196), (1, .int (vl_I k)), (2, .int (vl_I one)), (3, .int (vl_I oth))]) (st' := [.ref 196, .ref 199]) rfl Kz) ?_
    refine jv_Wp.lift (fun _ Kz => jv_Ev.m jv_i297 (pc' := 18) (st' := [.ref 206, .ref 199]) (G' := (jv_H K I L R)) rfl rfl (jv_m_getR (jv_rwK hW 196 12 24 (by decide)) rfl rfl (jv_rwR hW 196 14 206 (by decide))) Kz) ?_
    refine jv_Wp.lift (fun _ Kz => jv_Ev.steps jv_i297 2 (pc' := 22) (l' := [(0, .ref 196), (1, .int (vl_I k)), (2, .int (vl_I one)), (3, .int (vl_I oth))]) (st' := [.int (vl_I k), .int (1024 : Int32), .ref 206, .ref 199]) rfl Kz) ?_
    refine jv_Wp.lift (fun _ Kz => jv_Ev.c jv_i297 (pc' := 25) (S' := [.int (vl_I (76800 + k)), .ref 206, .ref 199]) jv_i253 [.int (1024 : Int32), .int (vl_I k)] rfl rfl rfl rfl rfl rfl (vq_thing 1024 k) rfl rfl Kz) ?_
    refine jv_Wp.lift (fun _ Kz => jv_Ev.m jv_i297 (pc' := 26) (st' := [.int (vl_I kd), .ref 199]) (G' := (jv_H K I L R)) rfl rfl (jv_m_ialdv (jv_rwK hW 206 102 77100 (by decide)) rfl (vl_I_ix (by omega) (by decide)) rfl ((congrArg (I 206) (vl_I_nat (by omega))).trans (hkd (Classical.not_not.mp h1)))) Kz) ?_
    refine jv_Wp.lift (fun _ Kz => jv_Ev.steps jv_i297 1 (pc' := 30) (l' := [(0, .ref 196), (1, .int (vl_I k)), (2, .int (vl_I one)), (3, .int (vl_I oth))]) (st' := [.int (vl_I kd), .ref 199]) rfl Kz) ?_
    refine jv_Wp.lift (fun _ Kz => jv_Ev.m jv_i297 (pc' := 31) (st' := [.int (vl_I (vr_kd M kd))]) (G' := (jv_H K I L R)) rfl rfl (jv_m_ialdv (jv_rwK hW 199 102 8 (by decide)) rfl (vl_I_ix (by omega) (by decide)) rfl ((congrArg (I 199) (vl_I_nat (by omega))).trans (hM kd k8).1)) Kz) ?_
    refine jv_Wp.lift (fun _ Kz => jv_Ev.steps jv_i297 3 (pc' := 35) (l' := [(4, .int (vl_I (vr_kd M kd))), (0, .ref 196), (1, .int (vl_I k)), (2, .int (vl_I one)), (3, .int (vl_I oth))]) (st' := [.int (vl_I k), .ref 196]) rfl Kz) ?_
    refine jv_Wp.lift (fun _ Kz => jv_Ev.c jv_i297 (pc' := 38) (S' := [.int (I 205 (76800 + k))]) jv_i271 [.ref 196, .int (vl_I k)] rfl rfl rfl rfl (jv_cal rfl (jv_H_at (jv_rwK hW 196 12 24 (by decide))) rfl rfl) rfl (vq_sortOf k hW (by omega)) rfl rfl Kz) ?_
    refine jv_Wp.cnd jv_i297 (pt := 45) (pe := 41) (p := (¬ (I 205 (76800 + k)) = 0)) (q := (¬ (I 205 (76800 + k)) = 0)) rfl jv_bi_ne rfl rfl Iff.rfl (fun _ => ?_) (fun hz => absurd (fun z => absurd (z.symm.trans (Classical.not_not.mp h1)) (by decide)) hz)
    refine jv_Wp.lift (fun _ Kz => jv_Ev.steps jv_i297 2 (pc' := 47) (l' := [(4, .int (vl_I (vr_kd M kd))), (0, .ref 196), (1, .int (vl_I k)), (2, .int (vl_I one)), (3, .int (vl_I oth))]) (st' := [.int (vl_I k), .ref 196]) rfl Kz) ?_
    refine jv_Wp.lift (fun _ Kz => jv_Ev.c jv_i297 (pc' := 50) (S' := [.int (I 205 (76800 + k))]) jv_i271 [.ref 196, .int (vl_I k)] rfl rfl rfl rfl (jv_cal rfl (jv_H_at (jv_rwK hW 196 12 24 (by decide))) rfl rfl) rfl (vq_sortOf k hW (by omega)) rfl rfl Kz) ?_
    refine jv_Wp.lift (fun _ Kz => jv_Ev.steps jv_i297 1 (pc' := 52) (l' := [(4, .int (vl_I (vr_kd M kd))), (0, .ref 196), (1, .int (vl_I k)), (2, .int (vl_I one)), (3, .int (vl_I oth))]) (st' := [.int (6 : Int32), .int (I 205 (76800 + k))]) rfl Kz) ?_
    refine jv_Wp.cnd jv_i297 (pt := 71) (pe := 55) (p := (¬ (I 205 (76800 + k)) = (6 : Int32))) (q := (¬ (I 205 (76800 + k)) = (6 : Int32))) rfl jv_bc_ne rfl rfl Iff.rfl (fun hz => absurd hz (fun z => z (Classical.not_not.mp h1))) (fun _ => ?_)
    refine jv_Wp.lift (fun _ Kz => jv_Ev.steps jv_i297 2 (pc' := 58) (l' := [(4, .int (vl_I (vr_kd M kd))), (0, .ref 196), (1, .int (vl_I k)), (2, .int (vl_I one)), (3, .int (vl_I oth))]) (st' := [.int (vl_I one), .int (vl_I (vr_kd M kd))]) rfl Kz) ?_
    refine jv_Wp.cnd jv_i297 (pt := 67) (pe := 61) (p := ((vl_I (vr_kd M kd)) = (vl_I one))) (q := ((vl_I (vr_kd M kd)) = (vl_I one))) rfl jv_bc_eq rfl rfl Iff.rfl (fun h3 => ?_) (fun h3 => ?_)
    · refine jv_Wp.lift (fun _ Kz => jv_Ev.steps jv_i297 2 (pc' := 73) (l' := [(4, .int (vl_I (vr_kd M kd))), (0, .ref 196), (1, .int (vl_I k)), (2, .int (vl_I one)), (3, .int (vl_I oth))]) (st' := [.int (0 : Int32)]) rfl Kz) ?_
      refine jv_Wp.of (jv_Ev.ret jv_i297 rfl rfl) ?_
      rw [hQ]
      have ev : (0 : Int32) = (vl_I (vr_im M (vr_T I L (76800 + k)) one oth)) := by unfold vr_im; have z0 : ¬ (vr_T I L (76800 + k)).sort = 0 := fun z => absurd (((vr_isN ok hk).mp z).symm.trans (Classical.not_not.mp h1)) (by decide); rw [if_neg z0]; have z6 : (vr_T I L (76800 + k)).sort = 6 := (vr_is 6 (by decide) ok).mpr (Classical.not_not.mp h1); have ed : (vr_T I L (76800 + k)).det.toNat = kd := (by show (I 206 (76800 + k)).toInt.toNat = kd; rw [hkd (Classical.not_not.mp h1)]; exact vl_I_nat (by omega)); rw [ed]; have eone : vr_kd M kd = one := (vl_I_inj (by omega) (by omega)).mp h3; rw [if_pos ⟨z6, by omega⟩]; rfl
      exact ⟨_, _, by rw [ev], rfl, rfl⟩
    · refine jv_Wp.lift (fun _ Kz => jv_Ev.steps jv_i297 2 (pc' := 64) (l' := [(4, .int (vl_I (vr_kd M kd))), (0, .ref 196), (1, .int (vl_I k)), (2, .int (vl_I one)), (3, .int (vl_I oth))]) (st' := [.int (vl_I oth), .int (vl_I (vr_kd M kd))]) rfl Kz) ?_
      refine jv_Wp.cnd jv_i297 (pt := 71) (pe := 67) (p := (¬ (vl_I (vr_kd M kd)) = (vl_I oth))) (q := (¬ (vl_I (vr_kd M kd)) = (vl_I oth))) rfl jv_bc_ne rfl rfl Iff.rfl (fun h4 => ?_) (fun h4 => ?_)
      · refine jv_Wp.lift (fun _ Kz => jv_Ev.steps jv_i297 1 (pc' := 73) (l' := [(4, .int (vl_I (vr_kd M kd))), (0, .ref 196), (1, .int (vl_I k)), (2, .int (vl_I one)), (3, .int (vl_I oth))]) (st' := [.int (8 : Int32)]) rfl Kz) ?_
        refine jv_Wp.of (jv_Ev.ret jv_i297 rfl rfl) ?_
        rw [hQ]
        have ev : (8 : Int32) = (vl_I (vr_im M (vr_T I L (76800 + k)) one oth)) := by unfold vr_im; have z0 : ¬ (vr_T I L (76800 + k)).sort = 0 := fun z => absurd (((vr_isN ok hk).mp z).symm.trans (Classical.not_not.mp h1)) (by decide); rw [if_neg z0]; have z6 : (vr_T I L (76800 + k)).sort = 6 := (vr_is 6 (by decide) ok).mpr (Classical.not_not.mp h1); have ed : (vr_T I L (76800 + k)).det.toNat = kd := (by show (I 206 (76800 + k)).toInt.toNat = kd; rw [hkd (Classical.not_not.mp h1)]; exact vl_I_nat (by omega)); rw [ed]; have eone : ¬ vr_kd M kd = one := fun z => h3 (by rw [z]); have eoth : ¬ vr_kd M kd = oth := fun z => h4 (by rw [z]); rw [if_neg (fun z => by omega)]; rfl
        exact ⟨_, _, by rw [ev], rfl, rfl⟩
      · refine jv_Wp.lift (fun _ Kz => jv_Ev.steps jv_i297 2 (pc' := 73) (l' := [(4, .int (vl_I (vr_kd M kd))), (0, .ref 196), (1, .int (vl_I k)), (2, .int (vl_I one)), (3, .int (vl_I oth))]) (st' := [.int (0 : Int32)]) rfl Kz) ?_
        refine jv_Wp.of (jv_Ev.ret jv_i297 rfl rfl) ?_
        rw [hQ]
        have ev : (0 : Int32) = (vl_I (vr_im M (vr_T I L (76800 + k)) one oth)) := by unfold vr_im; have z0 : ¬ (vr_T I L (76800 + k)).sort = 0 := fun z => absurd (((vr_isN ok hk).mp z).symm.trans (Classical.not_not.mp h1)) (by decide); rw [if_neg z0]; have z6 : (vr_T I L (76800 + k)).sort = 6 := (vr_is 6 (by decide) ok).mpr (Classical.not_not.mp h1); have ed : (vr_T I L (76800 + k)).det.toNat = kd := (by show (I 206 (76800 + k)).toInt.toNat = kd; rw [hkd (Classical.not_not.mp h1)]; exact vl_I_nat (by omega)); rw [ed]; have eone : ¬ vr_kd M kd = one := fun z => h3 (by rw [z]); have eoth : vr_kd M kd = oth := (vl_I_inj (by omega) (by omega)).mp (Classical.not_not.mp h4); rw [if_pos ⟨z6, by omega⟩]; rfl
        exact ⟨_, _, by rw [ev], rfl, rfl⟩
theorem vq_isMap {K : Nat → Option (Nat × Nat)} {I : Nat → Nat → Int32} {L : Nat → Nat → Int64} {R : Nat → Nat → Value} (M : vf_M) (k one oth kd : Nat) (hW : jv_rW K R) (hM : vr_M I M) (hk : k < 11) (g1 : one < 4) (g2 : oth < 4) (ok : vr_ok I (76800 + k) k) (k8 : kd < 8) (hkd : I 205 (76800 + k) = 6 → I 206 (76800 + k) = vl_I kd) {n sl : Nat} : jv_Ms 297 [.ref 196, .int (vl_I k), .int (vl_I one), .int (vl_I oth)] (jv_H K I L R) n sl (some (.int (vl_I (vr_im M (vr_T I L (76800 + k)) one oth))), jv_H K I L R, n, sl) := by
  obtain ⟨I1, L1, H, ei, el⟩ := vq_isMap_ (n := n) (sl := sl) M k one oth kd hW hM hk g1 g2 ok k8 hkd
  rw [ei, el] at H
  exact H
theorem vq_writtenX_ {K : Nat → Option (Nat × Nat)} {I : Nat → Nat → Int32} {L : Nat → Nat → Int64} {R : Nat → Nat → Value} (k m : Nat) (hW : jv_rW K R) (hx : 75 * k + m < 77100) {n sl : Nat} : ∃ I1 L1, jv_Ms 279 [.ref 196, .int (vl_I k), .int (vl_I m)] (jv_H K I L R) n sl (some (.int (vr_wx I (75 * k + m))), jv_H K I1 L1 R, n, sl) ∧ I1 = I ∧ L1 = L := by
  obtain ⟨Q, hQ⟩ : ∃ Q : jv_R → Prop, Q = fun X => ∃ I1 L1, X = (some (.int (vr_wx I (75 * k + m))), jv_H K I1 L1 R, n, sl) ∧ I1 = I ∧ L1 = L := ⟨_, rfl⟩
  suffices h : jv_Wp 279 0 [(0, .ref 196), (1, .int (vl_I k)), (2, .int (vl_I m))] [] (jv_H K I L R) n sl Q by
    rw [hQ] at h
    obtain ⟨X, h, I1, L1, e, h'⟩ := h
    subst e
    exact ⟨I1, L1, h, h'⟩
  refine jv_Wp.lift (fun _ Kz => jv_Ev.steps jv_i279 1 (pc' := 1) (l' := [(0, .ref 196), (1, .int (vl_I k)), (2, .int (vl_I m))]) (st' := [.ref 196]) rfl Kz) ?_
  refine jv_Wp.lift (fun _ Kz => jv_Ev.m jv_i279 (pc' := 4) (st' := [.ref 205]) (G' := (jv_H K I L R)) rfl rfl (jv_m_getR (jv_rwK hW 196 12 24 (by decide)) rfl rfl (jv_rwR hW 196 13 205 (by decide))) Kz) ?_
  refine jv_Wp.lift (fun _ Kz => jv_Ev.steps jv_i279 2 (pc' := 6) (l' := [(0, .ref 196), (1, .int (vl_I k)), (2, .int (vl_I m))]) (st' := [.int (vl_I m), .int (vl_I k), .ref 205]) rfl Kz) ?_
  refine jv_Wp.lift (fun _ Kz => jv_Ev.c jv_i279 (pc' := 9) (S' := [.int (vl_I (75 * k + m)), .ref 205]) jv_i253 [.int (vl_I k), .int (vl_I m)] rfl rfl rfl rfl rfl rfl (vq_thing k m) rfl rfl Kz) ?_
  refine jv_Wp.lift (fun _ Kz => jv_Ev.m jv_i279 (pc' := 10) (st' := [.int (I 205 (75 * k + m))]) (G' := (jv_H K I L R)) rfl rfl (jv_m_ialdv (jv_rwK hW 205 102 77100 (by decide)) rfl (vl_I_ix (by omega) (by decide)) rfl ((congrArg (I 205) (vl_I_nat (by omega))).trans rfl)) Kz) ?_
  refine jv_Wp.lift (fun _ Kz => jv_Ev.steps jv_i279 3 (pc' := 14) (l' := [(3, .int (I 205 (75 * k + m))), (0, .ref 196), (1, .int (vl_I k)), (2, .int (vl_I m))]) (st' := [.int (9 : Int32), .int (I 205 (75 * k + m))]) rfl Kz) ?_
  refine jv_Wp.cnd jv_i279 (pt := 30) (pe := 17) (p := (¬ (I 205 (75 * k + m)) = (9 : Int32))) (q := (¬ (I 205 (75 * k + m)) = (9 : Int32))) rfl jv_bc_ne rfl rfl Iff.rfl (fun h1 => ?_) (fun h1 => ?_)
  · refine jv_Wp.lift (fun _ Kz => jv_Ev.steps jv_i279 2 (pc' := 32) (l' := [(3, .int (I 205 (75 * k + m))), (0, .ref 196), (1, .int (vl_I k)), (2, .int (vl_I m))]) (st' := [.int (1 : Int32), .int (I 205 (75 * k + m))]) rfl Kz) ?_
    refine jv_Wp.cnd jv_i279 (pt := 41) (pe := 35) (p := (¬ (I 205 (75 * k + m)) = (1 : Int32))) (q := (¬ (I 205 (75 * k + m)) = (1 : Int32))) rfl jv_bc_ne rfl rfl Iff.rfl (fun h2 => ?_) (fun h2 => ?_)
    · refine jv_Wp.lift (fun _ Kz => jv_Ev.steps jv_i279 1 (pc' := 42) (l' := [(3, .int (I 205 (75 * k + m))), (0, .ref 196), (1, .int (vl_I k)), (2, .int (vl_I m))]) (st' := [.int (0 : Int32)]) rfl Kz) ?_
      refine jv_Wp.of (jv_Ev.ret jv_i279 rfl rfl) ?_
      rw [hQ]
      have ev : (0 : Int32) = (vr_wx I (75 * k + m)) := by unfold vr_wx; rw [if_neg h1]; rw [if_neg h2]
      exact ⟨_, _, by rw [ev], rfl, rfl⟩
    · refine jv_Wp.lift (fun _ Kz => jv_Ev.steps jv_i279 2 (pc' := 42) (l' := [(3, .int (I 205 (75 * k + m))), (0, .ref 196), (1, .int (vl_I k)), (2, .int (vl_I m))]) (st' := [.int (255 : Int32)]) rfl Kz) ?_
      refine jv_Wp.of (jv_Ev.ret jv_i279 rfl rfl) ?_
      rw [hQ]
      have ev : (255 : Int32) = (vr_wx I (75 * k + m)) := by unfold vr_wx; rw [if_neg h1]; rw [if_pos (Classical.not_not.mp h2)]
      exact ⟨_, _, by rw [ev], rfl, rfl⟩
  · refine jv_Wp.lift (fun _ Kz => jv_Ev.steps jv_i279 1 (pc' := 18) (l' := [(3, .int (I 205 (75 * k + m))), (0, .ref 196), (1, .int (vl_I k)), (2, .int (vl_I m))]) (st' := [.ref 196]) rfl Kz) ?_
    refine jv_Wp.lift (fun _ Kz => jv_Ev.m jv_i279 (pc' := 21) (st' := [.ref 206]) (G' := (jv_H K I L R)) rfl rfl (jv_m_getR (jv_rwK hW 196 12 24 (by decide)) rfl rfl (jv_rwR hW 196 14 206 (by decide))) Kz) ?_
    refine jv_Wp.lift (fun _ Kz => jv_Ev.steps jv_i279 2 (pc' := 23) (l' := [(3, .int (I 205 (75 * k + m))), (0, .ref 196), (1, .int (vl_I k)), (2, .int (vl_I m))]) (st' := [.int (vl_I m), .int (vl_I k), .ref 206]) rfl Kz) ?_
    refine jv_Wp.lift (fun _ Kz => jv_Ev.c jv_i279 (pc' := 26) (S' := [.int (vl_I (75 * k + m)), .ref 206]) jv_i253 [.int (vl_I k), .int (vl_I m)] rfl rfl rfl rfl rfl rfl (vq_thing k m) rfl rfl Kz) ?_
    refine jv_Wp.lift (fun _ Kz => jv_Ev.m jv_i279 (pc' := 27) (st' := [.int (I 206 (75 * k + m))]) (G' := (jv_H K I L R)) rfl rfl (jv_m_ialdv (jv_rwK hW 206 102 77100 (by decide)) rfl (vl_I_ix (by omega) (by decide)) rfl ((congrArg (I 206) (vl_I_nat (by omega))).trans rfl)) Kz) ?_
    refine jv_Wp.lift (fun _ Kz => jv_Ev.steps jv_i279 1 (pc' := 42) (l' := [(3, .int (I 205 (75 * k + m))), (0, .ref 196), (1, .int (vl_I k)), (2, .int (vl_I m))]) (st' := [.int (I 206 (75 * k + m))]) rfl Kz) ?_
    refine jv_Wp.of (jv_Ev.ret jv_i279 rfl rfl) ?_
    rw [hQ]
    have ev : (I 206 (75 * k + m)) = (vr_wx I (75 * k + m)) := by unfold vr_wx; rw [if_pos (Classical.not_not.mp h1)]
    exact ⟨_, _, by rw [ev], rfl, rfl⟩
theorem vq_writtenX {K : Nat → Option (Nat × Nat)} {I : Nat → Nat → Int32} {L : Nat → Nat → Int64} {R : Nat → Nat → Value} (k m : Nat) (hW : jv_rW K R) (hx : 75 * k + m < 77100) {n sl : Nat} : jv_Ms 279 [.ref 196, .int (vl_I k), .int (vl_I m)] (jv_H K I L R) n sl (some (.int (vr_wx I (75 * k + m))), jv_H K I L R, n, sl) := by
  obtain ⟨I1, L1, H, ei, el⟩ := vq_writtenX_ (n := n) (sl := sl) k m hW hx
  rw [ei, el] at H
  exact H
theorem vq_slotOfx_ {K : Nat → Option (Nat × Nat)} {I : Nat → Nat → Int32} {L : Nat → Nat → Int64} {R : Nat → Nat → Value} (a : Int64) (h : -512 ≤ a.toInt ∧ a.toInt < 1073741824) {n sl : Nat} : ∃ I1 L1, jv_Ms 291 [.long a] (jv_H K I L R) n sl (some (.int (vl_I (vx_slot a.toInt))), jv_H K I1 L1 R, n, sl) ∧ I1 = I ∧ L1 = L := by
  obtain ⟨Q, hQ⟩ : ∃ Q : jv_R → Prop, Q = fun X => ∃ I1 L1, X = (some (.int (vl_I (vx_slot a.toInt))), jv_H K I1 L1 R, n, sl) ∧ I1 = I ∧ L1 = L := ⟨_, rfl⟩
  suffices h : jv_Wp 291 0 [(0, .long a)] [] (jv_H K I L R) n sl Q by
    rw [hQ] at h
    obtain ⟨X, h, I1, L1, e, h'⟩ := h
    subst e
    exact ⟨I1, L1, h, h'⟩
  refine jv_Wp.lift (fun _ Kz => jv_Ev.steps jv_i291 5 (pc' := 10) (l' := [(0, .long a)]) (st' := [.long (8 : Int64), .long (a + (512 : Int64)), .int (11 : Int32)]) rfl Kz) ?_
  refine jv_Wp.lift (fun _ Kz => jv_Ev.op jv_i291 (pc' := 11) (l' := [(0, .long a)]) (st' := [.long ((a + (512 : Int64)) / (8 : Int64)), .int (11 : Int32)]) rfl (jv_op_ldiv (by decide)) Kz) ?_
  refine jv_Wp.lift (fun _ Kz => jv_Ev.steps jv_i291 2 (pc' := 13) (l' := [(0, .long a)]) (st' := [.int ((11 : Int32) + ((a + (512 : Int64)) / (8 : Int64)).toInt32)]) rfl Kz) ?_
  refine jv_Wp.of (jv_Ev.ret jv_i291 rfl rfl) ?_
  rw [hQ]
  have ev : ((11 : Int32) + ((a + (512 : Int64)) / (8 : Int64)).toInt32) = (vl_I (vx_slot a.toInt)) := vi_islotx h
  exact ⟨_, _, by rw [ev], rfl, rfl⟩
theorem vq_slotOfx {K : Nat → Option (Nat × Nat)} {I : Nat → Nat → Int32} {L : Nat → Nat → Int64} {R : Nat → Nat → Value} (a : Int64) (h : -512 ≤ a.toInt ∧ a.toInt < 1073741824) {n sl : Nat} : jv_Ms 291 [.long a] (jv_H K I L R) n sl (some (.int (vl_I (vx_slot a.toInt))), jv_H K I L R, n, sl) := by
  obtain ⟨I1, L1, H, ei, el⟩ := vq_slotOfx_ (n := n) (sl := sl) a h
  rw [ei, el] at H
  exact H
theorem vq_isWithinJ_ {K : Nat → Option (Nat × Nat)} {I : Nat → Nat → Int32} {L : Nat → Nat → Int64} {R : Nat → Nat → Value} (k : Nat) (a b c : Int64) (hW : jv_rW K R) (hk : k < 75) {n sl : Nat} : ∃ I1 L1, jv_Ms 289 [.ref 196, .int (vl_I k), .long a, .long b, .long c] (jv_H K I L R) n sl (some (.int (vr_b (vr_wj (L 213 (8 + (76800 + k))) (L 214 (8 + (76800 + k))) a b c))), jv_H K I1 L1 R, n, sl) ∧ I1 = I ∧ L1 = L := by
  obtain ⟨Q, hQ⟩ : ∃ Q : jv_R → Prop, Q = fun X => ∃ I1 L1, X = (some (.int (vr_b (vr_wj (L 213 (8 + (76800 + k))) (L 214 (8 + (76800 + k))) a b c))), jv_H K I1 L1 R, n, sl) ∧ I1 = I ∧ L1 = L := ⟨_, rfl⟩
  suffices h : jv_Wp 289 0 [(0, .ref 196), (1, .int (vl_I k)), (2, .long a), (4, .long b), (6, .long c)] [] (jv_H K I L R) n sl Q by
    rw [hQ] at h
    obtain ⟨X, h, I1, L1, e, h'⟩ := h
    subst e
    exact ⟨I1, L1, h, h'⟩
  refine jv_Wp.lift (fun _ Kz => jv_Ev.steps jv_i289 2 (pc' := 4) (l' := [(0, .ref 196), (1, .int (vl_I k)), (2, .long a), (4, .long b), (6, .long c)]) (st' := [.int (vl_I k), .int (1024 : Int32)]) rfl Kz) ?_
  refine jv_Wp.lift (fun _ Kz => jv_Ev.c jv_i289 (pc' := 7) (S' := [.int (vl_I (8 + (76800 + k)))]) jv_i254 [.int (1024 : Int32), .int (vl_I k)] rfl rfl rfl rfl rfl rfl (vq_row 1024 k) rfl rfl Kz) ?_
  refine jv_Wp.lift (fun _ Kz => jv_Ev.steps jv_i289 2 (pc' := 10) (l' := [(8, .int (vl_I (8 + (76800 + k)))), (0, .ref 196), (1, .int (vl_I k)), (2, .long a), (4, .long b), (6, .long c)]) (st' := [.ref 196]) rfl Kz) ?_
  refine jv_Wp.lift (fun _ Kz => jv_Ev.m jv_i289 (pc' := 13) (st' := [.ref 208]) (G' := (jv_H K I L R)) rfl rfl (jv_m_getR (jv_rwK hW 196 12 24 (by decide)) rfl rfl (jv_rwR hW 196 16 208 (by decide))) Kz) ?_
  refine jv_Wp.lift (fun _ Kz => jv_Ev.m jv_i289 (pc' := 16) (st' := [.ref 213]) (G' := (jv_H K I L R)) rfl rfl (jv_m_getR (jv_rwK hW 208 11 7 (by decide)) rfl rfl (jv_rwR hW 208 4 213 (by decide))) Kz) ?_
  refine jv_Wp.lift (fun _ Kz => jv_Ev.steps jv_i289 1 (pc' := 18) (l' := [(8, .int (vl_I (8 + (76800 + k)))), (0, .ref 196), (1, .int (vl_I k)), (2, .long a), (4, .long b), (6, .long c)]) (st' := [.int (vl_I (8 + (76800 + k))), .ref 213]) rfl Kz) ?_
  refine jv_Wp.lift (fun _ Kz => jv_Ev.m jv_i289 (pc' := 19) (st' := [.long (L 213 (8 + (76800 + k)))]) (G' := (jv_H K I L R)) rfl rfl (jv_m_laldv (jv_rwK hW 213 103 77200 (by decide)) rfl (vl_I_ix (by omega) (by decide)) rfl ((congrArg (L 213) (vl_I_nat (by omega))).trans rfl)) Kz) ?_
  refine jv_Wp.lift (fun _ Kz => jv_Ev.steps jv_i289 3 (pc' := 22) (l' := [(8, .int (vl_I (8 + (76800 + k)))), (0, .ref 196), (1, .int (vl_I k)), (2, .long a), (4, .long b), (6, .long c)]) (st' := [.int (lg_cmp (L 213 (8 + (76800 + k))) (-a))]) rfl Kz) ?_
  refine jv_Wp.cnd jv_i289 (pt := 50) (pe := 25) (p := ((lg_cmp (L 213 (8 + (76800 + k))) (-a)) < 0)) (q := ((L 213 (8 + (76800 + k))) < (-a))) rfl jv_bi_lt rfl rfl (lg_cmp_lt (L 213 (8 + (76800 + k))) (-a)) (fun h1 => ?_) (fun h1 => ?_)
  · refine jv_Wp.lift (fun _ Kz => jv_Ev.steps jv_i289 1 (pc' := 51) (l' := [(8, .int (vl_I (8 + (76800 + k)))), (0, .ref 196), (1, .int (vl_I k)), (2, .long a), (4, .long b), (6, .long c)]) (st' := [.int (0 : Int32)]) rfl Kz) ?_
    refine jv_Wp.of (jv_Ev.ret jv_i289 rfl (jv_ret_b (Or.inl rfl))) ?_
    rw [hQ]
    have ev : (0 : Int32) = (vr_b (vr_wj (L 213 (8 + (76800 + k))) (L 214 (8 + (76800 + k))) a b c)) := by rw [show vr_wj (L 213 (8 + (76800 + k))) (L 214 (8 + (76800 + k))) a b c = false from decide_eq_false (fun z => Int64.not_lt.mpr z.1 h1)]; rfl
    exact ⟨_, _, by rw [ev], rfl, rfl⟩
  · refine jv_Wp.lift (fun _ Kz => jv_Ev.steps jv_i289 1 (pc' := 26) (l' := [(8, .int (vl_I (8 + (76800 + k)))), (0, .ref 196), (1, .int (vl_I k)), (2, .long a), (4, .long b), (6, .long c)]) (st' := [.ref 196]) rfl Kz) ?_
    refine jv_Wp.lift (fun _ Kz => jv_Ev.m jv_i289 (pc' := 29) (st' := [.ref 208]) (G' := (jv_H K I L R)) rfl rfl (jv_m_getR (jv_rwK hW 196 12 24 (by decide)) rfl rfl (jv_rwR hW 196 16 208 (by decide))) Kz) ?_
    refine jv_Wp.lift (fun _ Kz => jv_Ev.m jv_i289 (pc' := 32) (st' := [.ref 214]) (G' := (jv_H K I L R)) rfl rfl (jv_m_getR (jv_rwK hW 208 11 7 (by decide)) rfl rfl (jv_rwR hW 208 5 214 (by decide))) Kz) ?_
    refine jv_Wp.lift (fun _ Kz => jv_Ev.steps jv_i289 1 (pc' := 34) (l' := [(8, .int (vl_I (8 + (76800 + k)))), (0, .ref 196), (1, .int (vl_I k)), (2, .long a), (4, .long b), (6, .long c)]) (st' := [.int (vl_I (8 + (76800 + k))), .ref 214]) rfl Kz) ?_
    refine jv_Wp.lift (fun _ Kz => jv_Ev.m jv_i289 (pc' := 35) (st' := [.long (L 214 (8 + (76800 + k)))]) (G' := (jv_H K I L R)) rfl rfl (jv_m_laldv (jv_rwK hW 214 103 77200 (by decide)) rfl (vl_I_ix (by omega) (by decide)) rfl ((congrArg (L 214) (vl_I_nat (by omega))).trans rfl)) Kz) ?_
    refine jv_Wp.lift (fun _ Kz => jv_Ev.steps jv_i289 6 (pc' := 43) (l' := [(8, .int (vl_I (8 + (76800 + k)))), (0, .ref 196), (1, .int (vl_I k)), (2, .long a), (4, .long b), (6, .long c)]) (st' := [.int (lg_cmp (L 214 (8 + (76800 + k))) ((c - b) - a))]) rfl Kz) ?_
    refine jv_Wp.cnd jv_i289 (pt := 50) (pe := 46) (p := (0 < (lg_cmp (L 214 (8 + (76800 + k))) ((c - b) - a)))) (q := (((c - b) - a) < (L 214 (8 + (76800 + k))))) rfl jv_bi_gt rfl rfl (lg_cmp_gt (L 214 (8 + (76800 + k))) ((c - b) - a)) (fun h2 => ?_) (fun h2 => ?_)
    · refine jv_Wp.lift (fun _ Kz => jv_Ev.steps jv_i289 1 (pc' := 51) (l' := [(8, .int (vl_I (8 + (76800 + k)))), (0, .ref 196), (1, .int (vl_I k)), (2, .long a), (4, .long b), (6, .long c)]) (st' := [.int (0 : Int32)]) rfl Kz) ?_
      refine jv_Wp.of (jv_Ev.ret jv_i289 rfl (jv_ret_b (Or.inl rfl))) ?_
      rw [hQ]
      have ev : (0 : Int32) = (vr_b (vr_wj (L 213 (8 + (76800 + k))) (L 214 (8 + (76800 + k))) a b c)) := by rw [show vr_wj (L 213 (8 + (76800 + k))) (L 214 (8 + (76800 + k))) a b c = false from decide_eq_false (fun z => Int64.not_lt.mpr z.2 h2)]; rfl
      exact ⟨_, _, by rw [ev], rfl, rfl⟩
    · refine jv_Wp.lift (fun _ Kz => jv_Ev.steps jv_i289 2 (pc' := 51) (l' := [(8, .int (vl_I (8 + (76800 + k)))), (0, .ref 196), (1, .int (vl_I k)), (2, .long a), (4, .long b), (6, .long c)]) (st' := [.int (1 : Int32)]) rfl Kz) ?_
      refine jv_Wp.of (jv_Ev.ret jv_i289 rfl (jv_ret_b (Or.inr rfl))) ?_
      rw [hQ]
      have ev : (1 : Int32) = (vr_b (vr_wj (L 213 (8 + (76800 + k))) (L 214 (8 + (76800 + k))) a b c)) := by rw [show vr_wj (L 213 (8 + (76800 + k))) (L 214 (8 + (76800 + k))) a b c = true from decide_eq_true ⟨Int64.not_lt.mp h1, Int64.not_lt.mp h2⟩]; rfl
      exact ⟨_, _, by rw [ev], rfl, rfl⟩
theorem vq_isWithinJ {K : Nat → Option (Nat × Nat)} {I : Nat → Nat → Int32} {L : Nat → Nat → Int64} {R : Nat → Nat → Value} (k : Nat) (a b c : Int64) (hW : jv_rW K R) (hk : k < 75) {n sl : Nat} : jv_Ms 289 [.ref 196, .int (vl_I k), .long a, .long b, .long c] (jv_H K I L R) n sl (some (.int (vr_b (vr_wj (L 213 (8 + (76800 + k))) (L 214 (8 + (76800 + k))) a b c))), jv_H K I L R, n, sl) := by
  obtain ⟨I1, L1, H, ei, el⟩ := vq_isWithinJ_ (n := n) (sl := sl) k a b c hW hk
  rw [ei, el] at H
  exact H