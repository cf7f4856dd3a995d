/-! part g17: a call of the class's machine, as a whole (a hand text: this part is the source) -/
theorem vk_ai {v : Int} (h : v = 0 ∨ v = -2 ∨ v = -7 ∨ v = -11 ∨ v = -17 ∨ v = -22) : (Int32.ofInt v).toInt64 = vm_i v := by
  rcases h with e | e | e | e | e | e <;> subst e <;> decide
theorem vm_upd_v (S : vm_S) (k : Nat) (key val : Nat → Nat) (fl : Int) : (vm_upd S k key val fl).1 = 0 ∨ (vm_upd S k key val fl).1 = -2 ∨ (vm_upd S k key val fl).1 = -7 ∨ (vm_upd S k key val fl).1 = -11 ∨ (vm_upd S k key val fl).1 = -17 ∨ (vm_upd S k key val fl).1 = -22 := by
  unfold vm_upd
  by_cases c : fl < 0 ∨ 2 < fl
  · rw [if_pos c]; simp
  · rw [if_neg c]
    cases vm_ent S k key with
    | some e =>
      by_cases d : fl = 1
      · simp [d]
      · simp [d]
    | none =>
      by_cases d : S.2 8 k = 0
      · simp [d]
      · by_cases d2 : fl = 2
        · simp [d, d2]
        · by_cases d3 : vm_free S k < S.2 11 k
          · simp [d, d2, d3]
          · simp [d, d2, d3]
theorem vm_drop_v (S : vm_S) (k : Nat) (key : Nat → Nat) : (vm_drop S k key).1 = 0 ∨ (vm_drop S k key).1 = -2 ∨ (vm_drop S k key).1 = -7 ∨ (vm_drop S k key).1 = -11 ∨ (vm_drop S k key).1 = -17 ∨ (vm_drop S k key).1 = -22 := by
  unfold vm_drop
  cases vm_ent S k key with
  | some e => exact Or.inl rfl
  | none => exact Or.inr (Or.inl rfl)
theorem vm_send_v (S : vm_S) (k : Nat) (key : Nat → Nat) (w : Nat) : (vm_send S k key w).1 = 0 ∨ (vm_send S k key w).1 = -2 ∨ (vm_send S k key w).1 = -7 ∨ (vm_send S k key w).1 = -11 ∨ (vm_send S k key w).1 = -17 ∨ (vm_send S k key w).1 = -22 := by
  unfold vm_send
  by_cases c : S.2 18 k = 1
  · simp [c]
  · by_cases d : S.2 11 k < S.2 15 k - S.2 16 k + (8 + vm_fill w)
    · simp [c, d]
    · simp [c, d]
section
variable {Z : Nat} {K : Nat → Option (Nat × Nat)} {I : Nat → Nat → Int32} {L : Nat → Nat → Int64} {R : Nat → Nat → Value} {S T : vm_S} {mo : Nat → Nat} {k : Nat} {key val : Nat → Nat}
theorem vk_all_clock (hA : vk_all Z K I L R S mo) (v : Int64) : vk_all Z K I (jv_u L 2 8 v) R (jv_u S.1 1 0 v, S.2) mo := by
  obtain ⟨⟨a1, a2, a3, a4, a5, a6, a7, a8, a9⟩, hM, hG, ok⟩ := hA
  have oL : ∀ q i, q ≠ 2 → jv_u L 2 8 v q i = L q i := fun q i z => jv_u_o _ _ _ _ z
  refine ⟨⟨a1, a2, fun r hr g => ?_, a4, a5, a6, a7, a8, ?_⟩, ?_, hG, vm_ok_em (S := S) (fun _ _ _ => rfl) ok⟩
  · show jv_u L 2 8 v 172 r = jv_u S.1 1 0 v 0 r
    rw [oL 172 r (by decide), jv_u_o _ _ _ _ (show 0 ≠ 1 by decide)]; exact a3 r hr g
  · show jv_u L 2 8 v 2 8 = jv_u S.1 1 0 v 1 0
    rw [jv_u_self, jv_u_self]
  · exact vk_M_ext (S := S) rfl (fun _ _ _ => rfl) (fun q i z => oL q i (by omega)) (fun _ _ _ => rfl) hM
theorem vc_mapM (hC : vm_CW K R) (hA : vk_all Z K I L R S mo) (hm : vm_map S = some k) : k < vm_cnt S ∧ ∃ m, (∀ n sl, jv_Ms 53 [.ref 171, .int (1 : Int32)] (jv_H K I L R) n sl (some (.long m), jv_H K I L R, n, sl)) ∧ ∀ n sl, jv_Ms 126 [.ref 2, .long m] (jv_H K I L R) n sl (some (.ref (mo k)), jv_H K I L R, n, sl) := by
  obtain ⟨m, h1, h2⟩ := Option.bind_eq_some_iff.mp hm
  have h2 : (if 0 ≤ m.toInt ∧ m.toInt < vm_cnt S then some m.toInt.toNat else none) = some k := h2
  by_cases c : 0 ≤ m.toInt ∧ m.toInt < vm_cnt S
  · rw [if_pos c] at h2
    have e := Option.some.inj h2
    have hk : k < vm_cnt S := by omega
    have c8 := hA.2.2.2.1.1
    have hl : m < (vl_I (vm_cnt S)).toInt64 := (vi_lt_I (by omega)).mpr (by omega)
    have h0 : ¬ m < (0 : Int64) := fun z => by
      have := Int64.lt_iff_toInt_lt.mp z
      rw [show (0 : Int64).toInt = 0 from by decide] at this; omega
    obtain ⟨y1, y2⟩ := vi_lo h0 hl (by omega)
    refine ⟨hk, m, fun n sl => vm_cget hC hA.1 (r := 1) (by decide) h1, fun n sl => ?_⟩
    obtain ⟨I1, L1, w, w1, w2⟩ := vc_mapF (n := n) (sl := sl) (I := I) (L := L) (N := 8) (o := mo k) m (vm_cK hC 2 6 11 (by decide)) (vm_cR hC 2 6 7 (by decide)) (vm_cK hC 7 106 8 (by decide)) h0 (by rw [hA.2.1.1]; exact hl) (by rw [y1]; exact vl_I_ix (by omega) (by decide)) (by rw [y1, vl_I_nat (by omega), e]; exact (hA.2.1.2.1 k hk).1)
    subst w1; subst w2
    exact w
  · rw [if_neg c] at h2; cases h2
theorem vc_callM (hC : vm_CW K R) (hZ : Z ≤ 1000000000) (hA : vk_all Z K I L R S mo) {i : Int} (hi : 1 ≤ i ∧ i ≤ 6) (hc : vm_call 1073750528 1073807360 i S = some T) : ∃ I1 L1, (∀ n sl, jv_Ms 69 [.ref 171, .int (Int32.ofInt i)] (jv_H K I L R) n sl (none, jv_H K I1 L1 R, n, sl)) ∧ vk_all Z K I1 L1 R T mo ∧ vc_ff (vk_Ec mo) I L I1 L1 := by
  have i6 : i = 1 ∨ i = 2 ∨ i = 3 ∨ i = 4 ∨ i = 5 ∨ i = 6 := by omega
  unfold vm_call at hc
  rcases i6 with e | e | e | e | e | e <;> subst e
  · rw [if_neg (by decide), if_neg (by decide)] at hc
    obtain ⟨k, hm, hc⟩ := Option.bind_eq_some_iff.mp hc
    rw [if_pos rfl] at hc
    obtain ⟨hk, m, g1, g2⟩ := vc_mapM hC hA hm
    by_cases z : S.2 8 k = 2
    · rw [if_pos z] at hc; cases hc
    · rw [if_neg z] at hc
      obtain ⟨key, hg, eT⟩ := Option.map_eq_some_iff.mp hc
      obtain ⟨I1, p1, p2, p3⟩ := vc_seekM hC hA hk z hg
      obtain ⟨I2, L2, q1, q2, q3⟩ := vk_all_ans hC p2 (vm_sk 1073807360 S k key).1
      have eT2 : T = vm_ans (vm_sk 1073807360 S k key).2 (vm_sk 1073807360 S k key).1 := by
        rw [← eT]
        unfold vm_sk
        cases vm_ent S k key with
        | none => rfl
        | some e => rfl
      rw [eT2]
      exact ⟨I2, L2, fun n sl => vc_call_w1 hC g1 g2 p1 q1, q2, vc_ff_trans p3 q3⟩
  · rw [if_neg (by decide), if_neg (by decide)] at hc
    obtain ⟨k, hm, hc⟩ := Option.bind_eq_some_iff.mp hc
    rw [if_neg (by decide), if_pos rfl] at hc
    obtain ⟨hk, m, g1, g2⟩ := vc_mapM hC hA hm
    by_cases z : S.2 8 k = 2
    · rw [if_pos z] at hc; cases hc
    · rw [if_neg z] at hc
      obtain ⟨key, hg, hc⟩ := Option.bind_eq_some_iff.mp hc
      obtain ⟨val, hv, hc⟩ := Option.bind_eq_some_iff.mp hc
      obtain ⟨fl, hf, eT⟩ := Option.map_eq_some_iff.mp hc
      obtain ⟨I1, p1, p2, p3⟩ := vc_mputM hC hA hk z hg hv hf
      obtain ⟨I2, L2, q1, q2, q3⟩ := vk_all_ans hC p2 (Int32.ofInt (vm_upd S k key val fl.toInt32.toInt).1).toInt64
      rw [vk_ai (vm_upd_v S k key val fl.toInt32.toInt)] at q2
      rw [← eT]
      exact ⟨I2, L2, fun n sl => vc_call_w2 hC g1 g2 p1 q1, q2, vc_ff_trans p3 q3⟩
  · rw [if_neg (by decide), if_neg (by decide)] at hc
    obtain ⟨k, hm, hc⟩ := Option.bind_eq_some_iff.mp hc
    rw [if_neg (by decide), if_neg (by decide), if_pos rfl] at hc
    obtain ⟨hk, m, g1, g2⟩ := vc_mapM hC hA hm
    by_cases z : S.2 8 k = 1
    · rw [if_pos z] at hc
      obtain ⟨key, hg, eT⟩ := Option.map_eq_some_iff.mp hc
      obtain ⟨I1, p1, p2, p3⟩ := vc_mdropM hC hA hk z hg
      obtain ⟨I2, L2, q1, q2, q3⟩ := vk_all_ans hC p2 (Int32.ofInt (vm_drop S k key).1).toInt64
      rw [vk_ai (vm_drop_v S k key)] at q2
      rw [← eT]
      exact ⟨I2, L2, fun n sl => vc_call_w3 hC g1 g2 p1 q1, q2, vc_ff_trans p3 q3⟩
    · rw [if_neg z] at hc; cases hc
  · rw [if_neg (by decide), if_neg (by decide)] at hc
    obtain ⟨k, hm, hc⟩ := Option.bind_eq_some_iff.mp hc
    rw [if_neg (by decide), if_neg (by decide), if_neg (by decide), if_pos rfl] at hc
    obtain ⟨hk, m, g1, g2⟩ := vc_mapM hC hA hm
    by_cases z : S.2 8 k = 2
    · rw [if_pos z] at hc
      obtain ⟨w, hw, hc⟩ := Option.bind_eq_some_iff.mp hc
      have hc : (if 1 ≤ w.toInt ∧ w.toInt ≤ 256 then (vm_gat 1073750528 1073807360 S 2 w.toInt.toNat).map fun data => vm_ans (vm_send S k data w.toInt.toNat).2 (vm_i (vm_send S k data w.toInt.toNat).1) else none) = some T := hc
      by_cases y : 1 ≤ w.toInt ∧ w.toInt ≤ 256
      · rw [if_pos y] at hc
        obtain ⟨key, hg, eT⟩ := Option.map_eq_some_iff.mp hc
        obtain ⟨I1, L1, p1, p2, p3⟩ := vc_msendM hC hZ hA hk z hw y hg
        obtain ⟨I2, L2, q1, q2, q3⟩ := vk_all_ans hC p2 (Int32.ofInt (vm_send S k key w.toInt.toNat).1).toInt64
        rw [vk_ai (vm_send_v S k key w.toInt.toNat)] at q2
        rw [← eT]
        exact ⟨I2, L2, fun n sl => vc_call_w4 hC g1 g2 p1 q1, q2, vc_ff_trans p3 q3⟩
      · rw [if_neg y] at hc; cases hc
    · rw [if_neg z] at hc; cases hc
  · rw [if_pos rfl] at hc
    have e28 := hA.1.2.2.2.2.2.2.2.2
    obtain ⟨I2, L2, q1, q2, q3⟩ := vk_all_ans hC (vk_all_clock hA (S.1 1 0 + (1 : Int64))) (S.1 1 0)
    rw [← Option.some.inj hc]
    exact ⟨I2, L2, fun n sl => vc_call_w5 hC e28 q1, q2, vc_ff_trans ⟨fun _ _ _ => rfl, fun q i z => vk_ux (fun y => z (vk_Ec_o (by omega)))⟩ q3⟩
  · rw [if_neg (by decide), if_pos rfl] at hc
    obtain ⟨c, h1, hc⟩ := Option.bind_eq_some_iff.mp hc
    obtain ⟨w, h2, hc⟩ := Option.bind_eq_some_iff.mp hc
    have hG2 := fun n sl => vm_cget (n := n) (sl := sl) hC hA.1 (r := 2) (by decide) h2
    have e21 := hA.1.1.1
    have sz := hA.1.1.2
    have w0 : w < (0 : Int64) ↔ w.toInt < 0 := by rw [Int64.lt_iff_toInt_lt, show (0 : Int64).toInt = 0 from by decide]
    have w1 : w ≤ (vl_I (vm_size S)).toInt64 ↔ w.toInt ≤ vm_size S := by rw [Int64.le_iff_toInt_le, Int32.toInt_toInt64, vl_I_i (by omega)]
    by_cases d : c.toInt = 1073745920
    · have hc : (if 0 ≤ w.toInt ∧ w.toInt ≤ vm_size S then some (vm_ans (S.1, jv_u S.2 0 0 w.toInt.toNat) 0) else some (vm_ans S (-22))) = some T := (if_pos d).symm.trans hc
      by_cases y : 0 ≤ w.toInt ∧ w.toInt ≤ vm_size S
      · rw [if_pos y] at hc
        have ew : w.toInt32 = vl_I w.toInt.toNat := Int32.toInt_inj.mp (by rw [Int64.toInt_toInt32, vl_I_i (by omega), Int.bmod_def]; split <;> omega)
        obtain ⟨I1, t1, t2, t3, t4⟩ := vc_tellM (I := jv_u I 2 1 w.toInt32) (L := L) hC (s := w.toInt.toNat) (by omega) (by rw [jv_u_self]; exact ew)
        have hA1 := vk_all_size (I1 := I1) (s := w.toInt.toNat) hA (by omega) ((t2 2 1 (by decide)).trans (by rw [jv_u_self]; exact ew)) (fun q i z1 z2 => (t2 q i z2).trans (vk_ux z1)) t3 t4
        obtain ⟨I2, L2, q1, q2, q3⟩ := vk_all_ans hC hA1 (0 : Int64)
        rw [← Option.some.inj hc]
        exact ⟨I2, L2, fun n sl => vc_call_w6 hC hG2 (fun n sl => vc_trim_y hC e21 (fun z => by have := w0.mp z; omega) (w1.mpr y.2) t1) q1, q2, vc_ff_trans ⟨fun q i z => (t2 q i (fun y => z (vk_Ec_o (by omega)))).trans (vk_ux (fun y => z (vk_Ec_o (by omega)))), fun _ _ _ => rfl⟩ q3⟩
      · rw [if_neg y] at hc
        obtain ⟨I2, L2, q1, q2, q3⟩ := vk_all_ans hC hA (-22 : Int64)
        rw [← Option.some.inj hc]
        refine ⟨I2, L2, fun n sl => vc_call_w6 hC hG2 (I1 := I) (x := (-22 : Int32)) (fun n sl => ?_) q1, q2, q3⟩
        by_cases z : w < (0 : Int64)
        · exact vc_trim_n hC z
        · exact vc_trim_l hC e21 z (fun u => y ⟨by have := mt w0.mpr z; omega, w1.mp u⟩)
    · have hc : none = some T := (if_neg d).symm.trans hc
      cases hc
end
