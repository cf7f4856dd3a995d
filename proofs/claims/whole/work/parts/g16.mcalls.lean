/-! part g16: the calls of the class's machine (a hand text: this part is the source) -/
theorem vm_led_es {S T : vm_S} (es : vm_es S T) (c7 : ∀ i, T.2 7 i = S.2 7 i) {q : Nat} : vm_led T q ↔ vm_led S q := by
  have e8 : ∀ k, T.2 8 k = S.2 8 k := fun k => es.2.2 8 k (by omega)
  have e10 : ∀ k, T.2 10 k = S.2 10 k := fun k => es.2.2 10 k (by omega)
  have e11 : ∀ k, T.2 11 k = S.2 11 k := fun k => es.2.2 11 k (by omega)
  have ea : ∀ k e, vm_at T k e = vm_at S k e := vm_at_es es
  unfold vm_led
  simp only [es.1, e8, e10, e11, ea, c7]
theorem vk_63 : ∀ r : Fin 16, (-63 : Int32).toBitVec.getLsbD r.val = decide (¬ (1 ≤ r.val ∧ r.val ≤ 5)) := by decide +kernel
/-- registers 1 to 5 have nothing -/
def vm_clr (S : vm_S) : vm_S := (S.1, fun c i => if c = 1 ∧ 1 ≤ i ∧ i ≤ 5 then 0 else S.2 c i)
theorem vm_clr_o {S : vm_S} {c i : Nat} (h : c ≠ 1) : (vm_clr S).2 c i = S.2 c i := if_neg (fun z => h z.1)
theorem vm_ans_e {S : vm_S} {v : Int64} : vm_ans S v = vm_gv (vm_clr S) 0 v := rfl
theorem vc_m_clr {I : Nat → Nat → Int32} {L : Nat → Nat → Int64} {S : vm_S} (h : vm_c I L S) : vm_c (jv_u I 171 2 (I 171 2 &&& (-63 : Int32))) L (vm_clr S) := by
  obtain ⟨h1, h2, h3, h4, h5, h6, h7, h8, h9⟩ := h
  have eI : ∀ q f, ¬ (q = 171 ∧ f = 2) → jv_u I 171 2 (I 171 2 &&& (-63 : Int32)) q f = I q f := fun q f z => vk_ux z
  have eS : ∀ c i, c ≠ 1 → (vm_clr S).2 c i = S.2 c i := fun c i z => vm_clr_o z
  have sz : vm_size (vm_clr S) = vm_size S := eS 0 0 (by decide)
  have es : vm_es S (vm_clr S) := ⟨eS 0 1 (by decide), eS 0 2 (by decide), fun c k hc => eS c k (by omega)⟩
  refine ⟨⟨(eI 2 1 (by decide)).trans (by rw [sz]; exact h1.1), by rw [sz]; exact h1.2⟩, fun r hr => ?_, fun r hr g => ?_, fun k hk => ?_, fun j hj => ?_, fun j hj => ?_, fun j hj => ?_, fun q hq => ?_, h9⟩
  · rw [jv_u_self, Int32.toBitVec_and, BitVec.getLsbD_and, h2 r hr, vk_63 ⟨r, hr⟩]
    show (decide (S.2 1 r = 1) && decide (¬ (1 ≤ r ∧ r ≤ 5))) = decide ((if 1 = 1 ∧ 1 ≤ r ∧ r ≤ 5 then 0 else S.2 1 r) = 1)
    by_cases c : 1 ≤ r ∧ r ≤ 5
    · rw [if_pos ⟨rfl, c⟩, decide_eq_false (show ¬ ¬ (1 ≤ r ∧ r ≤ 5) from fun z => z c), Bool.and_false]; rfl
    · rw [if_neg (fun z => c z.2), decide_eq_true c, Bool.and_true]
  · refine h3 r hr ?_
    have g : (if 1 = 1 ∧ 1 ≤ r ∧ r ≤ 5 then 0 else S.2 1 r) = 1 := g
    by_cases c : 1 ≤ r ∧ r ≤ 5
    · rw [if_pos ⟨rfl, c⟩] at g; cases g
    · rwa [if_neg (fun z => c z.2)] at g
  · rw [eI 174 k (by omega), eI 173 k (by omega), eS 3 k (by decide), eS 2 k (by decide)]; exact h4 k hk
  · rw [eI 3 j (by omega), eS 4 j (by decide)]; exact h5 j hj
  · have cx : vm_cx (vm_clr S) j = vm_cx S j := by unfold vm_cx; rw [sz, eS 5 j (by decide)]
    rw [eI 4 j (by omega), cx]; exact h6 j hj
  · rw [eI 6 j (by omega), eS 6 j (by decide)]; exact h7 j hj
  · rw [vm_led_es es (fun i => eS 7 i (by decide))]; unfold vc_led
    rw [eI 8 _ (by omega), eI 9 _ (by omega), eI 171 7 (by omega)]; exact h8 q hq
section
variable {Z : Nat} {K : Nat → Option (Nat × Nat)} {I : Nat → Nat → Int32} {L : Nat → Nat → Int64} {R : Nat → Nat → Value} {S : vm_S} {mo : Nat → Nat} {k : Nat} {key val : Nat → Nat}
/-- the end of a call: registers 1 to 5 have nothing, register 0 the answer -/
theorem vk_all_ans (hC : vm_CW K R) (hA : vk_all Z K I L R S mo) (x : Int64) : ∃ I1 L1, (∀ n sl, jv_Ms 54 [.ref 171, .int (0 : Int32), .long x] (jv_H K (jv_u I 171 2 (I 171 2 &&& (-63 : Int32))) L R) n sl (none, jv_H K I1 L1 R, n, sl)) ∧ vk_all Z K I1 L1 R (vm_ans S x) mo ∧ vc_ff (vk_Ec mo) I L I1 L1 := by
  have c1 := vc_m_gv (r := 0) (v := x) (vc_m_clr hA.1) (by decide)
  have oS : ∀ c i, c ≠ 1 → (vm_ans S x).2 c i = S.2 c i := fun c i h => by
    show jv_u (vm_clr S).2 1 0 1 c i = S.2 c i
    rw [jv_u_o _ _ _ _ h]; exact vm_clr_o h
  have em : vm_em S (vm_ans S x) := fun c i hc => oS c i (by omega)
  have o : ∀ q i, ¬ (q = 171 ∧ i = 2) → jv_u (jv_u I 171 2 (I 171 2 &&& (-63 : Int32))) 171 2 ((jv_u I 171 2 (I 171 2 &&& (-63 : Int32))) 171 2 ||| ((1 : Int32) <<< (vl_I 0 &&& 31))) q i = I q i := fun q i z => (vk_ux z).trans (vk_ux z)
  have oL : ∀ q i, q ≠ 172 → jv_u L 172 0 x q i = L q i := fun q i z => jv_u_o _ _ _ _ z
  refine ⟨_, _, fun n sl => vm_cset hC (r := 0) (by decide), ⟨c1, vk_M_ext (o _ _ (by decide)) (fun q i z => o q i (by omega)) (fun q i z => oL q i (by omega)) em hA.2.1, vk_G_ext (vm_em_s em) (fun i => oS 7 i (by decide)) (fun i => o _ _ (by omega)) (fun i => o _ _ (by omega)) (o _ _ (by decide)) hA.2.2.1, vm_ok_em em hA.2.2.2⟩, fun q i z => o q i (fun y => z (vk_Ec_o (by omega))), fun q i z => oL q i (fun y => z (vk_Ec_o (by omega)))⟩
theorem vc_mputM (hC : vm_CW K R) (hA : vk_all Z K I L R S mo) (hk : k < vm_cnt S) (h2 : S.2 8 k ≠ 2) (hg : vm_gat 1073750528 1073807360 S 2 (S.2 9 k) = some key) (hg3 : vm_gat 1073750528 1073807360 S 3 (S.2 10 k) = some val) {fl : Int64} (h4 : vm_rd S 4 = some fl) : ∃ I1, (∀ n sl, jv_Ms 72 [.ref 171, .ref (mo k)] (jv_H K I L R) n sl (some (.int (Int32.ofInt (vm_upd S k key val fl.toInt32.toInt).1)), jv_H K I1 L R, n, sl)) ∧ vk_all Z K I1 L R (vm_upd S k key val fl.toInt32.toInt).2 mo ∧ vc_ff (vk_Ec mo) I L I1 L := by
  obtain ⟨kd, kks, kvs, ken⟩ := vk_kd hA hk h2
  obtain ⟨m1, m2, m3⟩ := hA.2.1.2.1 k hk
  obtain ⟨a, hG2, rb, -, hkey⟩ := vc_gat (R := R) hC hA.1 (r := 2) (by decide) hg
  have hK5 := vm_cK hC 175 101 32 (by decide)
  have hK6 := vm_cK hC 176 101 256 (by decide)
  obtain ⟨I1, e1⟩ : ∃ I1, I1 = vm_wr I 175 0 (S.2 9 k) (fun j => vl_sb (key j)) := ⟨_, rfl⟩
  have hCP : ∀ n sl, jv_Ms 70 [.ref 171, .long a, .ref 175, .int (vl_I (S.2 9 k))] (jv_H K I L R) n sl (none, jv_H K I1 L R, n, sl) := fun n sl => by rw [e1]; exact vc_copy hC rb (Or.inl rfl) hK5 kks.2 (by decide) hA.1
  have hA1 : vk_all Z K I1 L R S mo := by rw [e1]; exact vk_all_row (Or.inl rfl) hA
  have f1 : vc_ff (vk_Ec mo) I L I1 L := by rw [e1]; exact vk_ff_row (Or.inl rfl)
  obtain ⟨b, hG3, rb3, -, hval⟩ := vc_gat (R := R) hC hA1.1 (r := 3) (by decide) hg3
  obtain ⟨I2, e2⟩ : ∃ I2, I2 = vm_wr I1 176 0 (S.2 10 k) (fun j => vl_sb (val j)) := ⟨_, rfl⟩
  have hCP2 : ∀ n sl, jv_Ms 70 [.ref 171, .long b, .ref 176, .int (vl_I (S.2 10 k))] (jv_H K I1 L R) n sl (none, jv_H K I2 L R, n, sl) := fun n sl => by rw [e2]; exact vc_copy hC rb3 (Or.inr rfl) hK6 kvs.2 (by decide) hA1.1
  have hA2 : vk_all Z K I2 L R S mo := by rw [e2]; exact vk_all_row (Or.inr rfl) hA1
  have f2 : vc_ff (vk_Ec mo) I1 L I2 L := by rw [e2]; exact vk_ff_row (Or.inr rfl)
  have hG4 := fun n sl => vm_cget (n := n) (sl := sl) hC hA2.1 (r := 4) (by decide) h4
  have rk : vk_row K I2 175 0 (S.2 9 k) key := ⟨32, hK5, by decide, by omega, by decide, by decide, fun j hj => by rw [e2, vm_wr_o (fun z => absurd z.1 (by decide)), e1, vm_wr_i hj]; exact ⟨rfl, hkey j hj⟩⟩
  have rv : vk_row K I2 176 0 (S.2 10 k) val := ⟨256, hK6, by decide, by omega, by decide, by decide, fun j hj => by rw [e2, vm_wr_i hj]; exact ⟨rfl, hval j hj⟩⟩
  have n3 := (hA1.2.1.2.1 k hk).2.2
  rcases kd with z | z
  · obtain ⟨I3, p1, p2, p3⟩ := vc_put0 hC hA2 hk z rk rv fl.toInt32
    exact ⟨I3, fun n sl => vc_mput0 hC (m3.2.1 z) m3.1.2.1 n3.1.2.2.1 hG2 hCP hG3 hCP2 hG4 p1, p2, vc_ff_trans f1 (vc_ff_trans f2 p3)⟩
  · obtain ⟨I3, p1, p2, p3⟩ := vc_put7 hC hA2 hk z rk rv fl.toInt32
    obtain ⟨ch, t1, t2⟩ := m3.2.2.1 z
    exact ⟨I3, fun n sl => vc_mput7 hC t1.1 m3.1.2.1 n3.1.2.2.1 hG2 hCP hG3 hCP2 hG4 p1, p2, vc_ff_trans f1 (vc_ff_trans f2 p3)⟩
theorem vc_mdropM (hC : vm_CW K R) (hA : vk_all Z K I L R S mo) (hk : k < vm_cnt S) (h1 : S.2 8 k = 1) (hg : vm_gat 1073750528 1073807360 S 2 (S.2 9 k) = some key) : ∃ I1, (∀ n sl, jv_Ms 73 [.ref 171, .ref (mo k)] (jv_H K I L R) n sl (some (.int (Int32.ofInt (vm_drop S k key).1)), jv_H K I1 L R, n, sl)) ∧ vk_all Z K I1 L R (vm_drop S k key).2 mo ∧ vc_ff (vk_Ec mo) I L I1 L := by
  obtain ⟨kd, kks, kvs, ken⟩ := vk_kd hA hk (show S.2 8 k ≠ 2 by omega)
  obtain ⟨m1, m2, m3⟩ := hA.2.1.2.1 k hk
  obtain ⟨a, hG2, rb, -, hkey⟩ := vc_gat (R := R) hC hA.1 (r := 2) (by decide) hg
  have hK5 := vm_cK hC 175 101 32 (by decide)
  obtain ⟨I1, e1⟩ : ∃ I1, I1 = vm_wr I 175 0 (S.2 9 k) (fun j => vl_sb (key j)) := ⟨_, rfl⟩
  have hCP : ∀ n sl, jv_Ms 70 [.ref 171, .long a, .ref 175, .int (vl_I (S.2 9 k))] (jv_H K I L R) n sl (none, jv_H K I1 L R, n, sl) := fun n sl => by rw [e1]; exact vc_copy hC rb (Or.inl rfl) hK5 kks.2 (by decide) hA.1
  have hA1 : vk_all Z K I1 L R S mo := by rw [e1]; exact vk_all_row (Or.inl rfl) hA
  have f1 : vc_ff (vk_Ec mo) I L I1 L := by rw [e1]; exact vk_ff_row (Or.inl rfl)
  have rk : vk_row K I1 175 0 (S.2 9 k) key := ⟨32, hK5, by decide, by omega, by decide, by decide, fun j hj => by rw [e1, vm_wr_i hj]; exact ⟨rfl, hkey j hj⟩⟩
  obtain ⟨I3, p1, p2, p3⟩ := vc_dropT hC hA1 hk h1 rk
  obtain ⟨ch, t1, t2⟩ := m3.2.2.1 h1
  exact ⟨I3, fun n sl => vc_mdrop hC t1.1 m3.1.2.1 hG2 hCP p1, p2, vc_ff_trans f1 p3⟩
theorem vc_msendM (hC : vm_CW K R) (hZ : Z ≤ 1000000000) (hA : vk_all Z K I L R S mo) (hk : k < vm_cnt S) (h2 : S.2 8 k = 2) {m : Int64} (h3 : vm_rd S 3 = some m) (hm : 1 ≤ m.toInt ∧ m.toInt ≤ 256) (hg : vm_gat 1073750528 1073807360 S 2 m.toInt.toNat = some key) : ∃ I1 L1, (∀ n sl, jv_Ms 74 [.ref 171, .ref (mo k)] (jv_H K I L R) n sl (some (.int (Int32.ofInt (vm_send S k key m.toInt.toNat).1)), jv_H K I1 L1 R, n, sl)) ∧ vk_all Z K I1 L1 R (vm_send S k key m.toInt.toNat).2 mo ∧ vc_ff (vk_Ec mo) I L I1 L1 := by
  obtain ⟨m1, m2, m3⟩ := hA.2.1.2.1 k hk
  obtain ⟨a, hG2, rb, -, hkey⟩ := vc_gat (R := R) hC hA.1 (r := 2) (by decide) hg
  have hG3 := fun n sl => vm_cget (n := n) (sl := sl) hC hA.1 (r := 3) (by decide) h3
  have hK6 := vm_cK hC 176 101 256 (by decide)
  have em : m.toInt32 = vl_I m.toInt.toNat := Int32.toInt_inj.mp (by rw [Int64.toInt_toInt32, vl_I_i (by omega), Int.bmod_def]; split <;> omega)
  obtain ⟨I1, e1⟩ : ∃ I1, I1 = vm_wr I 176 0 m.toInt.toNat (fun j => vl_sb (key j)) := ⟨_, rfl⟩
  have hCP : ∀ n sl, jv_Ms 70 [.ref 171, .long a, .ref 176, .int m.toInt32] (jv_H K I L R) n sl (none, jv_H K I1 L R, n, sl) := fun n sl => by rw [e1, em]; exact vc_copy hC rb (Or.inr rfl) hK6 (by omega) (by decide) hA.1
  have hA1 : vk_all Z K I1 L R S mo := by rw [e1]; exact vk_all_row (Or.inr rfl) hA
  have f1 : vc_ff (vk_Ec mo) I L I1 L := by rw [e1]; exact vk_ff_row (Or.inr rfl)
  have rk : vk_row K I1 176 0 m.toInt.toNat key := ⟨256, hK6, by decide, by omega, by decide, by decide, fun j hj => by rw [e1, vm_wr_i hj]; exact ⟨rfl, hkey j hj⟩⟩
  obtain ⟨I3, L3, p1, p2, p3⟩ := vc_sendR hC hZ hA1 hk h2 rk (by omega)
  rw [← em] at p1
  exact ⟨I3, L3, fun n sl => vc_msend hC (m3.2.2.2 h2).1 hG3 (fun z => by have := Int64.lt_iff_toInt_lt.mp z; rw [show (1 : Int64).toInt = 1 from by decide] at this; omega) (Int64.le_iff_toInt_le.mpr (by rw [show ((Int32.ofNat 256).toInt64).toInt = 256 from by decide]; omega)) hG2 hCP p1, p2, vc_ff_trans f1 p3⟩
/-- the context tells where the packet is -/
theorem vc_tellM (hC : vm_CW K R) {s : Nat} (hs : s ≤ 2048) (e21 : I 2 1 = vl_I s) : ∃ I1, (∀ n sl, jv_Ms 52 [.ref 171] (jv_H K I L R) n sl (none, jv_H K I1 L R, n, sl)) ∧ (∀ q i, ¬ (q = 4 ∧ i < 16) → I1 q i = I q i) ∧ (∀ j, j < 8 → I1 4 j = vl_sb (vm_bt 1073741824 j)) ∧ ∀ j, 8 ≤ j → j < 16 → I1 4 j = vl_sb (vm_bt (vm_J (1073741824 + s)) (j - 8)) := by
  have hK4 := vm_cK hC 4 101 64 (by decide)
  obtain ⟨I1, e1⟩ : ∃ I1, I1 = vm_wr I 4 0 8 (fun k => vl_sb (vm_bt 1073741824 k)) := ⟨_, rfl⟩
  have ez : (1073741824 : Int64) + (vl_I s).toInt64 = vm_J (1073741824 + s) := vm_J_nx (c := 1073741824) (by omega)
  obtain ⟨I2, e2⟩ : ∃ I2, I2 = vm_wr I1 4 8 8 (fun k => vl_sb (vm_bt (vm_J (1073741824 + s)) k)) := ⟨_, rfl⟩
  have hW1 : ∀ n sl, jv_Ms 122 [.ref 4, .int (0 : Int32), .int (8 : Int32), .long (1073741824 : Int64)] (jv_H K I L R) n sl (none, jv_H K I1 L R, n, sl) := fun n sl => by rw [e1]; exact vc_write (a := 0) (m := 8) hK4 (by decide) (by decide) (by decide)
  have hW2 : ∀ n sl, jv_Ms 122 [.ref 4, .int (8 : Int32), .int (8 : Int32), .long ((1073741824 : Int64) + (vl_I s).toInt64)] (jv_H K I1 L R) n sl (none, jv_H K I2 L R, n, sl) := fun n sl => by rw [e2, ez]; exact vc_write (a := 8) (m := 8) hK4 (by decide) (by decide) (by decide)
  refine ⟨I2, fun n sl => vc_tell_w hC (z := vl_I s) (by rw [e1]; exact (vm_wr_o (fun z => absurd z.1 (by decide))).trans e21) hW1 hW2, fun q i z => ?_, fun j hj => ?_, fun j h8 hj => ?_⟩
  · rw [e2, vm_wr_o (by omega), e1, vm_wr_o (by omega)]
  · rw [e2, vm_wr_o (by omega), e1]
    have := vm_wr_i (I := I) (r := 4) (a := 0) (n := 8) (k := j) (f := fun k => vl_sb (vm_bt 1073741824 k)) hj
    rwa [Nat.zero_add] at this
  · rw [e2]
    have := vm_wr_i (I := I1) (r := 4) (a := 8) (n := 8) (k := j - 8) (f := fun k => vl_sb (vm_bt (vm_J (1073741824 + s)) k)) (by omega)
    rwa [show 8 + (j - 8) = j by omega] at this
/-- the packet's size is told anew -/
theorem vk_all_size {I1 : Nat → Nat → Int32} {s : Nat} (hA : vk_all Z K I L R S mo) (hs : s ≤ 2048) (e21 : I1 2 1 = vl_I s) (o : ∀ q i, ¬ (q = 2 ∧ i = 1) → ¬ (q = 4 ∧ i < 16) → I1 q i = I q i) (h0 : ∀ j, j < 8 → I1 4 j = vl_sb (vm_bt 1073741824 j)) (h8 : ∀ j, 8 ≤ j → j < 16 → I1 4 j = vl_sb (vm_bt (vm_J (1073741824 + s)) (j - 8))) : vk_all Z K I1 L R (S.1, jv_u S.2 0 0 s) mo := by
  have oS : ∀ c i, ¬ (c = 0 ∧ i = 0) → jv_u S.2 0 0 s c i = S.2 c i := fun c i z => vk_ux z
  have em : vm_em S (S.1, jv_u S.2 0 0 s) := fun c i hc => oS c i (by omega)
  have ok := vm_ok_em em hA.2.2.2
  have hG : vk_G I1 (S.1, jv_u S.2 0 0 s) := vk_G_ext (vm_em_s em) (fun i => oS 7 i (by omega)) (fun i => o _ _ (by omega) (by omega)) (fun i => o _ _ (by omega) (by omega)) (o _ _ (by omega) (by omega)) hA.2.2.1
  obtain ⟨a1, a2, a3, a4, a5, a6, a7, a8, a9⟩ := hA.1
  refine ⟨⟨⟨e21.trans (by show _ = vl_I (jv_u S.2 0 0 s 0 0); rw [jv_u_self]), by show jv_u S.2 0 0 s 0 0 ≤ 2048; rw [jv_u_self]; exact hs⟩, fun r hr => ?_, fun r hr g => a3 r hr ((oS 1 r (by omega)).symm.trans g), fun j hj => ?_, fun j hj => ?_, fun j hj => ?_, fun j hj => ?_, vk_led ok.1 hG, a9⟩, vk_M_ext (o _ _ (by omega) (by omega)) (fun q i z => o q i (by omega) (by omega)) (fun _ _ _ => rfl) em hA.2.1, hG, ok⟩
  · rw [o 171 2 (by omega) (by omega), a2 r hr]
    show _ = decide (jv_u S.2 0 0 s 1 r = 1)
    rw [oS 1 r (by omega)]
  · show I1 174 j = vl_I (jv_u S.2 0 0 s 3 j) ∧ jv_u S.2 0 0 s 3 j ≤ 1 ∧ (jv_u S.2 0 0 s 3 j = 1 → I1 173 j = vl_sb (jv_u S.2 0 0 s 2 j) ∧ jv_u S.2 0 0 s 2 j < 256)
    rw [o 174 j (by omega) (by omega), o 173 j (by omega) (by omega), oS 3 j (by omega), oS 2 j (by omega)]; exact a4 j hj
  · show I1 3 j = vl_sb (jv_u S.2 0 0 s 4 j) ∧ jv_u S.2 0 0 s 4 j < 256
    rw [o 3 j (by omega) (by omega), oS 4 j (by omega)]; exact a5 j hj
  · have sz : vm_size (S.1, jv_u S.2 0 0 s) = s := (show jv_u S.2 0 0 s 0 0 = s from jv_u_self _ _ _ _)
    by_cases c : j < 8
    · have cx : vm_cx (S.1, jv_u S.2 0 0 s) j = vm_bt 1073741824 j := if_pos c
      rw [cx]; exact ⟨h0 j c, vm_bt_lt _ _⟩
    · by_cases d : j < 16
      · have cx : vm_cx (S.1, jv_u S.2 0 0 s) j = vm_bt (vm_J (1073741824 + s)) (j - 8) := by unfold vm_cx; rw [if_neg c, if_pos d, sz]
        rw [cx]; exact ⟨h8 j (by omega) d, vm_bt_lt _ _⟩
      · have cx : vm_cx (S.1, jv_u S.2 0 0 s) j = vm_cx S j := by unfold vm_cx; rw [if_neg c, if_neg d, if_neg c, if_neg d]; exact oS 5 j (by omega)
        rw [cx, o 4 j (by omega) (by omega)]; exact a6 j hj
  · show I1 6 j = vl_sb (jv_u S.2 0 0 s 6 j) ∧ jv_u S.2 0 0 s 6 j < 256
    rw [o 6 j (by omega) (by omega), oS 6 j (by omega)]; exact a7 j hj
end
