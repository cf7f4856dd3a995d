/-! part g14: calls of the class's machine on maps: looking and seeking (a hand text: this part is the source) -/
/-- the cells that a call on maps may change -/
def vk_mq (mo : Nat → Nat) (q : Nat) : Prop := ∃ k, mo k ≤ q ∧ q ≤ mo k + 4
def vk_Ec (mo : Nat → Nat) (q f : Nat) : Prop := (226 < q ∧ vk_mq mo q) ∨ q = 4 ∨ q = 6 ∨ q = 9 ∨ q = 172 ∨ q = 175 ∨ q = 176 ∨ (q = 171 ∧ f = 2) ∨ (q = 2 ∧ (f = 1 ∨ f = 8))
theorem vk_Ec_o {mo : Nat → Nat} {q f : Nat} (h : q = 4 ∨ q = 6 ∨ q = 9 ∨ q = 172 ∨ q = 175 ∨ q = 176 ∨ (q = 171 ∧ f = 2) ∨ (q = 2 ∧ (f = 1 ∨ f = 8))) : vk_Ec mo q f := Or.inr h
theorem vk_Ec_m {mo : Nat → Nat} {k q f : Nat} (h : 226 < q) (h1 : mo k ≤ q) (h2 : q ≤ mo k + 4) : vk_Ec mo q f := Or.inl ⟨h, k, h1, h2⟩
theorem vm_wr_e {α : Type} {I : Nat → Nat → α} {r a n : Nat} {f g : Nat → α} (h : ∀ j, j < n → f j = g j) : vm_wr I r a n f = vm_wr I r a n g := by
  funext q i
  unfold vm_wr
  by_cases c : q = r ∧ a ≤ i ∧ i < a + n
  · rw [if_pos c, if_pos c]; exact h _ (by omega)
  · rw [if_neg c, if_neg c]
theorem vm_by_wr {I : Nat → Nat → Int32} {A : Nat → Nat → Nat} {r c m a n : Nat} {f : Nat → Nat} (h : vm_by I r m (A c)) (hf : ∀ j, j < n → f j < 256) : vm_by (vm_wr I r a n (fun j => vl_sb (f j))) r m (vm_wr A c a n f c) := by
  intro j hj
  unfold vm_wr
  by_cases y : a ≤ j ∧ j < a + n
  · rw [if_pos ⟨rfl, y⟩, if_pos ⟨rfl, y⟩]; exact ⟨rfl, hf _ (by omega)⟩
  · rw [if_neg (fun z => y z.2), if_neg (fun z => y z.2)]; exact h j hj
theorem vm_by_ring {I : Nat → Nat → Int32} {A : Nat → Nat → Nat} {r c b m k : Nat} {f : Nat → Nat} (h : vm_by I r 65536 (A c)) : ∀ n, (∀ j, j < n → f j < 256) → vm_by (vm_ring I r b m k (fun j => vl_sb (f j)) n) r 65536 (vm_ring A c b m k f n c)
  | 0, _ => h
  | n + 1, hf => by
    have ih := vm_by_ring (b := b) (m := m) (k := k) h n (fun j hj => hf j (by omega))
    intro j hj
    show jv_u (vm_ring I r b m k (fun j => vl_sb (f j)) n) r (b + (k + n) % m) (vl_sb (f n)) r j = vl_sb (jv_u (vm_ring A c b m k f n) c (b + (k + n) % m) (f n) c j) ∧ jv_u (vm_ring A c b m k f n) c (b + (k + n) % m) (f n) c j < 256
    by_cases y : j = b + (k + n) % m
    · rw [y, jv_u_self, jv_u_self]; exact ⟨rfl, hf n (by omega)⟩
    · rw [jv_u_j _ _ _ _ y, jv_u_j _ _ _ _ y]; exact ih j hj
theorem vm_gat_s {SE AB : Int} {S : vm_S} {r n : Nat} {key : Nat → Nat} (h : vm_gat SE AB S r n = some key) : ∃ a, vm_rd S r = some a ∧ ∀ i, i < n → vm_get SE AB S (vm_nx a i) = some (key i) := by
  obtain ⟨a, ha, h⟩ := Option.bind_eq_some_iff.mp h
  refine ⟨a, ha, fun i hi => ?_⟩
  by_cases c : vm_all SE AB S a n
  · have h := (if_pos c).symm.trans h
    have e := Option.some.inj h
    rw [← e]
    obtain ⟨b, hb⟩ := c i hi
    show _ = some (if i < n then vm_row SE AB S a i else 0)
    rw [if_pos hi]
    unfold vm_row
    rw [hb]; rfl
  · have h := (if_neg c).symm.trans h
    cases h
section
variable {Z : Nat} {K : Nat → Option (Nat × Nat)} {I : Nat → Nat → Int32} {L : Nat → Nat → Int64} {R : Nat → Nat → Value} {S : vm_S} {mo : Nat → Nat} {k : Nat} {key : Nat → Nat}
theorem vk_all_row {r a n : Nat} {f : Nat → Int32} (hr : r = 175 ∨ r = 176) (h : vk_all Z K I L R S mo) : vk_all Z K (vm_wr I r a n f) L R S mo := by
  obtain ⟨h1, h2, h3, h4⟩ := h
  have o : ∀ q i, q ≠ 175 → q ≠ 176 → vm_wr I r a n f q i = I q i := fun q i x y => vm_wr_o (fun z => by omega)
  exact ⟨vm_c_wr hr h1, vk_M_ext (o _ _ (by omega) (by omega)) (fun q i z => o q i (by omega) (by omega)) (fun _ _ _ => rfl) (vm_em_r S) h2, vk_G_ext (vm_em_s (vm_em_r S)) (fun _ => rfl) (fun i => o _ _ (by omega) (by omega)) (fun i => o _ _ (by omega) (by omega)) (o _ _ (by omega) (by omega)) h3, h4⟩
theorem vk_ff_row {r a n : Nat} {f : Nat → Int32} (hr : r = 175 ∨ r = 176) : vc_ff (vk_Ec mo) I L (vm_wr I r a n f) L := ⟨fun q i z => vm_wr_o (fun y => z (vk_Ec_o (by omega))), fun _ _ _ => rfl⟩
theorem vc_gat (hC : vm_CW K R) (h : vm_c I L S) {r m : Nat} (hr : r < 11) (hg : vm_gat 1073750528 1073807360 S r m = some key) : ∃ a, (∀ n sl, jv_Ms 53 [.ref 171, .int (vl_I r)] (jv_H K I L R) n sl (some (.long a), jv_H K I L R, n, sl)) ∧ vc_rbs S a m key ∧ vm_rd S r = some a ∧ ∀ i, i < m → key i < 256 := by
  obtain ⟨a, ha, hb⟩ := vm_gat_s hg
  have rb : vc_rbs S a m key := fun i hi => Or.inl (hb i hi)
  exact ⟨a, fun n sl => vm_cget hC h hr ha, rb, ha, fun i hi => (vc_readByte (n := 0) (sl := 0) hC h (rb i hi)).2⟩
theorem vk_kd (hA : vk_all Z K I L R S mo) (hk : k < vm_cnt S) (h2 : S.2 8 k ≠ 2) : (S.2 8 k = 0 ∨ S.2 8 k = 1) ∧ (1 ≤ S.2 9 k ∧ S.2 9 k ≤ 32) ∧ (1 ≤ S.2 10 k ∧ S.2 10 k ≤ 256) ∧ (1 ≤ S.2 11 k ∧ S.2 11 k ≤ 4096) := by
  rcases hA.2.2.2.1.2.1 k hk with y | y
  · exact absurd y.1 h2
  · refine ⟨by omega, ?_, by omega, by omega⟩
    by_cases c : S.2 8 k = 0
    · have := y.2.2.2.2.2.1 c; omega
    · exact y.2.2.2.2.2.2 (by omega)
/-- the entry of a key, by the class -/
theorem vc_ent (hA : vk_all Z K I L R S mo) (hk : k < vm_cnt S) (h2 : S.2 8 k ≠ 2) {r len a : Nat} (hKr : K r = some (101, len)) (hlen : len < 2147483648) (ha : a + S.2 9 k ≤ len) (hB : vk_by I r a (S.2 9 k) key) : (S.2 8 k = 0 → ∀ n sl, jv_Ms 15 [.ref (mo k), .ref r, .int (vl_I a)] (jv_H K I L R) n sl (some (.int (vk_res (vm_ent S k key))), jv_H K I L R, n, sl)) ∧ (S.2 8 k = 1 → ∀ n sl, jv_Ms 134 [.ref (mo k), .ref r, .int (vl_I a)] (jv_H K I L R) n sl (some (.int (vk_res (vm_ent S k key))), jv_H K I L R, n, sl)) := by
  obtain ⟨kd, kks, kvs, ken⟩ := vk_kd hA hk h2
  obtain ⟨-, -, ⟨b0, b1, b2, b3, -⟩, k0, k1, -⟩ := hA.2.1.2.1 k hk
  constructor
  · intro z n sl
    have z4 : S.2 9 k = 4 := by
      rcases hA.2.2.2.1.2.1 k hk with y | y
      · omega
      · exact y.2.2.2.2.2.1 z
    rw [z4] at ha hB
    have e : vm_ent S k key = if vm_le key 0 4 < S.2 11 k then some (vm_le key 0 4) else none := if_pos z
    obtain ⟨X, hX, eX⟩ := vk_aent (n := n) (sl := sl) (L := L) (R := R) (P := fun X => X = (some (.int (vk_res (vm_ent S k key))), jv_H K I L R, n, sl)) (k0 z) b3 ken.2 hKr hlen ha hB (fun c => by rw [e, if_pos c]; rfl) (fun c => by rw [e, if_neg (by omega)]; rfl)
    rw [← eX]; exact hX
  · intro z n sl
    obtain ⟨ch, t1, t2⟩ := k1 z
    refine vk_entryOf t1 t2 hKr hlen ha hB (fun e he te ke => ?_) (fun hn => ?_)
    · cases q : vm_ent S k key with
      | none => exact absurd (vm_ent_none z q e he te) (by rw [ke]; decide)
      | some x =>
        have y := vm_ent_some z q
        have u := vm_uq_e (hA.2.2.2.2.1 k hk z) he y.1 te y.2.1 ke y.2.2
        rw [u]; rfl
    · cases q : vm_ent S k key with
      | none => rfl
      | some x =>
        have y := vm_ent_some z q
        exact absurd (hn x y.1 y.2.1) (by rw [y.2.2]; decide)
theorem vk_ent_lt (h2 : S.2 8 k = 0 ∨ S.2 8 k = 1) {e : Nat} (h : vm_ent S k key = some e) : e < S.2 11 k := by
  rcases h2 with z | z
  · have y : vm_ent S k key = if vm_le key 0 4 < S.2 11 k then some (vm_le key 0 4) else none := if_pos z
    rw [y] at h
    by_cases c : vm_le key 0 4 < S.2 11 k
    · rw [if_pos c] at h; rw [← Option.some.inj h]; exact c
    · rw [if_neg c] at h; cases h
  · exact (vm_ent_some z h).1
theorem vk_ptr {x : Nat} (h : x < 1000000) : (1073807360 : Int64) + (vl_I x).toInt64 = vm_i (1073807360 + (x : Int)) := by
  refine Int64.toInt_inj.mp ?_
  rw [vi_add (by decide), vl_I_i (by omega)]
  have e : (vm_i (1073807360 + (x : Int))).toInt = 1073807360 + (x : Int) := by
    show (BitVec.ofInt 64 (1073807360 + (x : Int))).toInt = _
    rw [BitVec.toInt_ofInt]
    exact vi_bm (by omega) (by omega)
  rw [e]; rfl
/-- where a program's call 1 leads -/
def vm_sk (AB : Int) (S : vm_S) (k : Nat) (key : Nat → Nat) : Int64 × vm_S := match vm_ent S k key with
  | none => (0, S)
  | some e => (vm_i (AB + vm_at S k e), if S.2 8 k = 0 then S else (S.1, jv_u S.2 7 (4096 * k + e) 1))
theorem vc_seekM (hC : vm_CW K R) (hA : vk_all Z K I L R S mo) (hk : k < vm_cnt S) (h2 : S.2 8 k ≠ 2) (hg : vm_gat 1073750528 1073807360 S 2 (S.2 9 k) = some key) : ∃ I1, (∀ n sl, jv_Ms 71 [.ref 171, .ref (mo k)] (jv_H K I L R) n sl (some (.long (vm_sk 1073807360 S k key).1), jv_H K I1 L R, n, sl)) ∧ vk_all Z K I1 L R (vm_sk 1073807360 S k key).2 mo ∧ vc_ff (vk_Ec mo) I L I1 L := by
  obtain ⟨kd, kks, kvs, ken⟩ := vk_kd hA hk h2
  obtain ⟨m1, m2, m3⟩ := hA.2.1.2.1 k hk
  obtain ⟨a, hG2, rb, -, hkey⟩ := vc_gat (R := R) hC hA.1 (r := 2) (by decide) hg
  have hK5 := vm_cK hC 175 101 32 (by decide)
  obtain ⟨I1, e1⟩ : ∃ I1, I1 = vm_wr I 175 0 (S.2 9 k) (fun j => vl_sb (key j)) := ⟨_, rfl⟩
  have hCP : ∀ n sl, jv_Ms 70 [.ref 171, .long a, .ref 175, .int (vl_I (S.2 9 k))] (jv_H K I L R) n sl (none, jv_H K I1 L R, n, sl) := fun n sl => by rw [e1]; exact vc_copy hC rb (Or.inl rfl) hK5 kks.2 (by decide) hA.1
  have hA1 : vk_all Z K I1 L R S mo := by rw [e1]; exact vk_all_row (Or.inl rfl) hA
  have f1 : vc_ff (vk_Ec mo) I L I1 L := by rw [e1]; exact vk_ff_row (Or.inl rfl)
  have hB : vk_by I1 175 0 (S.2 9 k) key := fun j hj => by rw [e1, vm_wr_i hj]; exact ⟨rfl, hkey j hj⟩
  obtain ⟨hE0, hE1⟩ := vc_ent hA1 hk h2 hK5 (by decide) (by omega) hB
  obtain ⟨n1, n2, n3⟩ := hA1.2.1.2.1 k hk
  have hT := vk_at_B hC n3 hA1.2.2.2 hk h2
  have hks : I (mo k) 1 = vl_I (S.2 9 k) := m3.1.2.1
  cases q : vm_ent S k key with
  | none =>
    rw [q] at hE0 hE1
    have es : vm_sk 1073807360 S k key = (0, S) := by unfold vm_sk; rw [q]
    rw [es]
    rcases kd with z | z
    · exact ⟨I1, fun n sl => vc_seek_n0 hC (n3.2.1 z) hks hG2 hCP (hE0 z), hA1, f1⟩
    · obtain ⟨ch, t1, t2⟩ := n3.2.2.1 z
      exact ⟨I1, fun n sl => vc_seek_n7 hC t1.1 hks hG2 hCP (hE1 z), hA1, f1⟩
  | some e =>
    rw [q] at hE0 hE1
    have he := vk_ent_lt kd q
    have es : vm_sk 1073807360 S k key = (vm_i (1073807360 + vm_at S k e), if S.2 8 k = 0 then S else (S.1, jv_u S.2 7 (4096 * k + e) 1)) := by unfold vm_sk; rw [q]
    have at_ := vm_at_in hA.2.2.2.1 hk h2 he
    have px := vk_ptr (x := vm_at S k e) (by omega)
    rw [es, ← px]
    rcases kd with z | z
    · rw [if_pos z]
      have hK0 := n3.2.1 z
      have b0 : I1 (mo k) 0 = vl_I 0 := by rw [n3.1.1, z]
      refine ⟨I1, fun n sl => ?_, hA1, f1⟩
      exact vc_seek_s0 hC hK0 hks hG2 hCP (by omega) (hE0 z) rfl (fun n sl => vc_lead0 hC hK0 b0 n3.1.2.2.1 kvs) (fun n sl => vk_where0 (e := e) hK0 hT)
    · rw [if_neg (by omega)]
      obtain ⟨ch, t1, t2⟩ := n3.2.2.1 z
      have hK0 := t1.1
      have b0 : I1 (mo k) 0 = vl_I 1 := by rw [n3.1.1, z]
      have g8 := vm_at_8 hA.2.2.2.1 (e := e) hk
      have hg0 : S.2 12 k + e * vm_fill (S.2 10 k) = 8 * vk_grn S k e := by
        show vm_at S k e = 8 * (vm_at S k e / 8); omega
      obtain ⟨I2, e2⟩ : ∃ I2, I2 = vm_wr I1 9 (vk_grn S k e) ((S.2 10 k + 7) / 8) (fun _ => I1 171 7) := ⟨_, rfl⟩
      have o2 : ∀ q i, q ≠ 9 → I2 q i = I1 q i := fun q i z => by rw [e2]; exact vm_wr_o (fun y => z y.1)
      have hLD : ∀ n sl, jv_Ms 128 [.ref 2, .ref (mo k), .int (vl_I e), .int (I1 171 7)] (jv_H K I1 L R) n sl (none, jv_H K I2 L R, n, sl) := fun n sl => by rw [e2]; exact vc_lead7 hC hK0 hT b0 (by omega) he hg0 kvs
      have hT2 : vk_B K I2 R (mo k) (S.2 12 k) (vm_fill (S.2 10 k)) (S.2 10 k) (S.2 11 k) := by rw [e2]; exact vk_B_wr hT (by omega)
      refine ⟨I2, fun n sl => vc_seek_s7 hC hK0 hks hG2 hCP (by omega) (hE1 z) rfl hLD (fun n sl => vk_where7 (e := e) hK0 hT2), ?_, vc_ff_trans f1 ⟨fun q i w => o2 q i (fun y => w (vk_Ec_o (by omega))), fun _ _ _ => rfl⟩⟩
      have em : vm_em S (S.1, jv_u S.2 7 (4096 * k + e) 1) := fun c i hc => jv_u_o _ _ _ _ (by omega)
      have hG : vk_G I2 (S.1, jv_u S.2 7 (4096 * k + e) 1) := by rw [e2]; exact vk_G_led hA1.2.2.2.1 hk z he hA1.2.2.1
      have ok := vm_ok_em em hA1.2.2.2
      refine ⟨vm_c_new hA1.1 (fun q i y y9 _ => o2 q i y9) ?_ (fun _ _ _ => rfl) rfl (fun c i hc => jv_u_o _ _ _ _ (by omega)) (vk_led ok.1 hG), vk_M_ext (o2 _ _ (by decide)) (fun q i y => o2 q i (by omega)) (fun _ _ _ => rfl) em hA1.2.1, hG, ok⟩
      intro j hj
      rw [o2 6 j (by decide)]
      show I1 6 j = vl_sb (jv_u S.2 7 (4096 * k + e) 1 6 j) ∧ jv_u S.2 7 (4096 * k + e) 1 6 j < 256
      rw [jv_u_o _ _ _ _ (show 6 ≠ 7 by decide)]
      exact hA1.1.2.2.2.2.2.2.1 j hj
end
