/-! part g15: updates, drops, sends of the class's maps (a hand text: this part is the source) -/
section
variable {Z : Nat} {K : Nat → Option (Nat × Nat)} {I : Nat → Nat → Int32} {L : Nat → Nat → Int64} {R : Nat → Nat → Value} {S : vm_S} {mo : Nat → Nat} {k : Nat} {key val : Nat → Nat}
theorem vk_all_write (hA : vk_all Z K I L R S mo) {e : Nat} (hv : ∀ j, j < S.2 10 k → val j < 256) : vk_all Z K (vm_wr I 6 (vm_at S k e) (S.2 10 k) (fun j => vl_sb (val j))) L R (vm_write S k e val) mo := by
  have o : ∀ q i, q ≠ 6 → vm_wr I 6 (vm_at S k e) (S.2 10 k) (fun j => vl_sb (val j)) q i = I q i := fun q i y => vm_wr_o (fun z => y z.1)
  have oS : ∀ c i, c ≠ 6 → (vm_write S k e val).2 c i = S.2 c i := fun c i y => vm_wr_o (fun z => y z.1)
  have em : vm_em S (vm_write S k e val) := fun c i hc => oS c i (by omega)
  have ok := vm_ok_em em hA.2.2.2
  have hG : vk_G (vm_wr I 6 (vm_at S k e) (S.2 10 k) (fun j => vl_sb (val j))) (vm_write S k e val) := vk_G_ext (vm_em_s em) (fun i => oS 7 i (by decide)) (fun i => o _ _ (by decide)) (fun i => o _ _ (by decide)) (o _ _ (by decide)) hA.2.2.1
  exact ⟨vm_c_new hA.1 (fun q i _ _ y => o q i y) (vm_by_wr (A := S.2) hA.1.2.2.2.2.2.2.1 hv) (fun _ _ _ => rfl) rfl (fun c i hc => oS c i (by omega)) (vk_led ok.1 hG), vk_M_ext (o _ _ (by decide)) (fun q i y => o q i (by omega)) (fun _ _ _ => rfl) em hA.2.1, hG, ok⟩
theorem vk_ff_wr {a n : Nat} {f : Nat → Int32} : vc_ff (vk_Ec mo) I L (vm_wr I 6 a n f) L := ⟨fun q i z => vm_wr_o (fun y => z (vk_Ec_o (by omega))), fun _ _ _ => rfl⟩
/-- the row r has, from a on, the n bytes B -/
def vk_row (K : Nat → Option (Nat × Nat)) (I : Nat → Nat → Int32) (r a n : Nat) (B : Nat → Nat) : Prop := ∃ len, K r = some (101, len) ∧ len < 2147483648 ∧ a + n ≤ len ∧ r < 227 ∧ r ≠ 6 ∧ vk_by I r a n B
theorem vk_row_ext {I1 : Nat → Nat → Int32} {r a n : Nat} {B : Nat → Nat} (h : vk_row K I r a n B) (hI : ∀ i, I1 r i = I r i) : vk_row K I1 r a n B := by
  obtain ⟨len, h1, h2, h3, h4, h5, h6⟩ := h
  exact ⟨len, h1, h2, h3, h4, h5, fun j hj => by rw [hI]; exact h6 j hj⟩
theorem vk_fl1 {fl : Int32} : fl = (1 : Int32) ↔ fl.toInt = 1 := by rw [← Int32.toInt_inj]; exact Iff.rfl
theorem vk_fl2 {fl : Int32} : fl = (2 : Int32) ↔ fl.toInt = 2 := by rw [← Int32.toInt_inj]; exact Iff.rfl
/-- a value is written, at last -/
theorem vk_wrote (hC : vm_CW K R) (hA : vk_all Z K I L R S mo) (hk : k < vm_cnt S) (h2 : S.2 8 k ≠ 2) {e : Nat} (he : e < S.2 11 k) {v b : Nat} (hv : vk_row K I v b (S.2 10 k) val) : ∃ I1, (∀ n sl, jv_Ms 12 [.ref (mo k), .int (vl_I e), .ref v, .int (vl_I b)] (jv_H K I L R) n sl (none, jv_H K I1 L R, n, sl)) ∧ vk_all Z K I1 L R (vm_write S k e val) mo ∧ vc_ff (vk_Ec mo) I L I1 L := by
  obtain ⟨kd, kks, kvs, ken⟩ := vk_kd hA hk h2
  obtain ⟨len, v1, v2, v3, v4, v5, v6⟩ := hv
  obtain ⟨n1, n2, n3⟩ := hA.2.1.2.1 k hk
  have hT := vk_at_B hC n3 hA.2.2.2 hk h2
  have ew : vm_wr I 6 (vm_at S k e) (S.2 10 k) (fun j => I v (b + j)) = vm_wr I 6 (vm_at S k e) (S.2 10 k) (fun j => vl_sb (val j)) := vm_wr_e (fun j hj => (v6 j hj).1)
  refine ⟨_, ?_, vk_all_write (e := e) hA (fun j hj => (v6 j hj).2), vk_ff_wr⟩
  rw [← ew]
  intro n sl
  rcases kd with z | z
  · exact vk_wval0 (n3.2.1 z) hT he v1 v2 v3
  · obtain ⟨ch, t1, t2⟩ := n3.2.2.1 z
    exact vk_wval7 t1.1 hT he v1 v2 v3
theorem vc_put0 (hC : vm_CW K R) (hA : vk_all Z K I L R S mo) (hk : k < vm_cnt S) (h0 : S.2 8 k = 0) {r a v b : Nat} (hr : vk_row K I r a (S.2 9 k) key) (hv : vk_row K I v b (S.2 10 k) val) (fl : Int32) : ∃ I1, (∀ n sl, jv_Ms 16 [.ref (mo k), .ref r, .int (vl_I a), .ref v, .int (vl_I b), .int fl] (jv_H K I L R) n sl (some (.int (Int32.ofInt (vm_upd S k key val fl.toInt).1)), jv_H K I1 L R, n, sl)) ∧ vk_all Z K I1 L R (vm_upd S k key val fl.toInt).2 mo ∧ vc_ff (vk_Ec mo) I L I1 L := by
  have h2 : S.2 8 k ≠ 2 := by omega
  obtain ⟨kd, kks, kvs, ken⟩ := vk_kd hA hk h2
  have hK0 := (hA.2.1.2.1 k hk).2.2.2.1 h0
  obtain ⟨len, r1, r2, r3, r4, r5, r6⟩ := id hr
  have hE := (vc_ent hA hk h2 r1 r2 r3 r6).1 h0
  by_cases cf : 0 ≤ fl.toInt ∧ fl.toInt ≤ 2
  · cases q : vm_ent S k key with
    | none =>
      have e : vm_upd S k key val fl.toInt = (-7, S) := by unfold vm_upd; rw [if_neg (by omega), q]; exact if_pos h0
      rw [q] at hE
      rw [e]
      exact ⟨I, fun n sl => vk_aput_n hK0 cf hE, hA, vc_ff_refl _ I L⟩
    | some x =>
      have hx := vk_ent_lt kd q
      rw [q] at hE
      by_cases c1 : fl = 1
      · have e : vm_upd S k key val fl.toInt = (-17, S) := by unfold vm_upd; rw [if_neg (by omega), q]; exact if_pos (vk_fl1.mp c1)
        rw [e]
        exact ⟨I, fun n sl => vk_aput_1 hK0 cf (show x < 4096 by omega) hE c1, hA, vc_ff_refl _ I L⟩
      · have e : vm_upd S k key val fl.toInt = (0, vm_write S k x val) := by unfold vm_upd; rw [if_neg (by omega), q]; exact if_neg (fun z => c1 (vk_fl1.mpr z))
        rw [e]
        obtain ⟨I1, w1, w2, w3⟩ := vk_wrote hC hA hk h2 hx hv
        exact ⟨I1, fun n sl => vk_aput_w hK0 cf (show x < 4096 by omega) hE c1 w1, w2, w3⟩
  · have e : vm_upd S k key val fl.toInt = (-22, S) := by unfold vm_upd; exact if_pos (by omega)
    rw [e]
    exact ⟨I, fun n sl => vk_aput_f hK0 cf, hA, vc_ff_refl _ I L⟩
/-- a table's cells have changed, and which entries are taken, and keys -/
theorem vk_all_tab {I1 : Nat → Nat → Int32} {T : vm_S} {ch : Nat} (hA : vk_all Z K I L R S mo) (hk : k < vm_cnt S) (h1 : S.2 8 k = 1) (t1 : vk_TW K R (mo k) (S.2 9 k) (S.2 11 k) ch) (fr : vk_fr I I1 (mo k)) (nt : vk_T I1 (mo k) (S.2 9 k) (S.2 11 k) ch (vk_tk T k) (vk_ky T k)) (T1 : T.1 = S.1) (oT : ∀ c i, c ≠ 13 → c ≠ 14 → T.2 c i = S.2 c i) (cs : ∀ k', k' < vm_cnt S → k' ≠ k → vm_emk S T k') (hu : vm_uq T k) : vk_all Z K I1 L R T mo ∧ vc_ff (vk_Ec mo) I L I1 L := by
  have n2 := (hA.2.1.2.1 k hk).2.1
  obtain ⟨⟨b0, b1, b2, b3, b4, b5, b6⟩, k0, k1, k2⟩ := (hA.2.1.2.1 k hk).2.2
  have o : ∀ q i, q < 227 → I1 q i = I q i := fun q i y => fr q i (by omega) (by omega)
  have oo : ∀ i, i < 11 → I1 (mo k) i = I (mo k) i := fun i y => fr _ _ (by omega) (by omega)
  have es : vm_es S T := ⟨oT 0 1 (by decide) (by decide), oT 0 2 (by decide) (by decide), fun c i hc => oT c i (by omega) (by omega)⟩
  have ok : vm_ok Z T := vm_ok_one es hA.2.2.2 cs (fun _ => hu) (fun z => by omega)
  have hG : vk_G I1 T := vk_G_ext es (fun i => oT 7 i (by decide) (by decide)) (fun i => o _ _ (by decide)) (fun i => o _ _ (by decide)) (o _ _ (by decide)) hA.2.2.1
  have c8 := oT 8 k (by decide) (by decide)
  have c9 := oT 9 k (by decide) (by decide)
  have c10 := oT 10 k (by decide) (by decide)
  have c11 := oT 11 k (by decide) (by decide)
  have c12 := oT 12 k (by decide) (by decide)
  refine ⟨⟨vm_c_new hA.1 (fun q i y _ _ => o q i (by unfold vm_cell at y; omega)) (fun j hj => by rw [o 6 j (by decide), oT 6 j (by decide) (by decide)]; exact hA.1.2.2.2.2.2.2.1 j hj) (fun _ _ _ => rfl) T1 (fun c i hc => oT c i (by omega) (by omega)) (vk_led ok.1 hG), ?_, hG, ok⟩, fun q i z => fr q i (fun y => z (vk_Ec_m (k := k) (by omega) (by omega) (by omega))) (fun y => z (vk_Ec_m (k := k) (by omega) (by omega) (by omega))), fun _ _ _ => rfl⟩
  refine vk_M_one hA.2.1 hk (o _ _ (by decide)) (fun q i y z => fr q i (by omega) (by omega)) (fun _ _ _ _ => rfl) es.1 cs ⟨⟨by rw [oo 0 (by decide), c8]; exact b0, by rw [oo 1 (by decide), c9]; exact b1, by rw [oo 2 (by decide), c10]; exact b2, by rw [oo 3 (by decide), c11]; exact b3, b4, by rw [oo 5 (by decide), c12]; exact b5, by rw [oo 6 (by decide), c10]; exact b6⟩, fun z => by omega, fun _ => ⟨ch, by rw [c9, c11]; exact t1, by rw [c9, c11]; exact nt⟩, fun z => by omega⟩
theorem vm_take_o {f : Nat} (c i : Nat) (h1 : c ≠ 13) (h2 : c ≠ 14) : (vm_take S k f key).2 c i = S.2 c i := (vm_wr_o (fun z => h2 z.1)).trans (jv_u_o _ _ _ _ h1)
theorem vm_take_t {f e k' : Nat} (h : ¬ (k' = k ∧ e = f)) (he : e < 4096) (hf : f < 4096) : vk_tk (vm_take S k f key) k' e = vk_tk S k' e := by
  show vm_wr (jv_u S.2 13 (4096 * k + f) 1) 14 (131072 * k + 32 * f) (S.2 9 k) key 13 (4096 * k' + e) = S.2 13 (4096 * k' + e)
  rw [vm_wr_o (fun z => absurd z.1 (by decide)), jv_u_j _ _ _ _ (fun z => h (by omega))]
theorem vm_take_k {f e j k' : Nat} (hks : S.2 9 k ≤ 32) (h : ¬ (k' = k ∧ e = f)) (he : e < 4096) (hf : f < 4096) (hj : j < 32) : vk_ky (vm_take S k f key) k' e j = vk_ky S k' e j := by
  show vm_wr (jv_u S.2 13 (4096 * k + f) 1) 14 (131072 * k + 32 * f) (S.2 9 k) key 14 (131072 * k' + 32 * e + j) = S.2 14 (131072 * k' + 32 * e + j)
  rw [vm_wr_o (fun z => h (by omega)), jv_u_o _ _ _ _ (by decide)]
theorem vm_take_t1 {f : Nat} : vk_tk (vm_take S k f key) k f = 1 := by
  show vm_wr (jv_u S.2 13 (4096 * k + f) 1) 14 (131072 * k + 32 * f) (S.2 9 k) key 13 (4096 * k + f) = 1
  rw [vm_wr_o (fun z => absurd z.1 (by decide)), jv_u_self]
theorem vm_take_k1 {f j : Nat} (hj : j < S.2 9 k) : vk_ky (vm_take S k f key) k f j = key j := vm_wr_i hj
theorem vc_put7 (hC : vm_CW K R) (hA : vk_all Z K I L R S mo) (hk : k < vm_cnt S) (h1 : S.2 8 k = 1) {r a v b : Nat} (hr : vk_row K I r a (S.2 9 k) key) (hv : vk_row K I v b (S.2 10 k) val) (fl : Int32) : ∃ I1, (∀ n sl, jv_Ms 458 [.ref (mo k), .ref r, .int (vl_I a), .ref v, .int (vl_I b), .int fl] (jv_H K I L R) n sl (some (.int (Int32.ofInt (vm_upd S k key val fl.toInt).1)), jv_H K I1 L R, n, sl)) ∧ vk_all Z K I1 L R (vm_upd S k key val fl.toInt).2 mo ∧ vc_ff (vk_Ec mo) I L I1 L := by
  have h2 : S.2 8 k ≠ 2 := by omega
  obtain ⟨kd, kks, kvs, ken⟩ := vk_kd hA hk h2
  obtain ⟨n1, n2, n3⟩ := hA.2.1.2.1 k hk
  obtain ⟨ch, t1, t2⟩ := n3.2.2.1 h1
  have hK0 := t1.1
  obtain ⟨len, r1, r2, r3, r4, r5, r6⟩ := id hr
  have hE := (vc_ent hA hk h2 r1 r2 r3 r6).2 h1
  by_cases cf : 0 ≤ fl.toInt ∧ fl.toInt ≤ 2
  · cases q : vm_ent S k key with
    | some x =>
      have hx := vk_ent_lt kd q
      rw [q] at hE
      by_cases c1 : fl = 1
      · have e : vm_upd S k key val fl.toInt = (-17, S) := by unfold vm_upd; rw [if_neg (by omega), q]; exact if_pos (vk_fl1.mp c1)
        rw [e]
        exact ⟨I, fun n sl => vk_tput_1 hK0 cf (show x < 4096 by omega) hE c1, hA, vc_ff_refl _ I L⟩
      · have e : vm_upd S k key val fl.toInt = (0, vm_write S k x val) := by unfold vm_upd; rw [if_neg (by omega), q]; exact if_neg (fun z => c1 (vk_fl1.mpr z))
        rw [e]
        obtain ⟨I1, w1, w2, w3⟩ := vk_wrote hC hA hk h2 hx hv
        exact ⟨I1, fun n sl => vk_tput_w hK0 cf (show x < 4096 by omega) hE c1 w1, w2, w3⟩
    | none =>
      rw [q] at hE
      by_cases c2 : fl = 2
      · have e : vm_upd S k key val fl.toInt = (-2, S) := by unfold vm_upd; rw [if_neg (by omega), q]; show (if S.2 8 k = 0 then _ else if fl.toInt = 2 then _ else _) = _; rw [if_neg (by omega), if_pos (vk_fl2.mp c2)]
        rw [e]
        exact ⟨I, fun n sl => vk_tput_2 hK0 cf hE (fun z => absurd (z.symm.trans c2) (by decide)) c2, hA, vc_ff_refl _ I L⟩
      · have c2' : ¬ fl.toInt = 2 := fun z => c2 (vk_fl2.mpr z)
        obtain ⟨e1, e3, htk, hky, hc, e11, ff, e12, hff, hfa⟩ := id t2
        obtain ⟨-, f2, f3, f4⟩ := vk_fi (g := fun e => decide (S.2 13 (4096 * k + e) = 1)) (S.2 11 k) 0
        have f3 : ∀ e, e < vm_free S k → vk_tk S k e = 1 := fun e he => of_decide_eq_true (f3 e (Nat.zero_le e) he)
        have nle := vk_n_le (S.2 11 k) (fun e he => (htk e he).2)
        by_cases c3 : vm_free S k < S.2 11 k
        · have e : vm_upd S k key val fl.toInt = (0, vm_write (vm_take S k (vm_free S k) key) k (vm_free S k) val) := by unfold vm_upd; rw [if_neg (by omega), q]; show (if S.2 8 k = 0 then _ else if fl.toInt = 2 then _ else if vm_free S k < S.2 11 k then _ else _) = _; rw [if_neg (by omega), if_neg c2', if_pos c3]
          rw [e]
          obtain ⟨f, ef⟩ : ∃ f, f = vm_free S k := ⟨_, rfl⟩
          have f0 : vk_tk S k f = 0 := by
            have y : S.2 13 (4096 * k + vm_free S k) ≠ 1 := of_decide_eq_false (f4 (by rw [Nat.zero_add]; exact c3))
            have := (htk f (by omega)).2
            rw [← ef] at y
            have y : vk_tk S k f ≠ 1 := y
            omega
          rw [← ef] at f3 c3 ⊢
          have hcnt : vk_n (vk_tk S k) (S.2 11 k) < S.2 11 k := Nat.lt_of_not_le (fun z => by have := vk_n_full (S.2 11 k) (fun e he => (htk e he).2) z f c3; omega)
          obtain ⟨I1, hO, nt, fr⟩ := vk_occupy (L := L) (tk' := vk_tk (vm_take S k f key) k) (ky' := vk_ky (vm_take S k f key) k) t1 t2 r1 r2 (by omega) r3 r6 c3 f0 f3 vm_take_t1 (fun e he hn => vm_take_t (fun z => hn z.2) (by omega) (by omega)) (fun j hj => vm_take_k1 hj) (fun e j he hn hj => vm_take_k (by omega) (fun z => hn z.2) (by omega) (by omega) (by omega))
          obtain ⟨hA1, ff1⟩ := vk_all_tab (T := vm_take S k f key) hA hk h1 t1 fr nt rfl (fun c i y z => vm_take_o c i y z) (fun k' hk' hn => ⟨fun c hc => vm_take_o c k' (by omega) (by omega), fun e he => vm_take_t (fun z => hn z.1) he (by omega), fun e j he hj => vm_take_k (by omega) (fun z => hn z.1) he (by omega) hj⟩) (by
            intro x x' hx hx' tx tx' hj
            have o11 : (vm_take S k f key).2 11 k = S.2 11 k := vm_take_o 11 k (by decide) (by decide)
            have o9 : (vm_take S k f key).2 9 k = S.2 9 k := vm_take_o 9 k (by decide) (by decide)
            rw [o11] at hx hx'
            rw [o9] at hj
            have nk := vm_ent_none h1 q
            have one : ∀ y, y < S.2 11 k → y ≠ f → vk_tk (vm_take S k f key) k y = 1 → (∀ j, j < S.2 9 k → vk_ky (vm_take S k f key) k f j = vk_ky (vm_take S k f key) k y j) → False := fun y hy hn ty ky => by
              rw [vm_take_t (fun z => hn z.2) (by omega) (by omega)] at ty
              have w : vk_eq (vk_ky S k y) key (S.2 9 k) = true := vk_eq_t.mpr (fun j hj => by
                have := ky j hj
                rw [vm_take_k1 hj, vm_take_k (by omega) (fun z => hn z.2) (by omega) (by omega) (by omega)] at this
                exact this.symm)
              exact absurd (nk y hy ty) (by rw [w]; decide)
            by_cases cx : x = f
            · by_cases cy : x' = f
              · rw [cx, cy]
              · rw [cx] at hj; exact (one x' hx' cy tx' hj).elim
            · by_cases cy : x' = f
              · rw [cy] at hj; exact (one x hx cx tx (fun j y => (hj j y).symm)).elim
              · rw [vm_take_t (fun z => cx z.2) (by omega) (by omega)] at tx
                rw [vm_take_t (fun z => cy z.2) (by omega) (by omega)] at tx'
                refine hA.2.2.2.2.1 k hk h1 x x' hx hx' tx tx' (fun j y => ?_)
                have := hj j y
                rwa [vm_take_k (by omega) (fun z => cx z.2) (by omega) (by omega) (by omega), vm_take_k (by omega) (fun z => cy z.2) (by omega) (by omega) (by omega)] at this)
          have oT : ∀ c i, c ≠ 13 → c ≠ 14 → (vm_take S k f key).2 c i = S.2 c i := fun c i y z => vm_take_o c i y z
          have q0 : vm_cnt (vm_take S k f key) = vm_cnt S := oT 0 1 (by decide) (by decide)
          have q8 := oT 8 k (by decide) (by decide)
          have q10 := oT 10 k (by decide) (by decide)
          have q11 := oT 11 k (by decide) (by decide)
          have hv1 : vk_row K I1 v b ((vm_take S k f key).2 10 k) val := by
            rw [q10]
            obtain ⟨len2, v1, v2, v3, v4, v5, v6⟩ := id hv
            exact vk_row_ext hv (fun i => fr v i (by omega) (by omega))
          obtain ⟨I2, w1, w2, w3⟩ := vk_wrote hC hA1 (by rw [q0]; exact hk) (by rw [q8]; exact h2) (show f < (vm_take S k f key).2 11 k by rw [q11]; exact c3) hv1
          exact ⟨I2, fun n sl => vk_tput_0 hK0 cf hE c2 (by omega) (by omega) e3 e11 hcnt hO w1, w2, vc_ff_trans ff1 w3⟩
        · have e : vm_upd S k key val fl.toInt = (-7, S) := by unfold vm_upd; rw [if_neg (by omega), q]; show (if S.2 8 k = 0 then _ else if fl.toInt = 2 then _ else if vm_free S k < S.2 11 k then _ else _) = _; rw [if_neg (by omega), if_neg c2', if_neg c3]
          rw [e]
          have all := vk_n_all (tk := vk_tk S k) (S.2 11 k) (fun e he => f3 e (by omega))
          exact ⟨I, fun n sl => vk_tput_7 hK0 cf hE c2 ken.2 (by omega) e3 e11 (by omega), hA, vc_ff_refl _ I L⟩
  · have e : vm_upd S k key val fl.toInt = (-22, S) := by unfold vm_upd; exact if_pos (by omega)
    rw [e]
    exact ⟨I, fun n sl => vk_tput_f hK0 cf, hA, vc_ff_refl _ I L⟩
/-- a key is dropped -/
theorem vc_dropT (hC : vm_CW K R) (hA : vk_all Z K I L R S mo) (hk : k < vm_cnt S) (h1 : S.2 8 k = 1) {r a : Nat} (hr : vk_row K I r a (S.2 9 k) key) : ∃ I1, (∀ n sl, jv_Ms 136 [.ref (mo k), .ref r, .int (vl_I a)] (jv_H K I L R) n sl (some (.int (Int32.ofInt (vm_drop S k key).1)), jv_H K I1 L R, n, sl)) ∧ vk_all Z K I1 L R (vm_drop S k key).2 mo ∧ vc_ff (vk_Ec mo) I L I1 L := by
  have h2 : S.2 8 k ≠ 2 := by omega
  obtain ⟨kd, kks, kvs, ken⟩ := vk_kd hA hk h2
  obtain ⟨n1, n2, n3⟩ := hA.2.1.2.1 k hk
  obtain ⟨ch, t1, t2⟩ := n3.2.2.1 h1
  obtain ⟨len, r1, r2, r3, r4, r5, r6⟩ := id hr
  cases q : vm_ent S k key with
  | none =>
    have e : vm_drop S k key = (-2, S) := by unfold vm_drop; rw [q]
    rw [e]
    exact ⟨I, fun n sl => vk_drop_n t1 t2 r1 r2 (by omega) r3 r6 (vm_ent_none h1 q), hA, vc_ff_refl _ I L⟩
  | some x =>
    obtain ⟨x1, x2, x3⟩ := vm_ent_some h1 q
    have e : vm_drop S k key = (0, (S.1, jv_u S.2 13 (4096 * k + x) 0)) := by unfold vm_drop; rw [q]
    rw [e]
    have uq := hA.2.2.2.2.1 k hk h1
    have s1 : vk_tk (S.1, jv_u S.2 13 (4096 * k + x) 0) k x = 0 := (show jv_u S.2 13 (4096 * k + x) 0 13 (4096 * k + x) = 0 from jv_u_self _ _ _ _)
    have s2 : ∀ k' y, y < 4096 → ¬ (k' = k ∧ y = x) → vk_tk (S.1, jv_u S.2 13 (4096 * k + x) 0) k' y = vk_tk S k' y := fun k' y hy hn => (show jv_u S.2 13 (4096 * k + x) 0 13 (4096 * k' + y) = S.2 13 (4096 * k' + y) from jv_u_j _ _ _ _ (fun z => hn (by omega)))
    have s3 : ∀ k' y j, vk_ky (S.1, jv_u S.2 13 (4096 * k + x) 0) k' y j = vk_ky S k' y j := fun k' y j => (show jv_u S.2 13 (4096 * k + x) 0 14 (131072 * k' + 32 * y + j) = S.2 14 (131072 * k' + 32 * y + j) from jv_u_o _ _ _ _ (by decide))
    obtain ⟨I1, hD, nt, fr⟩ := vk_drop_e (L := L) (tk' := vk_tk (S.1, jv_u S.2 13 (4096 * k + x) 0) k) t1 t2 r1 r2 (by omega) r3 r6 x1 x2 x3 (fun y hy ty ky => vm_uq_e uq x1 hy x2 ty x3 ky) s1 (fun y hy hn => s2 k y (by omega) (fun z => hn z.2))
    have e14 : vk_ky (S.1, jv_u S.2 13 (4096 * k + x) 0) k = vk_ky S k := funext (fun y => funext (fun j => s3 k y j))
    obtain ⟨hA1, ff1⟩ := vk_all_tab (T := (S.1, jv_u S.2 13 (4096 * k + x) 0)) hA hk h1 t1 fr (by rw [e14]; exact nt) rfl (fun c i y _ => jv_u_o _ _ _ _ y) (fun k' hk' hn => ⟨fun c hc => jv_u_o _ _ _ _ (by omega), fun y hy => s2 k' y hy (fun z => hn z.1), fun y j _ _ => s3 k' y j⟩) (by
      intro y y' hy hy' ty ty' hj
      have o11 : jv_u S.2 13 (4096 * k + x) 0 11 k = S.2 11 k := jv_u_o _ _ _ _ (by decide)
      have o9 : jv_u S.2 13 (4096 * k + x) 0 9 k = S.2 9 k := jv_u_o _ _ _ _ (by decide)
      have hy : y < jv_u S.2 13 (4096 * k + x) 0 11 k := hy
      have hy' : y' < jv_u S.2 13 (4096 * k + x) 0 11 k := hy'
      rw [o11] at hy hy'
      have nx : y ≠ x := fun z => by rw [z, s1] at ty; cases ty
      have nx' : y' ≠ x := fun z => by rw [z, s1] at ty'; cases ty'
      rw [s2 k y (by omega) (fun z => nx z.2)] at ty
      rw [s2 k y' (by omega) (fun z => nx' z.2)] at ty'
      refine uq y y' hy hy' ty ty' (fun j w => ?_)
      have := hj j (by show j < jv_u S.2 13 (4096 * k + x) 0 9 k; rw [o9]; exact w)
      rwa [s3, s3] at this)
    exact ⟨I1, hD, hA1, ff1⟩
/-- a record is sent to a ring -/
theorem vc_sendR (hC : vm_CW K R) (hZ : Z ≤ 1000000000) (hA : vk_all Z K I L R S mo) (hk : k < vm_cnt S) (h2 : S.2 8 k = 2) {r w : Nat} (hr : vk_row K I r 0 w key) (hw : 1 ≤ w ∧ w ≤ 256) : ∃ I1 L1, (∀ n sl, jv_Ms 107 [.ref (mo k), .ref r, .int (vl_I w)] (jv_H K I L R) n sl (some (.int (Int32.ofInt (vm_send S k key w).1)), jv_H K I1 L1 R, n, sl)) ∧ vk_all Z K I1 L1 R (vm_send S k key w).2 mo ∧ vc_ff (vk_Ec mo) I L I1 L1 := by
  obtain ⟨n1, n2, n3⟩ := hA.2.1.2.1 k hk
  obtain ⟨⟨b0, b1, b2, b3, b4, b5, b6⟩, k0, k1, k2⟩ := id n3
  obtain ⟨c0, c1, c2, c3, c4⟩ := k2 h2
  obtain ⟨len, r1, r2, r3, r4, r5, r6⟩ := id hr
  have s : 64 ≤ S.2 11 k ∧ S.2 11 k ≤ 16384 ∧ ∃ t, S.2 11 k = 2 ^ t := by
    rcases hA.2.2.2.1.2.1 k hk with y | y
    · exact ⟨y.2.1, y.2.2.1, y.2.2.2.2.2.2⟩
    · omega
  obtain ⟨q18, q16, q15, q17, qZ⟩ := hA.2.2.2.2.2 k hk h2
  have end_ : S.2 12 k + S.2 11 k ≤ 65536 := by
    have y := vm_bg_mono S (k := k + 1) (m := vm_cnt S) hk
    have z : vm_bg S (k + 1) = vm_bg S k + S.2 11 k := by show vm_bg S k + vm_szof S k = _; unfold vm_szof; rw [if_pos h2]
    have := hA.2.2.2.1.2.2.1 k hk
    have := hA.2.2.2.1.2.2.2.1
    omega
  have hT : vk_RW K I R (mo k) (S.2 12 k) (S.2 11 k) := ⟨c0, vm_cK hC 6 101 65536 (by decide), b4, b3, b5, ⟨s.1, s.2.1, end_⟩, s.2.2⟩
  have ff := vm_fill_ge w
  have sa := s.1
  have sb := s.2.1
  clear s
  by_cases cb : S.2 18 k = 1
  · have e : vm_send S k key w = (-22, S) := if_pos cb
    rw [e]
    refine ⟨I, L, fun n sl => ?_, hA, vc_ff_refl _ I L⟩
    obtain ⟨X, kk, eX⟩ := vk_send_b (n := n) (sl := sl) (r := r) (w := w) (Q := fun X => X = (some (.int (-22 : Int32)), jv_H K I L R, n, sl)) hT c1 c2 c3 c4 cb rfl
    subst eX
    exact kk
  · have cb0 : S.2 18 k = 0 := by omega
    rw [cb0] at c4
    have key2 := fun n sl => vk_sendM (n := n) (sl := sl) hT c1 c2 c3 c4 (by omega) q16 (by omega) r1 ⟨hw.1, hw.2, by omega⟩ r2 r5 (fun j hj => by have := r6 j hj; rwa [Nat.zero_add] at this)
    by_cases cf : S.2 11 k < S.2 15 k - S.2 16 k + (8 + vm_fill w)
    · have e : vm_send S k key w = (-11, S) := by unfold vm_send; rw [if_neg cb, if_pos cf]
      rw [e]
      exact ⟨I, L, fun n sl => (key2 n sl).1 cf, hA, vc_ff_refl _ I L⟩
    · have e : vm_send S k key w = (0, (S.1, jv_u (jv_u (vm_ring S.2 6 (S.2 12 k) (S.2 11 k) (S.2 15 k) (vm_rec w (S.2 17 k) key) (8 + vm_fill w)) 15 k (S.2 15 k + (8 + vm_fill w))) 17 k (S.2 17 k + 1))) := by unfold vm_send; rw [if_neg cb, if_neg cf]
      rw [e]
      obtain ⟨I1, eI⟩ : ∃ I1, I1 = jv_u (vm_ring I 6 (S.2 12 k) (S.2 11 k) (S.2 15 k) (fun j => vl_sb (vm_rec w (S.2 17 k) key j)) (8 + vm_fill w)) (mo k) 9 (vl_I (S.2 17 k + 1)) := ⟨_, rfl⟩
      obtain ⟨L1, eL⟩ : ∃ L1, L1 = jv_u L (mo k) 7 (vm_J (S.2 15 k + (8 + vm_fill w))) := ⟨_, rfl⟩
      obtain ⟨T, eT⟩ : ∃ T : vm_S, T = (S.1, jv_u (jv_u (vm_ring S.2 6 (S.2 12 k) (S.2 11 k) (S.2 15 k) (vm_rec w (S.2 17 k) key) (8 + vm_fill w)) 15 k (S.2 15 k + (8 + vm_fill w))) 17 k (S.2 17 k + 1)) := ⟨_, rfl⟩
      have hM : ∀ n sl, jv_Ms 107 [.ref (mo k), .ref r, .int (vl_I w)] (jv_H K I L R) n sl (some (.int (0 : Int32)), jv_H K I1 L1 R, n, sl) := fun n sl => by rw [eI, eL]; exact (key2 n sl).2 (by omega)
      rw [← eT]
      have o : ∀ q i, q ≠ 6 → ¬ (q = mo k ∧ i = 9) → I1 q i = I q i := fun q i y z => by rw [eI, vk_ux z]; exact vk_ring_o _ y
      have oL : ∀ q i, ¬ (q = mo k ∧ i = 7) → L1 q i = L q i := fun q i z => by rw [eL]; exact vk_ux z
      have oS : ∀ c i, c ≠ 6 → ¬ (c = 15 ∧ i = k) → ¬ (c = 17 ∧ i = k) → T.2 c i = S.2 c i := fun c i y z w => by rw [eT]; exact (vk_ux w).trans ((vk_ux z).trans (vk_ring_o _ y))
      have es : vm_es S T := ⟨oS 0 1 (by decide) (by omega) (by omega), oS 0 2 (by decide) (by omega) (by omega), fun c i hc => oS c i (by omega) (by omega) (by omega)⟩
      have cs : ∀ k', k' < vm_cnt S → k' ≠ k → vm_emk S T k' := fun k' _ hn => ⟨fun c hc => oS c k' (by omega) (fun z => hn z.2) (fun z => hn z.2), fun y _ => oS 13 _ (by decide) (by omega) (by omega), fun y j _ _ => oS 14 _ (by decide) (by omega) (by omega)⟩
      have t15 : T.2 15 k = S.2 15 k + (8 + vm_fill w) := by
        rw [eT]
        show jv_u (jv_u _ 15 k (S.2 15 k + (8 + vm_fill w))) 17 k (S.2 17 k + 1) 15 k = _
        rw [vk_ux (by omega), jv_u_self]
      have t17 : T.2 17 k = S.2 17 k + 1 := by rw [eT]; exact jv_u_self _ _ _ _
      have t16 : T.2 16 k = S.2 16 k := oS 16 k (by decide) (by omega) (by omega)
      have t18 : T.2 18 k = S.2 18 k := oS 18 k (by decide) (by omega) (by omega)
      have t11 : T.2 11 k = S.2 11 k := oS 11 k (by decide) (by omega) (by omega)
      have ok : vm_ok Z T := vm_ok_one es hA.2.2.2 cs (fun z => by omega) (fun _ => by rw [t15, t16, t17, t18, t11]; omega)
      have hG : vk_G I1 T := vk_G_ext es (fun i => oS 7 i (by decide) (by omega) (by omega)) (fun i => o _ _ (by decide) (by omega)) (fun i => o _ _ (by decide) (by omega)) (o _ _ (by decide) (by omega)) hA.2.2.1
      have h6 : vm_by I1 6 65536 (T.2 6) := by
        have y := vm_by_ring (A := S.2) (b := S.2 12 k) (m := S.2 11 k) (k := S.2 15 k) (f := vm_rec w (S.2 17 k) key) hA.1.2.2.2.2.2.2.1 (8 + vm_fill w) (fun j hj => by
          unfold vm_rec
          split
          · exact Nat.mod_lt _ (by decide)
          · split
            · exact Nat.mod_lt _ (by decide)
            · split
              · have := r6 (j - 8) (by omega); exact this.2
              · decide)
        intro j hj
        rw [eI, eT]
        rw [vk_ux (by omega)]
        show _ = vl_sb (jv_u (jv_u (vm_ring S.2 6 (S.2 12 k) (S.2 11 k) (S.2 15 k) (vm_rec w (S.2 17 k) key) (8 + vm_fill w)) 15 k (S.2 15 k + (8 + vm_fill w))) 17 k (S.2 17 k + 1) 6 j) ∧ jv_u (jv_u (vm_ring S.2 6 (S.2 12 k) (S.2 11 k) (S.2 15 k) (vm_rec w (S.2 17 k) key) (8 + vm_fill w)) 15 k (S.2 15 k + (8 + vm_fill w))) 17 k (S.2 17 k + 1) 6 j < 256
        rw [vk_ux (by omega), vk_ux (by omega)]
        exact y j hj
      refine ⟨I1, L1, hM, ⟨vm_c_new hA.1 (fun q i y _ z => o q i z (by unfold vm_cell at y; omega)) h6 (fun q i y => oL q i (by omega)) (by rw [eT]) (fun c i hc => oS c i (by omega) (by omega) (by omega)) (vk_led ok.1 hG), ?_, hG, ok⟩, fun q i z => o q i (fun y => z (vk_Ec_o (by omega))) (fun y => z (vk_Ec_m (k := k) (by omega) (by omega) (by omega))), fun q i z => oL q i (fun y => z (vk_Ec_m (k := k) (by omega) (by omega) (by omega)))⟩
      have of : ∀ i, i ≠ 9 → I1 (mo k) i = I (mo k) i := fun i y => o _ _ (by omega) (fun z => y z.2)
      have d := fun c (hc : 8 ≤ c ∧ c ≤ 12) => es.2.2 c k hc
      refine vk_M_one hA.2.1 hk (o _ _ (by decide) (by omega)) (fun q i y z => o q i (by omega) (by omega)) (fun q i y z => oL q i (by omega)) es.1 cs ⟨⟨by rw [of 0 (by decide), d 8 (by omega)]; exact b0, by rw [of 1 (by decide), d 9 (by omega)]; exact b1, by rw [of 2 (by decide), d 10 (by omega)]; exact b2, by rw [of 3 (by decide), d 11 (by omega)]; exact b3, b4, by rw [of 5 (by decide), d 12 (by omega)]; exact b5, by rw [of 6 (by decide), d 10 (by omega)]; exact b6⟩, fun z => by rw [d 8 (by omega)] at z; omega, fun z => by rw [d 8 (by omega)] at z; omega, fun _ => ⟨c0, ?_, ?_, ?_, ?_⟩⟩
      · rw [eL, jv_u_self, t15]
      · rw [oL _ _ (by omega), t16]; exact c2
      · rw [eI, jv_u_self, t17]
      · rw [of 10 (by decide), t18, cb0]; exact c4
end
