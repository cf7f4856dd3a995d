/-! part g35: updates, removals, sending, of the reference (a hand text: this part is the source) -/
section
variable {Z : Nat} {K : Nat → Option (Nat × Nat)} {I : Nat → Nat → Int32} {L : Nat → Nat → Int64} {R : Nat → Nat → Value} {S : vm_S} {k : Nat} {key val : Nat → Nat} {dk : Nat}
theorem vr_noMapM (hW : jv_rW K R) (hA : vr_all Z I L S) (hk : k < vm_cnt S) : ∀ n sl, jv_Ms 324 [.ref 180, .int (vl_I k)] (jv_H K I L R) n sl (some (.int (0 : Int32)), jv_H K (jv_u I 180 0 (0 : Int32)) L R, n, sl) := fun n sl => vr_noMap_k hW hk hA.2.2.1.1 hA.1.2.2.2.2.2.2.2.2.2.1
/-- entries and keys of a table have changed -/
theorem vr_all_tab {I1 : Nat → Nat → Int32} {T : vm_S} (hA : vr_all Z I L S) (hk : k < vm_cnt S) (h1 : S.2 8 k = 1) (hI : ∀ q i, q ≠ 190 → q ≠ 191 → I1 q i = I q i) (h190 : ∀ i, ¬ (vm_fe S k ≤ i ∧ i < vm_fe S (k + 1)) → I1 190 i = I 190 i) (h191 : ∀ i, ¬ (vm_fk S k ≤ i ∧ i < vm_fk S (k + 1)) → I1 191 i = I 191 i) (nt : (∀ e, e < S.2 11 k → I1 190 (vm_fe S k + e) = vl_I (vk_tk T k e) ∧ vk_tk T k e ≤ 1) ∧ ∀ e j, e < S.2 11 k → j < S.2 9 k → I1 191 (vm_fk S k + e * S.2 9 k + j) = vl_sb (vk_ky T k e j) ∧ vk_ky T k e j < 256) (T1 : T.1 = S.1) (oT : ∀ c i, c ≠ 13 → c ≠ 14 → T.2 c i = S.2 c i) (cs : ∀ k', k' < vm_cnt S → k' ≠ k → vm_emk S T k') (hu : vm_uq T k) : vr_all Z I1 L T := by
  have es : vm_es S T := ⟨oT 0 1 (by decide) (by decide), oT 0 2 (by decide) (by decide), fun c i hc => oT c i (by omega) (by omega)⟩
  have ok : vm_ok Z T := vm_ok_one es hA.2.2 cs (fun _ => hu) (fun z => by omega)
  refine ⟨vm_r_new hA.1 (fun q i z => hI q i (fun y => z (by unfold vr_Em; omega)) (fun y => z (by unfold vr_Em; omega))) (fun _ _ _ => rfl) T1 (fun c i a _ => oT c i (by omega) (by omega)) (fun j hj => by rw [hI 182 j (by decide) (by decide), oT 6 j (by decide) (by decide)]; exact hA.1.2.2.2.2.2.2.1 j hj), ⟨fun k' hk' z => ?_, fun k' hk' z => ?_⟩, ok⟩
  · rw [es.1] at hk'
    rw [oT 8 k' (by decide) (by decide)] at z
    rw [(vm_es_fe es k').1, (vm_es_fe es k').2, oT 11 k' (by decide) (by decide), oT 9 k' (by decide) (by decide)]
    by_cases c : k' = k
    · subst c; exact nt
    · have y := hA.2.1.1 k' hk' z
      have f := vm_fe_in hA.2.2.1 hk h1
      have f' := vm_fe_in hA.2.2.1 hk' z
      have st := vm_sh_t hA.2.2.1 hk' z
      have ap : (vm_fe S (k + 1) ≤ vm_fe S k' ∧ vm_fk S (k + 1) ≤ vm_fk S k') ∨ (vm_fe S (k' + 1) ≤ vm_fe S k ∧ vm_fk S (k' + 1) ≤ vm_fk S k) := by
        rcases Nat.lt_or_gt_of_ne c with w | w
        · exact Or.inr (vm_fe_lt S w)
        · exact Or.inl (vm_fe_lt S w)
      refine ⟨fun e he => ?_, fun e j he hj => ?_⟩
      · rw [h190 _ (by omega), (cs k' hk' c).2.1 e (by omega)]; exact y.1 e he
      · have ix : (e + 1) * S.2 9 k' ≤ S.2 11 k' * S.2 9 k' := Nat.mul_le_mul_right _ he
        rw [Nat.add_mul, Nat.one_mul] at ix
        rw [h191 _ (by omega), (cs k' hk' c).2.2 e j (by omega) (by omega)]; exact y.2 e j he hj
  · rw [es.1] at hk'
    rw [oT 8 k' (by decide) (by decide)] at z
    rw [hI 194 _ (by decide) (by decide), hI 195 _ (by decide) (by decide), oT 15 k' (by decide) (by decide), oT 16 k' (by decide) (by decide), oT 17 k' (by decide) (by decide), oT 18 k' (by decide) (by decide)]
    exact hA.2.1.2 k' hk' z
theorem vm_take_uq (hu : vm_uq S k) (h1 : S.2 8 k = 1) (hks : S.2 9 k ≤ 32) (hen : S.2 11 k ≤ 4096) (q : vm_ent S k key = none) {f : Nat} (hf : f < S.2 11 k) : vm_uq (vm_take S k f key) k := by
  intro x x' hx hx' tx tx' hj
  have o11 : (vm_take S k f key).2 11 k = S.2 11 k := vm_take_o 11 k (by decide) (by decide)
  have o9 : (vm_take S k f key).2 9 k = S.2 9 k := vm_take_o 9 k (by decide) (by decide)
  rw [o11] at hx hx'
  rw [o9] at hj
  have nk := vm_ent_none h1 q
  have one : ∀ y, y < S.2 11 k → y ≠ f → vk_tk (vm_take S k f key) k y = 1 → (∀ j, j < S.2 9 k → vk_ky (vm_take S k f key) k f j = vk_ky (vm_take S k f key) k y j) → False := fun y hy hn ty ky => by
    rw [vm_take_t (fun z => hn z.2) (by omega) (by omega)] at ty
    have w : vk_eq (vk_ky S k y) key (S.2 9 k) = true := vk_eq_t.mpr (fun j hj => by
      have := ky j hj
      rw [vm_take_k1 hj, vm_take_k hks (fun z => hn z.2) (by omega) (by omega) (by omega)] at this
      exact this.symm)
    exact absurd (nk y hy ty) (by rw [w]; decide)
  by_cases cx : x = f
  · by_cases cy : x' = f
    · rw [cx, cy]
    · rw [cx] at hj; exact (one x' hx' cy tx' hj).elim
  · by_cases cy : x' = f
    · rw [cy] at hj; exact (one x hx cx tx (fun j y => (hj j y).symm)).elim
    · rw [vm_take_t (fun z => cx z.2) (by omega) (by omega)] at tx
      rw [vm_take_t (fun z => cy z.2) (by omega) (by omega)] at tx'
      refine hu x x' hx hx' tx tx' (fun j y => ?_)
      have := hj j y
      rwa [vm_take_k hks (fun z => cx z.2) (by omega) (by omega) (by omega), vm_take_k hks (fun z => cy z.2) (by omega) (by omega) (by omega)] at this
theorem vr_updT (hW : jv_rW K R) (hD : R 180 2 = .ref dk) (hA : vr_all Z I L S) (hk : k < vm_cnt S) (h1 : S.2 8 k = 1) {a b : Nat} (hr : vr_row K I dk a (S.2 9 k) key) (hv : vr_row K I dk b (S.2 10 k) val) {fl : Int32} (cf : 0 ≤ fl.toInt ∧ fl.toInt ≤ 2) : ∃ I1, (∀ n sl, jv_Ms 340 [.ref 180, .int (vl_I k), .int (vl_I a), .int (vl_I b), .int fl] (jv_H K I L R) n sl (some (.int (Int32.ofInt (vm_upd S k key val fl.toInt).1)), jv_H K I1 L R, n, sl)) ∧ vr_all Z I1 L (vm_upd S k key val fl.toInt).2 ∧ vc_ff vr_En I L I1 L := by
  have h2 : S.2 8 k ≠ 2 := by omega
  have hm := vr_mk_of hA hk
  have st := vm_sh_t hA.2.2.1 hk h1
  have fi := vm_fe_in hA.2.2.1 hk h1
  have hE := vr_ent_T hW hD hA hk h1 hr
  have tt := hA.2.1.1 k hk h1
  cases q : vm_ent S k key with
  | some x =>
    have hx := vk_ent_lt (Or.inr h1) q
    rw [q] at hE
    by_cases c1 : fl = 1
    · have e : vm_upd S k key val fl.toInt = (-17, S) := by unfold vm_upd; rw [if_neg (by omega), q]; exact if_pos (vk_fl1.mp c1)
      rw [e]
      exact ⟨I, fun n sl => vr_utab_1 hW (show x < 4096 by omega) hE c1, hA, vc_ff_refl _ I L⟩
    · have e : vm_upd S k key val fl.toInt = (0, vm_write S k x val) := by unfold vm_upd; rw [if_neg (by omega), q]; exact if_neg (fun z => c1 (vk_fl1.mpr z))
      rw [e]
      obtain ⟨I1, w1, w2, w3⟩ := vr_wrote hW hD hA hk h2 hx hv
      exact ⟨I1, fun n sl => vr_utab_w hW (show x < 4096 by omega) hE c1 w1, w2, w3⟩
  | none =>
    rw [q] at hE
    by_cases c2 : fl = 2
    · have e : vm_upd S k key val fl.toInt = (-2, S) := by unfold vm_upd; rw [if_neg (by omega), q]; show (if S.2 8 k = 0 then _ else if fl.toInt = 2 then _ else _) = _; rw [if_neg (by omega), if_pos (vk_fl2.mp c2)]
      rw [e]
      exact ⟨I, fun n sl => vr_utab_2 hW hE c2, hA, vc_ff_refl _ I L⟩
    · have c2' : ¬ fl.toInt = 2 := fun z => c2 (vk_fl2.mpr z)
      obtain ⟨-, f2, f3, f4⟩ := vk_fi (g := fun e => decide (S.2 13 (4096 * k + e) = 1)) (S.2 11 k) 0
      have f3 : ∀ e, e < vm_free S k → vk_tk S k e = 1 := fun e he => of_decide_eq_true (f3 e (Nat.zero_le e) he)
      have run : ∀ {P : jv_R} {n sl : Nat}, jv_Wp 340 0 [(0, .ref 180), (1, .int (vl_I k)), (2, .int (vl_I a)), (3, .int (vl_I b)), (4, .int fl)] [] (jv_H K I L R) n sl (fun X => X = P) → jv_Ms 340 [.ref 180, .int (vl_I k), .int (vl_I a), .int (vl_I b), .int fl] (jv_H K I L R) n sl P := fun h => by
        obtain ⟨X, kk, e⟩ := h
        subst e
        exact kk
      by_cases c3 : vm_free S k < S.2 11 k
      · have e : vm_upd S k key val fl.toInt = (0, vm_write (vm_take S k (vm_free S k) key) k (vm_free S k) val) := by unfold vm_upd; rw [if_neg (by omega), q]; show (if S.2 8 k = 0 then _ else if fl.toInt = 2 then _ else if vm_free S k < S.2 11 k then _ else _) = _; rw [if_neg (by omega), if_neg c2', if_pos c3]
        rw [e]
        obtain ⟨f, ef⟩ : ∃ f, f = vm_free S k := ⟨_, rfl⟩
        have f0 : vk_tk S k f ≠ 1 := by
          have y : S.2 13 (4096 * k + vm_free S k) ≠ 1 := of_decide_eq_false (f4 (by rw [Nat.zero_add]; exact c3))
          rw [← ef] at y
          exact y
        rw [← ef] at f3 c3 ⊢
        obtain ⟨J, eJ⟩ : ∃ J, J = jv_u I 190 (vm_fe S k + f) ((1 : Int32) &&& 1) := ⟨_, rfl⟩
        have oJ : ∀ q i, q ≠ 190 → J q i = I q i := fun q i z => by rw [eJ]; exact jv_u_o _ _ _ _ z
        obtain ⟨I1, eI⟩ : ∃ I1, I1 = vm_wr J 191 (vm_fk S k + f * S.2 9 k) (S.2 9 k) (fun j => J dk (a + j)) := ⟨_, rfl⟩
        have oI : ∀ q i, q ≠ 190 → q ≠ 191 → I1 q i = I q i := fun q i y z => by rw [eI, vm_wr_o (fun w => z w.1)]; exact oJ q i y
        have dk2 : dk ≠ 190 ∧ dk ≠ 191 ∧ ¬ (183 ≤ dk ∧ dk ≤ 189) ∧ dk ≠ 182 := by have := hr.2.1; omega
        have ix : (f + 1) * S.2 9 k ≤ S.2 11 k * S.2 9 k := Nat.mul_le_mul_right _ c3
        rw [Nat.add_mul, Nat.one_mul] at ix
        have i190 : ∀ i, I1 190 i = if i = vm_fe S k + f then vl_I 1 else I 190 i := fun i => by
          rw [eI, vm_wr_o (fun z => absurd z.1 (by decide)), eJ]
          by_cases c : i = vm_fe S k + f
          · rw [if_pos c, c, jv_u_self]; rfl
          · rw [if_neg c, jv_u_j _ _ _ _ c]
        have i191 : ∀ i, ¬ (vm_fk S k + f * S.2 9 k ≤ i ∧ i < vm_fk S k + f * S.2 9 k + S.2 9 k) → I1 191 i = I 191 i := fun i z => by
          rw [eI, vm_wr_o (fun w => z w.2), oJ 191 i (by decide)]
        have hA1 : vr_all Z I1 L (vm_take S k f key) := vr_all_tab hA hk h1 oI (fun i z => by rw [i190, if_neg (by omega)]) (fun i z => i191 i (by omega)) ⟨fun e he => by
            rw [i190]
            by_cases c : e = f
            · rw [c, if_pos rfl, vm_take_t1]; exact ⟨rfl, Nat.le_refl 1⟩
            · rw [if_neg (by omega), vm_take_t (fun z => c z.2) (by omega) (by omega)]; exact tt.1 e he, fun e j he hj => by
            by_cases c : e = f
            · subst c
              rw [vm_take_k1 hj, eI, vm_wr_i hj, oJ dk _ dk2.1]; exact hr.2.2.2 j hj
            · rw [i191 _ (fun z => vk_ne_ix c hj (by omega)), vm_take_k st.1.2 (fun z => c z.2) (by omega) (by omega) (by omega)]; exact tt.2 e j he hj⟩ rfl (fun c i y z => vm_take_o c i y z) (fun k' hk' hn => ⟨fun c hc => vm_take_o c k' (by omega) (by omega), fun e he => vm_take_t (fun z => hn z.1) he (by omega), fun e j he hj => vm_take_k st.1.2 (fun z => hn z.1) he (by omega) hj⟩) (vm_take_uq (hA.2.2.2.1 k hk h1) h1 st.1.2 st.2.2 q c3)
        have oT : ∀ c i, c ≠ 13 → c ≠ 14 → (vm_take S k f key).2 c i = S.2 c i := fun c i y z => vm_take_o c i y z
        obtain ⟨I2, w1, w2, w3⟩ := vr_wrote (val := val) hW hD hA1 (k := k) (by rw [show vm_cnt (vm_take S k f key) = vm_cnt S from oT 0 1 (by decide) (by decide)]; exact hk) (by rw [oT 8 k (by decide) (by decide)]; exact h2) (e := f) (by rw [oT 11 k (by decide) (by decide)]; exact c3) (by rw [oT 10 k (by decide) (by decide)]; exact vr_row_ext hv (fun i => oI dk i dk2.1 dk2.2.1))
        refine ⟨I2, fun n sl => run ?_, w2, vc_ff_trans ⟨fun q i z => oI q i (fun y => z (by unfold vr_En; omega)) (fun y => z (by unfold vr_En; omega)), fun _ _ _ => rfl⟩ w3⟩
        have hmJ : vr_mk J k (S.2 8 k) (S.2 9 k) (S.2 10 k) (S.2 11 k) (S.2 12 k) (vm_fe S k) (vm_fk S k) := vr_mk_ext hm (fun q i x y => oJ q i (by omega))
        have hm1 : vr_mk I1 k (S.2 8 k) (S.2 9 k) (S.2 10 k) (S.2 11 k) (S.2 12 k) (vm_fe S k) (vm_fk S k) := vr_mk_ext hm (fun q i x y => oI q i (by omega) (by omega))
        refine vr_utab_0 hW hE c2 (vr_utab_l hW hm st.2.2 (by omega) tt.1 (fun g hg g0 ga => ?_) (fun all => absurd (all f c3) f0) (S.2 11 k) 0 (Nat.zero_add _) (fun x hx => absurd hx (Nat.not_lt_zero x)))
        have eg : g = f := by
          rcases Nat.lt_trichotomy g f with w | w | w
          · have := f3 g w; omega
          · exact w
          · exact absurd (ga f w) f0
        subst eg
        rw [← eJ]
        have kl := vr_utab_kl (n := n) (sl := sl) (L := L) (fl := fl) (b := vl_I b) (Q := fun X => X = (some (.int (Int32.ofInt 0)), jv_H K I2 L R, n, sl)) hW hD hr.1 hmJ (e := g) (by omega) st.1.2 hr.2.2.1 ⟨dk2.2.1, dk2.2.2.1⟩ (fun j hj => by rw [oJ dk _ dk2.1, (hr.2.2.2 j hj).1]; exact vl_sb_sb (hr.2.2.2 j hj).2) (by
          rw [← eI]
          exact vr_utab_x hW hm1 st.1.2 w1 rfl) (S.2 9 k) 0 (Nat.zero_add _)
        rw [vm_wr_0] at kl
        exact kl
      · have e : vm_upd S k key val fl.toInt = (-7, S) := by unfold vm_upd; rw [if_neg (by omega), q]; show (if S.2 8 k = 0 then _ else if fl.toInt = 2 then _ else if vm_free S k < S.2 11 k then _ else _) = _; rw [if_neg (by omega), if_neg c2', if_neg c3]
        rw [e]
        refine ⟨I, fun n sl => run ?_, hA, vc_ff_refl _ I L⟩
        exact vr_utab_0 hW hE c2 (vr_utab_l (Q := fun X => X = (some (.int (-7 : Int32)), jv_H K I L R, n, sl)) hW hm st.2.2 (by omega) tt.1 (fun g hg g0 ga => absurd (f3 g (by omega)) (by omega)) (fun _ => rfl) (S.2 11 k) 0 (Nat.zero_add _) (fun x hx => absurd hx (Nat.not_lt_zero x)))
theorem vr_ks32 (hA : vr_all Z I L S) (hk : k < vm_cnt S) (h2 : S.2 8 k ≠ 2) : S.2 9 k ≤ 32 := by
  by_cases c : S.2 8 k = 1
  · exact (vm_sh_t hA.2.2.1 hk c).1.2
  · rcases hA.2.2.1.2.1 k hk with y | y
    · exact absurd y.1 h2
    · have := y.2.2.2.2.2.1 (by omega); omega
theorem vr_code2 (hA : vr_all Z I L S) : ∃ J, J = jv_u (jv_u I 180 0 (0 : Int32)) 180 0 (0 : Int32) ∧ vr_all Z J L S ∧ vc_ff vr_Em I L J L ∧ (∀ q i, q ≠ 180 → J q i = I q i) ∧ J 180 0 = 0 := ⟨_, rfl, vr_all_code (vr_all_code hA 0) 0, vc_ff_trans (vr_ff_code 0) (vr_ff_code 0), fun q i z => (jv_u_o _ _ _ _ z).trans (jv_u_o _ _ _ _ z), jv_u_self _ _ _ _⟩
/-- an update, as the desk of a program or of the host has it -/
theorem vr_updM (hW : jv_rW K R) (hD : R 180 2 = .ref dk) (hA : vr_all Z I L S) (hk : k < vm_cnt S) (h2 : S.2 8 k ≠ 2) {a b : Nat} (hr : vr_row K I dk a (S.2 9 k) key) (hv : vr_row K I dk b (S.2 10 k) val) (fl : Int32) : ∃ I1, (∀ n sl, jv_Ms 341 [.ref 180, .int (vl_I k), .int (vl_I a), .int (vl_I b), .int fl] (jv_H K I L R) n sl (some (.int (Int32.ofInt (vm_upd S k key val fl.toInt).1)), jv_H K I1 L R, n, sl)) ∧ vr_all Z I1 L (vm_upd S k key val fl.toInt).2 ∧ vc_ff vr_Em I L I1 L ∧ I1 180 0 = 0 := by
  have hm := vr_mk_of hA hk
  have sn := vm_sh_n hA.2.2.1 hk h2
  have hks := vr_ks32 hA hk h2
  have hNM := vr_noMapM hW hA hk
  have ia : (vl_I a).toInt = (a : Int) := vl_I_i (by have := hr.2.2.1; omega)
  have ib : (vl_I b).toInt = (b : Int) := vl_I_i (by have := hv.2.2.1; omega)
  have ra := hr.2.2.1
  have rb := hv.2.2.1
  obtain ⟨J, eJ, hJ, fJ, oJ, J0⟩ := vr_code2 hA
  have dk2 : dk ≠ 180 := by have := hr.2.1; omega
  have hrJ := vr_row_ext hr (fun i => oJ dk i dk2)
  have hvJ := vr_row_ext hv (fun i => oJ dk i dk2)
  by_cases cf : 0 ≤ fl.toInt ∧ fl.toInt ≤ 2
  · by_cases h0 : S.2 8 k = 0
    · have hE := vr_ent_A hW hD hJ hk h0 hrJ
      have fin : ∀ {x : Int32} {I1 : Nat → Nat → Int32}, (∀ n sl, jv_Ms 339 [.ref 180, .int (vl_I k), .int (vl_I a), .int (vl_I b), .int fl] (jv_H K J L R) n sl (some (.int x), jv_H K I1 L R, n, sl)) → ∀ n sl, jv_Ms 341 [.ref 180, .int (vl_I k), .int (vl_I a), .int (vl_I b), .int fl] (jv_H K I L R) n sl (some (.int x), jv_H K I1 L R, n, sl) := fun hU n sl => vr_upd_A hW hm hNM h2 (by omega) hks sn.2.1.2 (by omega) (by omega) cf h0 (by rw [← eJ]; exact hU)
      cases q : vm_ent S k key with
      | none =>
        rw [q] at hE
        have e : vm_upd S k key val fl.toInt = (-7, S) := by unfold vm_upd; rw [if_neg (by omega), q]; exact if_pos h0
        rw [e]
        exact ⟨J, fin (fun n sl => vr_uarr_n hW hE), hJ, fJ, J0⟩
      | some x =>
        rw [q] at hE
        have hx := vk_ent_lt (Or.inl h0) q
        by_cases c1 : fl = 1
        · have e : vm_upd S k key val fl.toInt = (-17, S) := by unfold vm_upd; rw [if_neg (by omega), q]; exact if_pos (vk_fl1.mp c1)
          rw [e]
          exact ⟨J, fin (fun n sl => vr_uarr_1 hW (show x < 4096 by omega) hE c1), hJ, fJ, J0⟩
        · have e : vm_upd S k key val fl.toInt = (0, vm_write S k x val) := by unfold vm_upd; rw [if_neg (by omega), q]; exact if_neg (fun z => c1 (vk_fl1.mpr z))
          rw [e]
          obtain ⟨I1, w1, w2, w3⟩ := vr_wrote hW hD hJ hk h2 hx hvJ
          exact ⟨I1, fin (fun n sl => vr_uarr_w hW (show x < 4096 by omega) hE c1 w1), w2, vc_ff_trans fJ (vc_ff_le vr_EnEm w3), (w3.1 180 0 (by unfold vr_En; omega)).trans J0⟩
    · have h1 : S.2 8 k = 1 := by have := sn.1; omega
      obtain ⟨I1, w1, w2, w3⟩ := vr_updT hW hD hJ hk h1 hrJ hvJ cf
      exact ⟨I1, fun n sl => vr_upd_T hW hm hNM h2 (by omega) hks sn.2.1.2 (by omega) (by omega) cf h1 (by rw [← eJ]; exact w1), w2, vc_ff_trans fJ (vc_ff_le vr_EnEm w3), (w3.1 180 0 (by unfold vr_En; omega)).trans J0⟩
  · have e : vm_upd S k key val fl.toInt = (-22, S) := by unfold vm_upd; exact if_pos (by omega)
    rw [e]
    exact ⟨J, fun n sl => by rw [eJ]; exact vr_upd_f hW hm hNM h2 (by omega) hks sn.2.1.2 (by omega) (by omega) cf, hJ, fJ, J0⟩
/-- a removal -/
theorem vr_dropM (hW : jv_rW K R) (hD : R 180 2 = .ref dk) (hA : vr_all Z I L S) (hk : k < vm_cnt S) (h1 : S.2 8 k = 1) {a : Nat} (hr : vr_row K I dk a (S.2 9 k) key) : ∃ I1, (∀ n sl, jv_Ms 342 [.ref 180, .int (vl_I k), .int (vl_I a)] (jv_H K I L R) n sl (some (.int (Int32.ofInt (vm_drop S k key).1)), jv_H K I1 L R, n, sl)) ∧ vr_all Z I1 L (vm_drop S k key).2 ∧ vc_ff vr_Em I L I1 L ∧ I1 180 0 = 0 := by
  have hm := vr_mk_of hA hk
  have st := vm_sh_t hA.2.2.1 hk h1
  have fi := vm_fe_in hA.2.2.1 hk h1
  have hNM := vr_noMapM hW hA hk
  have ia : (vl_I a).toInt = (a : Int) := vl_I_i (by have := hr.2.2.1; omega)
  have ra := hr.2.2.1
  obtain ⟨J, eJ, hJ, fJ, oJ, J0⟩ := vr_code2 hA
  have dk2 : dk ≠ 180 := by have := hr.2.1; omega
  have hrJ := vr_row_ext hr (fun i => oJ dk i dk2)
  have hE := vr_ent_T hW hD hJ hk h1 hrJ
  cases q : vm_ent S k key with
  | none =>
    rw [q] at hE
    have e : vm_drop S k key = (-2, S) := by unfold vm_drop; rw [q]
    rw [e]
    exact ⟨J, fun n sl => by rw [eJ]; exact vr_rem_n hW hm hNM h1 st.1.2 (by omega) (by rw [← eJ]; exact hE), hJ, fJ, J0⟩
  | some x =>
    rw [q] at hE
    have hx := vk_ent_lt (Or.inr h1) q
    have e : vm_drop S k key = (0, (S.1, jv_u S.2 13 (4096 * k + x) 0)) := by unfold vm_drop; rw [q]
    rw [e]
    have oT : ∀ c i, ¬ (c = 13 ∧ i = 4096 * k + x) → jv_u S.2 13 (4096 * k + x) 0 c i = S.2 c i := fun c i z => vk_ux z
    have tt := hJ.2.1.1 k hk h1
    have tk : ∀ k' y, y < 4096 → ¬ (k' = k ∧ y = x) → vk_tk (S.1, jv_u S.2 13 (4096 * k + x) 0) k' y = vk_tk S k' y := fun k' y hy z => oT 13 _ (fun w => z (by omega))
    have tkx : vk_tk (S.1, jv_u S.2 13 (4096 * k + x) 0) k x = 0 := jv_u_self _ _ _ _
    have ky : ∀ k' y j, vk_ky (S.1, jv_u S.2 13 (4096 * k + x) 0) k' y j = vk_ky S k' y j := fun k' y j => oT 14 _ (by omega)
    refine ⟨jv_u J 190 (vm_fe S k + x) ((0 : Int32) &&& 1), fun n sl => by rw [eJ]; exact vr_rem_s hW hm hNM h1 st.1.2 (by omega) (show x < 4096 by omega) (by omega) (by rw [← eJ]; exact hE), ?_, vc_ff_trans fJ (vc_ff_u (by unfold vr_Em; omega)), (jv_u_o _ _ _ _ (by decide)).trans J0⟩
    refine vr_all_tab hJ hk h1 (fun q i y z => jv_u_o _ _ _ _ y) (fun i z => vk_ux (by omega)) (fun i _ => jv_u_o _ _ _ _ (by decide)) ⟨fun y hy => ?_, fun y j hy hj => ?_⟩ rfl (fun c i y z => oT c i (fun w => y w.1)) (fun k' hk' hn => ⟨fun c hc => oT c k' (by omega), fun y hy => tk k' y hy (fun z => hn z.1), fun y j _ _ => ky k' y j⟩) ?_
    · by_cases c : y = x
      · subst c; rw [jv_u_self, tkx]; exact ⟨rfl, Nat.zero_le 1⟩
      · rw [vk_ux (by omega), tk k y (by omega) (fun z => c z.2)]; exact tt.1 y hy
    · rw [jv_u_o _ _ _ _ (by decide), ky]; exact tt.2 y j hy hj
    · intro y y' hy hy' t t' hj
      have nx : ∀ u, vk_tk (S.1, jv_u S.2 13 (4096 * k + x) 0) k u = 1 → u ≠ x := fun u hu z => by rw [z, tkx] at hu; exact absurd hu (by decide)
      have c1 : y < S.2 11 k := by rw [← oT 11 k (by omega)]; exact hy
      have c2 : y' < S.2 11 k := by rw [← oT 11 k (by omega)]; exact hy'
      have n1 := nx y t
      have n2 := nx y' t'
      rw [tk k y (by omega) (fun z => n1 z.2)] at t
      rw [tk k y' (by omega) (fun z => n2 z.2)] at t'
      exact hA.2.2.2.1 k hk h1 y y' c1 c2 t t' (fun j hj' => by
        have := hj j (by rw [show (S.1, jv_u S.2 13 (4096 * k + x) 0).2 9 k = S.2 9 k from oT 9 k (by omega)]; exact hj')
        rwa [ky, ky] at this)
/-- where a found value stands -/
theorem vr_findM (hW : jv_rW K R) (hD : R 180 2 = .ref dk) (hA : vr_all Z I L S) (hk : k < vm_cnt S) (h2 : S.2 8 k ≠ 2) {a : Nat} (hr : vr_row K I dk a (S.2 9 k) key) : ∃ I1, (∀ n sl, jv_Ms 337 [.ref 180, .int (vl_I k), .int (vl_I a)] (jv_H K I L R) n sl (some (.int (match vm_ent S k key with | some e => vl_I (vm_at S k e) | none => -1)), jv_H K I1 L R, n, sl)) ∧ vr_all Z I1 L S ∧ vc_ff vr_Em I L I1 L ∧ I1 180 0 = 0 := by
  have hm := vr_mk_of hA hk
  have sn := vm_sh_n hA.2.2.1 hk h2
  have hks := vr_ks32 hA hk h2
  have hNM := vr_noMapM hW hA hk
  have ia : (vl_I a).toInt = (a : Int) := vl_I_i (by have := hr.2.2.1; omega)
  have ra := hr.2.2.1
  obtain ⟨J, eJ, hJ, fJ, oJ, J0⟩ := vr_code2 hA
  have dk2 : dk ≠ 180 := by have := hr.2.1; omega
  have hrJ := vr_row_ext hr (fun i => oJ dk i dk2)
  refine ⟨J, fun n sl => ?_, hJ, fJ, J0⟩
  have hPL : ∀ e, ∀ n sl, jv_Ms 335 [.ref 180, .int (vl_I k), .int (vl_I e)] (jv_H K J L R) n sl (some (.int (vl_I (vm_at S k e))), jv_H K J L R, n, sl) := fun e n sl => vr_placeOf hW (vr_mk_of hJ hk) sn.2.1.2
  by_cases h0 : S.2 8 k = 0
  · have hE := vr_ent_A hW hD hJ hk h0 hrJ
    cases q : vm_ent S k key with
    | none => rw [q] at hE; rw [eJ]; exact vr_find_An hW hm hNM h0 hks (by omega) (by rw [← eJ]; exact hE)
    | some x =>
      rw [q] at hE
      have hx := vk_ent_lt (Or.inl h0) q
      rw [eJ]; exact vr_find_As hW hm hNM h0 hks (by omega) (show x < 4096 by omega) (by rw [← eJ]; exact hE) (by rw [← eJ]; exact hPL x)
  · have h1 : S.2 8 k = 1 := by have := sn.1; omega
    have hE := vr_ent_T hW hD hJ hk h1 hrJ
    cases q : vm_ent S k key with
    | none => rw [q] at hE; rw [eJ]; exact vr_find_Tn hW hm hNM h1 hks (by omega) (by rw [← eJ]; exact hE)
    | some x =>
      rw [q] at hE
      have hx := vk_ent_lt (Or.inr h1) q
      rw [eJ]; exact vr_find_Ts hW hm hNM h1 hks (by omega) (show x < 4096 by omega) (by rw [← eJ]; exact hE) (by rw [← eJ]; exact hPL x)
/-- a record is sent -/
theorem vr_sendM (hW : jv_rW K R) (hD : R 180 2 = .ref dk) (hZ : Z ≤ 1000000000) (hA : vr_all Z I L S) (hk : k < vm_cnt S) (h2 : S.2 8 k = 2) {a w : Nat} (hr : vr_row K I dk a w key) (hw : 1 ≤ w ∧ w ≤ 256) : ∃ I1 L1, (∀ n sl, jv_Ms 346 [.ref 180, .int (vl_I k), .int (vl_I a), .int (vl_I w)] (jv_H K I L R) n sl (some (.int (Int32.ofInt (vm_send S k key w).1)), jv_H K I1 L1 R, n, sl)) ∧ vr_all Z I1 L1 (vm_send S k key w).2 ∧ vc_ff vr_Em I L I1 L1 ∧ I1 180 0 = 0 := by
  have hm := vr_mk_of hA hk
  have hNM := vr_noMapM hW hA hk
  obtain ⟨r1, r2, r3, r4⟩ := id hr
  have ia : (vl_I a).toInt = (a : Int) := vl_I_i (by omega)
  obtain ⟨J, eJ, hJ, fJ, oJ, J0⟩ := vr_code2 hA
  have dk2 : dk ≠ 180 := by omega
  have hrJ := vr_row_ext hr (fun i => oJ dk i dk2)
  have hDS : ∀ n sl, jv_Ms 326 [.int (vl_I a), .int (vl_I w)] (jv_H K (jv_u I 180 0 (0 : Int32)) L R) n sl (some (.int (1 : Int32)), jv_H K (jv_u I 180 0 (0 : Int32)) L R, n, sl) := fun n sl => by
    have y := vr_isDesk (K := K) (I := jv_u I 180 0 (0 : Int32)) (L := L) (R := R) (n := n) (sl := sl) (vl_I a) (z := w) (by omega)
    rw [decide_eq_true (show 0 ≤ (vl_I a).toInt ∧ (vl_I a).toInt + w ≤ 512 by omega)] at y
    exact y
  obtain ⟨e15, e16, e17, e18⟩ := hA.2.1.2 k hk h2
  obtain ⟨q18, q16, q15, q17, qZ⟩ := hA.2.2.2.2 k hk h2
  have s : 64 ≤ S.2 11 k ∧ S.2 11 k ≤ 16384 := by
    rcases hA.2.2.1.2.1 k hk with y | y
    · exact ⟨y.2.1, y.2.2.1⟩
    · omega
  have end_ : S.2 12 k + S.2 11 k ≤ 65536 := by
    have y := vm_bg_mono S (k := k + 1) (m := vm_cnt S) hk
    have z : vm_bg S (k + 1) = vm_bg S k + S.2 11 k := by show vm_bg S k + vm_szof S k = _; unfold vm_szof; rw [if_pos h2]
    have := hA.2.2.1.2.2.1 k hk
    have := hA.2.2.1.2.2.2.1
    omega
  have ff := vm_fill_ge w
  by_cases cb : S.2 18 k = 1
  · have e : vm_send S k key w = (-22, S) := if_pos cb
    rw [e]
    exact ⟨J, L, fun n sl => by rw [eJ]; exact vr_snd_b hW hm hNM hDS h2 hw e15 e16 e18 cb, hJ, fJ, J0⟩
  · have cb0 : S.2 18 k = 0 := by omega
    have nd : (8 : Int32) + vl_I (vm_fill w) = vl_I (8 + vm_fill w) := vl_I_add 8 _
    have lhs : vm_J (S.2 15 k) - vm_J (S.2 16 k) + ((8 : Int32) + vl_I (vm_fill w)).toInt64 = vm_J (S.2 15 k - S.2 16 k + (8 + vm_fill w)) := by
      rw [nd, vm_J_sub q16]; exact vm_J_nx (by omega)
    have cl : (vm_J (S.2 15 k) - vm_J (S.2 16 k) + ((8 : Int32) + vl_I (vm_fill w)).toInt64 ≤ (vl_I (S.2 11 k)).toInt64) ↔ S.2 15 k - S.2 16 k + (8 + vm_fill w) ≤ S.2 11 k := by
      rw [lhs, vm_J_I (by omega)]; exact vm_J_le (by omega) (by omega)
    by_cases cf : S.2 11 k < S.2 15 k - S.2 16 k + (8 + vm_fill w)
    · have e : vm_send S k key w = (-11, S) := by unfold vm_send; rw [if_neg cb, if_pos cf]
      rw [e]
      exact ⟨J, L, fun n sl => by rw [eJ]; exact vr_snd_n hW hm hNM hDS h2 hw e15 e16 e18 cb0 (fun z => by have := cl.mp z; omega), hJ, fJ, J0⟩
    · have e : vm_send S k key w = (0, (S.1, jv_u (jv_u (vm_ring S.2 6 (S.2 12 k) (S.2 11 k) (S.2 15 k) (vm_rec w (S.2 17 k) key) (8 + vm_fill w)) 15 k (S.2 15 k + (8 + vm_fill w))) 17 k (S.2 17 k + 1))) := by unfold vm_send; rw [if_neg cb, if_neg cf]
      rw [e]
      obtain ⟨G, eG⟩ : ∃ G, G = vm_ring J 182 (S.2 12 k) (S.2 11 k) (S.2 15 k) (fun j => vl_sb (vm_rec w (S.2 17 k) key j)) (8 + vm_fill w) := ⟨_, rfl⟩
      obtain ⟨I1, eI⟩ : ∃ I1, I1 = jv_u G 194 k (vl_I (S.2 17 k) + (1 : Int32)) := ⟨_, rfl⟩
      obtain ⟨L1, eL⟩ : ∃ L1, L1 = jv_u L 192 k (vm_J (S.2 15 k) + (vl_I (8 + vm_fill w)).toInt64) := ⟨_, rfl⟩
      obtain ⟨T, eT⟩ : ∃ T : vm_S, T = (S.1, jv_u (jv_u (vm_ring S.2 6 (S.2 12 k) (S.2 11 k) (S.2 15 k) (vm_rec w (S.2 17 k) key) (8 + vm_fill w)) 15 k (S.2 15 k + (8 + vm_fill w))) 17 k (S.2 17 k + 1)) := ⟨_, rfl⟩
      rw [← eT]
      have oG : ∀ q i, q ≠ 182 → G q i = J q i := fun q i y => by rw [eG]; exact vk_ring_o _ y
      have o : ∀ q i, q ≠ 182 → ¬ (q = 194 ∧ i = k) → I1 q i = J q i := fun q i y z => by rw [eI, vk_ux z]; exact oG q i y
      have oL : ∀ q i, ¬ (q = 192 ∧ i = k) → L1 q i = L q i := fun q i z => by rw [eL]; exact vk_ux z
      have hM : ∀ n sl, jv_Ms 346 [.ref 180, .int (vl_I k), .int (vl_I a), .int (vl_I w)] (jv_H K I L R) n sl (some (.int (0 : Int32)), jv_H K I1 L1 R, n, sl) := fun n sl => by
        have fin := vr_snd_e (n := n) (sl := sl) (I := G) (K := K) (L := L) (R := R) (a := a) (w := w) (rc := S.2 17 k) (nd := 8 + vm_fill w) (Q := fun X => X = (some (.int (0 : Int32)), jv_H K I1 L1 R, n, sl)) hW (vr_mk_ext (vr_mk_of hJ hk) (fun q i x y => oG q i (by omega))) (by omega) e15 ((oG 194 k (by decide)).trans ((oJ 194 k (by decide)).trans e17)) (by rw [eI, eL])
        have lp := vr_snd_l (n := n) (sl := sl) (I := J) (L := L) (Q := fun X => X = (some (.int (0 : Int32)), jv_H K I1 L1 R, n, sl)) hW hD r1 (vr_mk_of hJ hk) (a := a) (w := w) (nd := 8 + vm_fill w) (B := key) (by omega) end_ hw (by omega) r3 e15 (by omega) ((oJ 194 k (by decide)).trans e17) (by omega) (by omega) (fun j hj => by rw [oJ dk _ dk2]; exact r4 j hj) (by rw [← eG]; exact fin) (8 + vm_fill w) 0 (Nat.zero_add _)
        have st := vr_snd_0 (n := n) (sl := sl) (I := I) (Q := fun X => X = (some (.int (0 : Int32)), jv_H K I1 L1 R, n, sl)) hW hm hNM hDS h2 hw e15 e16 e18 cb0 (cl.mpr (by omega)) (by rw [nd, ← eJ]; exact lp)
        obtain ⟨X, kk, eX⟩ := st
        subst eX
        exact kk
      have oS : ∀ c i, c ≠ 6 → ¬ (c = 15 ∧ i = k) → ¬ (c = 17 ∧ i = k) → T.2 c i = S.2 c i := fun c i y z w => by rw [eT]; exact (vk_ux w).trans ((vk_ux z).trans (vk_ring_o _ y))
      have es : vm_es S T := ⟨oS 0 1 (by decide) (by omega) (by omega), oS 0 2 (by decide) (by omega) (by omega), fun c i hc => oS c i (by omega) (by omega) (by omega)⟩
      have cs : ∀ k', k' < vm_cnt S → k' ≠ k → vm_emk S T k' := fun k' _ hn => ⟨fun c hc => oS c k' (by omega) (fun z => hn z.2) (fun z => hn z.2), fun y _ => oS 13 _ (by decide) (by omega) (by omega), fun y j _ _ => oS 14 _ (by decide) (by omega) (by omega)⟩
      have t15 : T.2 15 k = S.2 15 k + (8 + vm_fill w) := by
        rw [eT]
        show jv_u (jv_u _ 15 k (S.2 15 k + (8 + vm_fill w))) 17 k (S.2 17 k + 1) 15 k = _
        rw [vk_ux (by omega), jv_u_self]
      have t17 : T.2 17 k = S.2 17 k + 1 := by rw [eT]; exact jv_u_self _ _ _ _
      have t16 : T.2 16 k = S.2 16 k := oS 16 k (by decide) (by omega) (by omega)
      have t18 : T.2 18 k = S.2 18 k := oS 18 k (by decide) (by omega) (by omega)
      have t11 : T.2 11 k = S.2 11 k := oS 11 k (by decide) (by omega) (by omega)
      have ok : vm_ok Z T := vm_ok_one es hA.2.2 cs (fun z => by omega) (fun _ => by rw [t15, t16, t17, t18, t11]; omega)
      have h6 : vm_by I1 182 65536 (T.2 6) := by
        have y := vm_by_ring (A := S.2) (b := S.2 12 k) (m := S.2 11 k) (k := S.2 15 k) (f := vm_rec w (S.2 17 k) key) hJ.1.2.2.2.2.2.2.1 (8 + vm_fill w) (fun j hj => vr_rec_lt (fun i hi => (r4 i hi).2))
        intro j hj
        rw [eI, eT, vk_ux (by omega), eG]
        show _ = vl_sb (jv_u (jv_u (vm_ring S.2 6 (S.2 12 k) (S.2 11 k) (S.2 15 k) (vm_rec w (S.2 17 k) key) (8 + vm_fill w)) 15 k (S.2 15 k + (8 + vm_fill w))) 17 k (S.2 17 k + 1) 6 j) ∧ jv_u (jv_u (vm_ring S.2 6 (S.2 12 k) (S.2 11 k) (S.2 15 k) (vm_rec w (S.2 17 k) key) (8 + vm_fill w)) 15 k (S.2 15 k + (8 + vm_fill w))) 17 k (S.2 17 k + 1) 6 j < 256
        rw [vk_ux (by omega), vk_ux (by omega)]
        exact y j hj
      have t1 : T.1 = S.1 := by rw [eT]
      refine ⟨I1, L1, hM, ⟨?_, ⟨fun k' hk' z => ?_, fun k' hk' z => ?_⟩, ok⟩, vc_ff_trans fJ ⟨fun q i z => o q i (fun y => z (by unfold vr_Em; omega)) (fun y => z (by unfold vr_Em; omega)), fun q i z => oL q i (fun y => z (by unfold vr_Em; omega))⟩, (o 180 0 (by decide) (by omega)).trans J0⟩
      · refine vm_r_new hJ.1 (fun q i z => o q i (fun y => z (by unfold vr_Em; omega)) (fun y => z (by unfold vr_Em; omega))) (fun q i z => oL q i (by omega)) t1 (fun c i y z => oS c i z (by omega) (by omega)) h6
      · rw [es.1] at hk'
        rw [es.2.2 8 k' (by omega)] at z
        have kn : k' ≠ k := fun y => by rw [y] at z; omega
        have y := hJ.2.1.1 k' hk' z
        rw [(vm_es_fe es k').1, (vm_es_fe es k').2, es.2.2 11 k' (by omega), es.2.2 9 k' (by omega)]
        have c11 := vm_sh_t hA.2.2.1 hk' z
        refine ⟨fun e he => ?_, fun e j he hj => ?_⟩
        · rw [o 190 _ (by decide) (by omega), (cs k' hk' kn).2.1 e (by omega)]; exact y.1 e he
        · rw [o 191 _ (by decide) (by omega), (cs k' hk' kn).2.2 e j (by omega) (by omega)]; exact y.2 e j he hj
      · rw [es.1] at hk'
        rw [es.2.2 8 k' (by omega)] at z
        by_cases c : k' = k
        · subst c
          rw [t15, t16, t17, t18, o 195 _ (by decide) (by omega), oJ 195 _ (by decide), oL 193 _ (by omega), eL, eI, jv_u_self, jv_u_self]
          exact ⟨vm_J_nx (by omega), e16, vl_I_add _ 1, e18⟩
        · have m := (cs k' hk' c).1
          rw [m 15 (by omega), m 16 (by omega), m 17 (by omega), m 18 (by omega), oL 192 _ (by omega), oL 193 _ (by omega), o 194 _ (by decide) (by omega), o 195 _ (by decide) (by omega)]
          exact hJ.2.1.2 k' hk' z
end