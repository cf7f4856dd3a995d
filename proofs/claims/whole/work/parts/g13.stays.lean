/-! part g13: what stays of the class's maps (a hand text: this part is the source) -/
/-- the maps of two states are the same -/
def vm_em (S T : vm_S) : Prop := ∀ c i, (c = 0 ∧ 1 ≤ i) ∨ 8 ≤ c → T.2 c i = S.2 c i
theorem vm_em_r (S : vm_S) : vm_em S S := fun _ _ _ => rfl
theorem vm_em_t {S T U : vm_S} (a : vm_em S T) (b : vm_em T U) : vm_em S U := fun c i h => (b c i h).trans (a c i h)
/-- the map k is the same in two states -/
def vm_emk (S T : vm_S) (k : Nat) : Prop := (∀ c, (8 ≤ c ∧ c ≤ 12) ∨ (15 ≤ c ∧ c ≤ 18) → T.2 c k = S.2 c k) ∧ (∀ e, e < 4096 → vk_tk T k e = vk_tk S k e) ∧ ∀ e j, e < 4096 → j < 32 → vk_ky T k e j = vk_ky S k e j
theorem vm_em_k {S T : vm_S} (h : vm_em S T) (k : Nat) : vm_emk S T k := ⟨fun c hc => h c k (by omega), fun e _ => h 13 _ (by omega), fun e j _ _ => h 14 _ (by omega)⟩
theorem vk_T_eq {I I1 : Nat → Nat → Int32} {o ks en ch : Nat} {tk tk' : Nat → Nat} {ky ky' : Nat → Nat → Nat} (hI : ∀ q i, o ≤ q → q ≤ o + 4 → I1 q i = I q i) (ht : ∀ e, e < en → tk' e = tk e) (hk : ∀ e j, e < en → j < ks → ky' e j = ky e j) (h : vk_T I o ks en ch tk ky) : vk_T I1 o ks en ch tk' ky' := by
  obtain ⟨e1, e3, htk, hky, hc, e11, ff, e12, hff, hfa⟩ := h
  have kc : ∀ e, e < en → vk_c ch (ky' e) ks = vk_c ch (ky e) ks := fun e he => vk_c_eq (fun j hj => hk e j he hj)
  refine ⟨(hI o 1 (by omega) (by omega)).trans e1, (hI o 3 (by omega) (by omega)).trans e3, fun e he => ?_, fun e j he hj => ?_, fun c hc' => ?_, ?_, ff, (hI o 12 (by omega) (by omega)).trans e12, hff, fun e he => by rw [ht e (by omega)]; exact hfa e he⟩
  · rw [hI _ _ (by omega) (by omega), ht e he]; exact htk e he
  · rw [hI _ _ (by omega) (by omega), hk e j he hj]; exact hky e j he hj
  · obtain ⟨l, l1, l2, l3⟩ := hc c hc'
    refine ⟨l, ?_, l2, fun e => ?_⟩
    · rw [hI (o + 3) c (by omega) (by omega)]
      exact vk_ch_eq l _ (fun x _ => hI (o + 4) x (by omega) (by omega)) l1
    · rw [l3 e]
      constructor
      · intro z; exact ⟨z.1, by rw [ht e z.1]; exact z.2.1, by rw [kc e z.1]; exact z.2.2⟩
      · intro z; exact ⟨z.1, by rw [← ht e z.1]; exact z.2.1, by rw [← kc e z.1]; exact z.2.2⟩
  · rw [hI o 11 (by omega) (by omega), e11, vk_n_eq en ht]
theorem vk_at_ext {K : Nat → Option (Nat × Nat)} {I I1 : Nat → Nat → Int32} {L L1 : Nat → Nat → Int64} {R : Nat → Nat → Value} {S T : vm_S} {k o : Nat} (hI : ∀ q i, o ≤ q → q ≤ o + 4 → I1 q i = I q i) (hL : ∀ i, L1 o i = L o i) (em : vm_emk S T k) (h : vk_at K I L R S k o) : vk_at K I1 L1 R T k o := by
  obtain ⟨⟨b0, b1, b2, b3, b4, b5, b6⟩, k0, k1, k2⟩ := h
  have c8 := em.1 8 (by omega)
  have c9 := em.1 9 (by omega)
  have c10 := em.1 10 (by omega)
  have c11 := em.1 11 (by omega)
  have c12 := em.1 12 (by omega)
  have f : ∀ i, I1 o i = I o i := fun i => hI o i (by omega) (by omega)
  refine ⟨⟨by rw [f, c8]; exact b0, by rw [f, c9]; exact b1, by rw [f, c10]; exact b2, by rw [f, c11]; exact b3, b4, by rw [f, c12]; exact b5, by rw [f, c10]; exact b6⟩, by rw [c8]; exact k0, fun z => ?_, fun z => ?_⟩
  · obtain ⟨ch, t1, t2⟩ := k1 (c8.symm.trans z)
    have hk := t1.2.2.2.2.2.2.2.2.2.1
    have he := t1.2.2.2.2.2.2.2.2.2.2.1
    rw [c9, c11]
    exact ⟨ch, t1, vk_T_eq hI (fun e y => em.2.1 e (by omega)) (fun e j y z => em.2.2 e j (by omega) (by omega)) t2⟩
  · obtain ⟨r0, r1, r2, r3, r4⟩ := k2 (c8.symm.trans z)
    exact ⟨r0, by rw [hL, em.1 15 (by omega)]; exact r1, by rw [hL, em.1 16 (by omega)]; exact r2, by rw [f, em.1 17 (by omega)]; exact r3, by rw [f, em.1 18 (by omega)]; exact r4⟩
/-- one map has changed -/
theorem vk_M_one {K : Nat → Option (Nat × Nat)} {I I1 : Nat → Nat → Int32} {L L1 : Nat → Nat → Int64} {R : Nat → Nat → Value} {S T : vm_S} {mo : Nat → Nat} {k : Nat} (h : vk_M K I L R S mo) (hk : k < vm_cnt S) (h27 : I1 2 7 = I 2 7) (fI : ∀ q i, 226 < q → ¬ (mo k ≤ q ∧ q ≤ mo k + 4) → I1 q i = I q i) (fL : ∀ q i, 226 < q → ¬ (mo k ≤ q ∧ q ≤ mo k + 4) → L1 q i = L q i) (c0 : vm_cnt T = vm_cnt S) (cs : ∀ k', k' < vm_cnt S → k' ≠ k → vm_emk S T k') (new : vk_at K I1 L1 R T k (mo k)) : vk_M K I1 L1 R T mo := by
  obtain ⟨m1, m2, m3⟩ := h
  refine ⟨by rw [h27, c0]; exact m1, fun k' hk' => ?_, by rw [c0]; exact m3⟩
  rw [c0] at hk'
  obtain ⟨a1, a2, a3⟩ := m2 k' hk'
  refine ⟨a1, a2, ?_⟩
  by_cases c : k' = k
  · rw [c]; exact new
  · have ap : mo k' + 4 < mo k ∨ mo k + 4 < mo k' := by
      rcases Nat.lt_or_gt_of_ne c with z | z
      · exact Or.inl (m3 k' k z hk)
      · exact Or.inr (m3 k k' z hk')
    exact vk_at_ext (fun q i x y => fI q i (by omega) (by omega)) (fun i => fL _ i (by omega) (by omega)) (cs k' hk' c) a3
theorem vk_M_ext {K : Nat → Option (Nat × Nat)} {I I1 : Nat → Nat → Int32} {L L1 : Nat → Nat → Int64} {R : Nat → Nat → Value} {S T : vm_S} {mo : Nat → Nat} (h27 : I1 2 7 = I 2 7) (fI : ∀ q i, 226 < q → I1 q i = I q i) (fL : ∀ q i, 226 < q → L1 q i = L q i) (em : vm_em S T) (h : vk_M K I L R S mo) : vk_M K I1 L1 R T mo := by
  obtain ⟨m1, m2, m3⟩ := h
  have c0 : vm_cnt T = vm_cnt S := em 0 1 (by omega)
  refine ⟨by rw [h27, c0]; exact m1, fun k hk => ?_, by rw [c0]; exact m3⟩
  rw [c0] at hk
  obtain ⟨a1, a2, a3⟩ := m2 k hk
  exact ⟨a1, a2, vk_at_ext (fun q i x y => fI q i (by omega)) (fun i => fL _ i a2) (vm_em_k em k) a3⟩
/-- shapes are the same -/
def vm_es (S T : vm_S) : Prop := vm_cnt T = vm_cnt S ∧ T.2 0 2 = S.2 0 2 ∧ ∀ c k, 8 ≤ c ∧ c ≤ 12 → T.2 c k = S.2 c k
theorem vm_em_s {S T : vm_S} (h : vm_em S T) : vm_es S T := ⟨h 0 1 (by omega), h 0 2 (by omega), fun c k _ => h c k (by omega)⟩
theorem vm_es_bg {S T : vm_S} (h : vm_es S T) : ∀ k, vm_bg T k = vm_bg S k
  | 0 => rfl
  | k + 1 => by
    show vm_bg T k + vm_szof T k = vm_bg S k + vm_szof S k
    rw [vm_es_bg h k]
    unfold vm_szof
    rw [h.2.2 8 k (by omega), h.2.2 10 k (by omega), h.2.2 11 k (by omega)]
theorem vm_sh_es {S T : vm_S} (h : vm_es S T) (hs : vm_sh S) : vm_sh T := by
  obtain ⟨s1, s2, s3, s4, s5⟩ := hs
  have c := h.2.2
  refine ⟨by rw [h.1]; exact s1, fun k hk => ?_, fun k hk => ?_, by rw [vm_es_bg h, h.1]; exact s4, by rw [h.2.1, vm_es_bg h, h.1]; exact s5⟩
  · rw [c 8 k (by omega), c 9 k (by omega), c 10 k (by omega), c 11 k (by omega)]; exact s2 k (by rw [← h.1]; exact hk)
  · rw [c 12 k (by omega), vm_es_bg h]; exact s3 k (by rw [← h.1]; exact hk)
theorem vm_at_es {S T : vm_S} (h : vm_es S T) (k e : Nat) : vm_at T k e = vm_at S k e := by unfold vm_at; rw [h.2.2 12 k (by omega), h.2.2 10 k (by omega)]
theorem vk_gi_es {S T : vm_S} (h : vm_es S T) {g k e i : Nat} : vk_gi T g k e i ↔ vk_gi S g k e i := by
  unfold vk_gi vk_grn
  rw [h.1, h.2.2 8 k (by omega), h.2.2 11 k (by omega), h.2.2 10 k (by omega), vm_at_es h]
theorem vm_uq_k {S T : vm_S} {k : Nat} (h : vm_emk S T k) (hks : S.2 9 k ≤ 32) (hen : S.2 11 k ≤ 4096) (hu : vm_uq S k) : vm_uq T k := by
  have c9 := h.1 9 (by omega)
  have c11 := h.1 11 (by omega)
  intro e e' he he' t t' hk
  rw [c11] at he he'
  rw [h.2.1 e (by omega)] at t
  rw [h.2.1 e' (by omega)] at t'
  refine hu e e' he he' t t' (fun j hj => ?_)
  have := hk j (by rw [c9]; exact hj)
  rwa [h.2.2 e j (by omega) (by omega), h.2.2 e' j (by omega) (by omega)] at this
theorem vm_sh_n {S : vm_S} (hs : vm_sh S) {k : Nat} (hk : k < vm_cnt S) (h2 : S.2 8 k ≠ 2) : S.2 8 k ≤ 1 ∧ (1 ≤ S.2 10 k ∧ S.2 10 k ≤ 256) ∧ (1 ≤ S.2 11 k ∧ S.2 11 k ≤ 4096) := by
  rcases hs.2.1 k hk with y | y
  · exact absurd y.1 h2
  · exact ⟨y.1, ⟨y.2.1, y.2.2.1⟩, y.2.2.2.1, y.2.2.2.2.1⟩
theorem vm_sh_t {S : vm_S} (hs : vm_sh S) {k : Nat} (hk : k < vm_cnt S) (h1 : S.2 8 k = 1) : (1 ≤ S.2 9 k ∧ S.2 9 k ≤ 32) ∧ (1 ≤ S.2 11 k ∧ S.2 11 k ≤ 4096) := by
  rcases hs.2.1 k hk with y | y
  · exact absurd (h1.symm.trans y.1) (by decide)
  · exact ⟨y.2.2.2.2.2.2 h1, y.2.2.2.1, y.2.2.2.2.1⟩
/-- one map has changed -/
theorem vm_ok_one {Z : Nat} {S T : vm_S} {k : Nat} (es : vm_es S T) (h : vm_ok Z S) (cs : ∀ k', k' < vm_cnt S → k' ≠ k → vm_emk S T k') (hu : S.2 8 k = 1 → vm_uq T k) (hr : S.2 8 k = 2 → T.2 18 k ≤ 1 ∧ T.2 16 k ≤ T.2 15 k ∧ T.2 15 k ≤ T.2 16 k + T.2 11 k ∧ 16 * T.2 17 k ≤ T.2 15 k ∧ T.2 16 k ≤ Z) : vm_ok Z T := by
  obtain ⟨h1, h2, h3⟩ := h
  refine ⟨vm_sh_es es h1, fun k' hk' z => ?_, fun k' hk' z => ?_⟩
  · rw [es.1] at hk'
    rw [es.2.2 8 k' (by omega)] at z
    by_cases c : k' = k
    · subst c; exact hu z
    · have s := vm_sh_t h1 hk' z
      exact vm_uq_k (cs k' hk' c) s.1.2 s.2.2 (h2 k' hk' z)
  · rw [es.1] at hk'
    rw [es.2.2 8 k' (by omega)] at z
    by_cases c : k' = k
    · subst c; exact hr z
    · have m := (cs k' hk' c).1
      rw [m 18 (by omega), m 16 (by omega), m 15 (by omega), m 17 (by omega), m 11 (by omega)]
      exact h3 k' hk' z
theorem vm_ok_em {Z : Nat} {S T : vm_S} (em : vm_em S T) (h : vm_ok Z S) : vm_ok Z T := by
  obtain ⟨h1, h2, h3⟩ := h
  have es := vm_em_s em
  refine ⟨vm_sh_es es h1, fun k hk z => ?_, fun k hk z => ?_⟩
  · rw [es.1] at hk
    rw [es.2.2 8 k (by omega)] at z
    have s := vm_sh_t h1 hk z
    exact vm_uq_k (vm_em_k em k) s.1.2 s.2.2 (h2 k hk z)
  · rw [es.1] at hk
    rw [es.2.2 8 k (by omega)] at z
    rw [em 18 k (by omega), em 16 k (by omega), em 15 k (by omega), em 17 k (by omega), em 11 k (by omega)]
    exact h3 k hk z
theorem vk_G_ext {I I1 : Nat → Nat → Int32} {S T : vm_S} (es : vm_es S T) (c7 : ∀ i, T.2 7 i = S.2 7 i) (h8 : ∀ i, I1 8 i = I 8 i) (h9 : ∀ i, I1 9 i = I 9 i) (hr : I1 171 7 = I 171 7) (h : vk_G I S) : vk_G I1 T := by
  obtain ⟨run, g1, g2, g3, g4⟩ := h
  refine ⟨run, hr.trans g1, g2, fun g k e i hg => ?_, fun g hg z => ?_⟩
  · have y := g3 g k e i ((vk_gi_es es).mp hg)
    rw [h8, h9, es.2.2 10 k (by omega), es.2.2 8 k (by omega), c7]; exact y
  · rw [h8]; exact g4 g hg (fun k e i w => z k e i ((vk_gi_es es).mpr w))
/-- an entry is found -/
theorem vk_G_led {I : Nat → Nat → Int32} {S : vm_S} {k e : Nat} (hs : vm_sh S) (hk : k < vm_cnt S) (h1 : S.2 8 k = 1) (he : e < S.2 11 k) (h : vk_G I S) : vk_G (vm_wr I 9 (vk_grn S k e) ((S.2 10 k + 7) / 8) (fun _ => I 171 7)) (S.1, jv_u S.2 7 (4096 * k + e) 1) := by
  obtain ⟨run, g1, g2, g3, g4⟩ := h
  have es : vm_es S (S.1, jv_u S.2 7 (4096 * k + e) 1) := ⟨(show jv_u S.2 7 (4096 * k + e) 1 0 1 = S.2 0 1 from jv_u_o _ _ _ _ (by decide)), (show jv_u S.2 7 (4096 * k + e) 1 0 2 = S.2 0 2 from jv_u_o _ _ _ _ (by decide)), fun c i hc => (show jv_u S.2 7 (4096 * k + e) 1 c i = S.2 c i from jv_u_o _ _ _ _ (by omega))⟩
  have s := vm_sh_n hs hk (by omega)
  refine ⟨run, (vm_wr_o (fun z => absurd z.1 (by decide))).trans g1, g2, fun g k' e' i hg => ?_, fun g hg z => ?_⟩
  · have hg := (vk_gi_es es).mp hg
    obtain ⟨y1, y2, y3⟩ := g3 g k' e' i hg
    have s' := vm_sh_n hs hg.1 hg.2.1
    have v : 1 ≤ S.2 10 k := by omega
    by_cases c : k' = k ∧ e' = e
    · obtain ⟨c1, c2⟩ := c
      subst c1; subst c2
      have g5 : g = vk_grn S k' e' + i := hg.2.2.2.2
      have g6 : 8 * i < S.2 10 k' := hg.2.2.2.1
      have w : vm_wr I 9 (vk_grn S k' e') ((S.2 10 k' + 7) / 8) (fun _ => I 171 7) 9 g = I 171 7 := by
        rw [g5, vm_wr_i (by omega)]
      refine ⟨(vm_wr_o (fun z => absurd z.1 (by decide))).trans y1, fun z => absurd (h1.symm.trans z) (by decide), fun _ => ⟨run, w.trans g1, Nat.le_refl run, ?_⟩⟩
      show run = run ↔ jv_u S.2 7 (4096 * k' + e') 1 7 (4096 * k' + e') = 1
      rw [jv_u_self]; exact ⟨fun _ => rfl, fun _ => rfl⟩
    · have w : vm_wr I 9 (vk_grn S k e) ((S.2 10 k + 7) / 8) (fun _ => I 171 7) 9 g = I 9 g := vm_wr_o (fun z => by
        have hg2 : vk_gi S g k e (g - vk_grn S k e) := ⟨hk, by omega, he, by omega, by omega⟩
        have u := vk_gi_u hs hg hg2
        exact c u)
      have x7 : jv_u S.2 7 (4096 * k + e) 1 7 (4096 * k' + e') = S.2 7 (4096 * k' + e') := jv_u_j _ _ _ _ (fun z => by
        have y : e' < S.2 11 k' := hg.2.2.1
        exact c (by omega))
      refine ⟨(vm_wr_o (fun z => absurd z.1 (by decide))).trans y1, fun z => w.trans (y2 z), fun z => ?_⟩
      obtain ⟨x, x1, x2, x3⟩ := y3 z
      refine ⟨x, w.trans x1, x2, ?_⟩
      show x = run ↔ jv_u S.2 7 (4096 * k + e) 1 7 (4096 * k' + e') = 1
      rw [x7]; exact x3
  · rw [vm_wr_o (fun z => absurd z.1 (by decide))]
    exact g4 g hg (fun k' e' i w => z k' e' i ((vk_gi_es es).mpr w))
/-- a state that differs in what was found, maps' books, the area -/
theorem vm_c_new {I I1 : Nat → Nat → Int32} {L L1 : Nat → Nat → Int64} {S T : vm_S} (h : vm_c I L S) (hI : ∀ q i, vm_cell q i → q ≠ 9 → q ≠ 6 → I1 q i = I q i) (h6 : vm_by I1 6 65536 (T.2 6)) (hL : ∀ q i, (q = 172 ∨ (q = 2 ∧ i = 8)) → L1 q i = L q i) (h1 : T.1 = S.1) (h2 : ∀ c i, (c = 0 ∧ i = 0) ∨ (1 ≤ c ∧ c ≤ 5) → T.2 c i = S.2 c i) (hl : ∀ q, q < 65536 → (vm_led T q ↔ vc_led I1 q)) : vm_c I1 L1 T := by
  obtain ⟨a1, a2, a3, a4, a5, a6, a7, a8, a9⟩ := h
  have c : ∀ q i, (q = 3 ∨ q = 4 ∨ q = 173 ∨ q = 174) → I1 q i = I q i := fun q i z => hI q i (by unfold vm_cell; omega) (by omega) (by omega)
  have sz : vm_size T = vm_size S := h2 0 0 (by omega)
  refine ⟨⟨(hI 2 1 (Or.inl ⟨rfl, rfl⟩) (by decide) (by decide)).trans (by rw [sz]; exact a1.1), by rw [sz]; exact a1.2⟩, fun r hr => ?_, fun r hr g => ?_, fun k hk => ?_, fun j hj => ?_, fun j hj => ?_, h6, hl, (hL 2 8 (Or.inr ⟨rfl, rfl⟩)).trans (by rw [h1]; exact a9)⟩
  · rw [hI 171 2 (Or.inr (Or.inl ⟨rfl, Or.inl rfl⟩)) (by decide) (by decide), h2 1 r (by omega)]; exact a2 r hr
  · rw [hL 172 r (Or.inl rfl), h1]; exact a3 r hr (by rw [← h2 1 r (by omega)]; exact g)
  · rw [c 174 k (by omega), c 173 k (by omega), h2 3 k (by omega), h2 2 k (by omega)]; exact a4 k hk
  · rw [c 3 j (by omega), h2 4 j (by omega)]; exact a5 j hj
  · have cx : vm_cx T j = vm_cx S j := by unfold vm_cx; rw [sz, h2 5 j (by omega)]
    rw [c 4 j (by omega), cx]; exact a6 j hj
