/-! part b39: the checker makes states (gen/tb39.py) -/
theorem vc_St_ext {K K1 : Nat → Option (Nat × Nat)} {R R1 : Nat → Nat → Value} {a : Nat} (h : ∀ q, vc_in a q → K1 q = K q ∧ ∀ i, R1 q i = R q i) (s : vc_St K R a) : vc_St K1 R1 a := by
  obtain ⟨s1, s2, s3, s4, s5⟩ := s
  have i0 : vc_in a a := ⟨Nat.le_refl _, by omega⟩
  have i1 : vc_in a (a + 1) := ⟨by omega, by omega⟩
  refine ⟨(h a i0).1.trans s1, ((h a i0).2 0).trans s2, (h _ i1).1.trans s3, fun i hi => ((h _ i1).2 i).trans (s4 i hi), fun i hi => (h _ ⟨by omega, by omega⟩).1.trans (s5 i hi)⟩
theorem vc_C_ext {K K1 : Nat → Option (Nat × Nat)} {R R1 : Nat → Nat → Value} (h : ∀ q, q < 171 → K1 q = K q ∧ (q ≠ 11 → ∀ i, R1 q i = R q i)) (c : vc_C K R) : vc_C K1 R1 := by
  have hs : ∀ a, a = 12 ∨ a = 89 → ∀ q, vc_in a q → K1 q = K q ∧ ∀ i, R1 q i = R q i := fun a ha q hq => by
    unfold vc_in at hq
    exact ⟨(h q (by omega)).1, (h q (by omega)).2 (by omega)⟩
  unfold vc_C at c ⊢
  rw [(h 10 (by decide)).1, (h 166 (by decide)).1, (h 167 (by decide)).1, (h 168 (by decide)).1, (h 169 (by decide)).1, (h 170 (by decide)).1]
  have r := (h 10 (by decide)).2 (by decide)
  rw [r 0, r 2, r 3, r 4, r 5, r 6, r 7, r 8]
  obtain ⟨c1, c2, c3, c4, c5, c6, c7, c8, c9, c10, c11, c12, c13, c14, c15, c16⟩ := c
  exact ⟨c1, c2, c3, c4, c5, c6, c7, c8, c9, c10, c11, c12, c13, c14, vc_St_ext (hs 12 (Or.inl rfl)) c15, vc_St_ext (hs 89 (Or.inr rfl)) c16⟩
theorem vc_look2end {K : Nat → Option (Nat × Nat)} {I : Nat → Nat → Int32} {L : Nat → Nat → Int64} {R : Nat → Nat → Value} (hC : vc_C K R) (hCs : R 10 1 = .ref 11) (h11 : K 11 = some (104, 1024)) {pr N p : Nat} (hN : N ≤ 1024) {n sl : Nat} {Q : jv_R → Prop} (hge : N ≤ p) (hp : p < 2147483648) (HE : jv_Wp 23 91 [(0, .ref 10), (1, .ref pr), (2, .int (vl_I N))] [] (jv_H K I L R) n sl Q) : jv_Wp 23 58 [(0, .ref 10), (1, .ref pr), (2, .int (vl_I N)), (3, .int (vl_I p))] [] (jv_H K I L R) n sl Q := by
  have hS : K 11 = some (104, 1024) ∧ True := ⟨h11, trivial⟩
  refine jv_Wp.lift (fun _ Kz => jv_Ev.steps jv_i23 2 (pc' := 60) (l' := [(0, .ref 10), (1, .ref pr), (2, .int (vl_I N)), (3, .int (vl_I p))]) (st' := [.int (vl_I N), .int (vl_I p)]) rfl Kz) ?_
  refine jv_Wp.cnd jv_i23 (pt := 91) (pe := 63) (p := ((vl_I N) ≤ (vl_I p))) (q := ((vl_I N) ≤ (vl_I p))) rfl jv_bc_ge rfl rfl Iff.rfl (fun _ => ?_) (fun hz => absurd ((vl_I_le (by omega) (by omega)).mpr hge) hz)
  refine jv_Wp.loc (l := [(0, .ref 10), (1, .ref pr), (2, .int (vl_I N))]) ⟨List.forall_mem_cons.mpr ⟨.head _, List.forall_mem_cons.mpr ⟨.tail _ (.head _), List.forall_mem_cons.mpr ⟨.tail _ (.tail _ (.head _)), fun _ h => absurd h List.not_mem_nil⟩⟩⟩, by show List.Nodup [0, 1, 2, 3]; decide⟩ ?_
  exact HE
theorem vc_look2old {K : Nat → Option (Nat × Nat)} {I : Nat → Nat → Int32} {L : Nat → Nat → Int64} {R : Nat → Nat → Value} (hC : vc_C K R) (hCs : R 10 1 = .ref 11) (h11 : K 11 = some (104, 1024)) {pr N p : Nat} (hN : N ≤ 1024) {n sl : Nat} {Q : jv_R → Prop} {a : Nat} (hlt : p < N) (hr0 : R 11 p = .ref a) (HI : jv_Wp 23 58 [(0, .ref 10), (1, .ref pr), (2, .int (vl_I N)), (3, .int (vl_I (p + 1)))] [] (jv_H K I L R) n sl Q) : jv_Wp 23 58 [(0, .ref 10), (1, .ref pr), (2, .int (vl_I N)), (3, .int (vl_I p))] [] (jv_H K I L R) n sl Q := by
  have hS : K 11 = some (104, 1024) ∧ True := ⟨h11, trivial⟩
  have hr := (congrArg (R 11) (vl_I_nat (i := p) (by omega))).trans hr0
  refine jv_Wp.lift (fun _ Kz => jv_Ev.steps jv_i23 2 (pc' := 60) (l' := [(0, .ref 10), (1, .ref pr), (2, .int (vl_I N)), (3, .int (vl_I p))]) (st' := [.int (vl_I N), .int (vl_I p)]) rfl Kz) ?_
  refine jv_Wp.cnd jv_i23 (pt := 91) (pe := 63) (p := ((vl_I N) ≤ (vl_I p))) (q := ((vl_I N) ≤ (vl_I p))) rfl jv_bc_ge rfl rfl Iff.rfl (fun hz => absurd hz (fun z => absurd ((vl_I_le (by omega) (by omega)).mp z) (by omega))) (fun _ => ?_)
  refine jv_Wp.lift (fun _ Kz => jv_Ev.steps jv_i23 1 (pc' := 64) (l' := [(0, .ref 10), (1, .ref pr), (2, .int (vl_I N)), (3, .int (vl_I p))]) (st' := [.ref 10]) rfl Kz) ?_
  refine jv_Wp.lift (fun _ Kz => jv_Ev.m jv_i23 (pc' := 67) (st' := [.ref 11]) (G' := (jv_H K I L R)) rfl rfl (jv_m_getR hC.k rfl rfl hCs) Kz) ?_
  refine jv_Wp.lift (fun _ Kz => jv_Ev.steps jv_i23 1 (pc' := 68) (l' := [(0, .ref 10), (1, .ref pr), (2, .int (vl_I N)), (3, .int (vl_I p))]) (st' := [.int (vl_I p), .ref 11]) rfl Kz) ?_
  refine jv_Wp.lift (fun _ Kz => jv_Ev.m jv_i23 (pc' := 69) (st' := [.ref a]) (G' := (jv_H K I L R)) rfl rfl (jv_m_aaldR hS.1 rfl (vl_I_ix (by omega) (by decide)) rfl hr) Kz) ?_
  refine jv_Wp.lift (fun _ Kz => jv_Ev.br jv_i23 (pc' := 85) (st' := []) rfl (by rfl) Kz) ?_
  refine jv_Wp.lift (fun _ Kz => jv_Ev.steps jv_i23 2 (pc' := 58) (l' := [(3, .int ((vl_I p) + Int32.ofInt 1)), (0, .ref 10), (1, .ref pr), (2, .int (vl_I N))]) (st' := []) rfl Kz) ?_
  refine jv_Wp.loc (l := [(0, .ref 10), (1, .ref pr), (2, .int (vl_I N)), (3, .int ((vl_I p) + Int32.ofInt 1))]) ⟨List.forall_mem_cons.mpr ⟨.tail _ (.head _), List.forall_mem_cons.mpr ⟨.tail _ (.tail _ (.head _)), List.forall_mem_cons.mpr ⟨.tail _ (.tail _ (.tail _ (.head _))), List.forall_mem_cons.mpr ⟨.head _, fun _ h => absurd h List.not_mem_nil⟩⟩⟩⟩, by show List.Nodup [3, 0, 1, 2]; decide⟩ ?_
  rw [show vl_I p + Int32.ofInt 1 = vl_I (p + 1) from vl_I_add p 1]
  exact HI
theorem vc_look2new {K : Nat → Option (Nat × Nat)} {I : Nat → Nat → Int32} {L : Nat → Nat → Int64} {R : Nat → Nat → Value} (hC : vc_C K R) (hCs : R 10 1 = .ref 11) (h11 : K 11 = some (104, 1024)) {pr N p : Nat} (hN : N ≤ 1024) {n sl : Nat} {Q : jv_R → Prop} (hlt : p < N) (hr0 : R 11 p = .null) (h227 : 227 ≤ n) (hn : n + 77 < 1000000) (cl : jx_clean n I L R) (HN : ∀ K1 R1, vc_St K1 R1 n → (∀ q, (q < n + 1 ∨ n + 1 + 76 ≤ q) → K1 q = jx_kp K n 5 5 q) → (∀ q i, (q < n + 1 ∨ n + 1 + 76 ≤ q) → ¬ (q = n ∧ i = 0) → R1 q i = R q i) → jv_Wp 23 58 [(0, .ref 10), (1, .ref pr), (2, .int (vl_I N)), (3, .int (vl_I (p + 1)))] [] (jv_H K1 I L (jv_u R1 11 p (.ref n))) (n + 77) (sl + 830) Q) : jv_Wp 23 58 [(0, .ref 10), (1, .ref pr), (2, .int (vl_I N)), (3, .int (vl_I p))] [] (jv_H K I L R) n sl Q := by
  have hS : K 11 = some (104, 1024) ∧ True := ⟨h11, trivial⟩
  have hr := (congrArg (R 11) (vl_I_nat (i := p) (by omega))).trans hr0
  refine jv_Wp.lift (fun _ Kz => jv_Ev.steps jv_i23 2 (pc' := 60) (l' := [(0, .ref 10), (1, .ref pr), (2, .int (vl_I N)), (3, .int (vl_I p))]) (st' := [.int (vl_I N), .int (vl_I p)]) rfl Kz) ?_
  refine jv_Wp.cnd jv_i23 (pt := 91) (pe := 63) (p := ((vl_I N) ≤ (vl_I p))) (q := ((vl_I N) ≤ (vl_I p))) rfl jv_bc_ge rfl rfl Iff.rfl (fun hz => absurd hz (fun z => absurd ((vl_I_le (by omega) (by omega)).mp z) (by omega))) (fun _ => ?_)
  refine jv_Wp.lift (fun _ Kz => jv_Ev.steps jv_i23 1 (pc' := 64) (l' := [(0, .ref 10), (1, .ref pr), (2, .int (vl_I N)), (3, .int (vl_I p))]) (st' := [.ref 10]) rfl Kz) ?_
  refine jv_Wp.lift (fun _ Kz => jv_Ev.m jv_i23 (pc' := 67) (st' := [.ref 11]) (G' := (jv_H K I L R)) rfl rfl (jv_m_getR hC.k rfl rfl hCs) Kz) ?_
  refine jv_Wp.lift (fun _ Kz => jv_Ev.steps jv_i23 1 (pc' := 68) (l' := [(0, .ref 10), (1, .ref pr), (2, .int (vl_I N)), (3, .int (vl_I p))]) (st' := [.int (vl_I p), .ref 11]) rfl Kz) ?_
  refine jv_Wp.lift (fun _ Kz => jv_Ev.m jv_i23 (pc' := 69) (st' := [.null]) (G' := (jv_H K I L R)) rfl rfl (jv_m_aaldR hS.1 rfl (vl_I_ix (by omega) (by decide)) rfl hr) Kz) ?_
  refine jv_Wp.lift (fun _ Kz => jv_Ev.br jv_i23 (pc' := 72) (st' := []) rfl (by rfl) Kz) ?_
  refine jv_Wp.lift (fun _ Kz => jv_Ev.steps jv_i23 1 (pc' := 73) (l' := [(0, .ref 10), (1, .ref pr), (2, .int (vl_I N)), (3, .int (vl_I p))]) (st' := [.ref 10]) rfl Kz) ?_
  refine jv_Wp.lift (fun _ Kz => jv_Ev.m jv_i23 (pc' := 76) (st' := [.ref 11]) (G' := (jv_H K I L R)) rfl rfl (jv_m_getR hC.k rfl rfl hCs) Kz) ?_
  refine jv_Wp.lift (fun _ Kz => jv_Ev.steps jv_i23 1 (pc' := 77) (l' := [(0, .ref 10), (1, .ref pr), (2, .int (vl_I N)), (3, .int (vl_I p))]) (st' := [.int (vl_I p), .ref 11]) rfl Kz) ?_
  obtain ⟨K1, R1, H, s1, g1, g2⟩ := vn_State (K := jx_kp K n 5 5) (I := I) (L := L) (R := R) (o := n) (n := n + 1) (sl := sl + 5) jx_kp_n rfl (by omega) cl
  refine jv_Wp.lift (fun _ Kz => jv_Ev_newk jv_i23 (pc' := 80) (n' := n + 1) (sl' := sl + 5) (k := 5) (ln := 5) (kk := 5) (st' := [.ref n, .int (vl_I p), .ref 11]) rfl rfl (jx_fo 5 rfl (cl n (Nat.le_refl _) (by omega)).1 (cl n (Nat.le_refl _) (by omega)).2.1 (cl n (Nat.le_refl _) (by omega)).2.2) (by omega) rfl rfl rfl Kz) ?_
  refine jv_Wp.lift (fun _ Kz => jv_Ev.steps jv_i23 1 (pc' := 81) (l' := [(0, .ref 10), (1, .ref pr), (2, .int (vl_I N)), (3, .int (vl_I p))]) (st' := [.ref n, .ref n, .int (vl_I p), .ref 11]) rfl Kz) ?_
  refine jv_Wp.lift (fun _ Kz => jv_Ev.c jv_i23 (pc' := 84) (S' := [.ref n, .int (vl_I p), .ref 11]) (G1 := jv_H K1 I L R1) (n1 := n + 77) (sl1 := sl + 830) jv_i110 [.ref n] rfl rfl rfl rfl (by rfl) rfl H rfl rfl Kz) ?_
  have k11 : K1 11 = some (104, 1024) := (g1 11 (Or.inl (by omega))).trans ((jx_kp_o (by omega)).trans hS.1)
  refine jv_Wp.lift (fun _ Kz => jv_Ev.m jv_i23 (pc' := 85) (st' := []) (G' := jv_H K1 I L (jv_u R1 11 p (.ref n))) rfl rfl (by rw [jv_m_aast k11 s1.k rfl rfl rfl rfl (vl_I_ix (by omega) (by decide)), vl_I_nat (by omega)]) Kz) ?_
  refine jv_Wp.lift (fun _ Kz => jv_Ev.steps jv_i23 2 (pc' := 58) (l' := [(3, .int ((vl_I p) + Int32.ofInt 1)), (0, .ref 10), (1, .ref pr), (2, .int (vl_I N))]) (st' := []) rfl Kz) ?_
  refine jv_Wp.loc (l := [(0, .ref 10), (1, .ref pr), (2, .int (vl_I N)), (3, .int ((vl_I p) + Int32.ofInt 1))]) ⟨List.forall_mem_cons.mpr ⟨.tail _ (.head _), List.forall_mem_cons.mpr ⟨.tail _ (.tail _ (.head _)), List.forall_mem_cons.mpr ⟨.tail _ (.tail _ (.tail _ (.head _))), List.forall_mem_cons.mpr ⟨.head _, fun _ h => absurd h List.not_mem_nil⟩⟩⟩⟩, by show List.Nodup [3, 0, 1, 2]; decide⟩ ?_
  rw [show vl_I p + Int32.ofInt 1 = vl_I (p + 1) from vl_I_add p 1]
  exact HN K1 R1 s1 g1 g2
/-- loop 2: the first N places have states -/
theorem vc_look2 {I : Nat → Nat → Int32} {L : Nat → Nat → Int64} {pr N : Nat} (hN : N ≤ 1024) {Q : jv_R → Prop} : ∀ d p (K : Nat → Option (Nat × Nat)) (R : Nat → Nat → Value) sc sa n sl, p + d = N → vc_C K R → R 10 1 = .ref 11 → vc_SS K R sc sa n → p ≤ sc → 227 ≤ n → jx_clean n I L R → n + 77 * d < 1000000 →
    (∀ K1 R1 sc1 sa1 n1 sl1, vc_SS K1 R1 sc1 sa1 n1 → N ≤ sc1 → sc ≤ sc1 → n1 = n + 77 * (sc1 - sc) → sl1 = sl + 830 * (sc1 - sc) → (sc1 = sc ∨ sc1 = N) → jx_clean n1 I L R1 → (∀ q, (q < n ∨ n1 ≤ q) → K1 q = K q) → (∀ q i, (q < n ∨ n1 ≤ q) → q ≠ 11 → R1 q i = R q i) → (∀ k, k < sc → sa1 k = sa k) → (∀ k, sc ≤ k → k < sc1 → n ≤ sa1 k) → jv_Wp 23 91 [(0, .ref 10), (1, .ref pr), (2, .int (vl_I N))] [] (jv_H K1 I L R1) n1 sl1 Q) →
    jv_Wp 23 58 [(0, .ref 10), (1, .ref pr), (2, .int (vl_I N)), (3, .int (vl_I p))] [] (jv_H K I L R) n sl Q := by
  intro d
  induction d with
  | zero =>
    intro p K R sc sa n sl hp hC hCs hS hps h227 cl hn k
    refine vc_look2end hC hCs hS.1 hN (by omega) (by omega) (k K R sc sa n sl hS (by omega) (Nat.le_refl _) (by omega) (by omega) (Or.inl rfl) cl (fun _ _ => rfl) (fun _ _ _ _ => rfl) (fun _ _ => rfl) (fun j h1 h2 => absurd h1 (by omega)))
  | succ d ih =>
    intro p K R sc sa n sl hp hC hCs hS hps h227 cl hn k
    by_cases c : p < sc
    · obtain ⟨r1, r2, r3, r4⟩ := hS.2.2.2.1 p c
      exact vc_look2old hC hCs hS.1 hN (by omega) r1 (ih (p + 1) K R sc sa n sl (by omega) hC hCs hS (by omega) h227 cl (by omega) k)
    · have e : p = sc := by omega
      subst e
      refine vc_look2new hC hCs hS.1 hN (by omega) (hS.2.2.1 p (by omega) c) h227 (by omega) cl (fun K1 R1 s1 g1 g2 => ?_)
      have gK : ∀ q, (q < n ∨ n + 77 ≤ q) → K1 q = K q := fun q hq => (g1 q (by omega)).trans (jx_kp_o (by omega))
      have gR : ∀ q i, (q < n ∨ n + 77 ≤ q) → R1 q i = R q i := fun q i hq => g2 q i (by omega) (fun z => by omega)
      have gR2 : ∀ q i, (q < n ∨ n + 77 ≤ q) → q ≠ 11 → jv_u R1 11 p (.ref n) q i = R q i := fun q i hq h => (jv_u_o _ _ _ _ h).trans (gR q i hq)
      have sx : ∀ a, a + 77 ≤ n → 12 ≤ a → vc_St K R a → vc_St K1 (jv_u R1 11 p (.ref n)) a := fun a ha ha2 => vc_St_ext (fun q hq => by unfold vc_in at hq; exact ⟨gK q (by omega), fun i => gR2 q i (by omega) (by omega)⟩)
      have hC' : vc_C K1 (jv_u R1 11 p (.ref n)) := vc_C_ext (fun q hq => ⟨gK q (by omega), fun h i => gR2 q i (by omega) h⟩) hC
      have hS' : vc_SS K1 (jv_u R1 11 p (.ref n)) (p + 1) (fun k => if k = p then n else sa k) (n + 77) := by
        obtain ⟨k1, k2, k3, k4, k5⟩ := hS
        refine ⟨(gK 11 (by omega)).trans k1, by omega, fun q hq hq2 => (jv_u_j _ _ _ _ (by omega)).trans ((gR 11 q (by omega)).trans (k3 q hq (by omega))), fun q hq => ?_, fun q q' hq hq' hne => ?_⟩
        · by_cases c : q = p
          · subst c
            dsimp only
            rw [if_pos rfl]
            exact ⟨jv_u_self _ _ _ _, vc_St_ext (fun q hq => ⟨rfl, fun i => jv_u_o _ _ _ _ (by unfold vc_in at hq; omega)⟩) s1, h227, Nat.le_refl _⟩
          · obtain ⟨r1, r2, r3, r4⟩ := k4 q (by omega)
            dsimp only
            rw [if_neg c]
            exact ⟨(jv_u_j _ _ _ _ c).trans ((gR 11 q (by omega)).trans r1), sx _ r4 (by omega) r2, r3, by omega⟩
        · dsimp only
          by_cases c : q = p
          · rw [if_pos c, if_neg (by omega)]
            have := (k4 q' (by omega)).2.2.2
            omega
          · rw [if_neg c]
            by_cases c' : q' = p
            · rw [if_pos c']
              have := (k4 q (by omega)).2.2.2
              omega
            · rw [if_neg c']; exact k5 q q' (by omega) (by omega) hne
      have cl' : jx_clean (n + 77) I L (jv_u R1 11 p (.ref n)) := fun q h1 h2 => ⟨(cl q (by omega) h2).1, (cl q (by omega) h2).2.1, fun j => (gR2 q j (Or.inr h1) (by omega)).trans ((cl q (by omega) h2).2.2 j)⟩
      refine ih (p + 1) K1 (jv_u R1 11 p (.ref n)) (p + 1) _ (n + 77) (sl + 830) (by omega) hC' ((gR2 10 1 (by omega) (by decide)).trans hCs) hS' (Nat.le_refl _) (by omega) cl' (by omega) ?_
      intro K9 R9 sc9 sa9 n9 sl9 z1 z2 z3 z4 z5 z6 z7 z8 z9 z10 z11
      refine k K9 R9 sc9 sa9 n9 sl9 z1 z2 (by omega) (by omega) (by omega) (Or.inr (by omega)) z7 (fun q hq => (z8 q (by omega)).trans (gK q (by omega))) (fun q i hq h => (z9 q i (by omega) h).trans (gR2 q i (by omega) h)) (fun j hj => ?_) (fun j h1 h2 => ?_)
      · rw [z10 j (by omega)]; exact if_neg (by omega)
      · by_cases c : j = p
        · rw [z10 j (by omega)]; show n ≤ if j = p then n else sa j; rw [if_pos c]
          exact Nat.le_refl _
        · have := z11 j (by omega) h2; omega