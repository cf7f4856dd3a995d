/-! part b37: new states (gen/tb37.py) -/
/-- a new cell anywhere -/
theorem jv_Ev_newk {K : Nat → Option (Nat × Nat)} {I : Nat → Nat → Int32} {L : Nat → Nat → Int64} {R : Nat → Nat → Value} {y mL fr lo : Nat} {rt : Option FieldType} {cd : List (Nat × jv_O)} {pc : Nat} {l : jv_L} {st : List Value} {n sl : Nat} {X : jv_R} (hI : jv_I y mL rt fr lo cd) {i : Instr} {len a b : Nat} {c : Int} {st' : List Value} {k ln kk n' sl' pc' : Nat} {V : Nat → Value} (hf : jv_fetch cd pc = some (3, i, len, a, b, c)) (h : jv_new i a st n = some (st', (k, ln, V), kk)) (hV : ∀ j, V j = jv_cv I L R n k j) (hn : n < 1000000) (h1 : n + 1 = n') (h2 : sl + kk = sl') (h3 : pc + len = pc')
    (Kk : jv_Ev y pc' l st' (jv_H (jx_kp K n k ln) I L R) n' sl' X) : jv_Ev y pc l st (jv_H K I L R) n sl X := by
  subst h1; subst h2; subst h3
  refine jv_Ev.new hI hf h hn ?_
  rw [jx_Kkp hV]
  exact Kk
theorem jx_kp_n {K : Nat → Option (Nat × Nat)} {n k ln : Nat} : jx_kp K n k ln n = some (k, ln) := by unfold jx_kp; rw [Nat.beq_refl]; rfl
theorem jx_kp_o {K : Nat → Option (Nat × Nat)} {n k ln q : Nat} (h : q ≠ n) : jx_kp K n k ln q = K q := by unfold jx_kp; rw [jv_nbeq h]; rfl
/-- nothing stands from n on -/
def jx_clean (n : Nat) (I : Nat → Nat → Int32) (L : Nat → Nat → Int64) (R : Nat → Nat → Value) : Prop := ∀ q, n ≤ q → q < 1000000 → (∀ j, I q j = 0) ∧ (∀ j, L q j = 0) ∧ ∀ j, R q j = .null
/-- cells and references outside n .. n', and but for (o, j), are as before -/
def jv_gr (n n' o j : Nat) (K : Nat → Option (Nat × Nat)) (R : Nat → Nat → Value) (K1 : Nat → Option (Nat × Nat)) (R1 : Nat → Nat → Value) : Prop := (∀ q, (q < n ∨ n' ≤ q) → K1 q = K q) ∧ ∀ q i, (q < n ∨ n' ≤ q) → ¬ (q = o ∧ i = j) → R1 q i = R q i
theorem jx_fo8 {n : Nat} {I : Nat → Nat → Int32} {L : Nat → Nat → Int64} {R : Nat → Nat → Value} (h : (∀ j, I n j = 0) ∧ (∀ j, L n j = 0) ∧ ∀ j, R n j = .null) (j : Nat) : defaultValue (jv_ty 8 j) = jv_cv I L R n 8 j := jx_fo 8 rfl h.1 h.2.1 h.2.2 j
theorem vn_State {K : Nat → Option (Nat × Nat)} {I : Nat → Nat → Int32} {L : Nat → Nat → Int64} {R : Nat → Nat → Value} {o n sl : Nat} (hKo : K o = some (5, 5)) (hon : o + 1 = n) (hn : n + 76 < 1000000) (cl : jx_clean o I L R) : ∃ K1 R1, jv_Ms 110 [.ref o] (jv_H K I L R) n sl (none, jv_H K1 I L R1, n + 76, sl + 825) ∧ vc_St K1 R1 o ∧ jv_gr n (n + 76) o 0 K R K1 R1 := by
  have loop : ∀ d i, i + d = 75 → ∀ K0 R0, K0 o = some (5, 5) → R0 o 0 = .ref n → K0 n = some (105, 75) → (∀ k, k < i → R0 n k = .ref (n + 1 + k) ∧ K0 (n + 1 + k) = some (8, 10)) → (∀ q, n + 1 + i ≤ q → q < 1000000 → ∀ j, R0 q j = .null) →
      ∃ K1 R1, jv_Ev 110 15 [(0, .ref o), (1, .int (vl_I i))] [] (jv_H K0 I L R0) (n + 1 + i) (sl + 75 + 10 * i) (none, jv_H K1 I L R1, n + 76, sl + 825) ∧ vc_St K1 R1 o ∧ (∀ q, (q < n ∨ n + 76 ≤ q) → K1 q = K0 q) ∧ ∀ q j, (q < n ∨ n + 76 ≤ q) → R1 q j = R0 q j := by
    intro d
    induction d with
    | zero =>
      intro i hi K0 R0 h1 h2 h3 h4 h5
      have hi : i = 75 := by omega
      subst hi
      refine ⟨K0, R0, ?_, ⟨h1, by rw [hon]; exact h2, by rw [hon]; exact h3, fun k hk => by rw [hon, show o + 2 + k = n + 1 + k by omega]; exact (h4 k hk).1, fun k hk => by rw [show o + 2 + k = n + 1 + k by omega]; exact (h4 k hk).2⟩, fun _ _ => rfl, fun _ _ _ => rfl⟩
      refine jv_Ev.steps jv_i110 2 (pc' := 17) (l' := [(0, .ref o), (1, .int (vl_I 75))]) (st' := [.ref o, .int (vl_I 75)]) rfl ?_
      refine jv_Ev.m jv_i110 (pc' := 20) (st' := [.ref n, .int (vl_I 75)]) rfl rfl (jv_m_getR h1 rfl rfl h2) ?_
      refine jv_Ev.m jv_i110 (pc' := 21) (st' := [.int (Int32.ofNat 75), .int (vl_I 75)]) rfl rfl (jv_m_len h3 rfl) ?_
      refine jv_Ev.br jv_i110 (pc' := 43) (st' := []) rfl (by decide +kernel) ?_
      exact jv_Ev.ret jv_i110 rfl rfl
    | succ d ih =>
      intro i hi K0 R0 h1 h2 h3 h4 h5
      have hlt : i < 75 := by omega
      have hclean := cl (n + 1 + i) (by omega) (by omega)
      obtain ⟨K1, R1, H, s, e1, e2⟩ := ih (i + 1) (by omega) (jx_kp K0 (n + 1 + i) 8 10) (jv_u R0 n i (.ref (n + 1 + i))) (by rw [jx_kp_o (by omega)]; exact h1) (by rw [jv_u_o _ _ _ _ (by omega)]; exact h2) (by rw [jx_kp_o (by omega)]; exact h3)
        (fun k hk => by
          by_cases c : k = i
          · subst c; exact ⟨jv_u_self _ _ _ _, jx_kp_n⟩
          · exact ⟨(jv_u_j _ _ _ _ c).trans (h4 k (by omega)).1, (jx_kp_o (by omega)).trans (h4 k (by omega)).2⟩)
        (fun q hq hq2 j => (jv_u_o _ _ _ _ (by omega)).trans (h5 q (by omega) hq2 j))
      refine ⟨K1, R1, ?_, s, fun q hq => (e1 q hq).trans (jx_kp_o (by omega)), fun q j hq => (e2 q j hq).trans (jv_u_o _ _ _ _ (by omega))⟩
      refine jv_Ev.steps jv_i110 2 (pc' := 17) (l' := [(0, .ref o), (1, .int (vl_I i))]) (st' := [.ref o, .int (vl_I i)]) rfl ?_
      refine jv_Ev.m jv_i110 (pc' := 20) (st' := [.ref n, .int (vl_I i)]) rfl rfl (jv_m_getR h1 rfl rfl h2) ?_
      refine jv_Ev.m jv_i110 (pc' := 21) (st' := [.int (Int32.ofNat 75), .int (vl_I i)]) rfl rfl (jv_m_len h3 rfl) ?_
      refine jv_Ev.br jv_i110 (pc' := 24) (st' := []) rfl (jx_gof (fun z => absurd ((vl_I_le (a := 75) (by decide) (by omega)).mp z) (by omega))) ?_
      refine jv_Ev.steps jv_i110 1 (pc' := 25) (l' := [(0, .ref o), (1, .int (vl_I i))]) (st' := [.ref o]) rfl ?_
      refine jv_Ev.m jv_i110 (pc' := 28) (st' := [.ref n]) rfl rfl (jv_m_getR h1 rfl rfl h2) ?_
      refine jv_Ev.steps jv_i110 1 (pc' := 29) (l' := [(0, .ref o), (1, .int (vl_I i))]) (st' := [.int (vl_I i), .ref n]) rfl ?_
      refine jv_Ev_newk jv_i110 (pc' := 32) (n' := n + 1 + (i + 1)) (sl' := sl + 75 + 10 * (i + 1)) (k := 8) (ln := 10) (kk := 10) (st' := [.ref (n + 1 + i), .int (vl_I i), .ref n]) rfl rfl (jx_fo8 ⟨hclean.1, hclean.2.1, h5 _ (by omega) (by omega)⟩) (by omega) (by omega) (by omega) rfl ?_
      refine jv_Ev.steps jv_i110 1 (pc' := 33) (l' := [(0, .ref o), (1, .int (vl_I i))]) (st' := [.ref (n + 1 + i), .ref (n + 1 + i), .int (vl_I i), .ref n]) rfl ?_
      refine jv_Ev.c jv_i110 (pc' := 36) (S' := [.ref (n + 1 + i), .int (vl_I i), .ref n]) jv_i139 [.ref (n + 1 + i)] rfl rfl rfl rfl (by rfl) rfl (jx_c139 _ _ _ _) rfl rfl ?_
      refine jv_Ev.m jv_i110 (pc' := 37) (st' := []) (G' := jv_H (jx_kp K0 (n + 1 + i) 8 10) I L (jv_u R0 n i (.ref (n + 1 + i)))) rfl rfl ?_ ?_
      · rw [jv_m_aast (by rw [jx_kp_o (by omega)]; exact h3) jx_kp_n rfl rfl rfl rfl (vl_I_ix hlt (by decide)), vl_I_nat (by omega)]
      refine jv_Ev.steps jv_i110 2 (pc' := 15) (l' := [(1, .int (vl_I i + Int32.ofInt 1)), (0, .ref o)]) (st' := []) rfl ?_
      refine jv_Ev.loc (l := [(0, .ref o), (1, .int (vl_I (i + 1)))]) ⟨?_, by show List.Nodup [1, 0]; decide⟩ H
      have e1 : vl_I i + Int32.ofInt 1 = vl_I (i + 1) := vl_I_add i 1
      rw [e1]
      exact List.forall_mem_cons.mpr ⟨.tail _ (.head _), List.forall_mem_cons.mpr ⟨.head _, fun _ h => absurd h List.not_mem_nil⟩⟩
  have cn := cl n (by omega) (by omega)
  obtain ⟨K1, R1, H, s, e1, e2⟩ := loop 75 0 rfl (jx_kp K n 105 75) (jv_u R o 0 (.ref n)) (by rw [jx_kp_o (by omega)]; exact hKo) (jv_u_self _ _ _ _) jx_kp_n (fun k hk => absurd hk (Nat.not_lt_zero k)) (fun q hq hq2 j => (jv_u_o _ _ _ _ (by omega)).trans ((cl q (by omega) hq2).2.2 j))
  refine ⟨K1, R1, ?_, s, fun q hq => (e1 q hq).trans (jx_kp_o (by omega)), fun q i hq hi => ?_⟩
  · show jv_Ev 110 0 [(0, .ref o)] [] (jv_H K I L R) n sl _
    refine jv_Ev.steps jv_i110 1 (pc' := 1) (l' := [(0, .ref o)]) (st' := [.ref o]) rfl ?_
    refine jv_Ev.obj jv_i110 rfl rfl ?_
    refine jv_Ev.steps jv_i110 2 (pc' := 7) (l' := [(0, .ref o)]) (st' := [.int (75 : Int32), .ref o]) rfl ?_
    refine jv_Ev_newk jv_i110 (pc' := 10) (n' := n + 1) (sl' := sl + 75) (k := 105) (ln := 75) (kk := 75) (st' := [.ref n, .ref o]) rfl rfl (fun j => by show Value.null = R n j; rw [cn.2.2]) (by omega) rfl rfl rfl ?_
    refine jv_Ev.m jv_i110 (pc' := 13) (st' := []) (G' := jv_H (jx_kp K n 105 75) I L (jv_u R o 0 (.ref n))) rfl rfl (jv_m_putR (by rw [jx_kp_o (by omega)]; exact hKo) rfl rfl rfl rfl) ?_
    refine jv_Ev.steps jv_i110 2 (pc' := 15) (l' := [(1, .int (vl_I 0)), (0, .ref o)]) (st' := []) rfl ?_
    exact jv_Ev.loc (l := [(0, .ref o), (1, .int (vl_I 0))]) ⟨List.forall_mem_cons.mpr ⟨.tail _ (.head _), List.forall_mem_cons.mpr ⟨.head _, fun _ h => absurd h List.not_mem_nil⟩⟩, by show List.Nodup [1, 0]; decide⟩ H
  · refine (e2 q i hq).trans ?_
    by_cases c : q = o
    · subst c; exact jv_u_j _ _ _ _ (fun z => hi ⟨rfl, z⟩)
    · exact jv_u_o _ _ _ _ c