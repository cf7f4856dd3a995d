/-! part 10l: a run asks of its locals no more than it reads -/
def jv_nd (l : jv_L) : Prop := (l.map Prod.fst).Nodup
/-- l' has all that l has, each place once -/
def jv_le (l l' : jv_L) : Prop := (∀ q ∈ l, q ∈ l') ∧ jv_nd l'
theorem jv_get_of_mem {l : jv_L} (hn : jv_nd l) {i : Nat} {v : Value} (h : (i, v) ∈ l) : jv_get l i = some v := by
  induction l with
  | nil => cases h
  | cons q r ih =>
    simp only [jv_nd, List.map_cons, List.nodup_cons] at hn
    simp only [jv_get]
    rcases List.mem_cons.mp h with h | h
    · subst h; simp
    · have : Nat.beq q.1 i = false := jv_nbeq (fun he => hn.1 (by rw [he]; exact List.mem_map.mpr ⟨(i, v), h, rfl⟩))
      rw [this]
      exact ih hn.2 h
theorem jv_le_get {l l' : jv_L} (h : jv_le l l') {i : Nat} {v : Value} (hg : jv_get l i = some v) : jv_get l' i = some v := jv_get_of_mem h.2 (h.1 _ (jv_get_mem hg))
theorem jv_nd_put {l : jv_L} (f : Nat × Value → Bool) (i : Nat) (v : Value) (hf : ∀ q, f q = true → q.1 ≠ i) (h : jv_nd l) : jv_nd ((i, v) :: l.filter f) := by
  unfold jv_nd
  rw [List.map_cons, List.nodup_cons]
  refine ⟨fun hm => ?_, ?_⟩
  · obtain ⟨q, hq, he⟩ := List.mem_map.mp hm
    exact hf q (List.mem_filter.mp hq).2 he
  · exact List.Nodup.sublist (List.Sublist.map _ List.filter_sublist) h
theorem jv_le_put {l l' : jv_L} (f : Nat × Value → Bool) (i : Nat) (v : Value) (hf : ∀ q, f q = true → q.1 ≠ i) (h : jv_le l l') : jv_le ((i, v) :: l.filter f) ((i, v) :: l'.filter f) := by
  refine ⟨fun q hq => ?_, jv_nd_put f i v hf h.2⟩
  rcases List.mem_cons.mp hq with hq | hq
  · exact List.mem_cons.mpr (Or.inl hq)
  · have := List.mem_filter.mp hq
    exact List.mem_cons.mpr (Or.inr (List.mem_filter.mpr ⟨h.1 q this.1, this.2⟩))
theorem jv_le_put1 {l l' : jv_L} {i : Nat} {v : Value} (h : jv_le l l') : jv_le (jv_put1 l i v) (jv_put1 l' i v) := jv_le_put _ i v (fun q hq => by simp at hq; exact hq.1) h
theorem jv_le_put2 {l l' : jv_L} {i : Nat} {v : Value} (h : jv_le l l') : jv_le (jv_put2 l i v) (jv_put2 l' i v) := jv_le_put _ i v (fun q hq => by simp at hq; exact hq.1) h
set_option maxHeartbeats 4000000 in
theorem jv_pure_loc {nL : Nat} {i : Instr} {c : Int} {l l' l1 : jv_L} {st st1 : List Value} (hs : jv_le l l') (h : jv_pure nL i c l st = some (l1, st1)) : ∃ l1', jv_pure nL i c l' st = some (l1', st1) ∧ jv_le l1 l1' := by
  cases i <;> simp only [jv_pure] at h ⊢ <;> (try (cases h; done))
  all_goals
    (repeat' split at h)
    all_goals first
      | (cases h; done)
      | (cases h
         first
           | exact ⟨_, rfl, hs⟩
           | exact ⟨_, if_pos (by assumption), hs⟩
           | exact ⟨_, if_pos (by assumption), jv_le_put1 hs⟩
           | exact ⟨_, if_pos (by assumption), jv_le_put2 hs⟩
           | (rw [jv_le_get hs (by assumption)]
              first
                | exact ⟨_, rfl, hs⟩
                | exact ⟨_, if_pos (by assumption), jv_le_put1 hs⟩))
theorem jv_run_loc (T : jv_T) : ∀ (g y pc : Nat) (l l' : jv_L) (st : List Value) (G : jv_G) (n sl : Nat) (X : jv_R), jv_le l l' → jv_run T g y pc l st G n sl = some X → jv_run T g y pc l' st G n sl = some X := by
  intro g
  induction g with
  | zero => intro y pc l l' st G n sl X hs h; cases h
  | succ g ih =>
    intro y pc l l' st G n sl X hs h
    have h : jv_body T (jv_run T g) y pc l st G n sl = some X := h
    show jv_body T (jv_run T g) y pc l' st G n sl = some X
    unfold jv_body at h ⊢
    cases hf : jv_fetch (jv_code T y) pc with
    | none => rw [hf] at h; cases h
    | some o =>
      rw [hf] at h
      obtain ⟨kd, i, len, a, b, c⟩ := o
      have key : ∀ kd : Nat, (match jv_callee T kd a (st.take b).reverse G with
          | none => none
          | some y' => bif jv_room T y y' b st then match jv_run T g y' 0 (lv_args 0 (st.take b).reverse) [] G n sl with
              | some (rv, G1, n1, sl1) => jv_run T g y (pc + 3) l (rv.toList ++ st.drop b) G1 n1 sl1
              | none => none
            else none) = some X → (match jv_callee T kd a (st.take b).reverse G with
          | none => none
          | some y' => bif jv_room T y y' b st then match jv_run T g y' 0 (lv_args 0 (st.take b).reverse) [] G n sl with
              | some (rv, G1, n1, sl1) => jv_run T g y (pc + 3) l' (rv.toList ++ st.drop b) G1 n1 sl1
              | none => none
            else none) = some X := by
        intro kd h
        cases hc : jv_callee T kd a (st.take b).reverse G with
        | none => rw [hc] at h; cases h
        | some y' =>
          rw [hc] at h
          dsimp only at h ⊢
          cases hr : jv_room T y y' b st with
          | false => rw [hr] at h; cases h
          | true =>
            rw [hr] at h
            simp only [cond_true] at h ⊢
            cases hq : jv_run T g y' 0 (lv_args 0 (st.take b).reverse) [] G n sl with
            | none => rw [hq] at h; cases h
            | some q =>
              rw [hq] at h
              exact ih _ _ _ _ _ _ _ _ _ hs h
      match kd, h with
      | 0, h =>
        dsimp only at h ⊢
        cases hq : jv_pure (jv_mL T y) i c l st with
        | none => rw [hq] at h; cases h
        | some q =>
          rw [hq] at h
          obtain ⟨l1', e1, e2⟩ := jv_pure_loc hs hq
          rw [e1]
          exact ih _ _ _ _ _ _ _ _ _ e2 h
      | 1, h =>
        dsimp only at h ⊢
        cases hq : jv_mem i a b st G with
        | none => rw [hq] at h; cases h
        | some q => rw [hq] at h; exact ih _ _ _ _ _ _ _ _ _ hs h
      | 2, h =>
        dsimp only at h ⊢
        cases hq : jv_br i pc st with
        | none => rw [hq] at h; cases h
        | some q => rw [hq] at h; exact ih _ _ _ _ _ _ _ _ _ hs h
      | 3, h =>
        dsimp only at h ⊢
        cases hq : jv_new i a st n with
        | none => rw [hq] at h; cases h
        | some q =>
          rw [hq] at h
          dsimp only at h ⊢
          cases hb : Nat.blt n 1000000 with
          | false => rw [hb] at h; cases h
          | true => rw [hb] at h; exact ih _ _ _ _ _ _ _ _ _ hs h
      | 7, h =>
        dsimp only at h ⊢
        cases hq : jv_oi T y st with
        | none => rw [hq] at h; cases h
        | some q => rw [hq] at h; exact ih _ _ _ _ _ _ _ _ _ hs h
      | 8, h => exact h
      | 9, h => exact ih _ _ _ _ _ _ _ _ _ hs h
      | 10, h =>
        dsimp only at h ⊢
        cases hq : jv_sp (jv_fr T y) (jv_lo T y) a st G with
        | none => rw [hq] at h; cases h
        | some q => rw [hq] at h; exact ih _ _ _ _ _ _ _ _ _ hs h
      | 4, h => exact key 4 h
      | 5, h => exact key 5 h
      | 6, h => exact key 6 h
      | k + 11, h => exact key (k + 11) h
