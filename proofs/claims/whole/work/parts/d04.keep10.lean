/-! part d04: register 10 stays what it is; what is known of all states of the reference -/
def vt_10 (A : vt_A) : Prop := A.1 10 = vt_stk 0
section
variable {M : vf_M} {f : vf_F} {A B : vt_A}
theorem vt_up_10 {r : Nat} {t : vt_T} (h : r ≠ 10) (a : vt_10 A) : vt_10 (vt_up A r t) := (if_neg (fun z => h z.symm)).trans a
theorem vx_arith_10 (h : f.d ≠ 10) (a : vt_10 A) : vt_10 (vx_arith f A).2 := by
  unfold vx_arith; dsimp only
  repeat' split
  all_goals first | exact a | exact vt_up_10 h a
theorem vx_load_10 (h : f.d ≠ 10) (a : vt_10 A) : vt_10 (vx_load M f A).2 := by
  unfold vx_load; dsimp only
  repeat' split
  all_goals first | exact a | exact vt_up_10 h a
theorem vx_put_10 {k : Int} {z : Nat} {y : vt_T} (a : vt_10 A) : vt_10 (vx_put A k z y) := by
  have h : vx_slot k ≠ 10 := by unfold vx_slot; omega
  unfold vx_put; split
  · exact vt_up_10 h a
  · exact vt_up_10 h a
theorem vx_store_10 (a : vt_10 A) : vt_10 (vx_store M f A).2 := by
  unfold vx_store; dsimp only
  repeat' split
  all_goals first | exact a | exact vx_put_10 a
theorem vx_atomic_10 (h : f.i % 2 = 1 → f.i = 241 ∨ f.s < 10) (a : vt_10 A) : vt_10 (vx_atomic M f A).2 := by
  unfold vx_atomic; dsimp only
  repeat' split
  all_goals first | exact a | skip
  · next c e => exact vt_up_10 (by have := h c; rw [decide_eq_true_eq] at e; omega) a
theorem vx_wide_10 {i2 : Int} (h : f.d ≠ 10) (a : vt_10 A) : vt_10 (vx_wide M f i2 A).2 := by
  unfold vx_wide
  repeat' split
  all_goals first | exact a | exact vt_up_10 h a
theorem vx_drop_10 {q : vt_T → Bool} (hq : q (vt_stk 0) = false) (a : vt_10 A) : vt_10 (vx_drop A q) := by
  show (if 10 < 75 ∧ q (A.1 10) = true then _ else A.1 10) = _
  rw [if_neg (fun z => by rw [show A.1 10 = vt_stk 0 from a, hq] at z; exact absurd z.2 (by decide))]
  exact a
theorem vx_clear_10 (a : vt_10 A) : vt_10 (vx_clear A) := show A.1 10 = vt_stk 0 from a
theorem vx_call_10 {c : Int} {p : Nat} (a : vt_10 A) : vt_10 (vx_call M c p A).2 := by
  unfold vx_call; dsimp only
  repeat' split
  all_goals first | exact a | exact vt_up_10 (by decide) (vx_clear_10 (vx_drop_10 rfl a)) | exact vt_up_10 (by decide) (vx_clear_10 (show ((vx_drop A (fun t => decide (t.sort = 4) || decide (t.sort = 5))).1 10) = vt_stk 0 from vx_drop_10 rfl a)) | exact vt_up_10 (by decide) (vx_clear_10 a)
theorem vx_settle_k10 {pl : Int} {b : Bool} (a : vt_10 A) : vt_10 (vx_settle A pl b) := by
  show (if 10 < 75 ∧ (A.1 10).sort = 8 ∧ (A.1 10).org = pl then _ else A.1 10) = _
  rw [if_neg (fun z => by rw [show A.1 10 = vt_stk 0 from a] at z; exact absurd (show (3 : Nat) = 8 from z.2.1) (by decide))]
  exact a
theorem vx_ms_10 {n : Nat} {pf : Bool} {v : vb_S} (a : vt_10 A) (b : vt_10 B) : vt_10 (vx_ms n pf v A B).1 ∧ vt_10 (vx_ms n pf v A B).2 := by
  unfold vx_ms
  repeat' split
  all_goals exact ⟨a, b⟩
theorem vx_jump_10 (a : vt_10 A) : (∀ B, (vx_jump f A).2.1 = some B → vt_10 B) ∧ ∀ B, (vx_jump f A).2.2 = some B → vt_10 B := by
  have so : ∀ {C B : vt_A}, vt_10 C → some C = some B → vt_10 B := fun h e => by cases e; exact h
  by_cases h1 : vx_j1 f A
  · rw [vx_jp1 h1]; exact ⟨fun B h => (by cases h), fun B h => (by cases h)⟩
  by_cases h2 : vx_j2 f A
  · by_cases h3 : (f.bit3 = true ∧ f.d = f.s) ∨ (f.kind ≠ 5 ∧ ¬ (vx_small (A.1 f.d).val = true ∧ vx_small (vx_yv f A) = true))
    · rw [vx_jp2 h1 h2 h3]; exact ⟨fun B => so a, fun B => so a⟩
    · rw [vx_jp2' h1 h2 h3]
      have hd : f.d ≠ 10 := fun z => by
        have q := h2.1; rw [z, show A.1 10 = vt_stk 0 from a] at q; exact absurd (show (3 : Nat) = 1 from q) (by decide)
      have m : ∀ (o : Option (vb_S × vb_S)) B, o.map (vx_refd f A) = some B → vt_10 B := fun o B h => by
        cases o with
        | none => cases h
        | some p =>
          cases h
          unfold vx_refd; split
          · next hb =>
            have hs : f.s ≠ 10 := fun z => by
              have q := h2.2; unfold vx_y at q; rw [if_pos hb, z, show A.1 10 = vt_stk 0 from a] at q; exact absurd (show (3 : Nat) = 1 from q) (by decide)
            exact vt_up_10 hs (vt_up_10 hd a)
          · exact vt_up_10 hd a
      exact ⟨m _, m _⟩
  by_cases h3 : vx_j3 f A
  · rw [vx_jp3 h1 h2 h3]; exact ⟨fun B => so (vx_settle_k10 a), fun B => so (vx_settle_k10 a)⟩
  by_cases h4 : vx_j4 f A
  · rw [vx_jp4 h1 h2 h3 h4 rfl rfl]
    have g := vx_ms_10 (n := f.n) (pf := decide ((A.1 f.d).sort = 4)) (v := if decide ((A.1 f.d).sort = 4) = true then (A.1 f.d).val else (vx_y f A).val) a a
    exact ⟨fun B => so g.1, fun B => so g.2⟩
  · rw [vx_jp5 h1 h2 h3 h4]; exact ⟨fun B h => (by cases h), fun B h => (by cases h)⟩
theorem vx_one_10 {r : Nat × vt_A} {q : Int} (h : vt_10 r.2) : ∀ e ∈ (vx_one r q).2, vt_10 e.2 := fun e he => by
  unfold vx_one at he
  by_cases c : r.1 ≠ 0
  · rw [if_pos c] at he; exact absurd he List.not_mem_nil
  · rw [if_neg c] at he; rw [List.mem_singleton.mp he]; exact h
theorem vx_one_len {r : Nat × vt_A} {q : Int} : (vx_one r q).2.length ≤ 2 := by
  unfold vx_one; split
  · exact Nat.zero_le _
  · exact Nat.le_succ _
/-- what else the form of a word makes sure of -/
def vf_x (f : vf_F) : Prop := f.d < 11 ∧ f.s < 11 ∧ ((f.kind = 4 ∨ f.kind = 7) → vf_ar f ∧ f.d < 10) ∧ (f.kind = 1 → f.d < 10) ∧ (f.kind = 3 → f.mode = 6 → 0 ≤ f.i ∧ f.i < 256 ∧ (f.i % 2 = 1 → f.i = 241 ∨ f.s < 10)) ∧ (f.kind = 0 → f.d < 10 ∧ (f.s = 0 ∨ f.s = 1)) ∧ ((f.kind = 5 ∨ f.kind = 6) → f.n = 0 → f.bit3 = false)
theorem vx_does_10 {i2 : Int} {p : Nat} (hx : vf_x f) (a : vt_10 A) : (∀ e ∈ (vx_does M f i2 p A).2, vt_10 e.2) ∧ (vx_does M f i2 p A).2.length ≤ 2 := by
  have k8 : f.kind < 8 := Nat.mod_lt _ (by decide)
  by_cases k0 : f.kind = 0
  · rw [vx_do0 k0]; exact ⟨vx_one_10 (vx_wide_10 (by have := (hx.2.2.2.2.2.1 k0).1; omega) a), vx_one_len⟩
  by_cases k1 : f.kind = 1
  · rw [vx_do1 k1]; exact ⟨vx_one_10 (vx_load_10 (by have := hx.2.2.2.1 k1; omega) a), vx_one_len⟩
  by_cases k2 : f.kind = 2
  · rw [vx_do2 k2]; exact ⟨vx_one_10 (vx_store_10 a), vx_one_len⟩
  by_cases k3 : f.kind = 3
  · by_cases m : f.mode = 6
    · rw [vx_do3a k3 m]; exact ⟨vx_one_10 (vx_atomic_10 (hx.2.2.2.2.1 k3 m).2.2 a), vx_one_len⟩
    · rw [vx_do3s k3 m]; exact ⟨vx_one_10 (vx_store_10 a), vx_one_len⟩
  by_cases k4 : f.kind = 4 ∨ f.kind = 7
  · rw [vx_do4 k4]; exact ⟨vx_one_10 (vx_arith_10 (by have := (hx.2.2.1 k4).2; omega) a), vx_one_len⟩
  · rw [vx_doj (by omega)]
    have one : ∀ {q : Int}, (∀ e ∈ [(q, A)], vt_10 e.2) ∧ [(q, A)].length ≤ 2 := ⟨fun e he => by rw [List.mem_singleton.mp he]; exact a, Nat.le_succ _⟩
    split
    · exact one
    split
    · exact one
    split
    · exact ⟨vx_one_10 (vx_call_10 a), vx_one_len⟩
    split
    · exact ⟨fun e he => absurd he List.not_mem_nil, Nat.zero_le _⟩
    · dsimp only
      split
      · exact ⟨fun e he => absurd he List.not_mem_nil, Nat.zero_le _⟩
      · have g := vx_jump_10 (f := f) a
        constructor
        · intro e he
          rcases List.mem_append.mp he with he | he
          · cases c : (vx_jump f A).2.1 with
            | none => rw [c] at he; exact absurd he List.not_mem_nil
            | some B => rw [c] at he; rw [List.mem_singleton.mp he]; exact g.1 B c
          · cases c : (vx_jump f A).2.2 with
            | none => rw [c] at he; exact absurd he List.not_mem_nil
            | some B => rw [c] at he; rw [List.mem_singleton.mp he]; exact g.2 B c
        · rw [List.length_append]
          cases c : (vx_jump f A).2.1 <;> cases c' : (vx_jump f A).2.2 <;> first | exact Nat.zero_le _ | exact Nat.le_succ _ | exact Nat.le_refl _
end
theorem vt_start_10 : vt_10 vt_start := rfl
theorem vt_meet_10 {w : Bool} {A B : vt_A} (a : vt_10 A) (b : vt_10 B) : vt_10 (vt_meetA w A B) := by
  show (if 10 < 75 then vt_meet w (A.1 10) (B.1 10) else A.1 10) = _
  rw [if_pos (by decide), show A.1 10 = vt_stk 0 from a, show B.1 10 = vt_stk 0 from b]
  rfl
/-- what is known of all states while the reference goes over a program -/
def vz_rS (N : Nat) (fst : Nat → Bool) (st : vz_S) (b : Nat) : Prop := vz_okS st ∧ vz_gS st ∧ vz_at N fst st ∧ (∀ p A, st.1 p = some A → vt_10 A) ∧ ∀ p, st.2 p ≤ b
theorem vz_go_r {fr q : Nat} {B : vt_A} {st : vz_S} {N b : Nat} {fst : Nat → Bool} (h : vz_rS N fst st b) (hB : vt_okA B) (gB : vt_gA B) (tB : vt_10 B) (hq : q < N ∧ fst q = true) : vz_rS N fst (vz_go fr q B st).1 (b + 1) := by
  obtain ⟨h1, h2, h3, h4, h5⟩ := h
  have g := vz_go_g (fr := fr) hB gB hq h1 h2 h3
  refine ⟨(vz_go_ok (fr := fr) (q := q) hB h1).1, g.1, g.2.1, fun p A z => ?_, fun p => Nat.le_trans (g.2.2 p) (Nat.succ_le_succ (h5 p))⟩
  cases hc : st.1 q with
  | none =>
    rw [vz_go_none hc] at z
    by_cases e : p = q
    · subst e
      have z : vz_u st.1 p (some B) p = some A := z
      rw [vz_u_self] at z; cases z; exact tB
    · have z : vz_u st.1 q (some B) p = some A := z
      rw [vz_u_ne _ _ e] at z; exact h4 p A z
  | some C =>
    by_cases e : vt_meetA (decide (q ≤ fr ∧ 2 ≤ st.2 q)) C B = C
    · rw [vz_go_same hc e] at z; exact h4 p A z
    · rw [vz_go_new hc e] at z
      by_cases e : p = q
      · subst e
        have z : vz_u st.1 p (some _) p = some A := z
        rw [vz_u_self] at z; cases z; exact vt_meet_10 (h4 p C hc) tB
      · have z : vz_u st.1 q (some _) p = some A := z
        rw [vz_u_ne _ _ e] at z; exact h4 p A z
theorem vz_gos_r {fr N : Nat} {fst : Nat → Bool} : ∀ (l : List (Int × vt_A)) {st : vz_S} {b : Nat}, vz_rS N fst st b → (∀ e ∈ l, vt_okA e.2 ∧ vt_gA e.2 ∧ vt_10 e.2 ∧ e.1.toNat < N ∧ fst e.1.toNat = true) → vz_rS N fst (vz_gos fr l st).1 (b + l.length) := by
  intro l
  induction l with
  | nil => intro st b h _; exact h
  | cons e l ih =>
    intro st b h he
    obtain ⟨a1, a2, a3, a4⟩ := he e List.mem_cons_self
    have q := ih (vz_go_r (fr := fr) h a1 a2 a3 a4) (fun x hx => he x (List.mem_cons_of_mem _ hx))
    rw [show b + (e :: l).length = b + 1 + l.length by rw [List.length_cons]; omega]
    exact q
