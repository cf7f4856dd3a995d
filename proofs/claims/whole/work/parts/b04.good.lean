/-! part b04: what comes of well formed states is well formed -/
theorem vx_y_ok {f : vf_F} {A : vt_A} (hA : vt_okA A) (hs : f.s < 75) : vt_ok (vx_y f A) := by
  unfold vx_y
  split
  · exact hA _ hs
  · exact vt_ok_num (vb_just_tight _)
theorem vx_move_ok {n : Nat} {d y : vt_T} (hd : vt_ok d) (hy : vt_ok y) : vt_ok (vx_move n d y).2 := by
  have h1 : vt_ok (if d.sort = 1 then d else y) := by split <;> assumption
  have h2 : vt_ok (if d.sort = 1 then y else d) := by split <;> assumption
  unfold vx_move
  dsimp only
  generalize (if d.sort = 1 then d else y) = x at h1 ⊢
  generalize (if d.sort = 1 then y else d) = b at h2 ⊢
  by_cases c1 : x.sort ≠ 1 ∨ (n = 1 ∧ d.sort = 1)
  · rw [if_pos c1]; exact hd
  rw [if_neg c1]
  have hx : x.sort = 1 := Classical.not_not.mp (fun z => c1 (Or.inl z))
  by_cases c2 : b.sort = 4 ∨ b.sort = 7
  · rw [if_pos c2]
    have t1 := h1.2.1 (by rw [hx]; rfl)
    have t2 := h2.2.1 (by rcases c2 with c | c <;> rw [c] <;> rfl)
    split
    · exact hd
    · exact vt_ok_val c2 (vx_op_in (Or.inl rfl) t2.low t1.low).1
  rw [if_neg c2]
  by_cases c3 : (b.sort ≠ 2 ∧ b.sort ≠ 3) ∨ x.val.low ≠ x.val.high
  · rw [if_pos c3]; exact hd
  rw [if_neg c3]
  have hb : b.sort = 2 ∨ b.sort = 3 := by
    by_cases e2 : b.sort = 2
    · exact Or.inl e2
    · by_cases e3 : b.sort = 3
      · exact Or.inr e3
      · exact absurd (Or.inl ⟨e2, e3⟩) c3
  generalize (if n = 0 then b.det + x.val.low.toInt else b.det - x.val.low.toInt) = c
  by_cases c4 : c < -vx_far ∨ vx_far < c
  · rw [if_pos c4]; exact hd
  · rw [if_neg c4]
    refine vt_ok_no (by omega) ?_
    rcases hb with e | e <;> rw [e] <;> rfl
theorem vb_cOp11 (x y : vb_S) (top : Nat) : vb_cOp (vl_I 11) x y top = y := by
  unfold vb_cOp
  rw [if_neg (show ¬ vl_I 11 = Int32.ofInt 0 by decide), if_neg (show ¬ vl_I 11 = Int32.ofInt 1 by decide), if_neg (show ¬ vl_I 11 = Int32.ofInt 2 by decide), if_neg (show ¬ vl_I 11 = Int32.ofInt 3 by decide), if_neg (show ¬ vl_I 11 = Int32.ofInt 4 by decide), if_neg (show ¬ vl_I 11 = Int32.ofInt 5 by decide), if_neg (show ¬ vl_I 11 = Int32.ofInt 6 by decide), if_neg (show ¬ vl_I 11 = Int32.ofInt 7 by decide), if_neg (show ¬ vl_I 11 = Int32.ofInt 9 by decide), if_neg (show ¬ vl_I 11 = Int32.ofInt 10 by decide), if_pos (show vl_I 11 = Int32.ofInt 11 by decide)]
theorem vx_arith_ok {f : vf_F} {A : vt_A} (hf : vf_ok f) (hk : f.kind = 4 ∨ f.kind = 7) (hA : vt_okA A) (hd : f.d < 75) (hs : f.s < 75) : vt_okA (vx_arith f A).2 := by
  have hy := vx_y_ok hA hs
  unfold vx_arith
  dsimp only
  split
  · exact hA
  · split
    · exact vt_okA_up hA hy
    · rename_i c1 c2
      split
      · split
        · split
          · exact hA
          · exact vt_okA_up hA (vx_move_ok (hA _ hd) hy)
        · exact hA
      · rename_i c3
        refine vt_okA_up hA (vt_ok_num ?_)
        -- whoever isn't read may hold anything: its value stands in for a number
        by_cases hx : (A.1 f.d).sort = 1
        · have t1 := (hA _ hd).2.1 (by rw [hx]; rfl)
          by_cases hz : (vx_y f A).sort = 1
          · have t2 := hy.2.1 (by rw [hz]; rfl)
            exact (vx_reckon_in hf hk 0 t1.low t2.low).1
          · have ry : f.n = 8 ∨ f.n = 13 := by
              by_cases e8 : f.n = 8
              · exact Or.inl e8
              · by_cases e13 : f.n = 13
                · exact Or.inr e13
                · exact absurd (Or.inr ⟨by simp [e8, e13], hz⟩) c3
            have same : vx_reckon f (A.1 f.d).val (vx_y f A).val = vx_reckon f (A.1 f.d).val vb_any := by
              unfold vx_reckon
              rcases ry with e | e
              · rw [e]; simp
              · rw [e]; simp
            rw [same]
            exact (vx_reckon_in hf hk 0 t1.low (vb_any_mem 0)).1
        · have rd : f.n = 11 := by
            by_cases e : f.n = 11
            · exact e
            · exact absurd (Or.inl ⟨by simp [e], hx⟩) c3
          have hz : (vx_y f A).sort = 1 := by
            by_cases hz : (vx_y f A).sort = 1
            · exact hz
            · exact absurd (Or.inr ⟨by simp [rd], hz⟩) c3
          have t2 := hy.2.1 (by rw [hz]; rfl)
          have same : vx_reckon f (A.1 f.d).val (vx_y f A).val = vx_reckon f vb_any (vx_y f A).val := by
            have n13 : ¬ f.n = 13 := by omega
            have n8 : ¬ f.n = 8 := by omega
            unfold vx_reckon
            rw [if_neg n13, if_neg n13]
            by_cases ho : f.o ≠ 0
            · rw [if_pos ho, if_pos ho]
            · rw [if_neg ho, if_neg ho, if_neg n8, if_neg n8, rd]
              have e : ∀ (x w y : vb_S) top, vx_op 11 x y top = vx_op 11 w y top := fun x w y top => by
                unfold vx_op
                rw [vb_cOp11, vb_cOp11]
              have n12 : ¬ (11 : Nat) = 12 := by decide
              by_cases h7 : f.kind = 7
              · rw [if_pos h7, if_pos h7]; exact e _ _ _ _
              · rw [if_neg h7, if_neg h7]
                unfold vx_op32
                rw [if_neg n12, if_neg n12]
                exact congrArg (fun z => vx_cut z 32) (e _ _ _ _)
          rw [same]
          exact (vx_reckon_in hf hk 0 (vb_any_mem 0) t2.low).1
theorem vx_reach_stk {M : vf_M} {A : vt_A} {t : vt_T} {o : Int} {z : Nat} {w : Bool} (hs : t.sort = 3) (h : ¬ vx_reach M A t o z w ≠ 0) : -512 ≤ t.det + o ∧ t.det + o ≤ -(z : Int) ∧ (t.det + o) % (z : Int) = 0 := by
  have h := Classical.not_not.mp h
  unfold vx_reach at h
  rw [if_neg (by omega), if_pos hs] at h
  by_cases c : -512 ≤ t.det + o ∧ t.det + o ≤ -(z : Int) ∧ (t.det + o) % (z : Int) = 0
  · exact c
  · rw [if_neg c] at h; exact absurd h (by decide)
theorem vx_slot_lt {a : Int} (h1 : -512 ≤ a) (h2 : a ≤ -1) : vx_slot a < 75 := by
  unfold vx_slot; omega
theorem vf_z_cases (f : vf_F) : f.z = 1 ∨ f.z = 2 ∨ f.z = 4 ∨ f.z = 8 := by
  unfold vf_F.z
  split
  · exact Or.inr (Or.inr (Or.inl rfl))
  · split
    · exact Or.inr (Or.inl rfl)
    · split
      · exact Or.inl rfl
      · exact Or.inr (Or.inr (Or.inr rfl))
theorem vx_load_ok {M : vf_M} {f : vf_F} {A : vt_A} (hf : vf_ok f) (hk : f.kind = 1) (hA : vt_okA A) (hd : f.d < 75) : vt_okA (vx_load M f A).2 := by
  have hany : vt_ok (vt_num (if f.mode = 4 then vx_anys f.z else vx_anyz f.z)) := by
    split
    · rename_i hm
      exact vt_ok_num (vx_anys_in (hf.2.2 hk hm) 0).1
    · exact vt_ok_num (vx_anyz_in f.z 0).1
  unfold vx_load
  dsimp only
  split
  · exact hA
  · split
    · exact hA
    · rename_i c1 c2
      split
      · exact vt_okA_up hA (vt_ok_val (Or.inl rfl) (vb_just_tight _))
      · split
        · exact vt_okA_up hA (vt_ok_no (by decide) (by decide))
        · split
          · rename_i c3
            have hr := vx_reach_stk c3 c2
            have hz := vf_z_cases f
            split
            · exact vt_okA_up hA (hA _ (vx_slot_lt hr.1 (by omega)))
            · split
              · exact vt_okA_up hA hany
              · exact hA
          · exact vt_okA_up hA hany
theorem vx_mask_lt {z : Nat} {a : Int} (hz : z = 1 ∨ z = 2 ∨ z = 4) (h : a % (z : Int) = 0) : (2 ^ z - 1) <<< vx_bit a < 256 := by
  have hb : vx_bit a < 8 := by unfold vx_bit; omega
  have hb2 : vx_bit a % z = 0 := by
    unfold vx_bit
    rcases hz with e | e | e <;> subst e <;> omega
  generalize vx_bit a = b at hb hb2
  have hb' : b = 0 ∨ b = 1 ∨ b = 2 ∨ b = 3 ∨ b = 4 ∨ b = 5 ∨ b = 6 ∨ b = 7 := by omega
  rcases hz with e | e | e <;> subst e <;> rcases hb' with e | e | e | e | e | e | e | e <;> subst e <;> first | decide | (exfalso; omega)
theorem vx_put_ok {A : vt_A} {a : Int} {z : Nat} {y : vt_T} (hA : vt_okA A) (hy : vt_ok y) (hz : z = 1 ∨ z = 2 ∨ z = 4 ∨ z = 8) (h1 : -512 ≤ a) (h2 : a ≤ -(z : Int)) (h3 : a % (z : Int) = 0) : vt_okA (vx_put A a z y) := by
  unfold vx_put
  split
  · exact vt_okA_up hA hy
  · rename_i c
    have hz' : z = 1 ∨ z = 2 ∨ z = 4 := by omega
    refine vt_okA_up hA (vt_ok_none ?_)
    have a1 := vt_wr_lt (hA _ (vx_slot_lt h1 (by omega : a ≤ -1)))
    have a2 := vx_mask_lt hz' h3
    exact Nat.or_lt_two_pow (n := 8) a1 a2
theorem vx_store_ok {M : vf_M} {f : vf_F} {A : vt_A} (hA : vt_okA A) (hd : f.d < 75) (hs : f.s < 75) : vt_okA (vx_store M f A).2 := by
  have hy : vt_ok (if f.kind = 3 then A.1 f.s else vt_num (vx_just f.i)) := by
    split
    · exact hA _ hs
    · exact vt_ok_num (vb_just_tight _)
  unfold vx_store
  dsimp only
  generalize (if f.kind = 3 then A.1 f.s else vt_num (vx_just f.i)) = y at hy ⊢
  split
  · exact hA
  · split
    · exact hA
    · rename_i c1 c2
      split
      · exact hA
      · split
        · rename_i c3
          have hr := vx_reach_stk c3 c2
          exact vx_put_ok hA hy (vf_z_cases f) hr.1 hr.2.1 hr.2.2
        · exact hA
theorem vx_atomic_ok {M : vf_M} {f : vf_F} {A : vt_A} (hA : vt_okA A) : vt_okA (vx_atomic M f A).2 := by
  unfold vx_atomic
  dsimp only
  split
  · exact hA
  · split
    · exact hA
    · split
      · exact hA
      · split
        · exact hA
        · split
          · exact vt_okA_up hA (vt_ok_num (vx_anyz_in _ 0).1)
          · exact hA
theorem vx_wide_ok {M : vf_M} {f : vf_F} {i2 : Int} {A : vt_A} (hA : vt_okA A) : vt_okA (vx_wide M f i2 A).2 := by
  unfold vx_wide
  split
  · exact vt_okA_up hA (vt_ok_num (vb_just_tight _))
  · split
    · exact vt_okA_up hA (vt_ok_no (by decide) (by decide))
    · exact hA
theorem vx_settle_ok {A : vt_A} {p : Int} {b : Bool} (hA : vt_okA A) : vt_okA (vx_settle A p b) := fun n hn => by
  show vt_ok (if n < 75 ∧ (A.1 n).sort = 8 ∧ (A.1 n).org = p then (if b = true then vt_item (A.1 n).det (vb_just 0) else vt_num (vb_just 0)) else A.1 n)
  split
  · split
    · exact vt_ok_val (Or.inr rfl) (vb_just_tight _)
    · exact vt_ok_num (vb_just_tight _)
  · exact hA n hn
theorem vx_drop_ok {A : vt_A} {q : vt_T → Bool} (hA : vt_okA A) : vt_okA (vx_drop A q) := fun n hn => by
  show vt_ok (if n < 75 ∧ q (A.1 n) = true then vt_none 0 else A.1 n)
  split
  · exact vt_ok_none (by decide)
  · exact hA n hn
theorem vx_clear_ok {A : vt_A} (hA : vt_okA A) : vt_okA (vx_clear A) := fun n hn => by
  show vt_ok (if 1 ≤ n ∧ n ≤ 5 then vt_none 0 else A.1 n)
  split
  · exact vt_ok_none (by decide)
  · exact hA n hn
theorem vx_call_ok {M : vf_M} {c : Int} {p : Nat} {A : vt_A} (hA : vt_okA A) : vt_okA (vx_call M c p A).2 := by
  unfold vx_call
  dsimp only
  split
  · exact hA
  · split
    · exact vt_okA_up (vx_clear_ok (vx_drop_ok hA)) (vt_ok_no (by decide) (by decide))
    · split
      · exact vt_okA_up (vx_clear_ok (vt_okA_k (vx_drop_ok hA) 0)) (vt_ok_num vb_any_tight)
      · exact vt_okA_up (vx_clear_ok hA) (vt_ok_num vb_any_tight)
theorem vx_refd_ok {f : vf_F} {A : vt_A} {p : vb_S × vb_S} (hA : vt_okA A) (h : vb_tight p.1 ∧ vb_tight p.2) : vt_okA (vx_refd f A p) := by
  unfold vx_refd
  split
  · exact vt_okA_up (vt_okA_up hA (vt_ok_num h.1)) (vt_ok_num h.2)
  · exact vt_okA_up hA (vt_ok_num h.1)
theorem vx_jump_ok {f : vf_F} {A : vt_A} (hA : vt_okA A) (hd : f.d < 75) (hs : f.s < 75) : (∀ B, (vx_jump f A).2.1 = some B → vt_okA B) ∧ ∀ B, (vx_jump f A).2.2 = some B → vt_okA B := by
  have sm : ∀ {B C : vt_A}, some C = some B → vt_okA C → vt_okA B := fun h hC => by cases h; exact hC
  have nn : ∀ {B : vt_A} {P : Prop}, (none : Option vt_A) = some B → P := fun h => by cases h
  have hyo := vx_y_ok hA hs
  unfold vx_jump
  dsimp only
  by_cases c0 : (A.1 f.d).sort = 0 ∨ (vx_y f A).sort = 0
  · rw [if_pos c0]; exact ⟨fun B h => nn h, fun B h => nn h⟩
  rw [if_neg c0]
  by_cases c1 : (A.1 f.d).sort = 1 ∧ (vx_y f A).sort = 1
  · rw [if_pos c1]
    by_cases c2 : f.bit3 = true ∧ f.d = f.s
    · rw [if_pos c2]; exact ⟨fun B h => sm h hA, fun B h => sm h hA⟩
    rw [if_neg c2]
    have hx := (hA _ hd).2.1 (by rw [c1.1]; rfl)
    have hy : vb_tight (if f.bit3 = true then (vx_y f A).val else if f.kind = 5 then vx_just f.i else vb_just (BitVec.ofInt 64 (f.i % 4294967296))) := by
      split
      · exact hyo.2.1 (by rw [c1.2]; rfl)
      · split
        · exact vb_just_tight _
        · exact vb_just_tight _
    generalize (if f.bit3 = true then (vx_y f A).val else if f.kind = 5 then vx_just f.i else vb_just (BitVec.ofInt 64 (f.i % 4294967296))) = yv at hy ⊢
    by_cases c3 : f.kind ≠ 5 ∧ ¬ (vx_small (A.1 f.d).val = true ∧ vx_small yv = true)
    · rw [if_pos c3]; exact ⟨fun B h => sm h hA, fun B h => sm h hA⟩
    rw [if_neg c3]
    have key : ∀ c B, (vb_refine c (A.1 f.d).val yv).map (vx_refd f A) = some B → vt_okA B := by
      intro c B h
      cases hr : vb_refine c (A.1 f.d).val yv with
      | none => rw [hr] at h; cases h
      | some p =>
        rw [hr] at h
        cases h
        exact vx_refd_ok hA (vx_refine_tight hx hy hr)
    exact ⟨key _, key _⟩
  rw [if_neg c1]
  by_cases c4 : f.kind = 5 ∧ (f.n = 1 ∨ f.n = 5) ∧ (A.1 f.d).sort = 8 ∧ (vx_y f A).sort = 1 ∧ (vx_y f A).val.low = 0 ∧ (vx_y f A).val.high = 0
  · rw [if_pos c4]; exact ⟨fun B h => sm h (vx_settle_ok hA), fun B h => sm h (vx_settle_ok hA)⟩
  rw [if_neg c4]
  by_cases c5 : f.kind = 5 ∧ (f.n = 2 ∨ f.n = 3 ∨ f.n = 10 ∨ f.n = 11) ∧ (((A.1 f.d).sort = 4 ∧ (vx_y f A).sort = 5) ∨ ((A.1 f.d).sort = 5 ∧ (vx_y f A).sort = 4))
  · rw [if_pos c5]
    generalize decide ((A.1 f.d).sort = 4) = pf
    generalize (if pf = true then (A.1 f.d).val else (vx_y f A).val) = v
    have q : ∀ (a b : Int), (∀ B, some (vx_know A a) = some B → vt_okA B) ∧ (∀ B, some (vx_know A b) = some B → vt_okA B) := fun a b => ⟨fun B h => sm h hA, fun B h => sm h hA⟩
    have q0 : ∀ B, some A = some B → vt_okA B := fun B h => sm h hA
    by_cases d0 : v.low ≠ v.high ∨ v.low.toInt < 0
    · rw [if_pos d0]; exact ⟨q0, q0⟩
    rw [if_neg d0]
    by_cases d1 : f.n = 2
    · rw [if_pos d1]
      cases pf
      · exact ⟨q0, (q 0 _).2⟩
      · exact ⟨(q _ 0).1, q0⟩
    rw [if_neg d1]
    by_cases d2 : f.n = 3
    · rw [if_pos d2]
      cases pf
      · exact ⟨q0, (q 0 _).2⟩
      · exact ⟨(q _ 0).1, q0⟩
    rw [if_neg d2]
    by_cases d3 : f.n = 10
    · rw [if_pos d3]
      cases pf
      · exact ⟨(q _ 0).1, q0⟩
      · exact ⟨q0, (q 0 _).2⟩
    rw [if_neg d3]
    cases pf
    · exact ⟨(q _ 0).1, q0⟩
    · exact ⟨q0, (q 0 _).2⟩
  · rw [if_neg c5]; exact ⟨fun B h => nn h, fun B h => nn h⟩
theorem vx_does_ok {M : vf_M} {f : vf_F} {i2 : Int} {p : Nat} {A : vt_A} (hf : vf_ok f) (hd : f.d < 16) (hs : f.s < 16) (hA : vt_okA A) : ∀ e ∈ (vx_does M f i2 p A).2, vt_okA e.2 := by
  have one : ∀ (r : Nat × vt_A) (q : Int), vt_okA r.2 → ∀ e ∈ (if r.1 ≠ 0 then (r.1, ([] : List (Int × vt_A))) else (0, [(q, r.2)])).2, vt_okA e.2 := by
    intro r q hr e he
    split at he
    · exact absurd he List.not_mem_nil
    · rcases List.mem_cons.mp he with h | h
      · rw [h]; exact hr
      · exact absurd h List.not_mem_nil
  have lone : ∀ (q : Int), ∀ e ∈ [(q, A)], vt_okA e.2 := by
    intro q e he
    rcases List.mem_cons.mp he with h | h
    · rw [h]; exact hA
    · exact absurd h List.not_mem_nil
  unfold vx_does
  dsimp only
  by_cases k0 : f.kind = 0
  · rw [if_pos k0]; exact one _ _ (vx_wide_ok hA)
  rw [if_neg k0]
  by_cases k1 : f.kind = 1
  · rw [if_pos k1]; exact one _ _ (vx_load_ok hf k1 hA (by omega))
  rw [if_neg k1]
  by_cases k2 : f.kind = 2
  · rw [if_pos k2]; exact one _ _ (vx_store_ok hA (by omega) (by omega))
  rw [if_neg k2]
  by_cases k3 : f.kind = 3
  · rw [if_pos k3]
    refine one _ _ ?_
    split
    · exact vx_atomic_ok hA
    · exact vx_store_ok hA (by omega) (by omega)
  rw [if_neg k3]
  by_cases k4 : f.kind = 4 ∨ f.kind = 7
  · rw [if_pos k4]; exact one _ _ (vx_arith_ok hf k4 hA (by omega) (by omega))
  rw [if_neg k4]
  by_cases k5 : f.code = 5
  · rw [if_pos k5]; exact lone _
  rw [if_neg k5]
  by_cases k6 : f.code = 6
  · rw [if_pos k6]; exact lone _
  rw [if_neg k6]
  by_cases k7 : f.code = 133
  · rw [if_pos k7]; exact one _ _ (vx_call_ok hA)
  rw [if_neg k7]
  by_cases k8 : f.code = 149
  · rw [if_pos k8]; intro e he; exact absurd he List.not_mem_nil
  rw [if_neg k8]
  have hj := vx_jump_ok (f := f) hA (by omega) (by omega)
  generalize vx_jump f A = r at hj ⊢
  obtain ⟨r0, r1, r2⟩ := r
  intro e he
  by_cases h0 : r0 = 0
  · subst h0
    have he : e ∈ (match r1 with | some B => [((p : Int) + 1, B)] | none => []) ++ (match r2 with | some B => [((p : Int) + 1 + f.o, B)] | none => []) := he
    rcases List.mem_append.mp he with h | h
    · cases r1 with
      | none => exact absurd h List.not_mem_nil
      | some B =>
        rcases List.mem_cons.mp h with h | h
        · rw [h]; exact hj.1 B rfl
        · exact absurd h List.not_mem_nil
    · cases r2 with
      | none => exact absurd h List.not_mem_nil
      | some B =>
        rcases List.mem_cons.mp h with h | h
        · rw [h]; exact hj.2 B rfl
        · exact absurd h List.not_mem_nil
  · have h0 : r0 ≠ 0 := h0
    rw [if_pos h0] at he
    exact absurd he List.not_mem_nil
/-- the words of a program -/
def vx_D (M : vf_M) (F : Nat → vf_F) : vz_D := fun p A => vx_does M (F p) (F (p + 1)).i p A
theorem vx_D_good {M : vf_M} {F : Nat → vf_F} (hF : ∀ p, vf_ok (F p) ∧ (F p).d < 16 ∧ (F p).s < 16) : vz_good (vx_D M F) := fun p _ hA _ e he => vx_does_ok (hF p).1 (hF p).2.1 (hF p).2.2 hA e he
theorem vt_start_ok : vt_okA vt_start := fun n _ => by
  show vt_ok (if n = 1 then vt_ctx 0 else if n = 10 then vt_stk 0 else vt_none 0)
  split
  · exact vt_ok_no (by decide) (by decide)
  · split
    · exact vt_ok_no (by decide) (by decide)
    · exact vt_ok_none (by decide)
theorem vz_start_ok : vz_okS vz_start := fun p A h => by
  have h : (if p = 0 then some vt_start else none) = some A := h
  split at h
  · cases h; exact vt_start_ok
  · cases h
