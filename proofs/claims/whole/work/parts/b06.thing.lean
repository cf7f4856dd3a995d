/-! part b06: a thing of the class as a pure thing -/
def vc_D (s m : Int32) (k : Int64) (w : Int32) (v : vb_S) : vt_T :=
  (s.toInt.toNat, if s = 0 then (w.toBitVec.toNat : Int) else if s = 2 ∨ s = 3 then k.toInt else m.toInt, if s = 8 then k.toInt else -1, if vc_hv s = true then v else vb_any)
/-- as the class has things -/
def vc_W (s m : Int32) (k : Int64) (w : Int32) : Prop :=
  (s = 0 ∧ m = 0 ∧ k = 0) ∨ ((s = 1 ∨ s = 4 ∨ s = 5) ∧ m = 0 ∧ k = 0 ∧ w = 0) ∨ ((s = 2 ∨ s = 3) ∧ m = 0 ∧ w = 0) ∨ ((s = 6 ∨ s = 7) ∧ k = 0 ∧ w = 0) ∨ (s = 8 ∧ w = 0)
def vc_T (I : Nat → Nat → Int32) (L : Nat → Nat → Int64) (o : Nat) : vt_T := vc_D (I o 6) (I o 7) (L o 8) (I o 9) (vl_S L o)
def vc_ok (I : Nat → Nat → Int32) (L : Nat → Nat → Int64) (o : Nat) : Prop := vc_W (I o 6) (I o 7) (L o 8) (I o 9)
theorem vc_D0 (m : Int32) (k : Int64) (w : Int32) (v : vb_S) : vc_D 0 m k w v = vt_none w.toBitVec.toNat := rfl
theorem vc_D1 (k : Int64) (w : Int32) (v : vb_S) : vc_D 1 0 k w v = vt_num v := rfl
theorem vc_D2 (m : Int32) (k : Int64) (w : Int32) (v : vb_S) : vc_D 2 m k w v = vt_ctx k.toInt := rfl
theorem vc_D3 (m : Int32) (k : Int64) (w : Int32) (v : vb_S) : vc_D 3 m k w v = vt_stk k.toInt := rfl
theorem vc_D4 (k : Int64) (w : Int32) (v : vb_S) : vc_D 4 0 k w v = vt_pkt v := rfl
theorem vc_D5 (k : Int64) (w : Int32) (v : vb_S) : vc_D 5 0 k w v = vt_end := rfl
theorem vc_D6 (m : Int32) (k : Int64) (w : Int32) (v : vb_S) : vc_D 6 m k w v = vt_map m.toInt := rfl
theorem vc_D7 (m : Int32) (k : Int64) (w : Int32) (v : vb_S) : vc_D 7 m k w v = vt_item m.toInt v := rfl
theorem vc_D8 (m : Int32) (k : Int64) (w : Int32) (v : vb_S) : vc_D 8 m k w v = vt_maybe m.toInt k.toInt := rfl
theorem vc_W_cases {s m : Int32} {k : Int64} {w : Int32} (h : vc_W s m k w) : s = 0 ∨ s = 1 ∨ s = 2 ∨ s = 3 ∨ s = 4 ∨ s = 5 ∨ s = 6 ∨ s = 7 ∨ s = 8 := by
  rcases h with ⟨h, _⟩ | ⟨h | h | h, _⟩ | ⟨h | h, _⟩ | ⟨h | h, _⟩ | ⟨h, _⟩
  · exact Or.inl h
  · exact Or.inr (Or.inl h)
  · exact Or.inr (Or.inr (Or.inr (Or.inr (Or.inl h))))
  · exact Or.inr (Or.inr (Or.inr (Or.inr (Or.inr (Or.inl h)))))
  · exact Or.inr (Or.inr (Or.inl h))
  · exact Or.inr (Or.inr (Or.inr (Or.inl h)))
  · exact Or.inr (Or.inr (Or.inr (Or.inr (Or.inr (Or.inr (Or.inl h))))))
  · exact Or.inr (Or.inr (Or.inr (Or.inr (Or.inr (Or.inr (Or.inr (Or.inl h)))))))
  · exact Or.inr (Or.inr (Or.inr (Or.inr (Or.inr (Or.inr (Or.inr (Or.inr h)))))))
theorem vc_W_nn {s m : Int32} {k : Int64} {w : Int32} (h : vc_W s m k w) : 0 ≤ s.toInt := by
  rcases vc_W_cases h with e | e | e | e | e | e | e | e | e <;> rw [e] <;> decide
theorem vc_sort_inj {s m s' m' : Int32} {k k' : Int64} {w w' : Int32} (h : vc_W s m k w) (h' : vc_W s' m' k' w') (e : s.toInt.toNat = s'.toInt.toNat) : s = s' := by
  have a := vc_W_nn h
  have b := vc_W_nn h'
  exact Int32.toInt_inj.mp (by omega)
theorem vc_W_m {s m : Int32} {k : Int64} {w : Int32} (h : vc_W s m k w) (c : s = 0 ∨ s = 1 ∨ s = 2 ∨ s = 3 ∨ s = 4 ∨ s = 5) : m = 0 := by
  rcases h with ⟨_, h, _⟩ | ⟨_, h, _⟩ | ⟨_, h, _⟩ | ⟨h, _⟩ | ⟨h, _⟩
  · exact h
  · exact h
  · exact h
  · rcases h with h | h <;> rw [h] at c <;> exact absurd c (by decide)
  · rw [h] at c; exact absurd c (by decide)
theorem vc_W_k {s m : Int32} {k : Int64} {w : Int32} (h : vc_W s m k w) (c : s = 0 ∨ s = 1 ∨ s = 4 ∨ s = 5 ∨ s = 6 ∨ s = 7) : k = 0 := by
  rcases h with ⟨_, _, h⟩ | ⟨_, _, h, _⟩ | ⟨h, _⟩ | ⟨_, h, _⟩ | ⟨h, _⟩
  · exact h
  · exact h
  · rcases h with h | h <;> rw [h] at c <;> exact absurd c (by decide)
  · exact h
  · rw [h] at c; exact absurd c (by decide)
theorem vc_W_w {s m : Int32} {k : Int64} {w : Int32} (h : vc_W s m k w) (c : s ≠ 0) : w = 0 := by
  rcases h with ⟨h, _⟩ | ⟨_, _, _, h⟩ | ⟨_, _, h⟩ | ⟨_, _, h⟩ | ⟨_, h⟩
  · exact absurd h c
  all_goals exact h
/-- the same thing: the same sort, map and mark -/
theorem vc_same {s m s' m' : Int32} {k k' : Int64} {w w' : Int32} {v v' : vb_S} (h : vc_W s m k w) (h' : vc_W s' m' k' w') : ((vc_D s m k w v).sort ≠ 0 ∧ (vc_D s m k w v).sort = (vc_D s' m' k' w' v').sort ∧ (vc_D s m k w v).det = (vc_D s' m' k' w' v').det ∧ (vc_D s m k w v).org = (vc_D s' m' k' w' v').org) ↔ s ≠ 0 ∧ s = s' ∧ m = m' ∧ k = k' := by
  constructor
  · rintro ⟨h0, h1, h2, h3⟩
    have e := vc_sort_inj h h' h1
    subst e
    refine ⟨fun z => h0 (by rw [z]; rfl), rfl, ?_⟩
    rcases vc_W_cases h with e | e | e | e | e | e | e | e | e
    · subst e; exact absurd rfl h0
    · exact ⟨(vc_W_m h (by rw [e]; decide)).trans (vc_W_m h' (by rw [e]; decide)).symm, (vc_W_k h (by rw [e]; decide)).trans (vc_W_k h' (by rw [e]; decide)).symm⟩
    · exact ⟨(vc_W_m h (by rw [e]; decide)).trans (vc_W_m h' (by rw [e]; decide)).symm, by subst e; exact Int64.toInt_inj.mp h2⟩
    · exact ⟨(vc_W_m h (by rw [e]; decide)).trans (vc_W_m h' (by rw [e]; decide)).symm, by subst e; exact Int64.toInt_inj.mp h2⟩
    · exact ⟨(vc_W_m h (by rw [e]; decide)).trans (vc_W_m h' (by rw [e]; decide)).symm, (vc_W_k h (by rw [e]; decide)).trans (vc_W_k h' (by rw [e]; decide)).symm⟩
    · exact ⟨(vc_W_m h (by rw [e]; decide)).trans (vc_W_m h' (by rw [e]; decide)).symm, (vc_W_k h (by rw [e]; decide)).trans (vc_W_k h' (by rw [e]; decide)).symm⟩
    · exact ⟨by subst e; exact Int32.toInt_inj.mp h2, (vc_W_k h (by rw [e]; decide)).trans (vc_W_k h' (by rw [e]; decide)).symm⟩
    · exact ⟨by subst e; exact Int32.toInt_inj.mp h2, (vc_W_k h (by rw [e]; decide)).trans (vc_W_k h' (by rw [e]; decide)).symm⟩
    · subst e; exact ⟨Int32.toInt_inj.mp h2, Int64.toInt_inj.mp h3⟩
  · rintro ⟨h0, rfl, rfl, rfl⟩
    refine ⟨fun z => h0 ?_, rfl, ?_, rfl⟩
    · have a := vc_W_nn h
      have b : s.toInt.toNat = 0 := z
      exact Int32.toInt_inj.mp (show s.toInt = 0 by omega)
    · show (if s = 0 then _ else _ : Int) = if s = 0 then _ else _
      rw [if_neg h0, if_neg h0]
theorem vc_D_has {s m : Int32} {k : Int64} {w : Int32} {v : vb_S} (h : vc_W s m k w) : vt_has (vc_D s m k w v).sort = vc_hv s := by
  rcases vc_W_cases h with e | e | e | e | e | e | e | e | e <;> subst e <;> rfl
theorem vc_D_wr {s m : Int32} {k : Int64} {w : Int32} {v : vb_S} (h : vc_W s m k w) : vt_wr (vc_D s m k w v) = (vc_nb s w).toBitVec.toNat := by
  rcases vc_W_cases h with e | e | e | e | e | e | e | e | e
  · subst e
    show vt_wr (vt_none _) = _
    rw [vt_wr_none]
    show _ = (if ¬ (0 : Int32) = 0 then (if ¬ (0 : Int32) = (1 : Int32) then 0 else 255) else w).toBitVec.toNat
    rw [if_neg (fun z => z rfl)]
  all_goals subst e; rfl
theorem vc_D_val {s m : Int32} {k : Int64} {w : Int32} {v : vb_S} (c : vc_hv s = true) : (vc_D s m k w v).val = v := if_pos c
/-- one with another value -/
theorem vc_D_v {s m : Int32} {k : Int64} {w : Int32} {v u : vb_S} (c : vc_hv s = true) : vc_D s m k w u = ((vc_D s m k w v).sort, (vc_D s m k w v).det, (vc_D s m k w v).org, u) := by
  unfold vc_D
  rw [if_pos c]
/-- cells that stay as they were -/
def vc_fr (P : Nat → Prop) (I : Nat → Nat → Int32) (L : Nat → Nat → Int64) (I1 : Nat → Nat → Int32) (L1 : Nat → Nat → Int64) : Prop := ∀ p, ¬ P p → (∀ f, I1 p f = I p f) ∧ ∀ f, L1 p f = L p f
theorem vc_fr_refl {P : Nat → Prop} (I : Nat → Nat → Int32) (L : Nat → Nat → Int64) : vc_fr P I L I L := fun _ _ => ⟨fun _ => rfl, fun _ => rfl⟩
theorem vc_fr_trans {P : Nat → Prop} {I I1 I2 : Nat → Nat → Int32} {L L1 L2 : Nat → Nat → Int64} (h1 : vc_fr P I L I1 L1) (h2 : vc_fr P I1 L1 I2 L2) : vc_fr P I L I2 L2 := fun p hp => ⟨fun f => ((h2 p hp).1 f).trans ((h1 p hp).1 f), fun f => ((h2 p hp).2 f).trans ((h1 p hp).2 f)⟩
theorem vc_fr_mono {P Q : Nat → Prop} {I I1 : Nat → Nat → Int32} {L L1 : Nat → Nat → Int64} (h1 : vc_fr P I L I1 L1) (h : ∀ p, P p → Q p) : vc_fr Q I L I1 L1 := fun p hp => h1 p (fun z => hp (h p z))
theorem vl_S_ext {L L1 : Nat → Nat → Int64} {o q : Nat} (h : ∀ f, L1 o f = L q f) : vl_S L1 o = vl_S L q := by
  unfold vl_S; rw [h 0, h 1, h 2, h 3, h 4, h 5]
theorem vc_fr_T {P : Nat → Prop} {I I1 : Nat → Nat → Int32} {L L1 : Nat → Nat → Int64} (h : vc_fr P I L I1 L1) {o : Nat} (ho : ¬ P o) : vc_T I1 L1 o = vc_T I L o := by
  unfold vc_T; rw [(h o ho).1, (h o ho).1, (h o ho).1, (h o ho).2, vl_S_ext (fun f => (h o ho).2 f)]
theorem vc_fr_ok {P : Nat → Prop} {I I1 : Nat → Nat → Int32} {L L1 : Nat → Nat → Int64} (h : vc_fr P I L I1 L1) {o : Nat} (ho : ¬ P o) : vc_ok I1 L1 o ↔ vc_ok I L o := by
  unfold vc_ok; rw [(h o ho).1, (h o ho).1, (h o ho).1, (h o ho).2]
theorem vc_Th_V {K : Nat → Option (Nat × Nat)} {o : Nat} (h : K o = some (8, 10)) : jv_isV K o := Or.inr h
/-- what the four fields of a thing become -/
def vc_put (I : Nat → Nat → Int32) (o : Nat) (s m w : Int32) : Nat → Nat → Int32 := jv_u (jv_u (jv_u I o 6 s) o 7 m) o 9 w
theorem vc_put_6 (I : Nat → Nat → Int32) (o : Nat) (s m w : Int32) : vc_put I o s m w o 6 = s := by
  unfold vc_put; rw [jv_u_j _ _ _ _ (by decide), jv_u_j _ _ _ _ (by decide), jv_u_self]
theorem vc_put_7 (I : Nat → Nat → Int32) (o : Nat) (s m w : Int32) : vc_put I o s m w o 7 = m := by
  unfold vc_put; rw [jv_u_j _ _ _ _ (by decide), jv_u_self]
theorem vc_put_9 (I : Nat → Nat → Int32) (o : Nat) (s m w : Int32) : vc_put I o s m w o 9 = w := by
  unfold vc_put; rw [jv_u_self]
theorem vc_put_o (I : Nat → Nat → Int32) (o : Nat) (s m w : Int32) {p : Nat} (h : p ≠ o) (f : Nat) : vc_put I o s m w p f = I p f := by
  unfold vc_put; rw [jv_u_o _ _ _ _ h, jv_u_o _ _ _ _ h, jv_u_o _ _ _ _ h]
theorem vl_S_u8 (L : Nat → Nat → Int64) (o p : Nat) (k : Int64) : vl_S (jv_u L o 8 k) p = vl_S L p := by
  unfold vl_S; rw [jv_u_j _ _ _ _ (by decide), jv_u_j _ _ _ _ (by decide), jv_u_j _ _ _ _ (by decide), jv_u_j _ _ _ _ (by decide), jv_u_j _ _ _ _ (by decide), jv_u_j _ _ _ _ (by decide)]
theorem vc_put_T (I : Nat → Nat → Int32) (L : Nat → Nat → Int64) (o : Nat) (s m w : Int32) (k : Int64) : vc_T (vc_put I o s m w) (jv_u L o 8 k) o = vc_D s m k w (vl_S L o) := by
  unfold vc_T; rw [vc_put_6, vc_put_7, vc_put_9, jv_u_self, vl_S_u8]
theorem vc_put_Tv (I : Nat → Nat → Int32) (L : Nat → Nat → Int64) (o : Nat) (s m w : Int32) (k : Int64) (v : vb_S) : vc_T (vc_put I o s m w) (vl_set (jv_u L o 8 k) o v) o = vc_D s m k w v := by
  unfold vc_T; rw [vc_put_6, vc_put_7, vc_put_9, vl_set_S, vl_set_out (fun z => absurd z.2 (by decide)), jv_u_self]
theorem vc_put_ok {I : Nat → Nat → Int32} {L : Nat → Nat → Int64} {o : Nat} {s m w : Int32} {k : Int64} (h : vc_W s m k w) : vc_ok (vc_put I o s m w) (jv_u L o 8 k) o := by
  unfold vc_ok; rw [vc_put_6, vc_put_7, vc_put_9, jv_u_self]; exact h
theorem vc_put_okv {I : Nat → Nat → Int32} {L : Nat → Nat → Int64} {o : Nat} {s m w : Int32} {k : Int64} {v : vb_S} (h : vc_W s m k w) : vc_ok (vc_put I o s m w) (vl_set (jv_u L o 8 k) o v) o := by
  unfold vc_ok; rw [vc_put_6, vc_put_7, vc_put_9, vl_set_out (fun z => absurd z.2 (by decide)), jv_u_self]; exact h
theorem vc_put_fr (I : Nat → Nat → Int32) (L : Nat → Nat → Int64) (o : Nat) (s m w : Int32) (k : Int64) : vc_fr (fun p => p = o) I L (vc_put I o s m w) (jv_u L o 8 k) := fun p hp => ⟨fun f => vc_put_o I o s m w hp f, fun f => jv_u_o _ _ _ _ hp⟩
theorem vc_put_frv (I : Nat → Nat → Int32) (L : Nat → Nat → Int64) (o : Nat) (s m w : Int32) (k : Int64) (v : vb_S) : vc_fr (fun p => p = o) I L (vc_put I o s m w) (vl_set (jv_u L o 8 k) o v) := fun p hp => ⟨fun f => vc_put_o I o s m w hp f, fun f => (vl_set_out (fun z => hp z.1)).trans (jv_u_o _ _ _ _ hp)⟩

/-- it becomes a thing without a value -/
theorem vc_bec {K : Nat → Option (Nat × Nat)} {I : Nat → Nat → Int32} {L : Nat → Nat → Int64} {R : Nat → Nat → Value} {o : Nat} (s m : Int32) (k : Int64) (ho : K o = some (8, 10)) (hw : vc_W s m k 0) {n sl : Nat} : ∃ I1 L1, jv_Ms 140 [.ref o, .int s, .int m, .long k] (jv_H K I L R) n sl (none, jv_H K I1 L1 R, n, sl) ∧ vc_T I1 L1 o = vc_D s m k 0 (vl_S L o) ∧ vc_ok I1 L1 o ∧ vc_fr (fun p => p = o) I L I1 L1 :=
  ⟨_, _, jv_s140 o s m k ho, vc_put_T _ _ _ _ _ _ _, vc_put_ok hw, vc_put_fr _ _ _ _ _ _ _⟩
theorem vc_none {K : Nat → Option (Nat × Nat)} {I : Nat → Nat → Int32} {L : Nat → Nat → Int64} {R : Nat → Nat → Value} {o : Nat} (ho : K o = some (8, 10)) {n sl : Nat} : ∃ I1 L1, jv_Ms 141 [.ref o] (jv_H K I L R) n sl (none, jv_H K I1 L1 R, n, sl) ∧ vc_T I1 L1 o = vt_none 0 ∧ vc_ok I1 L1 o ∧ vc_fr (fun p => p = o) I L I1 L1 :=
  ⟨_, _, jv_s141 o ho, vc_put_T _ _ _ _ _ _ _, vc_put_ok (Or.inl ⟨rfl, rfl, rfl⟩), vc_put_fr _ _ _ _ _ _ _⟩
theorem vc_num {K : Nat → Option (Nat × Nat)} {I : Nat → Nat → Int32} {L : Nat → Nat → Int64} {R : Nat → Nat → Value} {o w : Nat} (ho : K o = some (8, 10)) (hw : jv_isV K w) {n sl : Nat} : ∃ I1 L1, jv_Ms 142 [.ref o, .ref w] (jv_H K I L R) n sl (none, jv_H K I1 L1 R, n, sl) ∧ vc_T I1 L1 o = vt_num (vl_S L w) ∧ vc_ok I1 L1 o ∧ vc_fr (fun p => p = o) I L I1 L1 :=
  ⟨_, _, jv_s142 o w ho hw, (vc_put_Tv _ _ _ _ _ _ _ _).trans (by rw [vl_S_u8]; rfl), vc_put_okv (Or.inr (Or.inl ⟨Or.inl rfl, rfl, rfl, rfl⟩)), vc_put_frv _ _ _ _ _ _ _ _⟩
theorem vc_just {K : Nat → Option (Nat × Nat)} {I : Nat → Nat → Int32} {L : Nat → Nat → Int64} {R : Nat → Nat → Value} {o : Nat} (v : Int64) (ho : K o = some (8, 10)) {n sl : Nat} : ∃ I1 L1, jv_Ms 143 [.ref o, .long v] (jv_H K I L R) n sl (none, jv_H K I1 L1 R, n, sl) ∧ vc_T I1 L1 o = vt_num (vb_just v.toBitVec) ∧ vc_ok I1 L1 o ∧ vc_fr (fun p => p = o) I L I1 L1 :=
  ⟨_, _, jv_s143 o v ho, vc_put_Tv _ _ _ _ _ _ _ _, vc_put_okv (Or.inr (Or.inl ⟨Or.inl rfl, rfl, rfl, rfl⟩)), vc_put_frv _ _ _ _ _ _ _ _⟩
/-- it becomes another thing -/
theorem vc_becT {K : Nat → Option (Nat × Nat)} {I : Nat → Nat → Int32} {L : Nat → Nat → Int64} {R : Nat → Nat → Value} {o t : Nat} (ho : K o = some (8, 10)) (ht : K t = some (8, 10)) (hok : vc_ok I L t) {n sl : Nat} : ∃ I1 L1, jv_Ms 144 [.ref o, .ref t] (jv_H K I L R) n sl (none, jv_H K I1 L1 R, n, sl) ∧ vc_T I1 L1 o = vc_T I L t ∧ vc_ok I1 L1 o ∧ vc_fr (fun p => p = o) I L I1 L1 := by
  have H := jv_s144 (I := I) (L := L) (R := R) (n := n) (sl := sl) o t ho ht
  have e6 : vc_put I o (I t 6) (I t 7) (I t 9) t 6 = I t 6 := by
    by_cases h : t = o
    · rw [h, vc_put_6]
    · rw [vc_put_o _ _ _ _ _ h]
  rw [show (jv_u (jv_u (jv_u I o 6 (I t 6)) o 7 (I t 7)) o 9 (I t 9)) t 6 = I t 6 from e6] at H
  by_cases h : vc_hv (I t 6) = true
  · rw [h, if_neg (show ¬ vr_b true = 0 by decide), vl_S_u8] at H
    exact ⟨_, _, H, vc_put_Tv _ _ _ _ _ _ _ _, vc_put_okv hok, vc_put_frv _ _ _ _ _ _ _ _⟩
  · have h' : vc_hv (I t 6) = false := Bool.eq_false_iff.mpr h
    rw [h', if_pos (show vr_b false = 0 from rfl)] at H
    refine ⟨_, _, H, (vc_put_T _ _ _ _ _ _ _).trans ?_, vc_put_ok hok, vc_put_fr _ _ _ _ _ _ _⟩
    show _ = vc_D _ _ _ _ _
    unfold vc_D
    rw [if_neg h, if_neg h]

/-- of things that are not the same: what both have of numbers -/
theorem vc_lost {I : Nat → Nat → Int32} {L : Nat → Nat → Int64} {o t : Nat} {w : Bool} (ko : vc_ok I L o) (kt : vc_ok I L t) (h : ¬ (I o 6 ≠ 0 ∧ I o 6 = I t 6 ∧ I o 7 = I t 7 ∧ L o 8 = L t 8)) : vt_meet w (vc_T I L o) (vc_T I L t) = vt_none ((vc_nb (I o 6) (I o 9)) &&& (vc_nb (I t 6) (I t 9))).toBitVec.toNat := by
  unfold vt_meet
  refine (if_neg (fun z => h ((vc_same (v := vl_S L o) (v' := vl_S L t) ko kt).mp z))).trans ?_
  unfold vc_T
  rw [vc_D_wr ko, vc_D_wr kt, Int32.toBitVec_and, BitVec.toNat_and]
theorem vc_lostT {I : Nat → Nat → Int32} {L : Nat → Nat → Int64} {o t : Nat} (x : Int32) : vc_T (jv_u (jv_u (jv_u (jv_u I o 6 (0 : Int32)) o 7 (0 : Int32)) o 9 (0 : Int32)) o 9 x) (jv_u L o 8 0) o = vt_none x.toBitVec.toNat ∧ vc_ok (jv_u (jv_u (jv_u (jv_u I o 6 (0 : Int32)) o 7 (0 : Int32)) o 9 (0 : Int32)) o 9 x) (jv_u L o 8 0) o ∧ vc_fr (fun p => p = o) I L (jv_u (jv_u (jv_u (jv_u I o 6 (0 : Int32)) o 7 (0 : Int32)) o 9 (0 : Int32)) o 9 x) (jv_u L o 8 0) := by
  rw [jv_u_u]
  exact ⟨vc_put_T _ _ _ _ _ _ _, vc_put_ok (Or.inl ⟨rfl, rfl, rfl⟩), vc_put_fr _ _ _ _ _ _ _⟩
theorem vc_lost_b {I : Nat → Nat → Int32} {L : Nat → Nat → Int64} {o : Nat} (ko : vc_ok I L o) (x : Int32) (hx : I o 6 = 0 → x = vc_nb 0 (I o 9) &&& x) : ∃ b : Bool, (if ¬ I o 6 = 0 then (1 : Int32) else if x = I o 9 then 0 else 1) = vr_b b ∧ (b = false ↔ vt_none x.toBitVec.toNat = vc_T I L o) := by
  by_cases h : I o 6 = 0
  · rw [if_neg (fun z => z h)]
    by_cases e : x = I o 9
    · refine ⟨false, if_pos e, fun _ => ?_, fun _ => rfl⟩
      unfold vc_T
      rw [h, e]; rfl
    · refine ⟨true, if_neg e, fun z => absurd z (by decide), fun z => absurd ?_ e⟩
      unfold vc_T at z
      rw [h] at z
      have z2 : ((x.toBitVec.toNat : Nat) : Int) = ((I o 9).toBitVec.toNat : Int) := congrArg vt_T.det z
      exact Int32.toBitVec_inj.mp (BitVec.eq_of_toNat_eq (Int.ofNat.inj z2))
  · refine ⟨true, if_pos h, fun z => absurd z (by decide), fun z => absurd ?_ h⟩
    have z2 : 0 = (I o 6).toInt.toNat := congrArg vt_T.sort z
    have a := vc_W_nn ko
    exact Int32.toInt_inj.mp (show (I o 6).toInt = 0 by omega)
/-- it is joined with another thing, or widened by it -/
theorem vc_meet {K : Nat → Option (Nat × Nat)} {I : Nat → Nat → Int32} {L : Nat → Nat → Int64} {R : Nat → Nat → Value} {o t rm : Nat} (w : Bool) (ho : K o = some (8, 10)) (ht : K t = some (8, 10)) (hr : K rm = some (9, 6)) (hot : o ≠ t) (ko : vc_ok I L o) (kt : vc_ok I L t) (to : vt_ok (vc_T I L o)) {n sl : Nat} : ∃ I1 L1 b, jv_Ms 147 [.ref o, .ref t, .int (vr_b w), .ref rm] (jv_H K I L R) n sl (some (.int (vr_b b)), jv_H K I1 L1 R, n, sl) ∧ (b = false ↔ vt_meet w (vc_T I L o) (vc_T I L t) = vc_T I L o) ∧ vc_T I1 L1 o = vt_meet w (vc_T I L o) (vc_T I L t) ∧ vc_ok I1 L1 o ∧ vc_fr (fun p => p = o ∨ p = rm) I L I1 L1 := by
  have hor : o ≠ rm := fun z => by rw [z, hr] at ho; exact absurd (congrArg (fun y => y.map Prod.fst) ho) (by decide)
  have H := jv_s147 (I := I) (L := L) (R := R) (n := n) (sl := sl) o t w rm ho ht hr hot
  have lost : ¬ (I o 6 ≠ 0 ∧ I o 6 = I t 6 ∧ I o 7 = I t 7 ∧ L o 8 = L t 8) → jv_Ms 147 [.ref o, .ref t, .int (vr_b w), .ref rm] (jv_H K I L R) n sl (some (.int (if ¬ I o 6 = 0 then (1 : Int32) else if ((vc_nb (I o 6) (I o 9)) &&& (vc_nb (I t 6) (I t 9))) = I o 9 then 0 else 1)), jv_H K (jv_u (jv_u (jv_u (jv_u I o 6 (0 : Int32)) o 7 (0 : Int32)) o 9 (0 : Int32)) o 9 ((vc_nb (I o 6) (I o 9)) &&& (vc_nb (I t 6) (I t 9)))) (jv_u L o 8 0) R, n, sl) → ∃ I1 L1 b, jv_Ms 147 [.ref o, .ref t, .int (vr_b w), .ref rm] (jv_H K I L R) n sl (some (.int (vr_b b)), jv_H K I1 L1 R, n, sl) ∧ (b = false ↔ vt_meet w (vc_T I L o) (vc_T I L t) = vc_T I L o) ∧ vc_T I1 L1 o = vt_meet w (vc_T I L o) (vc_T I L t) ∧ vc_ok I1 L1 o ∧ vc_fr (fun p => p = o ∨ p = rm) I L I1 L1 := fun hne H => by
    obtain ⟨b, e1, e2⟩ := vc_lost_b ko ((vc_nb (I o 6) (I o 9)) &&& (vc_nb (I t 6) (I t 9))) (fun z => by rw [z, ← Int32.and_assoc, Int32.and_self])
    rw [e1] at H
    have q := vc_lostT (I := I) (L := L) (o := o) (t := t) ((vc_nb (I o 6) (I o 9)) &&& (vc_nb (I t 6) (I t 9)))
    rw [vc_lost ko kt hne]
    exact ⟨_, _, b, H, e2, q.1, q.2.1, vc_fr_mono q.2.2 (fun _ z => Or.inl z)⟩
  by_cases h0 : I o 6 = 0
  · rw [if_pos h0, if_pos h0, if_pos h0] at H
    exact lost (fun z => z.1 h0) H
  by_cases h1 : I o 6 = I t 6
  case neg =>
    simp only [if_neg h0, if_pos h1] at H
    exact lost (fun z => h1 z.2.1) H
  have n1 : ¬ ¬ I o 6 = I t 6 := fun z => z h1
  by_cases h2 : I o 7 = I t 7
  case neg =>
    simp only [if_neg h0, if_neg n1, if_pos h2] at H
    exact lost (fun z => h2 z.2.2.1) H
  have n2 : ¬ ¬ I o 7 = I t 7 := fun z => z h2
  by_cases h3 : L o 8 = L t 8
  case neg =>
    simp only [if_neg h0, if_neg n1, if_neg n2, if_neg h3] at H
    exact lost (fun z => h3 z.2.2.2) H
  simp only [if_neg h0, if_neg n1, if_neg n2, if_pos h3] at H
  clear lost
  have same := (vc_same (v := vl_S L o) (v' := vl_S L t) ko kt).mpr ⟨h0, h1, h2, h3⟩
  by_cases hv : vc_hv (I o 6) = true
  case neg =>
    have hv' : vc_hv (I o 6) = false := Bool.eq_false_iff.mpr hv
    have e : vt_meet w (vc_T I L o) (vc_T I L t) = vc_T I L o := by
      unfold vt_meet
      refine (if_pos same).trans ?_
      exact if_neg (fun z => hv ((vc_D_has ko).symm.trans z))
    rw [hv', if_pos (show vr_b false = 0 from rfl), if_pos (show vr_b false = 0 from rfl)] at H
    rw [e]
    exact ⟨_, _, false, H, ⟨fun _ => rfl, fun _ => rfl⟩, rfl, ko, vc_fr_refl _ _⟩
  have eT : vt_meet w (vc_T I L o) (vc_T I L t) = vc_D (I o 6) (I o 7) (L o 8) (I o 9) (vb_meet w (vl_S L o) (vl_S L t)) := by
    unfold vt_meet
    refine (if_pos same).trans ?_
    refine (if_pos ((vc_D_has ko).trans hv)).trans ?_
    rw [vc_D_v hv (v := vl_S L o)]
    have a1 : (vc_T I L o).val = vl_S L o := vc_D_val hv
    have a2 : (vc_T I L t).val = vl_S L t := vc_D_val (h1 ▸ hv)
    rw [a1, a2]; rfl
  have tx : vb_tight (vl_S L o) := by
    have z := to.2.1 ((vc_D_has ko).trans hv)
    have a1 : (vc_T I L o).val = vl_S L o := vc_D_val hv
    rw [a1] at z; exact z
  have n4 : ¬ vr_b (vc_hv (I o 6)) = 0 := by rw [hv]; decide
  simp only [if_neg n4] at H
  by_cases e : vl_S L o = vl_S L t
  · have n5 : ¬ vr_b (decide (vl_S L o = vl_S L t)) = 0 := by rw [decide_eq_true e]; decide
    simp only [if_neg n5] at H
    have e2 : vt_meet w (vc_T I L o) (vc_T I L t) = vc_T I L o := by
      rw [eT, ← e, vb_meet_absorb tx tx (fun _ z => z)]; rfl
    rw [e2]
    exact ⟨_, _, false, H, ⟨fun _ => rfl, fun _ => rfl⟩, rfl, ko, vc_fr_refl _ _⟩
  · have n5 : vr_b (decide (vl_S L o = vl_S L t)) = 0 := by rw [decide_eq_false e]; rfl
    simp only [if_pos n5] at H
    have eL : (if vr_b w = 0 then vl_set L rm (vb_tt (vb_cJoin (vl_S L o) (vl_S L t))) else vl_set L rm (vb_tt (vb_cWiden (vl_S L o) (vl_S L t)))) = vl_set L rm (vb_meet w (vl_S L o) (vl_S L t)) := by
      cases w <;> rfl
    rw [eL, vl_set_S, vl_set_o hor] at H
    generalize hm : vb_meet w (vl_S L o) (vl_S L t) = v at H eT
    have eb : (if ¬ vr_b (decide (vl_S L o = v)) = 0 then (0 : Int32) else 1) = vr_b (!decide (vl_S L o = v)) := by
      by_cases z : vl_S L o = v
      · rw [decide_eq_true z]; rfl
      · rw [decide_eq_false z]; rfl
    rw [eb] at H
    have q8 : vl_set (vl_set L rm v) o v o 8 = L o 8 := by
      rw [vl_set_out (fun z => absurd z.2 (by decide)), vl_set_out (fun z => absurd z.2 (by decide))]
    refine ⟨_, _, _, H, ?_, ?_, ?_, ?_⟩
    · rw [eT]
      constructor
      · intro z
        have z2 : vl_S L o = v := of_decide_eq_true (by cases h : decide (vl_S L o = v) <;> rw [h] at z <;> first | rfl | exact absurd z (by decide))
        rw [← z2]; rfl
      · intro z
        have z2 : v = vl_S L o := by
          have a := congrArg vt_T.val z
          have b1 : (vc_D (I o 6) (I o 7) (L o 8) (I o 9) v).val = v := vc_D_val hv
          have b2 : (vc_T I L o).val = vl_S L o := vc_D_val hv
          rw [b1, b2] at a; exact a
        rw [decide_eq_true z2.symm]; rfl
    · rw [eT]
      unfold vc_T
      rw [q8, vl_set_S]
    · unfold vc_ok
      rw [q8]; exact ko
    · exact fun p hp => ⟨fun _ => rfl, fun f => (vl_set_out (fun z => hp (Or.inl z.1))).trans (vl_set_out (fun z => hp (Or.inr z.1)))⟩
