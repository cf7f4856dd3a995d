/-! part c01: rows of the reference, with what they leave alone -/
/-- no row from 2 on is empty -/
def vr_fl (I : Nat → Nat → Int32) : Prop := ∀ q, 2 ≤ q → I 215 q = 0
/-- rows changed: those that are reckoned with, and t -/
def vq_rf (t : Nat) (I : Nat → Nat → Int32) (L : Nat → Nat → Int64) (I1 : Nat → Nat → Int32) (L1 : Nat → Nat → Int64) : Prop := vr_fl I1 ∧ (∀ q f, q ≠ 215 → I1 q f = I q f) ∧ ∀ q f, ¬ (209 ≤ q ∧ q ≤ 214 ∧ (f < 5 ∨ f = t)) → L1 q f = L q f
theorem vq_fl_u {I : Nat → Nat → Int32} (h : vr_fl I) (d : Nat) : vr_fl (jv_u I 215 d 0) := fun q hq => by
  by_cases c : q = d
  · rw [c]; exact jv_u_self _ _ _ _
  · rw [jv_u_j _ _ _ _ c]; exact h q hq
theorem vq_set {t d : Nat} {I I1 : Nat → Nat → Int32} {L L1 : Nat → Nat → Int64} {r : vb_R} (h : vq_rf t I L I1 L1) (hd : d < 5 ∨ d = t) : vq_rf t I L I1 (vr_set L1 d r) := ⟨h.1, h.2.1, fun q f z => (vr_set_out (fun c => z ⟨c.2.1, c.2.2, by rw [c.1]; exact hd⟩)).trans (h.2.2 q f z)⟩
theorem vq_u {t d : Nat} {I I1 : Nat → Nat → Int32} {L L1 : Nat → Nat → Int64} (h : vq_rf t I L I1 L1) : vq_rf t I L (jv_u I1 215 d 0) L1 := ⟨vq_fl_u h.1 d, fun q f hq => (jv_u_o _ _ _ _ hq).trans (h.2.1 q f hq), h.2.2⟩
theorem vq_refl {t : Nat} {I : Nat → Nat → Int32} (h : vr_fl I) (L : Nat → Nat → Int64) : vq_rf t I L I L := ⟨h, fun _ _ _ => rfl, fun _ _ _ => rfl⟩
theorem vr_S_ext {L L1 : Nat → Nat → Int64} {p q : Nat} (h : ∀ o, 209 ≤ o → o ≤ 214 → L1 o p = L o q) : vr_S L1 p = vr_S L q := by
  unfold vr_S
  rw [h 209 (by decide) (by decide), h 210 (by decide) (by decide), h 211 (by decide) (by decide), h 212 (by decide) (by decide), h 213 (by decide) (by decide), h 214 (by decide) (by decide)]
theorem vq_rf_S {t p : Nat} {I I1 : Nat → Nat → Int32} {L L1 : Nat → Nat → Int64} (h : vq_rf t I L I1 L1) (h5 : 5 ≤ p) (ht : p ≠ t) : vr_S L1 p = vr_S L p := vr_S_ext (fun o _ _ => h.2.2 o p (fun z => by omega))
theorem vb_toS_any : vb_toS vb_rany = vb_any := by decide
theorem vb_toS_just (v : BitVec 64) : vb_toS (vb_rjust v) = vb_just v := vb_S_ext (show ~~~(0 : BitVec 64) = vb_m1 by decide) rfl rfl rfl rfl rfl
/-- operations by the reference's numbers -/
def vx_opn (n : Nat) : Nat := match n with
  | 4 => 6 | 5 => 5 | 6 => 8 | 7 => 9 | 8 => 1 | 9 => 4 | 10 => 7 | 12 => 10 | n => n
theorem vx_opn_eq {n : Nat} (hn : n < 13) (h8 : n ≠ 8) (x y : vb_S) (top : Nat) : vb_cOp (vl_I n) x y top = vb_rOp (vx_opn n) x y top := by
  match n, hn with
  | 0, _ => rfl
  | 1, _ => rfl
  | 2, _ => rfl
  | 3, _ => rfl
  | 4, _ => rfl
  | 5, _ => rfl
  | 6, _ => rfl
  | 7, _ => rfl
  | 8, _ => exact absurd rfl h8
  | 9, _ => rfl
  | 10, _ => rfl
  | 11, _ => rfl
  | 12, _ => rfl
section
variable {K : Nat → Option (Nat × Nat)} {I : Nat → Nat → Int32} {L : Nat → Nat → Int64} {R : Nat → Nat → Value}
theorem vq_copy {a d : Nat} (hW : jv_rW K R) (ha : a < 77200) (hd : d < 77200) (hf : vr_fl I) (h0 : I 215 a = 0) {n sl : Nat} : ∃ I1 L1, jv_Ms 208 [.ref 208, .int (vl_I a), .int (vl_I d)] (jv_H K I L R) n sl (none, jv_H K I1 L1 R, n, sl) ∧ vr_S L1 d = vr_S L a ∧ vq_rf d I L I1 L1 := by
  have H := vr_copy (I := I) (L := L) (n := n) (sl := sl) (vl_I a) (vl_I d) hW (vl_I_ix ha (by decide)) (vl_I_ix hd (by decide)) (by rw [vl_I_nat (by omega)]; exact h0)
  rw [vl_I_nat (by omega), vl_I_nat (by omega)] at H
  exact ⟨_, _, H, vr_set_S _ _ _, vq_set (vq_u (vq_refl hf L)) (Or.inr rfl)⟩
theorem vq_nothing {d : Nat} (hW : jv_rW K R) (hd : d < 77200) (hf : vr_fl I) {n sl : Nat} : ∃ I1 L1, jv_Ms 207 [.ref 208, .int (vl_I d)] (jv_H K I L R) n sl (none, jv_H K I1 L1 R, n, sl) ∧ vr_S L1 d = vb_rany ∧ vq_rf d I L I1 L1 := by
  have H := vr_nothing (I := I) (L := L) (n := n) (sl := sl) (vl_I d) hW (vl_I_ix hd (by decide))
  rw [vl_I_nat (by omega)] at H
  exact ⟨_, _, H, vr_set_S _ _ _, vq_set (vq_u (vq_refl hf L)) (Or.inr rfl)⟩
theorem vq_single {d : Nat} (v : Int64) (hW : jv_rW K R) (hd : d < 77200) (hf : vr_fl I) {n sl : Nat} : ∃ I1 L1, jv_Ms 217 [.ref 208, .int (vl_I d), .long v] (jv_H K I L R) n sl (none, jv_H K I1 L1 R, n, sl) ∧ vr_S L1 d = vb_rjust v.toBitVec ∧ vq_rf d I L I1 L1 := by
  have H := vr_single (I := I) (L := L) (n := n) (sl := sl) (vl_I d) v hW (vl_I_ix hd (by decide))
  rw [vl_I_nat (by omega)] at H
  exact ⟨_, _, H, vr_set_S _ _ _, vq_set (vq_u (vq_refl hf L)) (Or.inr rfl)⟩
theorem vq_cut {a d m : Nat} (hm : m ≤ 64) (hW : jv_rW K R) (ha : a < 77200) (hd : d < 77200) (hd5 : 5 ≤ d) (ha2 : 2 ≤ a) (hf : vr_fl I) (ht : vb_tight (vb_toS (vr_S L a))) {n sl : Nat} : ∃ I1 L1, jv_Ms 219 [.ref 208, .int (vl_I a), .int (vl_I d), .int (vl_I m)] (jv_H K I L R) n sl (none, jv_H K I1 L1 R, n, sl) ∧ vr_S L1 d = vb_toR (vx_cut (vb_toS (vr_S L a)) m) ∧ vq_rf d I L I1 L1 := by
  have e1 : (vl_I a).toNatClampNeg = a := vl_I_nat (by omega)
  have e2 : (vl_I d).toNatClampNeg = d := vl_I_nat (by omega)
  have H := vr_cutRow (I := I) (L := L) (n := n) (sl := sl) (vl_I a) (vl_I d) m hm hW (vl_I_ix ha (by decide)) (vl_I_ix hd (by decide)) (by rw [e2]; omega) (hf 3 (by decide)) (by rw [e1]; exact hf a ha2) (by rw [e1]; exact ht.low)
  rw [e1, e2] at H
  exact ⟨_, _, H, vr_set_S _ _ _, vq_set (vq_set (vq_u (vq_refl hf L)) (Or.inl (by decide))) (Or.inr rfl)⟩
theorem vq_ext {a d m : Nat} (hm : m = 8 ∨ m = 16 ∨ m = 32) (hW : jv_rW K R) (ha : a < 77200) (hd : d < 77200) (hd5 : 5 ≤ d) (ha2 : 2 ≤ a) (hf : vr_fl I) (ht : vb_tight (vb_toS (vr_S L a))) {n sl : Nat} : ∃ I1 L1, jv_Ms 220 [.ref 208, .int (vl_I a), .int (vl_I d), .int (vl_I m)] (jv_H K I L R) n sl (none, jv_H K I1 L1 R, n, sl) ∧ vr_S L1 d = vb_toR (vx_ext (vb_toS (vr_S L a)) m) ∧ vq_rf d I L I1 L1 := by
  have e1 : (vl_I a).toNatClampNeg = a := vl_I_nat (by omega)
  have e2 : (vl_I d).toNatClampNeg = d := vl_I_nat (by omega)
  have H := vr_extendRow (I := I) (L := L) (n := n) (sl := sl) (vl_I a) (vl_I d) m hm hW (vl_I_ix ha (by decide)) (vl_I_ix hd (by decide)) (by rw [e2]; omega) (by rw [e2]; omega) (hf 3 (by decide)) (hf 4 (by decide)) (by rw [e1]; exact hf a ha2) (by rw [e1]; exact ht.low)
  rw [e1, e2] at H
  exact ⟨_, _, H, vr_set_S _ _ _, vq_set (vq_set (vq_set (vq_u (vq_refl hf L)) (Or.inl (by decide))) (Or.inl (by decide))) (Or.inr rfl)⟩
theorem vq_swap {a d m : Nat} (hm : m = 16 ∨ m = 32 ∨ m = 64) (hW : jv_rW K R) (ha : a < 77200) (hd : d < 77200) (hd5 : 5 ≤ d) (ha2 : 2 ≤ a) (hf : vr_fl I) (ht : vb_tight (vb_toS (vr_S L a))) {n sl : Nat} : ∃ I1 L1, jv_Ms 222 [.ref 208, .int (vl_I a), .int (vl_I d), .int (vl_I m)] (jv_H K I L R) n sl (none, jv_H K I1 L1 R, n, sl) ∧ vr_S L1 d = vb_toR (vx_swap (vb_toS (vr_S L a)) m) ∧ vq_rf d I L I1 L1 := by
  have e1 : (vl_I a).toNatClampNeg = a := vl_I_nat (by omega)
  have e2 : (vl_I d).toNatClampNeg = d := vl_I_nat (by omega)
  have H := vr_swapRow (I := I) (L := L) (n := n) (sl := sl) (vl_I a) (vl_I d) m hm hW (vl_I_ix ha (by decide)) (vl_I_ix hd (by decide)) (by rw [e2]; omega) (by rw [e2]; omega) (hf 3 (by decide)) (hf 4 (by decide)) (by rw [e1]; exact hf a ha2) (by rw [e1]; exact ht.low)
  rw [e1, e2] at H
  exact ⟨_, _, H, vr_set_S _ _ _, vq_set (vq_set (vq_set (vq_u (vq_refl hf L)) (Or.inl (by decide))) (Or.inl (by decide))) (Or.inr rfl)⟩
theorem vq_op64 {k d a b : Nat} (hk : k ≤ 11) (hW : jv_rW K R) (ha : a < 77200) (hb : b < 77200) (hd : d < 77200) (hd5 : 5 ≤ d) (ha5 : 5 ≤ a) (hb5 : 5 ≤ b) (hf : vr_fl I) (hx : vb_tight (vb_toS (vr_S L a))) (hy : vb_tight (vb_toS (vr_S L b))) {n sl : Nat} : ∃ I1 L1, jv_Ms 249 [.ref 208, .int (vl_I k), .int (64 : Int32), .int (vl_I d), .int (vl_I a), .int (vl_I b)] (jv_H K I L R) n sl (none, jv_H K I1 L1 R, n, sl) ∧ vr_S L1 d = vb_toR (vb_tt (vb_rOp k (vb_toS (vr_S L a)) (vb_toS (vr_S L b)) 63)) ∧ vq_rf d I L I1 L1 := by
  have e1 : (vl_I a).toNatClampNeg = a := vl_I_nat (by omega)
  have e2 : (vl_I b).toNatClampNeg = b := vl_I_nat (by omega)
  have e3 : (vl_I d).toNatClampNeg = d := vl_I_nat (by omega)
  have H := jv_s249_64 (I := I) (L := L) (n := n) (sl := sl) k hk (vl_I d) (vl_I a) (vl_I b) hW (vl_I_ix hd (by decide)) (vl_I_ix ha (by decide)) (vl_I_ix hb (by decide)) (by rw [e3]; exact hd5) (by rw [e1]; exact ha5) (by rw [e2]; exact hb5) hf (by rw [e1]; exact hx.low) (by rw [e2]; exact hy.low)
  rw [e1, e2, e3] at H
  refine ⟨_, _, H, ?_, ?_⟩
  · rw [vr_set_S, vr_set_S, vr_set_o (q := 0) (by decide), vr_set_S, vr_set_S, vr_set_o (q := b) (by omega)]
  · exact vq_set (vq_set (vq_set (vq_set (vq_u (vq_u (vq_u (vq_refl hf L)))) (Or.inl (by decide))) (Or.inl (by decide))) (Or.inl (by decide))) (Or.inr rfl)
theorem vq_op32 {k d a b : Nat} (hk : k ≤ 11) (hW : jv_rW K R) (ha : a < 77200) (hb : b < 77200) (hd : d < 77200) (hd5 : 5 ≤ d) (ha5 : 5 ≤ a) (hb5 : 5 ≤ b) (hf : vr_fl I) (hx : vb_tight (vb_toS (vr_S L a))) (hy : vb_tight (vb_toS (vr_S L b))) {n sl : Nat} : ∃ I1 L1, jv_Ms 249 [.ref 208, .int (vl_I k), .int (32 : Int32), .int (vl_I d), .int (vl_I a), .int (vl_I b)] (jv_H K I L R) n sl (none, jv_H K I1 L1 R, n, sl) ∧ vr_S L1 d = vb_toR (vx_cut (vb_tt (vb_rOp k (if k = 10 then vx_ext (vb_toS (vr_S L a)) 32 else vx_cut (vb_toS (vr_S L a)) 32) (vx_cut (vb_toS (vr_S L b)) 32) 31)) 32) ∧ vq_rf d I L I1 L1 := by
  have e1 : (vl_I a).toNatClampNeg = a := vl_I_nat (by omega)
  have e2 : (vl_I b).toNatClampNeg = b := vl_I_nat (by omega)
  have e3 : (vl_I d).toNatClampNeg = d := vl_I_nat (by omega)
  by_cases h10 : k = 10
  · subst h10
    have H := jv_s249_32x (I := I) (L := L) (n := n) (sl := sl) 10 hk (vl_I d) (vl_I a) (vl_I b) hW (vl_I_ix hd (by decide)) (vl_I_ix ha (by decide)) (vl_I_ix hb (by decide)) (by rw [e3]; exact hd5) (by rw [e1]; exact ha5) (by rw [e2]; exact hb5) hf (by rw [e1]; exact hx.low) (by rw [e2]; exact hy.low)
    rw [e1, e2, e3] at H
    refine ⟨_, _, H, ?_, ?_⟩
    · rw [if_pos rfl]
      simp only [vr_set_S, vb_toS_toR, vr_set_o (show (0 : Nat) ≠ 1 by decide), vr_set_o (show (0 : Nat) ≠ 3 by decide), vr_set_o (show (0 : Nat) ≠ 4 by decide), vr_set_o (show (1 : Nat) ≠ 0 by decide), vr_set_o (show (2 : Nat) ≠ 3 by decide), vr_set_o (show (0 : Nat) ≠ 2 by decide), vr_set_o (show b ≠ 0 by omega), vr_set_o (show b ≠ 4 by omega), vr_set_o (show b ≠ 3 by omega)]
      rfl
    · repeat first | exact vq_refl hf L | refine vq_set ?_ (Or.inr rfl) | refine vq_set ?_ (Or.inl (by decide)) | refine vq_u ?_
  · have H := jv_s249_32 (I := I) (L := L) (n := n) (sl := sl) k hk (fun z => h10 ((vl_I_inj (by omega) (by decide)).mp z)) (vl_I d) (vl_I a) (vl_I b) hW (vl_I_ix hd (by decide)) (vl_I_ix ha (by decide)) (vl_I_ix hb (by decide)) (by rw [e3]; exact hd5) (by rw [e1]; exact ha5) (by rw [e2]; exact hb5) hf (by rw [e1]; exact hx.low) (by rw [e2]; exact hy.low)
    rw [e1, e2, e3] at H
    refine ⟨_, _, H, ?_, ?_⟩
    · rw [if_neg h10]
      simp only [vr_set_S, vb_toS_toR, vr_set_o (show (0 : Nat) ≠ 1 by decide), vr_set_o (show (0 : Nat) ≠ 3 by decide), vr_set_o (show (0 : Nat) ≠ 4 by decide), vr_set_o (show (1 : Nat) ≠ 0 by decide), vr_set_o (show (2 : Nat) ≠ 3 by decide), vr_set_o (show (0 : Nat) ≠ 2 by decide), vr_set_o (show b ≠ 0 by omega), vr_set_o (show b ≠ 4 by omega), vr_set_o (show b ≠ 3 by omega)]
      rfl
    · repeat first | exact vq_refl hf L | refine vq_set ?_ (Or.inr rfl) | refine vq_set ?_ (Or.inl (by decide)) | refine vq_u ?_
theorem vq_meet {a b : Nat} (w : Bool) (hW : jv_rW K R) (ha : a < 77200) (hb : b < 77200) (ha5 : 5 ≤ a) (hb5 : 5 ≤ b) (hf : vr_fl I) (hx : vb_tight (vb_toS (vr_S L a))) (hy : vb_tight (vb_toS (vr_S L b))) {n sl : Nat} : ∃ L1, jv_Ms 250 [.ref 208, .int (vl_I a), .int (vl_I b), .int (vr_b w)] (jv_H K I L R) n sl (none, jv_H K I L1 R, n, sl) ∧ vr_S L1 2 = vb_toR (vb_meet w (vb_toS (vr_S L a)) (vb_toS (vr_S L b))) ∧ vq_rf 2 I L I L1 := by
  have e1 : (vl_I a).toNatClampNeg = a := vl_I_nat (by omega)
  have e2 : (vl_I b).toNatClampNeg = b := vl_I_nat (by omega)
  have H := vr_meet (I := I) (L := L) (n := n) (sl := sl) (vl_I a) (vl_I b) w hW hf (by rw [e1]; exact ha5) (by rw [e2]; exact hb5) (by rw [e1]; exact hx) (by rw [e2]; exact hy) (vl_I_ix ha (by decide)) (vl_I_ix hb (by decide))
  rw [e1, e2] at H
  exact ⟨_, H, vr_set_S _ _ _, vq_set (vq_refl hf L) (Or.inr rfl)⟩
theorem vq_same {a b : Nat} (hW : jv_rW K R) (ha : a < 77200) (hb : b < 77200) {n sl : Nat} : jv_Ms 248 [.ref 208, .int (vl_I a), .int (vl_I b)] (jv_H K I L R) n sl (some (.int (vr_b (decide (vr_S L a = vr_S L b)))), jv_H K I L R, n, sl) := by
  have H := vr_isSame (I := I) (L := L) (n := n) (sl := sl) (vl_I a) (vl_I b) hW (vl_I_ix ha (by decide)) (vl_I_ix hb (by decide))
  rw [vl_I_nat (by omega), vl_I_nat (by omega)] at H
  exact H
theorem vq_isSingle {a : Nat} (hW : jv_rW K R) (ha : a < 77200) {n sl : Nat} : jv_Ms 209 [.ref 208, .int (vl_I a)] (jv_H K I L R) n sl (some (.int (vr_b (decide ((vr_S L a).low = (vr_S L a).high)))), jv_H K I L R, n, sl) := by
  have H := vr_isSingle (I := I) (L := L) (n := n) (sl := sl) (vl_I a) hW (vl_I_ix ha (by decide))
  rw [vl_I_nat (by omega)] at H
  exact H
theorem vq_refines (c : Nat) {a b : Nat} (hc : c ≤ 11) (hW : jv_rW K R) (ha : a < 77200) (hb : b < 77200) (ha5 : 5 ≤ a) (hb5 : 5 ≤ b) (hf : vr_fl I) (hx : vb_tight (vb_toS (vr_S L a))) (hy : vb_tight (vb_toS (vr_S L b))) {n sl : Nat} : ∃ I1 L1, jv_Ms 251 [.ref 208, .int (vl_I c), .int (vl_I a), .int (vl_I b)] (jv_H K I L R) n sl (some (.int (vr_b (vb_refine c (vb_toS (vr_S L a)) (vb_toS (vr_S L b))).isSome)), jv_H K I1 L1 R, n, sl) ∧ (∀ p, vb_refine c (vb_toS (vr_S L a)) (vb_toS (vr_S L b)) = some p → vr_S L1 0 = vb_toR p.1 ∧ vr_S L1 1 = vb_toR p.2 ∧ I1 215 0 = 0 ∧ I1 215 1 = 0) ∧ vq_rf 0 I L I1 L1 := by
  have e1 : (vl_I a).toNatClampNeg = a := vl_I_nat (by omega)
  have e2 : (vl_I b).toNatClampNeg = b := vl_I_nat (by omega)
  have e0 : vr_S (vr_set (vr_set L 0 (vr_S L a)) 1 (vr_S (vr_set L 0 (vr_S L a)) b)) 0 = vr_S L a := by rw [vr_s10, vr_set_S]
  have e9 : vr_S (vr_set (vr_set L 0 (vr_S L a)) 1 (vr_S (vr_set L 0 (vr_S L a)) b)) 1 = vr_S L b := by rw [vr_set_S, vr_set_o (by omega)]
  have f0 : jv_u (jv_u I 215 0 0) 215 1 0 215 0 = 0 := (jv_u_j _ _ _ _ (by decide)).trans (jv_u_self _ _ _ _)
  have f1 : jv_u (jv_u I 215 0 0) 215 1 0 215 1 = 0 := jv_u_self _ _ _ _
  have fE : ∀ q, 2 ≤ q → jv_u (jv_u I 215 0 0) 215 1 0 215 q = 0 := fun q hq => by
    rw [jv_u_j _ _ _ _ (by omega), jv_u_j _ _ _ _ (by omega)]; exact hf q hq
  have R0 := vr_refine (K := K) (R := R) c hc hW fE f0 f1 (by rw [e0]; exact hx) (by rw [e9]; exact hy)
  rw [e0, e9] at R0
  obtain ⟨I1, L1, hs, ⟨f, g, hf1, hg, hn, hp⟩, HK⟩ := R0
  refine ⟨I1, L1, ?_, fun p h => ?_, hs.1, fun q j hq => ?_, fun q j z => ?_⟩
  · have er : (!(f || g)) = (vb_refine c (vb_toS (vr_S L a)) (vb_toS (vr_S L b))).isSome := by
      cases h : vb_refine c (vb_toS (vr_S L a)) (vb_toS (vr_S L b)) with
      | none => rw [hn h]; rfl
      | some p => obtain ⟨rfl, rfl, _⟩ := hp p h; rfl
    rw [← er]
    show jv_Ev 251 0 [(0, .ref 208), (1, .int (vl_I c)), (2, .int (vl_I a)), (3, .int (vl_I b))] [] (jv_H K I L R) n sl _
    refine jv_b251_0 (vl_I c) (vl_I a) (vl_I b) hW (vl_I_ix ha (by decide)) (vl_I_ix hb (by decide)) (by rw [e1]; exact ha5) (by rw [e2]; exact hb5) hf ?_
    rw [e1, e2]
    refine jv_Ev.steps jv_i251 2 (pc' := 14) (l' := [(0, .ref 208), (1, .int (vl_I c)), (2, .int (vl_I a)), (3, .int (vl_I b))]) (st' := [.int (vl_I c), .ref 208]) rfl ?_
    refine jv_Ev.c jv_i251 (pc' := 17) (S' := []) (G1 := jv_H K I1 L1 R) jv_i247 [.ref 208, .int (vl_I c)] rfl rfl rfl rfl (jv_cal rfl (jv_H_at (jv_rwK hW 208 11 7 (by decide))) rfl rfl) rfl (HK n sl) rfl rfl ?_
    exact vr_refinesT (vl_I c) (vl_I a) (vl_I b) f g hW hf1 hg
  · obtain ⟨rfl, rfl, h3, h4⟩ := hp p h
    exact ⟨h3, h4, hf1, hg⟩
  · exact (hs.2.1 q j hq).trans ((jv_u_o _ _ _ _ hq).trans (jv_u_o _ _ _ _ hq))
  · refine (hs.2.2 q j (fun c => z ⟨c.1, c.2.1, Or.inl c.2.2⟩)).trans ((vr_set_out (fun c => z ⟨c.2.1, c.2.2, Or.inl (by omega)⟩)).trans (vr_set_out (fun c => z ⟨c.2.1, c.2.2, Or.inl (by omega)⟩)))
end