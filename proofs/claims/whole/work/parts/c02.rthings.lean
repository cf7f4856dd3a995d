/-! part c02: things of the reference (gen/tc02.py) -/
def vr_D (s d o : Int32) (v : vb_S) : vt_T := (if s = 9 then 0 else s.toInt.toNat, d.toInt, o.toInt, if vc_hv s = true then v else vb_any)
/-- thing x of the reference: its row of sayings is 8 further on -/
def vr_T (I : Nat → Nat → Int32) (L : Nat → Nat → Int64) (x : Nat) : vt_T := vr_D (I 205 x) (I 206 x) (I 207 x) (vb_toS (vr_S L (8 + x)))
/-- as the reference has things: of a register (n below 11), of a slot -/
def vr_W (n : Nat) (s d o : Int32) : Prop := (s = 9 ∧ 11 ≤ n ∧ o = -1 ∧ 0 ≤ d.toInt ∧ d.toInt < 256) ∨ (s = 0 ∧ n < 11 ∧ d = 0 ∧ o = -1) ∨ ((s = 1 ∨ s = 4 ∨ s = 5) ∧ d = 0 ∧ o = -1) ∨ ((s = 2 ∨ s = 3 ∨ s = 6 ∨ s = 7) ∧ o = -1) ∨ s = 8
def vr_ok (I : Nat → Nat → Int32) (x n : Nat) : Prop := vr_W n (I 205 x) (I 206 x) (I 207 x)
def vr_A (I : Nat → Nat → Int32) (L : Nat → Nat → Int64) (k : Nat) : vt_A := (fun n => if n < 75 then vr_T I L (75 * k + n) else vt_none 0, (I 203 k).toInt)
def vr_okA (I : Nat → Nat → Int32) (k : Nat) : Prop := ∀ n, n < 75 → vr_ok I (75 * k + n) n
/-- things that P names have changed, cells that E names, and what is reckoned with -/
def vr_fr (P : Nat → Prop) (E : Nat → Nat → Prop) (I : Nat → Nat → Int32) (L : Nat → Nat → Int64) (I1 : Nat → Nat → Int32) (L1 : Nat → Nat → Int64) : Prop :=
  vr_fl I1 ∧ (∀ q f, ¬ (205 ≤ q ∧ q ≤ 207 ∧ P f) → q ≠ 215 → ¬ (q < 205 ∧ E q f) → I1 q f = I q f) ∧ ∀ q f, ¬ (209 ≤ q ∧ q ≤ 214 ∧ ((f < 8 ∧ f ≠ 6) ∨ (8 ≤ f ∧ P (f - 8)))) → L1 q f = L q f
def noE : Nat → Nat → Prop := fun _ _ => False
section
variable {P Q : Nat → Prop} {E E' : Nat → Nat → Prop} {I I1 I2 : Nat → Nat → Int32} {L L1 L2 : Nat → Nat → Int64}
theorem vr_fr_refl (h : vr_fl I) : vr_fr P E I L I L := ⟨h, fun _ _ _ _ _ => rfl, fun _ _ _ => rfl⟩
theorem vr_fr_trans (h1 : vr_fr P E I L I1 L1) (h2 : vr_fr P E I1 L1 I2 L2) : vr_fr P E I L I2 L2 := ⟨h2.1, fun q f a b c => (h2.2.1 q f a b c).trans (h1.2.1 q f a b c), fun q f a => (h2.2.2 q f a).trans (h1.2.2 q f a)⟩
theorem vr_fr_mono (h : vr_fr P E I L I1 L1) (hp : ∀ x, P x → Q x) (he : ∀ q f, E q f → E' q f) : vr_fr Q E' I L I1 L1 := ⟨h.1, fun q f a b c => h.2.1 q f (fun z => a ⟨z.1, z.2.1, hp _ z.2.2⟩) b (fun z => c ⟨z.1, he _ _ z.2⟩), fun q f a => h.2.2 q f (fun z => a ⟨z.1, z.2.1, z.2.2.imp id (fun z => ⟨z.1, hp _ z.2⟩)⟩)⟩
theorem vr_fr_P (h : vr_fr P noE I L I1 L1) (hp : ∀ x, P x → Q x) : vr_fr Q noE I L I1 L1 := vr_fr_mono h hp (fun _ _ z => z)
theorem vr_fr_S (h : vr_fr P E I L I1 L1) {x : Nat} (hx : ¬ P x) : vr_S L1 (8 + x) = vr_S L (8 + x) := vr_S_ext (fun o _ _ => h.2.2 o _ (fun z => z.2.2.elim (fun z => by omega) (fun z => hx (by rw [Nat.add_sub_cancel_left] at z; exact z.2))))
theorem vr_fr_6 (h : vr_fr P E I L I1 L1) : vr_S L1 6 = vr_S L 6 := vr_S_ext (fun o _ _ => h.2.2 o _ (fun z => z.2.2.elim (fun z => z.2 rfl) (fun z => by omega)))
theorem vr_fr_i (h : vr_fr P E I L I1 L1) {x : Nat} (hx : ¬ P x) : I1 205 x = I 205 x ∧ I1 206 x = I 206 x ∧ I1 207 x = I 207 x := ⟨h.2.1 205 x (fun z => hx z.2.2) (by decide) (fun z => by omega), h.2.1 206 x (fun z => hx z.2.2) (by decide) (fun z => by omega), h.2.1 207 x (fun z => hx z.2.2) (by decide) (fun z => by omega)⟩
theorem vr_fr_T (h : vr_fr P E I L I1 L1) {x : Nat} (hx : ¬ P x) : vr_T I1 L1 x = vr_T I L x := by
  unfold vr_T
  obtain ⟨a, b, c⟩ := vr_fr_i h hx
  rw [a, b, c, vr_fr_S h hx]
theorem vr_fr_ok (h : vr_fr P E I L I1 L1) {x n : Nat} (hx : ¬ P x) : vr_ok I1 x n ↔ vr_ok I x n := by
  unfold vr_ok
  obtain ⟨a, b, c⟩ := vr_fr_i h hx
  rw [a, b, c]
theorem vr_fr_c (h : vr_fr P noE I L I1 L1) {q f : Nat} (hq : q < 205 ∨ 207 < q) (h5 : q ≠ 215) : I1 q f = I q f := h.2.1 q f (fun z => by omega) h5 (fun z => z.2)
theorem vr_fr_A (h : vr_fr P noE I L I1 L1) {k : Nat} (hP : ∀ n, n < 75 → ¬ P (75 * k + n)) : vr_A I1 L1 k = vr_A I L k := by
  refine Prod.ext (funext (fun n => ?_)) (congrArg Int32.toInt (vr_fr_c h (by decide) (by decide)))
  show (if n < 75 then _ else _) = if n < 75 then _ else _
  by_cases hn : n < 75
  · rw [if_pos hn, if_pos hn]; exact vr_fr_T h (hP n hn)
  · rw [if_neg hn, if_neg hn]
theorem vr_fr_okA (h : vr_fr P E I L I1 L1) {k : Nat} (hP : ∀ n, n < 75 → ¬ P (75 * k + n)) (o : vr_okA I k) : vr_okA I1 k := fun n hn => (vr_fr_ok h (hP n hn)).mpr (o n hn)
theorem vr_A1 {k n : Nat} (hn : n < 75) : (vr_A I L k).1 n = vr_T I L (75 * k + n) := if_pos hn
/-- rows alone have changed: that of a thing, or what is reckoned with -/
theorem vq_rf_fr {t : Nat} (h : vq_rf t I L I1 L1) (ht : t < 8 ∧ t ≠ 6) : vr_fr P E I L I1 L1 := ⟨h.1, fun q f _ b _ => h.2.1 q f b, fun q f a => h.2.2 q f (fun z => a ⟨z.1, z.2.1, Or.inl (by omega)⟩)⟩
theorem vq_rf_frx {x : Nat} (h : vq_rf (8 + x) I L I1 L1) (hx : P x) : vr_fr P E I L I1 L1 := ⟨h.1, fun q f _ b _ => h.2.1 q f b, fun q f a => h.2.2 q f (fun z => a ⟨z.1, z.2.1, z.2.2.elim (fun z => Or.inl (by omega)) (fun z => Or.inr ⟨by omega, by rw [z, Nat.add_sub_cancel_left]; exact hx⟩)⟩)⟩
/-- a state with one thing changed -/
theorem vr_upA {k r : Nat} {t : vt_T} (hr : r < 75) (T : vr_T I1 L1 (75 * k + r) = t) (o : vr_ok I1 (75 * k + r) r) (fr : vr_fr P noE I L I1 L1) (hP : ∀ n, n < 75 → n ≠ r → ¬ P (75 * k + n)) (oa : vr_okA I k) : vr_A I1 L1 k = vt_up (vr_A I L k) r t ∧ vr_okA I1 k := by
  constructor
  · refine Prod.ext (funext (fun n => ?_)) (congrArg Int32.toInt (vr_fr_c fr (by decide) (by decide)))
    show (if n < 75 then vr_T I1 L1 (75 * k + n) else vt_none 0) = if n = r then t else (vr_A I L k).1 n
    by_cases e : n = r
    · rw [if_pos e, if_pos (by omega), e]; exact T
    · rw [if_neg e]
      by_cases hn : n < 75
      · rw [if_pos hn, vr_fr_T fr (hP n hn e)]; exact (if_pos hn).symm
      · rw [if_neg hn]; exact (if_neg hn).symm
  · intro n hn
    by_cases e : n = r
    · rw [e]; exact o
    · exact (vr_fr_ok fr (hP n hn e)).mpr (oa n hn)
end
theorem vr_D9 (d o : Int32) (v : vb_S) : vr_D 9 d o v = (0, d.toInt, o.toInt, vb_any) := rfl
theorem vr_T_set {I1 : Nat → Nat → Int32} {L1 : Nat → Nat → Int64} {x : Nat} {s d o : Int32} (h5 : I1 205 x = s) (h6 : I1 206 x = d) (h7 : I1 207 x = o) : vr_T I1 L1 x = vr_D s d o (vb_toS (vr_S L1 (8 + x))) := by unfold vr_T; rw [h5, h6, h7]
/-- the word that is looked at, as the reference has it -/
def vr_dec (I : Nat → Nat → Int32) (f : vf_F) : Prop := I 196 19 = vl_I f.code ∧ I 196 20 = vl_I f.d ∧ I 196 21 = vl_I f.s ∧ (I 196 22).toInt = f.o ∧ (I 196 23).toInt = f.i ∧ f.code < 256 ∧ f.d < 16 ∧ f.s < 16
theorem vr_dec_fr {P : Nat → Prop} {E : Nat → Nat → Prop} {I I1 : Nat → Nat → Int32} {L L1 : Nat → Nat → Int64} {f : vf_F} (h : vr_fr P E I L I1 L1) (hE : ∀ j, 19 ≤ j → ¬ E 196 j) (d : vr_dec I f) : vr_dec I1 f := by
  have c : ∀ j, 19 ≤ j → I1 196 j = I 196 j := fun j hj => h.2.1 196 j (fun z => by omega) (by decide) (fun z => hE j hj z.2)
  unfold vr_dec
  rw [c 19 (by decide), c 20 (by decide), c 21 (by decide), c 22 (by decide), c 23 (by decide)]
  exact d
theorem vr_dec_n {P : Nat → Prop} {I I1 : Nat → Nat → Int32} {L L1 : Nat → Nat → Int64} {f : vf_F} (h : vr_fr P noE I L I1 L1) (d : vr_dec I f) : vr_dec I1 f := vr_dec_fr h (fun _ _ z => z) d
theorem vi_thing (k n : Nat) : (75 : Int32) * vl_I k + vl_I n = vl_I (75 * k + n) := by
  refine Int32.toBitVec_inj.mp ?_
  rw [Int32.toBitVec_add, Int32.toBitVec_mul]
  show BitVec.ofNat 32 75 * BitVec.ofNat 32 k + BitVec.ofNat 32 n = BitVec.ofNat 32 (75 * k + n)
  rw [BitVec.ofNat_add, BitVec.ofNat_mul]
theorem vi_row (k n : Nat) : ((8 : Int32) + (75 : Int32) * vl_I k) + vl_I n = vl_I (8 + (75 * k + n)) := by
  refine Int32.toBitVec_inj.mp ?_
  rw [Int32.toBitVec_add, Int32.toBitVec_add, Int32.toBitVec_mul]
  show BitVec.ofNat 32 8 + BitVec.ofNat 32 75 * BitVec.ofNat 32 k + BitVec.ofNat 32 n = BitVec.ofNat 32 (8 + (75 * k + n))
  rw [BitVec.ofNat_add, BitVec.ofNat_add, BitVec.ofNat_mul, BitVec.add_assoc]
theorem jv_i253 : jv_I 253 2 (some .int) 0 0 jv_c253 := ⟨rfl, rfl, rfl, rfl, rfl⟩
theorem vq_thing {G : jv_G} (k m : Nat)  {n sl : Nat} : jv_Ms 253 [.int (vl_I k), .int (vl_I m)] G n sl (some (.int (vl_I (75 * k + m))), G, n, sl) := by
  rw [← vi_thing]
  show jv_Ev 253 0 [(0, .int (vl_I k)), (1, .int (vl_I m))] [] G n sl _
  refine jv_Ev.steps jv_i253 5 (pc' := 6) (l' := [(0, .int (vl_I k)), (1, .int (vl_I m))]) (st' := [.int (((75 : Int32) * (vl_I k)) + (vl_I m))]) rfl ?_
  exact jv_Ev.ret jv_i253 rfl rfl
theorem jv_i254 : jv_I 254 2 (some .int) 0 0 jv_c254 := ⟨rfl, rfl, rfl, rfl, rfl⟩
theorem vq_row {G : jv_G} (k m : Nat)  {n sl : Nat} : jv_Ms 254 [.int (vl_I k), .int (vl_I m)] G n sl (some (.int (vl_I (8 + (75 * k + m)))), G, n, sl) := by
  rw [← vi_row]
  show jv_Ev 254 0 [(0, .int (vl_I k)), (1, .int (vl_I m))] [] G n sl _
  refine jv_Ev.steps jv_i254 7 (pc' := 9) (l' := [(0, .int (vl_I k)), (1, .int (vl_I m))]) (st' := [.int (((8 : Int32) + ((75 : Int32) * (vl_I k))) + (vl_I m))]) rfl ?_
  exact jv_Ev.ret jv_i254 rfl rfl
theorem jv_i272 : jv_I 272 5 none 1 21 jv_c272 := ⟨rfl, rfl, rfl, rfl, rfl⟩
theorem vq_setx {K : Nat → Option (Nat × Nat)} {I : Nat → Nat → Int32} {L : Nat → Nat → Int64} {R : Nat → Nat → Value} (k m : Nat) (s d : Int32) (hW : jv_rW K R) (hf : vr_fl I) (hx : 75 * k + m < 77100) {n sl : Nat} : ∃ I1 L1, jv_Ms 272 [.ref 196, .int (vl_I k), .int (vl_I m), .int s, .int d] (jv_H K I L R) n sl (none, jv_H K I1 L1 R, n, sl) ∧ I1 205 (75 * k + m) = s ∧ I1 206 (75 * k + m) = d ∧ I1 207 (75 * k + m) = -1 ∧ vr_fr (fun x => x = 75 * k + m) noE I L I1 L1 ∧ L1 = L := by
  obtain ⟨Q, hQ⟩ : ∃ Q : jv_R → Prop, Q = fun X => ∃ I1 L1, X = (none, jv_H K I1 L1 R, n, sl) ∧ I1 205 (75 * k + m) = s ∧ I1 206 (75 * k + m) = d ∧ I1 207 (75 * k + m) = -1 ∧ vr_fr (fun x => x = 75 * k + m) noE I L I1 L1 ∧ L1 = L := ⟨_, rfl⟩
  suffices h : jv_Wp 272 0 [(0, .ref 196), (1, .int (vl_I k)), (2, .int (vl_I m)), (3, .int s), (4, .int d)] [] (jv_H K I L R) n sl Q by
    rw [hQ] at h
    obtain ⟨X, h, I1, L1, e, h'⟩ := h
    subst e
    exact ⟨I1, L1, h, h'⟩
  refine jv_Wp.lift (fun _ Kz => jv_Ev.steps jv_i272 1 (pc' := 1) (l' := [(0, .ref 196), (1, .int (vl_I k)), (2, .int (vl_I m)), (3, .int s), (4, .int d)]) (st' := [.ref 196]) rfl Kz) ?_
  refine jv_Wp.lift (fun _ Kz => jv_Ev.m jv_i272 (pc' := 4) (st' := [.ref 205]) (G' := (jv_H K I L R)) rfl rfl (jv_m_getR (jv_rwK hW 196 12 24 (by decide)) rfl rfl (jv_rwR hW 196 13 205 (by decide))) Kz) ?_
  refine jv_Wp.lift (fun _ Kz => jv_Ev.steps jv_i272 2 (pc' := 6) (l' := [(0, .ref 196), (1, .int (vl_I k)), (2, .int (vl_I m)), (3, .int s), (4, .int d)]) (st' := [.int (vl_I m), .int (vl_I k), .ref 205]) rfl Kz) ?_
  refine jv_Wp.lift (fun _ Kz => jv_Ev.c jv_i272 (pc' := 9) (S' := [.int (vl_I (75 * k + m)), .ref 205]) jv_i253 [.int (vl_I k), .int (vl_I m)] rfl rfl rfl rfl rfl rfl (vq_thing k m) rfl rfl Kz) ?_
  refine jv_Wp.lift (fun _ Kz => jv_Ev.steps jv_i272 1 (pc' := 10) (l' := [(0, .ref 196), (1, .int (vl_I k)), (2, .int (vl_I m)), (3, .int s), (4, .int d)]) (st' := [.int s, .int (vl_I (75 * k + m)), .ref 205]) rfl Kz) ?_
  refine jv_Wp.lift (fun _ Kz => jv_Ev.m jv_i272 (pc' := 11) (st' := []) (G' := (jv_H K (jv_u I 205 (75 * k + m) s) L R)) rfl rfl (by rw [jv_m_iast (jv_rwK hW 205 102 77100 (by decide)) (vl_I_ix (by omega) (by decide)), (vl_I_nat (by omega))]) Kz) ?_
  refine jv_Wp.lift (fun _ Kz => jv_Ev.steps jv_i272 1 (pc' := 12) (l' := [(0, .ref 196), (1, .int (vl_I k)), (2, .int (vl_I m)), (3, .int s), (4, .int d)]) (st' := [.ref 196]) rfl Kz) ?_
  refine jv_Wp.lift (fun _ Kz => jv_Ev.m jv_i272 (pc' := 15) (st' := [.ref 206]) (G' := (jv_H K (jv_u I 205 (75 * k + m) s) L R)) rfl rfl (jv_m_getR (jv_rwK hW 196 12 24 (by decide)) rfl rfl (jv_rwR hW 196 14 206 (by decide))) Kz) ?_
  refine jv_Wp.lift (fun _ Kz => jv_Ev.steps jv_i272 2 (pc' := 17) (l' := [(0, .ref 196), (1, .int (vl_I k)), (2, .int (vl_I m)), (3, .int s), (4, .int d)]) (st' := [.int (vl_I m), .int (vl_I k), .ref 206]) rfl Kz) ?_
  refine jv_Wp.lift (fun _ Kz => jv_Ev.c jv_i272 (pc' := 20) (S' := [.int (vl_I (75 * k + m)), .ref 206]) jv_i253 [.int (vl_I k), .int (vl_I m)] rfl rfl rfl rfl rfl rfl (vq_thing k m) rfl rfl Kz) ?_
  refine jv_Wp.lift (fun _ Kz => jv_Ev.steps jv_i272 1 (pc' := 22) (l' := [(0, .ref 196), (1, .int (vl_I k)), (2, .int (vl_I m)), (3, .int s), (4, .int d)]) (st' := [.int d, .int (vl_I (75 * k + m)), .ref 206]) rfl Kz) ?_
  refine jv_Wp.lift (fun _ Kz => jv_Ev.m jv_i272 (pc' := 23) (st' := []) (G' := (jv_H K (jv_u (jv_u I 205 (75 * k + m) s) 206 (75 * k + m) d) L R)) rfl rfl (by rw [jv_m_iast (jv_rwK hW 206 102 77100 (by decide)) (vl_I_ix (by omega) (by decide)), (vl_I_nat (by omega))]) Kz) ?_
  refine jv_Wp.lift (fun _ Kz => jv_Ev.steps jv_i272 1 (pc' := 24) (l' := [(0, .ref 196), (1, .int (vl_I k)), (2, .int (vl_I m)), (3, .int s), (4, .int d)]) (st' := [.ref 196]) rfl Kz) ?_
  refine jv_Wp.lift (fun _ Kz => jv_Ev.m jv_i272 (pc' := 27) (st' := [.ref 207]) (G' := (jv_H K (jv_u (jv_u I 205 (75 * k + m) s) 206 (75 * k + m) d) L R)) rfl rfl (jv_m_getR (jv_rwK hW 196 12 24 (by decide)) rfl rfl (jv_rwR hW 196 15 207 (by decide))) Kz) ?_
  refine jv_Wp.lift (fun _ Kz => jv_Ev.steps jv_i272 2 (pc' := 29) (l' := [(0, .ref 196), (1, .int (vl_I k)), (2, .int (vl_I m)), (3, .int s), (4, .int d)]) (st' := [.int (vl_I m), .int (vl_I k), .ref 207]) rfl Kz) ?_
  refine jv_Wp.lift (fun _ Kz => jv_Ev.c jv_i272 (pc' := 32) (S' := [.int (vl_I (75 * k + m)), .ref 207]) jv_i253 [.int (vl_I k), .int (vl_I m)] rfl rfl rfl rfl rfl rfl (vq_thing k m) rfl rfl Kz) ?_
  refine jv_Wp.lift (fun _ Kz => jv_Ev.steps jv_i272 1 (pc' := 33) (l' := [(0, .ref 196), (1, .int (vl_I k)), (2, .int (vl_I m)), (3, .int s), (4, .int d)]) (st' := [.int (-1 : Int32), .int (vl_I (75 * k + m)), .ref 207]) rfl Kz) ?_
  refine jv_Wp.lift (fun _ Kz => jv_Ev.m jv_i272 (pc' := 34) (st' := []) (G' := (jv_H K (jv_u (jv_u (jv_u I 205 (75 * k + m) s) 206 (75 * k + m) d) 207 (75 * k + m) (-1 : Int32)) L R)) rfl rfl (by rw [jv_m_iast (jv_rwK hW 207 102 77100 (by decide)) (vl_I_ix (by omega) (by decide)), (vl_I_nat (by omega))]) Kz) ?_
  refine jv_Wp.of (jv_Ev.ret jv_i272 rfl rfl) ?_
  rw [hQ]
  refine ⟨_, L, rfl, (jv_u_o _ _ _ _ (by decide)).trans ((jv_u_o _ _ _ _ (by decide)).trans (jv_u_self _ _ _ _)), (jv_u_o _ _ _ _ (by decide)).trans (jv_u_self _ _ _ _), jv_u_self _ _ _ _, ⟨fun q hq => (jv_u_o _ _ _ _ (by decide)).trans ((jv_u_o _ _ _ _ (by decide)).trans ((jv_u_o _ _ _ _ (by decide)).trans (hf q hq))), fun q f a b c => ?_, fun _ _ _ => rfl⟩, rfl⟩
  have t : ∀ o, 205 ≤ o → o ≤ 207 → ∀ (J : Nat → Nat → Int32) (z : Int32), jv_u J o (75 * k + m) z q f = J q f := fun o h1 h2 J z => by
    by_cases e : q = o
    · rw [e]; exact jv_u_j _ _ _ _ (fun y => a ⟨by omega, by omega, y⟩)
    · exact jv_u_o _ _ _ _ e
  exact (t 207 (by decide) (by decide) _ _).trans ((t 206 (by decide) (by decide) _ _).trans (t 205 (by decide) (by decide) _ _))