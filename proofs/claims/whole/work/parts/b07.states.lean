/-! part b07: states of the class (gen/tb07.py) -/
def jv_Wp (y pc : Nat) (l : jv_L) (st : List Value) (G : jv_G) (n sl : Nat) (Q : jv_R → Prop) : Prop := ∃ X, jv_Ev y pc l st G n sl X ∧ Q X
section
variable {y pc : Nat} {l : jv_L} {st : List Value} {G : jv_G} {n sl : Nat} {Q : jv_R → Prop}
theorem jv_Wp.lift {y' pc' : Nat} {l' : jv_L} {st' : List Value} {G' : jv_G} {n' sl' : Nat} (f : ∀ X, jv_Ev y' pc' l' st' G' n' sl' X → jv_Ev y pc l st G n sl X) (k : jv_Wp y' pc' l' st' G' n' sl' Q) : jv_Wp y pc l st G n sl Q := k.imp (fun X h => ⟨f X h.1, h.2⟩)
theorem jv_Wp.of {X : jv_R} (h : jv_Ev y pc l st G n sl X) (q : Q X) : jv_Wp y pc l st G n sl Q := ⟨X, h, q⟩
theorem jv_Wp.bys {q : Prop} (ht : q → jv_Wp y pc l st G n sl Q) (he : ¬ q → jv_Wp y pc l st G n sl Q) : jv_Wp y pc l st G n sl Q := by
  by_cases h : q
  · exact ht h
  · exact he h
theorem jv_Wp.dia (j : Nat) (lm : jv_L) (sm : List Value) (Gm : jv_G) (f : jv_Wp y j lm sm Gm n sl Q → jv_Wp y pc l st G n sl Q) (K : jv_Wp y j lm sm Gm n sl Q) : jv_Wp y pc l st G n sl Q := f K
theorem jv_Wp.conv {l' : jv_L} {st' : List Value} {G' : jv_G} (hl : l' = l) (hs : st' = st) (hG : G' = G) (K : jv_Wp y pc l' st' G' n sl Q) : jv_Wp y pc l st G n sl Q := by
  subst hl; subst hs; subst hG; exact K
theorem jv_Wp.loc {l l' : jv_L} (hs : jv_le l l') (k : jv_Wp y pc l st G n sl Q) : jv_Wp y pc l' st G n sl Q := jv_Wp.lift (fun _ h => jv_Ev.loc hs h) k
theorem jv_Wp.cnd {mL fr lo : Nat} {rt : Option FieldType} {cd : List (Nat × jv_O)} (hI : jv_I y mL rt fr lo cd) {i : Instr} {len a b pt pe : Nat} {c : Int} {p q : Prop} [Decidable p] {off : Int} {r : List Value} (hf : jv_fetch cd pc = some (2, i, len, a, b, c)) (h : jv_br i pc st = jv_go p pc off r) (h1 : jv_tg pc off = pt) (h2 : pc + 3 = pe) (hq : p ↔ q)
    (ht : q → jv_Wp y pt l r G n sl Q) (he : ¬ q → jv_Wp y pe l r G n sl Q) : jv_Wp y pc l st G n sl Q := by
  by_cases z : q
  · exact jv_Wp.lift (fun X k => jv_Ev.cnd hI hf h h1 h2 hq (fun _ => k) (fun w => absurd z w)) (ht z)
  · exact jv_Wp.lift (fun X k => jv_Ev.cnd hI hf h h1 h2 hq (fun w => absurd w z) (fun _ => k)) (he z)
end
/-- a state of the class at a: its row of things at a + 1, these behind it -/
def vc_St (K : Nat → Option (Nat × Nat)) (R : Nat → Nat → Value) (a : Nat) : Prop := K a = some (5, 5) ∧ R a 0 = .ref (a + 1) ∧ K (a + 1) = some (105, 75) ∧ (∀ i, i < 75 → R (a + 1) i = .ref (a + 2 + i)) ∧ ∀ i, i < 75 → K (a + 2 + i) = some (8, 10)
theorem vc_St.k {K : Nat → Option (Nat × Nat)} {R : Nat → Nat → Value} {a : Nat} (h : vc_St K R a) : K a = some (5, 5) := h.1
theorem vc_St.r {K : Nat → Option (Nat × Nat)} {R : Nat → Nat → Value} {a : Nat} (h : vc_St K R a) : R a 0 = .ref (a + 1) := h.2.1
theorem vc_St.kt {K : Nat → Option (Nat × Nat)} {R : Nat → Nat → Value} {a : Nat} (h : vc_St K R a) : K (a + 1) = some (105, 75) := h.2.2.1
theorem vc_St.rt {K : Nat → Option (Nat × Nat)} {R : Nat → Nat → Value} {a : Nat} (h : vc_St K R a) : ∀ i, i < 75 → R (a + 1) i = .ref (a + 2 + i) := h.2.2.2.1
theorem vc_St.kk {K : Nat → Option (Nat × Nat)} {R : Nat → Nat → Value} {a : Nat} (h : vc_St K R a) : ∀ i, i < 75 → K (a + 2 + i) = some (8, 10) := h.2.2.2.2
def vc_A (I : Nat → Nat → Int32) (L : Nat → Nat → Int64) (a : Nat) : vt_A := (fun n => if n < 75 then vc_T I L (a + 2 + n) else vt_none 0, (L a 1).toInt)
def vc_okA (I : Nat → Nat → Int32) (L : Nat → Nat → Int64) (a : Nat) : Prop := ∀ n, n < 75 → vc_ok I L (a + 2 + n)
/-- its things -/
def vc_th (a p : Nat) : Prop := a + 2 ≤ p ∧ p < a + 77
theorem vl_I_ix {i N : Nat} (h : i < N) (hN : N < 2147483648) : jv_ix (vl_I i) N := by
  have e := vl_I_int (a := i) (by omega)
  exact ⟨by show 0 ≤ (vl_I i).toBitVec.toInt; omega, by show (vl_I i).toBitVec.toInt < _; omega⟩
theorem vl_I_nat {i : Nat} (h : i < 2147483648) : (vl_I i).toNatClampNeg = i := by
  show (vl_I i).toBitVec.toInt.toNat = i
  rw [vl_I_int h]; exact Int.toNat_natCast i
theorem vl_I_le {a b : Nat} (ha : a < 2147483648) (hb : b < 2147483648) : (vl_I a ≤ vl_I b) ↔ a ≤ b := by
  rw [Int32.le_iff_toBitVec_sle, BitVec.sle_iff_toInt_le, vl_I_int ha, vl_I_int hb]; omega
theorem vc_St_rt {K : Nat → Option (Nat × Nat)} {R : Nat → Nat → Value} {a i : Nat} (h : vc_St K R a) (hi : i < 75) : R (a + 1) (vl_I i).toNatClampNeg = .ref (a + 2 + i) := by
  rw [vl_I_nat (by omega)]; exact h.rt i hi

/-- what a loop over the things of a state makes of them, one by one; c: whether one became another -/
theorem vc_loop {a : Nat} {rm : Nat → Prop} {f : Nat → vt_T → vt_T} {I0 : Nat → Nat → Int32} {L0 : Nat → Nat → Int64} {c0 : Bool} {P : Nat → Bool → (Nat → Nat → Int32) → (Nat → Nat → Int64) → Prop} (hrm : ∀ n, n < 75 → ¬ rm (a + 2 + n)) (ok0 : vc_okA I0 L0 a)
    (turn : ∀ i, i < 75 → ∀ c I L, vc_fr (fun p => vc_th a p ∨ rm p) I0 L0 I L → vc_T I L (a + 2 + i) = vc_T I0 L0 (a + 2 + i) → vc_ok I L (a + 2 + i) → (∀ I1 L1 c1, vc_T I1 L1 (a + 2 + i) = f i (vc_T I0 L0 (a + 2 + i)) → vc_ok I1 L1 (a + 2 + i) → vc_fr (fun p => p = a + 2 + i ∨ rm p) I L I1 L1 → (c1 = true ↔ c = true ∨ f i (vc_T I0 L0 (a + 2 + i)) ≠ vc_T I0 L0 (a + 2 + i)) → P (i + 1) c1 I1 L1) → P i c I L)
    (fin : ∀ c I L, (∀ n, n < 75 → vc_T I L (a + 2 + n) = f n (vc_T I0 L0 (a + 2 + n)) ∧ vc_ok I L (a + 2 + n)) → vc_fr (fun p => vc_th a p ∨ rm p) I0 L0 I L → (c = true ↔ c0 = true ∨ ∃ n, n < 75 ∧ f n (vc_T I0 L0 (a + 2 + n)) ≠ vc_T I0 L0 (a + 2 + n)) → P 75 c I L) : P 0 c0 I0 L0 := by
  have go : ∀ d i, i + d = 75 → ∀ c I L, (∀ n, n < 75 → vc_T I L (a + 2 + n) = (if n < i then f n (vc_T I0 L0 (a + 2 + n)) else vc_T I0 L0 (a + 2 + n)) ∧ vc_ok I L (a + 2 + n)) → vc_fr (fun p => vc_th a p ∨ rm p) I0 L0 I L → (c = true ↔ c0 = true ∨ ∃ n, n < i ∧ f n (vc_T I0 L0 (a + 2 + n)) ≠ vc_T I0 L0 (a + 2 + n)) → P i c I L := by
    intro d
    induction d with
    | zero =>
      intro i hi c I L h1 h2 h3
      have e : i = 75 := by omega
      subst e
      exact fin c I L (fun n hn => ⟨(h1 n hn).1.trans (if_pos hn), (h1 n hn).2⟩) h2 h3
    | succ d ih =>
      intro i hi c I L h1 h2 h3
      have hi' : i < 75 := by omega
      refine turn i hi' c I L h2 ((h1 i hi').1.trans (if_neg (Nat.lt_irrefl i))) (h1 i hi').2 (fun I1 L1 c1 t1 o1 fr1 e1 => ih (i + 1) (by omega) c1 I1 L1 ?_ ?_ ?_)
      · intro n hn
        by_cases e : n = i
        · subst e; exact ⟨t1.trans (if_pos (Nat.lt_succ_self n)).symm, o1⟩
        · have hp : ¬ (a + 2 + n = a + 2 + i ∨ rm (a + 2 + n)) := fun z => z.elim (fun z => e (by omega)) (hrm n hn)
          refine ⟨(vc_fr_T fr1 hp).trans ((h1 n hn).1.trans ?_), (vc_fr_ok fr1 hp).mpr (h1 n hn).2⟩
          by_cases l : n < i
          · rw [if_pos l, if_pos (by omega)]
          · rw [if_neg l, if_neg (by omega)]
      · exact vc_fr_trans h2 (vc_fr_mono fr1 (fun p z => z.elim (fun z => Or.inl ⟨by omega, by omega⟩) Or.inr))
      · rw [e1, h3]
        constructor
        · rintro ((z | ⟨n, hn, z⟩) | z)
          · exact Or.inl z
          · exact Or.inr ⟨n, by omega, z⟩
          · exact Or.inr ⟨i, by omega, z⟩
        · rintro (z | ⟨n, hn, z⟩)
          · exact Or.inl (Or.inl z)
          · by_cases e : n = i
            · subst e; exact Or.inr z
            · exact Or.inl (Or.inr ⟨n, by omega, z⟩)
  refine go 75 0 rfl c0 I0 L0 (fun n hn => ⟨(if_neg (Nat.not_lt_zero n)).symm, ok0 n hn⟩) (vc_fr_refl _ _) ⟨Or.inl, ?_⟩
  rintro (z | ⟨n, hn, _⟩)
  · exact z
  · exact absurd hn (Nat.not_lt_zero n)
/-- the same, of a loop that counts nothing -/
theorem vc_loop0 {a : Nat} {f : Nat → vt_T → vt_T} {I0 : Nat → Nat → Int32} {L0 : Nat → Nat → Int64} {P : Nat → (Nat → Nat → Int32) → (Nat → Nat → Int64) → Prop} (ok0 : vc_okA I0 L0 a)
    (turn : ∀ i, i < 75 → ∀ I L, vc_fr (vc_th a) I0 L0 I L → vc_T I L (a + 2 + i) = vc_T I0 L0 (a + 2 + i) → vc_ok I L (a + 2 + i) → (∀ I1 L1, vc_T I1 L1 (a + 2 + i) = f i (vc_T I0 L0 (a + 2 + i)) → vc_ok I1 L1 (a + 2 + i) → vc_fr (fun p => p = a + 2 + i) I L I1 L1 → P (i + 1) I1 L1) → P i I L)
    (fin : ∀ I L, (∀ n, n < 75 → vc_T I L (a + 2 + n) = f n (vc_T I0 L0 (a + 2 + n)) ∧ vc_ok I L (a + 2 + n)) → vc_fr (vc_th a) I0 L0 I L → P 75 I L) : P 0 I0 L0 := by
  have no : ∀ p, (vc_th a p ∨ False) → vc_th a p := fun p z => z.elim id False.elim
  classical
  exact vc_loop (rm := fun _ => False) (f := f) (c0 := false) (P := fun i _ I L => P i I L) (fun _ _ z => z) ok0
    (fun i hi c I L fr t o k => turn i hi I L (vc_fr_mono fr no) t o (fun I1 L1 t1 o1 f1 => k I1 L1 (decide (c = true ∨ f i (vc_T I0 L0 (a + 2 + i)) ≠ vc_T I0 L0 (a + 2 + i))) t1 o1 (vc_fr_mono f1 (fun _ z => Or.inl z)) decide_eq_true_iff))
    (fun c I L h fr _ => fin I L h (vc_fr_mono fr no))
/-- cells of a state -/
def vc_in (a p : Nat) : Prop := a ≤ p ∧ p < a + 77
theorem vc_A_eq {I I1 : Nat → Nat → Int32} {L L1 : Nat → Nat → Int64} {a b : Nat} (h : ∀ n, n < 75 → vc_T I1 L1 (a + 2 + n) = vc_T I L (b + 2 + n)) (k : L1 a 1 = L b 1) : vc_A I1 L1 a = vc_A I L b := by
  unfold vc_A
  rw [k]
  refine Prod.ext (funext (fun n => ?_)) rfl
  show (if n < 75 then _ else _) = if n < 75 then _ else _
  by_cases hn : n < 75
  · rw [if_pos hn, if_pos hn]; exact h n hn
  · rw [if_neg hn, if_neg hn]
theorem vc_T_u1 (I : Nat → Nat → Int32) (L : Nat → Nat → Int64) {a o : Nat} (h : o ≠ a) (x : Int64) : vc_T I (jv_u L a 1 x) o = vc_T I L o := by
  unfold vc_T; rw [jv_u_o _ _ _ _ h, vl_S_ext (fun f => jv_u_o _ _ _ _ h)]
theorem vc_ok_u1 (I : Nat → Nat → Int32) (L : Nat → Nat → Int64) {a o : Nat} (h : o ≠ a) (x : Int64) : vc_ok I (jv_u L a 1 x) o ↔ vc_ok I L o := by
  unfold vc_ok; rw [jv_u_o _ _ _ _ h]

theorem jv_i112 : jv_I 112 3 none 2 42 jv_c112 := ⟨rfl, rfl, rfl, rfl, rfl⟩
theorem vc_sbec {K : Nat → Option (Nat × Nat)} {I : Nat → Nat → Int32} {L : Nat → Nat → Int64} {R : Nat → Nat → Value} {a b : Nat} (ha : vc_St K R a) (hb : vc_St K R b) (hd : a + 77 ≤ b ∨ b + 77 ≤ a) (oa : vc_okA I L a) (ob : vc_okA I L b) {n sl : Nat} : ∃ I1 L1, jv_Ms 112 [.ref a, .ref b] (jv_H K I L R) n sl (none, jv_H K I1 L1 R, n, sl) ∧ vc_A I1 L1 a = vc_A I L b ∧ vc_okA I1 L1 a ∧ vc_fr (vc_in a) I L I1 L1 ∧ ∀ f, I1 a f = I a f := by
  obtain ⟨Q, hQ⟩ : ∃ Q : jv_R → Prop, Q = fun X => ∃ I1 L1, X = (none, jv_H K I1 L1 R, n, sl) ∧ vc_A I1 L1 a = vc_A I L b ∧ vc_okA I1 L1 a ∧ vc_fr (vc_in a) I L I1 L1 ∧ ∀ f, I1 a f = I a f := ⟨_, rfl⟩
  suffices h : jv_Wp 112 0 [(0, .ref a), (1, .ref b)] [] (jv_H K I L R) n sl Q by
    rw [hQ] at h
    obtain ⟨X, h, I1, L1, e, h'⟩ := h
    subst e
    exact ⟨I1, L1, h, h'⟩
  refine jv_Wp.lift (fun _ Kz => jv_Ev.steps jv_i112 2 (pc' := 2) (l' := [(2, .int (0 : Int32)), (0, .ref a), (1, .ref b)]) (st' := []) rfl Kz) ?_
  refine jv_Wp.loc (l := [(0, .ref a), (1, .ref b), (2, .int (0 : Int32))]) ⟨List.forall_mem_cons.mpr ⟨.tail _ (.head _), List.forall_mem_cons.mpr ⟨.tail _ (.tail _ (.head _)), List.forall_mem_cons.mpr ⟨.head _, fun _ h => absurd h List.not_mem_nil⟩⟩⟩, by show List.Nodup [2, 0, 1]; decide⟩ ?_
  rw [show (0 : Int32) = vl_I 0 from rfl]
  refine vc_loop0 (a := a) (I0 := I) (L0 := L) (f := fun i _ => vc_T I L (b + 2 + i)) (P := fun i Iz Lz => jv_Wp 112 2 [(0, .ref a), (1, .ref b), (2, .int (vl_I i))] [] (jv_H K Iz Lz R) n sl Q) oa (fun i hi Ia La fr ta okA k => ?_) (fun Ia La ht fr => ?_)
  · skip
    have hnb : ¬ vc_th a (b + 2 + i) := fun z => by unfold vc_th at z; omega
    have okt : vc_ok Ia La (b + 2 + i) := (vc_fr_ok fr hnb).mpr (ob i hi)
    have et : vc_T Ia La (b + 2 + i) = vc_T I L (b + 2 + i) := vc_fr_T fr hnb
    refine jv_Wp.lift (fun _ Kz => jv_Ev.steps jv_i112 2 (pc' := 4) (l' := [(0, .ref a), (1, .ref b), (2, .int (vl_I i))]) (st' := [.ref a, .int (vl_I i)]) rfl Kz) ?_
    refine jv_Wp.lift (fun _ Kz => jv_Ev.m jv_i112 (pc' := 7) (st' := [.ref (a + 1), .int (vl_I i)]) (G' := (jv_H K Ia La R)) rfl rfl (jv_m_getR ha.k rfl rfl ha.r) Kz) ?_
    refine jv_Wp.lift (fun _ Kz => jv_Ev.m jv_i112 (pc' := 8) (st' := [.int (Int32.ofNat 75), .int (vl_I i)]) (G' := (jv_H K Ia La R)) rfl rfl (jv_m_len ha.kt rfl) Kz) ?_
    refine jv_Wp.cnd jv_i112 (pt := 32) (pe := 11) (p := ((Int32.ofNat 75) ≤ (vl_I i))) (q := ((Int32.ofNat 75) ≤ (vl_I i))) rfl jv_bc_ge rfl rfl Iff.rfl (fun h1 => ?_) (fun h1 => ?_)
    · exact absurd ((vl_I_le (by decide) (by omega)).mp h1) (by omega)
    · refine jv_Wp.lift (fun _ Kz => jv_Ev.steps jv_i112 1 (pc' := 12) (l' := [(0, .ref a), (1, .ref b), (2, .int (vl_I i))]) (st' := [.ref a]) rfl Kz) ?_
      refine jv_Wp.lift (fun _ Kz => jv_Ev.m jv_i112 (pc' := 15) (st' := [.ref (a + 1)]) (G' := (jv_H K Ia La R)) rfl rfl (jv_m_getR ha.k rfl rfl ha.r) Kz) ?_
      refine jv_Wp.lift (fun _ Kz => jv_Ev.steps jv_i112 1 (pc' := 16) (l' := [(0, .ref a), (1, .ref b), (2, .int (vl_I i))]) (st' := [.int (vl_I i), .ref (a + 1)]) rfl Kz) ?_
      refine jv_Wp.lift (fun _ Kz => jv_Ev.m jv_i112 (pc' := 17) (st' := [.ref (a + 2 + i)]) (G' := (jv_H K Ia La R)) rfl rfl (jv_m_aaldR ha.kt rfl (vl_I_ix hi (by decide)) rfl (vc_St_rt ha hi)) Kz) ?_
      refine jv_Wp.lift (fun _ Kz => jv_Ev.steps jv_i112 1 (pc' := 18) (l' := [(0, .ref a), (1, .ref b), (2, .int (vl_I i))]) (st' := [.ref b, .ref (a + 2 + i)]) rfl Kz) ?_
      refine jv_Wp.lift (fun _ Kz => jv_Ev.m jv_i112 (pc' := 21) (st' := [.ref (b + 1), .ref (a + 2 + i)]) (G' := (jv_H K Ia La R)) rfl rfl (jv_m_getR hb.k rfl rfl hb.r) Kz) ?_
      refine jv_Wp.lift (fun _ Kz => jv_Ev.steps jv_i112 1 (pc' := 22) (l' := [(0, .ref a), (1, .ref b), (2, .int (vl_I i))]) (st' := [.int (vl_I i), .ref (b + 1), .ref (a + 2 + i)]) rfl Kz) ?_
      refine jv_Wp.lift (fun _ Kz => jv_Ev.m jv_i112 (pc' := 23) (st' := [.ref (b + 2 + i), .ref (a + 2 + i)]) (G' := (jv_H K Ia La R)) rfl rfl (jv_m_aaldR hb.kt rfl (vl_I_ix hi (by decide)) rfl (vc_St_rt hb hi)) Kz) ?_
      obtain ⟨I1, L1, H1, T1, O1, F1⟩ := vc_becT (I := Ia) (L := La) (R := R) (n := n) (sl := sl) (ha.kk i hi) (hb.kk i hi) okt
      refine jv_Wp.lift (fun _ Kz => jv_Ev.c jv_i112 (pc' := 26) (S' := []) (G1 := (jv_H K I1 L1 R)) jv_i144 [.ref (a + 2 + i), .ref (b + 2 + i)] rfl rfl rfl rfl (jv_cal rfl (jv_H_at (ha.kk i hi)) rfl rfl) rfl H1 rfl rfl Kz) ?_
      refine jv_Wp.lift (fun _ Kz => jv_Ev.steps jv_i112 2 (pc' := 2) (l' := [(2, .int ((vl_I i) + Int32.ofInt 1)), (0, .ref a), (1, .ref b)]) (st' := []) rfl Kz) ?_
      refine jv_Wp.loc (l := [(0, .ref a), (1, .ref b), (2, .int ((vl_I i) + Int32.ofInt 1))]) ⟨List.forall_mem_cons.mpr ⟨.tail _ (.head _), List.forall_mem_cons.mpr ⟨.tail _ (.tail _ (.head _)), List.forall_mem_cons.mpr ⟨.head _, fun _ h => absurd h List.not_mem_nil⟩⟩⟩, by show List.Nodup [2, 0, 1]; decide⟩ ?_
      rw [show vl_I i + Int32.ofInt 1 = vl_I (i + 1) from vl_I_add i 1]
      exact k I1 L1 (T1.trans et) O1 F1
  · skip
    refine jv_Wp.lift (fun _ Kz => jv_Ev.steps jv_i112 2 (pc' := 4) (l' := [(0, .ref a), (1, .ref b), (2, .int (vl_I 75))]) (st' := [.ref a, .int (vl_I 75)]) rfl Kz) ?_
    refine jv_Wp.lift (fun _ Kz => jv_Ev.m jv_i112 (pc' := 7) (st' := [.ref (a + 1), .int (vl_I 75)]) (G' := (jv_H K Ia La R)) rfl rfl (jv_m_getR ha.k rfl rfl ha.r) Kz) ?_
    refine jv_Wp.lift (fun _ Kz => jv_Ev.m jv_i112 (pc' := 8) (st' := [.int (Int32.ofNat 75), .int (vl_I 75)]) (G' := (jv_H K Ia La R)) rfl rfl (jv_m_len ha.kt rfl) Kz) ?_
    refine jv_Wp.cnd jv_i112 (pt := 32) (pe := 11) (p := ((Int32.ofNat 75) ≤ (vl_I 75))) (q := ((Int32.ofNat 75) ≤ (vl_I 75))) rfl jv_bc_ge rfl rfl Iff.rfl (fun _ => ?_) (fun hz => absurd (Int32.le_refl _) hz)
    refine jv_Wp.lift (fun _ Kz => jv_Ev.steps jv_i112 2 (pc' := 34) (l' := [(0, .ref a), (1, .ref b), (2, .int (vl_I 75))]) (st' := [.ref b, .ref a]) rfl Kz) ?_
    refine jv_Wp.lift (fun _ Kz => jv_Ev.m jv_i112 (pc' := 37) (st' := [.long (La b 1), .ref a]) (G' := (jv_H K Ia La R)) rfl rfl (jv_m_getL hb.k rfl rfl rfl) Kz) ?_
    refine jv_Wp.lift (fun _ Kz => jv_Ev.m jv_i112 (pc' := 40) (st' := []) (G' := (jv_H K Ia (jv_u La a 1 (La b 1)) R)) rfl rfl (jv_m_putL ha.k rfl rfl rfl rfl) Kz) ?_
    refine jv_Wp.of (jv_Ev.ret jv_i112 rfl rfl) ?_
    rw [hQ]
    refine ⟨_, _, rfl, vc_A_eq (fun n hn => (vc_T_u1 _ _ (by omega) _).trans (ht n hn).1) ((jv_u_self _ _ _ _).trans ((fr b (fun z => by unfold vc_th at z; omega)).2 1)), fun n hn => (vc_ok_u1 _ _ (by omega) _).mpr (ht n hn).2, fun p hp => ⟨fun f => (fr p (fun z => hp (by unfold vc_th at z; exact ⟨by omega, by omega⟩))).1 f, fun f => (jv_u_o _ _ _ _ (fun z => hp (by rw [z]; exact ⟨by omega, by omega⟩))).trans ((fr p (fun z => hp (by unfold vc_th at z; exact ⟨by omega, by omega⟩))).2 f)⟩, fun f => (fr a (fun z => by unfold vc_th at z; omega)).1 f⟩