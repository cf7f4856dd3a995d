/-! part c04: states of the reference: copied, met (gen/tc04.py) -/
/-- things of state j -/
def vr_th (j x : Nat) : Prop := 75 * j ≤ x ∧ x < 75 * j + 75
theorem vr_loop {j : Nat} {f : Nat → vt_T → vt_T} {d : Nat → Prop} {I0 : Nat → Nat → Int32} {L0 : Nat → Nat → Int64} {c0 : Bool} {P : Nat → Bool → (Nat → Nat → Int32) → (Nat → Nat → Int64) → Prop} (hf : vr_fl I0)
    (turn : ∀ i, i < 75 → ∀ c I L, vr_fr (vr_th j) noE I0 L0 I L → vr_T I L (75 * j + i) = vr_T I0 L0 (75 * j + i) → (vr_okA I0 j → vr_ok I (75 * j + i) i) → (∀ I1 L1 c1, vr_T I1 L1 (75 * j + i) = f i (vr_T I0 L0 (75 * j + i)) → vr_ok I1 (75 * j + i) i → vr_fr (fun x => x = 75 * j + i) noE I L I1 L1 → (c1 = true ↔ c = true ∨ d i) → P (i + 1) c1 I1 L1) → P i c I L)
    (fin : ∀ c I L, (∀ n, n < 75 → vr_T I L (75 * j + n) = f n (vr_T I0 L0 (75 * j + n)) ∧ vr_ok I (75 * j + n) n) → vr_fr (vr_th j) noE I0 L0 I L → (c = true ↔ c0 = true ∨ ∃ n, n < 75 ∧ d n) → P 75 c I L) : P 0 c0 I0 L0 := by
  have go : ∀ e i, i + e = 75 → ∀ c I L, (∀ n, n < i → vr_T I L (75 * j + n) = f n (vr_T I0 L0 (75 * j + n)) ∧ vr_ok I (75 * j + n) n) → (∀ n, i ≤ n → n < 75 → vr_T I L (75 * j + n) = vr_T I0 L0 (75 * j + n) ∧ (vr_okA I0 j → vr_ok I (75 * j + n) n)) → vr_fr (vr_th j) noE I0 L0 I L → (c = true ↔ c0 = true ∨ ∃ n, n < i ∧ d n) → P i c I L := by
    intro e
    induction e with
    | zero =>
      intro i hi c I L h1 h2 h3 h4
      have e : i = 75 := by omega
      subst e
      exact fin c I L h1 h3 h4
    | succ e ih =>
      intro i hi c I L h1 h2 h3 h4
      obtain ⟨g1, g2⟩ := h2 i (Nat.le_refl _) (by omega)
      refine turn i (by omega) c I L h3 g1 g2 (fun I1 L1 c1 t1 o1 f1 e1 => ih (i + 1) (by omega) c1 I1 L1 (fun n hn => ?_) (fun n hn hn2 => ?_) ?_ ?_)
      · by_cases q : n = i
        · subst q; exact ⟨t1, o1⟩
        · exact ⟨(vr_fr_T f1 (by omega)).trans (h1 n (by omega)).1, (vr_fr_ok f1 (by omega)).mpr (h1 n (by omega)).2⟩
      · obtain ⟨a1, a2⟩ := h2 n (by omega) hn2
        exact ⟨(vr_fr_T f1 (by omega)).trans a1, fun z => (vr_fr_ok f1 (by omega)).mpr (a2 z)⟩
      · exact vr_fr_trans h3 (vr_fr_P f1 (fun x z => ⟨by omega, by omega⟩))
      · rw [e1, h4]
        constructor
        · rintro ((z | ⟨n, hn, z⟩) | z)
          · exact Or.inl z
          · exact Or.inr ⟨n, by omega, z⟩
          · exact Or.inr ⟨i, by omega, z⟩
        · rintro (z | ⟨n, hn, z⟩)
          · exact Or.inl (Or.inl z)
          · by_cases e : n = i
            · subst e; exact Or.inr z
            · exact Or.inl (Or.inr ⟨n, by omega, z⟩)
  refine go 75 0 rfl c0 I0 L0 (fun n hn => absurd hn (Nat.not_lt_zero n)) (fun n _ hn => ⟨rfl, fun z => z n hn⟩) (vr_fr_refl hf) ⟨Or.inl, ?_⟩
  rintro (z | ⟨n, hn, _⟩)
  · exact z
  · exact absurd hn (Nat.not_lt_zero n)
theorem vr_loop0 {j : Nat} {f : Nat → vt_T → vt_T} {I0 : Nat → Nat → Int32} {L0 : Nat → Nat → Int64} {P : Nat → (Nat → Nat → Int32) → (Nat → Nat → Int64) → Prop} (hf : vr_fl I0)
    (turn : ∀ i, i < 75 → ∀ I L, vr_fr (vr_th j) noE I0 L0 I L → vr_T I L (75 * j + i) = vr_T I0 L0 (75 * j + i) → (vr_okA I0 j → vr_ok I (75 * j + i) i) → (∀ I1 L1, vr_T I1 L1 (75 * j + i) = f i (vr_T I0 L0 (75 * j + i)) → vr_ok I1 (75 * j + i) i → vr_fr (fun x => x = 75 * j + i) noE I L I1 L1 → P (i + 1) I1 L1) → P i I L)
    (fin : ∀ I L, (∀ n, n < 75 → vr_T I L (75 * j + n) = f n (vr_T I0 L0 (75 * j + n)) ∧ vr_ok I (75 * j + n) n) → vr_fr (vr_th j) noE I0 L0 I L → P 75 I L) : P 0 I0 L0 :=
  vr_loop (d := fun _ => False) (c0 := false) (P := fun i _ I L => P i I L) hf (fun i hi c I L h1 h2 h3 k => turn i hi I L h1 h2 h3 (fun I1 L1 a b e => k I1 L1 c a b e ⟨Or.inl, fun z => z.elim id False.elim⟩)) (fun _ I L a b _ => fin I L a b)
theorem vi_and1 (b : Bool) : vr_b b &&& (1 : Int32) = vr_b b := by cases b <;> rfl
theorem vr_okW {I I1 : Nat → Nat → Int32} {x y n : Nat} (h5 : I1 205 y = I 205 x) (h6 : I1 206 y = I 206 x) (h7 : I1 207 y = I 207 x) (o : vr_ok I x n) : vr_ok I1 y n := by unfold vr_ok; rw [h5, h6, h7]; exact o
theorem jv_i276 : jv_I 276 4 none 2 46 jv_c276 := ⟨rfl, rfl, rfl, rfl, rfl⟩
theorem vq_copyState {K : Nat → Option (Nat × Nat)} {I : Nat → Nat → Int32} {L : Nat → Nat → Int64} {R : Nat → Nat → Value} (k j : Nat) (h : Bool) (hW : jv_rW K R) (hf : vr_fl I) (hk : k < 1028) (hj : j < 1028) (hkj : k ≠ j) (ok : vr_okA I k) (hh : I 202 k = vr_b h) {n sl : Nat} : ∃ I1 L1, jv_Ms 276 [.ref 196, .int (vl_I k), .int (vl_I j)] (jv_H K I L R) n sl (none, jv_H K I1 L1 R, n, sl) ∧ vr_A I1 L1 j = vr_A I L k ∧ vr_okA I1 j ∧ I1 202 j = vr_b h ∧ vr_fr (vr_th j) (fun q f => (q = 202 ∨ q = 203) ∧ f = j) I L I1 L1 := by
  obtain ⟨Q, hQ⟩ : ∃ Q : jv_R → Prop, Q = fun X => ∃ I1 L1, X = (none, jv_H K I1 L1 R, n, sl) ∧ vr_A I1 L1 j = vr_A I L k ∧ vr_okA I1 j ∧ I1 202 j = vr_b h ∧ vr_fr (vr_th j) (fun q f => (q = 202 ∨ q = 203) ∧ f = j) I L I1 L1 := ⟨_, rfl⟩
  suffices h : jv_Wp 276 0 [(0, .ref 196), (1, .int (vl_I k)), (2, .int (vl_I j))] [] (jv_H K I L R) n sl Q by
    rw [hQ] at h
    obtain ⟨X, h, I1, L1, e, h'⟩ := h
    subst e
    exact ⟨I1, L1, h, h'⟩
  have hfu : vr_fl (jv_u (jv_u I 202 j ((I 202 k) &&& 1)) 203 j (I 203 k)) := fun q hq => (jv_u_o _ _ _ _ (by decide)).trans ((jv_u_o _ _ _ _ (by decide)).trans (hf q hq))
  have Tk : ∀ i, i < 75 → vr_T (jv_u (jv_u I 202 j ((I 202 k) &&& 1)) 203 j (I 203 k)) L (75 * k + i) = vr_T I L (75 * k + i) := fun i hi => vr_T_eq (jv_u_o _ _ _ _ (by decide) |>.trans (jv_u_o _ _ _ _ (by decide))) (jv_u_o _ _ _ _ (by decide) |>.trans (jv_u_o _ _ _ _ (by decide))) (jv_u_o _ _ _ _ (by decide) |>.trans (jv_u_o _ _ _ _ (by decide))) rfl
  have ok0 : ∀ i, i < 75 → vr_ok (jv_u (jv_u I 202 j ((I 202 k) &&& 1)) 203 j (I 203 k)) (75 * k + i) i := fun i hi => vr_okW (jv_u_o _ _ _ _ (by decide) |>.trans (jv_u_o _ _ _ _ (by decide))) (jv_u_o _ _ _ _ (by decide) |>.trans (jv_u_o _ _ _ _ (by decide))) (jv_u_o _ _ _ _ (by decide) |>.trans (jv_u_o _ _ _ _ (by decide))) (ok i hi)
  refine jv_Wp.lift (fun _ Kz => jv_Ev.steps jv_i276 1 (pc' := 1) (l' := [(0, .ref 196), (1, .int (vl_I k)), (2, .int (vl_I j))]) (st' := [.ref 196]) rfl Kz) ?_
  refine jv_Wp.lift (fun _ Kz => jv_Ev.m jv_i276 (pc' := 4) (st' := [.ref 202]) (G' := (jv_H K I L R)) rfl rfl (jv_m_getR (jv_rwK hW 196 12 24 (by decide)) rfl rfl (jv_rwR hW 196 10 202 (by decide))) Kz) ?_
  refine jv_Wp.lift (fun _ Kz => jv_Ev.steps jv_i276 2 (pc' := 6) (l' := [(0, .ref 196), (1, .int (vl_I k)), (2, .int (vl_I j))]) (st' := [.ref 196, .int (vl_I j), .ref 202]) rfl Kz) ?_
  refine jv_Wp.lift (fun _ Kz => jv_Ev.m jv_i276 (pc' := 9) (st' := [.ref 202, .int (vl_I j), .ref 202]) (G' := (jv_H K I L R)) rfl rfl (jv_m_getR (jv_rwK hW 196 12 24 (by decide)) rfl rfl (jv_rwR hW 196 10 202 (by decide))) Kz) ?_
  refine jv_Wp.lift (fun _ Kz => jv_Ev.steps jv_i276 1 (pc' := 10) (l' := [(0, .ref 196), (1, .int (vl_I k)), (2, .int (vl_I j))]) (st' := [.int (vl_I k), .ref 202, .int (vl_I j), .ref 202]) rfl Kz) ?_
  refine jv_Wp.lift (fun _ Kz => jv_Ev.m jv_i276 (pc' := 11) (st' := [.int (I 202 k), .int (vl_I j), .ref 202]) (G' := (jv_H K I L R)) rfl rfl (jv_m_baldv (jv_rwK hW 202 100 1028 (by decide)) rfl (vl_I_ix (by omega) (by decide)) rfl ((congrArg (I 202) (vl_I_nat (by omega))).trans rfl)) Kz) ?_
  refine jv_Wp.lift (fun _ Kz => jv_Ev.m jv_i276 (pc' := 12) (st' := []) (G' := (jv_H K (jv_u I 202 j ((I 202 k) &&& 1)) L R)) rfl rfl (by rw [jv_m_zast (jv_rwK hW 202 100 1028 (by decide)) (vl_I_ix (by omega) (by decide)), (vl_I_nat (by omega))]) Kz) ?_
  refine jv_Wp.lift (fun _ Kz => jv_Ev.steps jv_i276 1 (pc' := 13) (l' := [(0, .ref 196), (1, .int (vl_I k)), (2, .int (vl_I j))]) (st' := [.ref 196]) rfl Kz) ?_
  refine jv_Wp.lift (fun _ Kz => jv_Ev.m jv_i276 (pc' := 16) (st' := [.ref 203]) (G' := (jv_H K (jv_u I 202 j ((I 202 k) &&& 1)) L R)) rfl rfl (jv_m_getR (jv_rwK hW 196 12 24 (by decide)) rfl rfl (jv_rwR hW 196 11 203 (by decide))) Kz) ?_
  refine jv_Wp.lift (fun _ Kz => jv_Ev.steps jv_i276 2 (pc' := 18) (l' := [(0, .ref 196), (1, .int (vl_I k)), (2, .int (vl_I j))]) (st' := [.ref 196, .int (vl_I j), .ref 203]) rfl Kz) ?_
  refine jv_Wp.lift (fun _ Kz => jv_Ev.m jv_i276 (pc' := 21) (st' := [.ref 203, .int (vl_I j), .ref 203]) (G' := (jv_H K (jv_u I 202 j ((I 202 k) &&& 1)) L R)) rfl rfl (jv_m_getR (jv_rwK hW 196 12 24 (by decide)) rfl rfl (jv_rwR hW 196 11 203 (by decide))) Kz) ?_
  refine jv_Wp.lift (fun _ Kz => jv_Ev.steps jv_i276 1 (pc' := 22) (l' := [(0, .ref 196), (1, .int (vl_I k)), (2, .int (vl_I j))]) (st' := [.int (vl_I k), .ref 203, .int (vl_I j), .ref 203]) rfl Kz) ?_
  refine jv_Wp.lift (fun _ Kz => jv_Ev.m jv_i276 (pc' := 23) (st' := [.int (I 203 k), .int (vl_I j), .ref 203]) (G' := (jv_H K (jv_u I 202 j ((I 202 k) &&& 1)) L R)) rfl rfl (jv_m_ialdv (jv_rwK hW 203 102 1028 (by decide)) rfl (vl_I_ix (by omega) (by decide)) rfl ((congrArg ((jv_u I 202 j ((I 202 k) &&& 1)) 203) (vl_I_nat (by omega))).trans (jv_u_o _ _ _ _ (by decide)))) Kz) ?_
  refine jv_Wp.lift (fun _ Kz => jv_Ev.m jv_i276 (pc' := 24) (st' := []) (G' := (jv_H K (jv_u (jv_u I 202 j ((I 202 k) &&& 1)) 203 j (I 203 k)) L R)) rfl rfl (by rw [jv_m_iast (jv_rwK hW 203 102 1028 (by decide)) (vl_I_ix (by omega) (by decide)), (vl_I_nat (by omega))]) Kz) ?_
  refine jv_Wp.lift (fun _ Kz => jv_Ev.steps jv_i276 2 (pc' := 26) (l' := [(3, .int (0 : Int32)), (0, .ref 196), (1, .int (vl_I k)), (2, .int (vl_I j))]) (st' := []) rfl Kz) ?_
  refine jv_Wp.loc (l := [(0, .ref 196), (1, .int (vl_I k)), (2, .int (vl_I j)), (3, .int (0 : Int32))]) ⟨List.forall_mem_cons.mpr ⟨.tail _ (.head _), List.forall_mem_cons.mpr ⟨.tail _ (.tail _ (.head _)), List.forall_mem_cons.mpr ⟨.tail _ (.tail _ (.tail _ (.head _))), List.forall_mem_cons.mpr ⟨.head _, fun _ h => absurd h List.not_mem_nil⟩⟩⟩⟩, by show List.Nodup [3, 0, 1, 2]; decide⟩ ?_
  rw [show (0 : Int32) = vl_I 0 from rfl]
  refine vr_loop0 (j := j) (I0 := (jv_u (jv_u I 202 j ((I 202 k) &&& 1)) 203 j (I 203 k))) (L0 := L) (f := fun i _ => vr_T I L (75 * k + i)) (P := fun i Iz Lz => jv_Wp 276 26 [(0, .ref 196), (1, .int (vl_I k)), (2, .int (vl_I j)), (3, .int (vl_I i))] [] (jv_H K Iz Lz R) n sl Q) hfu (fun i hi Ia La fr ta okA k0 => ?_) (fun Ia La ht fr => ?_)
  · have Za := vr_fl_of fr
    refine jv_Wp.lift (fun _ Kz => jv_Ev.steps jv_i276 2 (pc' := 29) (l' := [(0, .ref 196), (1, .int (vl_I k)), (2, .int (vl_I j)), (3, .int (vl_I i))]) (st' := [.int (75 : Int32), .int (vl_I i)]) rfl Kz) ?_
    refine jv_Wp.cnd jv_i276 (pt := 46) (pe := 32) (p := ((75 : Int32) ≤ (vl_I i))) (q := ((75 : Int32) ≤ (vl_I i))) rfl jv_bc_ge rfl rfl Iff.rfl (fun h1 => ?_) (fun h1 => ?_)
    · exact absurd ((vl_I_le (a := 75) (by decide) (by omega)).mp h1) (by omega)
    · refine jv_Wp.lift (fun _ Kz => jv_Ev.steps jv_i276 5 (pc' := 37) (l' := [(0, .ref 196), (1, .int (vl_I k)), (2, .int (vl_I j)), (3, .int (vl_I i))]) (st' := [.int (vl_I i), .int (vl_I j), .int (vl_I i), .int (vl_I k), .ref 196]) rfl Kz) ?_
      obtain ⟨I1, L1, H1, A1, B1, C1, S1, F1⟩ := vq_copyThing (I := Ia) (L := La) (R := R) (n := n) (sl := sl) k i j i hW Za (by omega) (by omega)
      have Z1 := vr_fl_of F1
      refine jv_Wp.lift (fun _ Kz => jv_Ev.c jv_i276 (pc' := 40) (S' := []) (G1 := (jv_H K I1 L1 R)) jv_i275 [.ref 196, .int (vl_I k), .int (vl_I i), .int (vl_I j), .int (vl_I i)] rfl rfl rfl rfl (jv_cal rfl (jv_H_at (jv_rwK hW 196 12 24 (by decide))) rfl rfl) rfl H1 rfl rfl Kz) ?_
      refine jv_Wp.lift (fun _ Kz => jv_Ev.steps jv_i276 2 (pc' := 26) (l' := [(3, .int ((vl_I i) + Int32.ofInt 1)), (0, .ref 196), (1, .int (vl_I k)), (2, .int (vl_I j))]) (st' := []) rfl Kz) ?_
      refine jv_Wp.loc (l := [(0, .ref 196), (1, .int (vl_I k)), (2, .int (vl_I j)), (3, .int ((vl_I i) + Int32.ofInt 1))]) ⟨List.forall_mem_cons.mpr ⟨.tail _ (.head _), List.forall_mem_cons.mpr ⟨.tail _ (.tail _ (.head _)), List.forall_mem_cons.mpr ⟨.tail _ (.tail _ (.tail _ (.head _))), List.forall_mem_cons.mpr ⟨.head _, fun _ h => absurd h List.not_mem_nil⟩⟩⟩⟩, by show List.Nodup [3, 0, 1, 2]; decide⟩ ?_
      rw [show vl_I i + Int32.ofInt 1 = vl_I (i + 1) from vl_I_add i 1]
      exact k0 I1 L1 ((vr_T_eq A1 B1 C1 S1).trans ((vr_fr_T fr (x := 75 * k + i) (by unfold vr_th; omega)).trans (Tk i hi))) (vr_okW A1 B1 C1 ((vr_fr_ok fr (by unfold vr_th; omega)).mpr (ok0 i hi))) F1
  · skip
    refine jv_Wp.lift (fun _ Kz => jv_Ev.steps jv_i276 2 (pc' := 29) (l' := [(0, .ref 196), (1, .int (vl_I k)), (2, .int (vl_I j)), (3, .int (vl_I 75))]) (st' := [.int (75 : Int32), .int (vl_I 75)]) rfl Kz) ?_
    refine jv_Wp.cnd jv_i276 (pt := 46) (pe := 32) (p := ((75 : Int32) ≤ (vl_I 75))) (q := ((75 : Int32) ≤ (vl_I 75))) rfl jv_bc_ge rfl rfl Iff.rfl (fun _ => ?_) (fun hz => absurd (Int32.le_refl _) hz)
    refine jv_Wp.of (jv_Ev.ret jv_i276 rfl rfl) ?_
    rw [hQ]
    have u0 : ∀ q f, ¬ ((q = 202 ∨ q = 203) ∧ f = j) → (jv_u (jv_u I 202 j ((I 202 k) &&& 1)) 203 j (I 203 k)) q f = I q f := fun q f z => by
      have t : ∀ o, o = 202 ∨ o = 203 → ∀ (J : Nat → Nat → Int32) (w : Int32), jv_u J o j w q f = J q f := fun o ho J w => by
        by_cases e : q = o
        · rw [e]; exact jv_u_j _ _ _ _ (fun y => z ⟨by omega, y⟩)
        · exact jv_u_o _ _ _ _ e
      exact (t 203 (Or.inr rfl) _ _).trans (t 202 (Or.inl rfl) _ _)
    have e3 : Ia 203 j = I 203 k := (vr_fr_c fr (by decide) (by decide)).trans (jv_u_self _ _ _ _)
    have e2 : Ia 202 j = vr_b h := (vr_fr_c fr (by decide) (by decide)).trans ((jv_u_o _ _ _ _ (by decide)).trans ((jv_u_self _ _ _ _).trans (by rw [hh]; exact vi_and1 h)))
    refine ⟨_, _, rfl, ?_, fun n hn => (ht n hn).2, e2, fr.1, fun q f a b c => (fr.2.1 q f a b (fun z => z.2)).trans (u0 q f (fun z => c ⟨by omega, z⟩)), fr.2.2⟩
    refine Prod.ext (funext (fun n => ?_)) (congrArg Int32.toInt e3)
    show (if n < 75 then _ else _) = if n < 75 then _ else _
    by_cases hn : n < 75
    · rw [if_pos hn, if_pos hn]; exact (ht n hn).1
    · rw [if_neg hn, if_neg hn]