/-! part c08: a state of the reference goes to a place, as the passes have it (gen/tc08.py) -/
/-- the states of the reference, place by place -/
def vr_ST (I : Nat → Nat → Int32) (L : Nat → Nat → Int64) (st : vz_S) : Prop := ∀ p, p < 1024 → I 202 p = vr_b (st.1 p).isSome ∧ ∀ A, st.1 p = some A → vr_A I L p = A ∧ vr_okA I p ∧ I 204 p = vl_I (st.2 p) ∧ vt_okA A
theorem vr_ST_fr {P : Nat → Prop} {E : Nat → Nat → Prop} {I I1 : Nat → Nat → Int32} {L L1 : Nat → Nat → Int64} {st : vz_S} (fr : vr_fr P E I L I1 L1) (hP : ∀ p, p < 1024 → ∀ x, vr_th p x → ¬ P x) (hE : ∀ p q, p < 1024 → 202 ≤ q → q ≤ 204 → ¬ E q p) (h : vr_ST I L st) : vr_ST I1 L1 st := fun p hp => by
  obtain ⟨h1, h2⟩ := h p hp
  have c : ∀ q, 202 ≤ q → q ≤ 204 → I1 q p = I q p := fun q a b => fr.2.1 q p (fun z => by omega) (by omega) (fun z => hE p q hp a b z.2)
  refine ⟨(c 202 (by decide) (by decide)).trans h1, fun A hA => ?_⟩
  obtain ⟨a1, a2, a3, a4⟩ := h2 A hA
  have nP : ∀ n, n < 75 → ¬ P (75 * p + n) := fun n hn => hP p hp _ ⟨by omega, by omega⟩
  refine ⟨?_, vr_fr_okA fr nP a2, (c 204 (by decide) (by decide)).trans a3, a4⟩
  rw [← a1]
  refine Prod.ext (funext (fun n => ?_)) (congrArg Int32.toInt (c 203 (by decide) (by decide)))
  show (if n < 75 then _ else _) = if n < 75 then _ else _
  by_cases hn : n < 75
  · rw [if_pos hn, if_pos hn]; exact vr_fr_T fr (nP n hn)
  · rw [if_neg hn, if_neg hn]
theorem vr_ST_up {P : Nat → Prop} {E : Nat → Nat → Prop} {I I1 : Nat → Nat → Int32} {L L1 : Nat → Nat → Int64} {st st' : vz_S} {q : Nat} (h : vr_ST I L st) (fr : vr_fr P E I L I1 L1) (hP : ∀ p, p < 1024 → p ≠ q → ∀ x, vr_th p x → ¬ P x) (hE : ∀ p r, p < 1024 → p ≠ q → 202 ≤ r → r ≤ 204 → ¬ E r p)
    (h3 : I1 202 q = vr_b (st'.1 q).isSome) (hA : ∀ A, st'.1 q = some A → vr_A I1 L1 q = A ∧ vr_okA I1 q ∧ I1 204 q = vl_I (st'.2 q) ∧ vt_okA A) (e1 : ∀ p, p ≠ q → st'.1 p = st.1 p) (e2 : ∀ p, p ≠ q → st'.2 p = st.2 p) : vr_ST I1 L1 st' := fun p hp => by
  by_cases c : p = q
  · subst c; exact ⟨h3, hA⟩
  · have fr' : vr_fr (fun x => P x ∧ ¬ vr_th p x) (fun r f => E r f ∧ f ≠ p) I L I1 L1 → False → False := fun _ z => z
    obtain ⟨h1, h2⟩ := h p hp
    have k : ∀ r, 202 ≤ r → r ≤ 204 → I1 r p = I r p := fun r a b => fr.2.1 r p (fun z => by omega) (by omega) (fun z => hE p r hp c a b z.2)
    have nP : ∀ n, n < 75 → ¬ P (75 * p + n) := fun n hn => hP p hp c _ ⟨by omega, by omega⟩
    rw [e1 p c, e2 p c]
    refine ⟨(k 202 (by decide) (by decide)).trans h1, fun A hA => ?_⟩
    obtain ⟨a1, a2, a3, a4⟩ := h2 A hA
    refine ⟨?_, vr_fr_okA fr nP a2, (k 204 (by decide) (by decide)).trans a3, a4⟩
    rw [← a1]
    refine Prod.ext (funext (fun n => ?_)) (congrArg Int32.toInt (k 203 (by decide) (by decide)))
    show (if n < 75 then _ else _) = if n < 75 then _ else _
    by_cases hn : n < 75
    · rw [if_pos hn, if_pos hn]; exact vr_fr_T fr (nP n hn)
    · rw [if_neg hn, if_neg hn]
theorem vq_goA {K : Nat → Option (Nat × Nat)} {I : Nat → Nat → Int32} {L : Nat → Nat → Int64} {R : Nat → Nat → Value} (b q : Nat) (h : Bool) (hW : jv_rW K R) (hf : vr_fl I) (hb : b < 1028) (hq : q < 1024) (hbq : b ≠ q) (ob : vr_okA I b) (hhb : I 202 b = vr_b h) (h2z : I 202 q = 0) {n sl : Nat} : ∃ I1 L1, jv_Ms 281 [.ref 196, .int (vl_I b), .int (vl_I q)] (jv_H K I L R) n sl (none, jv_H K I1 L1 R, n, sl) ∧ vr_A I1 L1 q = vr_A I L b ∧ vr_okA I1 q ∧ I1 202 q = 1 ∧ I1 204 q = 0 ∧ I1 196 17 = 1 ∧ vr_fr (fun x => vr_th q x ∨ vr_th 1026 x) (fun r f => ((r = 202 ∨ r = 203 ∨ r = 204) ∧ (f = q ∨ f = 1026)) ∨ (r = 196 ∧ f = 17)) I L I1 L1 := by
  obtain ⟨Q, hQ⟩ : ∃ Q : jv_R → Prop, Q = fun X => ∃ I1 L1, X = (none, jv_H K I1 L1 R, n, sl) ∧ vr_A I1 L1 q = vr_A I L b ∧ vr_okA I1 q ∧ I1 202 q = 1 ∧ I1 204 q = 0 ∧ I1 196 17 = 1 ∧ vr_fr (fun x => vr_th q x ∨ vr_th 1026 x) (fun r f => ((r = 202 ∨ r = 203 ∨ r = 204) ∧ (f = q ∨ f = 1026)) ∨ (r = 196 ∧ f = 17)) I L I1 L1 := ⟨_, rfl⟩
  suffices h : jv_Wp 281 0 [(0, .ref 196), (1, .int (vl_I b)), (2, .int (vl_I q))] [] (jv_H K I L R) n sl Q by
    rw [hQ] at h
    obtain ⟨X, h, I1, L1, e, h'⟩ := h
    subst e
    exact ⟨I1, L1, h, h'⟩
  refine jv_Wp.lift (fun _ Kz => jv_Ev.steps jv_i281 1 (pc' := 1) (l' := [(0, .ref 196), (1, .int (vl_I b)), (2, .int (vl_I q))]) (st' := [.ref 196]) rfl Kz) ?_
  refine jv_Wp.lift (fun _ Kz => jv_Ev.m jv_i281 (pc' := 4) (st' := [.ref 202]) (G' := (jv_H K I L R)) rfl rfl (jv_m_getR (jv_rwK hW 196 12 24 (by decide)) rfl rfl (jv_rwR hW 196 10 202 (by decide))) Kz) ?_
  refine jv_Wp.lift (fun _ Kz => jv_Ev.steps jv_i281 1 (pc' := 5) (l' := [(0, .ref 196), (1, .int (vl_I b)), (2, .int (vl_I q))]) (st' := [.int (vl_I q), .ref 202]) rfl Kz) ?_
  refine jv_Wp.lift (fun _ Kz => jv_Ev.m jv_i281 (pc' := 6) (st' := [.int (I 202 q)]) (G' := (jv_H K I L R)) rfl rfl (jv_m_baldv (jv_rwK hW 202 100 1028 (by decide)) rfl (vl_I_ix (by omega) (by decide)) rfl ((congrArg (I 202) (vl_I_nat (by omega))).trans rfl)) Kz) ?_
  refine jv_Wp.cnd jv_i281 (pt := 35) (pe := 9) (p := (¬ (I 202 q) = 0)) (q := (¬ (I 202 q) = 0)) rfl jv_bi_ne rfl rfl Iff.rfl (fun hz => absurd hz (fun z => z h2z)) (fun _ => ?_)
  refine jv_Wp.lift (fun _ Kz => jv_Ev.steps jv_i281 3 (pc' := 12) (l' := [(0, .ref 196), (1, .int (vl_I b)), (2, .int (vl_I q))]) (st' := [.int (vl_I q), .int (vl_I b), .ref 196]) rfl Kz) ?_
  obtain ⟨I1, L1, H1, T1, O1, B1, F1⟩ := vq_copyState (I := I) (L := L) (R := R) (n := n) (sl := sl) b q h hW hf (by omega) (by omega) hbq ob hhb
  refine jv_Wp.lift (fun _ Kz => jv_Ev.c jv_i281 (pc' := 15) (S' := []) (G1 := (jv_H K I1 L1 R)) jv_i276 [.ref 196, .int (vl_I b), .int (vl_I q)] rfl rfl rfl rfl (jv_cal rfl (jv_H_at (jv_rwK hW 196 12 24 (by decide))) rfl rfl) rfl H1 rfl rfl Kz) ?_
  refine jv_Wp.lift (fun _ Kz => jv_Ev.steps jv_i281 1 (pc' := 16) (l' := [(0, .ref 196), (1, .int (vl_I b)), (2, .int (vl_I q))]) (st' := [.ref 196]) rfl Kz) ?_
  refine jv_Wp.lift (fun _ Kz => jv_Ev.m jv_i281 (pc' := 19) (st' := [.ref 202]) (G' := (jv_H K I1 L1 R)) rfl rfl (jv_m_getR (jv_rwK hW 196 12 24 (by decide)) rfl rfl (jv_rwR hW 196 10 202 (by decide))) Kz) ?_
  refine jv_Wp.lift (fun _ Kz => jv_Ev.steps jv_i281 2 (pc' := 21) (l' := [(0, .ref 196), (1, .int (vl_I b)), (2, .int (vl_I q))]) (st' := [.int (1 : Int32), .int (vl_I q), .ref 202]) rfl Kz) ?_
  refine jv_Wp.lift (fun _ Kz => jv_Ev.m jv_i281 (pc' := 22) (st' := []) (G' := (jv_H K (jv_u I1 202 q ((1 : Int32) &&& 1)) L1 R)) rfl rfl (by rw [jv_m_zast (jv_rwK hW 202 100 1028 (by decide)) (vl_I_ix (by omega) (by decide)), (vl_I_nat (by omega))]) Kz) ?_
  refine jv_Wp.lift (fun _ Kz => jv_Ev.steps jv_i281 1 (pc' := 23) (l' := [(0, .ref 196), (1, .int (vl_I b)), (2, .int (vl_I q))]) (st' := [.ref 196]) rfl Kz) ?_
  refine jv_Wp.lift (fun _ Kz => jv_Ev.m jv_i281 (pc' := 26) (st' := [.ref 204]) (G' := (jv_H K (jv_u I1 202 q ((1 : Int32) &&& 1)) L1 R)) rfl rfl (jv_m_getR (jv_rwK hW 196 12 24 (by decide)) rfl rfl (jv_rwR hW 196 12 204 (by decide))) Kz) ?_
  refine jv_Wp.lift (fun _ Kz => jv_Ev.steps jv_i281 2 (pc' := 28) (l' := [(0, .ref 196), (1, .int (vl_I b)), (2, .int (vl_I q))]) (st' := [.int (0 : Int32), .int (vl_I q), .ref 204]) rfl Kz) ?_
  refine jv_Wp.lift (fun _ Kz => jv_Ev.m jv_i281 (pc' := 29) (st' := []) (G' := (jv_H K (jv_u (jv_u I1 202 q ((1 : Int32) &&& 1)) 204 q (0 : Int32)) L1 R)) rfl rfl (by rw [jv_m_iast (jv_rwK hW 204 102 1028 (by decide)) (vl_I_ix (by omega) (by decide)), (vl_I_nat (by omega))]) Kz) ?_
  refine jv_Wp.lift (fun _ Kz => jv_Ev.steps jv_i281 2 (pc' := 31) (l' := [(0, .ref 196), (1, .int (vl_I b)), (2, .int (vl_I q))]) (st' := [.int (1 : Int32), .ref 196]) rfl Kz) ?_
  refine jv_Wp.lift (fun _ Kz => jv_Ev.m jv_i281 (pc' := 34) (st' := []) (G' := (jv_H K (jv_u (jv_u (jv_u I1 202 q ((1 : Int32) &&& 1)) 204 q (0 : Int32)) 196 17 (1 : Int32)) L1 R)) rfl rfl (jv_m_putI (jv_rwK hW 196 12 24 (by decide)) rfl rfl rfl (jv_fit_b (Or.inr rfl))) Kz) ?_
  refine jv_Wp.of (jv_Ev.ret jv_i281 rfl rfl) ?_
  rw [hQ]
  have FE : ∀ r f, ¬ ((r = 202 ∨ r = 204) ∧ f = q) → ¬ (r = 196 ∧ f = 17) → (jv_u (jv_u (jv_u I1 202 q ((1 : Int32) &&& 1)) 204 q (0 : Int32)) 196 17 (1 : Int32)) r f = I1 r f := fun r f z1 z2 => by
    have t : ∀ o, o = 202 ∨ o = 204 → ∀ (J : Nat → Nat → Int32) (w : Int32), jv_u J o q w r f = J r f := fun o ho J w => by
      by_cases e : r = o
      · rw [e]; exact jv_u_j _ _ _ _ (fun y => z1 ⟨by omega, y⟩)
      · exact jv_u_o _ _ _ _ e
    have t1 : ∀ (J : Nat → Nat → Int32) (w : Int32), jv_u J 196 17 w r f = J r f := fun J w => by
      by_cases e : r = 196
      · rw [e]; exact jv_u_j _ _ _ _ (fun y => z2 ⟨e, y⟩)
      · exact jv_u_o _ _ _ _ e
    exact (t1 _ _).trans ((t 204 (Or.inr rfl) _ _).trans (t 202 (Or.inl rfl) _ _))
  refine ⟨_, _, rfl, ?_, fun i hi => vr_okW (FE 205 _ (fun z => by omega) (fun z => by omega)) (FE 206 _ (fun z => by omega) (fun z => by omega)) (FE 207 _ (fun z => by omega) (fun z => by omega)) (O1 i hi), (jv_u_o _ _ _ _ (by decide)).trans ((jv_u_o _ _ _ _ (by decide)).trans (jv_u_self _ _ _ _)), (jv_u_o _ _ _ _ (by decide)).trans (jv_u_self _ _ _ _), jv_u_self _ _ _ _, ?_⟩
  · rw [← T1]; refine Prod.ext (funext (fun n => ?_)) (congrArg Int32.toInt (FE 203 q (fun z => by omega) (fun z => by omega)))
    show (if n < 75 then _ else _) = if n < 75 then _ else _
    by_cases hn : n < 75
    · rw [if_pos hn, if_pos hn]; exact vr_T_eq (FE 205 _ (fun z => by omega) (fun z => by omega)) (FE 206 _ (fun z => by omega) (fun z => by omega)) (FE 207 _ (fun z => by omega) (fun z => by omega)) rfl
    · rw [if_neg hn, if_neg hn]
  · refine ⟨fun r hr => (FE 215 r (fun z => by omega) (fun z => by omega)).trans (F1.1 r hr), fun r f z1 z2 z3 => ?_, fun r f z => F1.2.2 r f (fun y => z ⟨y.1, y.2.1, y.2.2.imp id (fun y => ⟨y.1, Or.inl y.2⟩)⟩)⟩
    refine (FE r f (fun y => z3 ⟨by omega, Or.inl ⟨by omega, Or.inl y.2⟩⟩) (fun y => z3 ⟨by omega, Or.inr y⟩)).trans (F1.2.1 r f (fun y => z1 ⟨y.1, y.2.1, Or.inl y.2.2⟩) z2 (fun y => z3 ⟨y.1, Or.inl ⟨by omega, Or.inl y.2.2⟩⟩))
theorem vq_goB {K : Nat → Option (Nat × Nat)} {I : Nat → Nat → Int32} {L : Nat → Nat → Int64} {R : Nat → Nat → Value} (b q fr ch : Nat) (hW : jv_rW K R) (hf : vr_fl I) (hb : b < 1028) (hb2 : b ≠ 1026) (hq : q < 1024) (hbq : b ≠ q) (oq : vr_okA I q) (ob : vr_okA I b) (tq : ∀ n, n < 75 → vt_ok (vr_T I L (75 * q + n))) (tb : ∀ n, n < 75 → vt_ok (vr_T I L (75 * b + n))) (h2o : I 202 q = 1) (h18 : I 196 18 = vl_I fr) (hfr : fr < 2147483648) (h204 : I 204 q = vl_I ch) (hch : ch < 2147483648) {n sl : Nat} : ∃ I1 L1 c, jv_Ms 281 [.ref 196, .int (vl_I b), .int (vl_I q)] (jv_H K I L R) n sl (none, jv_H K I1 L1 R, n, sl) ∧ (c = true ↔ (vt_meetA (decide (q ≤ fr ∧ 2 ≤ ch)) (vr_A I L q) (vr_A I L b)) ≠ vr_A I L q) ∧ (c = true → vr_A I1 L1 q = (vt_meetA (decide (q ≤ fr ∧ 2 ≤ ch)) (vr_A I L q) (vr_A I L b)) ∧ vr_okA I1 q ∧ I1 202 q = vr_b true ∧ I1 204 q = I 204 q + (1 : Int32) ∧ I1 196 17 = 1) ∧ (c = false → vr_fr (vr_th 1026) noE I L I1 L1) ∧ vr_fr (fun x => vr_th q x ∨ vr_th 1026 x) (fun r f => ((r = 202 ∨ r = 203 ∨ r = 204) ∧ (f = q ∨ f = 1026)) ∨ (r = 196 ∧ f = 17)) I L I1 L1 := by
  obtain ⟨Q, hQ⟩ : ∃ Q : jv_R → Prop, Q = fun X => ∃ I1 L1 c, X = (none, jv_H K I1 L1 R, n, sl) ∧ (c = true ↔ (vt_meetA (decide (q ≤ fr ∧ 2 ≤ ch)) (vr_A I L q) (vr_A I L b)) ≠ vr_A I L q) ∧ (c = true → vr_A I1 L1 q = (vt_meetA (decide (q ≤ fr ∧ 2 ≤ ch)) (vr_A I L q) (vr_A I L b)) ∧ vr_okA I1 q ∧ I1 202 q = vr_b true ∧ I1 204 q = I 204 q + (1 : Int32) ∧ I1 196 17 = 1) ∧ (c = false → vr_fr (vr_th 1026) noE I L I1 L1) ∧ vr_fr (fun x => vr_th q x ∨ vr_th 1026 x) (fun r f => ((r = 202 ∨ r = 203 ∨ r = 204) ∧ (f = q ∨ f = 1026)) ∨ (r = 196 ∧ f = 17)) I L I1 L1 := ⟨_, rfl⟩
  suffices h : jv_Wp 281 0 [(0, .ref 196), (1, .int (vl_I b)), (2, .int (vl_I q))] [] (jv_H K I L R) n sl Q by
    rw [hQ] at h
    obtain ⟨X, h, I1, L1, c, e, h'⟩ := h
    subst e
    exact ⟨I1, L1, c, h, h'⟩
  refine jv_Wp.lift (fun _ Kz => jv_Ev.steps jv_i281 1 (pc' := 1) (l' := [(0, .ref 196), (1, .int (vl_I b)), (2, .int (vl_I q))]) (st' := [.ref 196]) rfl Kz) ?_
  refine jv_Wp.lift (fun _ Kz => jv_Ev.m jv_i281 (pc' := 4) (st' := [.ref 202]) (G' := (jv_H K I L R)) rfl rfl (jv_m_getR (jv_rwK hW 196 12 24 (by decide)) rfl rfl (jv_rwR hW 196 10 202 (by decide))) Kz) ?_
  refine jv_Wp.lift (fun _ Kz => jv_Ev.steps jv_i281 1 (pc' := 5) (l' := [(0, .ref 196), (1, .int (vl_I b)), (2, .int (vl_I q))]) (st' := [.int (vl_I q), .ref 202]) rfl Kz) ?_
  refine jv_Wp.lift (fun _ Kz => jv_Ev.m jv_i281 (pc' := 6) (st' := [.int (I 202 q)]) (G' := (jv_H K I L R)) rfl rfl (jv_m_baldv (jv_rwK hW 202 100 1028 (by decide)) rfl (vl_I_ix (by omega) (by decide)) rfl ((congrArg (I 202) (vl_I_nat (by omega))).trans rfl)) Kz) ?_
  refine jv_Wp.cnd jv_i281 (pt := 35) (pe := 9) (p := (¬ (I 202 q) = 0)) (q := (¬ (I 202 q) = 0)) rfl jv_bi_ne rfl rfl Iff.rfl (fun _ => ?_) (fun hz => absurd (by rw [h2o]; decide) hz)
  refine jv_Wp.lift (fun _ Kz => jv_Ev.steps jv_i281 2 (pc' := 37) (l' := [(0, .ref 196), (1, .int (vl_I b)), (2, .int (vl_I q))]) (st' := [.ref 196, .int (vl_I q)]) rfl Kz) ?_
  refine jv_Wp.lift (fun _ Kz => jv_Ev.m jv_i281 (pc' := 40) (st' := [.int (I 196 18), .int (vl_I q)]) (G' := (jv_H K I L R)) rfl rfl (jv_m_getI (jv_rwK hW 196 12 24 (by decide)) rfl rfl rfl) Kz) ?_
  refine jv_Wp.cnd jv_i281 (pt := 57) (pe := 43) (p := ((I 196 18) < (vl_I q))) (q := ((I 196 18) < (vl_I q))) rfl jv_bc_gt rfl rfl Iff.rfl (fun h1 => ?_) (fun h1 => ?_)
  · refine jv_Wp.lift (fun _ Kz => jv_Ev.steps jv_i281 3 (pc' := 60) (l' := [(3, .int (0 : Int32)), (0, .ref 196), (1, .int (vl_I b)), (2, .int (vl_I q))]) (st' := [.ref 196]) rfl Kz) ?_
    refine jv_Wp.lift (fun _ Kz => jv_Ev.m jv_i281 (pc' := 63) (st' := [.ref 203]) (G' := (jv_H K I L R)) rfl rfl (jv_m_getR (jv_rwK hW 196 12 24 (by decide)) rfl rfl (jv_rwR hW 196 11 203 (by decide))) Kz) ?_
    refine jv_Wp.lift (fun _ Kz => jv_Ev.steps jv_i281 1 (pc' := 64) (l' := [(3, .int (0 : Int32)), (0, .ref 196), (1, .int (vl_I b)), (2, .int (vl_I q))]) (st' := [.int (vl_I b), .ref 203]) rfl Kz) ?_
    refine jv_Wp.lift (fun _ Kz => jv_Ev.m jv_i281 (pc' := 65) (st' := [.int (I 203 b)]) (G' := (jv_H K I L R)) rfl rfl (jv_m_ialdv (jv_rwK hW 203 102 1028 (by decide)) rfl (vl_I_ix (by omega) (by decide)) rfl ((congrArg (I 203) (vl_I_nat (by omega))).trans rfl)) Kz) ?_
    refine jv_Wp.lift (fun _ Kz => jv_Ev.steps jv_i281 1 (pc' := 66) (l' := [(3, .int (0 : Int32)), (0, .ref 196), (1, .int (vl_I b)), (2, .int (vl_I q))]) (st' := [.ref 196, .int (I 203 b)]) rfl Kz) ?_
    refine jv_Wp.lift (fun _ Kz => jv_Ev.m jv_i281 (pc' := 69) (st' := [.ref 203, .int (I 203 b)]) (G' := (jv_H K I L R)) rfl rfl (jv_m_getR (jv_rwK hW 196 12 24 (by decide)) rfl rfl (jv_rwR hW 196 11 203 (by decide))) Kz) ?_
    refine jv_Wp.lift (fun _ Kz => jv_Ev.steps jv_i281 1 (pc' := 70) (l' := [(3, .int (0 : Int32)), (0, .ref 196), (1, .int (vl_I b)), (2, .int (vl_I q))]) (st' := [.int (vl_I q), .ref 203, .int (I 203 b)]) rfl Kz) ?_
    refine jv_Wp.lift (fun _ Kz => jv_Ev.m jv_i281 (pc' := 71) (st' := [.int (I 203 q), .int (I 203 b)]) (G' := (jv_H K I L R)) rfl rfl (jv_m_ialdv (jv_rwK hW 203 102 1028 (by decide)) rfl (vl_I_ix (by omega) (by decide)) rfl ((congrArg (I 203) (vl_I_nat (by omega))).trans rfl)) Kz) ?_
    refine jv_Wp.cnd jv_i281 (pt := 78) (pe := 74) (p := ((I 203 q) ≤ (I 203 b))) (q := ((I 203 q) ≤ (I 203 b))) rfl jv_bc_ge rfl rfl Iff.rfl (fun h2 => ?_) (fun h2 => ?_)
    · refine jv_Wp.lift (fun _ Kz => jv_Ev.steps jv_i281 4 (pc' := 84) (l' := [(5, .int (0 : Int32)), (4, .int (0 : Int32)), (3, .int (0 : Int32)), (0, .ref 196), (1, .int (vl_I b)), (2, .int (vl_I q))]) (st' := []) rfl Kz) ?_
      refine jv_Wp.loc (l := [(0, .ref 196), (1, .int (vl_I b)), (2, .int (vl_I q)), (3, .int (0 : Int32)), (4, .int (0 : Int32)), (5, .int (0 : Int32))]) ⟨List.forall_mem_cons.mpr ⟨.tail _ (.tail _ (.tail _ (.head _))), List.forall_mem_cons.mpr ⟨.tail _ (.tail _ (.tail _ (.tail _ (.head _)))), List.forall_mem_cons.mpr ⟨.tail _ (.tail _ (.tail _ (.tail _ (.tail _ (.head _))))), List.forall_mem_cons.mpr ⟨.tail _ (.tail _ (.head _)), List.forall_mem_cons.mpr ⟨.tail _ (.head _), List.forall_mem_cons.mpr ⟨.head _, fun _ h => absurd h List.not_mem_nil⟩⟩⟩⟩⟩⟩, by show List.Nodup [5, 4, 3, 0, 1, 2]; decide⟩ ?_
      have g1 : fr < q := by have z := h1; rw [h18] at z; exact (vl_I_lt (by omega) (by omega)).mp z
      have g3 : (I 203 q).toInt ≤ (I 203 b).toInt := Int32.le_iff_toInt_le.mp h2
      have ew : (decide (q ≤ fr ∧ 2 ≤ ch)) = false := decide_eq_false (by omega)
      rw [ew] at hQ
      exact vq_goT b q false false hW hf hb hb2 hq hbq oq ob tq tb ⟨fun z => absurd z (by decide), fun z => by omega⟩ hQ
    · refine jv_Wp.lift (fun _ Kz => jv_Ev.steps jv_i281 5 (pc' := 84) (l' := [(5, .int (0 : Int32)), (4, .int (1 : Int32)), (3, .int (0 : Int32)), (0, .ref 196), (1, .int (vl_I b)), (2, .int (vl_I q))]) (st' := []) rfl Kz) ?_
      refine jv_Wp.loc (l := [(0, .ref 196), (1, .int (vl_I b)), (2, .int (vl_I q)), (3, .int (0 : Int32)), (4, .int (1 : Int32)), (5, .int (0 : Int32))]) ⟨List.forall_mem_cons.mpr ⟨.tail _ (.tail _ (.tail _ (.head _))), List.forall_mem_cons.mpr ⟨.tail _ (.tail _ (.tail _ (.tail _ (.head _)))), List.forall_mem_cons.mpr ⟨.tail _ (.tail _ (.tail _ (.tail _ (.tail _ (.head _))))), List.forall_mem_cons.mpr ⟨.tail _ (.tail _ (.head _)), List.forall_mem_cons.mpr ⟨.tail _ (.head _), List.forall_mem_cons.mpr ⟨.head _, fun _ h => absurd h List.not_mem_nil⟩⟩⟩⟩⟩⟩, by show List.Nodup [5, 4, 3, 0, 1, 2]; decide⟩ ?_
      have g1 : fr < q := by have z := h1; rw [h18] at z; exact (vl_I_lt (by omega) (by omega)).mp z
      have g3 : ¬ (I 203 q).toInt ≤ (I 203 b).toInt := (not_congr Int32.le_iff_toInt_le).mp h2
      have ew : (decide (q ≤ fr ∧ 2 ≤ ch)) = false := decide_eq_false (by omega)
      rw [ew] at hQ
      exact vq_goT b q false true hW hf hb hb2 hq hbq oq ob tq tb ⟨fun _ => by omega, fun _ => rfl⟩ hQ
  · refine jv_Wp.lift (fun _ Kz => jv_Ev.steps jv_i281 1 (pc' := 44) (l' := [(0, .ref 196), (1, .int (vl_I b)), (2, .int (vl_I q))]) (st' := [.ref 196]) rfl Kz) ?_
    refine jv_Wp.lift (fun _ Kz => jv_Ev.m jv_i281 (pc' := 47) (st' := [.ref 204]) (G' := (jv_H K I L R)) rfl rfl (jv_m_getR (jv_rwK hW 196 12 24 (by decide)) rfl rfl (jv_rwR hW 196 12 204 (by decide))) Kz) ?_
    refine jv_Wp.lift (fun _ Kz => jv_Ev.steps jv_i281 1 (pc' := 48) (l' := [(0, .ref 196), (1, .int (vl_I b)), (2, .int (vl_I q))]) (st' := [.int (vl_I q), .ref 204]) rfl Kz) ?_
    refine jv_Wp.lift (fun _ Kz => jv_Ev.m jv_i281 (pc' := 49) (st' := [.int (I 204 q)]) (G' := (jv_H K I L R)) rfl rfl (jv_m_ialdv (jv_rwK hW 204 102 1028 (by decide)) rfl (vl_I_ix (by omega) (by decide)) rfl ((congrArg (I 204) (vl_I_nat (by omega))).trans rfl)) Kz) ?_
    refine jv_Wp.lift (fun _ Kz => jv_Ev.steps jv_i281 1 (pc' := 50) (l' := [(0, .ref 196), (1, .int (vl_I b)), (2, .int (vl_I q))]) (st' := [.int (2 : Int32), .int (I 204 q)]) rfl Kz) ?_
    refine jv_Wp.cnd jv_i281 (pt := 57) (pe := 53) (p := ((I 204 q) < (2 : Int32))) (q := ((I 204 q) < (2 : Int32))) rfl jv_bc_lt rfl rfl Iff.rfl (fun h3 => ?_) (fun h3 => ?_)
    · refine jv_Wp.lift (fun _ Kz => jv_Ev.steps jv_i281 3 (pc' := 60) (l' := [(3, .int (0 : Int32)), (0, .ref 196), (1, .int (vl_I b)), (2, .int (vl_I q))]) (st' := [.ref 196]) rfl Kz) ?_
      refine jv_Wp.lift (fun _ Kz => jv_Ev.m jv_i281 (pc' := 63) (st' := [.ref 203]) (G' := (jv_H K I L R)) rfl rfl (jv_m_getR (jv_rwK hW 196 12 24 (by decide)) rfl rfl (jv_rwR hW 196 11 203 (by decide))) Kz) ?_
      refine jv_Wp.lift (fun _ Kz => jv_Ev.steps jv_i281 1 (pc' := 64) (l' := [(3, .int (0 : Int32)), (0, .ref 196), (1, .int (vl_I b)), (2, .int (vl_I q))]) (st' := [.int (vl_I b), .ref 203]) rfl Kz) ?_
      refine jv_Wp.lift (fun _ Kz => jv_Ev.m jv_i281 (pc' := 65) (st' := [.int (I 203 b)]) (G' := (jv_H K I L R)) rfl rfl (jv_m_ialdv (jv_rwK hW 203 102 1028 (by decide)) rfl (vl_I_ix (by omega) (by decide)) rfl ((congrArg (I 203) (vl_I_nat (by omega))).trans rfl)) Kz) ?_
      refine jv_Wp.lift (fun _ Kz => jv_Ev.steps jv_i281 1 (pc' := 66) (l' := [(3, .int (0 : Int32)), (0, .ref 196), (1, .int (vl_I b)), (2, .int (vl_I q))]) (st' := [.ref 196, .int (I 203 b)]) rfl Kz) ?_
      refine jv_Wp.lift (fun _ Kz => jv_Ev.m jv_i281 (pc' := 69) (st' := [.ref 203, .int (I 203 b)]) (G' := (jv_H K I L R)) rfl rfl (jv_m_getR (jv_rwK hW 196 12 24 (by decide)) rfl rfl (jv_rwR hW 196 11 203 (by decide))) Kz) ?_
      refine jv_Wp.lift (fun _ Kz => jv_Ev.steps jv_i281 1 (pc' := 70) (l' := [(3, .int (0 : Int32)), (0, .ref 196), (1, .int (vl_I b)), (2, .int (vl_I q))]) (st' := [.int (vl_I q), .ref 203, .int (I 203 b)]) rfl Kz) ?_
      refine jv_Wp.lift (fun _ Kz => jv_Ev.m jv_i281 (pc' := 71) (st' := [.int (I 203 q), .int (I 203 b)]) (G' := (jv_H K I L R)) rfl rfl (jv_m_ialdv (jv_rwK hW 203 102 1028 (by decide)) rfl (vl_I_ix (by omega) (by decide)) rfl ((congrArg (I 203) (vl_I_nat (by omega))).trans rfl)) Kz) ?_
      refine jv_Wp.cnd jv_i281 (pt := 78) (pe := 74) (p := ((I 203 q) ≤ (I 203 b))) (q := ((I 203 q) ≤ (I 203 b))) rfl jv_bc_ge rfl rfl Iff.rfl (fun h4 => ?_) (fun h4 => ?_)
      · refine jv_Wp.lift (fun _ Kz => jv_Ev.steps jv_i281 4 (pc' := 84) (l' := [(5, .int (0 : Int32)), (4, .int (0 : Int32)), (3, .int (0 : Int32)), (0, .ref 196), (1, .int (vl_I b)), (2, .int (vl_I q))]) (st' := []) rfl Kz) ?_
        refine jv_Wp.loc (l := [(0, .ref 196), (1, .int (vl_I b)), (2, .int (vl_I q)), (3, .int (0 : Int32)), (4, .int (0 : Int32)), (5, .int (0 : Int32))]) ⟨List.forall_mem_cons.mpr ⟨.tail _ (.tail _ (.tail _ (.head _))), List.forall_mem_cons.mpr ⟨.tail _ (.tail _ (.tail _ (.tail _ (.head _)))), List.forall_mem_cons.mpr ⟨.tail _ (.tail _ (.tail _ (.tail _ (.tail _ (.head _))))), List.forall_mem_cons.mpr ⟨.tail _ (.tail _ (.head _)), List.forall_mem_cons.mpr ⟨.tail _ (.head _), List.forall_mem_cons.mpr ⟨.head _, fun _ h => absurd h List.not_mem_nil⟩⟩⟩⟩⟩⟩, by show List.Nodup [5, 4, 3, 0, 1, 2]; decide⟩ ?_
        have g1 : ¬ fr < q := by have z := h1; rw [h18] at z; exact fun y => z ((vl_I_lt (by omega) (by omega)).mpr y)
        have g2 : ch < 2 := by have z := h3; rw [h204] at z; exact (vl_I_lt (b := 2) (by omega) (by decide)).mp z
        have g3 : (I 203 q).toInt ≤ (I 203 b).toInt := Int32.le_iff_toInt_le.mp h4
        have ew : (decide (q ≤ fr ∧ 2 ≤ ch)) = false := decide_eq_false (by omega)
        rw [ew] at hQ
        exact vq_goT b q false false hW hf hb hb2 hq hbq oq ob tq tb ⟨fun z => absurd z (by decide), fun z => by omega⟩ hQ
      · refine jv_Wp.lift (fun _ Kz => jv_Ev.steps jv_i281 5 (pc' := 84) (l' := [(5, .int (0 : Int32)), (4, .int (1 : Int32)), (3, .int (0 : Int32)), (0, .ref 196), (1, .int (vl_I b)), (2, .int (vl_I q))]) (st' := []) rfl Kz) ?_
        refine jv_Wp.loc (l := [(0, .ref 196), (1, .int (vl_I b)), (2, .int (vl_I q)), (3, .int (0 : Int32)), (4, .int (1 : Int32)), (5, .int (0 : Int32))]) ⟨List.forall_mem_cons.mpr ⟨.tail _ (.tail _ (.tail _ (.head _))), List.forall_mem_cons.mpr ⟨.tail _ (.tail _ (.tail _ (.tail _ (.head _)))), List.forall_mem_cons.mpr ⟨.tail _ (.tail _ (.tail _ (.tail _ (.tail _ (.head _))))), List.forall_mem_cons.mpr ⟨.tail _ (.tail _ (.head _)), List.forall_mem_cons.mpr ⟨.tail _ (.head _), List.forall_mem_cons.mpr ⟨.head _, fun _ h => absurd h List.not_mem_nil⟩⟩⟩⟩⟩⟩, by show List.Nodup [5, 4, 3, 0, 1, 2]; decide⟩ ?_
        have g1 : ¬ fr < q := by have z := h1; rw [h18] at z; exact fun y => z ((vl_I_lt (by omega) (by omega)).mpr y)
        have g2 : ch < 2 := by have z := h3; rw [h204] at z; exact (vl_I_lt (b := 2) (by omega) (by decide)).mp z
        have g3 : ¬ (I 203 q).toInt ≤ (I 203 b).toInt := (not_congr Int32.le_iff_toInt_le).mp h4
        have ew : (decide (q ≤ fr ∧ 2 ≤ ch)) = false := decide_eq_false (by omega)
        rw [ew] at hQ
        exact vq_goT b q false true hW hf hb hb2 hq hbq oq ob tq tb ⟨fun _ => by omega, fun _ => rfl⟩ hQ
    · refine jv_Wp.lift (fun _ Kz => jv_Ev.steps jv_i281 4 (pc' := 60) (l' := [(3, .int (1 : Int32)), (0, .ref 196), (1, .int (vl_I b)), (2, .int (vl_I q))]) (st' := [.ref 196]) rfl Kz) ?_
      refine jv_Wp.lift (fun _ Kz => jv_Ev.m jv_i281 (pc' := 63) (st' := [.ref 203]) (G' := (jv_H K I L R)) rfl rfl (jv_m_getR (jv_rwK hW 196 12 24 (by decide)) rfl rfl (jv_rwR hW 196 11 203 (by decide))) Kz) ?_
      refine jv_Wp.lift (fun _ Kz => jv_Ev.steps jv_i281 1 (pc' := 64) (l' := [(3, .int (1 : Int32)), (0, .ref 196), (1, .int (vl_I b)), (2, .int (vl_I q))]) (st' := [.int (vl_I b), .ref 203]) rfl Kz) ?_
      refine jv_Wp.lift (fun _ Kz => jv_Ev.m jv_i281 (pc' := 65) (st' := [.int (I 203 b)]) (G' := (jv_H K I L R)) rfl rfl (jv_m_ialdv (jv_rwK hW 203 102 1028 (by decide)) rfl (vl_I_ix (by omega) (by decide)) rfl ((congrArg (I 203) (vl_I_nat (by omega))).trans rfl)) Kz) ?_
      refine jv_Wp.lift (fun _ Kz => jv_Ev.steps jv_i281 1 (pc' := 66) (l' := [(3, .int (1 : Int32)), (0, .ref 196), (1, .int (vl_I b)), (2, .int (vl_I q))]) (st' := [.ref 196, .int (I 203 b)]) rfl Kz) ?_
      refine jv_Wp.lift (fun _ Kz => jv_Ev.m jv_i281 (pc' := 69) (st' := [.ref 203, .int (I 203 b)]) (G' := (jv_H K I L R)) rfl rfl (jv_m_getR (jv_rwK hW 196 12 24 (by decide)) rfl rfl (jv_rwR hW 196 11 203 (by decide))) Kz) ?_
      refine jv_Wp.lift (fun _ Kz => jv_Ev.steps jv_i281 1 (pc' := 70) (l' := [(3, .int (1 : Int32)), (0, .ref 196), (1, .int (vl_I b)), (2, .int (vl_I q))]) (st' := [.int (vl_I q), .ref 203, .int (I 203 b)]) rfl Kz) ?_
      refine jv_Wp.lift (fun _ Kz => jv_Ev.m jv_i281 (pc' := 71) (st' := [.int (I 203 q), .int (I 203 b)]) (G' := (jv_H K I L R)) rfl rfl (jv_m_ialdv (jv_rwK hW 203 102 1028 (by decide)) rfl (vl_I_ix (by omega) (by decide)) rfl ((congrArg (I 203) (vl_I_nat (by omega))).trans rfl)) Kz) ?_
      refine jv_Wp.cnd jv_i281 (pt := 78) (pe := 74) (p := ((I 203 q) ≤ (I 203 b))) (q := ((I 203 q) ≤ (I 203 b))) rfl jv_bc_ge rfl rfl Iff.rfl (fun h5 => ?_) (fun h5 => ?_)
      · refine jv_Wp.lift (fun _ Kz => jv_Ev.steps jv_i281 4 (pc' := 84) (l' := [(5, .int (0 : Int32)), (4, .int (0 : Int32)), (3, .int (1 : Int32)), (0, .ref 196), (1, .int (vl_I b)), (2, .int (vl_I q))]) (st' := []) rfl Kz) ?_
        refine jv_Wp.loc (l := [(0, .ref 196), (1, .int (vl_I b)), (2, .int (vl_I q)), (3, .int (1 : Int32)), (4, .int (0 : Int32)), (5, .int (0 : Int32))]) ⟨List.forall_mem_cons.mpr ⟨.tail _ (.tail _ (.tail _ (.head _))), List.forall_mem_cons.mpr ⟨.tail _ (.tail _ (.tail _ (.tail _ (.head _)))), List.forall_mem_cons.mpr ⟨.tail _ (.tail _ (.tail _ (.tail _ (.tail _ (.head _))))), List.forall_mem_cons.mpr ⟨.tail _ (.tail _ (.head _)), List.forall_mem_cons.mpr ⟨.tail _ (.head _), List.forall_mem_cons.mpr ⟨.head _, fun _ h => absurd h List.not_mem_nil⟩⟩⟩⟩⟩⟩, by show List.Nodup [5, 4, 3, 0, 1, 2]; decide⟩ ?_
        have g1 : ¬ fr < q := by have z := h1; rw [h18] at z; exact fun y => z ((vl_I_lt (by omega) (by omega)).mpr y)
        have g2 : ¬ ch < 2 := by have z := h3; rw [h204] at z; exact fun y => z ((vl_I_lt (b := 2) (by omega) (by decide)).mpr y)
        have g3 : (I 203 q).toInt ≤ (I 203 b).toInt := Int32.le_iff_toInt_le.mp h5
        have ew : (decide (q ≤ fr ∧ 2 ≤ ch)) = true := decide_eq_true (by omega)
        rw [ew] at hQ
        exact vq_goT b q true false hW hf hb hb2 hq hbq oq ob tq tb ⟨fun z => absurd z (by decide), fun z => by omega⟩ hQ
      · refine jv_Wp.lift (fun _ Kz => jv_Ev.steps jv_i281 5 (pc' := 84) (l' := [(5, .int (0 : Int32)), (4, .int (1 : Int32)), (3, .int (1 : Int32)), (0, .ref 196), (1, .int (vl_I b)), (2, .int (vl_I q))]) (st' := []) rfl Kz) ?_
        refine jv_Wp.loc (l := [(0, .ref 196), (1, .int (vl_I b)), (2, .int (vl_I q)), (3, .int (1 : Int32)), (4, .int (1 : Int32)), (5, .int (0 : Int32))]) ⟨List.forall_mem_cons.mpr ⟨.tail _ (.tail _ (.tail _ (.head _))), List.forall_mem_cons.mpr ⟨.tail _ (.tail _ (.tail _ (.tail _ (.head _)))), List.forall_mem_cons.mpr ⟨.tail _ (.tail _ (.tail _ (.tail _ (.tail _ (.head _))))), List.forall_mem_cons.mpr ⟨.tail _ (.tail _ (.head _)), List.forall_mem_cons.mpr ⟨.tail _ (.head _), List.forall_mem_cons.mpr ⟨.head _, fun _ h => absurd h List.not_mem_nil⟩⟩⟩⟩⟩⟩, by show List.Nodup [5, 4, 3, 0, 1, 2]; decide⟩ ?_
        have g1 : ¬ fr < q := by have z := h1; rw [h18] at z; exact fun y => z ((vl_I_lt (by omega) (by omega)).mpr y)
        have g2 : ¬ ch < 2 := by have z := h3; rw [h204] at z; exact fun y => z ((vl_I_lt (b := 2) (by omega) (by decide)).mpr y)
        have g3 : ¬ (I 203 q).toInt ≤ (I 203 b).toInt := (not_congr Int32.le_iff_toInt_le).mp h5
        have ew : (decide (q ≤ fr ∧ 2 ≤ ch)) = true := decide_eq_true (by omega)
        rw [ew] at hQ
        exact vq_goT b q true true hW hf hb hb2 hq hbq oq ob tq tb ⟨fun _ => by omega, fun _ => rfl⟩ hQ
theorem vq_goTo {K : Nat → Option (Nat × Nat)} {I : Nat → Nat → Int32} {L : Nat → Nat → Int64} {R : Nat → Nat → Value} {st : vz_S} (b q fr : Nat) (h : Bool) (hW : jv_rW K R) (hf : vr_fl I) (hS : vr_ST I L st) (hb : b < 1028) (hb2 : b ≠ 1026) (hb3 : 1024 ≤ b) (hq : q < 1024) (ob : vr_okA I b) (tb : vt_okA (vr_A I L b)) (hhb : I 202 b = vr_b h) (h18 : I 196 18 = vl_I fr) (hfr : fr < 2147483648) (hch : st.2 q < 2147483647) {n sl : Nat} : ∃ I1 L1, jv_Ms 281 [.ref 196, .int (vl_I b), .int (vl_I q)] (jv_H K I L R) n sl (none, jv_H K I1 L1 R, n, sl) ∧ vr_ST I1 L1 (vz_go fr q (vr_A I L b) st).1 ∧ I1 196 17 = (if (vz_go fr q (vr_A I L b) st).2 = true then 1 else I 196 17) ∧ vr_fr (fun x => vr_th q x ∨ vr_th 1026 x) (fun r f => ((r = 202 ∨ r = 203 ∨ r = 204) ∧ (f = q ∨ f = 1026)) ∨ (r = 196 ∧ f = 17)) I L I1 L1 := by
  obtain ⟨s1, s2⟩ := hS q hq
  have dP : ∀ p, p < 1024 → p ≠ q → ∀ x, vr_th p x → ¬ (vr_th q x ∨ vr_th 1026 x) := fun p hp hne x hx z => by unfold vr_th at *; omega
  have dE : ∀ p r, p < 1024 → p ≠ q → 202 ≤ r → r ≤ 204 → ¬ (((r = 202 ∨ r = 203 ∨ r = 204) ∧ (p = q ∨ p = 1026)) ∨ (r = 196 ∧ p = 17)) := fun p r hp hne h1 h2 z => by omega
  cases hc : st.1 q with
  | none =>
    rw [hc] at s1
    obtain ⟨I1, L1, H, a1, a2, a3, a4, a5, a6⟩ := vq_goA (n := n) (sl := sl) b q h hW hf hb hq (by omega) ob hhb s1
    rw [vz_go_none hc]
    refine ⟨I1, L1, H, vr_ST_up hS a6 dP dE ?_ (fun A hA => ?_) (fun p hp => vz_u_ne _ _ hp) (fun p hp => vz_u_ne _ _ hp), a5, a6⟩
    · show _ = vr_b (vz_u st.1 q (some _) q).isSome
      rw [vz_u_self]; exact a3
    · have hA : vz_u st.1 q (some (vr_A I L b)) q = some A := hA
      rw [vz_u_self] at hA; cases hA
      refine ⟨a1, a2, ?_, tb⟩
      show _ = vl_I (vz_u st.2 q 0 q)
      rw [vz_u_self]; exact a4
  | some C =>
    rw [hc] at s1
    obtain ⟨c1, c2, c3, c4⟩ := s2 C hc
    have tq : ∀ n, n < 75 → vt_ok (vr_T I L (75 * q + n)) := fun n hn => by
      have z := c4 n hn
      rw [← c1, vr_A1 hn] at z; exact z
    have tb' : ∀ n, n < 75 → vt_ok (vr_T I L (75 * b + n)) := fun n hn => by
      have z := tb n hn
      rw [vr_A1 hn] at z; exact z
    obtain ⟨I1, L1, c, H, e1, e2, e3, e4⟩ := vq_goB (n := n) (sl := sl) b q fr (st.2 q) hW hf hb hb2 hq (by omega) c2 ob tq tb' s1 h18 hfr c3 (by omega)
    rw [c1] at e1 e2
    have okm := vt_meetA_ok (w := decide (q ≤ fr ∧ 2 ≤ st.2 q)) c4 tb
    cases c with
    | true =>
      have ne := e1.mp rfl
      obtain ⟨k1, k2, k3, k4, k5⟩ := e2 rfl
      rw [vz_go_new hc ne]
      refine ⟨I1, L1, H, vr_ST_up hS e4 dP dE ?_ (fun A hA => ?_) (fun p hp => vz_u_ne _ _ hp) (fun p hp => vz_u_ne _ _ hp), k5, e4⟩
      · show _ = vr_b (vz_u st.1 q (some _) q).isSome
        rw [vz_u_self]; exact k3
      · have hA : vz_u st.1 q (some (vt_meetA (decide (q ≤ fr ∧ 2 ≤ st.2 q)) C (vr_A I L b))) q = some A := hA
        rw [vz_u_self] at hA; cases hA
        refine ⟨k1, k2, ?_, okm⟩
        show _ = vl_I (vz_u st.2 q (st.2 q + 1) q)
        rw [vz_u_self, k4, c3]; exact vl_I_p1 _
    | false =>
      have eq : vt_meetA (decide (q ≤ fr ∧ 2 ≤ st.2 q)) C (vr_A I L b) = C := Classical.byContradiction (fun z => absurd (e1.mpr z) (by decide))
      rw [vz_go_same hc eq]
      have f := e3 rfl
      refine ⟨I1, L1, H, vr_ST_fr f (fun p hp x hx z => by unfold vr_th at *; omega) (fun p q _ _ _ z => z) hS, ?_, e4⟩
      rw [if_neg (fun z => absurd (show false = true from z) (by decide))]
      exact vr_fr_c f (by decide) (by decide)