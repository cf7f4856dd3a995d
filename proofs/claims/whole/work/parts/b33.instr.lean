/-! part b33: instructions (gen/tb33.py) -/
/-- what is known of a thing beside its being well formed -/
def vt_g (t : vt_T) : Prop := ((t.sort = 2 ∨ t.sort = 3) → -536870912 ≤ t.det ∧ t.det ≤ 536870912) ∧ ((t.sort = 6 ∨ t.sort = 7 ∨ t.sort = 8) → 0 ≤ t.det ∧ t.det < 8) ∧ (t.sort = 4 → t.val.low = t.val.high → t.val.low.toInt ≤ 536870912)
def vt_gA (A : vt_A) : Prop := (∀ n, n < 75 → vt_g (A.1 n)) ∧ A.2 ≤ 536870913
theorem vt_gA_g {I : Nat → Nat → Int32} {L : Nat → Nat → Int64} {a n : Nat} (h : vt_gA (vc_A I L a)) (o : vc_okA I L a) (hn : n < 75) : vc_g I L (a + 2 + n) ∧ (I (a + 2 + n) 6 = 6 → 0 ≤ (I (a + 2 + n) 7).toInt) ∧ (I (a + 2 + n) 6 = 4 → (vl_S L (a + 2 + n)).low = (vl_S L (a + 2 + n)).high → (L (a + 2 + n) 2).toInt ≤ 1073000000) := by
  have g := h.1 n hn
  rw [vc_A1 hn] at g
  obtain ⟨g1, g2, g3⟩ := g
  have ok := o n hn
  refine ⟨⟨fun z => ?_, fun z => ?_⟩, fun z => ?_, fun z hs => ?_⟩
  · rw [← vc_detk z]
    exact g1 (z.imp (vc_is2 ok).mpr (vc_is3 ok).mpr)
  · rw [← vc_detm (Or.inr (Or.inl z))]; exact (g2 (Or.inr (Or.inl ((vc_is7 ok).mpr z)))).1
  · rw [← vc_detm (Or.inl z)]; exact (g2 (Or.inl ((vc_is6 ok).mpr z))).1
  · have e : (vc_T I L (a + 2 + n)).val = vl_S L (a + 2 + n) := vc_valv (Or.inr (Or.inl z))
    have q := g3 ((vc_is4 ok).mpr z)
    rw [e] at q
    exact Int.le_trans (q hs) (by decide)
/-- where what comes of an instruction goes: next, then where it jumps -/
def vc_go (l : List (Int × vt_A)) (I1 : Nat → Nat → Int32) (L1 : Nat → Nat → Int64) : Prop := ∃ a b : Option (Int × vt_A), l = a.toList ++ b.toList ∧ (∀ e, a = some e → (I1 10 9).toInt = e.1 ∧ vc_A I1 L1 12 = e.2) ∧ (a = none → I1 10 9 = -1) ∧ (∀ e, b = some e → (I1 10 10).toInt = e.1 ∧ vc_A I1 L1 89 = e.2) ∧ (b = none → I1 10 10 = -1) ∧ vc_okA I1 L1 12 ∧ vc_okA I1 L1 89
theorem vc_go_one {I1 : Nat → Nat → Int32} {L1 : Nat → Nat → Int64} {q : Int} {A : vt_A} (h9 : (I1 10 9).toInt = q) (h10 : I1 10 10 = -1) (ha : vc_A I1 L1 12 = A) (o1 : vc_okA I1 L1 12) (o2 : vc_okA I1 L1 89) : vc_go [(q, A)] I1 L1 :=
  ⟨some (q, A), none, rfl, fun e h => (by cases h; exact ⟨h9, ha⟩), fun h => (by cases h), fun e h => (by cases h), fun _ => h10, o1, o2⟩
theorem vc_go_none {I1 : Nat → Nat → Int32} {L1 : Nat → Nat → Int64} (h9 : I1 10 9 = -1) (h10 : I1 10 10 = -1) (o1 : vc_okA I1 L1 12) (o2 : vc_okA I1 L1 89) : vc_go [] I1 L1 :=
  ⟨none, none, rfl, fun e h => (by cases h), fun _ => h9, fun e h => (by cases h), fun _ => h10, o1, o2⟩
theorem vc_go_jp {r : Nat × Option vt_A × Option vt_A} {t9 t10 : Int32} {I1 : Nat → Nat → Int32} {L1 : Nat → Nat → Int64} {q1 q2 : Int} (h : vc_jp r t9 t10 I1 L1) (e9 : t9.toInt = q1) (e10 : t10.toInt = q2) : vc_go ((match r.2.1 with | some B => [(q1, B)] | none => []) ++ (match r.2.2 with | some B => [(q2, B)] | none => [])) I1 L1 := by
  obtain ⟨h1, h2, h3, h4, h5, h6⟩ := h
  refine ⟨r.2.1.map (fun B => (q1, B)), r.2.2.map (fun B => (q2, B)), ?_, ?_, ?_, ?_, ?_, h5, h6⟩
  · cases r.2.1 <;> cases r.2.2 <;> rfl
  · intro e he
    cases c : r.2.1 with
    | none => rw [c] at he; cases he
    | some B => rw [c] at he; cases he; exact ⟨(congrArg Int32.toInt (h1 B c).1).trans e9, (h1 B c).2⟩
  · intro he
    cases c : r.2.1 with
    | none => exact h2 c
    | some B => rw [c] at he; cases he
  · intro e he
    cases c : r.2.2 with
    | none => rw [c] at he; cases he
    | some B => rw [c] at he; cases he; exact ⟨(congrArg Int32.toInt (h3 B c).1).trans e10, (h3 B c).2⟩
  · intro he
    cases c : r.2.2 with
    | none => exact h4 c
    | some B => rw [c] at he; cases he
def vx_one (r : Nat × vt_A) (q : Int) : Nat × List (Int × vt_A) := if r.1 ≠ 0 then (r.1, []) else (0, [(q, r.2)])
theorem vx_one1 (r : Nat × vt_A) (q : Int) : (vx_one r q).1 = r.1 := by
  unfold vx_one
  by_cases h : r.1 ≠ 0
  · rw [if_pos h]
  · rw [if_neg h]; exact (Classical.not_not.mp h).symm
theorem vc_one {I1 : Nat → Nat → Int32} {L1 : Nat → Nat → Int64} {r : Nat × vt_A} {q : Int} (hr : r.1 = 0 → vc_A I1 L1 12 = r.2 ∧ vc_okA I1 L1 12) (h9 : (I1 10 9).toInt = q) (h10 : I1 10 10 = -1) (o2 : vc_okA I1 L1 89) (z : (vx_one r q).1 = 0) : vc_go (vx_one r q).2 I1 L1 := by
  rw [vx_one1] at z
  have e : vx_one r q = (0, [(q, r.2)]) := if_neg (fun c => c z)
  rw [e]
  exact vc_go_one h9 h10 (hr z).1 (hr z).2 o2
section
variable {M : vf_M} {f : vf_F} {i2 : Int} {p : Nat} {A : vt_A}
theorem vx_do0 (h : f.kind = 0) : vx_does M f i2 p A = vx_one (vx_wide M f i2 A) (p + 2) := if_pos h
theorem vx_do1 (h : f.kind = 1) : vx_does M f i2 p A = vx_one (vx_load M f A) (p + 1) := (if_neg (by omega)).trans (if_pos h)
theorem vx_do2 (h : f.kind = 2) : vx_does M f i2 p A = vx_one (vx_store M f A) (p + 1) := (if_neg (by omega)).trans ((if_neg (by omega)).trans (if_pos h))
theorem vx_do3a (h : f.kind = 3) (m : f.mode = 6) : vx_does M f i2 p A = vx_one (vx_atomic M f A) (p + 1) := (if_neg (by omega)).trans ((if_neg (by omega)).trans ((if_neg (by omega)).trans ((if_pos h).trans (by rw [if_pos m]; rfl))))
theorem vx_do3s (h : f.kind = 3) (m : ¬ f.mode = 6) : vx_does M f i2 p A = vx_one (vx_store M f A) (p + 1) := (if_neg (by omega)).trans ((if_neg (by omega)).trans ((if_neg (by omega)).trans ((if_pos h).trans (by rw [if_neg m]; rfl))))
theorem vx_do4 (h : f.kind = 4 ∨ f.kind = 7) : vx_does M f i2 p A = vx_one (vx_arith f A) (p + 1) := (if_neg (by omega)).trans ((if_neg (by omega)).trans ((if_neg (by omega)).trans ((if_neg (by omega)).trans (if_pos h))))
theorem vx_doj (h : f.kind = 5 ∨ f.kind = 6) : vx_does M f i2 p A = (if f.code = 5 then (0, [((p : Int) + 1 + f.o, A)]) else if f.code = 6 then (0, [((p : Int) + 1 + f.i, A)]) else if f.code = 133 then vx_one (vx_call M f.i p A) (p + 1) else if f.code = 149 then (vx_isnum A 0 6, []) else (let r := vx_jump f A
     if r.1 ≠ 0 then (r.1, []) else (0, (match r.2.1 with | some B => [((p : Int) + 1, B)] | none => []) ++ (match r.2.2 with | some B => [((p : Int) + 1 + f.o, B)] | none => [])))) :=
  (if_neg (by omega)).trans ((if_neg (by omega)).trans ((if_neg (by omega)).trans ((if_neg (by omega)).trans (if_neg (by omega)))))
end
theorem vw_off3 (w : Int64) (p : Nat) (hp : p ≤ 1024) : ((vl_I p + (1 : Int32)) + jv_wfoffset w).toInt = (p : Int) + 1 + (vc_F w).o := by
  have e : (vl_I (p + 1)).toInt = ((p + 1 : Nat) : Int) := vl_I_int (by omega)
  have b := vw_off w
  rw [vl_I_p1, Int32.toInt_add, e]
  have f : (vc_F w).o = (jv_wfoffset w).toInt := rfl
  rw [f]
  exact (Int.bmod_eq_of_le (by omega) (by omega)).trans (by omega)
theorem vw_imm3 (w : Int64) (p : Nat) (hp : p ≤ 1024) (h : 0 ≤ (p : Int) + 1 + (vc_F w).i ∧ (p : Int) + 1 + (vc_F w).i ≤ 1024) : (vl_I (p + 1) + jv_wfimmediate w).toInt = (p : Int) + 1 + (vc_F w).i := by
  have e : (vl_I (p + 1)).toInt = ((p + 1 : Nat) : Int) := vl_I_int (by omega)
  rw [Int32.toInt_add, e]
  have f : (vc_F w).i = (jv_wfimmediate w).toInt := rfl
  rw [f] at h ⊢
  exact (Int.bmod_eq_of_le (by omega) (by omega)).trans (by omega)
theorem jv_i25 : jv_I 25 5 (some .int) 6 159 jv_c25 := ⟨rfl, rfl, rfl, rfl, rfl⟩
theorem vc_itail {K : Nat → Option (Nat × Nat)} {I : Nat → Nat → Int32} {L : Nat → Nat → Int64} {R : Nat → Nat → Value} {M : vf_M} {pr ws len : Nat} {W : Nat → Int64} (p : Nat) (hC : vc_C K R) (hM : vc_M K I R M) (hMR : ∀ k o : Nat, R 7 k = .ref o → 227 ≤ o) (hP : vc_P K L R pr ws len W) (hp : p < len) (hp1 : (vc_F (W p)).kind = 0 → p + 1 < len) (hs : (vc_F (W p)).kind = 0 → (vc_F (W p)).s ≠ 0 → 0 ≤ (vc_F (W p)).i) (hf : vf_ok (vc_F (W p))) (hgo : (vc_F (W p)).code = 6 → 0 ≤ (p : Int) + 1 + (vc_F (W p)).i ∧ (p : Int) + 1 + (vc_F (W p)).i ≤ 1024) (hct : K (1000000 + 0) = some (110, 16)) (hcv : ∀ j, j < 16 → I (1000000 + 0) j = vl_I (vx_cmp j)) (hst : K (1000000 + 1) = some (110, 12)) (hov : ∀ j, j < 12 → I (1000000 + 1) j = vl_I (vb_opp j)) (oa : vc_okA I L 12) (oj : vc_okA I L 89) (tt : vt_okA (vc_A I L 12)) (gg : vt_gA (vc_A I L 12)) (hx9 : I 10 9 = vl_I (p + 1)) (hx10 : I 10 10 = -1) {n sl : Nat} {Q : jv_R → Prop} (hQ : Q = fun X => ∃ I1 L1, X = (some (.int (vl_I (vx_does M (vc_F (W p)) (vc_F (W (p + 1))).i p (vc_A I L 12)).1)), jv_H K I1 L1 R, n, sl) ∧ ((vx_does M (vc_F (W p)) (vc_F (W (p + 1))).i p (vc_A I L 12)).1 = 0 → vc_go (vx_does M (vc_F (W p)) (vc_F (W (p + 1))).i p (vc_A I L 12)).2 I1 L1) ∧ vc_okA I1 L1 89 ∧ vc_fr (fun p => vc_in 12 p ∨ vc_in 89 p ∨ (166 ≤ p ∧ p ≤ 170) ∨ p = 10) I L I1 L1 ∧ ∀ f, I1 12 f = I 12 f ∧ I1 89 f = I 89 f ∧ (f ≠ 9 → f ≠ 10 → I1 10 f = I 10 f)) : jv_Wp 25 18 [(0, .ref 10), (1, .ref pr), (2, .int (vl_I p)), (3, .long (W p))] [] (jv_H K I L R) n sl Q := by
  have hle := hP.2.2.2.1
  have hkn : (L 12 1).toInt ≤ 1073000000 := Int.le_trans gg.2 (by decide)
  have tA : ∀ n, n < 75 → vt_ok (vc_T I L (12 + 2 + n)) := fun n hn => by have q := tt n hn; rw [vc_A1 hn] at q; exact q
  have gA : ∀ n, n < 75 → vc_g I L (12 + 2 + n) := fun n hn => (vt_gA_g gg oa hn).1
  have fA : ∀ n, n < 75 → vc_far I L (12 + 2 + n) := fun n hn => (gA n hn).1
  have m6 : I (12 + 2 + 1) 6 = 6 → 0 ≤ (I (12 + 2 + 1) 7).toInt := (vt_gA_g gg oa (by decide)).2.1
  have pA : ∀ q, q < 75 → I (12 + 2 + q) 6 = 4 → (vl_S L (12 + 2 + q)).low = (vl_S L (12 + 2 + q)).high → (L (12 + 2 + q) 2).toInt ≤ 1073000000 := fun n hn => (vt_gA_g gg oa hn).2.2
  have hM2 : ∀ k o, R 7 k = .ref o → ¬ o = 166 := fun k o z h => absurd (show 227 ≤ 166 from h ▸ hMR k o z) (by decide)
  have k8 := vw_k8 (W p)
  refine jv_Wp.lift (fun _ Kz => jv_Ev.steps jv_i25 1 (pc' := 19) (l' := [(0, .ref 10), (1, .ref pr), (2, .int (vl_I p)), (3, .long (W p))]) (st' := [.long (W p)]) rfl Kz) ?_
  refine jv_Wp.lift (fun _ Kz => jv_Ev.c jv_i25 (pc' := 22) (S' := [.int (vl_I (vc_F (W p)).kind)]) jv_i81 [.long (W p)] rfl rfl rfl rfl rfl rfl (vw_m81 (W p)) rfl rfl Kz) ?_
  refine jv_Wp.bys (q := ((vl_I (vc_F (W p)).kind) = Int32.ofInt 0)) (fun h1 => ?_) (fun h1 => ?_)
  · refine jv_Wp.lift (fun _ Kz => jv_Ev.br jv_i25 (pc' := 64) (st' := []) rfl (by rw [h1]; rfl) Kz) ?_
    refine jv_Wp.lift (fun _ Kz => jv_Ev.steps jv_i25 3 (pc' := 67) (l' := [(0, .ref 10), (1, .ref pr), (2, .int (vl_I p)), (3, .long (W p))]) (st' := [.int (vl_I p), .ref pr, .ref 10]) rfl Kz) ?_
    have k0 : (vc_F (W p)).kind = 0 := (vl_I_inj (by have := vw_k8 (W p); omega) (by decide)).mp h1
    obtain ⟨I1, L1, H1, T1, F1, G1, U1, V1⟩ := vc_number (I := I) (L := L) (R := R) (n := n) (sl := sl) (M := M) p hC hM hMR hP hp (hp1 k0) (hs k0) oa
    refine jv_Wp.lift (fun _ Kz => jv_Ev.c jv_i25 (pc' := 70) (S' := [.int (vl_I (vx_wide M (vc_F (W p)) (vc_F (W (p + 1))).i (vc_A I L 12)).1)]) (G1 := (jv_H K I1 L1 R)) jv_i26 [.ref 10, .ref pr, .int (vl_I p)] rfl rfl rfl rfl (jv_cal rfl (jv_H_at hC.k) rfl rfl) rfl H1 rfl rfl Kz) ?_
    refine jv_Wp.of (jv_Ev.ret jv_i25 rfl rfl) ?_
    rw [hQ]
    have k0 : (vc_F (W p)).kind = 0 := (vl_I_inj (by have := vw_k8 (W p); omega) (by decide)).mp h1
    have e := vx_do0 (M := M) (f := (vc_F (W p))) (i2 := (vc_F (W (p + 1))).i) (p := p) (A := (vc_A I L 12)) k0
    rw [e, vx_one1]
    exact ⟨_, _, rfl, fun z => vc_one T1 (((congrArg Int32.toInt U1).trans (vl_I_int (by omega))).trans (by omega)) ((V1 10 (by decide)).trans hx10) (vc_fr_okA F1 (fun p z => by unfold vc_wk vc_in at *; omega) oj) ((vx_one1 _ _).trans z), vc_fr_okA F1 (fun p z => by unfold vc_wk vc_in at *; omega) oj, vc_fr_mono F1 (fun p z => z.elim (fun z => z.elim Or.inl (fun z => Or.inr (Or.inr (Or.inl z)))) (fun z => Or.inr (Or.inr (Or.inr z)))), fun f => ⟨G1 f, (F1 89 (by unfold vc_wk vc_in; omega)).1 f, fun z9 _ => V1 f z9⟩⟩
  · refine jv_Wp.bys (q := ((vl_I (vc_F (W p)).kind) = Int32.ofInt 1)) (fun h2 => ?_) (fun h2 => ?_)
    · refine jv_Wp.lift (fun _ Kz => jv_Ev.br jv_i25 (pc' := 71) (st' := []) rfl (by rw [h2]; rfl) Kz) ?_
      refine jv_Wp.lift (fun _ Kz => jv_Ev.steps jv_i25 2 (pc' := 73) (l' := [(0, .ref 10), (1, .ref pr), (2, .int (vl_I p)), (3, .long (W p))]) (st' := [.long (W p), .ref 10]) rfl Kz) ?_
      have k0 : ¬ (vc_F (W p)).kind = 0 := fun z => h1 (by rw [z]; rfl)
      have k1 : (vc_F (W p)).kind = 1 := (vl_I_inj (by have := vw_k8 (W p); omega) (by decide)).mp h2
      obtain ⟨I2, L2, H2, T2, F2, G2⟩ := vc_fetch (I := I) (L := L) (R := R) (n := n) (sl := sl) (M := M) (W p) hC hM hf k1 hkn oa tA gA
      refine jv_Wp.lift (fun _ Kz => jv_Ev.c jv_i25 (pc' := 76) (S' := [.int (vl_I (vx_load M (vc_F (W p)) (vc_A I L 12)).1)]) (G1 := (jv_H K I2 L2 R)) jv_i35 [.ref 10, .long (W p)] rfl rfl rfl rfl (jv_cal rfl (jv_H_at hC.k) rfl rfl) rfl H2 rfl rfl Kz) ?_
      refine jv_Wp.of (jv_Ev.ret jv_i25 rfl rfl) ?_
      rw [hQ]
      have k0 : ¬ (vc_F (W p)).kind = 0 := fun z => h1 (by rw [z]; rfl)
      have k1 : (vc_F (W p)).kind = 1 := (vl_I_inj (by have := vw_k8 (W p); omega) (by decide)).mp h2
      have e := vx_do1 (M := M) (f := (vc_F (W p))) (i2 := (vc_F (W (p + 1))).i) (p := p) (A := (vc_A I L 12)) k1
      rw [e, vx_one1]
      exact ⟨_, _, rfl, fun z => vc_one T2 (((congrArg Int32.toInt (((F2 10 (by unfold vc_wk vc_in; omega)).1 9).trans hx9)).trans (vl_I_int (by omega))).trans (by omega)) (((F2 10 (by unfold vc_wk vc_in; omega)).1 10).trans hx10) (vc_fr_okA F2 (fun p z => by unfold vc_wk vc_in at *; omega) oj) ((vx_one1 _ _).trans z), vc_fr_okA F2 (fun p z => by unfold vc_wk vc_in at *; omega) oj, vc_fr_mono F2 (fun p z => z.elim Or.inl (fun z => Or.inr (Or.inr (Or.inl z)))), fun f => ⟨G2 f, (F2 89 (by unfold vc_wk vc_in; omega)).1 f, fun _ _ => (F2 10 (by unfold vc_wk vc_in; omega)).1 f⟩⟩
    · refine jv_Wp.bys (q := ((vl_I (vc_F (W p)).kind) = Int32.ofInt 2)) (fun h3 => ?_) (fun h3 => ?_)
      · refine jv_Wp.lift (fun _ Kz => jv_Ev.br jv_i25 (pc' := 77) (st' := []) rfl (by rw [h3]; rfl) Kz) ?_
        refine jv_Wp.lift (fun _ Kz => jv_Ev.steps jv_i25 2 (pc' := 79) (l' := [(0, .ref 10), (1, .ref pr), (2, .int (vl_I p)), (3, .long (W p))]) (st' := [.long (W p), .ref 10]) rfl Kz) ?_
        have k0 : ¬ (vc_F (W p)).kind = 0 := fun z => h1 (by rw [z]; rfl)
        have k1 : ¬ (vc_F (W p)).kind = 1 := fun z => h2 (by rw [z]; rfl)
        have k2 : (vc_F (W p)).kind = 2 := (vl_I_inj (by have := vw_k8 (W p); omega) (by decide)).mp h3
        obtain ⟨I3, L3, H3, T3, F3, G3⟩ := vc_keepI (I := I) (L := L) (R := R) (n := n) (sl := sl) (M := M) (W p) hC hM hM2 hkn oa tA gA (by omega)
        refine jv_Wp.lift (fun _ Kz => jv_Ev.c jv_i25 (pc' := 82) (S' := [.int (vl_I (vx_store M (vc_F (W p)) (vc_A I L 12)).1)]) (G1 := (jv_H K I3 L3 R)) jv_i37 [.ref 10, .long (W p)] rfl rfl rfl rfl (jv_cal rfl (jv_H_at hC.k) rfl rfl) rfl H3 rfl rfl Kz) ?_
        refine jv_Wp.of (jv_Ev.ret jv_i25 rfl rfl) ?_
        rw [hQ]
        have k0 : ¬ (vc_F (W p)).kind = 0 := fun z => h1 (by rw [z]; rfl)
        have k1 : ¬ (vc_F (W p)).kind = 1 := fun z => h2 (by rw [z]; rfl)
        have k2 : (vc_F (W p)).kind = 2 := (vl_I_inj (by have := vw_k8 (W p); omega) (by decide)).mp h3
        have e := vx_do2 (M := M) (f := (vc_F (W p))) (i2 := (vc_F (W (p + 1))).i) (p := p) (A := (vc_A I L 12)) k2
        rw [e, vx_one1]
        exact ⟨_, _, rfl, fun z => vc_one T3 (((congrArg Int32.toInt (((F3 10 (by unfold vc_wk vc_in; omega)).1 9).trans hx9)).trans (vl_I_int (by omega))).trans (by omega)) (((F3 10 (by unfold vc_wk vc_in; omega)).1 10).trans hx10) (vc_fr_okA F3 (fun p z => by unfold vc_wk vc_in at *; omega) oj) ((vx_one1 _ _).trans z), vc_fr_okA F3 (fun p z => by unfold vc_wk vc_in at *; omega) oj, vc_fr_mono F3 (fun p z => z.elim Or.inl (fun z => Or.inr (Or.inr (Or.inl z)))), fun f => ⟨G3 f, (F3 89 (by unfold vc_wk vc_in; omega)).1 f, fun _ _ => (F3 10 (by unfold vc_wk vc_in; omega)).1 f⟩⟩
      · refine jv_Wp.bys (q := ((vl_I (vc_F (W p)).kind) = Int32.ofInt 3)) (fun h4 => ?_) (fun h4 => ?_)
        · refine jv_Wp.lift (fun _ Kz => jv_Ev.br jv_i25 (pc' := 83) (st' := []) rfl (by rw [h4]; rfl) Kz) ?_
          refine jv_Wp.lift (fun _ Kz => jv_Ev.steps jv_i25 1 (pc' := 84) (l' := [(0, .ref 10), (1, .ref pr), (2, .int (vl_I p)), (3, .long (W p))]) (st' := [.long (W p)]) rfl Kz) ?_
          refine jv_Wp.lift (fun _ Kz => jv_Ev.c jv_i25 (pc' := 87) (S' := [.int (vl_I (vc_F (W p)).mode)]) jv_i84 [.long (W p)] rfl rfl rfl rfl rfl rfl (vw_m84 (W p)) rfl rfl Kz) ?_
          refine jv_Wp.lift (fun _ Kz => jv_Ev.steps jv_i25 1 (pc' := 89) (l' := [(0, .ref 10), (1, .ref pr), (2, .int (vl_I p)), (3, .long (W p))]) (st' := [.int (6 : Int32), .int (vl_I (vc_F (W p)).mode)]) rfl Kz) ?_
          refine jv_Wp.cnd jv_i25 (pt := 100) (pe := 92) (p := (¬ (vl_I (vc_F (W p)).mode) = (6 : Int32))) (q := (¬ (vl_I (vc_F (W p)).mode) = (6 : Int32))) rfl jv_bc_ne rfl rfl Iff.rfl (fun h5 => ?_) (fun h5 => ?_)
          · refine jv_Wp.lift (fun _ Kz => jv_Ev.steps jv_i25 2 (pc' := 102) (l' := [(0, .ref 10), (1, .ref pr), (2, .int (vl_I p)), (3, .long (W p))]) (st' := [.long (W p), .ref 10]) rfl Kz) ?_
            have k0 : ¬ (vc_F (W p)).kind = 0 := fun z => h1 (by rw [z]; rfl)
            have k1 : ¬ (vc_F (W p)).kind = 1 := fun z => h2 (by rw [z]; rfl)
            have k2 : ¬ (vc_F (W p)).kind = 2 := fun z => h3 (by rw [z]; rfl)
            have k3 : (vc_F (W p)).kind = 3 := (vl_I_inj (by have := vw_k8 (W p); omega) (by decide)).mp h4
            have q6 : ¬ (vc_F (W p)).mode = 6 := fun z => h5 (by rw [z]; rfl)
            obtain ⟨I4, L4, H4, T4, F4, G4⟩ := vc_keepR (I := I) (L := L) (R := R) (n := n) (sl := sl) (M := M) (W p) hC hM hM2 hkn oa tA gA k3
            refine jv_Wp.lift (fun _ Kz => jv_Ev.c jv_i25 (pc' := 105) (S' := [.int (vl_I (vx_store M (vc_F (W p)) (vc_A I L 12)).1)]) (G1 := (jv_H K I4 L4 R)) jv_i37 [.ref 10, .long (W p)] rfl rfl rfl rfl (jv_cal rfl (jv_H_at hC.k) rfl rfl) rfl H4 rfl rfl Kz) ?_
            refine jv_Wp.of (jv_Ev.ret jv_i25 rfl rfl) ?_
            rw [hQ]
            have k0 : ¬ (vc_F (W p)).kind = 0 := fun z => h1 (by rw [z]; rfl)
            have k1 : ¬ (vc_F (W p)).kind = 1 := fun z => h2 (by rw [z]; rfl)
            have k2 : ¬ (vc_F (W p)).kind = 2 := fun z => h3 (by rw [z]; rfl)
            have k3 : (vc_F (W p)).kind = 3 := (vl_I_inj (by have := vw_k8 (W p); omega) (by decide)).mp h4
            have q6 : ¬ (vc_F (W p)).mode = 6 := fun z => h5 (by rw [z]; rfl)
            have e := vx_do3s (M := M) (f := (vc_F (W p))) (i2 := (vc_F (W (p + 1))).i) (p := p) (A := (vc_A I L 12)) k3 q6
            rw [e, vx_one1]
            exact ⟨_, _, rfl, fun z => vc_one T4 (((congrArg Int32.toInt (((F4 10 (by unfold vc_wk vc_in; omega)).1 9).trans hx9)).trans (vl_I_int (by omega))).trans (by omega)) (((F4 10 (by unfold vc_wk vc_in; omega)).1 10).trans hx10) (vc_fr_okA F4 (fun p z => by unfold vc_wk vc_in at *; omega) oj) ((vx_one1 _ _).trans z), vc_fr_okA F4 (fun p z => by unfold vc_wk vc_in at *; omega) oj, vc_fr_mono F4 (fun p z => z.elim Or.inl (fun z => Or.inr (Or.inr (Or.inl z)))), fun f => ⟨G4 f, (F4 89 (by unfold vc_wk vc_in; omega)).1 f, fun _ _ => (F4 10 (by unfold vc_wk vc_in; omega)).1 f⟩⟩
          · refine jv_Wp.lift (fun _ Kz => jv_Ev.steps jv_i25 2 (pc' := 94) (l' := [(0, .ref 10), (1, .ref pr), (2, .int (vl_I p)), (3, .long (W p))]) (st' := [.long (W p), .ref 10]) rfl Kz) ?_
            have k0 : ¬ (vc_F (W p)).kind = 0 := fun z => h1 (by rw [z]; rfl)
            have k1 : ¬ (vc_F (W p)).kind = 1 := fun z => h2 (by rw [z]; rfl)
            have k2 : ¬ (vc_F (W p)).kind = 2 := fun z => h3 (by rw [z]; rfl)
            have k3 : (vc_F (W p)).kind = 3 := (vl_I_inj (by have := vw_k8 (W p); omega) (by decide)).mp h4
            have q6 : (vc_F (W p)).mode = 6 := (vl_I_inj (by have := vw_m8 (W p); omega) (by decide)).mp (Classical.not_not.mp h5)
            obtain ⟨I5, L5, H5, T5, F5, G5⟩ := vc_atomic (I := I) (L := L) (R := R) (n := n) (sl := sl) (M := M) (W p) hC hM hkn oa tA gA
            refine jv_Wp.lift (fun _ Kz => jv_Ev.c jv_i25 (pc' := 97) (S' := [.int (vl_I (vx_atomic M (vc_F (W p)) (vc_A I L 12)).1)]) (G1 := (jv_H K I5 L5 R)) jv_i39 [.ref 10, .long (W p)] rfl rfl rfl rfl (jv_cal rfl (jv_H_at hC.k) rfl rfl) rfl H5 rfl rfl Kz) ?_
            refine jv_Wp.lift (fun _ Kz => jv_Ev.steps jv_i25 1 (pc' := 105) (l' := [(0, .ref 10), (1, .ref pr), (2, .int (vl_I p)), (3, .long (W p))]) (st' := [.int (vl_I (vx_atomic M (vc_F (W p)) (vc_A I L 12)).1)]) rfl Kz) ?_
            refine jv_Wp.of (jv_Ev.ret jv_i25 rfl rfl) ?_
            rw [hQ]
            have k0 : ¬ (vc_F (W p)).kind = 0 := fun z => h1 (by rw [z]; rfl)
            have k1 : ¬ (vc_F (W p)).kind = 1 := fun z => h2 (by rw [z]; rfl)
            have k2 : ¬ (vc_F (W p)).kind = 2 := fun z => h3 (by rw [z]; rfl)
            have k3 : (vc_F (W p)).kind = 3 := (vl_I_inj (by have := vw_k8 (W p); omega) (by decide)).mp h4
            have q6 : (vc_F (W p)).mode = 6 := (vl_I_inj (by have := vw_m8 (W p); omega) (by decide)).mp (Classical.not_not.mp h5)
            have e := vx_do3a (M := M) (f := (vc_F (W p))) (i2 := (vc_F (W (p + 1))).i) (p := p) (A := (vc_A I L 12)) k3 q6
            rw [e, vx_one1]
            exact ⟨_, _, rfl, fun z => vc_one T5 (((congrArg Int32.toInt (((F5 10 (by unfold vc_wk vc_in; omega)).1 9).trans hx9)).trans (vl_I_int (by omega))).trans (by omega)) (((F5 10 (by unfold vc_wk vc_in; omega)).1 10).trans hx10) (vc_fr_okA F5 (fun p z => by unfold vc_wk vc_in at *; omega) oj) ((vx_one1 _ _).trans z), vc_fr_okA F5 (fun p z => by unfold vc_wk vc_in at *; omega) oj, vc_fr_mono F5 (fun p z => z.elim Or.inl (fun z => Or.inr (Or.inr (Or.inl z)))), fun f => ⟨G5 f, (F5 89 (by unfold vc_wk vc_in; omega)).1 f, fun _ _ => (F5 10 (by unfold vc_wk vc_in; omega)).1 f⟩⟩
        · refine jv_Wp.bys (q := ((vl_I (vc_F (W p)).kind) = Int32.ofInt 5)) (fun h6 => ?_) (fun h6 => ?_)
          · refine jv_Wp.lift (fun _ Kz => jv_Ev.br jv_i25 (pc' := 106) (st' := []) rfl (by rw [h6]; rfl) Kz) ?_
            refine jv_Wp.lift (fun _ Kz => jv_Ev.steps jv_i25 2 (pc' := 116) (l' := [(0, .ref 10), (1, .ref pr), (2, .int (vl_I p)), (3, .long (W p))]) (st' := [.long (W p)]) rfl Kz) ?_
            refine jv_Wp.lift (fun _ Kz => jv_Ev.c jv_i25 (pc' := 119) (S' := [.int (vl_I (vc_F (W p)).code)]) jv_i80 [.long (W p)] rfl rfl rfl rfl rfl rfl (vw_m80 (W p)) rfl rfl Kz) ?_
            refine jv_Wp.bys (q := ((vl_I (vc_F (W p)).code) = Int32.ofInt 5)) (fun h7 => ?_) (fun h7 => ?_)
            · refine jv_Wp.lift (fun _ Kz => jv_Ev.br jv_i25 (pc' := 160) (st' := []) rfl (by rw [h7]; rfl) Kz) ?_
              refine jv_Wp.lift (fun _ Kz => jv_Ev.steps jv_i25 2 (pc' := 162) (l' := [(0, .ref 10), (1, .ref pr), (2, .int (vl_I p)), (3, .long (W p))]) (st' := [.ref 10, .ref 10]) rfl Kz) ?_
              refine jv_Wp.lift (fun _ Kz => jv_Ev.m jv_i25 (pc' := 165) (st' := [.int (I 10 9), .ref 10]) (G' := (jv_H K I L R)) rfl rfl (jv_m_getI hC.k rfl rfl rfl) Kz) ?_
              refine jv_Wp.lift (fun _ Kz => jv_Ev.steps jv_i25 1 (pc' := 166) (l' := [(0, .ref 10), (1, .ref pr), (2, .int (vl_I p)), (3, .long (W p))]) (st' := [.long (W p), .int (I 10 9), .ref 10]) rfl Kz) ?_
              refine jv_Wp.lift (fun _ Kz => jv_Ev.c jv_i25 (pc' := 169) (S' := [.int (jv_wfoffset (W p)), .int (I 10 9), .ref 10]) jv_i88 [.long (W p)] rfl rfl rfl rfl rfl rfl (jv_s88 (W p)) rfl rfl Kz) ?_
              refine jv_Wp.lift (fun _ Kz => jv_Ev.steps jv_i25 1 (pc' := 170) (l' := [(0, .ref 10), (1, .ref pr), (2, .int (vl_I p)), (3, .long (W p))]) (st' := [.int ((I 10 9) + (jv_wfoffset (W p))), .ref 10]) rfl Kz) ?_
              refine jv_Wp.lift (fun _ Kz => jv_Ev.m jv_i25 (pc' := 173) (st' := []) (G' := (jv_H K (jv_u I 10 9 ((I 10 9) + (jv_wfoffset (W p)))) L R)) rfl rfl (jv_m_putI hC.k rfl rfl rfl rfl) Kz) ?_
              refine jv_Wp.lift (fun _ Kz => jv_Ev.steps jv_i25 1 (pc' := 174) (l' := [(0, .ref 10), (1, .ref pr), (2, .int (vl_I p)), (3, .long (W p))]) (st' := [.int (0 : Int32)]) rfl Kz) ?_
              refine jv_Wp.of (jv_Ev.ret jv_i25 rfl rfl) ?_
              rw [hQ]
              have k0 : ¬ (vc_F (W p)).kind = 0 := fun z => h1 (by rw [z]; rfl)
              have k1 : ¬ (vc_F (W p)).kind = 1 := fun z => h2 (by rw [z]; rfl)
              have k2 : ¬ (vc_F (W p)).kind = 2 := fun z => h3 (by rw [z]; rfl)
              have k3 : ¬ (vc_F (W p)).kind = 3 := fun z => h4 (by rw [z]; rfl)
              have k5 : (vc_F (W p)).kind = 5 := (vl_I_inj (by have := vw_k8 (W p); omega) (by decide)).mp h6
              have c5 : (vc_F (W p)).code = 5 := (vl_I_inj (Nat.lt_trans (Nat.mod_lt _ (by decide) : vc_N (W p) % 256 < 256) (by decide)) (by decide)).mp h7
              have kj : (vc_F (W p)).kind = 5 ∨ (vc_F (W p)).kind = 6 := by omega
              have e : (vx_does M (vc_F (W p)) (vc_F (W (p + 1))).i p (vc_A I L 12)) = (0, [((p : Int) + 1 + (vc_F (W p)).o, (vc_A I L 12))]) := (vx_doj kj).trans (if_pos c5)
              rw [e]
              refine ⟨_, _, rfl, fun _ => vc_go_one ?_ ((jv_u_j _ _ _ _ (by decide)).trans hx10) (vc_fr_A (vc_fr_u10 I L 9 _) (fun p z => by unfold vc_in at z; omega)) (vc_fr_okA (vc_fr_u10 I L 9 _) (fun p z => by unfold vc_in at z; omega) oa) (vc_fr_okA (vc_fr_u10 I L 9 _) (fun p z => by unfold vc_in at z; omega) oj), vc_fr_okA (vc_fr_u10 I L 9 _) (fun p z => by unfold vc_in at z; omega) oj, vc_fr_mono (vc_fr_u10 I L 9 _) (fun p z => Or.inr (Or.inr (Or.inr z))), fun f => ⟨jv_u_o _ _ _ _ (by decide), jv_u_o _ _ _ _ (by decide), fun z9 _ => jv_u_j _ _ _ _ z9⟩⟩
              rw [jv_u_self, hx9]; exact (by rw [← vl_I_p1]; exact vw_off3 (W p) p (by omega))
            · refine jv_Wp.bys (q := ((vl_I (vc_F (W p)).code) = Int32.ofInt 6)) (fun h8 => ?_) (fun h8 => ?_)
              · refine jv_Wp.lift (fun _ Kz => jv_Ev.br jv_i25 (pc' := 175) (st' := []) rfl (by rw [h8]; rfl) Kz) ?_
                refine jv_Wp.lift (fun _ Kz => jv_Ev.steps jv_i25 2 (pc' := 177) (l' := [(0, .ref 10), (1, .ref pr), (2, .int (vl_I p)), (3, .long (W p))]) (st' := [.ref 10, .ref 10]) rfl Kz) ?_
                refine jv_Wp.lift (fun _ Kz => jv_Ev.m jv_i25 (pc' := 180) (st' := [.int (I 10 9), .ref 10]) (G' := (jv_H K I L R)) rfl rfl (jv_m_getI hC.k rfl rfl rfl) Kz) ?_
                refine jv_Wp.lift (fun _ Kz => jv_Ev.steps jv_i25 1 (pc' := 181) (l' := [(0, .ref 10), (1, .ref pr), (2, .int (vl_I p)), (3, .long (W p))]) (st' := [.long (W p), .int (I 10 9), .ref 10]) rfl Kz) ?_
                refine jv_Wp.lift (fun _ Kz => jv_Ev.c jv_i25 (pc' := 184) (S' := [.int (jv_wfimmediate (W p)), .int (I 10 9), .ref 10]) jv_i89 [.long (W p)] rfl rfl rfl rfl rfl rfl (jv_s89 (W p)) rfl rfl Kz) ?_
                refine jv_Wp.lift (fun _ Kz => jv_Ev.steps jv_i25 1 (pc' := 185) (l' := [(0, .ref 10), (1, .ref pr), (2, .int (vl_I p)), (3, .long (W p))]) (st' := [.int ((I 10 9) + (jv_wfimmediate (W p))), .ref 10]) rfl Kz) ?_
                refine jv_Wp.lift (fun _ Kz => jv_Ev.m jv_i25 (pc' := 188) (st' := []) (G' := (jv_H K (jv_u I 10 9 ((I 10 9) + (jv_wfimmediate (W p)))) L R)) rfl rfl (jv_m_putI hC.k rfl rfl rfl rfl) Kz) ?_
                refine jv_Wp.lift (fun _ Kz => jv_Ev.steps jv_i25 1 (pc' := 189) (l' := [(0, .ref 10), (1, .ref pr), (2, .int (vl_I p)), (3, .long (W p))]) (st' := [.int (0 : Int32)]) rfl Kz) ?_
                refine jv_Wp.of (jv_Ev.ret jv_i25 rfl rfl) ?_
                rw [hQ]
                have k0 : ¬ (vc_F (W p)).kind = 0 := fun z => h1 (by rw [z]; rfl)
                have k1 : ¬ (vc_F (W p)).kind = 1 := fun z => h2 (by rw [z]; rfl)
                have k2 : ¬ (vc_F (W p)).kind = 2 := fun z => h3 (by rw [z]; rfl)
                have k3 : ¬ (vc_F (W p)).kind = 3 := fun z => h4 (by rw [z]; rfl)
                have k5 : (vc_F (W p)).kind = 5 := (vl_I_inj (by have := vw_k8 (W p); omega) (by decide)).mp h6
                have c5 : ¬ (vc_F (W p)).code = 5 := fun z => h7 (by rw [z]; rfl)
                have c6 : (vc_F (W p)).code = 6 := (vl_I_inj (Nat.lt_trans (Nat.mod_lt _ (by decide) : vc_N (W p) % 256 < 256) (by decide)) (by decide)).mp h8
                have kj : (vc_F (W p)).kind = 5 ∨ (vc_F (W p)).kind = 6 := by omega
                have e : (vx_does M (vc_F (W p)) (vc_F (W (p + 1))).i p (vc_A I L 12)) = (0, [((p : Int) + 1 + (vc_F (W p)).i, (vc_A I L 12))]) := (vx_doj kj).trans ((if_neg (by omega)).trans (if_pos c6))
                rw [e]
                refine ⟨_, _, rfl, fun _ => vc_go_one ?_ ((jv_u_j _ _ _ _ (by decide)).trans hx10) (vc_fr_A (vc_fr_u10 I L 9 _) (fun p z => by unfold vc_in at z; omega)) (vc_fr_okA (vc_fr_u10 I L 9 _) (fun p z => by unfold vc_in at z; omega) oa) (vc_fr_okA (vc_fr_u10 I L 9 _) (fun p z => by unfold vc_in at z; omega) oj), vc_fr_okA (vc_fr_u10 I L 9 _) (fun p z => by unfold vc_in at z; omega) oj, vc_fr_mono (vc_fr_u10 I L 9 _) (fun p z => Or.inr (Or.inr (Or.inr z))), fun f => ⟨jv_u_o _ _ _ _ (by decide), jv_u_o _ _ _ _ (by decide), fun z9 _ => jv_u_j _ _ _ _ z9⟩⟩
                rw [jv_u_self, hx9]; exact (vw_imm3 (W p) p (by omega) (hgo c6))
              · refine jv_Wp.bys (q := ((vl_I (vc_F (W p)).code) = Int32.ofInt 133)) (fun h9 => ?_) (fun h9 => ?_)
                · refine jv_Wp.lift (fun _ Kz => jv_Ev.br jv_i25 (pc' := 190) (st' := []) rfl (by rw [h9]; rfl) Kz) ?_
                  refine jv_Wp.lift (fun _ Kz => jv_Ev.steps jv_i25 2 (pc' := 192) (l' := [(0, .ref 10), (1, .ref pr), (2, .int (vl_I p)), (3, .long (W p))]) (st' := [.long (W p), .ref 10]) rfl Kz) ?_
                  refine jv_Wp.lift (fun _ Kz => jv_Ev.c jv_i25 (pc' := 195) (S' := [.int (jv_wfimmediate (W p)), .ref 10]) jv_i89 [.long (W p)] rfl rfl rfl rfl rfl rfl (jv_s89 (W p)) rfl rfl Kz) ?_
                  refine jv_Wp.lift (fun _ Kz => jv_Ev.steps jv_i25 1 (pc' := 196) (l' := [(0, .ref 10), (1, .ref pr), (2, .int (vl_I p)), (3, .long (W p))]) (st' := [.int (vl_I p), .int (jv_wfimmediate (W p)), .ref 10]) rfl Kz) ?_
                  have k0 : ¬ (vc_F (W p)).kind = 0 := fun z => h1 (by rw [z]; rfl)
                  have k1 : ¬ (vc_F (W p)).kind = 1 := fun z => h2 (by rw [z]; rfl)
                  have k2 : ¬ (vc_F (W p)).kind = 2 := fun z => h3 (by rw [z]; rfl)
                  have k3 : ¬ (vc_F (W p)).kind = 3 := fun z => h4 (by rw [z]; rfl)
                  have k5 : (vc_F (W p)).kind = 5 := (vl_I_inj (by have := vw_k8 (W p); omega) (by decide)).mp h6
                  have c5 : ¬ (vc_F (W p)).code = 5 := fun z => h7 (by rw [z]; rfl)
                  have c6 : ¬ (vc_F (W p)).code = 6 := fun z => h8 (by rw [z]; rfl)
                  have c133 : (vc_F (W p)).code = 133 := (vl_I_inj (Nat.lt_trans (Nat.mod_lt _ (by decide) : vc_N (W p) % 256 < 256) (by decide)) (by decide)).mp h9
                  obtain ⟨I6, L6, H6, T6, F6, G6⟩ := vc_call (I := I) (L := L) (R := R) (n := n) (sl := sl) (M := M) (jv_wfimmediate (W p)) p hC hM (by omega) hkn oa tA gA m6
                  refine jv_Wp.lift (fun _ Kz => jv_Ev.c jv_i25 (pc' := 199) (S' := [.int (vl_I (vx_call M (vc_F (W p)).i p (vc_A I L 12)).1)]) (G1 := (jv_H K I6 L6 R)) jv_i45 [.ref 10, .int (jv_wfimmediate (W p)), .int (vl_I p)] rfl rfl rfl rfl (jv_cal rfl (jv_H_at hC.k) rfl rfl) rfl H6 rfl rfl Kz) ?_
                  refine jv_Wp.of (jv_Ev.ret jv_i25 rfl rfl) ?_
                  rw [hQ]
                  have k0 : ¬ (vc_F (W p)).kind = 0 := fun z => h1 (by rw [z]; rfl)
                  have k1 : ¬ (vc_F (W p)).kind = 1 := fun z => h2 (by rw [z]; rfl)
                  have k2 : ¬ (vc_F (W p)).kind = 2 := fun z => h3 (by rw [z]; rfl)
                  have k3 : ¬ (vc_F (W p)).kind = 3 := fun z => h4 (by rw [z]; rfl)
                  have k5 : (vc_F (W p)).kind = 5 := (vl_I_inj (by have := vw_k8 (W p); omega) (by decide)).mp h6
                  have c5 : ¬ (vc_F (W p)).code = 5 := fun z => h7 (by rw [z]; rfl)
                  have c6 : ¬ (vc_F (W p)).code = 6 := fun z => h8 (by rw [z]; rfl)
                  have c133 : (vc_F (W p)).code = 133 := (vl_I_inj (Nat.lt_trans (Nat.mod_lt _ (by decide) : vc_N (W p) % 256 < 256) (by decide)) (by decide)).mp h9
                  have kj : (vc_F (W p)).kind = 5 ∨ (vc_F (W p)).kind = 6 := by omega
                  have e : (vx_does M (vc_F (W p)) (vc_F (W (p + 1))).i p (vc_A I L 12)) = vx_one (vx_call M (vc_F (W p)).i p (vc_A I L 12)) (p + 1) := (vx_doj kj).trans ((if_neg (by omega)).trans ((if_neg (by omega)).trans (if_pos c133)))
                  rw [e, vx_one1]
                  exact ⟨_, _, rfl, fun z => vc_one T6 (((congrArg Int32.toInt (((F6 10 (by unfold vc_wk vc_in; omega)).1 9).trans hx9)).trans (vl_I_int (by omega))).trans (by omega)) (((F6 10 (by unfold vc_wk vc_in; omega)).1 10).trans hx10) (vc_fr_okA F6 (fun p z => by unfold vc_wk vc_in at *; omega) oj) ((vx_one1 _ _).trans z), vc_fr_okA F6 (fun p z => by unfold vc_wk vc_in at *; omega) oj, vc_fr_mono F6 (fun p z => z.elim Or.inl (fun z => Or.inr (Or.inr (Or.inl z)))), fun f => ⟨G6 f, (F6 89 (by unfold vc_wk vc_in; omega)).1 f, fun _ _ => (F6 10 (by unfold vc_wk vc_in; omega)).1 f⟩⟩
                · refine jv_Wp.bys (q := ((vl_I (vc_F (W p)).code) = Int32.ofInt 149)) (fun h10 => ?_) (fun h10 => ?_)
                  · refine jv_Wp.lift (fun _ Kz => jv_Ev.br jv_i25 (pc' := 200) (st' := []) rfl (by rw [h10]; rfl) Kz) ?_
                    refine jv_Wp.lift (fun _ Kz => jv_Ev.steps jv_i25 2 (pc' := 202) (l' := [(0, .ref 10), (1, .ref pr), (2, .int (vl_I p)), (3, .long (W p))]) (st' := [.int (-1 : Int32), .ref 10]) rfl Kz) ?_
                    refine jv_Wp.lift (fun _ Kz => jv_Ev.m jv_i25 (pc' := 205) (st' := []) (G' := (jv_H K (jv_u I 10 9 (-1 : Int32)) L R)) rfl rfl (jv_m_putI hC.k rfl rfl rfl rfl) Kz) ?_
                    refine jv_Wp.lift (fun _ Kz => jv_Ev.steps jv_i25 3 (pc' := 209) (l' := [(0, .ref 10), (1, .ref pr), (2, .int (vl_I p)), (3, .long (W p))]) (st' := [.int (6 : Int32), .int (0 : Int32), .ref 10]) rfl Kz) ?_
                    obtain ⟨I7, L7, H7, ei7, el7⟩ := vc_numberIn (I := (jv_u I 10 9 (-1 : Int32))) (L := L) (R := R) (n := n) (sl := sl) 0 6 hC (by decide) (vc_fr_okA (vc_fr_u10 I L 9 _) (fun p z => by unfold vc_in at z; omega) oa)
                    rw [ei7, el7, vc_fr_A (vc_fr_u10 I L 9 _) (fun p z => by unfold vc_in at z; omega)] at H7
                    refine jv_Wp.lift (fun _ Kz => jv_Ev.c jv_i25 (pc' := 212) (S' := [.int (vl_I (vx_isnum (vc_A I L 12) 0 6))]) jv_i40 [.ref 10, .int (0 : Int32), .int (6 : Int32)] rfl rfl rfl rfl (jv_cal rfl (jv_H_at hC.k) rfl rfl) rfl H7 rfl rfl Kz) ?_
                    refine jv_Wp.of (jv_Ev.ret jv_i25 rfl rfl) ?_
                    rw [hQ]
                    have k0 : ¬ (vc_F (W p)).kind = 0 := fun z => h1 (by rw [z]; rfl)
                    have k1 : ¬ (vc_F (W p)).kind = 1 := fun z => h2 (by rw [z]; rfl)
                    have k2 : ¬ (vc_F (W p)).kind = 2 := fun z => h3 (by rw [z]; rfl)
                    have k3 : ¬ (vc_F (W p)).kind = 3 := fun z => h4 (by rw [z]; rfl)
                    have k5 : (vc_F (W p)).kind = 5 := (vl_I_inj (by have := vw_k8 (W p); omega) (by decide)).mp h6
                    have c5 : ¬ (vc_F (W p)).code = 5 := fun z => h7 (by rw [z]; rfl)
                    have c6 : ¬ (vc_F (W p)).code = 6 := fun z => h8 (by rw [z]; rfl)
                    have c133 : ¬ (vc_F (W p)).code = 133 := fun z => h9 (by rw [z]; rfl)
                    have c149 : (vc_F (W p)).code = 149 := (vl_I_inj (Nat.lt_trans (Nat.mod_lt _ (by decide) : vc_N (W p) % 256 < 256) (by decide)) (by decide)).mp h10
                    have kj : (vc_F (W p)).kind = 5 ∨ (vc_F (W p)).kind = 6 := by omega
                    have e : (vx_does M (vc_F (W p)) (vc_F (W (p + 1))).i p (vc_A I L 12)) = (vx_isnum (vc_A I L 12) 0 6, []) := (vx_doj kj).trans ((if_neg (by omega)).trans ((if_neg (by omega)).trans ((if_neg (by omega)).trans (if_pos c149))))
                    rw [e]
                    exact ⟨_, _, rfl, fun _ => vc_go_none (jv_u_self _ _ _ _) ((jv_u_j _ _ _ _ (by decide)).trans hx10) (vc_fr_okA (vc_fr_u10 I L 9 _) (fun p z => by unfold vc_in at z; omega) oa) (vc_fr_okA (vc_fr_u10 I L 9 _) (fun p z => by unfold vc_in at z; omega) oj), vc_fr_okA (vc_fr_u10 I L 9 _) (fun p z => by unfold vc_in at z; omega) oj, vc_fr_mono (vc_fr_u10 I L 9 _) (fun p z => Or.inr (Or.inr (Or.inr z))), fun f => ⟨jv_u_o _ _ _ _ (by decide), jv_u_o _ _ _ _ (by decide), fun z9 _ => jv_u_j _ _ _ _ z9⟩⟩
                  · refine jv_Wp.lift (fun _ Kz => jv_Ev.br jv_i25 (pc' := 213) (st' := []) rfl (jv_lsw_def (List.forall_mem_cons.mpr ⟨(jv_ne_toInt (k := 5) h7), List.forall_mem_cons.mpr ⟨(jv_ne_toInt (k := 6) h8), List.forall_mem_cons.mpr ⟨(jv_ne_toInt (k := 133) h9), List.forall_mem_cons.mpr ⟨(jv_ne_toInt (k := 149) h10), fun _ h => absurd h List.not_mem_nil⟩⟩⟩⟩)) Kz) ?_
                    refine jv_Wp.lift (fun _ Kz => jv_Ev.steps jv_i25 3 (pc' := 216) (l' := [(0, .ref 10), (1, .ref pr), (2, .int (vl_I p)), (3, .long (W p))]) (st' := [.long (W p), .int (vl_I p), .ref 10]) rfl Kz) ?_
                    have k0 : ¬ (vc_F (W p)).kind = 0 := fun z => h1 (by rw [z]; rfl)
                    have k1 : ¬ (vc_F (W p)).kind = 1 := fun z => h2 (by rw [z]; rfl)
                    have k2 : ¬ (vc_F (W p)).kind = 2 := fun z => h3 (by rw [z]; rfl)
                    have k3 : ¬ (vc_F (W p)).kind = 3 := fun z => h4 (by rw [z]; rfl)
                    have k5 : (vc_F (W p)).kind = 5 := (vl_I_inj (by have := vw_k8 (W p); omega) (by decide)).mp h6
                    have c5 : ¬ (vc_F (W p)).code = 5 := fun z => h7 (by rw [z]; rfl)
                    have c6 : ¬ (vc_F (W p)).code = 6 := fun z => h8 (by rw [z]; rfl)
                    have c133 : ¬ (vc_F (W p)).code = 133 := fun z => h9 (by rw [z]; rfl)
                    have c149 : ¬ (vc_F (W p)).code = 149 := fun z => h10 (by rw [z]; rfl)
                    rcases Bool.eq_false_or_eq_true (vc_F (W p)).bit3 with hb | hb
                    · obtain ⟨I8, L8, H8, T8, O8, F8, G8⟩ := vc_jumpR (I := I) (L := L) (R := R) (n := n) (sl := sl) (W p) p hC hct hcv hst hov hb oa oj pA
                      refine jv_Wp.lift (fun _ Kz => jv_Ev.c jv_i25 (pc' := 219) (S' := [.int (vl_I (vx_jump (vc_F (W p)) (vc_A I L 12)).1)]) (G1 := (jv_H K I8 L8 R)) jv_i41 [.ref 10, .int (vl_I p), .long (W p)] rfl rfl rfl rfl (jv_cal rfl (jv_H_at hC.k) rfl rfl) rfl H8 rfl rfl Kz) ?_
                      refine jv_Wp.of (jv_Ev.ret jv_i25 rfl rfl) ?_
                      rw [hQ]
                      have k0 : ¬ (vc_F (W p)).kind = 0 := fun z => h1 (by rw [z]; rfl)
                      have k1 : ¬ (vc_F (W p)).kind = 1 := fun z => h2 (by rw [z]; rfl)
                      have k2 : ¬ (vc_F (W p)).kind = 2 := fun z => h3 (by rw [z]; rfl)
                      have k3 : ¬ (vc_F (W p)).kind = 3 := fun z => h4 (by rw [z]; rfl)
                      have k5 : (vc_F (W p)).kind = 5 := (vl_I_inj (by have := vw_k8 (W p); omega) (by decide)).mp h6
                      have c5 : ¬ (vc_F (W p)).code = 5 := fun z => h7 (by rw [z]; rfl)
                      have c6 : ¬ (vc_F (W p)).code = 6 := fun z => h8 (by rw [z]; rfl)
                      have c133 : ¬ (vc_F (W p)).code = 133 := fun z => h9 (by rw [z]; rfl)
                      have c149 : ¬ (vc_F (W p)).code = 149 := fun z => h10 (by rw [z]; rfl)
                      have kj : (vc_F (W p)).kind = 5 ∨ (vc_F (W p)).kind = 6 := by omega
                      have e : (vx_does M (vc_F (W p)) (vc_F (W (p + 1))).i p (vc_A I L 12)) = (if (vx_jump (vc_F (W p)) (vc_A I L 12)).1 ≠ 0 then ((vx_jump (vc_F (W p)) (vc_A I L 12)).1, []) else (0, (match (vx_jump (vc_F (W p)) (vc_A I L 12)).2.1 with | some B => [((p : Int) + 1, B)] | none => []) ++ (match (vx_jump (vc_F (W p)) (vc_A I L 12)).2.2 with | some B => [((p : Int) + 1 + (vc_F (W p)).o, B)] | none => []))) := (vx_doj kj).trans ((if_neg (by omega)).trans ((if_neg (by omega)).trans ((if_neg (by omega)).trans (if_neg (by omega)))))
                      have e1 : (vx_does M (vc_F (W p)) (vc_F (W (p + 1))).i p (vc_A I L 12)).1 = (vx_jump (vc_F (W p)) (vc_A I L 12)).1 := by
                        rw [e]; by_cases c : (vx_jump (vc_F (W p)) (vc_A I L 12)).1 ≠ 0
                        · rw [if_pos c]
                        · rw [if_neg c]; exact (Classical.not_not.mp c).symm
                      rw [e1]
                      refine ⟨_, _, rfl, fun z => ?_, O8, vc_fr_mono F8 (fun p z => z.imp id (fun z => z.imp id (fun z => z.imp (fun z => by omega) id))), fun f => G8 f⟩
                      rw [e, if_neg (fun c => c z)]
                      exact vc_go_jp (T8 z) ((congrArg Int32.toInt hx9).trans (vl_I_int (by omega))) (vw_off3 (W p) p (by omega))
                    · obtain ⟨I9, L9, H9, T9, O9, F9, G9⟩ := vc_jumpI (I := I) (L := L) (R := R) (n := n) (sl := sl) (W p) p hC hct hcv hst hov hb oa oj pA
                      refine jv_Wp.lift (fun _ Kz => jv_Ev.c jv_i25 (pc' := 219) (S' := [.int (vl_I (vx_jump (vc_F (W p)) (vc_A I L 12)).1)]) (G1 := (jv_H K I9 L9 R)) jv_i41 [.ref 10, .int (vl_I p), .long (W p)] rfl rfl rfl rfl (jv_cal rfl (jv_H_at hC.k) rfl rfl) rfl H9 rfl rfl Kz) ?_
                      refine jv_Wp.of (jv_Ev.ret jv_i25 rfl rfl) ?_
                      rw [hQ]
                      have k0 : ¬ (vc_F (W p)).kind = 0 := fun z => h1 (by rw [z]; rfl)
                      have k1 : ¬ (vc_F (W p)).kind = 1 := fun z => h2 (by rw [z]; rfl)
                      have k2 : ¬ (vc_F (W p)).kind = 2 := fun z => h3 (by rw [z]; rfl)
                      have k3 : ¬ (vc_F (W p)).kind = 3 := fun z => h4 (by rw [z]; rfl)
                      have k5 : (vc_F (W p)).kind = 5 := (vl_I_inj (by have := vw_k8 (W p); omega) (by decide)).mp h6
                      have c5 : ¬ (vc_F (W p)).code = 5 := fun z => h7 (by rw [z]; rfl)
                      have c6 : ¬ (vc_F (W p)).code = 6 := fun z => h8 (by rw [z]; rfl)
                      have c133 : ¬ (vc_F (W p)).code = 133 := fun z => h9 (by rw [z]; rfl)
                      have c149 : ¬ (vc_F (W p)).code = 149 := fun z => h10 (by rw [z]; rfl)
                      have kj : (vc_F (W p)).kind = 5 ∨ (vc_F (W p)).kind = 6 := by omega
                      have e : (vx_does M (vc_F (W p)) (vc_F (W (p + 1))).i p (vc_A I L 12)) = (if (vx_jump (vc_F (W p)) (vc_A I L 12)).1 ≠ 0 then ((vx_jump (vc_F (W p)) (vc_A I L 12)).1, []) else (0, (match (vx_jump (vc_F (W p)) (vc_A I L 12)).2.1 with | some B => [((p : Int) + 1, B)] | none => []) ++ (match (vx_jump (vc_F (W p)) (vc_A I L 12)).2.2 with | some B => [((p : Int) + 1 + (vc_F (W p)).o, B)] | none => []))) := (vx_doj kj).trans ((if_neg (by omega)).trans ((if_neg (by omega)).trans ((if_neg (by omega)).trans (if_neg (by omega)))))
                      have e1 : (vx_does M (vc_F (W p)) (vc_F (W (p + 1))).i p (vc_A I L 12)).1 = (vx_jump (vc_F (W p)) (vc_A I L 12)).1 := by
                        rw [e]; by_cases c : (vx_jump (vc_F (W p)) (vc_A I L 12)).1 ≠ 0
                        · rw [if_pos c]
                        · rw [if_neg c]; exact (Classical.not_not.mp c).symm
                      rw [e1]
                      refine ⟨_, _, rfl, fun z => ?_, O9, vc_fr_mono F9 (fun p z => z.imp id (fun z => z.imp id (fun z => z.imp (fun z => by omega) id))), fun f => G9 f⟩
                      rw [e, if_neg (fun c => c z)]
                      exact vc_go_jp (T9 z) ((congrArg Int32.toInt hx9).trans (vl_I_int (by omega))) (vw_off3 (W p) p (by omega))
          · refine jv_Wp.bys (q := ((vl_I (vc_F (W p)).kind) = Int32.ofInt 6)) (fun h11 => ?_) (fun h11 => ?_)
            · refine jv_Wp.lift (fun _ Kz => jv_Ev.br jv_i25 (pc' := 106) (st' := []) rfl (by rw [h11]; rfl) Kz) ?_
              refine jv_Wp.lift (fun _ Kz => jv_Ev.steps jv_i25 2 (pc' := 116) (l' := [(0, .ref 10), (1, .ref pr), (2, .int (vl_I p)), (3, .long (W p))]) (st' := [.long (W p)]) rfl Kz) ?_
              refine jv_Wp.lift (fun _ Kz => jv_Ev.c jv_i25 (pc' := 119) (S' := [.int (vl_I (vc_F (W p)).code)]) jv_i80 [.long (W p)] rfl rfl rfl rfl rfl rfl (vw_m80 (W p)) rfl rfl Kz) ?_
              refine jv_Wp.bys (q := ((vl_I (vc_F (W p)).code) = Int32.ofInt 5)) (fun h12 => ?_) (fun h12 => ?_)
              · refine jv_Wp.lift (fun _ Kz => jv_Ev.br jv_i25 (pc' := 160) (st' := []) rfl (by rw [h12]; rfl) Kz) ?_
                refine jv_Wp.lift (fun _ Kz => jv_Ev.steps jv_i25 2 (pc' := 162) (l' := [(0, .ref 10), (1, .ref pr), (2, .int (vl_I p)), (3, .long (W p))]) (st' := [.ref 10, .ref 10]) rfl Kz) ?_
                refine jv_Wp.lift (fun _ Kz => jv_Ev.m jv_i25 (pc' := 165) (st' := [.int (I 10 9), .ref 10]) (G' := (jv_H K I L R)) rfl rfl (jv_m_getI hC.k rfl rfl rfl) Kz) ?_
                refine jv_Wp.lift (fun _ Kz => jv_Ev.steps jv_i25 1 (pc' := 166) (l' := [(0, .ref 10), (1, .ref pr), (2, .int (vl_I p)), (3, .long (W p))]) (st' := [.long (W p), .int (I 10 9), .ref 10]) rfl Kz) ?_
                refine jv_Wp.lift (fun _ Kz => jv_Ev.c jv_i25 (pc' := 169) (S' := [.int (jv_wfoffset (W p)), .int (I 10 9), .ref 10]) jv_i88 [.long (W p)] rfl rfl rfl rfl rfl rfl (jv_s88 (W p)) rfl rfl Kz) ?_
                refine jv_Wp.lift (fun _ Kz => jv_Ev.steps jv_i25 1 (pc' := 170) (l' := [(0, .ref 10), (1, .ref pr), (2, .int (vl_I p)), (3, .long (W p))]) (st' := [.int ((I 10 9) + (jv_wfoffset (W p))), .ref 10]) rfl Kz) ?_
                refine jv_Wp.lift (fun _ Kz => jv_Ev.m jv_i25 (pc' := 173) (st' := []) (G' := (jv_H K (jv_u I 10 9 ((I 10 9) + (jv_wfoffset (W p)))) L R)) rfl rfl (jv_m_putI hC.k rfl rfl rfl rfl) Kz) ?_
                refine jv_Wp.lift (fun _ Kz => jv_Ev.steps jv_i25 1 (pc' := 174) (l' := [(0, .ref 10), (1, .ref pr), (2, .int (vl_I p)), (3, .long (W p))]) (st' := [.int (0 : Int32)]) rfl Kz) ?_
                refine jv_Wp.of (jv_Ev.ret jv_i25 rfl rfl) ?_
                rw [hQ]
                have k0 : ¬ (vc_F (W p)).kind = 0 := fun z => h1 (by rw [z]; rfl)
                have k1 : ¬ (vc_F (W p)).kind = 1 := fun z => h2 (by rw [z]; rfl)
                have k2 : ¬ (vc_F (W p)).kind = 2 := fun z => h3 (by rw [z]; rfl)
                have k3 : ¬ (vc_F (W p)).kind = 3 := fun z => h4 (by rw [z]; rfl)
                have k5 : ¬ (vc_F (W p)).kind = 5 := fun z => h6 (by rw [z]; rfl)
                have k6 : (vc_F (W p)).kind = 6 := (vl_I_inj (by have := vw_k8 (W p); omega) (by decide)).mp h11
                have c5 : (vc_F (W p)).code = 5 := (vl_I_inj (Nat.lt_trans (Nat.mod_lt _ (by decide) : vc_N (W p) % 256 < 256) (by decide)) (by decide)).mp h12
                have kj : (vc_F (W p)).kind = 5 ∨ (vc_F (W p)).kind = 6 := by omega
                have e : (vx_does M (vc_F (W p)) (vc_F (W (p + 1))).i p (vc_A I L 12)) = (0, [((p : Int) + 1 + (vc_F (W p)).o, (vc_A I L 12))]) := (vx_doj kj).trans (if_pos c5)
                rw [e]
                refine ⟨_, _, rfl, fun _ => vc_go_one ?_ ((jv_u_j _ _ _ _ (by decide)).trans hx10) (vc_fr_A (vc_fr_u10 I L 9 _) (fun p z => by unfold vc_in at z; omega)) (vc_fr_okA (vc_fr_u10 I L 9 _) (fun p z => by unfold vc_in at z; omega) oa) (vc_fr_okA (vc_fr_u10 I L 9 _) (fun p z => by unfold vc_in at z; omega) oj), vc_fr_okA (vc_fr_u10 I L 9 _) (fun p z => by unfold vc_in at z; omega) oj, vc_fr_mono (vc_fr_u10 I L 9 _) (fun p z => Or.inr (Or.inr (Or.inr z))), fun f => ⟨jv_u_o _ _ _ _ (by decide), jv_u_o _ _ _ _ (by decide), fun z9 _ => jv_u_j _ _ _ _ z9⟩⟩
                rw [jv_u_self, hx9]; exact (by rw [← vl_I_p1]; exact vw_off3 (W p) p (by omega))
              · refine jv_Wp.bys (q := ((vl_I (vc_F (W p)).code) = Int32.ofInt 6)) (fun h13 => ?_) (fun h13 => ?_)
                · refine jv_Wp.lift (fun _ Kz => jv_Ev.br jv_i25 (pc' := 175) (st' := []) rfl (by rw [h13]; rfl) Kz) ?_
                  refine jv_Wp.lift (fun _ Kz => jv_Ev.steps jv_i25 2 (pc' := 177) (l' := [(0, .ref 10), (1, .ref pr), (2, .int (vl_I p)), (3, .long (W p))]) (st' := [.ref 10, .ref 10]) rfl Kz) ?_
                  refine jv_Wp.lift (fun _ Kz => jv_Ev.m jv_i25 (pc' := 180) (st' := [.int (I 10 9), .ref 10]) (G' := (jv_H K I L R)) rfl rfl (jv_m_getI hC.k rfl rfl rfl) Kz) ?_
                  refine jv_Wp.lift (fun _ Kz => jv_Ev.steps jv_i25 1 (pc' := 181) (l' := [(0, .ref 10), (1, .ref pr), (2, .int (vl_I p)), (3, .long (W p))]) (st' := [.long (W p), .int (I 10 9), .ref 10]) rfl Kz) ?_
                  refine jv_Wp.lift (fun _ Kz => jv_Ev.c jv_i25 (pc' := 184) (S' := [.int (jv_wfimmediate (W p)), .int (I 10 9), .ref 10]) jv_i89 [.long (W p)] rfl rfl rfl rfl rfl rfl (jv_s89 (W p)) rfl rfl Kz) ?_
                  refine jv_Wp.lift (fun _ Kz => jv_Ev.steps jv_i25 1 (pc' := 185) (l' := [(0, .ref 10), (1, .ref pr), (2, .int (vl_I p)), (3, .long (W p))]) (st' := [.int ((I 10 9) + (jv_wfimmediate (W p))), .ref 10]) rfl Kz) ?_
                  refine jv_Wp.lift (fun _ Kz => jv_Ev.m jv_i25 (pc' := 188) (st' := []) (G' := (jv_H K (jv_u I 10 9 ((I 10 9) + (jv_wfimmediate (W p)))) L R)) rfl rfl (jv_m_putI hC.k rfl rfl rfl rfl) Kz) ?_
                  refine jv_Wp.lift (fun _ Kz => jv_Ev.steps jv_i25 1 (pc' := 189) (l' := [(0, .ref 10), (1, .ref pr), (2, .int (vl_I p)), (3, .long (W p))]) (st' := [.int (0 : Int32)]) rfl Kz) ?_
                  refine jv_Wp.of (jv_Ev.ret jv_i25 rfl rfl) ?_
                  rw [hQ]
                  have k0 : ¬ (vc_F (W p)).kind = 0 := fun z => h1 (by rw [z]; rfl)
                  have k1 : ¬ (vc_F (W p)).kind = 1 := fun z => h2 (by rw [z]; rfl)
                  have k2 : ¬ (vc_F (W p)).kind = 2 := fun z => h3 (by rw [z]; rfl)
                  have k3 : ¬ (vc_F (W p)).kind = 3 := fun z => h4 (by rw [z]; rfl)
                  have k5 : ¬ (vc_F (W p)).kind = 5 := fun z => h6 (by rw [z]; rfl)
                  have k6 : (vc_F (W p)).kind = 6 := (vl_I_inj (by have := vw_k8 (W p); omega) (by decide)).mp h11
                  have c5 : ¬ (vc_F (W p)).code = 5 := fun z => h12 (by rw [z]; rfl)
                  have c6 : (vc_F (W p)).code = 6 := (vl_I_inj (Nat.lt_trans (Nat.mod_lt _ (by decide) : vc_N (W p) % 256 < 256) (by decide)) (by decide)).mp h13
                  have kj : (vc_F (W p)).kind = 5 ∨ (vc_F (W p)).kind = 6 := by omega
                  have e : (vx_does M (vc_F (W p)) (vc_F (W (p + 1))).i p (vc_A I L 12)) = (0, [((p : Int) + 1 + (vc_F (W p)).i, (vc_A I L 12))]) := (vx_doj kj).trans ((if_neg (by omega)).trans (if_pos c6))
                  rw [e]
                  refine ⟨_, _, rfl, fun _ => vc_go_one ?_ ((jv_u_j _ _ _ _ (by decide)).trans hx10) (vc_fr_A (vc_fr_u10 I L 9 _) (fun p z => by unfold vc_in at z; omega)) (vc_fr_okA (vc_fr_u10 I L 9 _) (fun p z => by unfold vc_in at z; omega) oa) (vc_fr_okA (vc_fr_u10 I L 9 _) (fun p z => by unfold vc_in at z; omega) oj), vc_fr_okA (vc_fr_u10 I L 9 _) (fun p z => by unfold vc_in at z; omega) oj, vc_fr_mono (vc_fr_u10 I L 9 _) (fun p z => Or.inr (Or.inr (Or.inr z))), fun f => ⟨jv_u_o _ _ _ _ (by decide), jv_u_o _ _ _ _ (by decide), fun z9 _ => jv_u_j _ _ _ _ z9⟩⟩
                  rw [jv_u_self, hx9]; exact (vw_imm3 (W p) p (by omega) (hgo c6))
                · refine jv_Wp.bys (q := ((vl_I (vc_F (W p)).code) = Int32.ofInt 133)) (fun h14 => ?_) (fun h14 => ?_)
                  · refine jv_Wp.lift (fun _ Kz => jv_Ev.br jv_i25 (pc' := 190) (st' := []) rfl (by rw [h14]; rfl) Kz) ?_
                    refine jv_Wp.lift (fun _ Kz => jv_Ev.steps jv_i25 2 (pc' := 192) (l' := [(0, .ref 10), (1, .ref pr), (2, .int (vl_I p)), (3, .long (W p))]) (st' := [.long (W p), .ref 10]) rfl Kz) ?_
                    refine jv_Wp.lift (fun _ Kz => jv_Ev.c jv_i25 (pc' := 195) (S' := [.int (jv_wfimmediate (W p)), .ref 10]) jv_i89 [.long (W p)] rfl rfl rfl rfl rfl rfl (jv_s89 (W p)) rfl rfl Kz) ?_
                    refine jv_Wp.lift (fun _ Kz => jv_Ev.steps jv_i25 1 (pc' := 196) (l' := [(0, .ref 10), (1, .ref pr), (2, .int (vl_I p)), (3, .long (W p))]) (st' := [.int (vl_I p), .int (jv_wfimmediate (W p)), .ref 10]) rfl Kz) ?_
                    have k0 : ¬ (vc_F (W p)).kind = 0 := fun z => h1 (by rw [z]; rfl)
                    have k1 : ¬ (vc_F (W p)).kind = 1 := fun z => h2 (by rw [z]; rfl)
                    have k2 : ¬ (vc_F (W p)).kind = 2 := fun z => h3 (by rw [z]; rfl)
                    have k3 : ¬ (vc_F (W p)).kind = 3 := fun z => h4 (by rw [z]; rfl)
                    have k5 : ¬ (vc_F (W p)).kind = 5 := fun z => h6 (by rw [z]; rfl)
                    have k6 : (vc_F (W p)).kind = 6 := (vl_I_inj (by have := vw_k8 (W p); omega) (by decide)).mp h11
                    have c5 : ¬ (vc_F (W p)).code = 5 := fun z => h12 (by rw [z]; rfl)
                    have c6 : ¬ (vc_F (W p)).code = 6 := fun z => h13 (by rw [z]; rfl)
                    have c133 : (vc_F (W p)).code = 133 := (vl_I_inj (Nat.lt_trans (Nat.mod_lt _ (by decide) : vc_N (W p) % 256 < 256) (by decide)) (by decide)).mp h14
                    obtain ⟨I10, L10, H10, T10, F10, G10⟩ := vc_call (I := I) (L := L) (R := R) (n := n) (sl := sl) (M := M) (jv_wfimmediate (W p)) p hC hM (by omega) hkn oa tA gA m6
                    refine jv_Wp.lift (fun _ Kz => jv_Ev.c jv_i25 (pc' := 199) (S' := [.int (vl_I (vx_call M (vc_F (W p)).i p (vc_A I L 12)).1)]) (G1 := (jv_H K I10 L10 R)) jv_i45 [.ref 10, .int (jv_wfimmediate (W p)), .int (vl_I p)] rfl rfl rfl rfl (jv_cal rfl (jv_H_at hC.k) rfl rfl) rfl H10 rfl rfl Kz) ?_
                    refine jv_Wp.of (jv_Ev.ret jv_i25 rfl rfl) ?_
                    rw [hQ]
                    have k0 : ¬ (vc_F (W p)).kind = 0 := fun z => h1 (by rw [z]; rfl)
                    have k1 : ¬ (vc_F (W p)).kind = 1 := fun z => h2 (by rw [z]; rfl)
                    have k2 : ¬ (vc_F (W p)).kind = 2 := fun z => h3 (by rw [z]; rfl)
                    have k3 : ¬ (vc_F (W p)).kind = 3 := fun z => h4 (by rw [z]; rfl)
                    have k5 : ¬ (vc_F (W p)).kind = 5 := fun z => h6 (by rw [z]; rfl)
                    have k6 : (vc_F (W p)).kind = 6 := (vl_I_inj (by have := vw_k8 (W p); omega) (by decide)).mp h11
                    have c5 : ¬ (vc_F (W p)).code = 5 := fun z => h12 (by rw [z]; rfl)
                    have c6 : ¬ (vc_F (W p)).code = 6 := fun z => h13 (by rw [z]; rfl)
                    have c133 : (vc_F (W p)).code = 133 := (vl_I_inj (Nat.lt_trans (Nat.mod_lt _ (by decide) : vc_N (W p) % 256 < 256) (by decide)) (by decide)).mp h14
                    have kj : (vc_F (W p)).kind = 5 ∨ (vc_F (W p)).kind = 6 := by omega
                    have e : (vx_does M (vc_F (W p)) (vc_F (W (p + 1))).i p (vc_A I L 12)) = vx_one (vx_call M (vc_F (W p)).i p (vc_A I L 12)) (p + 1) := (vx_doj kj).trans ((if_neg (by omega)).trans ((if_neg (by omega)).trans (if_pos c133)))
                    rw [e, vx_one1]
                    exact ⟨_, _, rfl, fun z => vc_one T10 (((congrArg Int32.toInt (((F10 10 (by unfold vc_wk vc_in; omega)).1 9).trans hx9)).trans (vl_I_int (by omega))).trans (by omega)) (((F10 10 (by unfold vc_wk vc_in; omega)).1 10).trans hx10) (vc_fr_okA F10 (fun p z => by unfold vc_wk vc_in at *; omega) oj) ((vx_one1 _ _).trans z), vc_fr_okA F10 (fun p z => by unfold vc_wk vc_in at *; omega) oj, vc_fr_mono F10 (fun p z => z.elim Or.inl (fun z => Or.inr (Or.inr (Or.inl z)))), fun f => ⟨G10 f, (F10 89 (by unfold vc_wk vc_in; omega)).1 f, fun _ _ => (F10 10 (by unfold vc_wk vc_in; omega)).1 f⟩⟩
                  · refine jv_Wp.bys (q := ((vl_I (vc_F (W p)).code) = Int32.ofInt 149)) (fun h15 => ?_) (fun h15 => ?_)
                    · refine jv_Wp.lift (fun _ Kz => jv_Ev.br jv_i25 (pc' := 200) (st' := []) rfl (by rw [h15]; rfl) Kz) ?_
                      refine jv_Wp.lift (fun _ Kz => jv_Ev.steps jv_i25 2 (pc' := 202) (l' := [(0, .ref 10), (1, .ref pr), (2, .int (vl_I p)), (3, .long (W p))]) (st' := [.int (-1 : Int32), .ref 10]) rfl Kz) ?_
                      refine jv_Wp.lift (fun _ Kz => jv_Ev.m jv_i25 (pc' := 205) (st' := []) (G' := (jv_H K (jv_u I 10 9 (-1 : Int32)) L R)) rfl rfl (jv_m_putI hC.k rfl rfl rfl rfl) Kz) ?_
                      refine jv_Wp.lift (fun _ Kz => jv_Ev.steps jv_i25 3 (pc' := 209) (l' := [(0, .ref 10), (1, .ref pr), (2, .int (vl_I p)), (3, .long (W p))]) (st' := [.int (6 : Int32), .int (0 : Int32), .ref 10]) rfl Kz) ?_
                      obtain ⟨I11, L11, H11, ei11, el11⟩ := vc_numberIn (I := (jv_u I 10 9 (-1 : Int32))) (L := L) (R := R) (n := n) (sl := sl) 0 6 hC (by decide) (vc_fr_okA (vc_fr_u10 I L 9 _) (fun p z => by unfold vc_in at z; omega) oa)
                      rw [ei11, el11, vc_fr_A (vc_fr_u10 I L 9 _) (fun p z => by unfold vc_in at z; omega)] at H11
                      refine jv_Wp.lift (fun _ Kz => jv_Ev.c jv_i25 (pc' := 212) (S' := [.int (vl_I (vx_isnum (vc_A I L 12) 0 6))]) jv_i40 [.ref 10, .int (0 : Int32), .int (6 : Int32)] rfl rfl rfl rfl (jv_cal rfl (jv_H_at hC.k) rfl rfl) rfl H11 rfl rfl Kz) ?_
                      refine jv_Wp.of (jv_Ev.ret jv_i25 rfl rfl) ?_
                      rw [hQ]
                      have k0 : ¬ (vc_F (W p)).kind = 0 := fun z => h1 (by rw [z]; rfl)
                      have k1 : ¬ (vc_F (W p)).kind = 1 := fun z => h2 (by rw [z]; rfl)
                      have k2 : ¬ (vc_F (W p)).kind = 2 := fun z => h3 (by rw [z]; rfl)
                      have k3 : ¬ (vc_F (W p)).kind = 3 := fun z => h4 (by rw [z]; rfl)
                      have k5 : ¬ (vc_F (W p)).kind = 5 := fun z => h6 (by rw [z]; rfl)
                      have k6 : (vc_F (W p)).kind = 6 := (vl_I_inj (by have := vw_k8 (W p); omega) (by decide)).mp h11
                      have c5 : ¬ (vc_F (W p)).code = 5 := fun z => h12 (by rw [z]; rfl)
                      have c6 : ¬ (vc_F (W p)).code = 6 := fun z => h13 (by rw [z]; rfl)
                      have c133 : ¬ (vc_F (W p)).code = 133 := fun z => h14 (by rw [z]; rfl)
                      have c149 : (vc_F (W p)).code = 149 := (vl_I_inj (Nat.lt_trans (Nat.mod_lt _ (by decide) : vc_N (W p) % 256 < 256) (by decide)) (by decide)).mp h15
                      have kj : (vc_F (W p)).kind = 5 ∨ (vc_F (W p)).kind = 6 := by omega
                      have e : (vx_does M (vc_F (W p)) (vc_F (W (p + 1))).i p (vc_A I L 12)) = (vx_isnum (vc_A I L 12) 0 6, []) := (vx_doj kj).trans ((if_neg (by omega)).trans ((if_neg (by omega)).trans ((if_neg (by omega)).trans (if_pos c149))))
                      rw [e]
                      exact ⟨_, _, rfl, fun _ => vc_go_none (jv_u_self _ _ _ _) ((jv_u_j _ _ _ _ (by decide)).trans hx10) (vc_fr_okA (vc_fr_u10 I L 9 _) (fun p z => by unfold vc_in at z; omega) oa) (vc_fr_okA (vc_fr_u10 I L 9 _) (fun p z => by unfold vc_in at z; omega) oj), vc_fr_okA (vc_fr_u10 I L 9 _) (fun p z => by unfold vc_in at z; omega) oj, vc_fr_mono (vc_fr_u10 I L 9 _) (fun p z => Or.inr (Or.inr (Or.inr z))), fun f => ⟨jv_u_o _ _ _ _ (by decide), jv_u_o _ _ _ _ (by decide), fun z9 _ => jv_u_j _ _ _ _ z9⟩⟩
                    · refine jv_Wp.lift (fun _ Kz => jv_Ev.br jv_i25 (pc' := 213) (st' := []) rfl (jv_lsw_def (List.forall_mem_cons.mpr ⟨(jv_ne_toInt (k := 5) h12), List.forall_mem_cons.mpr ⟨(jv_ne_toInt (k := 6) h13), List.forall_mem_cons.mpr ⟨(jv_ne_toInt (k := 133) h14), List.forall_mem_cons.mpr ⟨(jv_ne_toInt (k := 149) h15), fun _ h => absurd h List.not_mem_nil⟩⟩⟩⟩)) Kz) ?_
                      refine jv_Wp.lift (fun _ Kz => jv_Ev.steps jv_i25 3 (pc' := 216) (l' := [(0, .ref 10), (1, .ref pr), (2, .int (vl_I p)), (3, .long (W p))]) (st' := [.long (W p), .int (vl_I p), .ref 10]) rfl Kz) ?_
                      have k0 : ¬ (vc_F (W p)).kind = 0 := fun z => h1 (by rw [z]; rfl)
                      have k1 : ¬ (vc_F (W p)).kind = 1 := fun z => h2 (by rw [z]; rfl)
                      have k2 : ¬ (vc_F (W p)).kind = 2 := fun z => h3 (by rw [z]; rfl)
                      have k3 : ¬ (vc_F (W p)).kind = 3 := fun z => h4 (by rw [z]; rfl)
                      have k5 : ¬ (vc_F (W p)).kind = 5 := fun z => h6 (by rw [z]; rfl)
                      have k6 : (vc_F (W p)).kind = 6 := (vl_I_inj (by have := vw_k8 (W p); omega) (by decide)).mp h11
                      have c5 : ¬ (vc_F (W p)).code = 5 := fun z => h12 (by rw [z]; rfl)
                      have c6 : ¬ (vc_F (W p)).code = 6 := fun z => h13 (by rw [z]; rfl)
                      have c133 : ¬ (vc_F (W p)).code = 133 := fun z => h14 (by rw [z]; rfl)
                      have c149 : ¬ (vc_F (W p)).code = 149 := fun z => h15 (by rw [z]; rfl)
                      rcases Bool.eq_false_or_eq_true (vc_F (W p)).bit3 with hb | hb
                      · obtain ⟨I12, L12, H12, T12, O12, F12, G12⟩ := vc_jumpR (I := I) (L := L) (R := R) (n := n) (sl := sl) (W p) p hC hct hcv hst hov hb oa oj pA
                        refine jv_Wp.lift (fun _ Kz => jv_Ev.c jv_i25 (pc' := 219) (S' := [.int (vl_I (vx_jump (vc_F (W p)) (vc_A I L 12)).1)]) (G1 := (jv_H K I12 L12 R)) jv_i41 [.ref 10, .int (vl_I p), .long (W p)] rfl rfl rfl rfl (jv_cal rfl (jv_H_at hC.k) rfl rfl) rfl H12 rfl rfl Kz) ?_
                        refine jv_Wp.of (jv_Ev.ret jv_i25 rfl rfl) ?_
                        rw [hQ]
                        have k0 : ¬ (vc_F (W p)).kind = 0 := fun z => h1 (by rw [z]; rfl)
                        have k1 : ¬ (vc_F (W p)).kind = 1 := fun z => h2 (by rw [z]; rfl)
                        have k2 : ¬ (vc_F (W p)).kind = 2 := fun z => h3 (by rw [z]; rfl)
                        have k3 : ¬ (vc_F (W p)).kind = 3 := fun z => h4 (by rw [z]; rfl)
                        have k5 : ¬ (vc_F (W p)).kind = 5 := fun z => h6 (by rw [z]; rfl)
                        have k6 : (vc_F (W p)).kind = 6 := (vl_I_inj (by have := vw_k8 (W p); omega) (by decide)).mp h11
                        have c5 : ¬ (vc_F (W p)).code = 5 := fun z => h12 (by rw [z]; rfl)
                        have c6 : ¬ (vc_F (W p)).code = 6 := fun z => h13 (by rw [z]; rfl)
                        have c133 : ¬ (vc_F (W p)).code = 133 := fun z => h14 (by rw [z]; rfl)
                        have c149 : ¬ (vc_F (W p)).code = 149 := fun z => h15 (by rw [z]; rfl)
                        have kj : (vc_F (W p)).kind = 5 ∨ (vc_F (W p)).kind = 6 := by omega
                        have e : (vx_does M (vc_F (W p)) (vc_F (W (p + 1))).i p (vc_A I L 12)) = (if (vx_jump (vc_F (W p)) (vc_A I L 12)).1 ≠ 0 then ((vx_jump (vc_F (W p)) (vc_A I L 12)).1, []) else (0, (match (vx_jump (vc_F (W p)) (vc_A I L 12)).2.1 with | some B => [((p : Int) + 1, B)] | none => []) ++ (match (vx_jump (vc_F (W p)) (vc_A I L 12)).2.2 with | some B => [((p : Int) + 1 + (vc_F (W p)).o, B)] | none => []))) := (vx_doj kj).trans ((if_neg (by omega)).trans ((if_neg (by omega)).trans ((if_neg (by omega)).trans (if_neg (by omega)))))
                        have e1 : (vx_does M (vc_F (W p)) (vc_F (W (p + 1))).i p (vc_A I L 12)).1 = (vx_jump (vc_F (W p)) (vc_A I L 12)).1 := by
                          rw [e]; by_cases c : (vx_jump (vc_F (W p)) (vc_A I L 12)).1 ≠ 0
                          · rw [if_pos c]
                          · rw [if_neg c]; exact (Classical.not_not.mp c).symm
                        rw [e1]
                        refine ⟨_, _, rfl, fun z => ?_, O12, vc_fr_mono F12 (fun p z => z.imp id (fun z => z.imp id (fun z => z.imp (fun z => by omega) id))), fun f => G12 f⟩
                        rw [e, if_neg (fun c => c z)]
                        exact vc_go_jp (T12 z) ((congrArg Int32.toInt hx9).trans (vl_I_int (by omega))) (vw_off3 (W p) p (by omega))
                      · obtain ⟨I13, L13, H13, T13, O13, F13, G13⟩ := vc_jumpI (I := I) (L := L) (R := R) (n := n) (sl := sl) (W p) p hC hct hcv hst hov hb oa oj pA
                        refine jv_Wp.lift (fun _ Kz => jv_Ev.c jv_i25 (pc' := 219) (S' := [.int (vl_I (vx_jump (vc_F (W p)) (vc_A I L 12)).1)]) (G1 := (jv_H K I13 L13 R)) jv_i41 [.ref 10, .int (vl_I p), .long (W p)] rfl rfl rfl rfl (jv_cal rfl (jv_H_at hC.k) rfl rfl) rfl H13 rfl rfl Kz) ?_
                        refine jv_Wp.of (jv_Ev.ret jv_i25 rfl rfl) ?_
                        rw [hQ]
                        have k0 : ¬ (vc_F (W p)).kind = 0 := fun z => h1 (by rw [z]; rfl)
                        have k1 : ¬ (vc_F (W p)).kind = 1 := fun z => h2 (by rw [z]; rfl)
                        have k2 : ¬ (vc_F (W p)).kind = 2 := fun z => h3 (by rw [z]; rfl)
                        have k3 : ¬ (vc_F (W p)).kind = 3 := fun z => h4 (by rw [z]; rfl)
                        have k5 : ¬ (vc_F (W p)).kind = 5 := fun z => h6 (by rw [z]; rfl)
                        have k6 : (vc_F (W p)).kind = 6 := (vl_I_inj (by have := vw_k8 (W p); omega) (by decide)).mp h11
                        have c5 : ¬ (vc_F (W p)).code = 5 := fun z => h12 (by rw [z]; rfl)
                        have c6 : ¬ (vc_F (W p)).code = 6 := fun z => h13 (by rw [z]; rfl)
                        have c133 : ¬ (vc_F (W p)).code = 133 := fun z => h14 (by rw [z]; rfl)
                        have c149 : ¬ (vc_F (W p)).code = 149 := fun z => h15 (by rw [z]; rfl)
                        have kj : (vc_F (W p)).kind = 5 ∨ (vc_F (W p)).kind = 6 := by omega
                        have e : (vx_does M (vc_F (W p)) (vc_F (W (p + 1))).i p (vc_A I L 12)) = (if (vx_jump (vc_F (W p)) (vc_A I L 12)).1 ≠ 0 then ((vx_jump (vc_F (W p)) (vc_A I L 12)).1, []) else (0, (match (vx_jump (vc_F (W p)) (vc_A I L 12)).2.1 with | some B => [((p : Int) + 1, B)] | none => []) ++ (match (vx_jump (vc_F (W p)) (vc_A I L 12)).2.2 with | some B => [((p : Int) + 1 + (vc_F (W p)).o, B)] | none => []))) := (vx_doj kj).trans ((if_neg (by omega)).trans ((if_neg (by omega)).trans ((if_neg (by omega)).trans (if_neg (by omega)))))
                        have e1 : (vx_does M (vc_F (W p)) (vc_F (W (p + 1))).i p (vc_A I L 12)).1 = (vx_jump (vc_F (W p)) (vc_A I L 12)).1 := by
                          rw [e]; by_cases c : (vx_jump (vc_F (W p)) (vc_A I L 12)).1 ≠ 0
                          · rw [if_pos c]
                          · rw [if_neg c]; exact (Classical.not_not.mp c).symm
                        rw [e1]
                        refine ⟨_, _, rfl, fun z => ?_, O13, vc_fr_mono F13 (fun p z => z.imp id (fun z => z.imp id (fun z => z.imp (fun z => by omega) id))), fun f => G13 f⟩
                        rw [e, if_neg (fun c => c z)]
                        exact vc_go_jp (T13 z) ((congrArg Int32.toInt hx9).trans (vl_I_int (by omega))) (vw_off3 (W p) p (by omega))
            · refine jv_Wp.lift (fun _ Kz => jv_Ev.br jv_i25 (pc' := 109) (st' := []) rfl (jv_tsw_def (fun i hi h => by match i, hi, h with 
                    | 0, _, h => exact absurd h (jv_ne_toInt (k := 0) h1) 
                    | 1, _, h => exact absurd h (jv_ne_toInt (k := 1) h2) 
                    | 2, _, h => exact absurd h (jv_ne_toInt (k := 2) h3) 
                    | 3, _, h => exact absurd h (jv_ne_toInt (k := 3) h4) 
                    | 4, _, _ => rfl 
                    | 5, _, h => exact absurd h (jv_ne_toInt (k := 5) h6) 
                    | 6, _, h => exact absurd h (jv_ne_toInt (k := 6) h11) 
                    | i + 7, hi, _ => exact absurd hi (by simp)) rfl) Kz) ?_
              refine jv_Wp.lift (fun _ Kz => jv_Ev.steps jv_i25 2 (pc' := 111) (l' := [(0, .ref 10), (1, .ref pr), (2, .int (vl_I p)), (3, .long (W p))]) (st' := [.long (W p), .ref 10]) rfl Kz) ?_
              have k0 : ¬ (vc_F (W p)).kind = 0 := fun z => h1 (by rw [z]; rfl)
              have k1 : ¬ (vc_F (W p)).kind = 1 := fun z => h2 (by rw [z]; rfl)
              have k2 : ¬ (vc_F (W p)).kind = 2 := fun z => h3 (by rw [z]; rfl)
              have k3 : ¬ (vc_F (W p)).kind = 3 := fun z => h4 (by rw [z]; rfl)
              have k5 : ¬ (vc_F (W p)).kind = 5 := fun z => h6 (by rw [z]; rfl)
              have k6 : ¬ (vc_F (W p)).kind = 6 := fun z => h11 (by rw [z]; rfl)
              have kr : (vc_F (W p)).kind = 4 ∨ (vc_F (W p)).kind = 7 := by omega
              rcases Bool.eq_false_or_eq_true (vc_F (W p)).bit3 with hb | hb
              · obtain ⟨I14, L14, H14, T14, F14, G14⟩ := vc_reckonR (I := I) (L := L) (R := R) (n := n) (sl := sl) (W p) hC hf kr oa tA fA hb
                refine jv_Wp.lift (fun _ Kz => jv_Ev.c jv_i25 (pc' := 114) (S' := [.int (vl_I (vx_arith (vc_F (W p)) (vc_A I L 12)).1)]) (G1 := (jv_H K I14 L14 R)) jv_i28 [.ref 10, .long (W p)] rfl rfl rfl rfl (jv_cal rfl (jv_H_at hC.k) rfl rfl) rfl H14 rfl rfl Kz) ?_
                refine jv_Wp.of (jv_Ev.ret jv_i25 rfl rfl) ?_
                rw [hQ]
                have k0 : ¬ (vc_F (W p)).kind = 0 := fun z => h1 (by rw [z]; rfl)
                have k1 : ¬ (vc_F (W p)).kind = 1 := fun z => h2 (by rw [z]; rfl)
                have k2 : ¬ (vc_F (W p)).kind = 2 := fun z => h3 (by rw [z]; rfl)
                have k3 : ¬ (vc_F (W p)).kind = 3 := fun z => h4 (by rw [z]; rfl)
                have k5 : ¬ (vc_F (W p)).kind = 5 := fun z => h6 (by rw [z]; rfl)
                have k6 : ¬ (vc_F (W p)).kind = 6 := fun z => h11 (by rw [z]; rfl)
                have e := vx_do4 (M := M) (f := (vc_F (W p))) (i2 := (vc_F (W (p + 1))).i) (p := p) (A := (vc_A I L 12)) kr
                rw [e, vx_one1]
                exact ⟨_, _, rfl, fun z => vc_one T14 (((congrArg Int32.toInt (((F14 10 (by unfold vc_wk vc_in; omega)).1 9).trans hx9)).trans (vl_I_int (by omega))).trans (by omega)) (((F14 10 (by unfold vc_wk vc_in; omega)).1 10).trans hx10) (vc_fr_okA F14 (fun p z => by unfold vc_wk vc_in at *; omega) oj) ((vx_one1 _ _).trans z), vc_fr_okA F14 (fun p z => by unfold vc_wk vc_in at *; omega) oj, vc_fr_mono F14 (fun p z => z.elim Or.inl (fun z => Or.inr (Or.inr (Or.inl z)))), fun f => ⟨G14 f, (F14 89 (by unfold vc_wk vc_in; omega)).1 f, fun _ _ => (F14 10 (by unfold vc_wk vc_in; omega)).1 f⟩⟩
              · obtain ⟨I15, L15, H15, T15, F15, G15⟩ := vc_reckonI (I := I) (L := L) (R := R) (n := n) (sl := sl) (W p) hC hf kr oa tA fA hb
                refine jv_Wp.lift (fun _ Kz => jv_Ev.c jv_i25 (pc' := 114) (S' := [.int (vl_I (vx_arith (vc_F (W p)) (vc_A I L 12)).1)]) (G1 := (jv_H K I15 L15 R)) jv_i28 [.ref 10, .long (W p)] rfl rfl rfl rfl (jv_cal rfl (jv_H_at hC.k) rfl rfl) rfl H15 rfl rfl Kz) ?_
                refine jv_Wp.of (jv_Ev.ret jv_i25 rfl rfl) ?_
                rw [hQ]
                have k0 : ¬ (vc_F (W p)).kind = 0 := fun z => h1 (by rw [z]; rfl)
                have k1 : ¬ (vc_F (W p)).kind = 1 := fun z => h2 (by rw [z]; rfl)
                have k2 : ¬ (vc_F (W p)).kind = 2 := fun z => h3 (by rw [z]; rfl)
                have k3 : ¬ (vc_F (W p)).kind = 3 := fun z => h4 (by rw [z]; rfl)
                have k5 : ¬ (vc_F (W p)).kind = 5 := fun z => h6 (by rw [z]; rfl)
                have k6 : ¬ (vc_F (W p)).kind = 6 := fun z => h11 (by rw [z]; rfl)
                have e := vx_do4 (M := M) (f := (vc_F (W p))) (i2 := (vc_F (W (p + 1))).i) (p := p) (A := (vc_A I L 12)) kr
                rw [e, vx_one1]
                exact ⟨_, _, rfl, fun z => vc_one T15 (((congrArg Int32.toInt (((F15 10 (by unfold vc_wk vc_in; omega)).1 9).trans hx9)).trans (vl_I_int (by omega))).trans (by omega)) (((F15 10 (by unfold vc_wk vc_in; omega)).1 10).trans hx10) (vc_fr_okA F15 (fun p z => by unfold vc_wk vc_in at *; omega) oj) ((vx_one1 _ _).trans z), vc_fr_okA F15 (fun p z => by unfold vc_wk vc_in at *; omega) oj, vc_fr_mono F15 (fun p z => z.elim Or.inl (fun z => Or.inr (Or.inr (Or.inl z)))), fun f => ⟨G15 f, (F15 89 (by unfold vc_wk vc_in; omega)).1 f, fun _ _ => (F15 10 (by unfold vc_wk vc_in; omega)).1 f⟩⟩